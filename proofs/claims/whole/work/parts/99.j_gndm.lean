/-! ===== the ground: values shown, the reference; what a report tells of a request ===== -/
theorem z11 : (1 : Int32) &&& 1 = nI 1 := by decide
theorem showA_M {μ : Mem} {sh : Nat → Nat → Int32} {c pl n : Nat} {bs : List Nat} (h : ShwM μ sh) (hb : Seg μ 161 (200 * c) bs) (hc : c < 2) (hl : bs.length ≤ 200) (h15 : 15 ≤ bs.length) (hpl : pl = 13 ∨ pl = 14) (hn : n < 256) : wp (f347 (nI (200 * c + pl + 1)) (nI n) (nI (200 * c + bs.length - 2)) (nI (w4l bs 9)) μ) (fun m => ShwM m (shN sh bs pl n) ∧ Fr (fun c _ => 218 ≤ c ∧ c ≤ 220) μ m) := by
  have g0 := gl_161
  have g1 := gl_218
  have g2 := gl_219
  have g3 := gl_220
  unfold f347 l347_3
  rw [i_0]
  refine wp_for (fun i m => (nI (200 * c + pl + 1), nI n, nI (200 * c + bs.length - 2), nI (w4l bs 9), nI i, m)) (fun i m => ShwM m (shN sh bs pl i) ∧ Fr (fun c _ => 218 ≤ c ∧ c ≤ 220) μ m) n (by omega) μ _ rfl ⟨h, Fr.rf⟩ (fun self i m hi ⟨x1, x2⟩ hk => ?_) (fun self m ⟨x1, x2⟩ => ?_)
  · have hb2 : Seg m 161 (200 * c) bs := ⟨fun j hj => by rw [x2.1 _ _ (by omega)]; exact hb.1 j hj, hb.2⟩
    unfold b347_3 c347_63 c347_102
    dsimp only [nm]
    rw [if_neg (fun z => by have := (nI_leI (by omega) (by omega)).mp z; omega), i_1, i_5, pk_mul, nI_add, nI_add]
    by_cases q : pl + 5 * i + 8 ≤ bs.length
    · have bp := hb.get (pl + 1 + 5 * i)
      generalize ep : bs.getD (pl + 1 + 5 * i) 0 = p at bp
      have eld : ldA 161 (nI (200 * c + pl + 1 + 5 * i)) m = some (nI p) := by
        rw [show 200 * c + pl + 1 + 5 * i = 200 * c + (pl + 1 + 5 * i) by omega, ldB hb2 hc hl (by omega), ep]
      have nxt : ∀ m2, ShwM m2 (shU (shN sh bs pl i) p (nI (w4l bs (pl + 2 + 5 * i))) (nI (w4l bs 9))) → Fr (fun c _ => 218 ≤ c ∧ c ≤ 220) m m2 → wp (self (nI (200 * c + pl + 1), nI n, nI (200 * c + bs.length - 2), nI (w4l bs 9), nI i + nI 1, m2)) (fun m => ShwM m (shN sh bs pl n) ∧ Fr (fun c _ => 218 ≤ c ∧ c ≤ 220) μ m) := by
        intro m2 a1 a2
        rw [nI_add]
        refine hk m2 ⟨?_, x2.tr' a2⟩
        rw [shN, if_pos q, ep]
        exact a1
      rw [if_neg (fun z => by have := (nI_ltI (by omega) (by omega)).mp z; omega), eld, Option.bind_some, i_24]
      unfold shU at nxt
      by_cases q1 : 24 ≤ p
      · rw [if_pos ((nI_leI (by omega) (by omega)).mpr q1)]
        rw [if_pos q1] at nxt
        exact nxt m x1 Fr.rf
      · have e0 : m.1 218 p = shN sh bs pl i p 0 := x1 p (by omega) 0 (by omega)
        have e2 : m.1 220 p = shN sh bs pl i p 2 := x1 p (by omega) 2 (by omega)
        rw [if_neg q1] at nxt
        rw [if_neg (fun z => q1 ((nI_leI (by omega) (by omega)).mp z)), ldA_N (by omega), Option.bind_some, e0]
        have st : ∀ k : Mem → Option Mem, (stZ 218 (nI p) (nI 1) m).bind (fun m1 => (f314 161 (nI (200 * c + pl + 1 + 5 * i + 1)) m1).bind fun r3 => (stA 219 (nI p) r3.2 r3.1).bind fun m5 => (stA 220 (nI p) (nI (w4l bs 9)) m5).bind fun m7 => k m7) = k (setI (setI (setI m 218 p (nI 1)) 219 p (nI (w4l bs (pl + 2 + 5 * i)))) 220 p (nI (w4l bs 9))) := by
          intro k
          have hb3 : Seg (setI m 218 p (nI 1)) 161 (200 * c) bs := ⟨fun j hj => by rw [rdI, if_neg (by omega)]; exact hb2.1 j hj, hb.2⟩
          rw [stZ_N (by omega), Option.bind_some, show nI 1 &&& 1 = nI 1 from z11, show 200 * c + pl + 1 + 5 * i + 1 = 200 * c + (pl + 2 + 5 * i) by omega, foB hb3 hc hl (by omega), Option.bind_some, stA_N (by omega), Option.bind_some, stA_N (by omega), Option.bind_some]
        rw [nI_add, i_0]
        by_cases q0 : shN sh bs pl i p 0 = nI 0
        · rw [if_pos q0, st]
          rw [if_pos (Or.inl q0)] at nxt
          exact nxt _ (((x1.up (k := 0) rfl).up (k := 1) rfl).up (k := 2) rfl) (((Fr.sI (by omega)).pI (by omega)).pI (by omega))
        · rw [if_neg q0, ldA_N (by omega), Option.bind_some, e2]
          by_cases q2 : shN sh bs pl i p 2 ≤ nI (w4l bs 9)
          · rw [if_neg (Int32.not_lt.mpr q2), st]
            rw [if_pos (Or.inr q2)] at nxt
            exact nxt _ (((x1.up (k := 0) rfl).up (k := 1) rfl).up (k := 2) rfl) (((Fr.sI (by omega)).pI (by omega)).pI (by omega))
          · rw [if_pos (Int32.not_le.mp q2)]
            rw [if_neg (fun z => z.elim q0 q2)] at nxt
            exact nxt m x1 Fr.rf
    · rw [if_pos ((nI_ltI (by omega) (by omega)).mpr (by omega))]
      refine wp_some ⟨?_, x2⟩
      rw [shN_stop q n (by omega)]
      exact x1
  · unfold b347_3
    rw [if_pos ((nI_leI (by omega) (by omega)).mpr (Nat.le_refl _))]
    exact wp_some ⟨x1, x2⟩
/-! what a report tells -/
def tld (s : Nat) : Nat := if s = 1 then 5 else if s = 2 then 6 else if s = 3 then 7 else if s = 4 then 8 else if s = 7 then 9 else if s = 8 then 10 else 0
def tlf (s : Nat) : Nat := if s = 2 ∨ s = 4 ∨ s = 8 then 1 else 0
def lrD (t w : Nat) : Nat := (t + 16383 - w % 16384) % 16384
def lrn (t : Nat) (q : Nat → Rq) (bs : List Nat) : Nat → Rq := if tld (bs.getD 8 0) = 0 then q else if bs.length < 17 + tlf (bs.getD 8 0) then q else if lrD t (w2 bs 13) < t ∧ lrD t (w2 bs 13) < 64 then upL q ((t - 1 - lrD t (w2 bs 13)) % 64) (nI (tld (bs.getD 8 0)), nI (if tlf (bs.getD 8 0) = 1 then bs.getD 15 0 else 0), (q ((t - 1 - lrD t (w2 bs 13)) % 64)).2.2) else q
def To (μ : Mem) : Prop := ∀ i, μ.1 100001 i = gtab1.getD i 0
theorem To.fr {μ m : Mem} {P : Nat → Nat → Prop} (h : To μ) (ho : Fr P μ m) (h1 : ∀ k, ¬ P 100001 k) : To m := fun i => by rw [ho.1 100001 i (h1 i)]; exact h i
theorem tl_C {μ : Mem} {b : Nat} {bs : List Nat} (hT : To μ) (hb : Byt μ b bs) : f94 b μ = if tld (bs.getD 8 0) = 0 then some μ else c94_40 b (nI (tld (bs.getD 8 0))) (nI (tlf (bs.getD 8 0))) μ := by
  have hs := hb.get 8
  have g := gl_100001
  unfold f94
  rw [i_8, at_ok hb (k := 8) (by omega), Option.bind_some]
  dsimp only
  generalize bs.getD 8 0 = s at hs
  rw [g]
  by_cases q : 9 ≤ s
  · rw [if_pos ((nI_leI (by omega) (by omega)).mpr q), show tld s = 0 by unfold tld; rw [if_neg (by omega), if_neg (by omega), if_neg (by omega), if_neg (by omega), if_neg (by omega), if_neg (by omega)], if_pos rfl]
    unfold c94_24 c94_39 c94_40
    rw [if_pos (show (-1 : Int32) < 0 by decide), if_pos (show (-1 : Int32) < 0 by decide)]
  · rw [if_neg (fun z => q ((nI_leI (by omega) (by omega)).mp z)), ldA_N (by omega), Option.bind_some, hT s]
    have : s = 0 ∨ s = 1 ∨ s = 2 ∨ s = 3 ∨ s = 4 ∨ s = 5 ∨ s = 6 ∨ s = 7 ∨ s = 8 := by omega
    have no : ∀ m, c94_24 b (-1) m = some m := by
      intro m
      unfold c94_24 c94_39 c94_40
      rw [if_pos (show (-1 : Int32) < 0 by decide), if_pos (show (-1 : Int32) < 0 by decide)]
    rcases this with rfl | rfl | rfl | rfl | rfl | rfl | rfl | rfl | rfl
    · rw [if_pos (by decide)]; exact no μ
    · rw [if_neg (by decide)]; unfold c94_24 c94_39; rw [if_neg (by decide), if_neg (by decide)]; rfl
    · rw [if_neg (by decide)]; unfold c94_24; rw [if_neg (by decide), if_pos (by decide)]; rfl
    · rw [if_neg (by decide)]; unfold c94_24 c94_39; rw [if_neg (by decide), if_neg (by decide)]; rfl
    · rw [if_neg (by decide)]; unfold c94_24; rw [if_neg (by decide), if_pos (by decide)]; rfl
    · rw [if_pos (by decide)]; exact no μ
    · rw [if_pos (by decide)]; exact no μ
    · rw [if_neg (by decide)]; unfold c94_24 c94_39; rw [if_neg (by decide), if_neg (by decide)]; rfl
    · rw [if_neg (by decide)]; unfold c94_24; rw [if_neg (by decide), if_pos (by decide)]; rfl
theorem tl_M {μ : Mem} {s : Nat} {v2 v3 : Int32} (hs : s < 256) : f348 (nI s) v2 v3 μ = if tld s = 0 then some μ else c348_56 (nI s) v2 v3 (nI (tlf s)) μ := by
  have no : ∀ s : Nat, s ≠ 1 → s ≠ 2 → s ≠ 3 → s ≠ 4 → s ≠ 7 → s ≠ 8 → s < 256 → f348 (nI s) v2 v3 μ = some μ := by
    intro s h1 h2 h3 h4 h7 h8 hs
    unfold f348 c348_21 c348_44
    rw [i_2, i_4, i_8, i_1, i_3, i_7, if_neg (fun z => h2 ((nI_eq (by omega) (by omega)).mp z)), if_neg (fun z => h4 ((nI_eq (by omega) (by omega)).mp z)), if_neg (fun z => h8 ((nI_eq (by omega) (by omega)).mp z)), if_neg (fun z => h1 ((nI_eq (by omega) (by omega)).mp z)), if_neg (fun z => h3 ((nI_eq (by omega) (by omega)).mp z)), if_neg (fun z => h7 ((nI_eq (by omega) (by omega)).mp z))]
    rw [if_pos rfl, if_pos rfl]
  by_cases h1 : s = 1
  · subst h1
    rw [if_neg (by decide)]
    unfold f348 c348_21 c348_39 c348_44
    rw [if_neg (by decide), if_neg (by decide), if_neg (by decide), if_pos (by decide), if_pos (by decide), if_neg (by decide)]
    rfl
  by_cases h2 : s = 2
  · subst h2
    rw [if_neg (by decide)]
    unfold f348 c348_16 c348_21 c348_44
    rw [if_pos (by decide), if_neg (by decide), if_neg (by decide), if_neg (by decide), if_neg (by decide)]
    rfl
  by_cases h3 : s = 3
  · subst h3
    rw [if_neg (by decide)]
    unfold f348 c348_21 c348_39 c348_44
    rw [if_neg (by decide), if_neg (by decide), if_neg (by decide), if_neg (by decide), if_pos (by decide), if_pos (by decide), if_neg (by decide)]
    rfl
  by_cases h4 : s = 4
  · subst h4
    rw [if_neg (by decide)]
    unfold f348 c348_16 c348_21 c348_44
    rw [if_neg (by decide), if_pos (by decide), if_neg (by decide), if_neg (by decide), if_neg (by decide), if_neg (by decide)]
    rfl
  by_cases h7 : s = 7
  · subst h7
    rw [if_neg (by decide)]
    unfold f348 c348_21 c348_39 c348_44
    rw [if_neg (by decide), if_neg (by decide), if_neg (by decide), if_neg (by decide), if_neg (by decide), if_pos (by decide), if_pos (by decide), if_neg (by decide)]
    rfl
  by_cases h8 : s = 8
  · subst h8
    rw [if_neg (by decide)]
    unfold f348 c348_16 c348_21 c348_44
    rw [if_neg (by decide), if_neg (by decide), if_pos (by decide), if_neg (by decide), if_neg (by decide), if_neg (by decide), if_neg (by decide)]
    rfl
  rw [no s h1 h2 h3 h4 h7 h8 hs, if_pos (by unfold tld; rw [if_neg h1, if_neg h2, if_neg h3, if_neg h4, if_neg h7, if_neg h8])]
theorem tlf_lt (s : Nat) : tlf s < 2 := by unfold tlf; split <;> omega
theorem tld_lt (s : Nat) : tld s < 11 := by
  unfold tld
  repeat' split
  all_goals omega
theorem big32 (t : Nat) : nI t = nI (t + 4294967296) := by
  rw [← nI_add, show nI 4294967296 = 0 from rfl, Int32.add_zero]
theorem lrD_C {t w : Nat} (hw : w < 65536) : (nI t - nI 1 - nI w) &&& nI 16383 = nI (lrD t w) := by
  rw [big32 t, pk_sub (by omega), pk_sub (by omega), an_16383]
  unfold lrD
  congr 1
  omega
theorem sub2N (t d : Nat) : nI t - nI 1 - nI d = nI t - nI (1 + d) := by
  rw [← nI_add, Int32.sub_eq_add_neg, Int32.sub_eq_add_neg, Int32.sub_eq_add_neg, Int32.neg_add, Int32.add_assoc, Int32.sub_eq_add_neg]
theorem ReqC.st2 {μ : Mem} {t j : Nat} {q : Nat → Rq} {v w : Int32} (h : ReqC μ t q) (hj : j < 64) : ReqC (setI (setI μ 24 j v) 25 j w) t (upL q j (v, w, (q j).2.2)) := by
  refine ⟨by simp (disch := omega) only [i_0, i_1, i_2, i_3, i_4, i_5, i_6, i_7, i_8, i_9, i_10, i_11, i_12, i_13, i_14, i_15, i_16, i_17, i_18, i_19, i_20, i_21, i_22, i_23, i_24, i_25, i_26, i_27, i_31, i_32, i_40, i_42, i_45, i_48, i_51, i_52, i_56, i_58, i_59, i_60, i_61, i_62, i_63, i_64, i_85, i_90, i_100, i_112, i_120, i_121, i_127, i_128, i_130, i_144, i_171, i_192, i_193, i_197, i_200, i_207, i_235, i_240, i_248, i_252, i_254, i_255, i_256, i_512, i_544, i_768, i_769, i_793, i_1000, i_1023, i_1024, i_1200, i_1538, i_1541, i_1545, i_2046, i_2047, i_2049, i_2060, i_2736, i_2737, i_2817, i_2818, i_2819, i_2820, i_2821, i_2831, i_2832, i_3077, i_3085, i_3843, i_3849, i_3851, i_3852, i_4129, i_4353, i_4865, i_5121, i_5122, i_5123, i_6156, i_8192, i_12288, i_16383, i_32000, i_33280, i_49152, i_53247, i_60304, i_64000, i_64512, i_65521, i_65535, i_449838109, nI_add, pk_mul, pk_sub, nI_mm, nI_leI, nI_ltI, nI_eq, pk_div, jrem_N, jshl_N, jshr_N, jushr_N, jmin_N, jmax_N, an_1, an_3, an_7, an_15, an_31, an_63, an_127, an_255, an_1023, an_2047, an_16383, an_65535, nm, pfI, rdI, rdW, rdL, rdI2, rdW2, ldA_N, stA_N, stB_N, stZ_N, pfZ_0, pfZ_1, rtZ_0, rtZ_1, acp_N, Option.bind_some, wp_some_iff, true_and, and_true, false_and, and_false, or_true, true_or, or_false, false_or, not_true_eq_false, not_false_eq_true, if_true, if_false, if_pos, if_neg, lt_sub, le_sub, sub_lt3, sub_le3, Option.bind_assoc, h.1], h.2.1, fun i hi => ?_⟩
  have := h.2.2 i hi
  by_cases e : i = j
  · subst e
    simp (disch := omega) only [i_0, i_1, i_2, i_3, i_4, i_5, i_6, i_7, i_8, i_9, i_10, i_11, i_12, i_13, i_14, i_15, i_16, i_17, i_18, i_19, i_20, i_21, i_22, i_23, i_24, i_25, i_26, i_27, i_31, i_32, i_40, i_42, i_45, i_48, i_51, i_52, i_56, i_58, i_59, i_60, i_61, i_62, i_63, i_64, i_85, i_90, i_100, i_112, i_120, i_121, i_127, i_128, i_130, i_144, i_171, i_192, i_193, i_197, i_200, i_207, i_235, i_240, i_248, i_252, i_254, i_255, i_256, i_512, i_544, i_768, i_769, i_793, i_1000, i_1023, i_1024, i_1200, i_1538, i_1541, i_1545, i_2046, i_2047, i_2049, i_2060, i_2736, i_2737, i_2817, i_2818, i_2819, i_2820, i_2821, i_2831, i_2832, i_3077, i_3085, i_3843, i_3849, i_3851, i_3852, i_4129, i_4353, i_4865, i_5121, i_5122, i_5123, i_6156, i_8192, i_12288, i_16383, i_32000, i_33280, i_49152, i_53247, i_60304, i_64000, i_64512, i_65521, i_65535, i_449838109, nI_add, pk_mul, pk_sub, nI_mm, nI_leI, nI_ltI, nI_eq, pk_div, jrem_N, jshl_N, jshr_N, jushr_N, jmin_N, jmax_N, an_1, an_3, an_7, an_15, an_31, an_63, an_127, an_255, an_1023, an_2047, an_16383, an_65535, nm, pfI, rdI, rdW, rdL, rdI2, rdW2, ldA_N, stA_N, stB_N, stZ_N, pfZ_0, pfZ_1, rtZ_0, rtZ_1, acp_N, Option.bind_some, wp_some_iff, true_and, and_true, false_and, and_false, or_true, true_or, or_false, false_or, not_true_eq_false, not_false_eq_true, if_true, if_false, if_pos, if_neg, lt_sub, le_sub, sub_lt3, sub_le3, Option.bind_assoc, upL_s]
    exact this.2.2
  · rw [upL_o e]
    simp (disch := omega) only [i_0, i_1, i_2, i_3, i_4, i_5, i_6, i_7, i_8, i_9, i_10, i_11, i_12, i_13, i_14, i_15, i_16, i_17, i_18, i_19, i_20, i_21, i_22, i_23, i_24, i_25, i_26, i_27, i_31, i_32, i_40, i_42, i_45, i_48, i_51, i_52, i_56, i_58, i_59, i_60, i_61, i_62, i_63, i_64, i_85, i_90, i_100, i_112, i_120, i_121, i_127, i_128, i_130, i_144, i_171, i_192, i_193, i_197, i_200, i_207, i_235, i_240, i_248, i_252, i_254, i_255, i_256, i_512, i_544, i_768, i_769, i_793, i_1000, i_1023, i_1024, i_1200, i_1538, i_1541, i_1545, i_2046, i_2047, i_2049, i_2060, i_2736, i_2737, i_2817, i_2818, i_2819, i_2820, i_2821, i_2831, i_2832, i_3077, i_3085, i_3843, i_3849, i_3851, i_3852, i_4129, i_4353, i_4865, i_5121, i_5122, i_5123, i_6156, i_8192, i_12288, i_16383, i_32000, i_33280, i_49152, i_53247, i_60304, i_64000, i_64512, i_65521, i_65535, i_449838109, nI_add, pk_mul, pk_sub, nI_mm, nI_leI, nI_ltI, nI_eq, pk_div, jrem_N, jshl_N, jshr_N, jushr_N, jmin_N, jmax_N, an_1, an_3, an_7, an_15, an_31, an_63, an_127, an_255, an_1023, an_2047, an_16383, an_65535, nm, pfI, rdI, rdW, rdL, rdI2, rdW2, ldA_N, stA_N, stB_N, stZ_N, pfZ_0, pfZ_1, rtZ_0, rtZ_1, acp_N, Option.bind_some, wp_some_iff, true_and, and_true, false_and, and_false, or_true, true_or, or_false, false_or, not_true_eq_false, not_false_eq_true, if_true, if_false, if_pos, if_neg, lt_sub, le_sub, sub_lt3, sub_le3, Option.bind_assoc]
    exact this
theorem ReqM.st2 {μ : Mem} {t j : Nat} {q : Nat → Rq} {v w : Int32} (h : ReqM μ t q) (hj : j < 64) : ReqM (setI (setI μ 152 j v) 153 j w) t (upL q j (v, w, (q j).2.2)) := by
  refine ⟨by simp (disch := omega) only [i_0, i_1, i_2, i_3, i_4, i_5, i_6, i_7, i_8, i_9, i_10, i_11, i_12, i_13, i_14, i_15, i_16, i_17, i_18, i_19, i_20, i_21, i_22, i_23, i_24, i_25, i_26, i_27, i_31, i_32, i_40, i_42, i_45, i_48, i_51, i_52, i_56, i_58, i_59, i_60, i_61, i_62, i_63, i_64, i_85, i_90, i_100, i_112, i_120, i_121, i_127, i_128, i_130, i_144, i_171, i_192, i_193, i_197, i_200, i_207, i_235, i_240, i_248, i_252, i_254, i_255, i_256, i_512, i_544, i_768, i_769, i_793, i_1000, i_1023, i_1024, i_1200, i_1538, i_1541, i_1545, i_2046, i_2047, i_2049, i_2060, i_2736, i_2737, i_2817, i_2818, i_2819, i_2820, i_2821, i_2831, i_2832, i_3077, i_3085, i_3843, i_3849, i_3851, i_3852, i_4129, i_4353, i_4865, i_5121, i_5122, i_5123, i_6156, i_8192, i_12288, i_16383, i_32000, i_33280, i_49152, i_53247, i_60304, i_64000, i_64512, i_65521, i_65535, i_449838109, nI_add, pk_mul, pk_sub, nI_mm, nI_leI, nI_ltI, nI_eq, pk_div, jrem_N, jshl_N, jshr_N, jushr_N, jmin_N, jmax_N, an_1, an_3, an_7, an_15, an_31, an_63, an_127, an_255, an_1023, an_2047, an_16383, an_65535, nm, pfI, rdI, rdW, rdL, rdI2, rdW2, ldA_N, stA_N, stB_N, stZ_N, pfZ_0, pfZ_1, rtZ_0, rtZ_1, acp_N, Option.bind_some, wp_some_iff, true_and, and_true, false_and, and_false, or_true, true_or, or_false, false_or, not_true_eq_false, not_false_eq_true, if_true, if_false, if_pos, if_neg, lt_sub, le_sub, sub_lt3, sub_le3, Option.bind_assoc, h.1], h.2.1, fun i hi => ?_⟩
  have := h.2.2 i hi
  by_cases e : i = j
  · subst e
    simp (disch := omega) only [i_0, i_1, i_2, i_3, i_4, i_5, i_6, i_7, i_8, i_9, i_10, i_11, i_12, i_13, i_14, i_15, i_16, i_17, i_18, i_19, i_20, i_21, i_22, i_23, i_24, i_25, i_26, i_27, i_31, i_32, i_40, i_42, i_45, i_48, i_51, i_52, i_56, i_58, i_59, i_60, i_61, i_62, i_63, i_64, i_85, i_90, i_100, i_112, i_120, i_121, i_127, i_128, i_130, i_144, i_171, i_192, i_193, i_197, i_200, i_207, i_235, i_240, i_248, i_252, i_254, i_255, i_256, i_512, i_544, i_768, i_769, i_793, i_1000, i_1023, i_1024, i_1200, i_1538, i_1541, i_1545, i_2046, i_2047, i_2049, i_2060, i_2736, i_2737, i_2817, i_2818, i_2819, i_2820, i_2821, i_2831, i_2832, i_3077, i_3085, i_3843, i_3849, i_3851, i_3852, i_4129, i_4353, i_4865, i_5121, i_5122, i_5123, i_6156, i_8192, i_12288, i_16383, i_32000, i_33280, i_49152, i_53247, i_60304, i_64000, i_64512, i_65521, i_65535, i_449838109, nI_add, pk_mul, pk_sub, nI_mm, nI_leI, nI_ltI, nI_eq, pk_div, jrem_N, jshl_N, jshr_N, jushr_N, jmin_N, jmax_N, an_1, an_3, an_7, an_15, an_31, an_63, an_127, an_255, an_1023, an_2047, an_16383, an_65535, nm, pfI, rdI, rdW, rdL, rdI2, rdW2, ldA_N, stA_N, stB_N, stZ_N, pfZ_0, pfZ_1, rtZ_0, rtZ_1, acp_N, Option.bind_some, wp_some_iff, true_and, and_true, false_and, and_false, or_true, true_or, or_false, false_or, not_true_eq_false, not_false_eq_true, if_true, if_false, if_pos, if_neg, lt_sub, le_sub, sub_lt3, sub_le3, Option.bind_assoc, upL_s]
    exact this.2.2
  · rw [upL_o e]
    simp (disch := omega) only [i_0, i_1, i_2, i_3, i_4, i_5, i_6, i_7, i_8, i_9, i_10, i_11, i_12, i_13, i_14, i_15, i_16, i_17, i_18, i_19, i_20, i_21, i_22, i_23, i_24, i_25, i_26, i_27, i_31, i_32, i_40, i_42, i_45, i_48, i_51, i_52, i_56, i_58, i_59, i_60, i_61, i_62, i_63, i_64, i_85, i_90, i_100, i_112, i_120, i_121, i_127, i_128, i_130, i_144, i_171, i_192, i_193, i_197, i_200, i_207, i_235, i_240, i_248, i_252, i_254, i_255, i_256, i_512, i_544, i_768, i_769, i_793, i_1000, i_1023, i_1024, i_1200, i_1538, i_1541, i_1545, i_2046, i_2047, i_2049, i_2060, i_2736, i_2737, i_2817, i_2818, i_2819, i_2820, i_2821, i_2831, i_2832, i_3077, i_3085, i_3843, i_3849, i_3851, i_3852, i_4129, i_4353, i_4865, i_5121, i_5122, i_5123, i_6156, i_8192, i_12288, i_16383, i_32000, i_33280, i_49152, i_53247, i_60304, i_64000, i_64512, i_65521, i_65535, i_449838109, nI_add, pk_mul, pk_sub, nI_mm, nI_leI, nI_ltI, nI_eq, pk_div, jrem_N, jshl_N, jshr_N, jushr_N, jmin_N, jmax_N, an_1, an_3, an_7, an_15, an_31, an_63, an_127, an_255, an_1023, an_2047, an_16383, an_65535, nm, pfI, rdI, rdW, rdL, rdI2, rdW2, ldA_N, stA_N, stB_N, stZ_N, pfZ_0, pfZ_1, rtZ_0, rtZ_1, acp_N, Option.bind_some, wp_some_iff, true_and, and_true, false_and, and_false, or_true, true_or, or_false, false_or, not_true_eq_false, not_false_eq_true, if_true, if_false, if_pos, if_neg, lt_sub, le_sub, sub_lt3, sub_le3, Option.bind_assoc]
    exact this
theorem lrn_C {μ : Mem} {t b : Nat} {q : Nat → Rq} {bs : List Nat} (hT : To μ) (h : ReqC μ t q) (hb : Byt μ b bs) (h15 : 15 ≤ bs.length) (hl : bs.length ≤ 200) (hbb : 52 ≤ b) : wp (f94 b μ) (fun m => ReqC m t (lrn t q bs) ∧ Fr (fun c _ => c = 24 ∨ c = 25) μ m) := by
  have g1 := gl_24
  have g2 := gl_25
  have ht := h.2.1
  have f2 := tlf_lt (bs.getD 8 0)
  have d2 := tld_lt (bs.getD 8 0)
  have h1 := hb.1
  have wl := w2_lt (k := 13) hb.2.2.2
  have dl : lrD t (w2 bs 13) < 16384 := Nat.mod_lt _ (by omega)
  rw [tl_C hT hb]
  unfold lrn
  by_cases q1 : tld (bs.getD 8 0) = 0
  · rw [if_pos q1, if_pos q1]
    exact wp_some ⟨h, Fr.rf⟩
  · rw [if_neg q1, if_neg q1]
    generalize tld (bs.getD 8 0) = cd at q1 d2
    have e40 : c94_40 b (nI cd) (nI (tlf (bs.getD 8 0))) μ = c94_65 b (nI cd) (nI (tlf (bs.getD 8 0))) (nI (bs.length - 15)) (nI (2 + tlf (bs.getD 8 0))) μ := by
      unfold c94_40
      rw [if_neg (show ¬ nI cd < 0 from fun z => by have := (nI_ltI (a := cd) (b := 0) (by omega) (by omega)).mp z; omega), h1, i_2, i_13, pk_sub (by omega), pk_sub (by omega), show bs.length - 2 - 13 = bs.length - 15 by omega]
      have : tlf (bs.getD 8 0) = 0 ∨ tlf (bs.getD 8 0) = 1 := by omega
      rcases this with e | e
      · rw [e, if_pos (show nI 0 = 0 by decide)]
      · rw [e, if_neg (show ¬ nI 1 = 0 by decide)]; rfl
    rw [e40]
    unfold c94_65
    by_cases q2 : bs.length < 17 + tlf (bs.getD 8 0)
    · rw [if_pos q2, if_neg (fun z => by have := (nI_leI (by omega) (by omega)).mp z; omega)]
      exact wp_some ⟨h, Fr.rf⟩
    · rw [if_neg q2, if_pos ((nI_leI (by omega) (by omega)).mpr (by omega))]
      dsimp only [nm]
      rw [i_13, two_ok hb (k := 13) (by omega), Option.bind_some]
      dsimp only
      rw [show 256 * bs.getD 13 0 + bs.getD (13 + 1) 0 = w2 bs 13 from rfl, h.1, i_1, i_16383, lrD_C wl, sub2N]
      by_cases q3 : lrD t (w2 bs 13) < t
      · rw [pk_sub (by omega), show t - (1 + lrD t (w2 bs 13)) = t - 1 - lrD t (w2 bs 13) by omega, kept_C h (by omega), Option.bind_some]
        dsimp only
        by_cases q4 : lrD t (w2 bs 13) < 64
        · rw [decide_eq_true (show kpt t (t - 1 - lrD t (w2 bs 13)) by omega), if_neg (show ¬ nI (b2n true) = 0 by decide), i_63, an_63, stA_N (by omega), Option.bind_some, if_pos (show lrD t (w2 bs 13) < t ∧ lrD t (w2 bs 13) < 64 from ⟨q3, q4⟩)]
          have hj : (t - 1 - lrD t (w2 bs 13)) % 64 < 64 := Nat.mod_lt _ (by omega)
          generalize (t - 1 - lrD t (w2 bs 13)) % 64 = j at hj
          have : tlf (bs.getD 8 0) = 0 ∨ tlf (bs.getD 8 0) = 1 := by omega
          rcases this with e | e
          · rw [e, if_pos (show nI 0 = 0 by decide), if_neg (show ¬ 0 = 1 by decide)]
            unfold c94_139
            rw [stA_N (by omega), Option.bind_some]
            exact wp_some ⟨h.st2 hj, (Fr.sI (by omega)).pI (by omega)⟩
          · rw [e, if_neg (show ¬ nI 1 = 0 by decide), if_pos (show 1 = 1 from rfl), i_15, at_ok (hb.fr (P := fun c _ => c = 24) (Fr.sI rfl) (by omega) (fun k => by omega)) (k := 15) (by omega), Option.bind_some]
            unfold c94_139
            rw [stA_N (by omega), Option.bind_some]
            exact wp_some ⟨h.st2 hj, (Fr.sI (by omega)).pI (by omega)⟩
        · rw [if_neg (show ¬ (lrD t (w2 bs 13) < t ∧ lrD t (w2 bs 13) < 64) from fun z => q4 z.2), decide_eq_false (show ¬ kpt t (t - 1 - lrD t (w2 bs 13)) by omega), if_pos (show nI (b2n false) = 0 by decide)]
          exact wp_some ⟨h, Fr.rf⟩
      · rw [if_neg (show ¬ (lrD t (w2 bs 13) < t ∧ lrD t (w2 bs 13) < 64) from fun z => q3 z.1)]
        have e80 : f80 (nI t - nI (1 + lrD t (w2 bs 13))) μ = some (μ, nI 0) := by
          unfold f80
          exact if_pos ((sub_lt3 (c := 0) (by omega) (by omega) (by omega)).mpr (by omega))
        rw [e80, Option.bind_some]
        dsimp only
        rw [if_pos (show nI 0 = 0 by decide)]
        exact wp_some ⟨h, Fr.rf⟩
theorem lrnE_M {μ : Mem} {t s : Nat} {v7 : Int32} {c : Nat} {q : Nat → Rq} {bs : List Nat} (h : ReqM μ t q) (hb : Seg μ 161 (200 * c) bs) (hc : c < 2) (hl : bs.length ≤ 200) (hs : tld s ≠ 0) (h17 : 17 + tlf s ≤ bs.length) (hv : v7 = nI t - nI (1 + lrD t (w2 bs 13)) ∧ lrD t (w2 bs 13) < t ∧ lrD t (w2 bs 13) < 64 ∨ f288 v7 μ = some (μ, nI 0) ∧ ¬ (lrD t (w2 bs 13) < t ∧ lrD t (w2 bs 13) < 64)) : wp (c348_128 (nI s) (nI (200 * c + 13)) (nI (tlf s)) v7 μ) (fun m => ReqM m t (if lrD t (w2 bs 13) < t ∧ lrD t (w2 bs 13) < 64 then upL q ((t - 1 - lrD t (w2 bs 13)) % 64) (nI (tld s), nI (if tlf s = 1 then bs.getD 15 0 else 0), (q ((t - 1 - lrD t (w2 bs 13)) % 64)).2.2) else q) ∧ Fr (fun c _ => c = 152 ∨ c = 153) μ m) := by
  have g0 := gl_161
  have g1 := gl_152
  have g2 := gl_153
  have ht := h.2.1
  have f2 := tlf_lt s
  unfold c348_128
  rcases hv with ⟨rfl, q3, q4⟩ | ⟨e, q5⟩
  · rw [pk_sub (by omega), show t - (1 + lrD t (w2 bs 13)) = t - 1 - lrD t (w2 bs 13) by omega, kept_M h (by omega), Option.bind_some]
    dsimp only
    rw [decide_eq_true (show kpt t (t - 1 - lrD t (w2 bs 13)) by omega), if_neg (show ¬ nI (b2n true) = 0 by decide), i_64, jrem_N (by omega) (by omega) (by omega), if_pos (show lrD t (w2 bs 13) < t ∧ lrD t (w2 bs 13) < 64 from ⟨q3, q4⟩)]
    have hj : (t - 1 - lrD t (w2 bs 13)) % 64 < 64 := Nat.mod_lt _ (by omega)
    have key : ∀ cd : Int32, wp (c348_198 (nI (200 * c + 13)) (nI (tlf s)) (nI (t - 1 - lrD t (w2 bs 13))) (nI ((t - 1 - lrD t (w2 bs 13)) % 64)) cd μ) (fun m => ReqM m t (upL q ((t - 1 - lrD t (w2 bs 13)) % 64) (cd, nI (if tlf s = 1 then bs.getD 15 0 else 0), (q ((t - 1 - lrD t (w2 bs 13)) % 64)).2.2)) ∧ Fr (fun c _ => c = 152 ∨ c = 153) μ m) := by
      intro cd
      unfold c348_198 c348_225
      rw [stA_N (by omega), Option.bind_some, i_64, jrem_N (by omega) (by omega) (by omega)]
      generalize (t - 1 - lrD t (w2 bs 13)) % 64 = j at hj
      have : tlf s = 0 ∨ tlf s = 1 := by omega
      rcases this with e | e
      · rw [e, if_pos (show nI 0 = 0 by decide), if_neg (show ¬ 0 = 1 by decide), stA_N (by omega), Option.bind_some]
        exact wp_some ⟨h.st2 hj, (Fr.sI (by omega)).pI (by omega)⟩
      · have hb3 : Seg (setI μ 152 j cd) 161 (200 * c) bs := ⟨fun i hi => by rw [rdI, if_neg (by omega)]; exact hb.1 i hi, hb.2⟩
        rw [e, if_neg (show ¬ nI 1 = 0 by decide), if_pos (show 1 = 1 from rfl), i_2, nI_add, show 200 * c + 13 + 2 = 200 * c + 15 by omega, ldB hb3 hc hl (by omega), Option.bind_some, stA_N (by omega), Option.bind_some]
        exact wp_some ⟨h.st2 hj, (Fr.sI (by omega)).pI (by omega)⟩
    have hs' : s = 1 ∨ s = 2 ∨ s = 3 ∨ s = 4 ∨ s = 7 ∨ s = 8 := by
      unfold tld at hs
      by_cases h1 : s = 1
      · exact Or.inl h1
      by_cases h2 : s = 2
      · exact Or.inr (Or.inl h2)
      by_cases h3 : s = 3
      · exact Or.inr (Or.inr (Or.inl h3))
      by_cases h4 : s = 4
      · exact Or.inr (Or.inr (Or.inr (Or.inl h4)))
      by_cases h7 : s = 7
      · exact Or.inr (Or.inr (Or.inr (Or.inr (Or.inl h7))))
      by_cases h8 : s = 8
      · exact Or.inr (Or.inr (Or.inr (Or.inr (Or.inr h8))))
      rw [if_neg h1, if_neg h2, if_neg h3, if_neg h4, if_neg h7, if_neg h8] at hs
      exact absurd rfl hs
    rcases hs' with rfl | rfl | rfl | rfl | rfl | rfl
    · rw [if_pos (by decide)]; exact key _
    · rw [if_neg (by decide), if_pos (by decide)]; exact key _
    · rw [if_neg (by decide), if_neg (by decide), if_pos (by decide)]; exact key _
    · rw [if_neg (by decide), if_neg (by decide), if_neg (by decide), if_pos (by decide)]; exact key _
    · rw [if_neg (by decide), if_neg (by decide), if_neg (by decide), if_neg (by decide), if_pos (by decide)]; exact key _
    · rw [if_neg (by decide), if_neg (by decide), if_neg (by decide), if_neg (by decide), if_neg (by decide)]; exact key _
  · rw [e, Option.bind_some]
    dsimp only
    rw [if_pos (show nI 0 = 0 by decide), if_neg q5]
    exact wp_some ⟨h, Fr.rf⟩
theorem lrn_M {μ : Mem} {t c : Nat} {q : Nat → Rq} {bs : List Nat} (h : ReqM μ t q) (hb : Seg μ 161 (200 * c) bs) (hc : c < 2) (h15 : 15 ≤ bs.length) (hl : bs.length ≤ 200) : wp (f348 (nI (bs.getD 8 0)) (nI (200 * c + 13)) (nI (200 * c + bs.length - 2) - nI (200 * c + 13)) μ) (fun m => ReqM m t (lrn t q bs) ∧ Fr (fun c _ => c = 152 ∨ c = 153) μ m) := by
  have g0 := gl_161
  have ht := h.2.1
  have hs := hb.get 8
  have f2 := tlf_lt (bs.getD 8 0)
  have d2 := tld_lt (bs.getD 8 0)
  have wl := w2_lt (k := 13) hb.2
  have dl : lrD t (w2 bs 13) < 16384 := Nat.mod_lt _ (by omega)
  rw [tl_M hs, pk_sub (by omega), show 200 * c + bs.length - 2 - (200 * c + 13) = bs.length - 15 by omega]
  unfold lrn
  by_cases q1 : tld (bs.getD 8 0) = 0
  · rw [if_pos q1, if_pos q1]
    exact wp_some ⟨h, Fr.rf⟩
  · rw [if_neg q1, if_neg q1]
    have e56 : c348_56 (nI (bs.getD 8 0)) (nI (200 * c + 13)) (nI (bs.length - 15)) (nI (tlf (bs.getD 8 0))) μ = c348_67 (nI (bs.getD 8 0)) (nI (200 * c + 13)) (nI (tlf (bs.getD 8 0))) (nI (bs.length - 15)) (nI (2 + tlf (bs.getD 8 0))) μ := by
      unfold c348_56
      have : tlf (bs.getD 8 0) = 0 ∨ tlf (bs.getD 8 0) = 1 := by omega
      rcases this with e | e
      · rw [e, if_pos (show nI 0 = 0 by decide)]; rfl
      · rw [e, if_neg (show ¬ nI 1 = 0 by decide)]; rfl
    rw [e56]
    unfold c348_67
    by_cases q2 : bs.length < 17 + tlf (bs.getD 8 0)
    · rw [if_pos q2, if_neg (fun z => by have := (nI_leI (by omega) (by omega)).mp z; omega)]
      exact wp_some ⟨h, Fr.rf⟩
    · rw [if_neg q2, if_pos ((nI_leI (by omega) (by omega)).mpr (by omega)), woB hb hc hl (i := 13) (by omega), Option.bind_some]
      dsimp only [nm]
      rw [h.1, i_1, i_16383, an_16383]
      unfold l348_94
      have stp : ∃ N, N ≤ 64 ∧ N ≤ t ∧ (∀ i, i < N → i ≠ lrD t (w2 bs 13)) ∧ (N = lrD t (w2 bs 13) ∧ lrD t (w2 bs 13) < t ∧ lrD t (w2 bs 13) < 64 ∨ (N = t ∨ N = 64) ∧ ¬ (lrD t (w2 bs 13) < t ∧ lrD t (w2 bs 13) < 64)) := by
        by_cases z : lrD t (w2 bs 13) < t ∧ lrD t (w2 bs 13) < 64
        · exact ⟨lrD t (w2 bs 13), by omega, by omega, fun i hi => by omega, Or.inl ⟨rfl, z⟩⟩
        · by_cases z2 : t ≤ 64
          · exact ⟨t, z2, Nat.le_refl _, fun i hi e => z (by omega), Or.inr ⟨Or.inl rfl, z⟩⟩
          · exact ⟨64, by omega, by omega, fun i hi e => z (by omega), Or.inr ⟨Or.inr rfl, z⟩⟩
      obtain ⟨N, n1, n2, n3, n4⟩ := stp
      have mt : ∀ i, i < t → i < 64 → ((t - (1 + i)) % 16384 = w2 bs 13 % 16384 ↔ i = lrD t (w2 bs 13)) := by
        intro i hi h6
        unfold lrD
        omega
      refine wp_for (fun i m => (nI (bs.getD 8 0), nI (200 * c + 13), nI (tlf (bs.getD 8 0)), nI (w2 bs 13 % 16384), nI t - nI (1 + i), m)) (fun i m => m = μ) N (by omega) μ _ rfl rfl (fun self i m hi x hk => ?_) (fun self m x => ?_)
      · subst x
        unfold b348_94
        dsimp only [nm]
        rw [h.1, i_64, if_neg (show ¬ nI t - nI (1 + i) < 0 from fun z => by have := (sub_lt3 (c := 0) (by omega) (by omega) (by omega)).mp z; omega)]
        have c2 : ¬ nI t - nI (1 + i) < nI t - nI 64 := by
          rw [Int32.lt_iff_toInt_lt, pk_sub_toInt (by omega) (by omega), pk_sub_toInt (by omega) (by omega)]
          omega
        rw [if_neg c2, i_16383, pk_sub (by omega), an_16383, if_neg (fun z => n3 i hi ((mt i (by omega) (by omega)).mp ((nI_eq (by omega) (by omega)).mp z)))]
        have e1 : nI (t - (1 + i)) + (-1 : Int32) = nI t - nI (1 + (i + 1)) := by
          rw [← pk_sub (show 1 + i ≤ t by omega), show 1 + (i + 1) = (1 + i) + 1 by omega, ← nI_add (a := 1 + i), show (-1 : Int32) = -nI 1 by decide, Int32.sub_eq_add_neg, Int32.sub_eq_add_neg, Int32.neg_add, Int32.sub_eq_add_neg, Int32.add_assoc]
        rw [e1]
        exact hk m rfl
      · subst x
        unfold b348_94
        dsimp only [nm]
        have fin := lrnE_M (v7 := nI t - nI (1 + N)) h hb hc hl q1 (by omega) (by
          rcases n4 with ⟨a1, a2⟩ | ⟨a1, a2⟩
          · exact Or.inl ⟨by rw [a1], a2⟩
          · refine Or.inr ⟨?_, a2⟩
            by_cases e : N = t
            · unfold f288
              exact if_pos ((sub_lt3 (c := 0) (by omega) (by omega) (by omega)).mpr (by omega))
            · rw [pk_sub (by omega), kept_M h (by omega), decide_eq_false (by omega)]
              rfl)
        rw [h.1, i_64, i_16383]
        by_cases d1 : nI t - nI (1 + N) < 0
        · rw [if_pos d1]; exact fin
        · rw [if_neg d1]
          by_cases d2 : nI t - nI (1 + N) < nI t - nI 64
          · rw [if_pos d2]; exact fin
          · rw [if_neg d2]
            have nt : N < t := by
              by_cases e : N < t
              · exact e
              · exact absurd ((sub_lt3 (c := 0) (by omega) (by omega) (by omega)).mpr (by omega)) d1
            have n64 : N < 64 := by
              by_cases e : N < 64
              · exact e
              · exfalso
                apply d2
                rw [Int32.lt_iff_toInt_lt, pk_sub_toInt (by omega) (by omega), pk_sub_toInt (by omega) (by omega)]
                omega
            have eN : N = lrD t (w2 bs 13) := by
              rcases n4 with ⟨a1, _⟩ | ⟨a1, _⟩
              · exact a1
              · omega
            rw [if_pos (by rw [pk_sub (by omega), an_16383, (mt N nt n64).mpr eN])]
            exact fin
