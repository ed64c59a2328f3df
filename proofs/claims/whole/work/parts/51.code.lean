/-! ===== code ===== -/
theorem by4 {l : List Nat} (h : ∀ b, b ∈ l → b < 256) (k : Nat) : w4 (l.getD k 0) (l.getD (k + 1) 0) (l.getD (k + 2) 0) (l.getD (k + 3) 0) < 2 ^ 32 := by
  have h1 := getD_lt h k
  have h2 := getD_lt h (k + 1)
  have h3 := getD_lt h (k + 2)
  have h4 := getD_lt h (k + 3)
  unfold w4
  omega
/-- the number of eight bytes -/
def n8 (l : List Nat) : Nat := w4 (l.getD 0 0) (l.getD 1 0) (l.getD 2 0) (l.getD 3 0) * 2 ^ 32 + w4 (l.getD 4 0) (l.getD 5 0) (l.getD 6 0) (l.getD 7 0)
theorem n8_lt {l : List Nat} (h : ∀ b, b ∈ l → b < 256) : n8 l < 2 ^ 64 := by
  have h1 : w4 (l.getD 0 0) (l.getD 1 0) (l.getD 2 0) (l.getD 3 0) < 2 ^ 32 := by4 h 0
  have h2 : w4 (l.getD 4 0) (l.getD 5 0) (l.getD 6 0) (l.getD 7 0) < 2 ^ 32 := by4 h 4
  unfold n8
  omega
theorem n8_byte {l : List Nat} (h : ∀ b, b ∈ l → b < 256) : ∀ j, j < 8 → n8 l / 2 ^ (56 - 8 * j) % 256 = l.getD j 0 := by
  intro j hj
  have h0 := getD_lt h 0
  have h1 := getD_lt h 1
  have h2 := getD_lt h 2
  have h3 := getD_lt h 3
  have h4 := getD_lt h 4
  have h5 := getD_lt h 5
  have h6 := getD_lt h 6
  have h7 := getD_lt h 7
  unfold n8 w4
  have : j = 0 ∨ j = 1 ∨ j = 2 ∨ j = 3 ∨ j = 4 ∨ j = 5 ∨ j = 6 ∨ j = 7 := by omega
  rcases this with rfl | rfl | rfl | rfl | rfl | rfl | rfl | rfl <;> omega
theorem lo32 {a : Nat} (h : a < 2 ^ 32) : (nI a).toInt64 &&& 4294967295 = lN a := by
  apply Int64.toBitVec_inj.mp
  rw [Int64.toBitVec_and, Int32.toBitVec_toInt64]
  apply BitVec.eq_of_getLsbD_eq
  intro i hi
  rw [BitVec.getLsbD_and, BitVec.getLsbD_signExtend, show (nI a).toBitVec = BitVec.ofNat 32 a from rfl, show (lN a).toBitVec = BitVec.ofNat 64 a from rfl, BitVec.getLsbD_ofNat, BitVec.getLsbD_ofNat]
  have hm : (4294967295 : Int64).toBitVec.getLsbD i = decide (i < 32) := by
    have : ∀ i, i < 64 → (4294967295 : Int64).toBitVec.getLsbD i = decide (i < 32) := by decide +kernel
    exact this i hi
  rw [hm]
  by_cases e : i < 32
  · simp [e, hi]
  · have ht : a.testBit i = false := Nat.testBit_lt_two_pow (Nat.lt_of_lt_of_le h (Nat.pow_le_pow_right (by decide) (by omega)))
    simp [e, ht]
theorem hi32 {a : Nat} (h : a < 2 ^ 32) : jlshl (nI a).toInt64 (nI 32) = lN (a * 2 ^ 32) := by
  apply Int64.toBitVec_inj.mp
  rw [show jlshl (nI a).toInt64 (nI 32) = (nI a).toInt64 <<< (lN 32) from rfl, Int64.toBitVec_shiftLeft]
  rw [show ((lN 32).toBitVec.smod 64) = BitVec.ofNat 64 32 from by decide +kernel]
  apply BitVec.eq_of_getLsbD_eq
  intro i hi
  rw [Int32.toBitVec_toInt64, BitVec.shiftLeft_eq', BitVec.getLsbD_shiftLeft, BitVec.getLsbD_signExtend, show (nI a).toBitVec = BitVec.ofNat 32 a from rfl, show (lN (a * 2 ^ 32)).toBitVec = BitVec.ofNat 64 (a * 2 ^ 32) from rfl, BitVec.getLsbD_ofNat, show (BitVec.ofNat 64 32).toNat = 32 from rfl, BitVec.getLsbD_ofNat, Nat.testBit_mul_two_pow]
  by_cases e : i < 32
  · simp [e, show ¬ 32 ≤ i by omega]
  · simp [e, hi, show 32 ≤ i by omega, show i - 32 < 32 by omega]
    omega
theorem wrg_1 {n : Nat} : wrg n = 1 ↔ mnd n = none := by
  unfold wrg mnd
  by_cases e : syn n = 0
  · rw [if_pos e, if_pos e]; simp
  · rw [if_neg e, if_neg e]
    cases hf : fnd (syn n) with
    | none => simp
    | some i =>
      simp only [Option.map_some, reduceCtorEq, iff_false]
      rw [Nat.pow_succ]
      have := Nat.two_pow_pos i
      omega
theorem wrg_some {n : Nat} {q : Nat × Nat} (h : mnd n = some q) : n ^^^ wrg n = q.1 ∧ (q.2 = 0 ∧ wrg n = 0 ∨ q.2 = 1 ∧ wrg n ≠ 0) := by
  unfold mnd at h
  unfold wrg
  by_cases e : syn n = 0
  · rw [if_pos e] at h ⊢
    cases h
    exact ⟨Nat.xor_zero _, Or.inl ⟨rfl, rfl⟩⟩
  · rw [if_neg e] at h ⊢
    cases hf : fnd (syn n) with
    | none => rw [hf] at h; cases h
    | some i =>
      rw [hf] at h
      cases h
      have := Nat.two_pow_pos (i + 1)
      exact ⟨rfl, Or.inr ⟨rfl, by dsimp only; omega⟩⟩
theorem wrg_lt (n : Nat) : wrg n < 2 ^ 64 := by
  unfold wrg
  split
  · decide
  · cases hf : fnd (syn n) with
    | none => decide
    | some i =>
      have hi : i < 63 := List.mem_range.mp (List.mem_of_find?_eq_some hf)
      exact Nat.pow_lt_pow_right (by decide) (by omega)
theorem lg_eq0 {a b : Nat} (ha : a < 2 ^ 64) (hb : b < 2 ^ 64) : lg_cmp (lN a) (lN b) = 0 ↔ a = b := by
  unfold lg_cmp
  constructor
  · intro h
    by_cases e1 : lN a > lN b
    · rw [if_pos e1] at h
      exact absurd h (by decide)
    · rw [if_neg e1] at h
      by_cases e2 : lN a = lN b
      · have := congrArg (fun x => x.toBitVec.toNat) e2
        rwa [lN_nat ha, lN_nat hb] at this
      · rw [if_neg e2] at h
        exact absurd h (by decide)
  · intro h
    subst h
    simp
theorem lg_eq1 {a b : Nat} (ha : a < 2 ^ 64) (hb : b < 2 ^ 64) : lg_cmp (lN a) (lN b) = nI 0 ↔ a = b := lg_eq0 ha hb
/-- what becomes of the tape at code -/
def cTape (bs : List Nat) (what : Int32) : List Nat × Int32 :=
  if what = nI 0 then (if bs.length ≤ 112 then (unitL bs, nI (unitL bs).length) else ([], -nI 3))
  else if what = nI 1 then (if bs.length = 8 then (match mnd (n8 bs) with
    | some q => (sev q.1, nI 7)
    | none => ([], -nI 2)) else (bs, -nI 1))
  else (bs, -nI 1)
theorem sev_len (n : Nat) : (sev n).length = 7 := by simp [sev]
theorem code_C {μ : Mem} {bs : List Nat} (what : Int32) (h : Byt μ 1 bs) : wp (f201 what μ) (fun r => r.2 = (cTape bs what).2 ∧ Byt r.1 1 (cTape bs what).1 ∧ Fr (fun c _ => 1 ≤ c ∧ c ≤ 4) μ r.1) := by
  have hcap := h.cap
  have g2 := gl_2
  have g4 := gl_4
  have hb := h.2.2.2
  unfold f201 cTape
  rw [i_0, i_1]
  refine wp_if (fun q => ?_) (fun q => ?_)
  · rw [if_pos q]
    unfold f202
    simp (disch := omega) only [i_0, i_1, i_2, i_3, i_4, i_5, i_6, i_7, i_8, i_9, i_10, i_11, i_12, i_13, i_14, i_15, i_16, i_17, i_18, i_19, i_20, i_21, i_22, i_23, i_24, i_25, i_26, i_27, i_31, i_32, i_40, i_42, i_45, i_48, i_51, i_52, i_56, i_58, i_59, i_60, i_61, i_62, i_63, i_64, i_85, i_90, i_100, i_112, i_120, i_121, i_127, i_128, i_130, i_144, i_171, i_192, i_193, i_197, i_200, i_207, i_235, i_240, i_248, i_252, i_254, i_255, i_256, i_512, i_544, i_768, i_769, i_793, i_1000, i_1023, i_1024, i_1200, i_1538, i_1541, i_1545, i_2046, i_2047, i_2049, i_2060, i_2736, i_2737, i_2817, i_2818, i_2819, i_2820, i_2821, i_2831, i_2832, i_3077, i_3085, i_3843, i_3849, i_3851, i_3852, i_4129, i_4353, i_4865, i_5121, i_5122, i_5123, i_6156, i_8192, i_12288, i_16383, i_32000, i_33280, i_49152, i_53247, i_60304, i_64000, i_64512, i_65521, i_65535, i_449838109, nI_add, pk_mul, pk_sub, nI_mm, nI_leI, nI_ltI, nI_eq, pk_div, jrem_N, jshl_N, jshr_N, jushr_N, jmin_N, jmax_N, an_1, an_3, an_7, an_15, an_31, an_63, an_127, an_255, an_1023, an_2047, an_16383, an_65535, nm, pfI, rdI, rdW, rdL, rdI2, rdW2, ldA_N, stA_N, stB_N, stZ_N, pfZ_0, pfZ_1, rtZ_0, rtZ_1, acp_N, Option.bind_some, wp_some_iff, true_and, and_true, false_and, and_false, or_true, true_or, or_false, false_or, not_true_eq_false, not_false_eq_true, if_true, if_false, if_pos, if_neg, h.1]
    by_cases hl : bs.length ≤ 112
    · rw [if_pos hl, if_pos hl]
      refine wp_bind (P := fun r => r.2 = nI (unitL bs).length ∧ Byt r.1 1 (unitL bs) ∧ Fr (fun c _ => 1 ≤ c ∧ c ≤ 4) μ r.1) ?_ (fun r hr => wp_some hr)
      refine wp_bind (wrap_C (us := []) h (Or.inl (by omega)) (by show _ ≤ gln 4; omega) (by omega)) (fun m1 ⟨h1, h2⟩ => ?_)
      refine wp_bind (cl_ok 1 m1) (fun m2 ⟨h3, h4⟩ => ?_)
      have h5 : Byt m2 3 (unitL bs) := h1.fr h4 (by omega) (fun k => by omega)
      have hul := unitL_len bs
      refine wp_bind (putAll_ok h3 h5 (by show 0 + _ ≤ gln 2; omega)) (fun m3 ⟨h6, h7⟩ => wp_some ⟨?_, ?_, ?_⟩)
      · exact h6.1
      · exact h6
      · exact ((h2.tr h4 (P := fun c _ => 1 ≤ c ∧ c ≤ 4) (by intro c k h; omega) (by intro c k h; omega))).tr h7 (fun _ _ q => q) (by intro c k h; omega)
    · rw [if_neg hl, if_neg hl]
      unfold f204
      refine wp_bind (P := fun r => r.2 = -nI 3 ∧ Byt r.1 1 [] ∧ Fr (fun c _ => 1 ≤ c ∧ c ≤ 4) μ r.1) (wp_bind (P := fun r => r.2 = -nI 3 ∧ Byt r.1 1 [] ∧ Fr (fun c _ => 1 ≤ c ∧ c ≤ 4) μ r.1) (wp_bind (cl_ok 1 μ) (fun m ⟨h1, h2⟩ => wp_some ⟨rfl, h1, h2.mono (by intro c k h; omega)⟩)) (fun r hr => wp_some hr)) (fun r hr => wp_some hr)
  · rw [if_neg q]
    refine wp_if (fun q2 => ?_) (fun q2 => ?_)
    · rw [if_pos q2]
      unfold f203
      simp (disch := omega) only [i_0, i_1, i_2, i_3, i_4, i_5, i_6, i_7, i_8, i_9, i_10, i_11, i_12, i_13, i_14, i_15, i_16, i_17, i_18, i_19, i_20, i_21, i_22, i_23, i_24, i_25, i_26, i_27, i_31, i_32, i_40, i_42, i_45, i_48, i_51, i_52, i_56, i_58, i_59, i_60, i_61, i_62, i_63, i_64, i_85, i_90, i_100, i_112, i_120, i_121, i_127, i_128, i_130, i_144, i_171, i_192, i_193, i_197, i_200, i_207, i_235, i_240, i_248, i_252, i_254, i_255, i_256, i_512, i_544, i_768, i_769, i_793, i_1000, i_1023, i_1024, i_1200, i_1538, i_1541, i_1545, i_2046, i_2047, i_2049, i_2060, i_2736, i_2737, i_2817, i_2818, i_2819, i_2820, i_2821, i_2831, i_2832, i_3077, i_3085, i_3843, i_3849, i_3851, i_3852, i_4129, i_4353, i_4865, i_5121, i_5122, i_5123, i_6156, i_8192, i_12288, i_16383, i_32000, i_33280, i_49152, i_53247, i_60304, i_64000, i_64512, i_65521, i_65535, i_449838109, nI_add, pk_mul, pk_sub, nI_mm, nI_leI, nI_ltI, nI_eq, pk_div, jrem_N, jshl_N, jshr_N, jushr_N, jmin_N, jmax_N, an_1, an_3, an_7, an_15, an_31, an_63, an_127, an_255, an_1023, an_2047, an_16383, an_65535, nm, pfI, rdI, rdW, rdL, rdI2, rdW2, ldA_N, stA_N, stB_N, stZ_N, pfZ_0, pfZ_1, rtZ_0, rtZ_1, acp_N, Option.bind_some, wp_some_iff, true_and, and_true, false_and, and_false, or_true, true_or, or_false, false_or, not_true_eq_false, not_false_eq_true, if_true, if_false, if_pos, if_neg, h.1]
      by_cases hl : bs.length = 8
      · rw [if_pos hl, if_pos hl]
        have hn := n8_lt hb
        have b1 : w4 (bs.getD 0 0) (bs.getD 1 0) (bs.getD 2 0) (bs.getD 3 0) < 2 ^ 32 := by4 hb 0
        have b2 : w4 (bs.getD 4 0) (bs.getD 5 0) (bs.getD 6 0) (bs.getD 7 0) < 2 ^ 32 := by4 hb 4
        have c1 : w4 (bs.getD 0 0) (bs.getD 1 0) (bs.getD 2 0) (bs.getD 3 0) = n8 bs / 2 ^ 32 := by unfold n8; omega
        have c2 : w4 (bs.getD 4 0) (bs.getD 5 0) (bs.getD 6 0) (bs.getD 7 0) = n8 bs % 2 ^ 32 := by unfold n8; omega
        have e0 : f77 1 (nI 0) μ = some (μ, nI (n8 bs / 2 ^ 32)) := by rw [four_ok (k := 0) h (by omega), ← c1]
        have e4 : f77 1 (nI 4) μ = some (μ, nI (n8 bs % 2 ^ 32)) := by rw [four_ok (k := 4) h (by omega), ← c2]
        rw [e0, Option.bind_some]
        dsimp only
        rw [e4, Option.bind_some]
        dsimp only
        rw [hi32 (by omega), lo32 (by omega), g_or (k := 32) rfl (by omega) (by omega), Nat.div_add_mod']
        rw [wrong_C hn, Option.bind_some]
        dsimp only
        rw [show (1 : Int64) = lN 1 from rfl]
        simp only [lg_eq1 (wrg_lt (n8 bs)) (show 1 < 2 ^ 64 by decide), wrg_1]
        cases hm : mnd (n8 bs) with
        | none =>
          rw [if_pos rfl]
          unfold f204
          refine wp_bind (P := fun r => r.2 = -nI 2 ∧ Byt r.1 1 [] ∧ Fr (fun c _ => 1 ≤ c ∧ c ≤ 4) μ r.1) (wp_bind (P := fun r => r.2 = -nI 2 ∧ Byt r.1 1 [] ∧ Fr (fun c _ => 1 ≤ c ∧ c ≤ 4) μ r.1) (wp_bind (cl_ok 1 μ) (fun m ⟨h1, h2⟩ => wp_some ⟨rfl, h1, h2.mono (by intro c k h; omega)⟩)) (fun r hr => wp_some hr)) (fun r hr => wp_some hr)
        | some q =>
          rw [if_neg (by simp)]
          rw [lN_xor, (wrg_some hm).1]
          have hq : q.1 < 2 ^ 64 := by rw [← (wrg_some hm).1]; exact nxor_lt hn (wrg_lt _)
          refine wp_bind (P := fun r => r.2 = nI 7 ∧ Byt r.1 1 (sev q.1) ∧ Fr (fun c _ => 1 ≤ c ∧ c ≤ 4) μ r.1) (wp_bind (cl_ok 1 μ) (fun m ⟨h1, h2⟩ => ?_)) (fun r hr => wp_some hr)
          refine wp_bind (putSeven_ok h1 (by show 0 + 7 ≤ gln 2; omega) hq) (fun m2 ⟨h3, h4⟩ => wp_some ⟨?_, h3, (h2.tr' h4).mono (by intro c k h; omega)⟩)
          have := h3.1
          rw [List.nil_append, sev_len] at this
          exact this
      · rw [if_neg hl, if_neg hl]
        exact wp_some ⟨rfl, h, Fr.rf⟩
    · rw [if_neg q2]
      exact wp_some ⟨rfl, h, Fr.rf⟩
theorem MTape.fr {μ m : Mem} {bs : List Nat} {P : Nat → Nat → Prop} (h : MTape μ bs) (ho : Fr P μ m) (h1 : ¬ P 129 1) (h2 : ∀ i, ¬ P 130 i) : MTape m bs := ⟨by rw [ho.1 129 1 h1]; exact h.1, h.2.1, h.2.2.fr ho h2⟩
def qM (μ : Mem) (c : List Nat × Int32) (r : Mem × Int32) : Prop := r.2 = c.2 ∧ MTape r.1 c.1 ∧ Fr (fun c k => 130 ≤ c ∧ c ≤ 133 ∨ c = 129 ∧ k = 1) μ r.1
theorem code_M0 {μ : Mem} {bs : List Nat} (h : MTape μ bs) : wp (c251_25 (nI 0) μ) (qM μ (if bs.length ≤ 112 then (unitL bs, nI (unitL bs).length) else ([], -nI 3))) := by
  obtain ⟨h1, hcap, h3⟩ := h
  have hb := h3.2
  have g1 := gl_130
  have g2 := gl_133
  unfold c251_25
  rw [if_neg (by decide)]
  simp (disch := omega) only [i_0, i_1, i_2, i_3, i_4, i_5, i_6, i_7, i_8, i_9, i_10, i_11, i_12, i_13, i_14, i_15, i_16, i_17, i_18, i_19, i_20, i_21, i_22, i_23, i_24, i_25, i_26, i_27, i_31, i_32, i_40, i_42, i_45, i_48, i_51, i_52, i_56, i_58, i_59, i_60, i_61, i_62, i_63, i_64, i_85, i_90, i_100, i_112, i_120, i_121, i_127, i_128, i_130, i_144, i_171, i_192, i_193, i_197, i_200, i_207, i_235, i_240, i_248, i_252, i_254, i_255, i_256, i_512, i_544, i_768, i_769, i_793, i_1000, i_1023, i_1024, i_1200, i_1538, i_1541, i_1545, i_2046, i_2047, i_2049, i_2060, i_2736, i_2737, i_2817, i_2818, i_2819, i_2820, i_2821, i_2831, i_2832, i_3077, i_3085, i_3843, i_3849, i_3851, i_3852, i_4129, i_4353, i_4865, i_5121, i_5122, i_5123, i_6156, i_8192, i_12288, i_16383, i_32000, i_33280, i_49152, i_53247, i_60304, i_64000, i_64512, i_65521, i_65535, i_449838109, nI_add, pk_mul, pk_sub, nI_mm, nI_leI, nI_ltI, nI_eq, pk_div, jrem_N, jshl_N, jshr_N, jushr_N, jmin_N, jmax_N, an_1, an_3, an_7, an_15, an_31, an_63, an_127, an_255, an_1023, an_2047, an_16383, an_65535, nm, pfI, rdI, rdW, rdL, rdI2, rdW2, ldA_N, stA_N, stB_N, stZ_N, pfZ_0, pfZ_1, rtZ_0, rtZ_1, acp_N, Option.bind_some, wp_some_iff, true_and, and_true, false_and, and_false, or_true, true_or, or_false, false_or, not_true_eq_false, not_false_eq_true, if_true, if_false, if_pos, if_neg, h1]
  by_cases hl : bs.length ≤ 112
  · rw [if_pos hl, if_pos hl]
    refine wp_bind (unit_M h3 (by omega) hl (by omega)) (fun r ⟨e1, e2, e3⟩ => ?_)
    obtain ⟨m1, a1⟩ := r
    dsimp only at e1 e2 e3 ⊢
    subst e1
    have hul := unitL_len bs
    unfold l251_104
    generalize hU : unitL bs = U at *
    refine wp_for (fun i m => (nI i, m)) (fun i m => m.1 129 1 = nI U.length ∧ Seg m 133 0 U ∧ Seg m 130 0 (U.take i) ∧ Fr (fun c k => 130 ≤ c ∧ c ≤ 133 ∨ c = 129 ∧ k = 1) μ m) U.length (by omega) _ _ rfl ⟨by simp (disch := omega) only [i_0, i_1, i_2, i_3, i_4, i_5, i_6, i_7, i_8, i_9, i_10, i_11, i_12, i_13, i_14, i_15, i_16, i_17, i_18, i_19, i_20, i_21, i_22, i_23, i_24, i_25, i_26, i_27, i_31, i_32, i_40, i_42, i_45, i_48, i_51, i_52, i_56, i_58, i_59, i_60, i_61, i_62, i_63, i_64, i_85, i_90, i_100, i_112, i_120, i_121, i_127, i_128, i_130, i_144, i_171, i_192, i_193, i_197, i_200, i_207, i_235, i_240, i_248, i_252, i_254, i_255, i_256, i_512, i_544, i_768, i_769, i_793, i_1000, i_1023, i_1024, i_1200, i_1538, i_1541, i_1545, i_2046, i_2047, i_2049, i_2060, i_2736, i_2737, i_2817, i_2818, i_2819, i_2820, i_2821, i_2831, i_2832, i_3077, i_3085, i_3843, i_3849, i_3851, i_3852, i_4129, i_4353, i_4865, i_5121, i_5122, i_5123, i_6156, i_8192, i_12288, i_16383, i_32000, i_33280, i_49152, i_53247, i_60304, i_64000, i_64512, i_65521, i_65535, i_449838109, nI_add, pk_mul, pk_sub, nI_mm, nI_leI, nI_ltI, nI_eq, pk_div, jrem_N, jshl_N, jshr_N, jushr_N, jmin_N, jmax_N, an_1, an_3, an_7, an_15, an_31, an_63, an_127, an_255, an_1023, an_2047, an_16383, an_65535, nm, pfI, rdI, rdW, rdL, rdI2, rdW2, ldA_N, stA_N, stB_N, stZ_N, pfZ_0, pfZ_1, rtZ_0, rtZ_1, acp_N, Option.bind_some, wp_some_iff, true_and, and_true, false_and, and_false, or_true, true_or, or_false, false_or, not_true_eq_false, not_false_eq_true, if_true, if_false, if_pos, if_neg], e2.fr (P := fun c k => c = 129 ∧ k = 1) (Fr.sI ⟨rfl, rfl⟩) (fun i => by omega), Seg.nil, (e3.mono (by intro c k h; omega)).pI (Or.inr ⟨rfl, rfl⟩)⟩ (fun self i m hi ⟨x1, x2, x3, x4⟩ hk => ?_) (fun self m ⟨x1, x2, x3, x4⟩ => ?_)
    · unfold b251_104
      have e := x2.1 i hi
      rw [Nat.zero_add] at e
      simp (disch := omega) only [i_0, i_1, i_2, i_3, i_4, i_5, i_6, i_7, i_8, i_9, i_10, i_11, i_12, i_13, i_14, i_15, i_16, i_17, i_18, i_19, i_20, i_21, i_22, i_23, i_24, i_25, i_26, i_27, i_31, i_32, i_40, i_42, i_45, i_48, i_51, i_52, i_56, i_58, i_59, i_60, i_61, i_62, i_63, i_64, i_85, i_90, i_100, i_112, i_120, i_121, i_127, i_128, i_130, i_144, i_171, i_192, i_193, i_197, i_200, i_207, i_235, i_240, i_248, i_252, i_254, i_255, i_256, i_512, i_544, i_768, i_769, i_793, i_1000, i_1023, i_1024, i_1200, i_1538, i_1541, i_1545, i_2046, i_2047, i_2049, i_2060, i_2736, i_2737, i_2817, i_2818, i_2819, i_2820, i_2821, i_2831, i_2832, i_3077, i_3085, i_3843, i_3849, i_3851, i_3852, i_4129, i_4353, i_4865, i_5121, i_5122, i_5123, i_6156, i_8192, i_12288, i_16383, i_32000, i_33280, i_49152, i_53247, i_60304, i_64000, i_64512, i_65521, i_65535, i_449838109, nI_add, pk_mul, pk_sub, nI_mm, nI_leI, nI_ltI, nI_eq, pk_div, jrem_N, jshl_N, jshr_N, jushr_N, jmin_N, jmax_N, an_1, an_3, an_7, an_15, an_31, an_63, an_127, an_255, an_1023, an_2047, an_16383, an_65535, nm, pfI, rdI, rdW, rdL, rdI2, rdW2, ldA_N, stA_N, stB_N, stZ_N, pfZ_0, pfZ_1, rtZ_0, rtZ_1, acp_N, Option.bind_some, wp_some_iff, true_and, and_true, false_and, and_false, or_true, true_or, or_false, false_or, not_true_eq_false, not_false_eq_true, if_true, if_false, if_pos, if_neg, x1, e]
      refine hk _ ⟨by simp (disch := omega) only [i_0, i_1, i_2, i_3, i_4, i_5, i_6, i_7, i_8, i_9, i_10, i_11, i_12, i_13, i_14, i_15, i_16, i_17, i_18, i_19, i_20, i_21, i_22, i_23, i_24, i_25, i_26, i_27, i_31, i_32, i_40, i_42, i_45, i_48, i_51, i_52, i_56, i_58, i_59, i_60, i_61, i_62, i_63, i_64, i_85, i_90, i_100, i_112, i_120, i_121, i_127, i_128, i_130, i_144, i_171, i_192, i_193, i_197, i_200, i_207, i_235, i_240, i_248, i_252, i_254, i_255, i_256, i_512, i_544, i_768, i_769, i_793, i_1000, i_1023, i_1024, i_1200, i_1538, i_1541, i_1545, i_2046, i_2047, i_2049, i_2060, i_2736, i_2737, i_2817, i_2818, i_2819, i_2820, i_2821, i_2831, i_2832, i_3077, i_3085, i_3843, i_3849, i_3851, i_3852, i_4129, i_4353, i_4865, i_5121, i_5122, i_5123, i_6156, i_8192, i_12288, i_16383, i_32000, i_33280, i_49152, i_53247, i_60304, i_64000, i_64512, i_65521, i_65535, i_449838109, nI_add, pk_mul, pk_sub, nI_mm, nI_leI, nI_ltI, nI_eq, pk_div, jrem_N, jshl_N, jshr_N, jushr_N, jmin_N, jmax_N, an_1, an_3, an_7, an_15, an_31, an_63, an_127, an_255, an_1023, an_2047, an_16383, an_65535, nm, pfI, rdI, rdW, rdL, rdI2, rdW2, ldA_N, stA_N, stB_N, stZ_N, pfZ_0, pfZ_1, rtZ_0, rtZ_1, acp_N, Option.bind_some, wp_some_iff, true_and, and_true, false_and, and_false, or_true, true_or, or_false, false_or, not_true_eq_false, not_false_eq_true, if_true, if_false, if_pos, if_neg, x1], ⟨fun j hj => by rw [rdI, if_neg (by omega)]; exact x2.1 j hj, x2.2⟩, ?_, x4.pI (Or.inl (by omega))⟩
      rw [take_sn hi]
      exact x3.sn (by rw [List.length_take]; omega) (getD_lt x2.2 i)
    · unfold b251_104
      simp (disch := omega) only [i_0, i_1, i_2, i_3, i_4, i_5, i_6, i_7, i_8, i_9, i_10, i_11, i_12, i_13, i_14, i_15, i_16, i_17, i_18, i_19, i_20, i_21, i_22, i_23, i_24, i_25, i_26, i_27, i_31, i_32, i_40, i_42, i_45, i_48, i_51, i_52, i_56, i_58, i_59, i_60, i_61, i_62, i_63, i_64, i_85, i_90, i_100, i_112, i_120, i_121, i_127, i_128, i_130, i_144, i_171, i_192, i_193, i_197, i_200, i_207, i_235, i_240, i_248, i_252, i_254, i_255, i_256, i_512, i_544, i_768, i_769, i_793, i_1000, i_1023, i_1024, i_1200, i_1538, i_1541, i_1545, i_2046, i_2047, i_2049, i_2060, i_2736, i_2737, i_2817, i_2818, i_2819, i_2820, i_2821, i_2831, i_2832, i_3077, i_3085, i_3843, i_3849, i_3851, i_3852, i_4129, i_4353, i_4865, i_5121, i_5122, i_5123, i_6156, i_8192, i_12288, i_16383, i_32000, i_33280, i_49152, i_53247, i_60304, i_64000, i_64512, i_65521, i_65535, i_449838109, nI_add, pk_mul, pk_sub, nI_mm, nI_leI, nI_ltI, nI_eq, pk_div, jrem_N, jshl_N, jshr_N, jushr_N, jmin_N, jmax_N, an_1, an_3, an_7, an_15, an_31, an_63, an_127, an_255, an_1023, an_2047, an_16383, an_65535, nm, pfI, rdI, rdW, rdL, rdI2, rdW2, ldA_N, stA_N, stB_N, stZ_N, pfZ_0, pfZ_1, rtZ_0, rtZ_1, acp_N, Option.bind_some, wp_some_iff, true_and, and_true, false_and, and_false, or_true, true_or, or_false, false_or, not_true_eq_false, not_false_eq_true, if_true, if_false, if_pos, if_neg, x1]
      rw [List.take_of_length_le (Nat.le_refl _)] at x3
      exact ⟨rfl, ⟨x1, (by show U.length ≤ 256; omega), x3⟩, x4⟩
  · rw [if_neg hl, if_neg hl]
    simp (disch := omega) only [i_0, i_1, i_2, i_3, i_4, i_5, i_6, i_7, i_8, i_9, i_10, i_11, i_12, i_13, i_14, i_15, i_16, i_17, i_18, i_19, i_20, i_21, i_22, i_23, i_24, i_25, i_26, i_27, i_31, i_32, i_40, i_42, i_45, i_48, i_51, i_52, i_56, i_58, i_59, i_60, i_61, i_62, i_63, i_64, i_85, i_90, i_100, i_112, i_120, i_121, i_127, i_128, i_130, i_144, i_171, i_192, i_193, i_197, i_200, i_207, i_235, i_240, i_248, i_252, i_254, i_255, i_256, i_512, i_544, i_768, i_769, i_793, i_1000, i_1023, i_1024, i_1200, i_1538, i_1541, i_1545, i_2046, i_2047, i_2049, i_2060, i_2736, i_2737, i_2817, i_2818, i_2819, i_2820, i_2821, i_2831, i_2832, i_3077, i_3085, i_3843, i_3849, i_3851, i_3852, i_4129, i_4353, i_4865, i_5121, i_5122, i_5123, i_6156, i_8192, i_12288, i_16383, i_32000, i_33280, i_49152, i_53247, i_60304, i_64000, i_64512, i_65521, i_65535, i_449838109, nI_add, pk_mul, pk_sub, nI_mm, nI_leI, nI_ltI, nI_eq, pk_div, jrem_N, jshl_N, jshr_N, jushr_N, jmin_N, jmax_N, an_1, an_3, an_7, an_15, an_31, an_63, an_127, an_255, an_1023, an_2047, an_16383, an_65535, nm, pfI, rdI, rdW, rdL, rdI2, rdW2, ldA_N, stA_N, stB_N, stZ_N, pfZ_0, pfZ_1, rtZ_0, rtZ_1, acp_N, Option.bind_some, wp_some_iff, true_and, and_true, false_and, and_false, or_true, true_or, or_false, false_or, not_true_eq_false, not_false_eq_true, if_true, if_false, if_pos, if_neg]
    exact ⟨rfl, ⟨by simp (disch := omega) only [i_0, i_1, i_2, i_3, i_4, i_5, i_6, i_7, i_8, i_9, i_10, i_11, i_12, i_13, i_14, i_15, i_16, i_17, i_18, i_19, i_20, i_21, i_22, i_23, i_24, i_25, i_26, i_27, i_31, i_32, i_40, i_42, i_45, i_48, i_51, i_52, i_56, i_58, i_59, i_60, i_61, i_62, i_63, i_64, i_85, i_90, i_100, i_112, i_120, i_121, i_127, i_128, i_130, i_144, i_171, i_192, i_193, i_197, i_200, i_207, i_235, i_240, i_248, i_252, i_254, i_255, i_256, i_512, i_544, i_768, i_769, i_793, i_1000, i_1023, i_1024, i_1200, i_1538, i_1541, i_1545, i_2046, i_2047, i_2049, i_2060, i_2736, i_2737, i_2817, i_2818, i_2819, i_2820, i_2821, i_2831, i_2832, i_3077, i_3085, i_3843, i_3849, i_3851, i_3852, i_4129, i_4353, i_4865, i_5121, i_5122, i_5123, i_6156, i_8192, i_12288, i_16383, i_32000, i_33280, i_49152, i_53247, i_60304, i_64000, i_64512, i_65521, i_65535, i_449838109, nI_add, pk_mul, pk_sub, nI_mm, nI_leI, nI_ltI, nI_eq, pk_div, jrem_N, jshl_N, jshr_N, jushr_N, jmin_N, jmax_N, an_1, an_3, an_7, an_15, an_31, an_63, an_127, an_255, an_1023, an_2047, an_16383, an_65535, nm, pfI, rdI, rdW, rdL, rdI2, rdW2, ldA_N, stA_N, stB_N, stZ_N, pfZ_0, pfZ_1, rtZ_0, rtZ_1, acp_N, Option.bind_some, wp_some_iff, true_and, and_true, false_and, and_false, or_true, true_or, or_false, false_or, not_true_eq_false, not_false_eq_true, if_true, if_false, if_pos, if_neg]; rfl, by simp, Seg.nil⟩, Fr.sI (Or.inr ⟨rfl, rfl⟩)⟩
theorem sev_lt (n b : Nat) (h : b ∈ sev n) : b < 256 := by
  rw [sev] at h
  obtain ⟨i, hi, rfl⟩ := List.mem_map.mp h
  exact Nat.mod_lt _ (by decide)
theorem sev_get {n i : Nat} (h : i < 7) : (sev n).getD i 0 = n / 2 ^ (56 - 8 * i) % 256 := by rw [sev, range_getD h]
theorem code_MN {μ : Mem} {N : Nat} (hN : Num μ 130 0 N) : wp (c251_25 (nI 1) μ) (qM μ (match mnd N with
    | some q => (sev q.1, nI 7)
    | none => ([], -nI 2))) := by
  have g1 := gl_130
  unfold c251_25
  rw [if_pos (by decide), i_0]
  refine wp_bind (mend_M hN (by omega)) (fun r ⟨e1, e2⟩ => ?_)
  obtain ⟨m1, a1⟩ := r
  dsimp only at e1 e2 ⊢
  unfold c251_52
  cases hm : mnd N with
  | none =>
    rw [hm] at e1
    dsimp only at e1
    subst e1
    simp (disch := omega) only [i_0, i_1, i_2, i_3, i_4, i_5, i_6, i_7, i_8, i_9, i_10, i_11, i_12, i_13, i_14, i_15, i_16, i_17, i_18, i_19, i_20, i_21, i_22, i_23, i_24, i_25, i_26, i_27, i_31, i_32, i_40, i_42, i_45, i_48, i_51, i_52, i_56, i_58, i_59, i_60, i_61, i_62, i_63, i_64, i_85, i_90, i_100, i_112, i_120, i_121, i_127, i_128, i_130, i_144, i_171, i_192, i_193, i_197, i_200, i_207, i_235, i_240, i_248, i_252, i_254, i_255, i_256, i_512, i_544, i_768, i_769, i_793, i_1000, i_1023, i_1024, i_1200, i_1538, i_1541, i_1545, i_2046, i_2047, i_2049, i_2060, i_2736, i_2737, i_2817, i_2818, i_2819, i_2820, i_2821, i_2831, i_2832, i_3077, i_3085, i_3843, i_3849, i_3851, i_3852, i_4129, i_4353, i_4865, i_5121, i_5122, i_5123, i_6156, i_8192, i_12288, i_16383, i_32000, i_33280, i_49152, i_53247, i_60304, i_64000, i_64512, i_65521, i_65535, i_449838109, nI_add, pk_mul, pk_sub, nI_mm, nI_leI, nI_ltI, nI_eq, pk_div, jrem_N, jshl_N, jshr_N, jushr_N, jmin_N, jmax_N, an_1, an_3, an_7, an_15, an_31, an_63, an_127, an_255, an_1023, an_2047, an_16383, an_65535, nm, pfI, rdI, rdW, rdL, rdI2, rdW2, ldA_N, stA_N, stB_N, stZ_N, pfZ_0, pfZ_1, rtZ_0, rtZ_1, acp_N, Option.bind_some, wp_some_iff, true_and, and_true, false_and, and_false, or_true, true_or, or_false, false_or, not_true_eq_false, not_false_eq_true, if_true, if_false, if_pos, if_neg]
    exact ⟨rfl, ⟨by simp (disch := omega) only [i_0, i_1, i_2, i_3, i_4, i_5, i_6, i_7, i_8, i_9, i_10, i_11, i_12, i_13, i_14, i_15, i_16, i_17, i_18, i_19, i_20, i_21, i_22, i_23, i_24, i_25, i_26, i_27, i_31, i_32, i_40, i_42, i_45, i_48, i_51, i_52, i_56, i_58, i_59, i_60, i_61, i_62, i_63, i_64, i_85, i_90, i_100, i_112, i_120, i_121, i_127, i_128, i_130, i_144, i_171, i_192, i_193, i_197, i_200, i_207, i_235, i_240, i_248, i_252, i_254, i_255, i_256, i_512, i_544, i_768, i_769, i_793, i_1000, i_1023, i_1024, i_1200, i_1538, i_1541, i_1545, i_2046, i_2047, i_2049, i_2060, i_2736, i_2737, i_2817, i_2818, i_2819, i_2820, i_2821, i_2831, i_2832, i_3077, i_3085, i_3843, i_3849, i_3851, i_3852, i_4129, i_4353, i_4865, i_5121, i_5122, i_5123, i_6156, i_8192, i_12288, i_16383, i_32000, i_33280, i_49152, i_53247, i_60304, i_64000, i_64512, i_65521, i_65535, i_449838109, nI_add, pk_mul, pk_sub, nI_mm, nI_leI, nI_ltI, nI_eq, pk_div, jrem_N, jshl_N, jshr_N, jushr_N, jmin_N, jmax_N, an_1, an_3, an_7, an_15, an_31, an_63, an_127, an_255, an_1023, an_2047, an_16383, an_65535, nm, pfI, rdI, rdW, rdL, rdI2, rdW2, ldA_N, stA_N, stB_N, stZ_N, pfZ_0, pfZ_1, rtZ_0, rtZ_1, acp_N, Option.bind_some, wp_some_iff, true_and, and_true, false_and, and_false, or_true, true_or, or_false, false_or, not_true_eq_false, not_false_eq_true, if_true, if_false, if_pos, if_neg]; rfl, by simp, Seg.nil⟩, (e2.mono (by intro c k h; omega)).pI (Or.inr ⟨rfl, rfl⟩)⟩
  | some q =>
    rw [hm] at e1
    obtain ⟨e3, e4⟩ := e1
    have h01 : q.2 = 0 ∨ q.2 = 1 := by rcases (wrg_some hm).2 with w | w <;> omega
    have hne : ¬ a1 = -nI 2 := by rcases h01 with w | w <;> rw [e3, w] <;> decide
    simp (disch := omega) only [i_0, i_1, i_2, i_3, i_4, i_5, i_6, i_7, i_8, i_9, i_10, i_11, i_12, i_13, i_14, i_15, i_16, i_17, i_18, i_19, i_20, i_21, i_22, i_23, i_24, i_25, i_26, i_27, i_31, i_32, i_40, i_42, i_45, i_48, i_51, i_52, i_56, i_58, i_59, i_60, i_61, i_62, i_63, i_64, i_85, i_90, i_100, i_112, i_120, i_121, i_127, i_128, i_130, i_144, i_171, i_192, i_193, i_197, i_200, i_207, i_235, i_240, i_248, i_252, i_254, i_255, i_256, i_512, i_544, i_768, i_769, i_793, i_1000, i_1023, i_1024, i_1200, i_1538, i_1541, i_1545, i_2046, i_2047, i_2049, i_2060, i_2736, i_2737, i_2817, i_2818, i_2819, i_2820, i_2821, i_2831, i_2832, i_3077, i_3085, i_3843, i_3849, i_3851, i_3852, i_4129, i_4353, i_4865, i_5121, i_5122, i_5123, i_6156, i_8192, i_12288, i_16383, i_32000, i_33280, i_49152, i_53247, i_60304, i_64000, i_64512, i_65521, i_65535, i_449838109, nI_add, pk_mul, pk_sub, nI_mm, nI_leI, nI_ltI, nI_eq, pk_div, jrem_N, jshl_N, jshr_N, jushr_N, jmin_N, jmax_N, an_1, an_3, an_7, an_15, an_31, an_63, an_127, an_255, an_1023, an_2047, an_16383, an_65535, nm, pfI, rdI, rdW, rdL, rdI2, rdW2, ldA_N, stA_N, stB_N, stZ_N, pfZ_0, pfZ_1, rtZ_0, rtZ_1, acp_N, Option.bind_some, wp_some_iff, true_and, and_true, false_and, and_false, or_true, true_or, or_false, false_or, not_true_eq_false, not_false_eq_true, if_true, if_false, if_pos, if_neg, hne]
    refine ⟨rfl, ⟨by simp (disch := omega) only [i_0, i_1, i_2, i_3, i_4, i_5, i_6, i_7, i_8, i_9, i_10, i_11, i_12, i_13, i_14, i_15, i_16, i_17, i_18, i_19, i_20, i_21, i_22, i_23, i_24, i_25, i_26, i_27, i_31, i_32, i_40, i_42, i_45, i_48, i_51, i_52, i_56, i_58, i_59, i_60, i_61, i_62, i_63, i_64, i_85, i_90, i_100, i_112, i_120, i_121, i_127, i_128, i_130, i_144, i_171, i_192, i_193, i_197, i_200, i_207, i_235, i_240, i_248, i_252, i_254, i_255, i_256, i_512, i_544, i_768, i_769, i_793, i_1000, i_1023, i_1024, i_1200, i_1538, i_1541, i_1545, i_2046, i_2047, i_2049, i_2060, i_2736, i_2737, i_2817, i_2818, i_2819, i_2820, i_2821, i_2831, i_2832, i_3077, i_3085, i_3843, i_3849, i_3851, i_3852, i_4129, i_4353, i_4865, i_5121, i_5122, i_5123, i_6156, i_8192, i_12288, i_16383, i_32000, i_33280, i_49152, i_53247, i_60304, i_64000, i_64512, i_65521, i_65535, i_449838109, nI_add, pk_mul, pk_sub, nI_mm, nI_leI, nI_ltI, nI_eq, pk_div, jrem_N, jshl_N, jshr_N, jushr_N, jmin_N, jmax_N, an_1, an_3, an_7, an_15, an_31, an_63, an_127, an_255, an_1023, an_2047, an_16383, an_65535, nm, pfI, rdI, rdW, rdL, rdI2, rdW2, ldA_N, stA_N, stB_N, stZ_N, pfZ_0, pfZ_1, rtZ_0, rtZ_1, acp_N, Option.bind_some, wp_some_iff, true_and, and_true, false_and, and_false, or_true, true_or, or_false, false_or, not_true_eq_false, not_false_eq_true, if_true, if_false, if_pos, if_neg]; rw [sev_len], by rw [sev_len]; decide, ⟨fun i hi => ?_, sev_lt _⟩⟩, (e2.mono (by intro c k h; omega)).pI (Or.inr ⟨rfl, rfl⟩)⟩
    rw [sev_len] at hi
    rw [rdI, if_neg (by omega), e4 i (by omega), sev_get hi]
theorem code_M1 {μ : Mem} {bs : List Nat} (h : MTape μ bs) (hl : bs.length = 8) : wp (c251_25 (nI 1) μ) (qM μ (match mnd (n8 bs) with
    | some q => (sev q.1, nI 7)
    | none => ([], -nI 2))) := code_MN (fun j hj => by rw [h.2.2.1 j (by omega), n8_byte h.2.2.2 j hj])
theorem code_M {μ : Mem} {bs : List Nat} (what : Int32) (h : MTape μ bs) : wp (f251 what μ) (qM μ (cTape bs what)) := by
  unfold f251 cTape
  rw [i_0, i_1, i_8]
  by_cases q : what = nI 0
  · subst q
    rw [if_neg (by decide), if_neg (by decide), if_neg (by decide), if_pos rfl]
    exact code_M0 h
  · rw [if_neg q]
    by_cases q2 : what = nI 1
    · subst q2
      have hc := h.2.1
      rw [if_neg (by decide), if_neg (by decide), if_pos rfl, if_pos rfl, h.1]
      by_cases hl : bs.length = 8
      · rw [if_pos (by rw [hl]), if_pos hl]
        exact code_M1 h hl
      · rw [if_neg (fun z => hl ((nI_eq (by omega) (by omega)).mp z)), if_neg hl]
        exact wp_some ⟨rfl, h, Fr.rf⟩
    · simp only [if_neg q2]
      by_cases w : what < nI 0
      · rw [if_pos w]; exact wp_some ⟨rfl, h, Fr.rf⟩
      · rw [if_neg w]
        by_cases w2 : nI 1 < what
        · rw [if_pos w2]; exact wp_some ⟨rfl, h, Fr.rf⟩
        · exfalso
          obtain ⟨j, hj, rfl⟩ := nI_of w
          rw [nI_ltI (by omega) hj] at w2
          have : j = 0 ∨ j = 1 := by omega
          rcases this with rfl | rfl
          · exact q rfl
          · exact q2 rfl
