/-! ===== the ground's machine: repeat, clear, lose, alarm ===== -/
theorem nI_wr (n : Nat) : nI (n + 4294967296) = nI n := by
  apply Int32.toBitVec_inj.mp
  show BitVec.ofNat 32 (n + 4294967296) = BitVec.ofNat 32 n
  apply BitVec.eq_of_toNat_eq
  rw [BitVec.toNat_ofNat, BitVec.toNat_ofNat]
  omega
theorem nI_sub {a b : Nat} (h : b ≤ 4294967296) : nI a - nI b = nI (a + (4294967296 - b)) := by
  have e : nI (a + (4294967296 - b)) + nI b = nI a := by
    rw [nI_add, show a + (4294967296 - b) + b = a + 4294967296 by omega, nI_wr]
  rw [← e, Int32.add_sub_cancel]
theorem sub255 {x a : Nat} (hx : x < 256) (ha : a < 256) : (nI x - nI a) &&& nI 255 = nI ((x + 256 - a) % 256) := by
  rw [nI_sub (by omega), an_255]
  congr 1
  omega
def mrkN (ps : List Pk) : Nat → List Pk
  | 0 => ps
  | n + 1 => (mrkN ps n).set n ((pk (mrkN ps n) n).1, (pk (mrkN ps n) n).2.1, nI 1)
theorem mrk_len {ps : List Pk} : ∀ n, (mrkN ps n).length = ps.length
  | 0 => rfl
  | n + 1 => by rw [mrkN, List.length_set, mrk_len n]
theorem Pok.mrk {ps : List Pk} (h : Pok ps) : ∀ n, n ≤ ps.length → Pok (mrkN ps n)
  | 0, _ => h
  | n + 1, hn => (h.mrk n (by omega)).set (by rw [mrk_len]; omega) (Or.inr rfl)
def chgN (t : Nat) (q : Nat → Rq) (ps : List Pk) (f v : Int32) : Nat → (Nat → Rq)
  | 0 => q
  | n + 1 => chgSt t (chgN t q ps f v n) (nt (pk ps n).2.1) f v
def repW (w : Wd) : Wd := (upL (upL w.1 3 (w.1 3 + nI 1)) 6 (w.1 7), mrkN w.2.1 w.2.1.length, w.2.2)
def clrZ (z : Nat → Int32) (x d : Nat) : Nat → Int32 := if d = 0 then upL (upL (upL z 2 (nI x)) 3 (nI 1)) 6 (nI 0) else upL (upL z 2 (nI x)) 3 (nI 1)
def clrW (t : Nat) (w : Wd) (x : Nat) : Wd := (clrZ w.1 x (w.2.1.length - (x + 256 - nt (w.1 2)) % 256), w.2.1.drop ((x + 256 - nt (w.1 2)) % 256), w.2.2.1, chgN t w.2.2.2.1 w.2.1 (nI 2) (nI 3) ((x + 256 - nt (w.1 2)) % 256), w.2.2.2.2)
def lseW (t : Nat) (w : Wd) : Wd := (upL (upL w.1 2 (w.1 1)) 9 (nI 0), [], [], chgN t (chgN t w.2.2.2.1 w.2.1 (nI 2) (nI 4) w.2.1.length) w.2.2.1 (nI 1) (nI 4) w.2.2.1.length, w.2.2.2.2)
def stZw (w : Wd) (i : Nat) (x : Int32) : Wd := (upL w.1 i x, w.2)
def almW (t : Nat) (w : Wd) (v : Int32) : Wd := stZw (stZw (lseW t (stZw w 10 v)) 6 (nI 0)) 0 (nI 6)
theorem WC.st {μ : Mem} {t k i : Nat} {w : Wd} {x : Int32} (h : WC μ t w) (hk : k = 8 + i) : WC (setI μ 28 k x) t (stZw w i x) := ⟨h.1.set_o (by decide), h.2.1.up hk, h.2.2.1.set_o (by omega), h.2.2.2.1.set_o (by omega), h.2.2.2.2.1.set_o (by omega), h.2.2.2.2.2.set_o (by omega)⟩
theorem SntM.set_o {μ : Mem} {c k : Nat} {ps : List Pk} {x : Int32} (h : SntM μ ps) (h1 : (c ≠ 129 ∨ k ≠ 41) ∧ c ≠ 141 ∧ c ≠ 142 ∧ c ≠ 144 ∧ c ≠ 145) : SntM (setI μ c k x) ps := h.fr (P := fun c' k' => c' = c ∧ k' = k) (Fr.sI ⟨rfl, rfl⟩) (by omega) (fun c' k' _ => by omega)
theorem WtM.set_o {μ : Mem} {c k : Nat} {ps : List Pk} {x : Int32} (h : WtM μ ps) (h1 : (c ≠ 129 ∨ k ≠ 43) ∧ c ≠ 143 ∧ c ≠ 146 ∧ c ≠ 147) : WtM (setI μ c k x) ps := h.fr (P := fun c' k' => c' = c ∧ k' = k) (Fr.sI ⟨rfl, rfl⟩) (by omega) (fun c' k' _ => by omega)
theorem WM.st {μ : Mem} {t k i : Nat} {w : Wd} {x : Int32} (h : WM μ t w) (hk : k = 28 + i) (hi : i < 11) : WM (setI μ 129 k x) t (stZw w i x) := ⟨h.1.up hk, h.2.1.set_o (by omega), h.2.2.1.set_o (by omega), h.2.2.2.1.set_o (by omega), h.2.2.2.2.set_o (by omega)⟩
theorem WC.fr {μ m : Mem} {t : Nat} {w : Wd} {P : Nat → Nat → Prop} (h : WC μ t w) (ho : Fr P μ m) (h1 : ∀ c k, c = 100000 ∨ 28 ≤ c ∧ c ≤ 40 ∨ c = 12 ∨ 24 ≤ c ∧ c ≤ 26 ∨ 5 ≤ c ∧ c ≤ 8 → ¬ P c k) : WC m t w :=
  ⟨h.1.fr ho (fun k => h1 _ k (by omega)), h.2.1.fr ho (fun k _ _ => h1 _ k (by omega)), h.2.2.1.fr ho (fun c k _ _ => h1 c k (by omega)), h.2.2.2.1.fr ho (fun c k _ _ => h1 c k (by omega)), h.2.2.2.2.1.fr ho (h1 _ _ (by omega)) (fun c k _ _ => h1 c k (by omega)), h.2.2.2.2.2.fr ho (fun c k _ _ => h1 c k (by omega))⟩
theorem WM.fr {μ m : Mem} {t : Nat} {w : Wd} {P : Nat → Nat → Prop} (h : WM μ t w) (ho : Fr P μ m) (h1 : ∀ c k, c = 129 ∧ (28 ≤ k ∧ k ≤ 43 ∨ k = 58) ∨ 134 ≤ c ∧ c ≤ 136 ∨ 141 ≤ c ∧ c ≤ 147 ∨ 152 ≤ c ∧ c ≤ 155 → ¬ P c k) : WM m t w :=
  ⟨h.1.fr ho (fun k _ _ => h1 _ k (by omega)), h.2.1.fr ho (h1 _ _ (by omega)) (fun c k _ => h1 c k (by omega)), h.2.2.1.fr ho (h1 _ _ (by omega)) (fun c k _ => h1 c k (by omega)), h.2.2.2.1.fr ho (h1 _ _ (by omega)) (fun c k _ _ => h1 c k (by omega)), h.2.2.2.2.fr ho (fun c k _ _ => h1 c k (by omega))⟩
theorem rep_C {μ : Mem} {t : Nat} {w : Wd} (hw : WC μ t w) (hi : WI w) : wp (f138 μ) (fun m => WC m t (repW w) ∧ Fr FG μ m) := by
  obtain ⟨z0, z1, z2, z3, z4, z5, z6, z7, z8, z9, z10⟩ := hw.2.1.a
  have hil := hi.1.1
  have x1 := (hw.st (k := 11) (i := 3) (x := w.1 3 + nI 1) rfl).st (k := 14) (i := 6) (x := w.1 7) rfl
  have e1 : Fr FG μ (setI (setI μ 28 11 (w.1 3 + nI 1)) 28 14 (w.1 7)) := (Fr.sI (by omega)).pI (by omega)
  unfold f138 l138_20
  simp (disch := omega) only [i_0, i_1, i_2, i_3, i_4, i_5, i_6, i_7, i_8, i_9, i_10, i_11, i_12, i_13, i_14, i_15, i_16, i_17, i_18, i_19, i_20, i_21, i_22, i_23, i_24, i_25, i_26, i_27, i_31, i_32, i_40, i_42, i_45, i_48, i_51, i_52, i_56, i_58, i_59, i_60, i_61, i_62, i_63, i_64, i_85, i_90, i_100, i_112, i_120, i_121, i_127, i_128, i_130, i_144, i_171, i_192, i_193, i_197, i_200, i_207, i_235, i_240, i_248, i_252, i_254, i_255, i_256, i_512, i_544, i_768, i_769, i_793, i_1000, i_1023, i_1024, i_1200, i_1538, i_1541, i_1545, i_2046, i_2047, i_2049, i_2060, i_2736, i_2737, i_2817, i_2818, i_2819, i_2820, i_2821, i_2831, i_2832, i_3077, i_3085, i_3843, i_3849, i_3851, i_3852, i_4129, i_4353, i_4865, i_5121, i_5122, i_5123, i_6156, i_8192, i_12288, i_16383, i_32000, i_33280, i_49152, i_53247, i_60304, i_64000, i_64512, i_65521, i_65535, i_449838109, nI_add, pk_mul, pk_sub, nI_mm, nI_leI, nI_ltI, nI_eq, pk_div, jrem_N, jshl_N, jshr_N, jushr_N, jmin_N, jmax_N, an_1, an_3, an_7, an_15, an_31, an_63, an_127, an_255, an_1023, an_2047, an_16383, an_65535, nm, pfI, rdI, rdW, rdL, rdI2, rdW2, ldA_N, stA_N, stB_N, stZ_N, pfZ_0, pfZ_1, rtZ_0, rtZ_1, acp_N, Option.bind_some, wp_some_iff, true_and, and_true, false_and, and_false, or_true, true_or, or_false, false_or, not_true_eq_false, not_false_eq_true, if_true, if_false, if_pos, if_neg, lt_sub, le_sub, sub_lt3, sub_le3, z3, z7]
  generalize setI (setI μ 28 11 (w.1 3 + nI 1)) 28 14 (w.1 7) = m1 at *
  refine wp_for (fun i m => (nI i, m)) (fun i m => Shf m 29 (mrkN w.2.1 i) ∧ Fr (FS 29) m1 m) w.2.1.length (by omega) m1 _ rfl ⟨x1.2.2.1, Fr.rf⟩ (fun self i m hi2 ⟨y1, y2⟩ hk => ?_) (fun self m ⟨y1, y2⟩ => ?_)
  · have y0 := y1.1
    rw [mrk_len] at y0
    unfold b138_20
    simp (disch := omega) only [i_0, i_1, i_2, i_3, i_4, i_5, i_6, i_7, i_8, i_9, i_10, i_11, i_12, i_13, i_14, i_15, i_16, i_17, i_18, i_19, i_20, i_21, i_22, i_23, i_24, i_25, i_26, i_27, i_31, i_32, i_40, i_42, i_45, i_48, i_51, i_52, i_56, i_58, i_59, i_60, i_61, i_62, i_63, i_64, i_85, i_90, i_100, i_112, i_120, i_121, i_127, i_128, i_130, i_144, i_171, i_192, i_193, i_197, i_200, i_207, i_235, i_240, i_248, i_252, i_254, i_255, i_256, i_512, i_544, i_768, i_769, i_793, i_1000, i_1023, i_1024, i_1200, i_1538, i_1541, i_1545, i_2046, i_2047, i_2049, i_2060, i_2736, i_2737, i_2817, i_2818, i_2819, i_2820, i_2821, i_2831, i_2832, i_3077, i_3085, i_3843, i_3849, i_3851, i_3852, i_4129, i_4353, i_4865, i_5121, i_5122, i_5123, i_6156, i_8192, i_12288, i_16383, i_32000, i_33280, i_49152, i_53247, i_60304, i_64000, i_64512, i_65521, i_65535, i_449838109, nI_add, pk_mul, pk_sub, nI_mm, nI_leI, nI_ltI, nI_eq, pk_div, jrem_N, jshl_N, jshr_N, jushr_N, jmin_N, jmax_N, an_1, an_3, an_7, an_15, an_31, an_63, an_127, an_255, an_1023, an_2047, an_16383, an_65535, nm, pfI, rdI, rdW, rdL, rdI2, rdW2, ldA_N, stA_N, stB_N, stZ_N, pfZ_0, pfZ_1, rtZ_0, rtZ_1, acp_N, Option.bind_some, wp_some_iff, true_and, and_true, false_and, and_false, or_true, true_or, or_false, false_or, not_true_eq_false, not_false_eq_true, if_true, if_false, if_pos, if_neg, lt_sub, le_sub, sub_lt3, sub_le3, y0]
    refine wp_bind (setMark_C y1 (by rw [mrk_len]; exact hi2)) (fun m2 ⟨h2, e2⟩ => hk m2 ⟨h2, y2.tr' e2⟩)
  · have y0 := y1.1
    rw [mrk_len] at y0
    unfold b138_20
    simp (disch := omega) only [i_0, i_1, i_2, i_3, i_4, i_5, i_6, i_7, i_8, i_9, i_10, i_11, i_12, i_13, i_14, i_15, i_16, i_17, i_18, i_19, i_20, i_21, i_22, i_23, i_24, i_25, i_26, i_27, i_31, i_32, i_40, i_42, i_45, i_48, i_51, i_52, i_56, i_58, i_59, i_60, i_61, i_62, i_63, i_64, i_85, i_90, i_100, i_112, i_120, i_121, i_127, i_128, i_130, i_144, i_171, i_192, i_193, i_197, i_200, i_207, i_235, i_240, i_248, i_252, i_254, i_255, i_256, i_512, i_544, i_768, i_769, i_793, i_1000, i_1023, i_1024, i_1200, i_1538, i_1541, i_1545, i_2046, i_2047, i_2049, i_2060, i_2736, i_2737, i_2817, i_2818, i_2819, i_2820, i_2821, i_2831, i_2832, i_3077, i_3085, i_3843, i_3849, i_3851, i_3852, i_4129, i_4353, i_4865, i_5121, i_5122, i_5123, i_6156, i_8192, i_12288, i_16383, i_32000, i_33280, i_49152, i_53247, i_60304, i_64000, i_64512, i_65521, i_65535, i_449838109, nI_add, pk_mul, pk_sub, nI_mm, nI_leI, nI_ltI, nI_eq, pk_div, jrem_N, jshl_N, jshr_N, jushr_N, jmin_N, jmax_N, an_1, an_3, an_7, an_15, an_31, an_63, an_127, an_255, an_1023, an_2047, an_16383, an_65535, nm, pfI, rdI, rdW, rdL, rdI2, rdW2, ldA_N, stA_N, stB_N, stZ_N, pfZ_0, pfZ_1, rtZ_0, rtZ_1, acp_N, Option.bind_some, wp_some_iff, true_and, and_true, false_and, and_false, or_true, true_or, or_false, false_or, not_true_eq_false, not_false_eq_true, if_true, if_false, if_pos, if_neg, lt_sub, le_sub, sub_lt3, sub_le3, y0]
    refine ⟨⟨x1.1.fr y2 (fun k => by omega), x1.2.1.fr y2 (fun k _ _ => by omega), y1, x1.2.2.2.1.fr y2 (fun c k _ _ => by omega), x1.2.2.2.2.1.fr y2 (by omega) (fun c k _ _ => by omega), x1.2.2.2.2.2.fr y2 (fun c k _ _ => by omega)⟩, e1.tr y2 (fun _ _ q => q) (by intro c k h; omega)⟩
theorem rep_I {w : Wd} (h : WI w) : WI (repW w) := by
  obtain ⟨i1, i2, s, a, k, hs, ha, hk2, hz1, hz2, hz5, hsa⟩ := h
  refine ⟨i1.mrk _ (Nat.le_refl _), i2, s, a, k, hs, ha, hk2, ?_, ?_, ?_, ?_⟩
  · exact hz1
  · exact hz2
  · exact hz5
  · show s = (a + (mrkN _ _).length) % 256
    rw [mrk_len]; exact hsa
theorem rep_M {μ : Mem} {t : Nat} {w : Wd} (hw : WM μ t w) (hi : WI w) : wp (f276 μ) (fun m => WM m t (repW w) ∧ Fr FGM μ m) := by
  obtain ⟨z0, z1, z2, z3, z4, z5, z6, z7, z8, z9, z10⟩ := hw.1.a
  have hil := hi.1.1
  have g1 := gl_142
  have x1 := (hw.st (k := 31) (i := 3) (x := w.1 3 + nI 1) rfl (by decide)).st (k := 34) (i := 6) (x := w.1 7) rfl (by decide)
  have e1 : Fr FGM μ (setI (setI μ 129 31 (w.1 3 + nI 1)) 129 34 (w.1 7)) := (Fr.sI (by omega)).pI (by omega)
  unfold f276 f274 l276_16
  simp (disch := omega) only [i_0, i_1, i_2, i_3, i_4, i_5, i_6, i_7, i_8, i_9, i_10, i_11, i_12, i_13, i_14, i_15, i_16, i_17, i_18, i_19, i_20, i_21, i_22, i_23, i_24, i_25, i_26, i_27, i_31, i_32, i_40, i_42, i_45, i_48, i_51, i_52, i_56, i_58, i_59, i_60, i_61, i_62, i_63, i_64, i_85, i_90, i_100, i_112, i_120, i_121, i_127, i_128, i_130, i_144, i_171, i_192, i_193, i_197, i_200, i_207, i_235, i_240, i_248, i_252, i_254, i_255, i_256, i_512, i_544, i_768, i_769, i_793, i_1000, i_1023, i_1024, i_1200, i_1538, i_1541, i_1545, i_2046, i_2047, i_2049, i_2060, i_2736, i_2737, i_2817, i_2818, i_2819, i_2820, i_2821, i_2831, i_2832, i_3077, i_3085, i_3843, i_3849, i_3851, i_3852, i_4129, i_4353, i_4865, i_5121, i_5122, i_5123, i_6156, i_8192, i_12288, i_16383, i_32000, i_33280, i_49152, i_53247, i_60304, i_64000, i_64512, i_65521, i_65535, i_449838109, nI_add, pk_mul, pk_sub, nI_mm, nI_leI, nI_ltI, nI_eq, pk_div, jrem_N, jshl_N, jshr_N, jushr_N, jmin_N, jmax_N, an_1, an_3, an_7, an_15, an_31, an_63, an_127, an_255, an_1023, an_2047, an_16383, an_65535, nm, pfI, rdI, rdW, rdL, rdI2, rdW2, ldA_N, stA_N, stB_N, stZ_N, pfZ_0, pfZ_1, rtZ_0, rtZ_1, acp_N, Option.bind_some, wp_some_iff, true_and, and_true, false_and, and_false, or_true, true_or, or_false, false_or, not_true_eq_false, not_false_eq_true, if_true, if_false, if_pos, if_neg, lt_sub, le_sub, sub_lt3, sub_le3, z3, z7]
  generalize setI (setI μ 129 31 (w.1 3 + nI 1)) 129 34 (w.1 7) = m1 at *
  refine wp_for (fun i m => (nI i, m)) (fun i m => SntM m (mrkN w.2.1 i) ∧ Fr (fun c _ => c = 142) m1 m) w.2.1.length (by omega) m1 _ rfl ⟨x1.2.1, Fr.rf⟩ (fun self i m hi2 ⟨y1, y2⟩ hk => ?_) (fun self m ⟨y1, y2⟩ => ?_)
  · have y0 := y1.1
    rw [mrk_len] at y0
    unfold b276_16
    simp (disch := omega) only [i_0, i_1, i_2, i_3, i_4, i_5, i_6, i_7, i_8, i_9, i_10, i_11, i_12, i_13, i_14, i_15, i_16, i_17, i_18, i_19, i_20, i_21, i_22, i_23, i_24, i_25, i_26, i_27, i_31, i_32, i_40, i_42, i_45, i_48, i_51, i_52, i_56, i_58, i_59, i_60, i_61, i_62, i_63, i_64, i_85, i_90, i_100, i_112, i_120, i_121, i_127, i_128, i_130, i_144, i_171, i_192, i_193, i_197, i_200, i_207, i_235, i_240, i_248, i_252, i_254, i_255, i_256, i_512, i_544, i_768, i_769, i_793, i_1000, i_1023, i_1024, i_1200, i_1538, i_1541, i_1545, i_2046, i_2047, i_2049, i_2060, i_2736, i_2737, i_2817, i_2818, i_2819, i_2820, i_2821, i_2831, i_2832, i_3077, i_3085, i_3843, i_3849, i_3851, i_3852, i_4129, i_4353, i_4865, i_5121, i_5122, i_5123, i_6156, i_8192, i_12288, i_16383, i_32000, i_33280, i_49152, i_53247, i_60304, i_64000, i_64512, i_65521, i_65535, i_449838109, nI_add, pk_mul, pk_sub, nI_mm, nI_leI, nI_ltI, nI_eq, pk_div, jrem_N, jshl_N, jshr_N, jushr_N, jmin_N, jmax_N, an_1, an_3, an_7, an_15, an_31, an_63, an_127, an_255, an_1023, an_2047, an_16383, an_65535, nm, pfI, rdI, rdW, rdL, rdI2, rdW2, ldA_N, stA_N, stB_N, stZ_N, pfZ_0, pfZ_1, rtZ_0, rtZ_1, acp_N, Option.bind_some, wp_some_iff, true_and, and_true, false_and, and_false, or_true, true_or, or_false, false_or, not_true_eq_false, not_false_eq_true, if_true, if_false, if_pos, if_neg, lt_sub, le_sub, sub_lt3, sub_le3, y0]
    exact hk _ ⟨y1.unm (by rw [mrk_len]; exact hi2) (nI 1), y2.pI rfl⟩
  · have y0 := y1.1
    rw [mrk_len] at y0
    unfold b276_16
    simp (disch := omega) only [i_0, i_1, i_2, i_3, i_4, i_5, i_6, i_7, i_8, i_9, i_10, i_11, i_12, i_13, i_14, i_15, i_16, i_17, i_18, i_19, i_20, i_21, i_22, i_23, i_24, i_25, i_26, i_27, i_31, i_32, i_40, i_42, i_45, i_48, i_51, i_52, i_56, i_58, i_59, i_60, i_61, i_62, i_63, i_64, i_85, i_90, i_100, i_112, i_120, i_121, i_127, i_128, i_130, i_144, i_171, i_192, i_193, i_197, i_200, i_207, i_235, i_240, i_248, i_252, i_254, i_255, i_256, i_512, i_544, i_768, i_769, i_793, i_1000, i_1023, i_1024, i_1200, i_1538, i_1541, i_1545, i_2046, i_2047, i_2049, i_2060, i_2736, i_2737, i_2817, i_2818, i_2819, i_2820, i_2821, i_2831, i_2832, i_3077, i_3085, i_3843, i_3849, i_3851, i_3852, i_4129, i_4353, i_4865, i_5121, i_5122, i_5123, i_6156, i_8192, i_12288, i_16383, i_32000, i_33280, i_49152, i_53247, i_60304, i_64000, i_64512, i_65521, i_65535, i_449838109, nI_add, pk_mul, pk_sub, nI_mm, nI_leI, nI_ltI, nI_eq, pk_div, jrem_N, jshl_N, jshr_N, jushr_N, jmin_N, jmax_N, an_1, an_3, an_7, an_15, an_31, an_63, an_127, an_255, an_1023, an_2047, an_16383, an_65535, nm, pfI, rdI, rdW, rdL, rdI2, rdW2, ldA_N, stA_N, stB_N, stZ_N, pfZ_0, pfZ_1, rtZ_0, rtZ_1, acp_N, Option.bind_some, wp_some_iff, true_and, and_true, false_and, and_false, or_true, true_or, or_false, false_or, not_true_eq_false, not_false_eq_true, if_true, if_false, if_pos, if_neg, lt_sub, le_sub, sub_lt3, sub_le3, y0]
    exact ⟨⟨x1.1.fr y2 (fun k _ _ => by omega), y1, x1.2.2.1.fr y2 (by omega) (fun c k _ => by omega), x1.2.2.2.1.fr y2 (by omega) (fun c k _ _ => by omega), x1.2.2.2.2.fr y2 (fun c k _ _ => by omega)⟩, e1.tr y2 (fun _ _ q => q) (by intro c k h; omega)⟩
/-! clear -/
theorem clr_C {μ : Mem} {t x : Nat} {w : Wd} (hw : WC μ t w) (hi : WI w) (hx : x < 256) (hn : (x + 256 - nt (w.1 2)) % 256 ≤ w.2.1.length) : wp (f139 (nI x) μ) (fun m => WC m t (clrW t w x) ∧ Fr FG μ m) := by
  obtain ⟨i1, i2, s, a, k, hs, ha, hk2, hz1, hz2, hz5, hsa⟩ := hi
  obtain ⟨w1, w2, w3, w4, w5, w6⟩ := hw
  obtain ⟨z0, z1, z2, z3, z4, z5, z6, z7, z8, z9, z10⟩ := w2.a
  have hil := i1.1
  unfold clrW
  generalize hnd : (x + 256 - nt (w.1 2)) % 256 = n at *
  have hna : (x + 256 - a) % 256 = n := by rw [hz2, nt_nI (by omega)] at hnd; exact hnd
  unfold f139 l139_13
  rw [z2, hz2, i_255, sub255 hx ha, hna]
  simp (disch := omega) only [i_0, i_1, i_2, i_3, i_4, i_5, i_6, i_7, i_8, i_9, i_10, i_11, i_12, i_13, i_14, i_15, i_16, i_17, i_18, i_19, i_20, i_21, i_22, i_23, i_24, i_25, i_26, i_27, i_31, i_32, i_40, i_42, i_45, i_48, i_51, i_52, i_56, i_58, i_59, i_60, i_61, i_62, i_63, i_64, i_85, i_90, i_100, i_112, i_120, i_121, i_127, i_128, i_130, i_144, i_171, i_192, i_193, i_197, i_200, i_207, i_235, i_240, i_248, i_252, i_254, i_255, i_256, i_512, i_544, i_768, i_769, i_793, i_1000, i_1023, i_1024, i_1200, i_1538, i_1541, i_1545, i_2046, i_2047, i_2049, i_2060, i_2736, i_2737, i_2817, i_2818, i_2819, i_2820, i_2821, i_2831, i_2832, i_3077, i_3085, i_3843, i_3849, i_3851, i_3852, i_4129, i_4353, i_4865, i_5121, i_5122, i_5123, i_6156, i_8192, i_12288, i_16383, i_32000, i_33280, i_49152, i_53247, i_60304, i_64000, i_64512, i_65521, i_65535, i_449838109, nI_add, pk_mul, pk_sub, nI_mm, nI_leI, nI_ltI, nI_eq, pk_div, jrem_N, jshl_N, jshr_N, jushr_N, jmin_N, jmax_N, an_1, an_3, an_7, an_15, an_31, an_63, an_127, an_255, an_1023, an_2047, an_16383, an_65535, nm, pfI, rdI, rdW, rdL, rdI2, rdW2, ldA_N, stA_N, stB_N, stZ_N, pfZ_0, pfZ_1, rtZ_0, rtZ_1, acp_N, Option.bind_some, wp_some_iff, true_and, and_true, false_and, and_false, or_true, true_or, or_false, false_or, not_true_eq_false, not_false_eq_true, if_true, if_false, if_pos, if_neg, lt_sub, le_sub, sub_lt3, sub_le3]
  refine wp_for (fun i m => (nI x, nI n, nI i, m)) (fun i m => Shf m 29 (w.2.1.drop i) ∧ ReqC m t (chgN t w.2.2.2.1 w.2.1 (nI 2) (nI 3) i) ∧ Fr (fun c _ => 29 ≤ c ∧ c ≤ 34 ∨ c = 24) μ m) n (by omega) μ _ rfl ⟨w3, w5, Fr.rf⟩ (fun self i m hi2 ⟨y1, y2, y3⟩ hk => ?_) (fun self m ⟨y1, y2, y3⟩ => ?_)
  · have y0 := y1.1
    have hd : (w.2.1.drop i).length = w.2.1.length - i := List.length_drop
    rw [hd] at y0
    obtain ⟨hx1, ⟨r0, hr0, hx2⟩, hx3⟩ := i1.2 i (by omega)
    have htg := tagOf_y y1 (i := 0) (by omega)
    rw [pk_drop, Nat.zero_add, hx2] at htg
    unfold b139_13
    simp (disch := omega) only [i_0, i_1, i_2, i_3, i_4, i_5, i_6, i_7, i_8, i_9, i_10, i_11, i_12, i_13, i_14, i_15, i_16, i_17, i_18, i_19, i_20, i_21, i_22, i_23, i_24, i_25, i_26, i_27, i_31, i_32, i_40, i_42, i_45, i_48, i_51, i_52, i_56, i_58, i_59, i_60, i_61, i_62, i_63, i_64, i_85, i_90, i_100, i_112, i_120, i_121, i_127, i_128, i_130, i_144, i_171, i_192, i_193, i_197, i_200, i_207, i_235, i_240, i_248, i_252, i_254, i_255, i_256, i_512, i_544, i_768, i_769, i_793, i_1000, i_1023, i_1024, i_1200, i_1538, i_1541, i_1545, i_2046, i_2047, i_2049, i_2060, i_2736, i_2737, i_2817, i_2818, i_2819, i_2820, i_2821, i_2831, i_2832, i_3077, i_3085, i_3843, i_3849, i_3851, i_3852, i_4129, i_4353, i_4865, i_5121, i_5122, i_5123, i_6156, i_8192, i_12288, i_16383, i_32000, i_33280, i_49152, i_53247, i_60304, i_64000, i_64512, i_65521, i_65535, i_449838109, nI_add, pk_mul, pk_sub, nI_mm, nI_leI, nI_ltI, nI_eq, pk_div, jrem_N, jshl_N, jshr_N, jushr_N, jmin_N, jmax_N, an_1, an_3, an_7, an_15, an_31, an_63, an_127, an_255, an_1023, an_2047, an_16383, an_65535, nm, pfI, rdI, rdW, rdL, rdI2, rdW2, ldA_N, stA_N, stB_N, stZ_N, pfZ_0, pfZ_1, rtZ_0, rtZ_1, acp_N, Option.bind_some, wp_some_iff, true_and, and_true, false_and, and_false, or_true, true_or, or_false, false_or, not_true_eq_false, not_false_eq_true, if_true, if_false, if_pos, if_neg, lt_sub, le_sub, sub_lt3, sub_le3, y0, htg]
    refine wp_bind (chgSt_C y2 (by omega)) (fun m2 ⟨h2, e2⟩ => ?_)
    refine wp_bind (shrem_C (y1.fr e2 (fun c k _ _ => by omega)) (by omega)) (fun m3 ⟨h3, e3⟩ => ?_)
    refine hk m3 ⟨by rw [← drop_era]; exact h3, ?_, (y3.tr e2 (fun _ _ q => q) (by intro c k h; omega)).tr e3 (fun _ _ q => q) (by intro c k h; omega)⟩
    rw [chgN, hx2, nt_nI (by omega)]
    exact h2.fr e3 (by omega) (fun c k _ _ => by omega)
  · have y0 := y1.1
    have hd : (w.2.1.drop n).length = w.2.1.length - n := List.length_drop
    rw [hd] at y0
    have x1 : WC m t (w.1, w.2.1.drop n, w.2.2.1, chgN t w.2.2.2.1 w.2.1 (nI 2) (nI 3) n, w.2.2.2.2) := ⟨w1.fr y3 (fun k => by omega), w2.fr y3 (fun k _ _ => by omega), y1, w4.fr y3 (fun c k _ _ => by omega), y2, w6.fr y3 (fun c k _ _ => by omega)⟩
    have x2 := (x1.st (k := 10) (i := 2) (x := nI x) rfl).st (k := 11) (i := 3) (x := nI 1) rfl
    unfold b139_13 c139_59
    simp (disch := omega) only [i_0, i_1, i_2, i_3, i_4, i_5, i_6, i_7, i_8, i_9, i_10, i_11, i_12, i_13, i_14, i_15, i_16, i_17, i_18, i_19, i_20, i_21, i_22, i_23, i_24, i_25, i_26, i_27, i_31, i_32, i_40, i_42, i_45, i_48, i_51, i_52, i_56, i_58, i_59, i_60, i_61, i_62, i_63, i_64, i_85, i_90, i_100, i_112, i_120, i_121, i_127, i_128, i_130, i_144, i_171, i_192, i_193, i_197, i_200, i_207, i_235, i_240, i_248, i_252, i_254, i_255, i_256, i_512, i_544, i_768, i_769, i_793, i_1000, i_1023, i_1024, i_1200, i_1538, i_1541, i_1545, i_2046, i_2047, i_2049, i_2060, i_2736, i_2737, i_2817, i_2818, i_2819, i_2820, i_2821, i_2831, i_2832, i_3077, i_3085, i_3843, i_3849, i_3851, i_3852, i_4129, i_4353, i_4865, i_5121, i_5122, i_5123, i_6156, i_8192, i_12288, i_16383, i_32000, i_33280, i_49152, i_53247, i_60304, i_64000, i_64512, i_65521, i_65535, i_449838109, nI_add, pk_mul, pk_sub, nI_mm, nI_leI, nI_ltI, nI_eq, pk_div, jrem_N, jshl_N, jshr_N, jushr_N, jmin_N, jmax_N, an_1, an_3, an_7, an_15, an_31, an_63, an_127, an_255, an_1023, an_2047, an_16383, an_65535, nm, pfI, rdI, rdW, rdL, rdI2, rdW2, ldA_N, stA_N, stB_N, stZ_N, pfZ_0, pfZ_1, rtZ_0, rtZ_1, acp_N, Option.bind_some, wp_some_iff, true_and, and_true, false_and, and_false, or_true, true_or, or_false, false_or, not_true_eq_false, not_false_eq_true, if_true, if_false, if_pos, if_neg, lt_sub, le_sub, sub_lt3, sub_le3, y0]
    unfold clrZ
    have e1 : Fr FG μ (setI (setI m 28 10 (nI x)) 28 11 (nI 1)) := ((y3.mono (by intro c k h; omega)).pI (by omega)).pI (by omega)
    by_cases e : w.2.1.length - n = 0
    · rw [if_pos e, if_pos e]
      exact wp_some ⟨x2.st (k := 14) (i := 6) rfl, e1.pI (by omega)⟩
    · rw [if_neg e, if_neg e]
      exact wp_some ⟨x2, e1⟩
theorem clr_I {t x : Nat} {w : Wd} (h : WI w) (hx : x < 256) (hn : (x + 256 - nt (w.1 2)) % 256 ≤ w.2.1.length) : WI (clrW t w x) := by
  obtain ⟨i1, i2, s, a, k, hs, ha, hk2, hz1, hz2, hz5, hsa⟩ := h
  have hnd : nt (w.1 2) = a := by rw [hz2, nt_nI (by omega)]
  rw [hnd] at hn
  have hil := i1.1
  have hd : (w.2.1.drop ((x + 256 - a) % 256)).length = w.2.1.length - (x + 256 - a) % 256 := List.length_drop
  have cz : ∀ i, i ≠ 2 → i ≠ 3 → i ≠ 6 → clrZ w.1 x (w.2.1.length - (x + 256 - nt (w.1 2)) % 256) i = w.1 i := by
    intro i q1 q2 q3
    unfold clrZ
    by_cases e : w.2.1.length - (x + 256 - nt (w.1 2)) % 256 = 0
    · rw [if_pos e, upL_o q3, upL_o q2, upL_o q1]
    · rw [if_neg e, upL_o q2, upL_o q1]
  have cz2 : clrZ w.1 x (w.2.1.length - (x + 256 - nt (w.1 2)) % 256) 2 = nI x := by
    unfold clrZ
    by_cases e : w.2.1.length - (x + 256 - nt (w.1 2)) % 256 = 0
    · rw [if_pos e, upL_o (by decide), upL_o (by decide), upL_s]
    · rw [if_neg e, upL_o (by decide), upL_s]
  refine ⟨?_, i2, s, x, k, hs, hx, hk2, ?_, cz2, ?_, ?_⟩
  · show Pok (w.2.1.drop _)
    rw [hnd]
    refine ⟨by omega, fun j hj => ?_⟩
    rw [pk_drop]
    exact i1.2 _ (by omega)
  · show clrZ _ _ _ 1 = _
    rw [cz 1 (by decide) (by decide) (by decide)]; exact hz1
  · show clrZ _ _ _ 5 = _
    rw [cz 5 (by decide) (by decide) (by decide)]; exact hz5
  · show s = (x + (w.2.1.drop _).length) % 256
    rw [hnd, hd]
    omega
theorem chg_eq {μ : Mem} {t r : Nat} {q : Nat → Rq} {f v : Int32} {kl : Mem → Option Mem} {Q : Mem → Prop} (h : ReqM μ t q) (hr : r < 2 ^ 20) (hf : f = nI 1 ∨ f = nI 2) (hk : ∀ m, ReqM m t (chgSt t q r f v) → Fr (fun c _ => c = 152) μ m → wp (kl m) Q) : wp ((f290 (nI r) μ).bind fun r4 => if r4.2 = f then (f289 (nI r) v r4.1).bind fun r9 => kl r9 else kl r4.1) Q := by
  rw [becameOf_M h (by omega), Option.bind_some]
  unfold chgSt at hk
  by_cases e1 : kpt t r
  · rw [if_pos e1]
    by_cases e2 : (q (r % 64)).1 = f
    · rw [if_pos e2]
      rw [if_pos ⟨e1, e2⟩] at hk
      refine wp_bind (setSt_M h (by omega)) (fun m ⟨h1, h2⟩ => hk m ?_ h2)
      rw [setSt, if_pos e1] at h1
      exact h1
    · rw [if_neg e2]
      rw [if_neg (fun z => e2 z.2)] at hk
      exact hk μ h Fr.rf
  · have hne : ¬ (-nI 2 = f) := by
      rcases hf with rfl | rfl
      · decide
      · decide
    rw [if_neg e1, if_neg hne]
    rw [if_neg (fun z => e1 z.1)] at hk
    exact hk μ h Fr.rf
theorem clr_M {μ : Mem} {t x : Nat} {w : Wd} (hw : WM μ t w) (hi : WI w) (hx : x < 256) (hn0 : 0 < (x + 256 - nt (w.1 2)) % 256) (hn : (x + 256 - nt (w.1 2)) % 256 ≤ w.2.1.length) : wp (f277 (nI x) μ) (fun m => WM m t (clrW t w x) ∧ Fr FGM μ m) := by
  obtain ⟨i1, i2, s, a, k, hs, ha, hk2, hz1, hz2, hz5, hsa⟩ := hi
  obtain ⟨w1, w2, w3, w4, w5⟩ := hw
  obtain ⟨z0, z1, z2, z3, z4, z5, z6, z7, z8, z9, z10⟩ := w1.a
  have hil := i1.1
  have g1 := gl_141
  have g2 := gl_142
  have g3 := gl_145
  have g4 := gl_144
  unfold clrW
  generalize hnd : (x + 256 - nt (w.1 2)) % 256 = n at *
  have hna : (x + 256 - a) % 256 = n := by rw [hz2, nt_nI (by omega)] at hnd; exact hnd
  unfold f277 l277_13
  rw [z2, hz2, i_255, sub255 hx ha, hna]
  simp (disch := omega) only [i_0, i_1, i_2, i_3, i_4, i_5, i_6, i_7, i_8, i_9, i_10, i_11, i_12, i_13, i_14, i_15, i_16, i_17, i_18, i_19, i_20, i_21, i_22, i_23, i_24, i_25, i_26, i_27, i_31, i_32, i_40, i_42, i_45, i_48, i_51, i_52, i_56, i_58, i_59, i_60, i_61, i_62, i_63, i_64, i_85, i_90, i_100, i_112, i_120, i_121, i_127, i_128, i_130, i_144, i_171, i_192, i_193, i_197, i_200, i_207, i_235, i_240, i_248, i_252, i_254, i_255, i_256, i_512, i_544, i_768, i_769, i_793, i_1000, i_1023, i_1024, i_1200, i_1538, i_1541, i_1545, i_2046, i_2047, i_2049, i_2060, i_2736, i_2737, i_2817, i_2818, i_2819, i_2820, i_2821, i_2831, i_2832, i_3077, i_3085, i_3843, i_3849, i_3851, i_3852, i_4129, i_4353, i_4865, i_5121, i_5122, i_5123, i_6156, i_8192, i_12288, i_16383, i_32000, i_33280, i_49152, i_53247, i_60304, i_64000, i_64512, i_65521, i_65535, i_449838109, nI_add, pk_mul, pk_sub, nI_mm, nI_leI, nI_ltI, nI_eq, pk_div, jrem_N, jshl_N, jshr_N, jushr_N, jmin_N, jmax_N, an_1, an_3, an_7, an_15, an_31, an_63, an_127, an_255, an_1023, an_2047, an_16383, an_65535, nm, pfI, rdI, rdW, rdL, rdI2, rdW2, ldA_N, stA_N, stB_N, stZ_N, pfZ_0, pfZ_1, rtZ_0, rtZ_1, acp_N, Option.bind_some, wp_some_iff, true_and, and_true, false_and, and_false, or_true, true_or, or_false, false_or, not_true_eq_false, not_false_eq_true, if_true, if_false, if_pos, if_neg, lt_sub, le_sub, sub_lt3, sub_le3]
  refine wp_for (fun i m => (nI x, nI n, nI i, m)) (fun i m => ReqM m t (chgN t w.2.2.2.1 w.2.1 (nI 2) (nI 3) i) ∧ Fr (fun c _ => c = 152) μ m) n (by omega) μ _ rfl ⟨w4, Fr.rf⟩ (fun self i m hi2 ⟨y1, y2⟩ hk => ?_) (fun self m ⟨y1, y2⟩ => ?_)
  · obtain ⟨hx1, ⟨r0, hr0, hx2⟩, hx3⟩ := i1.2 i (by omega)
    have tg : m.1 141 i = nI r0 := by rw [y2.1 _ _ (by omega), ← hx2]; exact w2.2.2.1 i (Nat.zero_le _) (by omega)
    have hcg : chgN t w.2.2.2.1 w.2.1 (nI 2) (nI 3) (i + 1) = chgSt t (chgN t w.2.2.2.1 w.2.1 (nI 2) (nI 3) i) r0 (nI 2) (nI 3) := by rw [chgN, hx2, nt_nI (by omega)]
    unfold b277_13 c277_43
    have A := chg_eq (kl := fun m => self (nI x, nI n, nI (i + 1), m)) (f := nI 2) (v := nI 3) y1 hr0 (Or.inr rfl) (fun m2 q1 q2 => hk m2 ⟨by rw [hcg]; exact q1, y2.tr' q2⟩)
    rw [becameOf_M y1 (by omega), Option.bind_some] at A
    simp (disch := omega) only [i_0, i_1, i_2, i_3, i_4, i_5, i_6, i_7, i_8, i_9, i_10, i_11, i_12, i_13, i_14, i_15, i_16, i_17, i_18, i_19, i_20, i_21, i_22, i_23, i_24, i_25, i_26, i_27, i_31, i_32, i_40, i_42, i_45, i_48, i_51, i_52, i_56, i_58, i_59, i_60, i_61, i_62, i_63, i_64, i_85, i_90, i_100, i_112, i_120, i_121, i_127, i_128, i_130, i_144, i_171, i_192, i_193, i_197, i_200, i_207, i_235, i_240, i_248, i_252, i_254, i_255, i_256, i_512, i_544, i_768, i_769, i_793, i_1000, i_1023, i_1024, i_1200, i_1538, i_1541, i_1545, i_2046, i_2047, i_2049, i_2060, i_2736, i_2737, i_2817, i_2818, i_2819, i_2820, i_2821, i_2831, i_2832, i_3077, i_3085, i_3843, i_3849, i_3851, i_3852, i_4129, i_4353, i_4865, i_5121, i_5122, i_5123, i_6156, i_8192, i_12288, i_16383, i_32000, i_33280, i_49152, i_53247, i_60304, i_64000, i_64512, i_65521, i_65535, i_449838109, nI_add, pk_mul, pk_sub, nI_mm, nI_leI, nI_ltI, nI_eq, pk_div, jrem_N, jshl_N, jshr_N, jushr_N, jmin_N, jmax_N, an_1, an_3, an_7, an_15, an_31, an_63, an_127, an_255, an_1023, an_2047, an_16383, an_65535, nm, pfI, rdI, rdW, rdL, rdI2, rdW2, ldA_N, stA_N, stB_N, stZ_N, pfZ_0, pfZ_1, rtZ_0, rtZ_1, acp_N, Option.bind_some, wp_some_iff, true_and, and_true, false_and, and_false, or_true, true_or, or_false, false_or, not_true_eq_false, not_false_eq_true, if_true, if_false, if_pos, if_neg, lt_sub, le_sub, sub_lt3, sub_le3, tg, becameOf_M y1 (show r0 < 2 ^ 30 by omega)]
    exact A
  · unfold b277_13 l277_51
    simp (disch := omega) only [i_0, i_1, i_2, i_3, i_4, i_5, i_6, i_7, i_8, i_9, i_10, i_11, i_12, i_13, i_14, i_15, i_16, i_17, i_18, i_19, i_20, i_21, i_22, i_23, i_24, i_25, i_26, i_27, i_31, i_32, i_40, i_42, i_45, i_48, i_51, i_52, i_56, i_58, i_59, i_60, i_61, i_62, i_63, i_64, i_85, i_90, i_100, i_112, i_120, i_121, i_127, i_128, i_130, i_144, i_171, i_192, i_193, i_197, i_200, i_207, i_235, i_240, i_248, i_252, i_254, i_255, i_256, i_512, i_544, i_768, i_769, i_793, i_1000, i_1023, i_1024, i_1200, i_1538, i_1541, i_1545, i_2046, i_2047, i_2049, i_2060, i_2736, i_2737, i_2817, i_2818, i_2819, i_2820, i_2821, i_2831, i_2832, i_3077, i_3085, i_3843, i_3849, i_3851, i_3852, i_4129, i_4353, i_4865, i_5121, i_5122, i_5123, i_6156, i_8192, i_12288, i_16383, i_32000, i_33280, i_49152, i_53247, i_60304, i_64000, i_64512, i_65521, i_65535, i_449838109, nI_add, pk_mul, pk_sub, nI_mm, nI_leI, nI_ltI, nI_eq, pk_div, jrem_N, jshl_N, jshr_N, jushr_N, jmin_N, jmax_N, an_1, an_3, an_7, an_15, an_31, an_63, an_127, an_255, an_1023, an_2047, an_16383, an_65535, nm, pfI, rdI, rdW, rdL, rdI2, rdW2, ldA_N, stA_N, stB_N, stZ_N, pfZ_0, pfZ_1, rtZ_0, rtZ_1, acp_N, Option.bind_some, wp_some_iff, true_and, and_true, false_and, and_false, or_true, true_or, or_false, false_or, not_true_eq_false, not_false_eq_true, if_true, if_false, if_pos, if_neg, lt_sub, le_sub, sub_lt3, sub_le3]
    have w2' : SntM m w.2.1 := w2.fr y2 (by omega) (fun c k _ => by omega)
    obtain ⟨u1, u2, u3, u4⟩ := w2'
    have st0 : (nI x, nI n, nI n, m) = (nI x, nI n, nI (n + 0), m) := rfl
    rw [st0]
    refine wp_for (fun i m => (nI x, nI n, nI (n + i), m)) (fun i m2 => QF m2 144 145 60 0 w.2.1.length (shf n (fun i => (pk w.2.1 i).1) i) ∧ TF m2 141 0 w.2.1.length (shf n (fun i => (pk w.2.1 i).2.1) i) ∧ TF m2 142 0 w.2.1.length (shf n (fun i => (pk w.2.1 i).2.2) i) ∧ Fr (fun c k => c = 141 ∨ c = 142 ∨ c = 144 ∨ c = 145) m m2) (w.2.1.length - n) (by omega) m _ rfl ⟨by rw [shf_0]; exact u2, by rw [shf_0]; exact u3, by rw [shf_0]; exact u4, Fr.rf⟩ (fun self i m2 hi2 ⟨v1, v2, v3, v4⟩ hk => ?_) (fun self m2 ⟨v1, v2, v3, v4⟩ => ?_)
    · have c1 : m2.1 129 41 = nI w.2.1.length := by rw [v4.1 _ _ (by omega)]; exact u1
      obtain ⟨o1, o2, o3⟩ := v1 (n + i) (Nat.zero_le _) (by omega)
      have o4 := v2 (n + i) (Nat.zero_le _) (by omega)
      have o5 := v3 (n + i) (Nat.zero_le _) (by omega)
      rw [shf_ge (by omega)] at o1 o2 o3 o4 o5
      have om := (i1.2 (n + i) (by omega)).2.2
      have om1 : (pk w.2.1 (n + i)).2.2 &&& nI 1 = (pk w.2.1 (n + i)).2.2 := by
        rcases om with om | om
        · rw [om]; decide
        · rw [om]; decide
      unfold b277_51
      simp (disch := omega) only [i_0, i_1, i_2, i_3, i_4, i_5, i_6, i_7, i_8, i_9, i_10, i_11, i_12, i_13, i_14, i_15, i_16, i_17, i_18, i_19, i_20, i_21, i_22, i_23, i_24, i_25, i_26, i_27, i_31, i_32, i_40, i_42, i_45, i_48, i_51, i_52, i_56, i_58, i_59, i_60, i_61, i_62, i_63, i_64, i_85, i_90, i_100, i_112, i_120, i_121, i_127, i_128, i_130, i_144, i_171, i_192, i_193, i_197, i_200, i_207, i_235, i_240, i_248, i_252, i_254, i_255, i_256, i_512, i_544, i_768, i_769, i_793, i_1000, i_1023, i_1024, i_1200, i_1538, i_1541, i_1545, i_2046, i_2047, i_2049, i_2060, i_2736, i_2737, i_2817, i_2818, i_2819, i_2820, i_2821, i_2831, i_2832, i_3077, i_3085, i_3843, i_3849, i_3851, i_3852, i_4129, i_4353, i_4865, i_5121, i_5122, i_5123, i_6156, i_8192, i_12288, i_16383, i_32000, i_33280, i_49152, i_53247, i_60304, i_64000, i_64512, i_65521, i_65535, i_449838109, nI_add, pk_mul, pk_sub, nI_mm, nI_leI, nI_ltI, nI_eq, pk_div, jrem_N, jshl_N, jshr_N, jushr_N, jmin_N, jmax_N, an_1, an_3, an_7, an_15, an_31, an_63, an_127, an_255, an_1023, an_2047, an_16383, an_65535, nm, pfI, rdI, rdW, rdL, rdI2, rdW2, ldA_N, stA_N, stB_N, stZ_N, pfZ_0, pfZ_1, rtZ_0, rtZ_1, acp_N, Option.bind_some, wp_some_iff, true_and, and_true, false_and, and_false, or_true, true_or, or_false, false_or, not_true_eq_false, not_false_eq_true, if_true, if_false, if_pos, if_neg, lt_sub, le_sub, sub_lt3, sub_le3, c1, o1, o4, o5, om1]
      rw [show n + i - n = i by omega]
      refine wp_bind (move_M (((o3.set_o (a := 141) (j := i) (x := (pk w.2.1 (n + i)).2.1) (by omega)).set_o (a := 142) (j := i) (x := (pk w.2.1 (n + i)).2.2) (by omega)).set_o (a := 145) (j := i) (x := nI (pk w.2.1 (n + i)).1.length) (by omega)) rfl (by omega) (by omega) (by omega) (by omega)) (fun m3 ⟨s3, e3⟩ => ?_)
      rw [show n + i + 1 = n + (i + 1) by omega]
      refine hk m3 ⟨?_, ?_, ?_, ?_⟩
      · rw [← shf_up, Nat.add_comm i n]
        exact QF.put ((v1.set_o (by decide) (by decide)).set_o (by decide) (by decide)) o2 s3 e3 (by decide) (Or.inl (Nat.le_refl _))
      · rw [← shf_up, Nat.add_comm i n]
        exact (((v2.put (Or.inl (Nat.le_refl _))).set_o (by decide)).set_o (by decide)).fr e3 (fun k => by omega)
      · rw [← shf_up, Nat.add_comm i n]
        exact (((v3.set_o (by decide)).put (Or.inl (Nat.le_refl _))).set_o (by decide)).fr e3 (fun k => by omega)
      · exact (((v4.pI (by omega)).pI (by omega)).pI (by omega)).tr e3 (fun _ _ q => q) (by intro c k h; omega)
    · have c1 : m2.1 129 41 = nI w.2.1.length := by rw [v4.1 _ _ (by omega)]; exact u1
      have hd : (w.2.1.drop n).length = w.2.1.length - n := List.length_drop
      have fA : Fr (fun c _ => c = 141 ∨ c = 142 ∨ c = 144 ∨ c = 145 ∨ c = 152) μ m2 := y2.tr v4 (by intro c k h; omega) (by intro c k h; omega)
      have b0 : SntM (setI m2 129 41 (nI (w.2.1.length - n))) (w.2.1.drop n) := by
        refine ⟨by rw [hd]; simp (disch := omega) only [i_0, i_1, i_2, i_3, i_4, i_5, i_6, i_7, i_8, i_9, i_10, i_11, i_12, i_13, i_14, i_15, i_16, i_17, i_18, i_19, i_20, i_21, i_22, i_23, i_24, i_25, i_26, i_27, i_31, i_32, i_40, i_42, i_45, i_48, i_51, i_52, i_56, i_58, i_59, i_60, i_61, i_62, i_63, i_64, i_85, i_90, i_100, i_112, i_120, i_121, i_127, i_128, i_130, i_144, i_171, i_192, i_193, i_197, i_200, i_207, i_235, i_240, i_248, i_252, i_254, i_255, i_256, i_512, i_544, i_768, i_769, i_793, i_1000, i_1023, i_1024, i_1200, i_1538, i_1541, i_1545, i_2046, i_2047, i_2049, i_2060, i_2736, i_2737, i_2817, i_2818, i_2819, i_2820, i_2821, i_2831, i_2832, i_3077, i_3085, i_3843, i_3849, i_3851, i_3852, i_4129, i_4353, i_4865, i_5121, i_5122, i_5123, i_6156, i_8192, i_12288, i_16383, i_32000, i_33280, i_49152, i_53247, i_60304, i_64000, i_64512, i_65521, i_65535, i_449838109, nI_add, pk_mul, pk_sub, nI_mm, nI_leI, nI_ltI, nI_eq, pk_div, jrem_N, jshl_N, jshr_N, jushr_N, jmin_N, jmax_N, an_1, an_3, an_7, an_15, an_31, an_63, an_127, an_255, an_1023, an_2047, an_16383, an_65535, nm, pfI, rdI, rdW, rdL, rdI2, rdW2, ldA_N, stA_N, stB_N, stZ_N, pfZ_0, pfZ_1, rtZ_0, rtZ_1, acp_N, Option.bind_some, wp_some_iff, true_and, and_true, false_and, and_false, or_true, true_or, or_false, false_or, not_true_eq_false, not_false_eq_true, if_true, if_false, if_pos, if_neg, lt_sub, le_sub, sub_lt3, sub_le3], ?_, ?_, ?_⟩
        · rw [hd]
          refine (v1.set_o (by decide) (by decide)).cg (by omega) (fun j _ hj => ?_)
          rw [pk_drop, shf_lt hj]
        · rw [hd]
          refine (v2.set_o (by decide)).cg (by omega) (fun j _ hj => ?_)
          rw [pk_drop, shf_lt hj]
        · rw [hd]
          refine (v3.set_o (by decide)).cg (by omega) (fun j _ hj => ?_)
          rw [pk_drop, shf_lt hj]
      have x1 : WM (setI m2 129 41 (nI (w.2.1.length - n))) t (w.1, w.2.1.drop n, w.2.2.1, chgN t w.2.2.2.1 w.2.1 (nI 2) (nI 3) n, w.2.2.2.2) := ⟨(w1.fr fA (fun k _ _ => by omega)).set_o (by omega), b0, (w3.fr fA (by omega) (fun c k _ => by omega)).set_o (by omega), (y1.fr v4 (by omega) (fun c k _ _ => by omega)).set_o (by omega), LM.set_o (w5.fr fA (fun c k _ _ => by omega)) (by omega)⟩
      have x2 := (x1.st (k := 30) (i := 2) (x := nI x) rfl (by decide)).st (k := 31) (i := 3) (x := nI 1) rfl (by decide)
      have z6' : m2.1 129 34 = w.1 6 := by rw [fA.1 _ _ (by omega)]; exact z6
      unfold b277_51 c277_170
      simp (disch := omega) only [i_0, i_1, i_2, i_3, i_4, i_5, i_6, i_7, i_8, i_9, i_10, i_11, i_12, i_13, i_14, i_15, i_16, i_17, i_18, i_19, i_20, i_21, i_22, i_23, i_24, i_25, i_26, i_27, i_31, i_32, i_40, i_42, i_45, i_48, i_51, i_52, i_56, i_58, i_59, i_60, i_61, i_62, i_63, i_64, i_85, i_90, i_100, i_112, i_120, i_121, i_127, i_128, i_130, i_144, i_171, i_192, i_193, i_197, i_200, i_207, i_235, i_240, i_248, i_252, i_254, i_255, i_256, i_512, i_544, i_768, i_769, i_793, i_1000, i_1023, i_1024, i_1200, i_1538, i_1541, i_1545, i_2046, i_2047, i_2049, i_2060, i_2736, i_2737, i_2817, i_2818, i_2819, i_2820, i_2821, i_2831, i_2832, i_3077, i_3085, i_3843, i_3849, i_3851, i_3852, i_4129, i_4353, i_4865, i_5121, i_5122, i_5123, i_6156, i_8192, i_12288, i_16383, i_32000, i_33280, i_49152, i_53247, i_60304, i_64000, i_64512, i_65521, i_65535, i_449838109, nI_add, pk_mul, pk_sub, nI_mm, nI_leI, nI_ltI, nI_eq, pk_div, jrem_N, jshl_N, jshr_N, jushr_N, jmin_N, jmax_N, an_1, an_3, an_7, an_15, an_31, an_63, an_127, an_255, an_1023, an_2047, an_16383, an_65535, nm, pfI, rdI, rdW, rdL, rdI2, rdW2, ldA_N, stA_N, stB_N, stZ_N, pfZ_0, pfZ_1, rtZ_0, rtZ_1, acp_N, Option.bind_some, wp_some_iff, true_and, and_true, false_and, and_false, or_true, true_or, or_false, false_or, not_true_eq_false, not_false_eq_true, if_true, if_false, if_pos, if_neg, lt_sub, le_sub, sub_lt3, sub_le3, c1, z6']
      unfold clrZ
      have e1 : Fr FGM μ (setI (setI (setI m2 129 41 (nI (w.2.1.length - n))) 129 30 (nI x)) 129 31 (nI 1)) := (((fA.mono (by intro c k h; omega)).pI (by omega)).pI (by omega)).pI (by omega)
      by_cases e : w.2.1.length - n = 0
      · rw [if_pos e, if_pos e]
        exact wp_some ⟨x2.st (k := 34) (i := 6) rfl (by decide), e1.pI (by omega)⟩
      · rw [if_neg e, if_neg e]
        refine wp_some ⟨?_, e1.pI (by omega)⟩
        have x3 := x2.st (k := 34) (i := 6) (x := w.1 6) rfl (by decide)
        have : stZw (stZw (stZw (w.1, w.2.1.drop n, w.2.2.1, chgN t w.2.2.2.1 w.2.1 (nI 2) (nI 3) n, w.2.2.2.2) 2 (nI x)) 3 (nI 1)) 6 (w.1 6) = (upL (upL w.1 2 (nI x)) 3 (nI 1), w.2.1.drop n, w.2.2.1, chgN t w.2.2.2.1 w.2.1 (nI 2) (nI 3) n, w.2.2.2.2) := by
          unfold stZw
          dsimp only
          rw [upL_self (f := upL (upL w.1 2 (nI x)) 3 (nI 1)) (i := 6) (by rw [upL_o (by decide), upL_o (by decide)])]
        rw [this] at x3
        exact x3
/-! lose -/
theorem lse_C {μ : Mem} {t : Nat} {w : Wd} (hw : WC μ t w) (hi : WI w) : wp (f140 μ) (fun m => WC m t (lseW t w) ∧ Fr FG μ m) := by
  obtain ⟨i1, i2, s, a, k, hs, ha, hk2, hz1, hz2, hz5, hsa⟩ := hi
  obtain ⟨w1, w2, w3, w4, w5, w6⟩ := hw
  have hil := i1.1
  have hil2 := i2.1
  unfold f140 l140_2
  simp (disch := omega) only [i_0, i_1, i_2, i_3, i_4, i_5, i_6, i_7, i_8, i_9, i_10, i_11, i_12, i_13, i_14, i_15, i_16, i_17, i_18, i_19, i_20, i_21, i_22, i_23, i_24, i_25, i_26, i_27, i_31, i_32, i_40, i_42, i_45, i_48, i_51, i_52, i_56, i_58, i_59, i_60, i_61, i_62, i_63, i_64, i_85, i_90, i_100, i_112, i_120, i_121, i_127, i_128, i_130, i_144, i_171, i_192, i_193, i_197, i_200, i_207, i_235, i_240, i_248, i_252, i_254, i_255, i_256, i_512, i_544, i_768, i_769, i_793, i_1000, i_1023, i_1024, i_1200, i_1538, i_1541, i_1545, i_2046, i_2047, i_2049, i_2060, i_2736, i_2737, i_2817, i_2818, i_2819, i_2820, i_2821, i_2831, i_2832, i_3077, i_3085, i_3843, i_3849, i_3851, i_3852, i_4129, i_4353, i_4865, i_5121, i_5122, i_5123, i_6156, i_8192, i_12288, i_16383, i_32000, i_33280, i_49152, i_53247, i_60304, i_64000, i_64512, i_65521, i_65535, i_449838109, nI_add, pk_mul, pk_sub, nI_mm, nI_leI, nI_ltI, nI_eq, pk_div, jrem_N, jshl_N, jshr_N, jushr_N, jmin_N, jmax_N, an_1, an_3, an_7, an_15, an_31, an_63, an_127, an_255, an_1023, an_2047, an_16383, an_65535, nm, pfI, rdI, rdW, rdL, rdI2, rdW2, ldA_N, stA_N, stB_N, stZ_N, pfZ_0, pfZ_1, rtZ_0, rtZ_1, acp_N, Option.bind_some, wp_some_iff, true_and, and_true, false_and, and_false, or_true, true_or, or_false, false_or, not_true_eq_false, not_false_eq_true, if_true, if_false, if_pos, if_neg, lt_sub, le_sub, sub_lt3, sub_le3]
  refine wp_for (fun i m => (nI i, m)) (fun i m => ReqC m t (chgN t w.2.2.2.1 w.2.1 (nI 2) (nI 4) i) ∧ Fr (fun c _ => c = 24) μ m) w.2.1.length (by omega) μ _ rfl ⟨w5, Fr.rf⟩ (fun self i m hi2 ⟨y1, y2⟩ hk => ?_) (fun self m ⟨y1, y2⟩ => ?_)
  · obtain ⟨hx1, ⟨r0, hr0, hx2⟩, hx3⟩ := i1.2 i hi2
    have w3' := w3.fr y2 (fun c k _ _ => by omega)
    have htg := tagOf_y w3' hi2
    rw [hx2] at htg
    unfold b140_2
    simp (disch := omega) only [i_0, i_1, i_2, i_3, i_4, i_5, i_6, i_7, i_8, i_9, i_10, i_11, i_12, i_13, i_14, i_15, i_16, i_17, i_18, i_19, i_20, i_21, i_22, i_23, i_24, i_25, i_26, i_27, i_31, i_32, i_40, i_42, i_45, i_48, i_51, i_52, i_56, i_58, i_59, i_60, i_61, i_62, i_63, i_64, i_85, i_90, i_100, i_112, i_120, i_121, i_127, i_128, i_130, i_144, i_171, i_192, i_193, i_197, i_200, i_207, i_235, i_240, i_248, i_252, i_254, i_255, i_256, i_512, i_544, i_768, i_769, i_793, i_1000, i_1023, i_1024, i_1200, i_1538, i_1541, i_1545, i_2046, i_2047, i_2049, i_2060, i_2736, i_2737, i_2817, i_2818, i_2819, i_2820, i_2821, i_2831, i_2832, i_3077, i_3085, i_3843, i_3849, i_3851, i_3852, i_4129, i_4353, i_4865, i_5121, i_5122, i_5123, i_6156, i_8192, i_12288, i_16383, i_32000, i_33280, i_49152, i_53247, i_60304, i_64000, i_64512, i_65521, i_65535, i_449838109, nI_add, pk_mul, pk_sub, nI_mm, nI_leI, nI_ltI, nI_eq, pk_div, jrem_N, jshl_N, jshr_N, jushr_N, jmin_N, jmax_N, an_1, an_3, an_7, an_15, an_31, an_63, an_127, an_255, an_1023, an_2047, an_16383, an_65535, nm, pfI, rdI, rdW, rdL, rdI2, rdW2, ldA_N, stA_N, stB_N, stZ_N, pfZ_0, pfZ_1, rtZ_0, rtZ_1, acp_N, Option.bind_some, wp_some_iff, true_and, and_true, false_and, and_false, or_true, true_or, or_false, false_or, not_true_eq_false, not_false_eq_true, if_true, if_false, if_pos, if_neg, lt_sub, le_sub, sub_lt3, sub_le3, w3'.1, htg]
    refine wp_bind (chgSt_C y1 (by omega)) (fun m2 ⟨h2, e2⟩ => hk m2 ⟨?_, y2.tr' e2⟩)
    rw [chgN, hx2, nt_nI (by omega)]
    exact h2
  · have w3' := w3.fr y2 (fun c k _ _ => by omega)
    have w4' := w4.fr y2 (fun c k _ _ => by omega)
    unfold b140_2 l140_38
    simp (disch := omega) only [i_0, i_1, i_2, i_3, i_4, i_5, i_6, i_7, i_8, i_9, i_10, i_11, i_12, i_13, i_14, i_15, i_16, i_17, i_18, i_19, i_20, i_21, i_22, i_23, i_24, i_25, i_26, i_27, i_31, i_32, i_40, i_42, i_45, i_48, i_51, i_52, i_56, i_58, i_59, i_60, i_61, i_62, i_63, i_64, i_85, i_90, i_100, i_112, i_120, i_121, i_127, i_128, i_130, i_144, i_171, i_192, i_193, i_197, i_200, i_207, i_235, i_240, i_248, i_252, i_254, i_255, i_256, i_512, i_544, i_768, i_769, i_793, i_1000, i_1023, i_1024, i_1200, i_1538, i_1541, i_1545, i_2046, i_2047, i_2049, i_2060, i_2736, i_2737, i_2817, i_2818, i_2819, i_2820, i_2821, i_2831, i_2832, i_3077, i_3085, i_3843, i_3849, i_3851, i_3852, i_4129, i_4353, i_4865, i_5121, i_5122, i_5123, i_6156, i_8192, i_12288, i_16383, i_32000, i_33280, i_49152, i_53247, i_60304, i_64000, i_64512, i_65521, i_65535, i_449838109, nI_add, pk_mul, pk_sub, nI_mm, nI_leI, nI_ltI, nI_eq, pk_div, jrem_N, jshl_N, jshr_N, jushr_N, jmin_N, jmax_N, an_1, an_3, an_7, an_15, an_31, an_63, an_127, an_255, an_1023, an_2047, an_16383, an_65535, nm, pfI, rdI, rdW, rdL, rdI2, rdW2, ldA_N, stA_N, stB_N, stZ_N, pfZ_0, pfZ_1, rtZ_0, rtZ_1, acp_N, Option.bind_some, wp_some_iff, true_and, and_true, false_and, and_false, or_true, true_or, or_false, false_or, not_true_eq_false, not_false_eq_true, if_true, if_false, if_pos, if_neg, lt_sub, le_sub, sub_lt3, sub_le3, w3'.1]
    refine wp_for (fun i m => (nI i, m)) (fun i m2 => ReqC m2 t (chgN t (chgN t w.2.2.2.1 w.2.1 (nI 2) (nI 4) w.2.1.length) w.2.2.1 (nI 1) (nI 4) i) ∧ Fr (fun c _ => c = 24) m m2) w.2.2.1.length (by omega) m _ rfl ⟨y1, Fr.rf⟩ (fun self i m2 hi2 ⟨v1, v2⟩ hk => ?_) (fun self m2 ⟨v1, v2⟩ => ?_)
    · obtain ⟨hx1, ⟨r0, hr0, hx2⟩, hx3⟩ := i2.2 i hi2
      have w4'' := w4'.fr v2 (fun c k _ _ => by omega)
      have htg := tagOf_y w4'' hi2
      rw [hx2] at htg
      unfold b140_38
      simp (disch := omega) only [i_0, i_1, i_2, i_3, i_4, i_5, i_6, i_7, i_8, i_9, i_10, i_11, i_12, i_13, i_14, i_15, i_16, i_17, i_18, i_19, i_20, i_21, i_22, i_23, i_24, i_25, i_26, i_27, i_31, i_32, i_40, i_42, i_45, i_48, i_51, i_52, i_56, i_58, i_59, i_60, i_61, i_62, i_63, i_64, i_85, i_90, i_100, i_112, i_120, i_121, i_127, i_128, i_130, i_144, i_171, i_192, i_193, i_197, i_200, i_207, i_235, i_240, i_248, i_252, i_254, i_255, i_256, i_512, i_544, i_768, i_769, i_793, i_1000, i_1023, i_1024, i_1200, i_1538, i_1541, i_1545, i_2046, i_2047, i_2049, i_2060, i_2736, i_2737, i_2817, i_2818, i_2819, i_2820, i_2821, i_2831, i_2832, i_3077, i_3085, i_3843, i_3849, i_3851, i_3852, i_4129, i_4353, i_4865, i_5121, i_5122, i_5123, i_6156, i_8192, i_12288, i_16383, i_32000, i_33280, i_49152, i_53247, i_60304, i_64000, i_64512, i_65521, i_65535, i_449838109, nI_add, pk_mul, pk_sub, nI_mm, nI_leI, nI_ltI, nI_eq, pk_div, jrem_N, jshl_N, jshr_N, jushr_N, jmin_N, jmax_N, an_1, an_3, an_7, an_15, an_31, an_63, an_127, an_255, an_1023, an_2047, an_16383, an_65535, nm, pfI, rdI, rdW, rdL, rdI2, rdW2, ldA_N, stA_N, stB_N, stZ_N, pfZ_0, pfZ_1, rtZ_0, rtZ_1, acp_N, Option.bind_some, wp_some_iff, true_and, and_true, false_and, and_false, or_true, true_or, or_false, false_or, not_true_eq_false, not_false_eq_true, if_true, if_false, if_pos, if_neg, lt_sub, le_sub, sub_lt3, sub_le3, w4''.1, htg]
      refine wp_bind (chgSt_C v1 (by omega)) (fun m3 ⟨h2, e2⟩ => hk m3 ⟨?_, v2.tr' e2⟩)
      rw [chgN, hx2, nt_nI (by omega)]
      exact h2
    · have w4'' := w4'.fr v2 (fun c k _ _ => by omega)
      have w3'' := w3'.fr v2 (fun c k _ _ => by omega)
      have f2 : Fr (fun c _ => c = 24) μ m2 := y2.tr' v2
      unfold b140_38
      simp (disch := omega) only [i_0, i_1, i_2, i_3, i_4, i_5, i_6, i_7, i_8, i_9, i_10, i_11, i_12, i_13, i_14, i_15, i_16, i_17, i_18, i_19, i_20, i_21, i_22, i_23, i_24, i_25, i_26, i_27, i_31, i_32, i_40, i_42, i_45, i_48, i_51, i_52, i_56, i_58, i_59, i_60, i_61, i_62, i_63, i_64, i_85, i_90, i_100, i_112, i_120, i_121, i_127, i_128, i_130, i_144, i_171, i_192, i_193, i_197, i_200, i_207, i_235, i_240, i_248, i_252, i_254, i_255, i_256, i_512, i_544, i_768, i_769, i_793, i_1000, i_1023, i_1024, i_1200, i_1538, i_1541, i_1545, i_2046, i_2047, i_2049, i_2060, i_2736, i_2737, i_2817, i_2818, i_2819, i_2820, i_2821, i_2831, i_2832, i_3077, i_3085, i_3843, i_3849, i_3851, i_3852, i_4129, i_4353, i_4865, i_5121, i_5122, i_5123, i_6156, i_8192, i_12288, i_16383, i_32000, i_33280, i_49152, i_53247, i_60304, i_64000, i_64512, i_65521, i_65535, i_449838109, nI_add, pk_mul, pk_sub, nI_mm, nI_leI, nI_ltI, nI_eq, pk_div, jrem_N, jshl_N, jshr_N, jushr_N, jmin_N, jmax_N, an_1, an_3, an_7, an_15, an_31, an_63, an_127, an_255, an_1023, an_2047, an_16383, an_65535, nm, pfI, rdI, rdW, rdL, rdI2, rdW2, ldA_N, stA_N, stB_N, stZ_N, pfZ_0, pfZ_1, rtZ_0, rtZ_1, acp_N, Option.bind_some, wp_some_iff, true_and, and_true, false_and, and_false, or_true, true_or, or_false, false_or, not_true_eq_false, not_false_eq_true, if_true, if_false, if_pos, if_neg, lt_sub, le_sub, sub_lt3, sub_le3, w4''.1]
      refine wp_bind (shclear_C w3'') (fun m3 ⟨h3, e3⟩ => ?_)
      refine wp_bind (shclear_C (w4''.fr e3 (fun c k _ _ => by omega))) (fun m4 ⟨h4, e4⟩ => ?_)
      have f4 : Fr (fun c _ => 29 ≤ c ∧ c ≤ 40 ∨ c = 24) μ m4 := (f2.tr e3 (by intro c k h; omega) (by intro c k h; omega)).tr e4 (fun _ _ q => q) (by intro c k h; omega)
      have x1 : WC m4 t (w.1, [], [], chgN t (chgN t w.2.2.2.1 w.2.1 (nI 2) (nI 4) w.2.1.length) w.2.2.1 (nI 1) (nI 4) w.2.2.1.length, w.2.2.2.2) := ⟨w1.fr f4 (fun k => by omega), w2.fr f4 (fun k _ _ => by omega), h3.fr e4 (fun c k _ _ => by omega), h4, (v1.fr e3 (by omega) (fun c k _ _ => by omega)).fr e4 (by omega) (fun c k _ _ => by omega), w6.fr f4 (fun c k _ _ => by omega)⟩
      have z1 := x1.2.1.a.2.1
      dsimp only at z1
      simp (disch := omega) only [i_0, i_1, i_2, i_3, i_4, i_5, i_6, i_7, i_8, i_9, i_10, i_11, i_12, i_13, i_14, i_15, i_16, i_17, i_18, i_19, i_20, i_21, i_22, i_23, i_24, i_25, i_26, i_27, i_31, i_32, i_40, i_42, i_45, i_48, i_51, i_52, i_56, i_58, i_59, i_60, i_61, i_62, i_63, i_64, i_85, i_90, i_100, i_112, i_120, i_121, i_127, i_128, i_130, i_144, i_171, i_192, i_193, i_197, i_200, i_207, i_235, i_240, i_248, i_252, i_254, i_255, i_256, i_512, i_544, i_768, i_769, i_793, i_1000, i_1023, i_1024, i_1200, i_1538, i_1541, i_1545, i_2046, i_2047, i_2049, i_2060, i_2736, i_2737, i_2817, i_2818, i_2819, i_2820, i_2821, i_2831, i_2832, i_3077, i_3085, i_3843, i_3849, i_3851, i_3852, i_4129, i_4353, i_4865, i_5121, i_5122, i_5123, i_6156, i_8192, i_12288, i_16383, i_32000, i_33280, i_49152, i_53247, i_60304, i_64000, i_64512, i_65521, i_65535, i_449838109, nI_add, pk_mul, pk_sub, nI_mm, nI_leI, nI_ltI, nI_eq, pk_div, jrem_N, jshl_N, jshr_N, jushr_N, jmin_N, jmax_N, an_1, an_3, an_7, an_15, an_31, an_63, an_127, an_255, an_1023, an_2047, an_16383, an_65535, nm, pfI, rdI, rdW, rdL, rdI2, rdW2, ldA_N, stA_N, stB_N, stZ_N, pfZ_0, pfZ_1, rtZ_0, rtZ_1, acp_N, Option.bind_some, wp_some_iff, true_and, and_true, false_and, and_false, or_true, true_or, or_false, false_or, not_true_eq_false, not_false_eq_true, if_true, if_false, if_pos, if_neg, lt_sub, le_sub, sub_lt3, sub_le3, z1]
      exact ⟨(x1.st (k := 10) (i := 2) rfl).st (k := 17) (i := 9) rfl, ((f4.mono (by intro c k h; omega)).pI (by omega)).pI (by omega)⟩
theorem lse_M {μ : Mem} {t : Nat} {w : Wd} (hw : WM μ t w) (hi : WI w) : wp (f278 μ) (fun m => WM m t (lseW t w) ∧ Fr FGM μ m) := by
  obtain ⟨i1, i2, s, a, k, hs, ha, hk2, hz1, hz2, hz5, hsa⟩ := hi
  obtain ⟨w1, w2, w3, w4, w5⟩ := hw
  have hil := i1.1
  have hil2 := i2.1
  have g1 := gl_141
  have g2 := gl_143
  unfold f278 l278_2
  simp (disch := omega) only [i_0, i_1, i_2, i_3, i_4, i_5, i_6, i_7, i_8, i_9, i_10, i_11, i_12, i_13, i_14, i_15, i_16, i_17, i_18, i_19, i_20, i_21, i_22, i_23, i_24, i_25, i_26, i_27, i_31, i_32, i_40, i_42, i_45, i_48, i_51, i_52, i_56, i_58, i_59, i_60, i_61, i_62, i_63, i_64, i_85, i_90, i_100, i_112, i_120, i_121, i_127, i_128, i_130, i_144, i_171, i_192, i_193, i_197, i_200, i_207, i_235, i_240, i_248, i_252, i_254, i_255, i_256, i_512, i_544, i_768, i_769, i_793, i_1000, i_1023, i_1024, i_1200, i_1538, i_1541, i_1545, i_2046, i_2047, i_2049, i_2060, i_2736, i_2737, i_2817, i_2818, i_2819, i_2820, i_2821, i_2831, i_2832, i_3077, i_3085, i_3843, i_3849, i_3851, i_3852, i_4129, i_4353, i_4865, i_5121, i_5122, i_5123, i_6156, i_8192, i_12288, i_16383, i_32000, i_33280, i_49152, i_53247, i_60304, i_64000, i_64512, i_65521, i_65535, i_449838109, nI_add, pk_mul, pk_sub, nI_mm, nI_leI, nI_ltI, nI_eq, pk_div, jrem_N, jshl_N, jshr_N, jushr_N, jmin_N, jmax_N, an_1, an_3, an_7, an_15, an_31, an_63, an_127, an_255, an_1023, an_2047, an_16383, an_65535, nm, pfI, rdI, rdW, rdL, rdI2, rdW2, ldA_N, stA_N, stB_N, stZ_N, pfZ_0, pfZ_1, rtZ_0, rtZ_1, acp_N, Option.bind_some, wp_some_iff, true_and, and_true, false_and, and_false, or_true, true_or, or_false, false_or, not_true_eq_false, not_false_eq_true, if_true, if_false, if_pos, if_neg, lt_sub, le_sub, sub_lt3, sub_le3]
  refine wp_for (fun i m => (nI i, m)) (fun i m => ReqM m t (chgN t w.2.2.2.1 w.2.1 (nI 2) (nI 4) i) ∧ Fr (fun c _ => c = 152) μ m) w.2.1.length (by omega) μ _ rfl ⟨w4, Fr.rf⟩ (fun self i m hi2 ⟨y1, y2⟩ hk => ?_) (fun self m ⟨y1, y2⟩ => ?_)
  · obtain ⟨hx1, ⟨r0, hr0, hx2⟩, hx3⟩ := i1.2 i hi2
    have tg : m.1 141 i = nI r0 := by rw [y2.1 _ _ (by omega), ← hx2]; exact w2.2.2.1 i (Nat.zero_le _) (by omega)
    have c1 : m.1 129 41 = nI w.2.1.length := by rw [y2.1 _ _ (by omega)]; exact w2.1
    have hcg : chgN t w.2.2.2.1 w.2.1 (nI 2) (nI 4) (i + 1) = chgSt t (chgN t w.2.2.2.1 w.2.1 (nI 2) (nI 4) i) r0 (nI 2) (nI 4) := by rw [chgN, hx2, nt_nI (by omega)]
    unfold b278_2 c278_35
    have A := chg_eq (kl := fun m => self (nI (i + 1), m)) (f := nI 2) (v := nI 4) y1 hr0 (Or.inr rfl) (fun m2 q1 q2 => hk m2 ⟨by rw [hcg]; exact q1, y2.tr' q2⟩)
    rw [becameOf_M y1 (by omega), Option.bind_some] at A
    simp (disch := omega) only [i_0, i_1, i_2, i_3, i_4, i_5, i_6, i_7, i_8, i_9, i_10, i_11, i_12, i_13, i_14, i_15, i_16, i_17, i_18, i_19, i_20, i_21, i_22, i_23, i_24, i_25, i_26, i_27, i_31, i_32, i_40, i_42, i_45, i_48, i_51, i_52, i_56, i_58, i_59, i_60, i_61, i_62, i_63, i_64, i_85, i_90, i_100, i_112, i_120, i_121, i_127, i_128, i_130, i_144, i_171, i_192, i_193, i_197, i_200, i_207, i_235, i_240, i_248, i_252, i_254, i_255, i_256, i_512, i_544, i_768, i_769, i_793, i_1000, i_1023, i_1024, i_1200, i_1538, i_1541, i_1545, i_2046, i_2047, i_2049, i_2060, i_2736, i_2737, i_2817, i_2818, i_2819, i_2820, i_2821, i_2831, i_2832, i_3077, i_3085, i_3843, i_3849, i_3851, i_3852, i_4129, i_4353, i_4865, i_5121, i_5122, i_5123, i_6156, i_8192, i_12288, i_16383, i_32000, i_33280, i_49152, i_53247, i_60304, i_64000, i_64512, i_65521, i_65535, i_449838109, nI_add, pk_mul, pk_sub, nI_mm, nI_leI, nI_ltI, nI_eq, pk_div, jrem_N, jshl_N, jshr_N, jushr_N, jmin_N, jmax_N, an_1, an_3, an_7, an_15, an_31, an_63, an_127, an_255, an_1023, an_2047, an_16383, an_65535, nm, pfI, rdI, rdW, rdL, rdI2, rdW2, ldA_N, stA_N, stB_N, stZ_N, pfZ_0, pfZ_1, rtZ_0, rtZ_1, acp_N, Option.bind_some, wp_some_iff, true_and, and_true, false_and, and_false, or_true, true_or, or_false, false_or, not_true_eq_false, not_false_eq_true, if_true, if_false, if_pos, if_neg, lt_sub, le_sub, sub_lt3, sub_le3, c1, tg, becameOf_M y1 (show r0 < 2 ^ 30 by omega)]
    exact A
  · have c1 : m.1 129 41 = nI w.2.1.length := by rw [y2.1 _ _ (by omega)]; exact w2.1
    unfold b278_2 l278_43
    simp (disch := omega) only [i_0, i_1, i_2, i_3, i_4, i_5, i_6, i_7, i_8, i_9, i_10, i_11, i_12, i_13, i_14, i_15, i_16, i_17, i_18, i_19, i_20, i_21, i_22, i_23, i_24, i_25, i_26, i_27, i_31, i_32, i_40, i_42, i_45, i_48, i_51, i_52, i_56, i_58, i_59, i_60, i_61, i_62, i_63, i_64, i_85, i_90, i_100, i_112, i_120, i_121, i_127, i_128, i_130, i_144, i_171, i_192, i_193, i_197, i_200, i_207, i_235, i_240, i_248, i_252, i_254, i_255, i_256, i_512, i_544, i_768, i_769, i_793, i_1000, i_1023, i_1024, i_1200, i_1538, i_1541, i_1545, i_2046, i_2047, i_2049, i_2060, i_2736, i_2737, i_2817, i_2818, i_2819, i_2820, i_2821, i_2831, i_2832, i_3077, i_3085, i_3843, i_3849, i_3851, i_3852, i_4129, i_4353, i_4865, i_5121, i_5122, i_5123, i_6156, i_8192, i_12288, i_16383, i_32000, i_33280, i_49152, i_53247, i_60304, i_64000, i_64512, i_65521, i_65535, i_449838109, nI_add, pk_mul, pk_sub, nI_mm, nI_leI, nI_ltI, nI_eq, pk_div, jrem_N, jshl_N, jshr_N, jushr_N, jmin_N, jmax_N, an_1, an_3, an_7, an_15, an_31, an_63, an_127, an_255, an_1023, an_2047, an_16383, an_65535, nm, pfI, rdI, rdW, rdL, rdI2, rdW2, ldA_N, stA_N, stB_N, stZ_N, pfZ_0, pfZ_1, rtZ_0, rtZ_1, acp_N, Option.bind_some, wp_some_iff, true_and, and_true, false_and, and_false, or_true, true_or, or_false, false_or, not_true_eq_false, not_false_eq_true, if_true, if_false, if_pos, if_neg, lt_sub, le_sub, sub_lt3, sub_le3, c1]
    refine wp_for (fun i m => (nI i, m)) (fun i m2 => ReqM m2 t (chgN t (chgN t w.2.2.2.1 w.2.1 (nI 2) (nI 4) w.2.1.length) w.2.2.1 (nI 1) (nI 4) i) ∧ Fr (fun c _ => c = 152) m m2) w.2.2.1.length (by omega) m _ rfl ⟨y1, Fr.rf⟩ (fun self i m2 hi2 ⟨v1, v2⟩ hk => ?_) (fun self m2 ⟨v1, v2⟩ => ?_)
    · obtain ⟨hx1, ⟨r0, hr0, hx2⟩, hx3⟩ := i2.2 i hi2
      have tg : m2.1 143 i = nI r0 := by rw [v2.1 _ _ (by omega), y2.1 _ _ (by omega), ← hx2]; exact w3.2.2 i (Nat.zero_le _) (by omega)
      have c2 : m2.1 129 43 = nI w.2.2.1.length := by rw [v2.1 _ _ (by omega), y2.1 _ _ (by omega)]; exact w3.1
      have hcg : chgN t (chgN t w.2.2.2.1 w.2.1 (nI 2) (nI 4) w.2.1.length) w.2.2.1 (nI 1) (nI 4) (i + 1) = chgSt t (chgN t (chgN t w.2.2.2.1 w.2.1 (nI 2) (nI 4) w.2.1.length) w.2.2.1 (nI 1) (nI 4) i) r0 (nI 1) (nI 4) := by rw [chgN, hx2, nt_nI (by omega)]
      unfold b278_43 c278_76
      have A := chg_eq (kl := fun m => self (nI (i + 1), m)) (f := nI 1) (v := nI 4) v1 hr0 (Or.inl rfl) (fun m2 q1 q2 => hk m2 ⟨by rw [hcg]; exact q1, v2.tr' q2⟩)
      rw [becameOf_M v1 (by omega), Option.bind_some] at A
      simp (disch := omega) only [i_0, i_1, i_2, i_3, i_4, i_5, i_6, i_7, i_8, i_9, i_10, i_11, i_12, i_13, i_14, i_15, i_16, i_17, i_18, i_19, i_20, i_21, i_22, i_23, i_24, i_25, i_26, i_27, i_31, i_32, i_40, i_42, i_45, i_48, i_51, i_52, i_56, i_58, i_59, i_60, i_61, i_62, i_63, i_64, i_85, i_90, i_100, i_112, i_120, i_121, i_127, i_128, i_130, i_144, i_171, i_192, i_193, i_197, i_200, i_207, i_235, i_240, i_248, i_252, i_254, i_255, i_256, i_512, i_544, i_768, i_769, i_793, i_1000, i_1023, i_1024, i_1200, i_1538, i_1541, i_1545, i_2046, i_2047, i_2049, i_2060, i_2736, i_2737, i_2817, i_2818, i_2819, i_2820, i_2821, i_2831, i_2832, i_3077, i_3085, i_3843, i_3849, i_3851, i_3852, i_4129, i_4353, i_4865, i_5121, i_5122, i_5123, i_6156, i_8192, i_12288, i_16383, i_32000, i_33280, i_49152, i_53247, i_60304, i_64000, i_64512, i_65521, i_65535, i_449838109, nI_add, pk_mul, pk_sub, nI_mm, nI_leI, nI_ltI, nI_eq, pk_div, jrem_N, jshl_N, jshr_N, jushr_N, jmin_N, jmax_N, an_1, an_3, an_7, an_15, an_31, an_63, an_127, an_255, an_1023, an_2047, an_16383, an_65535, nm, pfI, rdI, rdW, rdL, rdI2, rdW2, ldA_N, stA_N, stB_N, stZ_N, pfZ_0, pfZ_1, rtZ_0, rtZ_1, acp_N, Option.bind_some, wp_some_iff, true_and, and_true, false_and, and_false, or_true, true_or, or_false, false_or, not_true_eq_false, not_false_eq_true, if_true, if_false, if_pos, if_neg, lt_sub, le_sub, sub_lt3, sub_le3, c2, tg, becameOf_M v1 (show r0 < 2 ^ 30 by omega)]
      exact A
    · have c2 : m2.1 129 43 = nI w.2.2.1.length := by rw [v2.1 _ _ (by omega), y2.1 _ _ (by omega)]; exact w3.1
      have f2 : Fr (fun c _ => c = 152) μ m2 := y2.tr' v2
      have z1 : m2.1 129 29 = w.1 1 := by rw [f2.1 _ _ (by omega)]; exact w1.a.2.1
      unfold b278_43
      simp (disch := omega) only [i_0, i_1, i_2, i_3, i_4, i_5, i_6, i_7, i_8, i_9, i_10, i_11, i_12, i_13, i_14, i_15, i_16, i_17, i_18, i_19, i_20, i_21, i_22, i_23, i_24, i_25, i_26, i_27, i_31, i_32, i_40, i_42, i_45, i_48, i_51, i_52, i_56, i_58, i_59, i_60, i_61, i_62, i_63, i_64, i_85, i_90, i_100, i_112, i_120, i_121, i_127, i_128, i_130, i_144, i_171, i_192, i_193, i_197, i_200, i_207, i_235, i_240, i_248, i_252, i_254, i_255, i_256, i_512, i_544, i_768, i_769, i_793, i_1000, i_1023, i_1024, i_1200, i_1538, i_1541, i_1545, i_2046, i_2047, i_2049, i_2060, i_2736, i_2737, i_2817, i_2818, i_2819, i_2820, i_2821, i_2831, i_2832, i_3077, i_3085, i_3843, i_3849, i_3851, i_3852, i_4129, i_4353, i_4865, i_5121, i_5122, i_5123, i_6156, i_8192, i_12288, i_16383, i_32000, i_33280, i_49152, i_53247, i_60304, i_64000, i_64512, i_65521, i_65535, i_449838109, nI_add, pk_mul, pk_sub, nI_mm, nI_leI, nI_ltI, nI_eq, pk_div, jrem_N, jshl_N, jshr_N, jushr_N, jmin_N, jmax_N, an_1, an_3, an_7, an_15, an_31, an_63, an_127, an_255, an_1023, an_2047, an_16383, an_65535, nm, pfI, rdI, rdW, rdL, rdI2, rdW2, ldA_N, stA_N, stB_N, stZ_N, pfZ_0, pfZ_1, rtZ_0, rtZ_1, acp_N, Option.bind_some, wp_some_iff, true_and, and_true, false_and, and_false, or_true, true_or, or_false, false_or, not_true_eq_false, not_false_eq_true, if_true, if_false, if_pos, if_neg, lt_sub, le_sub, sub_lt3, sub_le3, c2, z1]
      have x1 : WM (setI (setI m2 129 41 (nI 0)) 129 43 (nI 0)) t (w.1, [], [], chgN t (chgN t w.2.2.2.1 w.2.1 (nI 2) (nI 4) w.2.1.length) w.2.2.1 (nI 1) (nI 4) w.2.2.1.length, w.2.2.2.2) := by
        refine ⟨((w1.fr f2 (fun k _ _ => by omega)).set_o (by omega)).set_o (by omega), ⟨by simp (disch := omega) only [i_0, i_1, i_2, i_3, i_4, i_5, i_6, i_7, i_8, i_9, i_10, i_11, i_12, i_13, i_14, i_15, i_16, i_17, i_18, i_19, i_20, i_21, i_22, i_23, i_24, i_25, i_26, i_27, i_31, i_32, i_40, i_42, i_45, i_48, i_51, i_52, i_56, i_58, i_59, i_60, i_61, i_62, i_63, i_64, i_85, i_90, i_100, i_112, i_120, i_121, i_127, i_128, i_130, i_144, i_171, i_192, i_193, i_197, i_200, i_207, i_235, i_240, i_248, i_252, i_254, i_255, i_256, i_512, i_544, i_768, i_769, i_793, i_1000, i_1023, i_1024, i_1200, i_1538, i_1541, i_1545, i_2046, i_2047, i_2049, i_2060, i_2736, i_2737, i_2817, i_2818, i_2819, i_2820, i_2821, i_2831, i_2832, i_3077, i_3085, i_3843, i_3849, i_3851, i_3852, i_4129, i_4353, i_4865, i_5121, i_5122, i_5123, i_6156, i_8192, i_12288, i_16383, i_32000, i_33280, i_49152, i_53247, i_60304, i_64000, i_64512, i_65521, i_65535, i_449838109, nI_add, pk_mul, pk_sub, nI_mm, nI_leI, nI_ltI, nI_eq, pk_div, jrem_N, jshl_N, jshr_N, jushr_N, jmin_N, jmax_N, an_1, an_3, an_7, an_15, an_31, an_63, an_127, an_255, an_1023, an_2047, an_16383, an_65535, nm, pfI, rdI, rdW, rdL, rdI2, rdW2, ldA_N, stA_N, stB_N, stZ_N, pfZ_0, pfZ_1, rtZ_0, rtZ_1, acp_N, Option.bind_some, wp_some_iff, true_and, and_true, false_and, and_false, or_true, true_or, or_false, false_or, not_true_eq_false, not_false_eq_true, if_true, if_false, if_pos, if_neg, lt_sub, le_sub, sub_lt3, sub_le3]; rfl, fun i _ h => absurd h (Nat.not_lt_zero _), fun i _ h => absurd h (Nat.not_lt_zero _), fun i _ h => absurd h (Nat.not_lt_zero _)⟩, ⟨by simp (disch := omega) only [i_0, i_1, i_2, i_3, i_4, i_5, i_6, i_7, i_8, i_9, i_10, i_11, i_12, i_13, i_14, i_15, i_16, i_17, i_18, i_19, i_20, i_21, i_22, i_23, i_24, i_25, i_26, i_27, i_31, i_32, i_40, i_42, i_45, i_48, i_51, i_52, i_56, i_58, i_59, i_60, i_61, i_62, i_63, i_64, i_85, i_90, i_100, i_112, i_120, i_121, i_127, i_128, i_130, i_144, i_171, i_192, i_193, i_197, i_200, i_207, i_235, i_240, i_248, i_252, i_254, i_255, i_256, i_512, i_544, i_768, i_769, i_793, i_1000, i_1023, i_1024, i_1200, i_1538, i_1541, i_1545, i_2046, i_2047, i_2049, i_2060, i_2736, i_2737, i_2817, i_2818, i_2819, i_2820, i_2821, i_2831, i_2832, i_3077, i_3085, i_3843, i_3849, i_3851, i_3852, i_4129, i_4353, i_4865, i_5121, i_5122, i_5123, i_6156, i_8192, i_12288, i_16383, i_32000, i_33280, i_49152, i_53247, i_60304, i_64000, i_64512, i_65521, i_65535, i_449838109, nI_add, pk_mul, pk_sub, nI_mm, nI_leI, nI_ltI, nI_eq, pk_div, jrem_N, jshl_N, jshr_N, jushr_N, jmin_N, jmax_N, an_1, an_3, an_7, an_15, an_31, an_63, an_127, an_255, an_1023, an_2047, an_16383, an_65535, nm, pfI, rdI, rdW, rdL, rdI2, rdW2, ldA_N, stA_N, stB_N, stZ_N, pfZ_0, pfZ_1, rtZ_0, rtZ_1, acp_N, Option.bind_some, wp_some_iff, true_and, and_true, false_and, and_false, or_true, true_or, or_false, false_or, not_true_eq_false, not_false_eq_true, if_true, if_false, if_pos, if_neg, lt_sub, le_sub, sub_lt3, sub_le3]; rfl, fun i _ h => absurd h (Nat.not_lt_zero _), fun i _ h => absurd h (Nat.not_lt_zero _)⟩, (v1.set_o (by omega)).set_o (by omega), LM.set_o (LM.set_o (w5.fr f2 (fun c k _ _ => by omega)) (by omega)) (by omega)⟩
      exact ⟨(x1.st (k := 30) (i := 2) rfl (by decide)).st (k := 37) (i := 9) rfl (by decide), ((((f2.mono (by intro c k h; omega)).pI (by omega)).pI (by omega)).pI (by omega)).pI (by omega)⟩
theorem stZ_I {w : Wd} {i : Nat} {x : Int32} (h : WI w) (hi : i ≠ 1 ∧ i ≠ 2 ∧ i ≠ 5) : WI (stZw w i x) := by
  obtain ⟨i1, i2, s, a, k, hs, ha, hk2, hz1, hz2, hz5, hsa⟩ := h
  exact ⟨i1, i2, s, a, k, hs, ha, hk2, by show upL _ _ _ 1 = _; rw [upL_o (by omega)]; exact hz1, by show upL _ _ _ 2 = _; rw [upL_o (by omega)]; exact hz2, by show upL _ _ _ 5 = _; rw [upL_o (by omega)]; exact hz5, hsa⟩
theorem Pok_nil : Pok [] := ⟨Nat.zero_le _, fun i h => absurd h (Nat.not_lt_zero _)⟩
theorem lse_I {t : Nat} {w : Wd} (h : WI w) : WI (lseW t w) := by
  obtain ⟨i1, i2, s, a, k, hs, ha, hk2, hz1, hz2, hz5, hsa⟩ := h
  refine ⟨Pok_nil, Pok_nil, s, s, k, hs, hs, hk2, ?_, ?_, ?_, ?_⟩
  · exact hz1
  · exact hz1
  · exact hz5
  · show s = (s + 0) % 256
    omega
theorem alm_I {t : Nat} {w : Wd} {v : Int32} (h : WI w) : WI (almW t w v) := stZ_I (stZ_I (lse_I (stZ_I h (by decide))) (by decide)) (by decide)
theorem alm_C {μ : Mem} {t : Nat} {w : Wd} {v : Int32} (hw : WC μ t w) (hi : WI w) : wp (f141 v μ) (fun m => WC m t (almW t w v) ∧ Fr FG μ m) := by
  unfold f141
  simp (disch := omega) only [i_0, i_1, i_2, i_3, i_4, i_5, i_6, i_7, i_8, i_9, i_10, i_11, i_12, i_13, i_14, i_15, i_16, i_17, i_18, i_19, i_20, i_21, i_22, i_23, i_24, i_25, i_26, i_27, i_31, i_32, i_40, i_42, i_45, i_48, i_51, i_52, i_56, i_58, i_59, i_60, i_61, i_62, i_63, i_64, i_85, i_90, i_100, i_112, i_120, i_121, i_127, i_128, i_130, i_144, i_171, i_192, i_193, i_197, i_200, i_207, i_235, i_240, i_248, i_252, i_254, i_255, i_256, i_512, i_544, i_768, i_769, i_793, i_1000, i_1023, i_1024, i_1200, i_1538, i_1541, i_1545, i_2046, i_2047, i_2049, i_2060, i_2736, i_2737, i_2817, i_2818, i_2819, i_2820, i_2821, i_2831, i_2832, i_3077, i_3085, i_3843, i_3849, i_3851, i_3852, i_4129, i_4353, i_4865, i_5121, i_5122, i_5123, i_6156, i_8192, i_12288, i_16383, i_32000, i_33280, i_49152, i_53247, i_60304, i_64000, i_64512, i_65521, i_65535, i_449838109, nI_add, pk_mul, pk_sub, nI_mm, nI_leI, nI_ltI, nI_eq, pk_div, jrem_N, jshl_N, jshr_N, jushr_N, jmin_N, jmax_N, an_1, an_3, an_7, an_15, an_31, an_63, an_127, an_255, an_1023, an_2047, an_16383, an_65535, nm, pfI, rdI, rdW, rdL, rdI2, rdW2, ldA_N, stA_N, stB_N, stZ_N, pfZ_0, pfZ_1, rtZ_0, rtZ_1, acp_N, Option.bind_some, wp_some_iff, true_and, and_true, false_and, and_false, or_true, true_or, or_false, false_or, not_true_eq_false, not_false_eq_true, if_true, if_false, if_pos, if_neg, lt_sub, le_sub, sub_lt3, sub_le3]
  refine wp_bind (lse_C (hw.st (k := 18) (i := 10) (x := v) rfl) (stZ_I hi (by decide))) (fun m2 ⟨h2, e2⟩ => ?_)
  simp (disch := omega) only [i_0, i_1, i_2, i_3, i_4, i_5, i_6, i_7, i_8, i_9, i_10, i_11, i_12, i_13, i_14, i_15, i_16, i_17, i_18, i_19, i_20, i_21, i_22, i_23, i_24, i_25, i_26, i_27, i_31, i_32, i_40, i_42, i_45, i_48, i_51, i_52, i_56, i_58, i_59, i_60, i_61, i_62, i_63, i_64, i_85, i_90, i_100, i_112, i_120, i_121, i_127, i_128, i_130, i_144, i_171, i_192, i_193, i_197, i_200, i_207, i_235, i_240, i_248, i_252, i_254, i_255, i_256, i_512, i_544, i_768, i_769, i_793, i_1000, i_1023, i_1024, i_1200, i_1538, i_1541, i_1545, i_2046, i_2047, i_2049, i_2060, i_2736, i_2737, i_2817, i_2818, i_2819, i_2820, i_2821, i_2831, i_2832, i_3077, i_3085, i_3843, i_3849, i_3851, i_3852, i_4129, i_4353, i_4865, i_5121, i_5122, i_5123, i_6156, i_8192, i_12288, i_16383, i_32000, i_33280, i_49152, i_53247, i_60304, i_64000, i_64512, i_65521, i_65535, i_449838109, nI_add, pk_mul, pk_sub, nI_mm, nI_leI, nI_ltI, nI_eq, pk_div, jrem_N, jshl_N, jshr_N, jushr_N, jmin_N, jmax_N, an_1, an_3, an_7, an_15, an_31, an_63, an_127, an_255, an_1023, an_2047, an_16383, an_65535, nm, pfI, rdI, rdW, rdL, rdI2, rdW2, ldA_N, stA_N, stB_N, stZ_N, pfZ_0, pfZ_1, rtZ_0, rtZ_1, acp_N, Option.bind_some, wp_some_iff, true_and, and_true, false_and, and_false, or_true, true_or, or_false, false_or, not_true_eq_false, not_false_eq_true, if_true, if_false, if_pos, if_neg, lt_sub, le_sub, sub_lt3, sub_le3]
  exact ⟨(h2.st (k := 14) (i := 6) rfl).st (k := 8) (i := 0) rfl, (((Fr.sI (by omega)).tr' e2).pI (by omega)).pI (by omega)⟩
theorem alm_M {μ : Mem} {t : Nat} {w : Wd} {v : Int32} (hw : WM μ t w) (hi : WI w) : wp (f279 v μ) (fun m => WM m t (almW t w v) ∧ Fr FGM μ m) := by
  unfold f279
  simp (disch := omega) only [i_0, i_1, i_2, i_3, i_4, i_5, i_6, i_7, i_8, i_9, i_10, i_11, i_12, i_13, i_14, i_15, i_16, i_17, i_18, i_19, i_20, i_21, i_22, i_23, i_24, i_25, i_26, i_27, i_31, i_32, i_40, i_42, i_45, i_48, i_51, i_52, i_56, i_58, i_59, i_60, i_61, i_62, i_63, i_64, i_85, i_90, i_100, i_112, i_120, i_121, i_127, i_128, i_130, i_144, i_171, i_192, i_193, i_197, i_200, i_207, i_235, i_240, i_248, i_252, i_254, i_255, i_256, i_512, i_544, i_768, i_769, i_793, i_1000, i_1023, i_1024, i_1200, i_1538, i_1541, i_1545, i_2046, i_2047, i_2049, i_2060, i_2736, i_2737, i_2817, i_2818, i_2819, i_2820, i_2821, i_2831, i_2832, i_3077, i_3085, i_3843, i_3849, i_3851, i_3852, i_4129, i_4353, i_4865, i_5121, i_5122, i_5123, i_6156, i_8192, i_12288, i_16383, i_32000, i_33280, i_49152, i_53247, i_60304, i_64000, i_64512, i_65521, i_65535, i_449838109, nI_add, pk_mul, pk_sub, nI_mm, nI_leI, nI_ltI, nI_eq, pk_div, jrem_N, jshl_N, jshr_N, jushr_N, jmin_N, jmax_N, an_1, an_3, an_7, an_15, an_31, an_63, an_127, an_255, an_1023, an_2047, an_16383, an_65535, nm, pfI, rdI, rdW, rdL, rdI2, rdW2, ldA_N, stA_N, stB_N, stZ_N, pfZ_0, pfZ_1, rtZ_0, rtZ_1, acp_N, Option.bind_some, wp_some_iff, true_and, and_true, false_and, and_false, or_true, true_or, or_false, false_or, not_true_eq_false, not_false_eq_true, if_true, if_false, if_pos, if_neg, lt_sub, le_sub, sub_lt3, sub_le3]
  refine wp_bind (lse_M (hw.st (k := 38) (i := 10) (x := v) rfl (by decide)) (stZ_I hi (by decide))) (fun m2 ⟨h2, e2⟩ => ?_)
  simp (disch := omega) only [i_0, i_1, i_2, i_3, i_4, i_5, i_6, i_7, i_8, i_9, i_10, i_11, i_12, i_13, i_14, i_15, i_16, i_17, i_18, i_19, i_20, i_21, i_22, i_23, i_24, i_25, i_26, i_27, i_31, i_32, i_40, i_42, i_45, i_48, i_51, i_52, i_56, i_58, i_59, i_60, i_61, i_62, i_63, i_64, i_85, i_90, i_100, i_112, i_120, i_121, i_127, i_128, i_130, i_144, i_171, i_192, i_193, i_197, i_200, i_207, i_235, i_240, i_248, i_252, i_254, i_255, i_256, i_512, i_544, i_768, i_769, i_793, i_1000, i_1023, i_1024, i_1200, i_1538, i_1541, i_1545, i_2046, i_2047, i_2049, i_2060, i_2736, i_2737, i_2817, i_2818, i_2819, i_2820, i_2821, i_2831, i_2832, i_3077, i_3085, i_3843, i_3849, i_3851, i_3852, i_4129, i_4353, i_4865, i_5121, i_5122, i_5123, i_6156, i_8192, i_12288, i_16383, i_32000, i_33280, i_49152, i_53247, i_60304, i_64000, i_64512, i_65521, i_65535, i_449838109, nI_add, pk_mul, pk_sub, nI_mm, nI_leI, nI_ltI, nI_eq, pk_div, jrem_N, jshl_N, jshr_N, jushr_N, jmin_N, jmax_N, an_1, an_3, an_7, an_15, an_31, an_63, an_127, an_255, an_1023, an_2047, an_16383, an_65535, nm, pfI, rdI, rdW, rdL, rdI2, rdW2, ldA_N, stA_N, stB_N, stZ_N, pfZ_0, pfZ_1, rtZ_0, rtZ_1, acp_N, Option.bind_some, wp_some_iff, true_and, and_true, false_and, and_false, or_true, true_or, or_false, false_or, not_true_eq_false, not_false_eq_true, if_true, if_false, if_pos, if_neg, lt_sub, le_sub, sub_lt3, sub_le3]
  exact ⟨(h2.st (k := 34) (i := 6) rfl (by decide)).st (k := 28) (i := 0) rfl (by decide), (((Fr.sI (by omega)).tr' e2).pI (by omega)).pI (by omega)⟩
