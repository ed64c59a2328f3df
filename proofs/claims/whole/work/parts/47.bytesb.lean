/-! ===== Bytes: the rest ===== -/
theorem jshr0 (v : Int32) : jshr v (nI 0) = v := by
  apply b_ext
  intro i hi
  rw [show jshr v (nI 0) = v >>> (nI 0 &&& 31) from rfl, b_sshr 0 (by decide) v hi, if_pos (by omega), Nat.zero_add]
theorem lowB_1 (v : Int32) : lowB v 1 = [byv v] := by
  show [byv (jshr v (nI 0))] = _
  rw [jshr0]
theorem lowB_2 (v : Int32) : lowB v 2 = [byv (jshr v 8), byv v] := by
  show [byv (jshr v (nI 8)), byv (jshr v (nI 0))] = _
  rw [jshr0]
  rfl
theorem lowB_4 (v : Int32) : lowB v 4 = [byv (jshr v 24), byv (jshr v 16), byv (jshr v 8), byv v] := by
  show [byv (jshr v (nI 24)), byv (jshr v (nI 16)), byv (jshr v (nI 8)), byv (jshr v (nI 0))] = _
  rw [jshr0]
  rfl
theorem cl_ok (a : Nat) (μ : Mem) : wp (f64 a μ) (fun m => Byt m a [] ∧ Fr (FB a) μ m) := wp_mono (clear_ok a μ) (fun m h => ⟨h.1, h.2.fr⟩)
theorem pu_ok {a : Nat} {bs : List Nat} {μ : Mem} (v : Int32) (h : Byt μ a bs) (hc : bs.length < gln (a + 1)) : wp (f65 a v μ) (fun m => Byt m a (bs ++ [byv v]) ∧ Fr (FB a) μ m) := wp_mono (put_ok v h hc) (fun m h => ⟨h.1, h.2.fr⟩)
theorem p2_ok {a : Nat} {bs : List Nat} {μ : Mem} (v : Int32) (h : Byt μ a bs) (hc : bs.length + 2 ≤ gln (a + 1)) : wp (f66 a v μ) (fun m => Byt m a (bs ++ lowB v 2) ∧ Fr (FB a) μ m) := wp_mono (putTwo_ok v h hc) (fun m h => ⟨by rw [lowB_2]; exact h.1, h.2.fr⟩)
theorem p4_ok {a : Nat} {bs : List Nat} {μ : Mem} (v : Int32) (h : Byt μ a bs) (hc : bs.length + 4 ≤ gln (a + 1)) : wp (f67 a v μ) (fun m => Byt m a (bs ++ lowB v 4) ∧ Fr (FB a) μ m) := wp_mono (putFour_ok v h hc) (fun m h => ⟨by rw [lowB_4]; exact h.1, h.2.fr⟩)
theorem pm_ok {a : Nat} {bs : List Nat} {μ : Mem} (v : Int32) (n : Nat) (h : Byt μ a bs) (hc : bs.length + n ≤ gln (a + 1)) (hn : n < 70000) : wp (f69 a v (nI n) μ) (fun m => Byt m a (bs ++ List.replicate n (byv v)) ∧ Fr (FB a) μ m) := wp_mono (putMany_ok v n h hc hn) (fun m h => ⟨h.1, h.2.fr⟩)
theorem mem_lt_app {l m : List Nat} (h1 : ∀ b, b ∈ l → b < 256) (h2 : ∀ b, b ∈ m → b < 256) : ∀ b, b ∈ l ++ m → b < 256 := fun b hb => (List.mem_append.mp hb).elim (h1 b) (h2 b)
theorem getD_app {l m : List Nat} {i d : Nat} : (l ++ m).getD i d = if i < l.length then l.getD i d else m.getD (i - l.length) d := by
  by_cases h : i < l.length
  · rw [if_pos h, getD_l h]
  · rw [if_neg h, getD_r (by omega)]
/-- a piece of a row of bytes -/
def SegB (μ : Mem) (p s : Nat) (xs : List Nat) : Prop := (∀ i, i < xs.length → μ.1 p (s + i) = sb_b (xs.getD i 0)) ∧ ∀ b, b ∈ xs → b < 256
theorem Byt.seg {μ : Mem} {a : Nat} {bs : List Nat} (h : Byt μ a bs) : SegB μ (a + 1) 0 bs := ⟨fun i hi => by rw [Nat.zero_add]; exact h.2.2.1 i hi, h.2.2.2⟩
theorem putRow_ok {a p s : Nat} {bs xs : List Nat} {μ : Mem} (h : Byt μ a bs) (hx : SegB μ p s xs) (hp : s + xs.length ≤ gln p) (hc : bs.length + xs.length ≤ gln (a + 1)) : wp (f70 a p (nI s) (nI xs.length) μ) (fun m => Byt m a (bs ++ xs) ∧ Fr (FB a) μ m) := by
  obtain ⟨b1, b2, b3, b4⟩ := h
  have hg := gln_le p
  have hg2 := gln_le (a + 1)
  unfold f70
  simp (disch := omega) only [i_0, i_1, i_2, i_3, i_4, i_5, i_6, i_7, i_8, i_9, i_10, i_11, i_12, i_13, i_14, i_15, i_16, i_17, i_18, i_19, i_20, i_21, i_22, i_23, i_24, i_25, i_26, i_27, i_31, i_32, i_40, i_42, i_45, i_48, i_51, i_52, i_56, i_58, i_59, i_60, i_61, i_62, i_63, i_64, i_85, i_90, i_100, i_112, i_120, i_121, i_127, i_128, i_130, i_144, i_171, i_192, i_193, i_197, i_200, i_207, i_235, i_240, i_248, i_252, i_254, i_255, i_256, i_512, i_544, i_768, i_769, i_793, i_1000, i_1023, i_1024, i_1200, i_1538, i_1541, i_1545, i_2046, i_2047, i_2049, i_2060, i_2736, i_2737, i_2817, i_2818, i_2819, i_2820, i_2821, i_2831, i_2832, i_3077, i_3085, i_3843, i_3849, i_3851, i_3852, i_4129, i_4353, i_4865, i_5121, i_5122, i_5123, i_6156, i_8192, i_12288, i_16383, i_32000, i_33280, i_49152, i_53247, i_60304, i_64000, i_64512, i_65521, i_65535, i_449838109, nI_add, pk_mul, pk_sub, nI_mm, nI_leI, nI_ltI, nI_eq, pk_div, jrem_N, jshl_N, jshr_N, jushr_N, jmin_N, jmax_N, an_1, an_3, an_7, an_15, an_31, an_63, an_127, an_255, an_1023, an_2047, an_16383, an_65535, nm, pfI, rdI, rdW, rdL, rdI2, rdW2, ldA_N, stA_N, stB_N, stZ_N, pfZ_0, pfZ_1, rtZ_0, rtZ_1, acp_N, Option.bind_some, wp_some_iff, true_and, and_true, false_and, and_false, or_true, true_or, or_false, false_or, not_true_eq_false, not_false_eq_true, if_true, if_false, if_pos, if_neg, b1]
  refine ⟨⟨?_, ?_, fun i hi => ?_, mem_lt_app b4 hx.2⟩, ?_⟩
  · rw [rdI, if_pos ⟨rfl, rfl⟩, List.length_append]
  · rw [List.length_append]; exact hc
  · rw [List.length_append] at hi
    rw [rdI, if_neg (by omega), rdW, if_pos rfl, getD_app]
    by_cases e : i < bs.length
    · rw [if_pos e, pk_cpy_out (by omega), b3 i e]
    · rw [if_neg e, pk_cpy_in (by omega) (by omega), hx.1 _ (by omega)]
  · exact Fr.pI (Fr.sW (fun k => Or.inr rfl)) (Or.inl rfl)
theorem putAll_ok {a p : Nat} {bs xs : List Nat} {μ : Mem} (h : Byt μ a bs) (hx : Byt μ p xs) (hc : bs.length + xs.length ≤ gln (a + 1)) : wp (f71 a p μ) (fun m => Byt m a (bs ++ xs) ∧ Fr (FB a) μ m) := by
  unfold f71
  rw [hx.1, i_0]
  refine wp_bind (putRow_ok h hx.seg (by rw [Nat.zero_add]; exact hx.2.1) hc) (fun m hm => wp_some hm)
theorem putCheck_ok {a : Nat} {bs : List Nat} {μ : Mem} (hT : Tb μ) (h : Byt μ a bs) (hc : bs.length + 2 ≤ gln (a + 1)) (hl : bs.length < 70000) : wp (f72 a μ) (fun m => Byt m a (bs ++ lowB (nI (crc bs)) 2) ∧ Fr (FB a) μ m) := by
  unfold f72
  rw [h.1, i_0, checkOf_ok hT h (Nat.zero_le _) (Nat.zero_le _) hl, List.drop_zero, List.take_of_length_le (Nat.le_refl _), Option.bind_some]
  refine wp_bind (p2_ok _ h hc) (fun m hm => wp_some hm)
theorem getD_set {l : List Nat} {i j v d : Nat} (h : i < l.length) : (l.set i v).getD j d = if j = i then v else l.getD j d := by
  rw [List.getD_eq_getElem?_getD, List.getD_eq_getElem?_getD]
  by_cases e : j = i
  · subst e
    rw [List.getElem?_set_self h, if_pos rfl]
    rfl
  · rw [List.getElem?_set_ne (fun q => e q.symm), if_neg e]
theorem mem_lt_set {l : List Nat} {i v : Nat} (h : ∀ b, b ∈ l → b < 256) (hv : v < 256) : ∀ b, b ∈ l.set i v → b < 256 := fun b hb => by
  rcases List.mem_or_eq_of_mem_set hb with q | q
  · exact h b q
  · rw [q]; exact hv
theorem set_ok {a i : Nat} {bs : List Nat} {μ : Mem} (v : Int32) (h : Byt μ a bs) (hi : i < bs.length) : wp (f73 a (nI i) v μ) (fun m => Byt m a (bs.set i (byv v)) ∧ Fr (FB a) μ m) := by
  have hl := h.len
  obtain ⟨b1, b2, b3, b4⟩ := h
  unfold f73
  simp (disch := omega) only [i_0, i_1, i_2, i_3, i_4, i_5, i_6, i_7, i_8, i_9, i_10, i_11, i_12, i_13, i_14, i_15, i_16, i_17, i_18, i_19, i_20, i_21, i_22, i_23, i_24, i_25, i_26, i_27, i_31, i_32, i_40, i_42, i_45, i_48, i_51, i_52, i_56, i_58, i_59, i_60, i_61, i_62, i_63, i_64, i_85, i_90, i_100, i_112, i_120, i_121, i_127, i_128, i_130, i_144, i_171, i_192, i_193, i_197, i_200, i_207, i_235, i_240, i_248, i_252, i_254, i_255, i_256, i_512, i_544, i_768, i_769, i_793, i_1000, i_1023, i_1024, i_1200, i_1538, i_1541, i_1545, i_2046, i_2047, i_2049, i_2060, i_2736, i_2737, i_2817, i_2818, i_2819, i_2820, i_2821, i_2831, i_2832, i_3077, i_3085, i_3843, i_3849, i_3851, i_3852, i_4129, i_4353, i_4865, i_5121, i_5122, i_5123, i_6156, i_8192, i_12288, i_16383, i_32000, i_33280, i_49152, i_53247, i_60304, i_64000, i_64512, i_65521, i_65535, i_449838109, nI_add, pk_mul, pk_sub, nI_mm, nI_leI, nI_ltI, nI_eq, pk_div, jrem_N, jshl_N, jshr_N, jushr_N, jmin_N, jmax_N, an_1, an_3, an_7, an_15, an_31, an_63, an_127, an_255, an_1023, an_2047, an_16383, an_65535, nm, pfI, rdI, rdW, rdL, rdI2, rdW2, ldA_N, stA_N, stB_N, stZ_N, pfZ_0, pfZ_1, rtZ_0, rtZ_1, acp_N, Option.bind_some, wp_some_iff, true_and, and_true, false_and, and_false, or_true, true_or, or_false, false_or, not_true_eq_false, not_false_eq_true, if_true, if_false, if_pos, if_neg, b1]
  refine ⟨⟨?_, ?_, fun j hj => ?_, mem_lt_set b4 (byv_lt v)⟩, Fr.sI (Or.inr rfl)⟩
  · rw [rdI, if_neg (by omega), List.length_set]; exact b1
  · rw [List.length_set]; exact b2
  · rw [List.length_set] at hj
    rw [rdI, getD_set hi, i8_idem, ← sb_byv]
    by_cases e : j = i
    · rw [if_pos ⟨rfl, e⟩, if_pos e]
    · rw [if_neg (by omega), if_neg e, b3 j hj]
/-- mixing: each byte with the noise -/
def mixL (bs ns : List Nat) : List Nat := (List.range bs.length).map (fun i => bs.getD i 0 ^^^ ns.getD i 0)
theorem mixL_len (bs ns : List Nat) : (mixL bs ns).length = bs.length := by simp [mixL]
theorem range_getD {n i : Nat} {g : Nat → Nat} (h : i < n) : ((List.range n).map g).getD i 0 = g i := by
  simp [List.getD_eq_getElem?_getD, h]
theorem sbx : ∀ a, a < 256 → ∀ b, b < 256 → (sb_b a ^^^ sb_b b).toInt8.toInt32 = sb_b (a ^^^ b) := by
  intro a ha b hb
  have h := sb_byv (sb_b a ^^^ sb_b b)
  rw [← h]
  congr 1
  have e : byv (sb_b a ^^^ sb_b b) = (byv (sb_b a)) ^^^ (byv (sb_b b)) := by
    unfold byv
    rw [Int32.toBitVec_xor, BitVec.toNat_xor]
    exact Nat.xor_mod_two_pow (n := 8)
  have q : ∀ c, c < 256 → byv (sb_b c) = c := by decide +kernel
  rw [e, q a ha, q b hb]
theorem mix_ok {a p : Nat} {bs ns : List Nat} {μ : Mem} (h : Byt μ a bs) (hx : SegB μ p 0 ns) (hn : ns.length = gln p) (hbn : bs.length ≤ ns.length) (hp : p ≠ a ∧ p ≠ a + 1) (h7 : bs.length < 70000) : wp (f74 a p μ) (fun m => Byt m a (mixL bs ns) ∧ Fr (FB a) μ m) := by
  have hl := h.len
  have hg := gln_le p
  have hr : ∀ i, bs.getD i 0 < 256 := h.get
  have hnr : ∀ i, ns.getD i 0 < 256 := fun i => by
    by_cases hk : i < ns.length
    · rw [List.getD_eq_getElem?_getD, List.getElem?_eq_getElem hk]
      exact hx.2 _ (List.getElem_mem hk)
    · rw [List.getD_eq_getElem?_getD, List.getElem?_eq_none_iff.mpr (by omega)]
      decide
  obtain ⟨b1, b2, b3, b4⟩ := h
  unfold f74 l74_12
  rw [b1, jmin_N (by omega) hg, Nat.min_eq_left (by omega)]
  simp (disch := omega) only [i_0, i_1, i_2, i_3, i_4, i_5, i_6, i_7, i_8, i_9, i_10, i_11, i_12, i_13, i_14, i_15, i_16, i_17, i_18, i_19, i_20, i_21, i_22, i_23, i_24, i_25, i_26, i_27, i_31, i_32, i_40, i_42, i_45, i_48, i_51, i_52, i_56, i_58, i_59, i_60, i_61, i_62, i_63, i_64, i_85, i_90, i_100, i_112, i_120, i_121, i_127, i_128, i_130, i_144, i_171, i_192, i_193, i_197, i_200, i_207, i_235, i_240, i_248, i_252, i_254, i_255, i_256, i_512, i_544, i_768, i_769, i_793, i_1000, i_1023, i_1024, i_1200, i_1538, i_1541, i_1545, i_2046, i_2047, i_2049, i_2060, i_2736, i_2737, i_2817, i_2818, i_2819, i_2820, i_2821, i_2831, i_2832, i_3077, i_3085, i_3843, i_3849, i_3851, i_3852, i_4129, i_4353, i_4865, i_5121, i_5122, i_5123, i_6156, i_8192, i_12288, i_16383, i_32000, i_33280, i_49152, i_53247, i_60304, i_64000, i_64512, i_65521, i_65535, i_449838109, nI_add, pk_mul, pk_sub, nI_mm, nI_leI, nI_ltI, nI_eq, pk_div, jrem_N, jshl_N, jshr_N, jushr_N, jmin_N, jmax_N, an_1, an_3, an_7, an_15, an_31, an_63, an_127, an_255, an_1023, an_2047, an_16383, an_65535, nm, pfI, rdI, rdW, rdL, rdI2, rdW2, ldA_N, stA_N, stB_N, stZ_N, pfZ_0, pfZ_1, rtZ_0, rtZ_1, acp_N, Option.bind_some, wp_some_iff, true_and, and_true, false_and, and_false, or_true, true_or, or_false, false_or, not_true_eq_false, not_false_eq_true, if_true, if_false, if_pos, if_neg]
  refine wp_for (fun i m => (nI bs.length, nI i, m)) (fun i m => (∀ j, j < bs.length → m.1 (a + 1) j = sb_b (if j < i then bs.getD j 0 ^^^ ns.getD j 0 else bs.getD j 0)) ∧ Fr (fun c _ => c = a + 1) μ m) bs.length (by omega) μ _ rfl ⟨fun j hj => by rw [if_neg (by omega)]; exact b3 j hj, Fr.rf⟩ (fun self i m hi ⟨hm, hf⟩ hk => ?_) (fun self m ⟨hm, hf⟩ => ?_)
  · unfold b74_12
    have e1 := hm i hi
    rw [if_neg (by omega)] at e1
    have e2 : m.1 p i = sb_b (ns.getD i 0) := by
      rw [hf.1 p i (by dsimp only; omega)]
      have := hx.1 i (by omega)
      rwa [Nat.zero_add] at this
    simp (disch := omega) only [i_0, i_1, i_2, i_3, i_4, i_5, i_6, i_7, i_8, i_9, i_10, i_11, i_12, i_13, i_14, i_15, i_16, i_17, i_18, i_19, i_20, i_21, i_22, i_23, i_24, i_25, i_26, i_27, i_31, i_32, i_40, i_42, i_45, i_48, i_51, i_52, i_56, i_58, i_59, i_60, i_61, i_62, i_63, i_64, i_85, i_90, i_100, i_112, i_120, i_121, i_127, i_128, i_130, i_144, i_171, i_192, i_193, i_197, i_200, i_207, i_235, i_240, i_248, i_252, i_254, i_255, i_256, i_512, i_544, i_768, i_769, i_793, i_1000, i_1023, i_1024, i_1200, i_1538, i_1541, i_1545, i_2046, i_2047, i_2049, i_2060, i_2736, i_2737, i_2817, i_2818, i_2819, i_2820, i_2821, i_2831, i_2832, i_3077, i_3085, i_3843, i_3849, i_3851, i_3852, i_4129, i_4353, i_4865, i_5121, i_5122, i_5123, i_6156, i_8192, i_12288, i_16383, i_32000, i_33280, i_49152, i_53247, i_60304, i_64000, i_64512, i_65521, i_65535, i_449838109, nI_add, pk_mul, pk_sub, nI_mm, nI_leI, nI_ltI, nI_eq, pk_div, jrem_N, jshl_N, jshr_N, jushr_N, jmin_N, jmax_N, an_1, an_3, an_7, an_15, an_31, an_63, an_127, an_255, an_1023, an_2047, an_16383, an_65535, nm, pfI, rdI, rdW, rdL, rdI2, rdW2, ldA_N, stA_N, stB_N, stZ_N, pfZ_0, pfZ_1, rtZ_0, rtZ_1, acp_N, Option.bind_some, wp_some_iff, true_and, and_true, false_and, and_false, or_true, true_or, or_false, false_or, not_true_eq_false, not_false_eq_true, if_true, if_false, if_pos, if_neg, e1, e2]
    refine hk _ ⟨fun j hj => ?_, hf.pI rfl⟩
    rw [rdI, i8_idem, sbx _ (hr i) _ (hnr i)]
    by_cases e : j = i
    · subst e
      rw [if_pos ⟨rfl, rfl⟩, if_pos (by omega)]
    · rw [if_neg (by omega), hm j hj]
      congr 1
      by_cases e3 : j < i
      · rw [if_pos e3, if_pos (by omega)]
      · rw [if_neg e3, if_neg (by omega)]
  · unfold b74_12
    simp (disch := omega) only [i_0, i_1, i_2, i_3, i_4, i_5, i_6, i_7, i_8, i_9, i_10, i_11, i_12, i_13, i_14, i_15, i_16, i_17, i_18, i_19, i_20, i_21, i_22, i_23, i_24, i_25, i_26, i_27, i_31, i_32, i_40, i_42, i_45, i_48, i_51, i_52, i_56, i_58, i_59, i_60, i_61, i_62, i_63, i_64, i_85, i_90, i_100, i_112, i_120, i_121, i_127, i_128, i_130, i_144, i_171, i_192, i_193, i_197, i_200, i_207, i_235, i_240, i_248, i_252, i_254, i_255, i_256, i_512, i_544, i_768, i_769, i_793, i_1000, i_1023, i_1024, i_1200, i_1538, i_1541, i_1545, i_2046, i_2047, i_2049, i_2060, i_2736, i_2737, i_2817, i_2818, i_2819, i_2820, i_2821, i_2831, i_2832, i_3077, i_3085, i_3843, i_3849, i_3851, i_3852, i_4129, i_4353, i_4865, i_5121, i_5122, i_5123, i_6156, i_8192, i_12288, i_16383, i_32000, i_33280, i_49152, i_53247, i_60304, i_64000, i_64512, i_65521, i_65535, i_449838109, nI_add, pk_mul, pk_sub, nI_mm, nI_leI, nI_ltI, nI_eq, pk_div, jrem_N, jshl_N, jshr_N, jushr_N, jmin_N, jmax_N, an_1, an_3, an_7, an_15, an_31, an_63, an_127, an_255, an_1023, an_2047, an_16383, an_65535, nm, pfI, rdI, rdW, rdL, rdI2, rdW2, ldA_N, stA_N, stB_N, stZ_N, pfZ_0, pfZ_1, rtZ_0, rtZ_1, acp_N, Option.bind_some, wp_some_iff, true_and, and_true, false_and, and_false, or_true, true_or, or_false, false_or, not_true_eq_false, not_false_eq_true, if_true, if_false, if_pos, if_neg]
    refine ⟨⟨?_, ?_, fun i hi => ?_, fun b hb => ?_⟩, hf.mono (fun c k q => Or.inr q)⟩
    · rw [hf.1 a 1 (by dsimp only; omega), mixL_len]; exact b1
    · rw [mixL_len]; exact b2
    · rw [mixL_len] at hi
      rw [hm i hi, if_pos hi, mixL, range_getD hi]
    · rw [mixL] at hb
      obtain ⟨i, hi, rfl⟩ := List.mem_map.mp hb
      exact Nat.xor_lt_two_pow (n := 8) (hr i) (hnr i)
/-! seven bytes of a long -/
def sev (n : Nat) : List Nat := (List.range 7).map (fun j => n / 2 ^ (56 - 8 * j) % 256)
theorem putSeven_ok {a n : Nat} {bs : List Nat} {μ : Mem} (h : Byt μ a bs) (hc : bs.length + 7 ≤ gln (a + 1)) (hn : n < 2 ^ 64) : wp (f68 a (lN n) μ) (fun m => Byt m a (bs ++ sev n) ∧ Fr (FB a) μ m) := by
  unfold f68 l68_3
  refine wp_for (fun i m => (lN n, nI (56 - 8 * i), m)) (fun i m => Byt m a (bs ++ (List.range i).map (fun j => n / 2 ^ (56 - 8 * j) % 256)) ∧ Fr (FB a) μ m) 7 (by omega) μ _ rfl ⟨by simpa using h, Fr.rf⟩ (fun self i m hi ⟨hm, hf⟩ hk => ?_) (fun self m ⟨hm, hf⟩ => ?_)
  · unfold b68_3
    simp (disch := omega) only [i_0, i_1, i_2, i_3, i_4, i_5, i_6, i_7, i_8, i_9, i_10, i_11, i_12, i_13, i_14, i_15, i_16, i_17, i_18, i_19, i_20, i_21, i_22, i_23, i_24, i_25, i_26, i_27, i_31, i_32, i_40, i_42, i_45, i_48, i_51, i_52, i_56, i_58, i_59, i_60, i_61, i_62, i_63, i_64, i_85, i_90, i_100, i_112, i_120, i_121, i_127, i_128, i_130, i_144, i_171, i_192, i_193, i_197, i_200, i_207, i_235, i_240, i_248, i_252, i_254, i_255, i_256, i_512, i_544, i_768, i_769, i_793, i_1000, i_1023, i_1024, i_1200, i_1538, i_1541, i_1545, i_2046, i_2047, i_2049, i_2060, i_2736, i_2737, i_2817, i_2818, i_2819, i_2820, i_2821, i_2831, i_2832, i_3077, i_3085, i_3843, i_3849, i_3851, i_3852, i_4129, i_4353, i_4865, i_5121, i_5122, i_5123, i_6156, i_8192, i_12288, i_16383, i_32000, i_33280, i_49152, i_53247, i_60304, i_64000, i_64512, i_65521, i_65535, i_449838109, nI_add, pk_mul, pk_sub, nI_mm, nI_leI, nI_ltI, nI_eq, pk_div, jrem_N, jshl_N, jshr_N, jushr_N, jmin_N, jmax_N, an_1, an_3, an_7, an_15, an_31, an_63, an_127, an_255, an_1023, an_2047, an_16383, an_65535, nm, pfI, rdI, rdW, rdL, rdI2, rdW2, ldA_N, stA_N, stB_N, stZ_N, pfZ_0, pfZ_1, rtZ_0, rtZ_1, acp_N, Option.bind_some, wp_some_iff, true_and, and_true, false_and, and_false, or_true, true_or, or_false, false_or, not_true_eq_false, not_false_eq_true, if_true, if_false, if_pos, if_neg]
    rw [show jlushr (lN n) (nI (56 - 8 * i)) = lN (n / 2 ^ (56 - 8 * i)) from wb_shr hn (by omega), lN_i]
    refine wp_bind (pu_ok _ hm (by rw [List.length_append, List.length_map, List.length_range]; omega)) (fun m1 ⟨h1, h2⟩ => ?_)
    rw [byv_nat, List.append_assoc] at h1
    rw [show 56 - 8 * i - 8 = 56 - 8 * (i + 1) by omega]
    refine hk _ ⟨?_, hf.tr' h2⟩
    rw [List.range_succ, List.map_append]
    exact h1
  · unfold b68_3
    simp (disch := omega) only [i_0, i_1, i_2, i_3, i_4, i_5, i_6, i_7, i_8, i_9, i_10, i_11, i_12, i_13, i_14, i_15, i_16, i_17, i_18, i_19, i_20, i_21, i_22, i_23, i_24, i_25, i_26, i_27, i_31, i_32, i_40, i_42, i_45, i_48, i_51, i_52, i_56, i_58, i_59, i_60, i_61, i_62, i_63, i_64, i_85, i_90, i_100, i_112, i_120, i_121, i_127, i_128, i_130, i_144, i_171, i_192, i_193, i_197, i_200, i_207, i_235, i_240, i_248, i_252, i_254, i_255, i_256, i_512, i_544, i_768, i_769, i_793, i_1000, i_1023, i_1024, i_1200, i_1538, i_1541, i_1545, i_2046, i_2047, i_2049, i_2060, i_2736, i_2737, i_2817, i_2818, i_2819, i_2820, i_2821, i_2831, i_2832, i_3077, i_3085, i_3843, i_3849, i_3851, i_3852, i_4129, i_4353, i_4865, i_5121, i_5122, i_5123, i_6156, i_8192, i_12288, i_16383, i_32000, i_33280, i_49152, i_53247, i_60304, i_64000, i_64512, i_65521, i_65535, i_449838109, nI_add, pk_mul, pk_sub, nI_mm, nI_leI, nI_ltI, nI_eq, pk_div, jrem_N, jshl_N, jshr_N, jushr_N, jmin_N, jmax_N, an_1, an_3, an_7, an_15, an_31, an_63, an_127, an_255, an_1023, an_2047, an_16383, an_65535, nm, pfI, rdI, rdW, rdL, rdI2, rdW2, ldA_N, stA_N, stB_N, stZ_N, pfZ_0, pfZ_1, rtZ_0, rtZ_1, acp_N, Option.bind_some, wp_some_iff, true_and, and_true, false_and, and_false, or_true, true_or, or_false, false_or, not_true_eq_false, not_false_eq_true, if_true, if_false, if_pos, if_neg]
    exact ⟨hm, hf⟩
