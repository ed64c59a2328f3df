/-! ===== packets that the craft makes ===== -/
abbrev Mw : Type := Nat × Nat × List Pk × Int32 × Sto × Sto
def bgL (md tk sv sb : Nat) : List Nat := [8, 12, 192 + md / 256 % 64, md % 256, 0, 0, 32, sv, sb] ++ lowB (nI tk) 4
def dnH (md tk sv sb : Nat) (d : List Nat) : List Nat := [8, 12, 192 + md / 256 % 64, md % 256, (d.length + 8) / 256 % 256, (d.length + 8) % 256, 32, sv, sb] ++ lowB (nI tk) 4 ++ d
def dnP (x : Mw) (sv sb : Nat) (d : List Nat) : List Nat := wck (dnH x.2.1 x.1 sv sb d)
def makeW (x : Mw) (sv sb : Nat) (d : List Nat) : Mw := (x.1, x.2.1 + 1, if x.2.2.1.length < 24 then x.2.2.1 ++ [(dnP x sv sb d, nI 0, nI 0)] else x.2.2.1, if x.2.2.1.length < 24 then x.2.2.2.1 else x.2.2.2.1 + nI 1, offS x.2.2.2.2.1 x.1 (dnP x sv sb d) (256 * sv + sb), offS x.2.2.2.2.2 x.1 (dnP x sv sb d) (256 * sv + sb))
def LvC (ps : List Pk) : Prop := ps.length ≤ 24 ∧ ∀ i, i < ps.length → 15 ≤ (pk ps i).1.length ∧ (pk ps i).1.length ≤ 82 ∧ (pk ps i).2.1 = nI 0 ∧ (pk ps i).2.2 = nI 0
def MC (μ : Mem) (x : Mw) : Prop := Tb μ ∧ μ.1 57 12 = nI x.1 ∧ μ.1 57 13 = nI x.2.1 ∧ Shf μ 75 x.2.2.1 ∧ μ.1 57 14 = x.2.2.2.1 ∧ StC μ 0 x.2.2.2.2.1 ∧ StC μ 1 x.2.2.2.2.2
def MM (μ : Mem) (x : Mw) : Prop := μ.1 129 77 = nI x.1 ∧ μ.1 129 81 = nI x.2.1 ∧ (μ.1 129 86 = nI x.2.2.1.length ∧ QF μ 165 166 100 0 x.2.2.1.length (fun i => (pk x.2.2.1 i).1)) ∧ μ.1 129 87 = x.2.2.2.1 ∧ StM μ 0 x.2.2.2.2.1 ∧ StM μ 1 x.2.2.2.2.2
def MI (x : Mw) : Prop := x.1 < 2 ^ 30 ∧ LvC x.2.2.1 ∧ StI x.1 x.2.2.2.2.1 ∧ StI x.1 x.2.2.2.2.2
theorem MC.fr {μ m : Mem} {x : Mw} {P : Nat → Nat → Prop} (h : MC μ x) (ho : Fr P μ m) (h1 : ∀ c k, c = 100000 ∨ c = 57 ∧ 12 ≤ k ∧ k ≤ 14 ∨ 59 ≤ c ∧ c ≤ 80 → ¬ P c k) : MC m x :=
  ⟨h.1.fr ho (fun k => h1 _ k (by omega)), by rw [ho.1 _ _ (h1 _ _ (by omega))]; exact h.2.1, by rw [ho.1 _ _ (h1 _ _ (by omega))]; exact h.2.2.1, h.2.2.2.1.fr ho (fun c k _ _ => h1 c k (by omega)), by rw [ho.1 _ _ (h1 _ _ (by omega))]; exact h.2.2.2.2.1, h.2.2.2.2.2.1.fr ho (fun c k _ _ => h1 c k (by omega)), h.2.2.2.2.2.2.fr ho (fun c k _ _ => h1 c k (by omega))⟩
theorem SPk.l90 {tk : Nat} {ps : List Pk} (h : SPk tk ps) : ps.length ≤ 90 := by
  have := h.len
  have := h.1
  omega
theorem MM.fr {μ m : Mem} {x : Mw} {P : Nat → Nat → Prop} (h : MM μ x) (hI : MI x) (ho : Fr P μ m) (h1 : ∀ c k, c = 129 ∧ (k = 77 ∨ k = 81 ∨ k = 86 ∨ k = 87) ∨ 165 ≤ c ∧ c ≤ 166 ∨ 169 ≤ c ∧ c ≤ 178 → ¬ P c k) : MM m x :=
  ⟨by rw [ho.1 _ _ (h1 _ _ (by omega))]; exact h.1, by rw [ho.1 _ _ (h1 _ _ (by omega))]; exact h.2.1, ⟨by rw [ho.1 _ _ (h1 _ _ (by omega))]; exact h.2.2.1.1, h.2.2.1.2.fr ho (fun k => h1 _ k (by omega)) (fun k => h1 _ k (by omega))⟩, by rw [ho.1 _ _ (h1 _ _ (by omega))]; exact h.2.2.2.1, h.2.2.2.2.1.fr hI.2.2.1.2.2.l90 ho (fun c k _ => h1 c k (by omega)), h.2.2.2.2.2.fr hI.2.2.2.2.2.l90 ho (fun c k _ => h1 c k (by omega))⟩
theorem lowB_get (v : Int32) : ∀ (n i : Nat), i < n → (lowB v n).getD i 0 = byv (jshr v (nI (8 * (n - 1 - i))))
  | 0, i, h => absurd h (Nat.not_lt_zero _)
  | n + 1, 0, _ => by rw [show n + 1 - 1 - 0 = n by omega]; rfl
  | n + 1, i + 1, h => by
    rw [show n + 1 - 1 - (i + 1) = n - 1 - i by omega, ← lowB_get v n i (by omega)]
    rfl
theorem bgL_len (md tk sv sb : Nat) : (bgL md tk sv sb).length = 13 := rfl
theorem dnH_len (md tk sv sb : Nat) (d : List Nat) : (dnH md tk sv sb d).length = d.length + 13 := by
  unfold dnH
  rw [List.length_append, List.length_append, lowB_len]
  show 9 + 4 + _ = _
  omega
theorem dnP_len (x : Mw) (sv sb : Nat) (d : List Nat) : (dnP x sv sb d).length = d.length + 15 := by
  rw [dnP, wck_len, dnH_len]
theorem LvC.app {ps : List Pk} {p : List Nat} (h : LvC ps) (hl : ps.length < 24) (h1 : 15 ≤ p.length) (h2 : p.length ≤ 82) : LvC (ps ++ [(p, nI 0, nI 0)]) := by
  refine ⟨by rw [List.length_append]; exact hl, fun i hi => ?_⟩
  rw [List.length_append] at hi
  have : i < ps.length + 1 := hi
  rw [pk_app]
  by_cases e : i < ps.length
  · rw [if_pos e]; exact h.2 i e
  · rw [if_neg e, if_pos (by omega)]
    exact ⟨h1, h2, rfl, rfl⟩
theorem makeW_I {x : Mw} {sv sb : Nat} {d : List Nat} (h : MI x) (hd : d.length ≤ 67) : MI (makeW x sv sb d) := by
  have hl := dnP_len x sv sb d
  have htk := h.1
  refine ⟨h.1, ?_, offS_I h.2.2.1 (by omega) (by omega) (Nat.lt_trans htk (by decide)), offS_I h.2.2.2 (by omega) (by omega) (Nat.lt_trans htk (by decide))⟩
  show LvC (if _ then _ else _)
  split
  · next q => exact h.2.1.app q (by omega) (by omega)
  · exact h.2.1
theorem begin_C {μ : Mem} {x : Mw} {sv sb : Nat} (h : MC μ x) (hv : sv < 256) (hs : sb < 256) : wp (f117 (nI sv) (nI sb) μ) (fun m => Byt m 87 (bgL x.2.1 x.1 sv sb) ∧ Fr (FB 87) μ m) := by
  have hq : gln (87 + 1) = 82 := gl_88
  unfold f117
  refine wp_bind (cl_ok 87 μ) (fun m1 ⟨h1, e1⟩ => ?_)
  refine wp_bind (p2_ok _ h1 (by rw [hq]; exact Nat.le_of_ble_eq_true rfl)) (fun m2 ⟨h2, e2⟩ => ?_)
  have y2 : m2.1 57 13 = nI x.2.1 := by rw [e2.1 _ _ (by omega), e1.1 _ _ (by omega)]; exact h.2.2.1
  simp (disch := omega) only [i_0, i_1, i_2, i_3, i_4, i_5, i_6, i_7, i_8, i_9, i_10, i_11, i_12, i_13, i_14, i_15, i_16, i_17, i_18, i_19, i_20, i_21, i_22, i_23, i_24, i_25, i_26, i_27, i_31, i_32, i_40, i_42, i_45, i_48, i_51, i_52, i_56, i_58, i_59, i_60, i_61, i_62, i_63, i_64, i_85, i_90, i_100, i_112, i_120, i_121, i_127, i_128, i_130, i_144, i_171, i_192, i_193, i_197, i_200, i_207, i_235, i_240, i_248, i_252, i_254, i_255, i_256, i_512, i_544, i_768, i_769, i_793, i_1000, i_1023, i_1024, i_1200, i_1538, i_1541, i_1545, i_2046, i_2047, i_2049, i_2060, i_2736, i_2737, i_2817, i_2818, i_2819, i_2820, i_2821, i_2831, i_2832, i_3077, i_3085, i_3843, i_3849, i_3851, i_3852, i_4129, i_4353, i_4865, i_5121, i_5122, i_5123, i_6156, i_8192, i_12288, i_16383, i_32000, i_33280, i_49152, i_53247, i_60304, i_64000, i_64512, i_65521, i_65535, i_449838109, nI_add, pk_mul, pk_sub, nI_mm, nI_leI, nI_ltI, nI_eq, pk_div, jrem_N, jshl_N, jshr_N, jushr_N, jmin_N, jmax_N, an_1, an_3, an_7, an_15, an_31, an_63, an_127, an_255, an_1023, an_2047, an_16383, an_65535, nm, pfI, rdI, rdW, rdL, rdI2, rdW2, ldA_N, stA_N, stB_N, stZ_N, pfZ_0, pfZ_1, rtZ_0, rtZ_1, acp_N, Option.bind_some, wp_some_iff, true_and, and_true, false_and, and_false, or_true, true_or, or_false, false_or, not_true_eq_false, not_false_eq_true, if_true, if_false, if_pos, if_neg, lt_sub, le_sub, sub_lt3, sub_le3, y2, nx_or]
  rw [show 49152 ||| x.2.1 % 16384 = 49152 + x.2.1 % 16384 from or_add (x := 3) 14 (by omega)]
  refine wp_bind (p2_ok _ h2 (by rw [hq]; exact Nat.le_of_ble_eq_true rfl)) (fun m3 ⟨h3, e3⟩ => ?_)
  refine wp_bind (p2_ok _ h3 (by rw [hq]; exact Nat.le_of_ble_eq_true rfl)) (fun m4 ⟨h4, e4⟩ => ?_)
  refine wp_bind (pu_ok _ h4 (by rw [hq]; exact Nat.le_of_ble_eq_true rfl)) (fun m5 ⟨h5, e5⟩ => ?_)
  refine wp_bind (pu_ok _ h5 (by rw [hq]; exact Nat.le_of_ble_eq_true rfl)) (fun m6 ⟨h6, e6⟩ => ?_)
  refine wp_bind (pu_ok _ h6 (by rw [hq]; exact Nat.le_of_ble_eq_true rfl)) (fun m7 ⟨h7, e7⟩ => ?_)
  have e17 : Fr (FB 87) μ m7 := (((((e1.tr' e2).tr' e3).tr' e4).tr' e5).tr' e6).tr' e7
  have y7 : m7.1 57 12 = nI x.1 := by rw [e17.1 _ _ (by omega)]; exact h.2.1
  rw [y7]
  refine wp_bind (p4_ok _ h7 (by rw [hq]; exact Nat.le_of_ble_eq_true rfl)) (fun m8 ⟨h8, e8⟩ => wp_some ⟨?_, e17.tr' e8⟩)
  rw [i_2060, lowB_N2 (by decide), lowB_N2 (by omega), lowB_N2 (by decide), byv_nI hv, byv_nI hs, byv_nat] at h8
  have : bgL x.2.1 x.1 sv sb = [] ++ [2060 / 256 % 256, 2060 % 256] ++ [(49152 + x.2.1 % 16384) / 256 % 256, (49152 + x.2.1 % 16384) % 256] ++ [0 / 256 % 256, 0 % 256] ++ [32 % 256] ++ [sv] ++ [sb] ++ lowB (nI x.1) 4 := by
    rw [bgL, show (49152 + x.2.1 % 16384) / 256 % 256 = 192 + x.2.1 / 256 % 64 by omega, show (49152 + x.2.1 % 16384) % 256 = x.2.1 % 256 by omega]
    rfl
  rw [this]
  exact h8
abbrev FMk : Nat → Nat → Prop := fun c k => c = 57 ∧ (k = 13 ∨ k = 14) ∨ 59 ≤ c ∧ c ≤ 80 ∨ 87 ≤ c ∧ c ≤ 88
theorem ldR58 {i : Nat} (h : i < 2) : ldR 58 (nI i) = some (59 + 8 * i) := by
  have : i = 0 ∨ i = 1 := by omega
  rcases this with rfl | rfl
  · decide +kernel
  · decide +kernel
theorem off_82 {ps : List Pk} (h : ∀ i, i < ps.length → (pk ps i).1.length ≤ 82) : ∀ n, n ≤ ps.length → off ps n ≤ 82 * n
  | 0, _ => Nat.le_refl _
  | n + 1, hn => by
    have h1 := off_82 h n (by omega)
    have h2 := h n (by omega)
    show off ps n + (pk ps n).1.length ≤ _
    omega
theorem finish_C {μ : Mem} {x : Mw} {sv sb : Nat} {d : List Nat} (h : MC μ x) (hI : MI x) (hb : Byt μ 87 (bgL x.2.1 x.1 sv sb ++ d)) (hv : sv < 256) (hs : sb < 256) (hd : d.length ≤ 67) : wp (f119 μ) (fun m => MC m (makeW x sv sb d) ∧ Byt m 87 [] ∧ Fr FMk μ m) := by
  have hq : gln (87 + 1) = 82 := gl_88
  have g58 := gl_58
  have g77 : gln (75 + 2) = 24 := gl_77
  have g76 : gln (75 + 1) = 1968 := gl_76
  obtain ⟨t0, x1, x2, x3, x4, x5, x6⟩ := h
  obtain ⟨i1, i2, i3, i4⟩ := hI
  have hbl : (bgL x.2.1 x.1 sv sb ++ d).length = 13 + d.length := by rw [List.length_append, bgL_len]
  have hb1 := hb.1
  rw [hbl] at hb1
  unfold f119
  simp (disch := omega) only [i_0, i_1, i_2, i_3, i_4, i_5, i_6, i_7, i_8, i_9, i_10, i_11, i_12, i_13, i_14, i_15, i_16, i_17, i_18, i_19, i_20, i_21, i_22, i_23, i_24, i_25, i_26, i_27, i_31, i_32, i_40, i_42, i_45, i_48, i_51, i_52, i_56, i_58, i_59, i_60, i_61, i_62, i_63, i_64, i_85, i_90, i_100, i_112, i_120, i_121, i_127, i_128, i_130, i_144, i_171, i_192, i_193, i_197, i_200, i_207, i_235, i_240, i_248, i_252, i_254, i_255, i_256, i_512, i_544, i_768, i_769, i_793, i_1000, i_1023, i_1024, i_1200, i_1538, i_1541, i_1545, i_2046, i_2047, i_2049, i_2060, i_2736, i_2737, i_2817, i_2818, i_2819, i_2820, i_2821, i_2831, i_2832, i_3077, i_3085, i_3843, i_3849, i_3851, i_3852, i_4129, i_4353, i_4865, i_5121, i_5122, i_5123, i_6156, i_8192, i_12288, i_16383, i_32000, i_33280, i_49152, i_53247, i_60304, i_64000, i_64512, i_65521, i_65535, i_449838109, nI_add, pk_mul, pk_sub, nI_mm, nI_leI, nI_ltI, nI_eq, pk_div, jrem_N, jshl_N, jshr_N, jushr_N, jmin_N, jmax_N, an_1, an_3, an_7, an_15, an_31, an_63, an_127, an_255, an_1023, an_2047, an_16383, an_65535, nm, pfI, rdI, rdW, rdL, rdI2, rdW2, ldA_N, stA_N, stB_N, stZ_N, pfZ_0, pfZ_1, rtZ_0, rtZ_1, acp_N, Option.bind_some, wp_some_iff, true_and, and_true, false_and, and_false, or_true, true_or, or_false, false_or, not_true_eq_false, not_false_eq_true, if_true, if_false, if_pos, if_neg, lt_sub, le_sub, sub_lt3, sub_le3, hb1]
  rw [show 13 + d.length + 2 - 7 = d.length + 8 by omega]
  refine wp_bind (set_ok _ hb (by rw [hbl]; omega)) (fun m1 ⟨h1, e1⟩ => ?_)
  refine wp_bind (set_ok _ h1 (by rw [List.length_set, hbl]; omega)) (fun m2 ⟨h2, e2⟩ => ?_)
  rw [byv_nat, byv_nat] at h2
  have h2' : Byt m2 87 (dnH x.2.1 x.1 sv sb d) := h2
  have e12 : Fr (FB 87) μ m2 := e1.tr' e2
  have hHl := dnH_len x.2.1 x.1 sv sb d
  refine wp_bind (putCheck_ok (t0.fr e12 (fun k => by omega)) h2' (by rw [hq, hHl]; omega) (by omega)) (fun m3 ⟨h3, e3⟩ => ?_)
  rw [wck_C] at h3
  have e13 : Fr (FB 87) μ m3 := e12.tr' e3
  have y13 : m3.1 57 13 = nI x.2.1 := by rw [e13.1 _ _ (by omega)]; exact x2
  have P7 : (wck (dnH x.2.1 x.1 sv sb d)).getD 7 0 = sv := rfl
  have P8 : (wck (dnH x.2.1 x.1 sv sb d)).getD 8 0 = sb := rfl
  have hPl : (wck (dnH x.2.1 x.1 sv sb d)).length = d.length + 15 := by rw [wck_len, hHl]
  unfold makeW dnP
  generalize wck (dnH x.2.1 x.1 sv sb d) = PP at *
  simp (disch := omega) only [i_0, i_1, i_2, i_3, i_4, i_5, i_6, i_7, i_8, i_9, i_10, i_11, i_12, i_13, i_14, i_15, i_16, i_17, i_18, i_19, i_20, i_21, i_22, i_23, i_24, i_25, i_26, i_27, i_31, i_32, i_40, i_42, i_45, i_48, i_51, i_52, i_56, i_58, i_59, i_60, i_61, i_62, i_63, i_64, i_85, i_90, i_100, i_112, i_120, i_121, i_127, i_128, i_130, i_144, i_171, i_192, i_193, i_197, i_200, i_207, i_235, i_240, i_248, i_252, i_254, i_255, i_256, i_512, i_544, i_768, i_769, i_793, i_1000, i_1023, i_1024, i_1200, i_1538, i_1541, i_1545, i_2046, i_2047, i_2049, i_2060, i_2736, i_2737, i_2817, i_2818, i_2819, i_2820, i_2821, i_2831, i_2832, i_3077, i_3085, i_3843, i_3849, i_3851, i_3852, i_4129, i_4353, i_4865, i_5121, i_5122, i_5123, i_6156, i_8192, i_12288, i_16383, i_32000, i_33280, i_49152, i_53247, i_60304, i_64000, i_64512, i_65521, i_65535, i_449838109, nI_add, pk_mul, pk_sub, nI_mm, nI_leI, nI_ltI, nI_eq, pk_div, jrem_N, jshl_N, jshr_N, jushr_N, jmin_N, jmax_N, an_1, an_3, an_7, an_15, an_31, an_63, an_127, an_255, an_1023, an_2047, an_16383, an_65535, nm, pfI, rdI, rdW, rdL, rdI2, rdW2, ldA_N, stA_N, stB_N, stZ_N, pfZ_0, pfZ_1, rtZ_0, rtZ_1, acp_N, Option.bind_some, wp_some_iff, true_and, and_true, false_and, and_false, or_true, true_or, or_false, false_or, not_true_eq_false, not_false_eq_true, if_true, if_false, if_pos, if_neg, lt_sub, le_sub, sub_lt3, sub_le3, y13]
  have f4 : Fr (fun c k => c = 57 ∧ k = 13) m3 (setI m3 57 13 (nI (x.2.1 + 1))) := Fr.sI ⟨rfl, rfl⟩
  have h4 := h3.fr f4 (by omega) (fun k => by omega)
  have e14 : Fr (fun c k => c = 57 ∧ k = 13 ∨ 87 ≤ c ∧ c ≤ 88) μ (setI m3 57 13 (nI (x.2.1 + 1))) := e13.tr f4 (by intro c k h; omega) (by intro c k h; omega)
  have z13 : (setI m3 57 13 (nI (x.2.1 + 1))).1 57 13 = nI (x.2.1 + 1) := by simp (disch := omega) only [i_0, i_1, i_2, i_3, i_4, i_5, i_6, i_7, i_8, i_9, i_10, i_11, i_12, i_13, i_14, i_15, i_16, i_17, i_18, i_19, i_20, i_21, i_22, i_23, i_24, i_25, i_26, i_27, i_31, i_32, i_40, i_42, i_45, i_48, i_51, i_52, i_56, i_58, i_59, i_60, i_61, i_62, i_63, i_64, i_85, i_90, i_100, i_112, i_120, i_121, i_127, i_128, i_130, i_144, i_171, i_192, i_193, i_197, i_200, i_207, i_235, i_240, i_248, i_252, i_254, i_255, i_256, i_512, i_544, i_768, i_769, i_793, i_1000, i_1023, i_1024, i_1200, i_1538, i_1541, i_1545, i_2046, i_2047, i_2049, i_2060, i_2736, i_2737, i_2817, i_2818, i_2819, i_2820, i_2821, i_2831, i_2832, i_3077, i_3085, i_3843, i_3849, i_3851, i_3852, i_4129, i_4353, i_4865, i_5121, i_5122, i_5123, i_6156, i_8192, i_12288, i_16383, i_32000, i_33280, i_49152, i_53247, i_60304, i_64000, i_64512, i_65521, i_65535, i_449838109, nI_add, pk_mul, pk_sub, nI_mm, nI_leI, nI_ltI, nI_eq, pk_div, jrem_N, jshl_N, jshr_N, jushr_N, jmin_N, jmax_N, an_1, an_3, an_7, an_15, an_31, an_63, an_127, an_255, an_1023, an_2047, an_16383, an_65535, nm, pfI, rdI, rdW, rdL, rdI2, rdW2, ldA_N, stA_N, stB_N, stZ_N, pfZ_0, pfZ_1, rtZ_0, rtZ_1, acp_N, Option.bind_some, wp_some_iff, true_and, and_true, false_and, and_false, or_true, true_or, or_false, false_or, not_true_eq_false, not_false_eq_true, if_true, if_false, if_pos, if_neg, lt_sub, le_sub, sub_lt3, sub_le3]
  generalize setI m3 57 13 (nI (x.2.1 + 1)) = m4 at *
  have hw := two_ok h4 (k := 7) (by decide)
  rw [P7, show 7 + 1 = 8 from rfl, P8] at hw
  simp (disch := omega) only [i_0, i_1, i_2, i_3, i_4, i_5, i_6, i_7, i_8, i_9, i_10, i_11, i_12, i_13, i_14, i_15, i_16, i_17, i_18, i_19, i_20, i_21, i_22, i_23, i_24, i_25, i_26, i_27, i_31, i_32, i_40, i_42, i_45, i_48, i_51, i_52, i_56, i_58, i_59, i_60, i_61, i_62, i_63, i_64, i_85, i_90, i_100, i_112, i_120, i_121, i_127, i_128, i_130, i_144, i_171, i_192, i_193, i_197, i_200, i_207, i_235, i_240, i_248, i_252, i_254, i_255, i_256, i_512, i_544, i_768, i_769, i_793, i_1000, i_1023, i_1024, i_1200, i_1538, i_1541, i_1545, i_2046, i_2047, i_2049, i_2060, i_2736, i_2737, i_2817, i_2818, i_2819, i_2820, i_2821, i_2831, i_2832, i_3077, i_3085, i_3843, i_3849, i_3851, i_3852, i_4129, i_4353, i_4865, i_5121, i_5122, i_5123, i_6156, i_8192, i_12288, i_16383, i_32000, i_33280, i_49152, i_53247, i_60304, i_64000, i_64512, i_65521, i_65535, i_449838109, nI_add, pk_mul, pk_sub, nI_mm, nI_leI, nI_ltI, nI_eq, pk_div, jrem_N, jshl_N, jshr_N, jushr_N, jmin_N, jmax_N, an_1, an_3, an_7, an_15, an_31, an_63, an_127, an_255, an_1023, an_2047, an_16383, an_65535, nm, pfI, rdI, rdW, rdL, rdI2, rdW2, ldA_N, stA_N, stB_N, stZ_N, pfZ_0, pfZ_1, rtZ_0, rtZ_1, acp_N, Option.bind_some, wp_some_iff, true_and, and_true, false_and, and_false, or_true, true_or, or_false, false_or, not_true_eq_false, not_false_eq_true, if_true, if_false, if_pos, if_neg, lt_sub, le_sub, sub_lt3, sub_le3, hw]
  have k5 := x5.fr e14 (fun c k _ _ => by omega)
  have k6 := x6.fr e14 (fun c k _ _ => by omega)
  have kt : m4.1 57 12 = nI x.1 := by rw [e14.1 _ _ (by omega)]; exact x1
  unfold l119_63
  refine wp_for (fun i m => (nI (256 * sv + sb), nI i, m)) (fun i m => StC m 0 (if 0 < i then offS x.2.2.2.2.1 x.1 PP (256 * sv + sb) else x.2.2.2.2.1) ∧ StC m 1 (if 1 < i then offS x.2.2.2.2.2 x.1 PP (256 * sv + sb) else x.2.2.2.2.2) ∧ Fr (fun c _ => 59 ≤ c ∧ c ≤ 74) m4 m) 2 (by omega) m4 _ rfl ⟨by rw [if_neg (by omega)]; exact k5, by rw [if_neg (by omega)]; exact k6, Fr.rf⟩ (fun self i m hi ⟨y1, y2, y3⟩ hk => ?_) (fun self m ⟨y1, y2, y3⟩ => ?_)
  · have hbm := h4.fr y3 (by omega) (fun k => by omega)
    have ktm : m.1 57 12 = nI x.1 := by rw [y3.1 _ _ (by omega)]; exact kt
    unfold b119_63
    simp (disch := omega) only [i_0, i_1, i_2, i_3, i_4, i_5, i_6, i_7, i_8, i_9, i_10, i_11, i_12, i_13, i_14, i_15, i_16, i_17, i_18, i_19, i_20, i_21, i_22, i_23, i_24, i_25, i_26, i_27, i_31, i_32, i_40, i_42, i_45, i_48, i_51, i_52, i_56, i_58, i_59, i_60, i_61, i_62, i_63, i_64, i_85, i_90, i_100, i_112, i_120, i_121, i_127, i_128, i_130, i_144, i_171, i_192, i_193, i_197, i_200, i_207, i_235, i_240, i_248, i_252, i_254, i_255, i_256, i_512, i_544, i_768, i_769, i_793, i_1000, i_1023, i_1024, i_1200, i_1538, i_1541, i_1545, i_2046, i_2047, i_2049, i_2060, i_2736, i_2737, i_2817, i_2818, i_2819, i_2820, i_2821, i_2831, i_2832, i_3077, i_3085, i_3843, i_3849, i_3851, i_3852, i_4129, i_4353, i_4865, i_5121, i_5122, i_5123, i_6156, i_8192, i_12288, i_16383, i_32000, i_33280, i_49152, i_53247, i_60304, i_64000, i_64512, i_65521, i_65535, i_449838109, nI_add, pk_mul, pk_sub, nI_mm, nI_leI, nI_ltI, nI_eq, pk_div, jrem_N, jshl_N, jshr_N, jushr_N, jmin_N, jmax_N, an_1, an_3, an_7, an_15, an_31, an_63, an_127, an_255, an_1023, an_2047, an_16383, an_65535, nm, pfI, rdI, rdW, rdL, rdI2, rdW2, ldA_N, stA_N, stB_N, stZ_N, pfZ_0, pfZ_1, rtZ_0, rtZ_1, acp_N, Option.bind_some, wp_some_iff, true_and, and_true, false_and, and_false, or_true, true_or, or_false, false_or, not_true_eq_false, not_false_eq_true, if_true, if_false, if_pos, if_neg, lt_sub, le_sub, sub_lt3, sub_le3, ldR58 hi, ktm]
    have : i = 0 ∨ i = 1 := by omega
    rcases this with rfl | rfl
    · rw [if_neg (by omega)] at y1 y2
      refine wp_bind (offer_C (s := 0) (by decide) y1 i3 hbm (by omega) (by omega) (by omega)) (fun m2 ⟨h5, e5⟩ => ?_)
      exact hk m2 ⟨by rw [if_pos (by omega)]; exact h5, by rw [if_neg (by omega)]; exact y2.fr e5 (fun c k _ _ => by omega), y3.tr e5 (fun _ _ q => q) (by intro c k h; omega)⟩
    · rw [if_pos (by omega)] at y1
      rw [if_neg (by omega)] at y2
      refine wp_bind (offer_C (s := 1) (by decide) y2 i4 hbm (by omega) (by omega) (by omega)) (fun m2 ⟨h5, e5⟩ => ?_)
      exact hk m2 ⟨by rw [if_pos (by omega)]; exact y1.fr e5 (fun c k _ _ => by omega), by rw [if_pos (by omega)]; exact h5, y3.tr e5 (fun _ _ q => q) (by intro c k h; omega)⟩
  · rw [if_pos (by omega)] at y1 y2
    have hbm := h4.fr y3 (by omega) (fun k => by omega)
    have e15 : Fr (fun c k => c = 57 ∧ k = 13 ∨ 59 ≤ c ∧ c ≤ 74 ∨ 87 ≤ c ∧ c ≤ 88) μ m := e14.tr y3 (by intro c k h; omega) (by intro c k h; omega)
    have x3' := x3.fr e15 (fun c k _ _ => by omega)
    have x4' : m.1 57 14 = x.2.2.2.1 := by rw [e15.1 _ _ (by omega)]; exact x4
    have x2' : m.1 57 13 = nI (x.2.1 + 1) := by rw [y3.1 _ _ (by omega)]; exact z13
    have x1' : m.1 57 12 = nI x.1 := by rw [e15.1 _ _ (by omega)]; exact x1
    have t' : Tb m := t0.fr e15 (fun k => by omega)
    have ho := off_82 (fun i hi => (i2.2 i hi).2.1) x.2.2.1.length (Nat.le_refl _)
    unfold b119_63 c119_130
    rw [hbm.1]
    simp (disch := omega) only [i_0, i_1, i_2, i_3, i_4, i_5, i_6, i_7, i_8, i_9, i_10, i_11, i_12, i_13, i_14, i_15, i_16, i_17, i_18, i_19, i_20, i_21, i_22, i_23, i_24, i_25, i_26, i_27, i_31, i_32, i_40, i_42, i_45, i_48, i_51, i_52, i_56, i_58, i_59, i_60, i_61, i_62, i_63, i_64, i_85, i_90, i_100, i_112, i_120, i_121, i_127, i_128, i_130, i_144, i_171, i_192, i_193, i_197, i_200, i_207, i_235, i_240, i_248, i_252, i_254, i_255, i_256, i_512, i_544, i_768, i_769, i_793, i_1000, i_1023, i_1024, i_1200, i_1538, i_1541, i_1545, i_2046, i_2047, i_2049, i_2060, i_2736, i_2737, i_2817, i_2818, i_2819, i_2820, i_2821, i_2831, i_2832, i_3077, i_3085, i_3843, i_3849, i_3851, i_3852, i_4129, i_4353, i_4865, i_5121, i_5122, i_5123, i_6156, i_8192, i_12288, i_16383, i_32000, i_33280, i_49152, i_53247, i_60304, i_64000, i_64512, i_65521, i_65535, i_449838109, nI_add, pk_mul, pk_sub, nI_mm, nI_leI, nI_ltI, nI_eq, pk_div, jrem_N, jshl_N, jshr_N, jushr_N, jmin_N, jmax_N, an_1, an_3, an_7, an_15, an_31, an_63, an_127, an_255, an_1023, an_2047, an_16383, an_65535, nm, pfI, rdI, rdW, rdL, rdI2, rdW2, ldA_N, stA_N, stB_N, stZ_N, pfZ_0, pfZ_1, rtZ_0, rtZ_1, acp_N, Option.bind_some, wp_some_iff, true_and, and_true, false_and, and_false, or_true, true_or, or_false, false_or, not_true_eq_false, not_false_eq_true, if_true, if_false, if_pos, if_neg, lt_sub, le_sub, sub_lt3, sub_le3]
    refine wp_bind (shadd_C (xs := PP) (b := 0) (tag := nI 0) (mark := nI 0) x3' hbm (by omega) (by rw [List.drop_zero, List.take_of_length_le (Nat.le_refl _)]) (by omega)) (fun r ⟨h6, e6⟩ => ?_)
    obtain ⟨m6, v6⟩ := r
    dsimp only at h6 e6 ⊢
    have e16 : Fr FMk μ m6 := e15.tr e6 (by intro c k h; omega) (by intro c k h; omega)
    have fin : ∀ mm, Fr (fun c k => c = 57 ∧ k = 14) m6 mm → mm.1 57 14 = (if x.2.2.1.length < 24 then x.2.2.2.1 else x.2.2.2.1 + nI 1) → Shf m6 75 (if x.2.2.1.length < 24 then x.2.2.1 ++ [(PP, nI 0, nI 0)] else x.2.2.1) → wp ((f64 87 mm).bind fun r1 => some r1) (fun m => MC m (x.1, x.2.1 + 1, if x.2.2.1.length < 24 then x.2.2.1 ++ [(PP, nI 0, nI 0)] else x.2.2.1, if x.2.2.1.length < 24 then x.2.2.2.1 else x.2.2.2.1 + nI 1, offS x.2.2.2.2.1 x.1 PP (256 * sv + sb), offS x.2.2.2.2.2 x.1 PP (256 * sv + sb)) ∧ Byt m 87 [] ∧ Fr FMk μ m) := by
      intro mm q1 q2 q3
      refine wp_bind (cl_ok 87 mm) (fun m7 ⟨h7, e7⟩ => wp_some ⟨?_, h7, (e16.tr q1 (fun _ _ q => q) (by intro c k h; omega)).tr e7 (fun _ _ q => q) (by intro c k h; omega)⟩)
      have e8 : Fr (fun c k => c = 57 ∧ k = 14 ∨ 87 ≤ c ∧ c ≤ 88) m6 m7 := q1.tr e7 (by intro c k h; omega) (by intro c k h; omega)
      have e9 : Fr (fun c k => c = 57 ∧ k = 14 ∨ 75 ≤ c ∧ c ≤ 80 ∨ 87 ≤ c ∧ c ≤ 88) m m7 := e6.tr e8 (by intro c k h; omega) (by intro c k h; omega)
      exact ⟨t'.fr e9 (fun k => by omega), by rw [e9.1 _ _ (by omega)]; exact x1', by rw [e9.1 _ _ (by omega)]; exact x2', q3.fr e8 (fun c k _ _ => by omega), by rw [e7.1 _ _ (by omega)]; exact q2, y1.fr e9 (fun c k _ _ => by omega), y2.fr e9 (fun c k _ _ => by omega)⟩
    by_cases q : x.2.2.1.length < 24
    · rw [if_pos ⟨by omega, by omega⟩] at h6
      obtain ⟨rfl, h6⟩ := h6
      rw [if_neg (show ¬ nI 1 = nI 0 by decide)]
      refine fin m6 Fr.rf ?_ ?_
      · rw [if_pos q, e6.1 _ _ (by omega)]; exact x4'
      · rw [if_pos q]; exact h6
    · rw [if_neg (fun z => q (by omega))] at h6
      obtain ⟨rfl, h6⟩ := h6
      have x4'' : m6.1 57 14 = x.2.2.2.1 := by rw [h6]; exact x4'
      rw [if_pos rfl, x4'']
      refine fin _ (Fr.sI ⟨rfl, rfl⟩) ?_ ?_
      · rw [if_neg q]
        simp (disch := omega) only [i_0, i_1, i_2, i_3, i_4, i_5, i_6, i_7, i_8, i_9, i_10, i_11, i_12, i_13, i_14, i_15, i_16, i_17, i_18, i_19, i_20, i_21, i_22, i_23, i_24, i_25, i_26, i_27, i_31, i_32, i_40, i_42, i_45, i_48, i_51, i_52, i_56, i_58, i_59, i_60, i_61, i_62, i_63, i_64, i_85, i_90, i_100, i_112, i_120, i_121, i_127, i_128, i_130, i_144, i_171, i_192, i_193, i_197, i_200, i_207, i_235, i_240, i_248, i_252, i_254, i_255, i_256, i_512, i_544, i_768, i_769, i_793, i_1000, i_1023, i_1024, i_1200, i_1538, i_1541, i_1545, i_2046, i_2047, i_2049, i_2060, i_2736, i_2737, i_2817, i_2818, i_2819, i_2820, i_2821, i_2831, i_2832, i_3077, i_3085, i_3843, i_3849, i_3851, i_3852, i_4129, i_4353, i_4865, i_5121, i_5122, i_5123, i_6156, i_8192, i_12288, i_16383, i_32000, i_33280, i_49152, i_53247, i_60304, i_64000, i_64512, i_65521, i_65535, i_449838109, nI_add, pk_mul, pk_sub, nI_mm, nI_leI, nI_ltI, nI_eq, pk_div, jrem_N, jshl_N, jshr_N, jushr_N, jmin_N, jmax_N, an_1, an_3, an_7, an_15, an_31, an_63, an_127, an_255, an_1023, an_2047, an_16383, an_65535, nm, pfI, rdI, rdW, rdL, rdI2, rdW2, ldA_N, stA_N, stB_N, stZ_N, pfZ_0, pfZ_1, rtZ_0, rtZ_1, acp_N, Option.bind_some, wp_some_iff, true_and, and_true, false_and, and_false, or_true, true_or, or_false, false_or, not_true_eq_false, not_false_eq_true, if_true, if_false, if_pos, if_neg, lt_sub, le_sub, sub_lt3, sub_le3]
      · rw [if_neg q, h6]; exact x3'
/-! the reference -/
def OutM (μ : Mem) (d : List Nat) : Prop := μ.1 129 80 = nI d.length ∧ Seg μ 163 0 d
theorem OutM.fr {μ m : Mem} {d : List Nat} {P : Nat → Nat → Prop} (h : OutM μ d) (ho : Fr P μ m) (h1 : ¬ P 129 80) (h2 : ∀ k, ¬ P 163 k) : OutM m d := ⟨by rw [ho.1 _ _ h1]; exact h.1, h.2.fr ho h2⟩
abbrev FOut : Nat → Nat → Prop := fun c k => c = 163 ∨ c = 129 ∧ k = 80
theorem nI_dn {n i : Nat} (h : i < n) : nI (n - 1 - i) + -nI 1 = nI n - nI 1 - nI (i + 1) := by
  rw [Int32.sub_eq_add_neg, Int32.sub_eq_add_neg, show nI (i + 1) = nI i + nI 1 from (nI_add i 1).symm, show nI (n - 1 - i) = nI n + -nI 1 + -nI i by rw [nI_mm (show 1 ≤ n by omega), nI_mm (show i ≤ n - 1 by omega)]]
  rw [Int32.neg_add, Int32.add_assoc (nI n + -nI 1), Int32.sub_eq_add_neg]
theorem nI_dn0 {n : Nat} (h : n < 1000) : nI n - nI 1 - nI n < nI 0 := by
  rw [Int32.sub_eq_add_neg, Int32.sub_eq_add_neg, Int32.add_comm (nI n) (-nI 1), Int32.add_assoc, ← Int32.sub_eq_add_neg, Int32.sub_self]
  decide
theorem put_M {μ : Mem} {d : List Nat} {n : Nat} (v : Int32) (h : OutM μ d) (hn : 1 ≤ n) (hn4 : n ≤ 4) (hd : d.length + n ≤ 100) : wp (f303 v (nI n) μ) (fun m => OutM m (d ++ lowB v n) ∧ Fr FOut μ m) := by
  have g := gl_163
  have hll := lowB_len v n
  unfold f303 l303_4
  rw [i_1, nm]
  refine wp_for (fun i m => (v, nI n - nI 1 - nI i, m)) (fun i m => OutM m (d ++ (lowB v n).take i) ∧ Fr FOut μ m) n (by omega) μ _ (by rw [show nI 0 = (0 : Int32) from rfl, Int32.sub_zero]) ⟨by rw [List.take_zero, List.append_nil]; exact h, Fr.rf⟩ (fun self i m hi ⟨y1, y2⟩ hk => ?_) (fun self m ⟨y1, y2⟩ => ?_)
  · have hl : (d ++ (lowB v n).take i).length = d.length + i := by rw [List.length_append, List.length_take]; omega
    have z1 := y1.1
    rw [hl] at z1
    have e1 : nI n - nI 1 - nI i = nI (n - 1 - i) := by rw [pk_sub (by omega), pk_sub (by omega)]
    have e2 : (jushr v (nI (8 * (n - 1 - i)))) &&& nI 255 = nI (byv (jshr v (nI (8 * (n - 1 - i))))) := shr255 v (by omega)
    rw [e1]
    unfold b303_4
    simp (disch := omega) only [i_0, i_1, i_2, i_3, i_4, i_5, i_6, i_7, i_8, i_9, i_10, i_11, i_12, i_13, i_14, i_15, i_16, i_17, i_18, i_19, i_20, i_21, i_22, i_23, i_24, i_25, i_26, i_27, i_31, i_32, i_40, i_42, i_45, i_48, i_51, i_52, i_56, i_58, i_59, i_60, i_61, i_62, i_63, i_64, i_85, i_90, i_100, i_112, i_120, i_121, i_127, i_128, i_130, i_144, i_171, i_192, i_193, i_197, i_200, i_207, i_235, i_240, i_248, i_252, i_254, i_255, i_256, i_512, i_544, i_768, i_769, i_793, i_1000, i_1023, i_1024, i_1200, i_1538, i_1541, i_1545, i_2046, i_2047, i_2049, i_2060, i_2736, i_2737, i_2817, i_2818, i_2819, i_2820, i_2821, i_2831, i_2832, i_3077, i_3085, i_3843, i_3849, i_3851, i_3852, i_4129, i_4353, i_4865, i_5121, i_5122, i_5123, i_6156, i_8192, i_12288, i_16383, i_32000, i_33280, i_49152, i_53247, i_60304, i_64000, i_64512, i_65521, i_65535, i_449838109, nI_add, pk_mul, pk_sub, nI_mm, nI_leI, nI_ltI, nI_eq, pk_div, jrem_N, jshl_N, jshr_N, jushr_N, jmin_N, jmax_N, an_1, an_3, an_7, an_15, an_31, an_63, an_127, an_255, an_1023, an_2047, an_16383, an_65535, nm, pfI, rdI, rdW, rdL, rdI2, rdW2, ldA_N, stA_N, stB_N, stZ_N, pfZ_0, pfZ_1, rtZ_0, rtZ_1, acp_N, Option.bind_some, wp_some_iff, true_and, and_true, false_and, and_false, or_true, true_or, or_false, false_or, not_true_eq_false, not_false_eq_true, if_true, if_false, if_pos, if_neg, lt_sub, le_sub, sub_lt3, sub_le3, z1, e2]
    rw [nI_dn hi]
    refine hk _ ⟨⟨?_, ?_⟩, (y2.pI (Or.inl rfl)).pI (Or.inr ⟨rfl, rfl⟩)⟩
    · rw [List.length_append, List.length_take, Nat.min_eq_left (by omega)]
      simp (disch := omega) only [i_0, i_1, i_2, i_3, i_4, i_5, i_6, i_7, i_8, i_9, i_10, i_11, i_12, i_13, i_14, i_15, i_16, i_17, i_18, i_19, i_20, i_21, i_22, i_23, i_24, i_25, i_26, i_27, i_31, i_32, i_40, i_42, i_45, i_48, i_51, i_52, i_56, i_58, i_59, i_60, i_61, i_62, i_63, i_64, i_85, i_90, i_100, i_112, i_120, i_121, i_127, i_128, i_130, i_144, i_171, i_192, i_193, i_197, i_200, i_207, i_235, i_240, i_248, i_252, i_254, i_255, i_256, i_512, i_544, i_768, i_769, i_793, i_1000, i_1023, i_1024, i_1200, i_1538, i_1541, i_1545, i_2046, i_2047, i_2049, i_2060, i_2736, i_2737, i_2817, i_2818, i_2819, i_2820, i_2821, i_2831, i_2832, i_3077, i_3085, i_3843, i_3849, i_3851, i_3852, i_4129, i_4353, i_4865, i_5121, i_5122, i_5123, i_6156, i_8192, i_12288, i_16383, i_32000, i_33280, i_49152, i_53247, i_60304, i_64000, i_64512, i_65521, i_65535, i_449838109, nI_add, pk_mul, pk_sub, nI_mm, nI_leI, nI_ltI, nI_eq, pk_div, jrem_N, jshl_N, jshr_N, jushr_N, jmin_N, jmax_N, an_1, an_3, an_7, an_15, an_31, an_63, an_127, an_255, an_1023, an_2047, an_16383, an_65535, nm, pfI, rdI, rdW, rdL, rdI2, rdW2, ldA_N, stA_N, stB_N, stZ_N, pfZ_0, pfZ_1, rtZ_0, rtZ_1, acp_N, Option.bind_some, wp_some_iff, true_and, and_true, false_and, and_false, or_true, true_or, or_false, false_or, not_true_eq_false, not_false_eq_true, if_true, if_false, if_pos, if_neg, lt_sub, le_sub, sub_lt3, sub_le3]
      rfl
    · rw [take_sn (by omega), ← List.append_assoc, lowB_get v n i hi]
      exact Seg.set_o (Seg.sn y1.2 (by rw [hl, Nat.zero_add]) (byv_lt _)) (by omega)
  · rw [List.take_of_length_le (by omega)] at y1
    unfold b303_4
    rw [i_0, if_pos (nI_dn0 (by omega))]
    exact wp_some ⟨y1, y2⟩
theorem md_hi (n : Nat) : (jshr (nI n) (nI 8)) &&& nI 63 = nI (n / 256 % 64) := by
  rw [← an_63]
  apply b_ext
  intro i hi
  rw [b_and, b_and]
  have h63 : ∀ i, i < 32 → bt (nI 63) i = decide (i < 6) := by decide +kernel
  rw [h63 i hi]
  by_cases e : i < 6
  · rw [show jshr (nI n) (nI 8) = nI n >>> (nI 8 &&& 31) from rfl, b_sshr 8 (by decide) _ hi, if_pos (by omega), bt_nI (by omega), bt_nI hi, show n / 256 = n / 2 ^ 8 from rfl, Nat.testBit_div_two_pow, Nat.add_comm]
  · rw [decide_eq_false e, Bool.and_false, Bool.and_false]
abbrev FMm : Nat → Nat → Prop := fun c k => c = 129 ∧ (k = 80 ∨ k = 81 ∨ k = 83 ∨ k = 86 ∨ k = 87) ∨ 164 ≤ c ∧ c ≤ 166 ∨ 169 ≤ c ∧ c ≤ 178
theorem mkD_M {μ : Mem} {x : Mw} {sv sb n : Nat} {PP : List Nat} (hI : MI x) (x1 : μ.1 129 77 = nI x.1) (x2 : μ.1 129 81 = nI (x.2.1 + 1)) (x3 : μ.1 129 86 = nI x.2.2.1.length) (x3b : QF μ 165 166 100 0 x.2.2.1.length (fun i => (pk x.2.2.1 i).1)) (x4 : μ.1 129 87 = x.2.2.2.1) (x5 : StM μ 0 x.2.2.2.2.1) (x6 : StM μ 1 x.2.2.2.2.2) (hMd : MdP μ x.1 PP) (hn : n = PP.length) (h15 : 15 ≤ PP.length) (h82 : PP.length ≤ 82) (ho : μ.1 129 80 = nI 0) (hv : sv < 256) (hs : sb < 256) : wp (l305_250 gF (nI sv, nI sb, nI n, nI 0, μ)) (fun m => MM m (x.1, x.2.1 + 1, if x.2.2.1.length < 24 then x.2.2.1 ++ [(PP, nI 0, nI 0)] else x.2.2.1, if x.2.2.1.length < 24 then x.2.2.2.1 else x.2.2.2.1 + nI 1, offS x.2.2.2.2.1 x.1 PP (256 * sv + sb), offS x.2.2.2.2.2 x.1 PP (256 * sv + sb)) ∧ OutM m [] ∧ Fr (fun c k => c = 129 ∧ (k = 86 ∨ k = 87) ∨ 165 ≤ c ∧ c ≤ 166 ∨ 169 ≤ c ∧ c ≤ 178) μ m) := by
  have g1 := gl_164
  have g3 := gl_165
  have g4 := gl_166
  have g5 := gl_170
  obtain ⟨i1, i2, i3, i4⟩ := hI
  have j3 := offS_I (w := 256 * sv + sb) (p := PP) i3 h15 h82 (by omega)
  have j4 := offS_I (w := 256 * sv + sb) (p := PP) i4 h15 h82 (by omega)
  generalize hQ : (fun m : Mem => MM m (x.1, x.2.1 + 1, if x.2.2.1.length < 24 then x.2.2.1 ++ [(PP, nI 0, nI 0)] else x.2.2.1, if x.2.2.1.length < 24 then x.2.2.2.1 else x.2.2.2.1 + nI 1, offS x.2.2.2.2.1 x.1 PP (256 * sv + sb), offS x.2.2.2.2.2 x.1 PP (256 * sv + sb)) ∧ OutM m [] ∧ Fr (fun c k => c = 129 ∧ (k = 86 ∨ k = 87) ∨ 165 ≤ c ∧ c ≤ 166 ∨ 169 ≤ c ∧ c ≤ 178) μ m) = Q
  unfold l305_250
  refine wp_for (fun i m => (nI sv, nI sb, nI n, nI i, m)) (fun i m => StM m 0 (if 0 < i then offS x.2.2.2.2.1 x.1 PP (256 * sv + sb) else x.2.2.2.2.1) ∧ StM m 1 (if 1 < i then offS x.2.2.2.2.2 x.1 PP (256 * sv + sb) else x.2.2.2.2.2) ∧ Fr (fun c _ => 169 ≤ c ∧ c ≤ 178) μ m) 2 (by omega) μ _ rfl ⟨by rw [if_neg (by omega)]; exact x5, by rw [if_neg (by omega)]; exact x6, Fr.rf⟩ (fun self i m hi ⟨y1, y2, y3⟩ hk => ?_) (fun self m ⟨y1, y2, y3⟩ => ?_)
  · have hMm := hMd.fr y3 (fun k => by omega) (by omega) (by omega)
    have step : ∀ xx : Sto, StM m i xx → StI x.1 xx → (∀ m2, StM m2 i (offS xx x.1 PP (256 * sv + sb)) → Fr (FStM i) m m2 → wp (self (nI sv, nI sb, nI n, nI (i + 1), m2)) Q) → wp (b305_250 (fun v1 v2 v3 v5 μ => self (v1, v2, v3, v5, μ)) (nI sv) (nI sb) (nI n) (nI i) m) Q := by
      intro xx q1 q2 q3
      unfold b305_250 c305_283
      unfold offS at q3
      rw [i_2, if_neg (by rw [nI_leI (by decide) (by omega)]; omega), ldA_N (by omega), Option.bind_some, q1.2.1.2.1, i_0]
      by_cases p1 : xx.1 1 = nI 0
      · rw [if_pos p1] at q3
        rw [if_pos p1, nm, i_1, nI_add]
        exact q3 m q1 Fr.rf
      · rw [if_neg p1] at q3
        rw [if_neg p1]
        have hch := isch_M hi q1 hv hs
        rw [hch, Option.bind_some]
        dsimp only
        by_cases p2 : 256 * sv + sb ∈ xx.2.1
        · rw [if_pos p2] at q3
          rw [decide_eq_true p2, b2n_t, if_neg (show ¬ nI 1 = nI 0 by decide)]
          refine wp_bind (keep_M hi q1 q2 hMm (by omega) (by omega)) (fun m2 ⟨h2, e2⟩ => ?_)
          rw [nm, i_1, nI_add]
          exact q3 m2 h2 e2
        · rw [if_neg p2] at q3
          rw [decide_eq_false p2, b2n_f, if_pos rfl, nm, i_1, nI_add]
          exact q3 m q1 Fr.rf
    have : i = 0 ∨ i = 1 := by omega
    rcases this with rfl | rfl
    · rw [if_neg (by omega)] at y1 y2
      refine step _ y1 i3 (fun m2 h2 e2 => hk m2 ⟨by rw [if_pos (by omega)]; exact h2, ?_, y3.tr e2 (fun _ _ q => q) (by intro c k h; omega)⟩)
      rw [if_neg (by omega)]
      exact y2.fr i4.2.2.l90 e2 (fun c k q => by omega)
    · rw [if_pos (by omega)] at y1
      rw [if_neg (by omega)] at y2
      refine step _ y2 i4 (fun m2 h2 e2 => hk m2 ⟨?_, by rw [if_pos (by omega)]; exact h2, y3.tr e2 (fun _ _ q => q) (by intro c k h; omega)⟩)
      rw [if_pos (by omega)]
      exact y1.fr j3.2.2.l90 e2 (fun c k q => by omega)
  · rw [if_pos (by omega)] at y1 y2
    have hMm := hMd.fr y3 (fun k => by omega) (by omega) (by omega)
    have x3' : m.1 129 86 = nI x.2.2.1.length := by rw [y3.1 _ _ (by omega)]; exact x3
    have x3b' := x3b.fr y3 (fun k => by omega) (fun k => by omega)
    have x4' : m.1 129 87 = x.2.2.2.1 := by rw [y3.1 _ _ (by omega)]; exact x4
    have x1' : m.1 129 77 = nI x.1 := by rw [y3.1 _ _ (by omega)]; exact x1
    have x2' : m.1 129 81 = nI (x.2.1 + 1) := by rw [y3.1 _ _ (by omega)]; exact x2
    have o1' : m.1 129 80 = nI 0 := by rw [y3.1 _ _ (by omega)]; exact ho
    have hlv := i2.1
    subst hQ
    unfold b305_250
    rw [i_2, if_pos (nI_le (Nat.le_refl _) (by decide)), x3', i_24]
    by_cases q : x.2.2.1.length < 24
    · rw [if_neg (by rw [nI_eq (by omega) (by decide)]; omega), i_0, i_100, pk_mul]
      refine wp_bind (move_M hMm.1 hn (by omega) (by omega) (by omega) (by omega)) (fun m3 ⟨h3, e3⟩ => ?_)
      have x3'' : m3.1 129 86 = nI x.2.2.1.length := by rw [e3.1 _ _ (by omega)]; exact x3'
      rw [x3'', stA_N (by omega), Option.bind_some, rdI, if_neg (by omega), x3'', i_1, nI_add, pfI, Option.bind_some]
      generalize hm4 : setI (setI m3 166 x.2.2.1.length (nI n)) 129 86 (nI (x.2.2.1.length + 1)) = m4
      have f4 : Fr (fun c k => c = 166 ∧ k = x.2.2.1.length ∨ c = 129 ∧ k = 86) m3 m4 := by
        subst hm4
        exact (Fr.sI (by omega)).pI (by omega)
      have f5 : Fr (fun c k => c = 165 ∧ 100 * x.2.2.1.length ≤ k ∧ k < 100 * x.2.2.1.length + 100 ∨ c = 166 ∧ k = x.2.2.1.length ∨ c = 129 ∧ k = 86) m m4 := e3.tr f4 (by intro c k h; omega) (by intro c k h; omega)
      have hal : (x.2.2.1 ++ [(PP, nI 0, nI 0)]).length = x.2.2.1.length + 1 := by rw [List.length_append]; rfl
      simp only [if_pos q]
      refine wp_some ⟨⟨by rw [f5.1 _ _ (by omega)]; exact x1', by rw [f5.1 _ _ (by omega)]; exact x2', ⟨?_, ?_⟩, by rw [f5.1 _ _ (by omega)]; exact x4', y1.fr j3.2.2.l90 f5 (fun c k _ => by omega), y2.fr j4.2.2.l90 f5 (fun c k _ => by omega)⟩, ⟨by rw [f5.1 _ _ (by omega)]; exact o1', Seg.nil⟩, y3.tr f5 (by intro c k h; omega) (by intro c k h; omega)⟩
      · show m4.1 129 86 = nI (x.2.2.1 ++ [_]).length
        rw [hal]
        subst hm4
        simp (disch := omega) only [i_0, i_1, i_2, i_3, i_4, i_5, i_6, i_7, i_8, i_9, i_10, i_11, i_12, i_13, i_14, i_15, i_16, i_17, i_18, i_19, i_20, i_21, i_22, i_23, i_24, i_25, i_26, i_27, i_31, i_32, i_40, i_42, i_45, i_48, i_51, i_52, i_56, i_58, i_59, i_60, i_61, i_62, i_63, i_64, i_85, i_90, i_100, i_112, i_120, i_121, i_127, i_128, i_130, i_144, i_171, i_192, i_193, i_197, i_200, i_207, i_235, i_240, i_248, i_252, i_254, i_255, i_256, i_512, i_544, i_768, i_769, i_793, i_1000, i_1023, i_1024, i_1200, i_1538, i_1541, i_1545, i_2046, i_2047, i_2049, i_2060, i_2736, i_2737, i_2817, i_2818, i_2819, i_2820, i_2821, i_2831, i_2832, i_3077, i_3085, i_3843, i_3849, i_3851, i_3852, i_4129, i_4353, i_4865, i_5121, i_5122, i_5123, i_6156, i_8192, i_12288, i_16383, i_32000, i_33280, i_49152, i_53247, i_60304, i_64000, i_64512, i_65521, i_65535, i_449838109, nI_add, pk_mul, pk_sub, nI_mm, nI_leI, nI_ltI, nI_eq, pk_div, jrem_N, jshl_N, jshr_N, jushr_N, jmin_N, jmax_N, an_1, an_3, an_7, an_15, an_31, an_63, an_127, an_255, an_1023, an_2047, an_16383, an_65535, nm, pfI, rdI, rdW, rdL, rdI2, rdW2, ldA_N, stA_N, stB_N, stZ_N, pfZ_0, pfZ_1, rtZ_0, rtZ_1, acp_N, Option.bind_some, wp_some_iff, true_and, and_true, false_and, and_false, or_true, true_or, or_false, false_or, not_true_eq_false, not_false_eq_true, if_true, if_false, if_pos, if_neg, lt_sub, le_sub, sub_lt3, sub_le3]
      · show QF m4 165 166 100 0 (x.2.2.1 ++ [_]).length _
        rw [hal]
        have z := QF.put2 (hi2 := x.2.2.1.length + 1) x3b' (x := PP) (i := x.2.2.1.length) (m := m4) (by omega) (by subst hm4; simp (disch := omega) only [i_0, i_1, i_2, i_3, i_4, i_5, i_6, i_7, i_8, i_9, i_10, i_11, i_12, i_13, i_14, i_15, i_16, i_17, i_18, i_19, i_20, i_21, i_22, i_23, i_24, i_25, i_26, i_27, i_31, i_32, i_40, i_42, i_45, i_48, i_51, i_52, i_56, i_58, i_59, i_60, i_61, i_62, i_63, i_64, i_85, i_90, i_100, i_112, i_120, i_121, i_127, i_128, i_130, i_144, i_171, i_192, i_193, i_197, i_200, i_207, i_235, i_240, i_248, i_252, i_254, i_255, i_256, i_512, i_544, i_768, i_769, i_793, i_1000, i_1023, i_1024, i_1200, i_1538, i_1541, i_1545, i_2046, i_2047, i_2049, i_2060, i_2736, i_2737, i_2817, i_2818, i_2819, i_2820, i_2821, i_2831, i_2832, i_3077, i_3085, i_3843, i_3849, i_3851, i_3852, i_4129, i_4353, i_4865, i_5121, i_5122, i_5123, i_6156, i_8192, i_12288, i_16383, i_32000, i_33280, i_49152, i_53247, i_60304, i_64000, i_64512, i_65521, i_65535, i_449838109, nI_add, pk_mul, pk_sub, nI_mm, nI_leI, nI_ltI, nI_eq, pk_div, jrem_N, jshl_N, jshr_N, jushr_N, jmin_N, jmax_N, an_1, an_3, an_7, an_15, an_31, an_63, an_127, an_255, an_1023, an_2047, an_16383, an_65535, nm, pfI, rdI, rdW, rdL, rdI2, rdW2, ldA_N, stA_N, stB_N, stZ_N, pfZ_0, pfZ_1, rtZ_0, rtZ_1, acp_N, Option.bind_some, wp_some_iff, true_and, and_true, false_and, and_false, or_true, true_or, or_false, false_or, not_true_eq_false, not_false_eq_true, if_true, if_false, if_pos, if_neg, lt_sub, le_sub, sub_lt3, sub_le3]; rw [hn]) (h3.fr f4 (fun k => by omega)) f5 (fun k q => by omega) (fun k q => by omega) (Or.inr ⟨rfl, rfl⟩)
        refine z.cg (Nat.le_refl _) (fun j q1 q2 => ?_)
        dsimp only
        rw [pk_app]
        unfold upL
        by_cases e : j = x.2.2.1.length
        · rw [if_pos e, if_neg (by omega), if_pos e]
        · rw [if_pos (show j < x.2.2.1.length by omega), if_neg e]
    · have h24 : x.2.2.1.length = 24 := by omega
      rw [if_pos (by rw [h24]), x4', i_1, pfI, Option.bind_some]
      have f5 : Fr (fun c k => c = 129 ∧ k = 87) m (setI m 129 87 (x.2.2.2.1 + nI 1)) := Fr.sI ⟨rfl, rfl⟩
      simp only [if_neg q]
      refine wp_some ⟨⟨by rw [f5.1 _ _ (by omega)]; exact x1', by rw [f5.1 _ _ (by omega)]; exact x2', ⟨by rw [f5.1 _ _ (by omega)]; exact x3', x3b'.fr f5 (fun k => by omega) (fun k => by omega)⟩, ?_, y1.fr j3.2.2.l90 f5 (fun c k _ => by omega), y2.fr j4.2.2.l90 f5 (fun c k _ => by omega)⟩, ⟨by rw [f5.1 _ _ (by omega)]; exact o1', Seg.nil⟩, y3.tr f5 (by intro c k h; omega) (by intro c k h; omega)⟩
      show (setI m 129 87 (x.2.2.2.1 + nI 1)).1 129 87 = x.2.2.2.1 + nI 1
      simp (disch := omega) only [i_0, i_1, i_2, i_3, i_4, i_5, i_6, i_7, i_8, i_9, i_10, i_11, i_12, i_13, i_14, i_15, i_16, i_17, i_18, i_19, i_20, i_21, i_22, i_23, i_24, i_25, i_26, i_27, i_31, i_32, i_40, i_42, i_45, i_48, i_51, i_52, i_56, i_58, i_59, i_60, i_61, i_62, i_63, i_64, i_85, i_90, i_100, i_112, i_120, i_121, i_127, i_128, i_130, i_144, i_171, i_192, i_193, i_197, i_200, i_207, i_235, i_240, i_248, i_252, i_254, i_255, i_256, i_512, i_544, i_768, i_769, i_793, i_1000, i_1023, i_1024, i_1200, i_1538, i_1541, i_1545, i_2046, i_2047, i_2049, i_2060, i_2736, i_2737, i_2817, i_2818, i_2819, i_2820, i_2821, i_2831, i_2832, i_3077, i_3085, i_3843, i_3849, i_3851, i_3852, i_4129, i_4353, i_4865, i_5121, i_5122, i_5123, i_6156, i_8192, i_12288, i_16383, i_32000, i_33280, i_49152, i_53247, i_60304, i_64000, i_64512, i_65521, i_65535, i_449838109, nI_add, pk_mul, pk_sub, nI_mm, nI_leI, nI_ltI, nI_eq, pk_div, jrem_N, jshl_N, jshr_N, jushr_N, jmin_N, jmax_N, an_1, an_3, an_7, an_15, an_31, an_63, an_127, an_255, an_1023, an_2047, an_16383, an_65535, nm, pfI, rdI, rdW, rdL, rdI2, rdW2, ldA_N, stA_N, stB_N, stZ_N, pfZ_0, pfZ_1, rtZ_0, rtZ_1, acp_N, Option.bind_some, wp_some_iff, true_and, and_true, false_and, and_false, or_true, true_or, or_false, false_or, not_true_eq_false, not_false_eq_true, if_true, if_false, if_pos, if_neg, lt_sub, le_sub, sub_lt3, sub_le3]
theorem mkC_M {μ : Mem} {x : Mw} {sv sb : Nat} {d PH : List Nat} {kl : Int32 → Int32 → Int32 → Int32 → Mem → Option (Mem)} (h : MM μ x) (hI : MI x) (hp : Seg μ 164 0 PH) (hl : PH.length = d.length + 13) (o1 : μ.1 129 80 = nI d.length) (hd : d.length ≤ 67) (hv : sv < 256) (hs : sb < 256) : wp (b305_155 kl (nI sv) (nI sb) (nI (15 + d.length)) (nI d.length) μ) (fun m => MM m (x.1, x.2.1 + 1, if x.2.2.1.length < 24 then x.2.2.1 ++ [(wck PH, nI 0, nI 0)] else x.2.2.1, if x.2.2.1.length < 24 then x.2.2.2.1 else x.2.2.2.1 + nI 1, offS x.2.2.2.2.1 x.1 (wck PH) (256 * sv + sb), offS x.2.2.2.2.2 x.1 (wck PH) (256 * sv + sb)) ∧ OutM m [] ∧ Fr FMm μ m) := by
  have g1 := gl_164
  obtain ⟨x1, x2, ⟨x3, x3b⟩, x4, x5, x6⟩ := h
  have hMI := hI
  obtain ⟨i1, i2, i3, i4⟩ := hI
  have hck := mcheck_ok hp (by omega) (by omega)
  rw [hl] at hck
  have hcl := crc_lt PH
  have hwl := wck_len PH
  unfold b305_155
  rw [o1, if_pos (nI_le (Nat.le_refl _) (by omega)), i_0, i_1, i_2, i_8, i_255, pk_sub (show 2 ≤ 15 + d.length by omega), pk_sub (show 1 ≤ 15 + d.length by omega), show 15 + d.length - 2 = d.length + 13 by omega, show 15 + d.length - 1 = d.length + 14 by omega, hck, Option.bind_some]
  dsimp only
  rw [jshr_N (by omega) (by decide), an_255, stA_N (by omega), Option.bind_some, stA_N (by omega), Option.bind_some, show crc PH / 2 ^ 8 = crc PH / 256 from rfl]
  have sW := hp.wck (d.length + 13) (d.length + 14) (by omega) (by omega)
  generalize hmW : setI (setI μ 164 (d.length + 13) (nI (crc PH / 256))) 164 (d.length + 14) (nI (crc PH % 256)) = mW at sW ⊢
  have fW : Fr (fun c _ => c = 164) μ mW := by
    subst hmW
    exact (Fr.sI (by omega)).pI (by omega)
  have t3 : (setI mW 129 83 (nI (15 + d.length))).1 129 81 = nI x.2.1 := by
    rw [rdI, if_neg (by omega), fW.1 _ _ (by omega)]
    exact x2
  rw [pfI, Option.bind_some, t3, nI_add, pfI, Option.bind_some, pfI, Option.bind_some]
  generalize wck PH = PP at *
  generalize hmX : setI (setI (setI mW 129 83 (nI (15 + d.length))) 129 81 (nI (x.2.1 + 1))) 129 80 (nI 0) = mX
  have fX : Fr (fun c k => c = 129 ∧ (k = 80 ∨ k = 81 ∨ k = 83)) mW mX := by
    subst hmX
    exact ((Fr.sI (by omega)).pI (by omega)).pI (by omega)
  have k80 : mX.1 129 80 = nI 0 := by subst hmX; simp (disch := omega) only [i_0, i_1, i_2, i_3, i_4, i_5, i_6, i_7, i_8, i_9, i_10, i_11, i_12, i_13, i_14, i_15, i_16, i_17, i_18, i_19, i_20, i_21, i_22, i_23, i_24, i_25, i_26, i_27, i_31, i_32, i_40, i_42, i_45, i_48, i_51, i_52, i_56, i_58, i_59, i_60, i_61, i_62, i_63, i_64, i_85, i_90, i_100, i_112, i_120, i_121, i_127, i_128, i_130, i_144, i_171, i_192, i_193, i_197, i_200, i_207, i_235, i_240, i_248, i_252, i_254, i_255, i_256, i_512, i_544, i_768, i_769, i_793, i_1000, i_1023, i_1024, i_1200, i_1538, i_1541, i_1545, i_2046, i_2047, i_2049, i_2060, i_2736, i_2737, i_2817, i_2818, i_2819, i_2820, i_2821, i_2831, i_2832, i_3077, i_3085, i_3843, i_3849, i_3851, i_3852, i_4129, i_4353, i_4865, i_5121, i_5122, i_5123, i_6156, i_8192, i_12288, i_16383, i_32000, i_33280, i_49152, i_53247, i_60304, i_64000, i_64512, i_65521, i_65535, i_449838109, nI_add, pk_mul, pk_sub, nI_mm, nI_leI, nI_ltI, nI_eq, pk_div, jrem_N, jshl_N, jshr_N, jushr_N, jmin_N, jmax_N, an_1, an_3, an_7, an_15, an_31, an_63, an_127, an_255, an_1023, an_2047, an_16383, an_65535, nm, pfI, rdI, rdW, rdL, rdI2, rdW2, ldA_N, stA_N, stB_N, stZ_N, pfZ_0, pfZ_1, rtZ_0, rtZ_1, acp_N, Option.bind_some, wp_some_iff, true_and, and_true, false_and, and_false, or_true, true_or, or_false, false_or, not_true_eq_false, not_false_eq_true, if_true, if_false, if_pos, if_neg, lt_sub, le_sub, sub_lt3, sub_le3]
  have k81 : mX.1 129 81 = nI (x.2.1 + 1) := by subst hmX; simp (disch := omega) only [i_0, i_1, i_2, i_3, i_4, i_5, i_6, i_7, i_8, i_9, i_10, i_11, i_12, i_13, i_14, i_15, i_16, i_17, i_18, i_19, i_20, i_21, i_22, i_23, i_24, i_25, i_26, i_27, i_31, i_32, i_40, i_42, i_45, i_48, i_51, i_52, i_56, i_58, i_59, i_60, i_61, i_62, i_63, i_64, i_85, i_90, i_100, i_112, i_120, i_121, i_127, i_128, i_130, i_144, i_171, i_192, i_193, i_197, i_200, i_207, i_235, i_240, i_248, i_252, i_254, i_255, i_256, i_512, i_544, i_768, i_769, i_793, i_1000, i_1023, i_1024, i_1200, i_1538, i_1541, i_1545, i_2046, i_2047, i_2049, i_2060, i_2736, i_2737, i_2817, i_2818, i_2819, i_2820, i_2821, i_2831, i_2832, i_3077, i_3085, i_3843, i_3849, i_3851, i_3852, i_4129, i_4353, i_4865, i_5121, i_5122, i_5123, i_6156, i_8192, i_12288, i_16383, i_32000, i_33280, i_49152, i_53247, i_60304, i_64000, i_64512, i_65521, i_65535, i_449838109, nI_add, pk_mul, pk_sub, nI_mm, nI_leI, nI_ltI, nI_eq, pk_div, jrem_N, jshl_N, jshr_N, jushr_N, jmin_N, jmax_N, an_1, an_3, an_7, an_15, an_31, an_63, an_127, an_255, an_1023, an_2047, an_16383, an_65535, nm, pfI, rdI, rdW, rdL, rdI2, rdW2, ldA_N, stA_N, stB_N, stZ_N, pfZ_0, pfZ_1, rtZ_0, rtZ_1, acp_N, Option.bind_some, wp_some_iff, true_and, and_true, false_and, and_false, or_true, true_or, or_false, false_or, not_true_eq_false, not_false_eq_true, if_true, if_false, if_pos, if_neg, lt_sub, le_sub, sub_lt3, sub_le3]
  have k83 : mX.1 129 83 = nI (15 + d.length) := by subst hmX; simp (disch := omega) only [i_0, i_1, i_2, i_3, i_4, i_5, i_6, i_7, i_8, i_9, i_10, i_11, i_12, i_13, i_14, i_15, i_16, i_17, i_18, i_19, i_20, i_21, i_22, i_23, i_24, i_25, i_26, i_27, i_31, i_32, i_40, i_42, i_45, i_48, i_51, i_52, i_56, i_58, i_59, i_60, i_61, i_62, i_63, i_64, i_85, i_90, i_100, i_112, i_120, i_121, i_127, i_128, i_130, i_144, i_171, i_192, i_193, i_197, i_200, i_207, i_235, i_240, i_248, i_252, i_254, i_255, i_256, i_512, i_544, i_768, i_769, i_793, i_1000, i_1023, i_1024, i_1200, i_1538, i_1541, i_1545, i_2046, i_2047, i_2049, i_2060, i_2736, i_2737, i_2817, i_2818, i_2819, i_2820, i_2821, i_2831, i_2832, i_3077, i_3085, i_3843, i_3849, i_3851, i_3852, i_4129, i_4353, i_4865, i_5121, i_5122, i_5123, i_6156, i_8192, i_12288, i_16383, i_32000, i_33280, i_49152, i_53247, i_60304, i_64000, i_64512, i_65521, i_65535, i_449838109, nI_add, pk_mul, pk_sub, nI_mm, nI_leI, nI_ltI, nI_eq, pk_div, jrem_N, jshl_N, jshr_N, jushr_N, jmin_N, jmax_N, an_1, an_3, an_7, an_15, an_31, an_63, an_127, an_255, an_1023, an_2047, an_16383, an_65535, nm, pfI, rdI, rdW, rdL, rdI2, rdW2, ldA_N, stA_N, stB_N, stZ_N, pfZ_0, pfZ_1, rtZ_0, rtZ_1, acp_N, Option.bind_some, wp_some_iff, true_and, and_true, false_and, and_false, or_true, true_or, or_false, false_or, not_true_eq_false, not_false_eq_true, if_true, if_false, if_pos, if_neg, lt_sub, le_sub, sub_lt3, sub_le3]
  have fE : Fr (fun c k => c = 164 ∨ c = 129 ∧ (k = 80 ∨ k = 81 ∨ k = 83)) μ mX := fW.tr fX (by intro c k h; omega) (by intro c k h; omega)
  have hMd : MdP mX x.1 PP := ⟨sW.fr fX (fun k => by omega), by rw [k83]; congr 1; omega, by rw [fE.1 _ _ (by omega)]; exact x1⟩
  exact wp_mono (mkD_M (n := 15 + d.length) hMI (by rw [fE.1 _ _ (by omega)]; exact x1) k81 (by rw [fE.1 _ _ (by omega)]; exact x3) (x3b.fr fE (fun k => by omega) (fun k => by omega)) (by rw [fE.1 _ _ (by omega)]; exact x4) (x5.fr i3.2.2.l90 fE (fun c k _ => by omega)) (x6.fr i4.2.2.l90 fE (fun c k _ => by omega)) hMd (by omega) (by omega) (by omega) k80 hv hs) (fun m h => ⟨h.1, h.2.1, fE.tr h.2.2 (by intro c k h; omega) (by intro c k h; omega)⟩)
theorem mkB_M {μ : Mem} {x : Mw} {sv sb : Nat} {d H : List Nat} (h : MM μ x) (hI : MI x) (hp : Seg μ 164 0 H) (hl : H.length = 9) (o1 : μ.1 129 80 = nI d.length) (o2 : Seg μ 163 0 d) (hd : d.length ≤ 67) (hv : sv < 256) (hs : sb < 256) : wp (l305_113 gF (nI sv, nI sb, nI (15 + d.length), nI 0, μ)) (fun m => MM m (x.1, x.2.1 + 1, if x.2.2.1.length < 24 then x.2.2.1 ++ [(wck (H ++ lowB (nI x.1) 4 ++ d), nI 0, nI 0)] else x.2.2.1, if x.2.2.1.length < 24 then x.2.2.2.1 else x.2.2.2.1 + nI 1, offS x.2.2.2.2.1 x.1 (wck (H ++ lowB (nI x.1) 4 ++ d)) (256 * sv + sb), offS x.2.2.2.2.2 x.1 (wck (H ++ lowB (nI x.1) 4 ++ d)) (256 * sv + sb)) ∧ OutM m [] ∧ Fr FMm μ m) := by
  have g1 := gl_164
  have g2 := gl_163
  have hl4 := lowB_len (nI x.1) 4
  have htk := hI.1
  have x1 := h.1
  unfold l305_113
  refine wp_for (fun i m => (nI sv, nI sb, nI (15 + d.length), nI i, m)) (fun i m => Seg m 164 0 (H ++ (lowB (nI x.1) 4).take i) ∧ Fr (fun c _ => c = 164) μ m) 4 (by omega) μ _ rfl ⟨by rw [List.take_zero, List.append_nil]; exact hp, Fr.rf⟩ (fun self i m hi ⟨y1, y2⟩ hk => ?_) (fun self m ⟨y1, y2⟩ => ?_)
  · have t1 : m.1 129 77 = nI x.1 := by rw [y2.1 _ _ (by omega)]; exact x1
    have e2 : byv (jshr (nI x.1) (nI (24 - 8 * i))) = x.1 / 2 ^ (24 - 8 * i) % 256 := by rw [jshr_N (by omega) (by omega), byv_nat]
    unfold b305_113
    simp (disch := omega) only [i_0, i_1, i_2, i_3, i_4, i_5, i_6, i_7, i_8, i_9, i_10, i_11, i_12, i_13, i_14, i_15, i_16, i_17, i_18, i_19, i_20, i_21, i_22, i_23, i_24, i_25, i_26, i_27, i_31, i_32, i_40, i_42, i_45, i_48, i_51, i_52, i_56, i_58, i_59, i_60, i_61, i_62, i_63, i_64, i_85, i_90, i_100, i_112, i_120, i_121, i_127, i_128, i_130, i_144, i_171, i_192, i_193, i_197, i_200, i_207, i_235, i_240, i_248, i_252, i_254, i_255, i_256, i_512, i_544, i_768, i_769, i_793, i_1000, i_1023, i_1024, i_1200, i_1538, i_1541, i_1545, i_2046, i_2047, i_2049, i_2060, i_2736, i_2737, i_2817, i_2818, i_2819, i_2820, i_2821, i_2831, i_2832, i_3077, i_3085, i_3843, i_3849, i_3851, i_3852, i_4129, i_4353, i_4865, i_5121, i_5122, i_5123, i_6156, i_8192, i_12288, i_16383, i_32000, i_33280, i_49152, i_53247, i_60304, i_64000, i_64512, i_65521, i_65535, i_449838109, nI_add, pk_mul, pk_sub, nI_mm, nI_leI, nI_ltI, nI_eq, pk_div, jrem_N, jshl_N, jshr_N, jushr_N, jmin_N, jmax_N, an_1, an_3, an_7, an_15, an_31, an_63, an_127, an_255, an_1023, an_2047, an_16383, an_65535, nm, pfI, rdI, rdW, rdL, rdI2, rdW2, ldA_N, stA_N, stB_N, stZ_N, pfZ_0, pfZ_1, rtZ_0, rtZ_1, acp_N, Option.bind_some, wp_some_iff, true_and, and_true, false_and, and_false, or_true, true_or, or_false, false_or, not_true_eq_false, not_false_eq_true, if_true, if_false, if_pos, if_neg, lt_sub, le_sub, sub_lt3, sub_le3, t1]
    refine hk _ ⟨?_, y2.pI rfl⟩
    rw [take_sn (by omega), ← List.append_assoc, lowB_get _ 4 i hi, show 8 * (4 - 1 - i) = 24 - 8 * i by omega, e2]
    exact y1.sn (by rw [List.length_append, List.length_take, hl]; omega) (by omega)
  · rw [List.take_of_length_le (by omega)] at y1
    have hl13 : (H ++ lowB (nI x.1) 4).length = 13 := by rw [List.length_append, hl, hl4]
    have M1 := h.fr hI y2 (fun c k _ => by omega)
    have o1' : m.1 129 80 = nI d.length := by rw [y2.1 _ _ (by omega)]; exact o1
    have o2' := o2.fr y2 (fun k => by omega)
    generalize H ++ lowB (nI x.1) 4 = H13 at *
    unfold b305_113
    rw [i_4, if_pos (nI_le (Nat.le_refl _) (by decide)), i_0]
    unfold l305_155
    refine wp_for (fun i m => (nI sv, nI sb, nI (15 + d.length), nI i, m)) (fun i m2 => Seg m2 164 0 (H13 ++ d.take i) ∧ Fr (fun c _ => c = 164) m m2) d.length (by omega) m _ rfl ⟨by rw [List.take_zero, List.append_nil]; exact y1, Fr.rf⟩ (fun self i m2 hi ⟨v1, v2⟩ hk => ?_) (fun self m2 ⟨v1, v2⟩ => ?_)
    · have t1 : m2.1 129 80 = nI d.length := by rw [v2.1 _ _ (by omega)]; exact o1'
      have t2 := (o2'.fr v2 (fun k => by omega)).1 i hi
      rw [Nat.zero_add] at t2
      unfold b305_155
      rw [t1, if_neg (by rw [nI_leI (by omega) (by omega)]; omega), ldA_N (by omega), Option.bind_some, t2, i_13, i_1, nI_add, stA_N (by omega), Option.bind_some, nm, nI_add]
      refine hk _ ⟨?_, v2.pI rfl⟩
      rw [take_sn hi, ← List.append_assoc]
      exact v1.sn (by rw [List.length_append, List.length_take, hl13]; omega) (getD_lt o2.2 i)
    · rw [List.take_of_length_le (Nat.le_refl _)] at v1
      have t1 : m2.1 129 80 = nI d.length := by rw [v2.1 _ _ (by omega)]; exact o1'
      exact wp_mono (mkC_M (M1.fr hI v2 (fun c k _ => by omega)) hI v1 (by rw [List.length_append, hl13]; omega) t1 hd hv hs) (fun m3 h3 => ⟨h3.1, h3.2.1, (y2.tr' v2).tr h3.2.2 (by intro c k h; omega) (by intro c k h; omega)⟩)
theorem make_M {μ : Mem} {x : Mw} {sv sb : Nat} {d : List Nat} (h : MM μ x) (hI : MI x) (ho : OutM μ d) (hv : sv < 256) (hs : sb < 256) (hd : d.length ≤ 67) : wp (f305 (nI sv) (nI sb) μ) (fun m => MM m (makeW x sv sb d) ∧ OutM m [] ∧ Fr FMm μ m) := by
  have g1 := gl_164
  obtain ⟨o1, o2⟩ := ho
  have x2 := h.2.1
  have w1 : 192 ||| x.2.1 / 256 % 64 = 192 + x.2.1 / 256 % 64 := or_add (x := 3) 6 (by omega)
  unfold f305
  refine wp_nm (fun v hv2 => ?_)
  rw [i_15, o1, nI_add] at hv2
  subst hv2
  rw [i_0, i_1, i_2, i_3, i_4, i_5, i_6, i_7, i_8, i_12, i_32, i_63, i_192, i_255]
  rw [stA_N (by omega), Option.bind_some, stA_N (by omega), Option.bind_some]
  rw [show (setI (setI μ 164 0 (nI 8)) 164 1 (nI 12)).1 129 81 = nI x.2.1 by rw [rdI, if_neg (by omega), rdI, if_neg (by omega)]; exact x2, md_hi, nx_or, w1]
  rw [stA_N (by omega), Option.bind_some]
  rw [show (setI (setI (setI μ 164 0 (nI 8)) 164 1 (nI 12)) 164 2 (nI (192 + x.2.1 / 256 % 64))).1 129 81 = nI x.2.1 by rw [rdI, if_neg (by omega), rdI, if_neg (by omega), rdI, if_neg (by omega)]; exact x2, an_255]
  rw [stA_N (by omega), Option.bind_some, pk_sub (show 7 ≤ 15 + d.length by omega), jshr_N (by omega) (by decide), an_255, show 15 + d.length - 7 = d.length + 8 by omega]
  rw [stA_N (by omega), Option.bind_some, stA_N (by omega), Option.bind_some, stA_N (by omega), Option.bind_some, stA_N (by omega), Option.bind_some, stA_N (by omega), Option.bind_some]
  have hq : (d.length + 8) / 2 ^ 8 = (d.length + 8) / 256 % 256 := by omega
  rw [hq]
  have s1 := Seg.sn (μ := μ) (c := 164) (k := 0) (p := 0) (b := 8) (bs := []) Seg.nil rfl (by decide)
  have s2 := s1.sn (p := 1) (b := 12) rfl (by decide)
  have s3 := s2.sn (p := 2) (b := 192 + x.2.1 / 256 % 64) rfl (by omega)
  have s4 := s3.sn (p := 3) (b := x.2.1 % 256) rfl (by omega)
  have s5 := s4.sn (p := 4) (b := (d.length + 8) / 256 % 256) rfl (by omega)
  have s6 := s5.sn (p := 5) (b := (d.length + 8) % 256) rfl (by omega)
  have s7 := s6.sn (p := 6) (b := 32) rfl (by decide)
  have s8 := s7.sn (p := 7) (b := sv) rfl hv
  have s9 := s8.sn (p := 8) (b := sb) rfl hs
  generalize hm0 : setI (setI (setI (setI (setI (setI (setI (setI (setI μ 164 0 (nI 8)) 164 1 (nI 12)) 164 2 (nI (192 + x.2.1 / 256 % 64))) 164 3 (nI (x.2.1 % 256))) 164 4 (nI ((d.length + 8) / 256 % 256))) 164 5 (nI ((d.length + 8) % 256))) 164 6 (nI 32)) 164 7 (nI sv)) 164 8 (nI sb) = m0 at s9 ⊢
  have f0 : Fr (fun c _ => c = 164) μ m0 := by
    subst hm0
    repeat first | exact Fr.sI (by omega) | refine Fr.pI ?_ (by omega)
  have s9' : Seg m0 164 0 [8, 12, 192 + x.2.1 / 256 % 64, x.2.1 % 256, (d.length + 8) / 256 % 256, (d.length + 8) % 256, 32, sv, sb] := s9
  exact wp_mono (mkB_M (h.fr hI f0 (fun c k _ => by omega)) hI s9' rfl (by rw [f0.1 _ _ (by omega)]; exact o1) (o2.fr f0 (fun k => by omega)) hd hv hs) (fun m h => ⟨h.1, h.2.1, f0.tr h.2.2 (by intro c k h; omega) (by intro c k h; omega)⟩)
