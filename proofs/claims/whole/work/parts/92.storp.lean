/-! stores: packets that go, packets passed on -/
def kpU (t : Int32) (ps : List Pk) : List Pk := ps.filter (fun p => decide (t < p.2.1))
theorem pk_take {ps : List Pk} {i j : Nat} (h : j < i) (l : List Pk) (hi : i ≤ ps.length) : pk (ps.take i ++ l) j = pk ps j := by
  unfold pk
  rw [List.getD_eq_getElem?_getD, List.getD_eq_getElem?_getD, List.getElem?_append_left (by rw [List.length_take]; omega), List.getElem?_take, if_pos h]
theorem drop_c {ps : List Pk} {i : Nat} (hi : i < ps.length) : ps.drop i = pk ps i :: ps.drop (i + 1) := by
  unfold pk
  rw [List.drop_eq_getElem_cons hi, List.getD_eq_getElem?_getD, List.getElem?_eq_getElem hi]
  rfl
theorem take_c {ps : List Pk} {i : Nat} (hi : i < ps.length) : ps.take (i + 1) = ps.take i ++ [pk ps i] := by
  unfold pk
  rw [List.take_add_one, List.getD_eq_getElem?_getD, List.getElem?_eq_getElem hi]
  rfl
theorem dropU_C {μ : Mem} {s : Nat} {y : Sto} {t : Int32} (hs : s < 2) (h : StC μ s y) : wp (f179 (59 + 8 * s) t μ) (fun m => StC m s (y.1, y.2.1, kpU t y.2.2) ∧ Fr (FSt s) μ m) := by
  have hl := h.2.2.len
  have h5 := h.2.2.1
  unfold f179
  rw [h5, i_1]
  dsimp only [nm]
  unfold l179_10
  refine wp_for (fun i m => (t, nI y.2.2.length - nI 1 - nI i, m)) (fun i m => Shf m (59 + 8 * s + 1) (y.2.2.take (y.2.2.length - i) ++ kpU t (y.2.2.drop (y.2.2.length - i))) ∧ Fr (FS (59 + 8 * s + 1)) μ m) y.2.2.length (by omega) μ _ ?_ ⟨?_, Fr.rf⟩ (fun self i m hi ⟨x1, x2⟩ hk => ?_) (fun self m ⟨x1, x2⟩ => ?_)
  · try dsimp only
    rw [show nI 0 = (0 : Int32) from rfl, Int32.sub_zero]
  · rw [Nat.sub_zero, List.take_of_length_le (Nat.le_refl _), List.drop_of_length_le (Nat.le_refl _)]
    show Shf μ _ (y.2.2 ++ [])
    rw [List.append_nil]
    exact h.2.2
  · obtain ⟨j, hj⟩ : ∃ j, y.2.2.length - i = j + 1 := ⟨y.2.2.length - i - 1, by omega⟩
    have hjl : j < y.2.2.length := by omega
    have hk2 := hk
    rw [show y.2.2.length - (i + 1) = j by omega] at hk2
    rw [hj] at x1
    have ep : pk (y.2.2.take (j + 1) ++ kpU t (y.2.2.drop (j + 1))) j = pk y.2.2 j := pk_take (by omega) _ (by omega)
    have hlen : j < (y.2.2.take (j + 1) ++ kpU t (y.2.2.drop (j + 1))).length := by
      rw [List.length_append, List.length_take]
      omega
    have e1 := tagOf_y x1 hlen
    rw [ep] at e1
    have ei : nI y.2.2.length - nI 1 - nI i = nI j := by rw [pk_sub (by omega), pk_sub (by omega)]; congr 1; omega
    have ei2 : nI j + -nI 1 = nI y.2.2.length - nI 1 - nI (i + 1) := by
      have := nI_dn (n := y.2.2.length) (i := i) hi
      rw [show y.2.2.length - 1 - i = j by omega] at this
      exact this
    unfold b179_10 c179_34
    rw [ei]
    by_cases q : t < (pk y.2.2 j).2.1
    · have hL : y.2.2.take (j + 1) ++ kpU t (y.2.2.drop (j + 1)) = y.2.2.take j ++ kpU t (y.2.2.drop j) := by
        rw [drop_c hjl, take_c hjl, kpU, kpU, List.filter_cons, if_pos (decide_eq_true q), List.append_assoc]
        rfl
      rw [hL] at x1
      simp (disch := omega) only [i_0, i_1, i_2, i_3, i_4, i_5, i_6, i_7, i_8, i_9, i_10, i_11, i_12, i_13, i_14, i_15, i_16, i_17, i_18, i_19, i_20, i_21, i_22, i_23, i_24, i_25, i_26, i_27, i_31, i_32, i_40, i_42, i_45, i_48, i_51, i_52, i_56, i_58, i_59, i_60, i_61, i_62, i_63, i_64, i_85, i_90, i_100, i_112, i_120, i_121, i_127, i_128, i_130, i_144, i_171, i_192, i_193, i_197, i_200, i_207, i_235, i_240, i_248, i_252, i_254, i_255, i_256, i_512, i_544, i_768, i_769, i_793, i_1000, i_1023, i_1024, i_1200, i_1538, i_1541, i_1545, i_2046, i_2047, i_2049, i_2060, i_2736, i_2737, i_2817, i_2818, i_2819, i_2820, i_2821, i_2831, i_2832, i_3077, i_3085, i_3843, i_3849, i_3851, i_3852, i_4129, i_4353, i_4865, i_5121, i_5122, i_5123, i_6156, i_8192, i_12288, i_16383, i_32000, i_33280, i_49152, i_53247, i_60304, i_64000, i_64512, i_65521, i_65535, i_449838109, nI_add, pk_mul, pk_sub, nI_mm, nI_leI, nI_ltI, nI_eq, pk_div, jrem_N, jshl_N, jshr_N, jushr_N, jmin_N, jmax_N, an_1, an_3, an_7, an_15, an_31, an_63, an_127, an_255, an_1023, an_2047, an_16383, an_65535, nm, pfI, rdI, rdW, rdL, rdI2, rdW2, ldA_N, stA_N, stB_N, stZ_N, pfZ_0, pfZ_1, rtZ_0, rtZ_1, acp_N, Option.bind_some, wp_some_iff, true_and, and_true, false_and, and_false, or_true, true_or, or_false, false_or, not_true_eq_false, not_false_eq_true, if_true, if_false, if_pos, if_neg, lt_sub, le_sub, sub_lt3, sub_le3, Option.bind_assoc, e1, q]
      rw [ei2]
      exact hk2 m ⟨x1, x2⟩
    · have hL : (y.2.2.take (j + 1) ++ kpU t (y.2.2.drop (j + 1))).eraseIdx j = y.2.2.take j ++ kpU t (y.2.2.drop j) := by
        rw [drop_c hjl, take_c hjl, List.append_assoc, List.eraseIdx_append_of_length_le (by rw [List.length_take]; omega), List.length_take, show j - min j y.2.2.length = 0 by omega, kpU, kpU, List.filter_cons, if_neg (by rw [decide_eq_false q]; decide)]
        rfl
      simp (disch := omega) only [i_0, i_1, i_2, i_3, i_4, i_5, i_6, i_7, i_8, i_9, i_10, i_11, i_12, i_13, i_14, i_15, i_16, i_17, i_18, i_19, i_20, i_21, i_22, i_23, i_24, i_25, i_26, i_27, i_31, i_32, i_40, i_42, i_45, i_48, i_51, i_52, i_56, i_58, i_59, i_60, i_61, i_62, i_63, i_64, i_85, i_90, i_100, i_112, i_120, i_121, i_127, i_128, i_130, i_144, i_171, i_192, i_193, i_197, i_200, i_207, i_235, i_240, i_248, i_252, i_254, i_255, i_256, i_512, i_544, i_768, i_769, i_793, i_1000, i_1023, i_1024, i_1200, i_1538, i_1541, i_1545, i_2046, i_2047, i_2049, i_2060, i_2736, i_2737, i_2817, i_2818, i_2819, i_2820, i_2821, i_2831, i_2832, i_3077, i_3085, i_3843, i_3849, i_3851, i_3852, i_4129, i_4353, i_4865, i_5121, i_5122, i_5123, i_6156, i_8192, i_12288, i_16383, i_32000, i_33280, i_49152, i_53247, i_60304, i_64000, i_64512, i_65521, i_65535, i_449838109, nI_add, pk_mul, pk_sub, nI_mm, nI_leI, nI_ltI, nI_eq, pk_div, jrem_N, jshl_N, jshr_N, jushr_N, jmin_N, jmax_N, an_1, an_3, an_7, an_15, an_31, an_63, an_127, an_255, an_1023, an_2047, an_16383, an_65535, nm, pfI, rdI, rdW, rdL, rdI2, rdW2, ldA_N, stA_N, stB_N, stZ_N, pfZ_0, pfZ_1, rtZ_0, rtZ_1, acp_N, Option.bind_some, wp_some_iff, true_and, and_true, false_and, and_false, or_true, true_or, or_false, false_or, not_true_eq_false, not_false_eq_true, if_true, if_false, if_pos, if_neg, lt_sub, le_sub, sub_lt3, sub_le3, Option.bind_assoc, e1, q]
      refine wp_bind (shrem_C x1 hlen) (fun m2 ⟨c1, c2⟩ => ?_)
      rw [hL] at c1
      try rw [ei2]
      exact hk2 m2 ⟨c1, x2.tr' c2⟩
  · rw [Nat.sub_self, List.take_zero, List.drop_zero, List.nil_append] at x1
    have hneg : nI y.2.2.length - nI 1 - nI y.2.2.length < nI 0 := nI_dn0 (by omega)
    unfold b179_10
    rw [i_0, if_pos hneg]
    exact wp_some ⟨h.new x1 x2, x2.mono (by intro c k h; omega)⟩
theorem kpU_all {t : Int32} {ps : List Pk} (h : ∀ i, i < ps.length → t < (pk ps i).2.1) : kpU t ps = ps := by
  unfold kpU
  rw [List.filter_eq_self]
  intro p hp
  obtain ⟨i, hi, rfl⟩ := List.getElem_of_mem hp
  have := h i hi
  unfold pk at this
  rw [List.getD_eq_getElem?_getD, List.getElem?_eq_getElem hi] at this
  exact decide_eq_true this
theorem kpU_hd {t : Int32} {ps : List Pk} (h0 : 0 < ps.length) (h : ¬ t < (pk ps 0).2.1) : kpU t ps = kpU t (ps.eraseIdx 0) := by
  cases ps with
  | nil => exact absurd h0 (Nat.lt_irrefl _)
  | cons p l =>
    have h' : ¬ t < p.2.1 := h
    rw [kpU, List.filter_cons, if_neg (by rw [decide_eq_false h']; decide)]
    rfl
theorem lt_tr {t : Int32} {u v : Nat} (h : t < nI u) (huv : u ≤ v) (hv : v < 2 ^ 31) : t < nI v := by
  rw [Int32.lt_iff_toInt_lt] at h ⊢
  have h1 : (nI u).toInt = (u : Int) := by
    show (BitVec.ofNat 32 u).toInt = _
    rw [BitVec.toInt_eq_toNat_cond, BitVec.toNat_ofNat]
    split <;> omega
  have h2 : (nI v).toInt = (v : Int) := by
    show (BitVec.ofNat 32 v).toInt = _
    rw [BitVec.toInt_eq_toNat_cond, BitVec.toNat_ofNat]
    split <;> omega
  omega
theorem SPk.kp {tk : Nat} {t : Int32} {ps : List Pk} (h : SPk tk ps) (ht : tk < 2 ^ 31) : (∀ i, i < ps.length → t < (pk ps i).2.1) ∨ 0 < ps.length ∧ ¬ t < (pk ps 0).2.1 := by
  by_cases e : ps.length = 0
  · exact Or.inl (fun i hi => by omega)
  · by_cases q : t < (pk ps 0).2.1
    · left
      intro i hi
      by_cases z : i = 0
      · rw [z]; exact q
      · obtain ⟨u, hu, eu⟩ := (h.2.1 0 (by omega)).2.2.2
        obtain ⟨v, hv, ev⟩ := (h.2.1 i hi).2.2.2
        rw [ev]
        rw [eu] at q
        exact lt_tr q (h.2.2 0 i u v (by omega) hi hu hv eu ev) (by omega)
    · exact Or.inr ⟨by omega, q⟩
theorem kpU_I {tk : Nat} {t : Int32} (ht : tk < 2 ^ 31) : ∀ (n : Nat) (ps : List Pk), ps.length = n → SPk tk ps → SPk tk (kpU t ps)
  | 0, ps, hl, h => by
    rw [kpU_all (fun i hi => by omega)]
    exact h
  | n + 1, ps, hl, h => by
    rcases h.kp (t := t) ht with q | ⟨q0, q⟩
    · rw [kpU_all q]; exact h
    · rw [kpU_hd q0 q]
      exact kpU_I ht n _ (by rw [List.length_eraseIdx_of_lt q0]; omega) (h.era q0)
theorem f337_11 {x : Int32} {μ : Mem} : f337 (nI 11) x μ = l337_304 gF (x, μ) := by
  unfold f337
  repeat refine ite_no (by decide) ?_
  rfl
theorem dropU_M {μ : Mem} {s tk dep : Nat} {y : Sto} {bs : List Nat} (hs : s < 2) (h : StM μ s y) (hI : SPk tk y.2.2) (ht : tk < 2 ^ 31) (hq : CurM μ bs dep) (hl : bs.length = 18) : wp (f337 (nI 11) (nI s) μ) (fun m => StM m s (y.1, y.2.1, kpU (nI (w4l bs 12)) y.2.2) ∧ Fr (FStM s) μ m) := by
  have g1 := gl_171
  have g2 := gl_178
  have e12 : ∀ m, Fr (FStM s) μ m → f314 182 (nI 12) m = some (m, nI (w4l bs 12)) := fun m hf => (hq.fr hf (by omega) (by omega) (fun k => by omega)).fo (by omega) (i := 12) (by omega)
  have hl90 := hI.l90
  generalize nI (w4l bs 12) = t at *
  rw [f337_11]
  unfold l337_304
  refine wp_for (γ := List Pk × Mem) (fun i x => (nI s, x.2)) (fun i x => x.1.length + i = y.2.2.length ∧ SPk tk x.1 ∧ StM x.2 s (y.1, y.2.1, x.1) ∧ kpU t x.1 = kpU t y.2.2 ∧ Fr (FStM s) μ x.2) y.2.2.length (by omega) (y.2.2, μ) _ rfl ⟨rfl, hI, h, rfl, Fr.rf⟩ (fun self i x hi hx hk => ?_) (fun self x hx => ?_)
  · obtain ⟨ps, m⟩ := x
    obtain ⟨x1, x2, x3, x4, x5⟩ := hx
    dsimp only at x1 x2 x3 x4 x5 ⊢
    have e171 := x3.2.2.1.1
    have e178 := x3.2.2.2.2 (90 * s) (Nat.le_refl _) (by dsimp only; omega)
    dsimp only at e171 e178
    rw [Nat.sub_self] at e178
    unfold b337_304
    rw [ldA_N (by omega), Option.bind_some, e171, i_0, if_neg (fun z => by have := (nI_leI (by omega) (by omega)).mp z; omega), i_90, pk_mul, ldA_N (by omega), Option.bind_some, e178, i_12, e12 m x5, Option.bind_some]
    dsimp only
    by_cases q : t < (pk ps 0).2.1
    · rw [if_pos q]
      have hall : ∀ i, i < ps.length → t < (pk ps i).2.1 := (x2.kp (t := t) ht).resolve_right (fun z => z.2 q)
      rw [← x4, kpU_all hall]
      exact wp_some ⟨x3, x5⟩
    · rw [if_neg q]
      have h0 : 0 < ps.length := by omega
      refine wp_bind (dropF_M hs x3 x2 h0) (fun m2 ⟨c1, c2⟩ => ?_)
      exact hk (ps.eraseIdx 0, m2) ⟨by dsimp only; rw [List.length_eraseIdx_of_lt h0]; omega, x2.era h0, c1, by dsimp only; rw [← kpU_hd h0 q]; exact x4, x5.tr' c2⟩
  · obtain ⟨ps, m⟩ := x
    obtain ⟨x1, x2, x3, x4, x5⟩ := hx
    dsimp only at x1 x2 x3 x4 x5 ⊢
    have e171 := x3.2.2.1.1
    dsimp only at e171
    unfold b337_304
    rw [ldA_N (by omega), Option.bind_some, e171, i_0, if_pos ((nI_leI (by omega) (by omega)).mpr (by omega)), ← x4, kpU_all (fun i hi => by omega)]
    exact wp_some ⟨x3, x5⟩
/-! packets passed on -/
def inR (lo hi : Int32) (p : Pk) : Bool := !(decide (p.2.1 < lo)) && !(decide (hi < p.2.1))
def paW (ps : List Pk) (lo hi : Int32) : Nat → List Pk
  | 0 => []
  | i + 1 => if inR lo hi (pk ps i) = true ∧ (paW ps lo hi i).length < 40 then paW ps lo hi i ++ [((pk ps i).1, nI 0, nI 0)] else paW ps lo hi i
theorem paW_I {tk : Nat} {ps : List Pk} {lo hi : Int32} (h : SPk tk ps) : ∀ n, n ≤ ps.length → (paW ps lo hi n).length ≤ 40 ∧ (paW ps lo hi n).length ≤ n ∧ (∀ i, i < (paW ps lo hi n).length → 15 ≤ (pk (paW ps lo hi n) i).1.length ∧ (pk (paW ps lo hi n) i).1.length ≤ 82 ∧ (pk (paW ps lo hi n) i).2.1 = nI 0 ∧ (pk (paW ps lo hi n) i).2.2 = nI 0) ∧ off (paW ps lo hi n) (paW ps lo hi n).length ≤ off ps n
  | 0, _ => ⟨Nat.zero_le _, Nat.zero_le _, fun i hi => absurd hi (Nat.not_lt_zero _), Nat.zero_le _⟩
  | n + 1, hn => by
    obtain ⟨a1, a2, a3, a4⟩ := paW_I (lo := lo) (hi := hi) h n (by omega)
    have hp := h.2.1 n (by omega)
    rw [paW]
    by_cases q : inR lo hi (pk ps n) = true ∧ (paW ps lo hi n).length < 40
    · rw [if_pos q, List.length_append, List.length_singleton]
      refine ⟨by omega, by omega, fun i hi2 => ?_, ?_⟩
      · rw [pk_app]
        by_cases e : i < (paW ps lo hi n).length
        · rw [if_pos e]; exact a3 i e
        · rw [if_neg e, if_pos (by omega)]
          exact ⟨hp.1, hp.2.1, rfl, rfl⟩
      · rw [off_app1, off]
        dsimp only
        omega
    · rw [if_neg q]
      refine ⟨a1, by omega, a3, ?_⟩
      rw [off]
      omega
theorem paW_P {tk : Nat} {ps : List Pk} {lo hi : Int32} (h : SPk tk ps) : PsI (paW ps lo hi ps.length) := by
  obtain ⟨a1, a2, a3, a4⟩ := paW_I (lo := lo) (hi := hi) h ps.length (Nat.le_refl _)
  have h1 : off ps ps.length ≤ 1200 := h.1
  exact ⟨a1, a3, by omega⟩
theorem pass_C {μ : Mem} {s tk : Nat} {y : Sto} {lo hi : Int32} (hs : s < 2) (h : StC μ s y) (hI : SPk tk y.2.2) (hp : Shf μ 81 []) : wp (f120 (59 + 8 * s) lo hi μ) (fun m => Shf m 81 (paW y.2.2 lo hi y.2.2.length) ∧ Byt m 87 [] ∧ Fr (fun c _ => 81 ≤ c ∧ c ≤ 88) μ m) := by
  have g1 : gln (81 + 1) = 1200 := gl_82
  have g2 : gln (81 + 2) = 40 := gl_83
  have g3 : gln (87 + 1) = 82 := gl_88
  have hl := h.2.2.len
  have hl90 := hI.l90
  unfold f120 l120_3
  refine wp_for (fun i m => (lo, hi, nI i, m)) (fun i m => Shf m 81 (paW y.2.2 lo hi i) ∧ Fr (fun c _ => 81 ≤ c ∧ c ≤ 88) μ m) y.2.2.length (by omega) μ _ rfl ⟨hp, Fr.rf⟩ (fun self i m hi' ⟨x1, x2⟩ hk => ?_) (fun self m ⟨x1, x2⟩ => ?_)
  · have st := h.2.2.fr x2 (fun c k _ _ => by omega)
    have h5 := st.1
    have e1 := tagOf_y st hi'
    obtain ⟨p1, p2, p3, p4⟩ := hI.2.1 i hi'
    obtain ⟨a1, a2, a3, a4⟩ := paW_I (lo := lo) (hi := hi) hI i (by omega)
    have a5 : off y.2.2 (i + 1) ≤ off y.2.2 y.2.2.length := off_mono _ (by omega)
    have a6 : off y.2.2 y.2.2.length ≤ 1200 := hI.1
    have a7 : off y.2.2 (i + 1) = off y.2.2 i + (pk y.2.2 i).1.length := rfl
    unfold b120_3 c120_73
    rw [h5, if_neg (fun z => by have := (nI_leI (by omega) (by omega)).mp z; omega), e1, Option.bind_some]
    dsimp only
    by_cases q1 : (pk y.2.2 i).2.1 < lo
    · have e : paW y.2.2 lo hi (i + 1) = paW y.2.2 lo hi i := by
        rw [paW, if_neg (fun z => by have := z.1; unfold inR at this; rw [decide_eq_true q1] at this; exact absurd this (by simp))]
      rw [if_pos q1]
      dsimp only [nm]
      rw [i_1, nI_add]
      exact hk m ⟨by rw [e]; exact x1, x2⟩
    · rw [if_neg q1]
      by_cases q2 : hi < (pk y.2.2 i).2.1
      · have e : paW y.2.2 lo hi (i + 1) = paW y.2.2 lo hi i := by
          rw [paW, if_neg (fun z => by have := z.1; unfold inR at this; rw [decide_eq_true q2] at this; exact absurd this (by simp))]
        rw [if_pos q2]
        dsimp only [nm]
        rw [i_1, nI_add]
        exact hk m ⟨by rw [e]; exact x1, x2⟩
      · rw [if_neg q2]
        have hin : inR lo hi (pk y.2.2 i) = true := by unfold inR; rw [decide_eq_false q1, decide_eq_false q2]; rfl
        refine wp_bind (copyOut_C (p := 87) st hi' (by omega) (by rw [g3]; omega)) (fun m2 ⟨c1, c2⟩ => ?_)
        have x1' := x1.fr c2 (fun c k _ _ => by omega)
        rw [c1.1, i_0]
        refine wp_bind (shadd_C (xs := (pk y.2.2 i).1) (b := 0) (tag := nI 0) (mark := nI 0) x1' c1 (by omega) (by rw [List.drop_zero, List.take_of_length_le (Nat.le_refl _)]) (by omega)) (fun r ⟨d1, d2⟩ => ?_)
        dsimp only [nm]
        rw [i_1, nI_add]
        have fx : Fr (fun c _ => 81 ≤ c ∧ c ≤ 88) μ r.1 := (x2.tr c2 (fun _ _ q => q) (by intro c k h; omega)).tr d2 (fun _ _ q => q) (by intro c k h; omega)
        refine hk r.1 ⟨?_, fx⟩
        by_cases q40 : (paW y.2.2 lo hi i).length < 40
        · rw [if_pos ⟨by omega, by omega⟩] at d1
          rw [paW, if_pos ⟨hin, q40⟩]
          exact d1.2
        · rw [if_neg (fun z => by omega)] at d1
          rw [paW, if_neg (fun z => q40 z.2), d1.2]
          exact x1'
  · have st := h.2.2.fr x2 (fun c k _ _ => by omega)
    have h5 := st.1
    unfold b120_3
    rw [h5, if_pos ((nI_leI (by omega) (by omega)).mpr (Nat.le_refl _))]
    refine wp_bind (cl_ok 87 m) (fun m2 ⟨c1, c2⟩ => wp_some ⟨x1.fr c2 (fun c k _ _ => by omega), c1, x2.tr c2 (fun _ _ q => q) (by intro c k h; omega)⟩)
theorem f337_9 {x : Int32} {μ : Mem} : f337 (nI 9) x μ = (pfI 129 90 (0 : Int32) μ).bind fun m6 => l337_174 gF (x, (0 : Int32), m6) := by
  unfold f337
  repeat refine ite_no (by decide) ?_
  exact ite_yes (by decide) rfl
theorem paW_full {ps : List Pk} {lo hi : Int32} {i : Nat} (h : 40 ≤ (paW ps lo hi i).length) : ∀ n, i ≤ n → paW ps lo hi n = paW ps lo hi i
  | 0, hn => by rw [show i = 0 by omega]
  | n + 1, hn => by
    by_cases e : i = n + 1
    · rw [e]
    · have ih := paW_full h n (by omega)
      rw [paW, ih, if_neg (fun z => by omega)]
theorem pass_M {μ : Mem} {s tk dep : Nat} {y : Sto} {bs : List Nat} (hs : s < 2) (h : StM μ s y) (hI : SPk tk y.2.2) (hq : CurM μ bs dep) (hl : bs.length = 22) : wp (f337 (nI 9) (nI s) μ) (fun m => PsM m (paW y.2.2 (nI (w4l bs 12)) (nI (w4l bs 16)) y.2.2.length) ∧ Fr (fun c k => c = 129 ∧ k = 90 ∨ 167 ≤ c ∧ c ≤ 168) μ m) := by
  have g1 := gl_171
  have g2 := gl_178
  have g3 := gl_177
  have g4 := gl_168
  have g5 := gl_176
  have g6 := gl_167
  have hl90 := hI.l90
  have cur : ∀ m, Fr (fun c k => c = 129 ∧ k = 90 ∨ 167 ≤ c ∧ c ≤ 168) μ m → CurM m bs dep := fun m hf => hq.fr hf (by omega) (by omega) (fun k => by omega)
  have e12 : ∀ m, Fr (fun c k => c = 129 ∧ k = 90 ∨ 167 ≤ c ∧ c ≤ 168) μ m → f314 182 (nI 12) m = some (m, nI (w4l bs 12)) := fun m hf => (cur m hf).fo (by omega) (i := 12) (by omega)
  have e16 : ∀ m, Fr (fun c k => c = 129 ∧ k = 90 ∨ 167 ≤ c ∧ c ≤ 168) μ m → f314 182 (nI 16) m = some (m, nI (w4l bs 16)) := fun m hf => (cur m hf).fo (by omega) (i := 16) (by omega)
  generalize nI (w4l bs 12) = lo at *
  generalize nI (w4l bs 16) = hi at *
  rw [f337_9]
  refine wp_bind (wp_some rfl) (fun m1 hm1 => ?_)
  have f1 : Fr (fun c k => c = 129 ∧ k = 90 ∨ 167 ≤ c ∧ c ≤ 168) μ m1 := by rw [← hm1]; exact Fr.sI (by omega)
  have c1 : m1.1 129 90 = nI 0 := by rw [← hm1, rdI, if_pos ⟨rfl, rfl⟩]; rfl
  clear hm1
  unfold l337_174
  refine wp_for (fun i m => (nI s, nI i, m)) (fun i m => PsM m (paW y.2.2 lo hi i) ∧ Fr (fun c k => c = 129 ∧ k = 90 ∨ 167 ≤ c ∧ c ≤ 168) μ m) y.2.2.length (by omega) m1 _ rfl ⟨⟨c1, fun i h1 h2 => absurd h2 (Nat.not_lt_zero _)⟩, f1⟩ (fun self i m hi' ⟨x1, x2⟩ hk => ?_) (fun self m ⟨x1, x2⟩ => ?_)
  · have st := h.fr hl90 x2 (fun c k _ => by omega)
    have e171 := st.2.2.1.1
    have e178 := st.2.2.2.2 (90 * s + i) (by omega) (by omega)
    obtain ⟨q2l, q1l, q3l⟩ := st.2.2.2.1 (90 * s + i) (by omega) (by omega)
    dsimp only at e178 q1l q2l q3l
    rw [show 90 * s + i - 90 * s = i by omega] at e178 q1l q2l q3l
    obtain ⟨a1, a2, a3, a4⟩ := paW_I (lo := lo) (hi := hi) hI i (by omega)
    obtain ⟨p1, p2, p3, p4⟩ := hI.2.1 i hi'
    have h90 := x1.1
    unfold b337_174 c337_301 c337_295
    rw [ldA_N (by omega), Option.bind_some, e171, if_neg (fun z => by have := (nI_leI (by omega) (by omega)).mp z; omega), h90, i_40]
    by_cases q40 : 40 ≤ (paW y.2.2 lo hi i).length
    · rw [if_pos ((nI_leI (by omega) (by omega)).mpr q40)]
      refine wp_some ⟨?_, x2⟩
      rw [paW_full q40 _ (by omega)]
      exact x1
    · rw [if_neg (fun z => q40 ((nI_leI (by omega) (by omega)).mp z))]
      dsimp only [nm]
      rw [i_90, pk_mul, nI_add, ldA_N (by omega), Option.bind_some, e178, i_12, e12 m x2, Option.bind_some]
      dsimp only
      by_cases r1 : (pk y.2.2 i).2.1 < lo
      · have e : paW y.2.2 lo hi (i + 1) = paW y.2.2 lo hi i := by
          rw [paW, if_neg (fun z => by have := z.1; unfold inR at this; rw [decide_eq_true r1] at this; exact absurd this (by simp))]
        rw [if_pos r1, i_1, nI_add]
        exact hk m ⟨by rw [e]; exact x1, x2⟩
      · rw [if_neg r1, ldA_N (by omega), Option.bind_some, e178, i_16, e16 m x2, Option.bind_some]
        dsimp only
        by_cases r2 : hi < (pk y.2.2 i).2.1
        · have e : paW y.2.2 lo hi (i + 1) = paW y.2.2 lo hi i := by
            rw [paW, if_neg (fun z => by have := z.1; unfold inR at this; rw [decide_eq_true r2] at this; exact absurd this (by simp))]
          rw [if_pos r2, i_1, nI_add]
          exact hk m ⟨by rw [e]; exact x1, x2⟩
        · rw [if_neg r2]
          have hin : inR lo hi (pk y.2.2 i) = true := by unfold inR; rw [decide_eq_false r1, decide_eq_false r2]; rfl
          have hpa : paW y.2.2 lo hi (i + 1) = paW y.2.2 lo hi i ++ [((pk y.2.2 i).1, nI 0, nI 0)] := by rw [paW, if_pos ⟨hin, by omega⟩]
          generalize paW y.2.2 lo hi i = P at *
          rw [ldA_N (by omega), Option.bind_some, q2l, h90, stA_N (by omega), Option.bind_some]
          have f3 : Fr (fun c k => c = 168 ∧ k = P.length) m (setI m 168 P.length (nI (pk y.2.2 i).1.length)) := Fr.sI ⟨rfl, rfl⟩
          have r3 : (setI m 168 P.length (nI (pk y.2.2 i).1.length)).1 168 P.length = nI (pk y.2.2 i).1.length := by rw [rdI, if_pos ⟨rfl, rfl⟩]
          generalize setI m 168 P.length (nI (pk y.2.2 i).1.length) = m3 at *
          have q2' : m3.1 177 (90 * s + i) = nI (pk y.2.2 i).1.length := by rw [f3.1 _ _ (by omega)]; exact q2l
          have h90' : m3.1 129 90 = nI P.length := by rw [f3.1 _ _ (by omega)]; exact h90
          rw [ldA_N (by omega), Option.bind_some, q2', h90', i_100, pk_mul, pk_mul]
          refine wp_bind (move_M (q := 167) (d := 100 * P.length) (q3l.fr f3 (fun k => by omega)) rfl (by omega) (by omega) (by omega) (Or.inl (by omega))) (fun m4 ⟨d1, d2⟩ => ?_)
          have h90'' : m4.1 129 90 = nI P.length := by rw [d2.1 _ _ (by omega)]; exact h90'
          have f4 : Fr (fun c k => c = 168 ∧ k = P.length ∨ c = 167 ∧ 100 * P.length ≤ k ∧ k < 100 * P.length + 100) m m4 := f3.tr d2 (by intro c k h; omega) (by intro c k h; omega)
          rw [h90'', i_1, nI_add]
          refine wp_bind (wp_some rfl) (fun m5 hm5 => ?_)
          have f5 : Fr (fun c k => c = 129 ∧ k = 90) m4 m5 := by rw [← hm5]; exact Fr.sI ⟨rfl, rfl⟩
          have c5 : m5.1 129 90 = nI (P.length + 1) := by rw [← hm5, rdI, if_pos ⟨rfl, rfl⟩]
          clear hm5
          have f45 : Fr (fun c k => c = 168 ∧ k = P.length ∨ c = 167 ∧ 100 * P.length ≤ k ∧ k < 100 * P.length + 100 ∨ c = 129 ∧ k = 90) m m5 := f4.tr f5 (by intro c k h; omega) (by intro c k h; omega)
          try rw [nI_add]
          refine hk m5 ⟨?_, x2.tr f45 (fun _ _ q => q) (by intro c k h; omega)⟩
          rw [hpa]
          refine ⟨by rw [c5, List.length_append]; rfl, fun j h1 h2 => ?_⟩
          rw [List.length_append, List.length_singleton] at h2
          dsimp only
          rw [pk_app]
          by_cases e : j < P.length
          · rw [if_pos e]
            obtain ⟨z2, z1, z3⟩ := x1.2 j h1 e
            dsimp only at z1 z2 z3
            refine ⟨by rw [f45.1 _ _ (by omega)]; exact z2, z1, ⟨fun k hk2 => ?_, z3.2⟩⟩
            rw [f45.1 _ _ (by omega)]
            exact z3.1 k hk2
          · rw [if_neg e, if_pos (by omega), show j = P.length by omega]
            exact ⟨by rw [f5.1 _ _ (by omega), d2.1 _ _ (by omega)]; exact r3, by dsimp only; omega, d1.fr f5 (fun k => by omega)⟩
  · have st := h.fr hl90 x2 (fun c k _ => by omega)
    have e171 := st.2.2.1.1
    unfold b337_174 c337_301
    rw [ldA_N (by omega), Option.bind_some, e171, if_pos ((nI_leI (by omega) (by omega)).mpr (Nat.le_refl _))]
    exact wp_some ⟨x1, x2⟩
