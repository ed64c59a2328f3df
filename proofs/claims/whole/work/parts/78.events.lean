/-! ===== events and their actions ===== -/
theorem pig : ∀ (n m : Nat) (f : Nat → Nat), (∀ i, i < m → f i < n) → (∀ i j, i < m → j < m → f i = f j → i = j) → m ≤ n
  | 0, m, f, h, _ => by
    by_cases e : m = 0
    · omega
    · exact absurd (h 0 (by omega)) (Nat.not_lt_zero _)
  | n + 1, m, f, h, hj => by
    by_cases e : ∃ i, i < m ∧ f i = n
    · obtain ⟨i0, h0, e0⟩ := e
      have := pig n (m - 1) (fun i => if i < i0 then f i else f (i + 1)) (fun i hi => by
        try dsimp only
        split
        · next q =>
          have := h i (by omega)
          have : f i ≠ n := fun z => by
            have := hj i i0 (by omega) h0 (by omega)
            omega
          omega
        · next q =>
          have := h (i + 1) (by omega)
          have : f (i + 1) ≠ n := fun z => by
            have := hj (i + 1) i0 (by omega) h0 (by omega)
            omega
          omega) (fun i j hi hj2 hf => by
        try dsimp only at hf
        split at hf
        · split at hf
          · exact hj i j (by omega) (by omega) hf
          · have := hj i (j + 1) (by omega) (by omega) hf
            omega
        · split at hf
          · have := hj (i + 1) j (by omega) (by omega) hf
            omega
          · have := hj (i + 1) (j + 1) (by omega) (by omega) hf
            omega)
      omega
    · have := pig n m f (fun i hi => by
        have := h i hi
        have : f i ≠ n := fun z => e ⟨i, hi, z⟩
        omega) hj
      omega
/-! masks -/
theorem bt_o : ∀ i, i < 32 → bt (nI 1) i = decide (i = 0) := by decide +kernel
theorem bt_b (b : Bool) {i : Nat} (hi : i < 32) : bt (nI (b2n b)) i = (b && decide (i = 0)) := by
  cases b
  · rw [b2n_f, Bool.false_and]
    exact b_0 i
  · rw [b2n_t, Bool.true_and, bt_o i hi]
theorem bit_j {x : Int32} {j : Nat} (hj : j < 32) : (jshr x (nI j)) &&& nI 1 = nI (b2n (bt x j)) := by
  apply b_ext
  intro i hi
  rw [b_and, show jshr x (nI j) = x >>> (nI j &&& 31) from rfl, b_sshr j hj x hi, bt_o i hi, bt_b _ hi]
  by_cases e : i = 0
  · subst e
    rw [if_pos (by omega), Nat.add_zero]
  · rw [decide_eq_false e, Bool.and_false, Bool.and_false]
theorem bt_m {e i : Nat} (he : e < 32) (hi : i < 32) : bt (jshl (nI 1) (nI e)) i = decide (i = e) := by
  rw [show jshl (nI 1) (nI e) = nI 1 <<< (nI e &&& 31) from rfl, b_shl e he _ hi]
  by_cases q : e ≤ i
  · rw [decide_eq_true q, Bool.true_and, bt_o _ (by omega)]
    by_cases z : i = e
    · rw [decide_eq_true z, decide_eq_true (by omega)]
    · rw [decide_eq_false z, decide_eq_false (by omega)]
  · rw [decide_eq_false q, Bool.false_and, decide_eq_false (by omega)]
def MkC (x : Int32) (n : Nat) (q : Nat → Bool) : Prop := ∀ e, e < n → bt x e = q e
theorem MkC.on {x : Int32} {n e : Nat} {q : Nat → Bool} (h : MkC x n q) (hn : n ≤ 32) (he : e < 32) : MkC (x ||| jshl (nI 1) (nI e)) n (upL q e true) := by
  intro j hj
  rw [b_or, bt_m he (by omega), h j hj]
  by_cases z : j = e
  · subst z
    rw [upL_s, decide_eq_true rfl, Bool.or_true]
  · rw [upL_o z, decide_eq_false z, Bool.or_false]
theorem MkC.off {x : Int32} {n e : Nat} {q : Nat → Bool} (h : MkC x n q) (hn : n ≤ 32) (he : e < 32) : MkC (x &&& (jshl (nI 1) (nI e) ^^^ (-nI 1))) n (upL q e false) := by
  intro j hj
  rw [b_and, b_xor, bt_m he (by omega), h j hj, show (-nI 1) = (-1 : Int32) from rfl, b_m1 j (by omega)]
  by_cases z : j = e
  · subst z
    rw [upL_s, decide_eq_true rfl]
    exact Bool.and_false _
  · rw [upL_o z, decide_eq_false z]
    exact Bool.and_true _
/-! the state: which events are quiet; the actions -/
abbrev Aw : Type := (Nat → Bool) × List Pk
def EvC (μ : Mem) (a : Aw) : Prop := MkC (μ.1 101 11) 32 a.1 ∧ Shf μ 114 a.2
def EvM (μ : Mem) (a : Aw) : Prop := (∀ e, e < 32 → μ.1 190 e = nI (b2n (a.1 e))) ∧ (∀ e, e < 32 → (∀ i, i < a.2.length → (pk a.2 i).2.1 ≠ nI e) → μ.1 191 e = nI 0) ∧ (∀ i e, i < a.2.length → e < 32 → (pk a.2 i).2.1 = nI e → μ.1 191 e = nI 1 ∧ μ.1 192 e = (pk a.2 i).2.2 ∧ μ.1 194 e = nI (pk a.2 i).1.length ∧ Seg μ 193 (40 * e) (pk a.2 i).1)
def EvI (a : Aw) : Prop := (∀ i, i < a.2.length → (∃ e, e < 32 ∧ (pk a.2 i).2.1 = nI e) ∧ (pk a.2 i).1.length ≤ 40 ∧ ((pk a.2 i).2.2 = nI 0 ∨ (pk a.2 i).2.2 = nI 1)) ∧ ∀ i j, i < a.2.length → j < a.2.length → (pk a.2 i).2.1 = (pk a.2 j).2.1 → i = j
theorem EvC.fr {μ m : Mem} {a : Aw} {P : Nat → Nat → Prop} (h : EvC μ a) (ho : Fr P μ m) (h0 : ¬ P 101 11) (h1 : ∀ c k, 114 ≤ c → c ≤ 119 → ¬ P c k) : EvC m a := ⟨by rw [ho.1 _ _ h0]; exact h.1, h.2.fr ho h1⟩
theorem EvM.fr {μ m : Mem} {a : Aw} {P : Nat → Nat → Prop} (h : EvM μ a) (ho : Fr P μ m) (h1 : ∀ c k, 190 ≤ c → c ≤ 194 → ¬ P c k) : EvM m a := by
  refine ⟨fun e he => ?_, fun e he hn => ?_, fun i e hi he ht => ?_⟩
  · rw [ho.1 _ _ (h1 _ _ (by omega) (by omega))]; exact h.1 e he
  · rw [ho.1 _ _ (h1 _ _ (by omega) (by omega))]; exact h.2.1 e he hn
  · obtain ⟨a1, a2, a3, a4⟩ := h.2.2 i e hi he ht
    refine ⟨?_, ?_, ?_, a4.fr ho (fun k => h1 _ _ (by omega) (by omega))⟩
    · rw [ho.1 _ _ (h1 _ _ (by omega) (by omega))]; exact a1
    · rw [ho.1 _ _ (h1 _ _ (by omega) (by omega))]; exact a2
    · rw [ho.1 _ _ (h1 _ _ (by omega) (by omega))]; exact a3
/-- the place of an event's action -/
def fA (ps : List Pk) (e : Nat) : Option Nat := (List.range ps.length).find? (fun i => decide ((pk ps i).2.1 = nI e))
theorem fA_some {ps : List Pk} {e i : Nat} (h : fA ps e = some i) : i < ps.length ∧ (pk ps i).2.1 = nI e := by
  unfold fA at h
  have h4p := List.find?_some h
  exact ⟨List.mem_range.mp (List.mem_of_find?_eq_some h), of_decide_eq_true h4p⟩
theorem fA_none {ps : List Pk} {e : Nat} (h : fA ps e = none) : ∀ i, i < ps.length → (pk ps i).2.1 ≠ nI e := by
  unfold fA at h
  intro i hi z
  have := List.find?_eq_none.mp h i (List.mem_range.mpr hi)
  exact this (decide_eq_true z)
theorem fA_of {a : Aw} {e i : Nat} (hI : EvI a) (hi : i < a.2.length) (h : (pk a.2 i).2.1 = nI e) : fA a.2 e = some i := by
  cases hf : fA a.2 e with
  | none => exact absurd h (fA_none hf i hi)
  | some j =>
    obtain ⟨h1, h2⟩ := fA_some hf
    rw [hI.2 i j hi h1 (h.trans h2.symm)]
theorem fA_no {ps : List Pk} {e : Nat} (h : ∀ i, i < ps.length → (pk ps i).2.1 ≠ nI e) : fA ps e = none := by
  cases hf : fA ps e with
  | none => rfl
  | some j =>
    obtain ⟨h1, h2⟩ := fA_some hf
    exact absurd h2 (h j h1)
theorem find_A {μ : Mem} {a : Aw} {e : Nat} (h : EvC μ a) (hI : EvI a) : f165 114 (nI e) μ = match fA a.2 e with
    | some i => some (μ, nI i)
    | none => some (μ, -nI 1) := by
  obtain ⟨r, hr, h1, h2⟩ := find_C (t := nI e) h.2
  rcases h2 with ⟨i, hi, ht, _, hv⟩ | ⟨hn, hv⟩
  · rw [fA_of hI hi ht, hr]
    show some r = some (μ, nI i)
    rw [← h1, ← hv]
  · rw [fA_no hn, hr]
    show some r = some (μ, -nI 1)
    rw [← h1, ← hv]
/-! an event happens -/
def hapK (k : Kw) (a : Aw) (e : Nat) (v : Int32) : Kw := (if a.1 e = true then k.1 else makeW k.1 5 (1 + e / 8) ([e] ++ lowB v 4), upL k.2.1 22 (k.2.1 22 + nI 1), k.2.2)
def hapG (a : Aw) (e dep : Nat) : Option (List Nat) := match fA a.2 e with
  | some i => if (pk a.2 i).2.2 = nI 0 ∨ 4 ≤ dep then none else some (pk a.2 i).1
  | none => none
def hapW (k : Kw) (a : Aw) (e : Nat) (v : Int32) (dep : Nat) : Kw := match hapG a e dep with
  | some bs => lookK (hapK k a e v) bs (dep + 1)
  | none => hapK k a e v
theorem hapK_I {k : Kw} {a : Aw} {e : Nat} {v : Int32} (h : KI k) : KI (hapK k a e v) := by
  refine ⟨?_, h.2.1, h.2.2⟩
  show MI (if a.1 e = true then k.1 else makeW k.1 5 (1 + e / 8) ([e] ++ lowB v 4))
  split
  · exact h.1
  · refine makeW_I h.1 ?_
    rw [List.length_append, lowB_len]
    show 1 + 4 ≤ 67
    decide
theorem hapG_l {a : Aw} {e dep : Nat} {bs : List Nat} (hI : EvI a) (h : hapG a e dep = some bs) : bs.length ≤ 40 ∧ dep < 4 := by
  unfold hapG at h
  cases hf : fA a.2 e with
  | none => rw [hf] at h; cases h
  | some i =>
    rw [hf] at h
    dsimp only at h
    split at h
    · cases h
    · next q =>
      cases h
      exact ⟨(hI.1 i (fA_some hf).1).2.1, by omega⟩
theorem hapW_I {k : Kw} {a : Aw} {e dep : Nat} {v : Int32} (h : KI k) (hI : EvI a) : KI (hapW k a e v dep) := by
  unfold hapW
  cases hg : hapG a e dep with
  | none => exact hapK_I h
  | some bs =>
    have := hapG_l hI hg
    exact lookK_I (hapK_I h) (by omega) (by omega)
theorem KC.par {μ : Mem} {k : Kw} {i : Nat} (h : KC μ k) (hi : i < 24 ∧ i ≠ 16 ∧ i ≠ 17) {x : Int32} : KC (setI μ 124 i x) (k.1, upL k.2.1 i x, k.2.2) := by
  have f : Fr (fun c l => c = 124) μ (setI μ 124 i x) := Fr.sI rfl
  exact ⟨h.1.fr f (fun c k _ => by omega), h.2.1.up hi, h.2.2.1.fr f (fun c k _ _ => by omega), h.2.2.2.1.fr f (fun k => by omega), h.2.2.2.2.fr f (by omega) (fun k => by omega)⟩
theorem KC.mk {μ m : Mem} {k : Kw} {x : Mw} (h : KC μ k) (hm : MC m x) (h87 : Byt m 87 []) (hf : Fr FMk μ m) : KC m (x, k.2.1, k.2.2) :=
  ⟨hm, h.2.1.fr hf (fun k => by omega) (by omega) (by omega), h.2.2.1.fr hf (fun c k _ _ => by omega), h.2.2.2.1.fr hf (fun k => by omega), h87⟩
abbrev FHp : Nat → Nat → Prop := fun c k => FMk c k ∨ c = 124 ∨ 120 ≤ c ∧ c ≤ 121
theorem ng1 : -nI 1 < nI 0 := by decide
theorem hap_C {μ : Mem} {k : Kw} {a : Aw} {e dep : Nat} {v : Int32} (h : KC μ k) (hI : KI k) (hA : EvC μ a) (hAI : EvI a) (he : e < 32) (hd : dep ≤ 4) : wp (f40 (nI e) v (nI dep) μ) (fun r => KC r.1 (hapK k a e v) ∧ r.2 = nI (b2n (hapG a e dep).isSome) ∧ (∀ bs, hapG a e dep = some bs → Byt r.1 120 bs) ∧ Fr FHp μ r.1) := by
  have g := gl_124
  have g2 : gln (120 + 1) = 60 := gl_121
  have p22 := h.2.1.1 22 (by decide) (by decide) (by decide)
  have fin : ∀ m x, KC m (x, upL k.2.1 22 (k.2.1 22 + nI 1), k.2.2) → EvC m a → Fr (fun c k => FMk c k ∨ c = 124) μ m → wp (c40_62 (nI e) (nI dep) m) (fun r => KC r.1 (x, upL k.2.1 22 (k.2.1 22 + nI 1), k.2.2) ∧ r.2 = nI (b2n (hapG a e dep).isSome) ∧ (∀ bs, hapG a e dep = some bs → Byt r.1 120 bs) ∧ Fr FHp μ r.1) := by
    intro m x h1 h2 h3
    have ff := find_A (e := e) h2 hAI
    unfold c40_62 hapG
    cases hf : fA a.2 e with
    | none =>
      rw [hf] at ff
      dsimp only at ff
      simp (disch := omega) only [i_0, i_1, i_2, i_3, i_4, i_5, i_6, i_7, i_8, i_9, i_10, i_11, i_12, i_13, i_14, i_15, i_16, i_17, i_18, i_19, i_20, i_21, i_22, i_23, i_24, i_25, i_26, i_27, i_31, i_32, i_40, i_42, i_45, i_48, i_51, i_52, i_56, i_58, i_59, i_60, i_61, i_62, i_63, i_64, i_85, i_90, i_100, i_112, i_120, i_121, i_127, i_128, i_130, i_144, i_171, i_192, i_193, i_197, i_200, i_207, i_235, i_240, i_248, i_252, i_254, i_255, i_256, i_512, i_544, i_768, i_769, i_793, i_1000, i_1023, i_1024, i_1200, i_1538, i_1541, i_1545, i_2046, i_2047, i_2049, i_2060, i_2736, i_2737, i_2817, i_2818, i_2819, i_2820, i_2821, i_2831, i_2832, i_3077, i_3085, i_3843, i_3849, i_3851, i_3852, i_4129, i_4353, i_4865, i_5121, i_5122, i_5123, i_6156, i_8192, i_12288, i_16383, i_32000, i_33280, i_49152, i_53247, i_60304, i_64000, i_64512, i_65521, i_65535, i_449838109, nI_add, pk_mul, pk_sub, nI_mm, nI_leI, nI_ltI, nI_eq, pk_div, jrem_N, jshl_N, jshr_N, jushr_N, jmin_N, jmax_N, an_1, an_3, an_7, an_15, an_31, an_63, an_127, an_255, an_1023, an_2047, an_16383, an_65535, nm, pfI, rdI, rdW, rdL, rdI2, rdW2, ldA_N, stA_N, stB_N, stZ_N, pfZ_0, pfZ_1, rtZ_0, rtZ_1, acp_N, Option.bind_some, wp_some_iff, true_and, and_true, false_and, and_false, or_true, true_or, or_false, false_or, not_true_eq_false, not_false_eq_true, if_true, if_false, if_pos, if_neg, lt_sub, le_sub, sub_lt3, sub_le3, Option.bind_assoc, ff, ng1]
      exact ⟨h1, rfl, fun bs z => (by cases z), h3.mono (by intro c k h; omega)⟩
    | some i =>
      rw [hf] at ff
      dsimp only at ff
      obtain ⟨hi, ht⟩ := fA_some hf
      have mk := markOf_y h2.2 hi
      have hl := h2.2.len
      have hai := hAI.1 i hi
      simp (disch := omega) only [i_0, i_1, i_2, i_3, i_4, i_5, i_6, i_7, i_8, i_9, i_10, i_11, i_12, i_13, i_14, i_15, i_16, i_17, i_18, i_19, i_20, i_21, i_22, i_23, i_24, i_25, i_26, i_27, i_31, i_32, i_40, i_42, i_45, i_48, i_51, i_52, i_56, i_58, i_59, i_60, i_61, i_62, i_63, i_64, i_85, i_90, i_100, i_112, i_120, i_121, i_127, i_128, i_130, i_144, i_171, i_192, i_193, i_197, i_200, i_207, i_235, i_240, i_248, i_252, i_254, i_255, i_256, i_512, i_544, i_768, i_769, i_793, i_1000, i_1023, i_1024, i_1200, i_1538, i_1541, i_1545, i_2046, i_2047, i_2049, i_2060, i_2736, i_2737, i_2817, i_2818, i_2819, i_2820, i_2821, i_2831, i_2832, i_3077, i_3085, i_3843, i_3849, i_3851, i_3852, i_4129, i_4353, i_4865, i_5121, i_5122, i_5123, i_6156, i_8192, i_12288, i_16383, i_32000, i_33280, i_49152, i_53247, i_60304, i_64000, i_64512, i_65521, i_65535, i_449838109, nI_add, pk_mul, pk_sub, nI_mm, nI_leI, nI_ltI, nI_eq, pk_div, jrem_N, jshl_N, jshr_N, jushr_N, jmin_N, jmax_N, an_1, an_3, an_7, an_15, an_31, an_63, an_127, an_255, an_1023, an_2047, an_16383, an_65535, nm, pfI, rdI, rdW, rdL, rdI2, rdW2, ldA_N, stA_N, stB_N, stZ_N, pfZ_0, pfZ_1, rtZ_0, rtZ_1, acp_N, Option.bind_some, wp_some_iff, true_and, and_true, false_and, and_false, or_true, true_or, or_false, false_or, not_true_eq_false, not_false_eq_true, if_true, if_false, if_pos, if_neg, lt_sub, le_sub, sub_lt3, sub_le3, Option.bind_assoc, ff, mk]
      by_cases q : (pk a.2 i).2.2 = nI 0
      · simp (disch := omega) only [i_0, i_1, i_2, i_3, i_4, i_5, i_6, i_7, i_8, i_9, i_10, i_11, i_12, i_13, i_14, i_15, i_16, i_17, i_18, i_19, i_20, i_21, i_22, i_23, i_24, i_25, i_26, i_27, i_31, i_32, i_40, i_42, i_45, i_48, i_51, i_52, i_56, i_58, i_59, i_60, i_61, i_62, i_63, i_64, i_85, i_90, i_100, i_112, i_120, i_121, i_127, i_128, i_130, i_144, i_171, i_192, i_193, i_197, i_200, i_207, i_235, i_240, i_248, i_252, i_254, i_255, i_256, i_512, i_544, i_768, i_769, i_793, i_1000, i_1023, i_1024, i_1200, i_1538, i_1541, i_1545, i_2046, i_2047, i_2049, i_2060, i_2736, i_2737, i_2817, i_2818, i_2819, i_2820, i_2821, i_2831, i_2832, i_3077, i_3085, i_3843, i_3849, i_3851, i_3852, i_4129, i_4353, i_4865, i_5121, i_5122, i_5123, i_6156, i_8192, i_12288, i_16383, i_32000, i_33280, i_49152, i_53247, i_60304, i_64000, i_64512, i_65521, i_65535, i_449838109, nI_add, pk_mul, pk_sub, nI_mm, nI_leI, nI_ltI, nI_eq, pk_div, jrem_N, jshl_N, jshr_N, jushr_N, jmin_N, jmax_N, an_1, an_3, an_7, an_15, an_31, an_63, an_127, an_255, an_1023, an_2047, an_16383, an_65535, nm, pfI, rdI, rdW, rdL, rdI2, rdW2, ldA_N, stA_N, stB_N, stZ_N, pfZ_0, pfZ_1, rtZ_0, rtZ_1, acp_N, Option.bind_some, wp_some_iff, true_and, and_true, false_and, and_false, or_true, true_or, or_false, false_or, not_true_eq_false, not_false_eq_true, if_true, if_false, if_pos, if_neg, lt_sub, le_sub, sub_lt3, sub_le3, Option.bind_assoc, q]
        try rw [if_pos (Or.inl q)]
        exact ⟨h1, rfl, fun bs z => (by cases z), h3.mono (by intro c k h; omega)⟩
      · by_cases q4 : 4 ≤ dep
        · simp (disch := omega) only [i_0, i_1, i_2, i_3, i_4, i_5, i_6, i_7, i_8, i_9, i_10, i_11, i_12, i_13, i_14, i_15, i_16, i_17, i_18, i_19, i_20, i_21, i_22, i_23, i_24, i_25, i_26, i_27, i_31, i_32, i_40, i_42, i_45, i_48, i_51, i_52, i_56, i_58, i_59, i_60, i_61, i_62, i_63, i_64, i_85, i_90, i_100, i_112, i_120, i_121, i_127, i_128, i_130, i_144, i_171, i_192, i_193, i_197, i_200, i_207, i_235, i_240, i_248, i_252, i_254, i_255, i_256, i_512, i_544, i_768, i_769, i_793, i_1000, i_1023, i_1024, i_1200, i_1538, i_1541, i_1545, i_2046, i_2047, i_2049, i_2060, i_2736, i_2737, i_2817, i_2818, i_2819, i_2820, i_2821, i_2831, i_2832, i_3077, i_3085, i_3843, i_3849, i_3851, i_3852, i_4129, i_4353, i_4865, i_5121, i_5122, i_5123, i_6156, i_8192, i_12288, i_16383, i_32000, i_33280, i_49152, i_53247, i_60304, i_64000, i_64512, i_65521, i_65535, i_449838109, nI_add, pk_mul, pk_sub, nI_mm, nI_leI, nI_ltI, nI_eq, pk_div, jrem_N, jshl_N, jshr_N, jushr_N, jmin_N, jmax_N, an_1, an_3, an_7, an_15, an_31, an_63, an_127, an_255, an_1023, an_2047, an_16383, an_65535, nm, pfI, rdI, rdW, rdL, rdI2, rdW2, ldA_N, stA_N, stB_N, stZ_N, pfZ_0, pfZ_1, rtZ_0, rtZ_1, acp_N, Option.bind_some, wp_some_iff, true_and, and_true, false_and, and_false, or_true, true_or, or_false, false_or, not_true_eq_false, not_false_eq_true, if_true, if_false, if_pos, if_neg, lt_sub, le_sub, sub_lt3, sub_le3, Option.bind_assoc, q]
          try rw [if_pos (Or.inr q4)]
          exact ⟨h1, rfl, fun bs z => (by cases z), h3.mono (by intro c k h; omega)⟩
        · simp (disch := omega) only [i_0, i_1, i_2, i_3, i_4, i_5, i_6, i_7, i_8, i_9, i_10, i_11, i_12, i_13, i_14, i_15, i_16, i_17, i_18, i_19, i_20, i_21, i_22, i_23, i_24, i_25, i_26, i_27, i_31, i_32, i_40, i_42, i_45, i_48, i_51, i_52, i_56, i_58, i_59, i_60, i_61, i_62, i_63, i_64, i_85, i_90, i_100, i_112, i_120, i_121, i_127, i_128, i_130, i_144, i_171, i_192, i_193, i_197, i_200, i_207, i_235, i_240, i_248, i_252, i_254, i_255, i_256, i_512, i_544, i_768, i_769, i_793, i_1000, i_1023, i_1024, i_1200, i_1538, i_1541, i_1545, i_2046, i_2047, i_2049, i_2060, i_2736, i_2737, i_2817, i_2818, i_2819, i_2820, i_2821, i_2831, i_2832, i_3077, i_3085, i_3843, i_3849, i_3851, i_3852, i_4129, i_4353, i_4865, i_5121, i_5122, i_5123, i_6156, i_8192, i_12288, i_16383, i_32000, i_33280, i_49152, i_53247, i_60304, i_64000, i_64512, i_65521, i_65535, i_449838109, nI_add, pk_mul, pk_sub, nI_mm, nI_leI, nI_ltI, nI_eq, pk_div, jrem_N, jshl_N, jshr_N, jushr_N, jmin_N, jmax_N, an_1, an_3, an_7, an_15, an_31, an_63, an_127, an_255, an_1023, an_2047, an_16383, an_65535, nm, pfI, rdI, rdW, rdL, rdI2, rdW2, ldA_N, stA_N, stB_N, stZ_N, pfZ_0, pfZ_1, rtZ_0, rtZ_1, acp_N, Option.bind_some, wp_some_iff, true_and, and_true, false_and, and_false, or_true, true_or, or_false, false_or, not_true_eq_false, not_false_eq_true, if_true, if_false, if_pos, if_neg, lt_sub, le_sub, sub_lt3, sub_le3, Option.bind_assoc, q]
          try rw [if_neg (by omega)]
          refine wp_bind (copyOut_C (p := 120) h2.2 hi (by omega) (by rw [g2]; omega)) (fun m2 ⟨b1, b2⟩ => ?_)
          try simp (disch := omega) only [i_0, i_1, i_2, i_3, i_4, i_5, i_6, i_7, i_8, i_9, i_10, i_11, i_12, i_13, i_14, i_15, i_16, i_17, i_18, i_19, i_20, i_21, i_22, i_23, i_24, i_25, i_26, i_27, i_31, i_32, i_40, i_42, i_45, i_48, i_51, i_52, i_56, i_58, i_59, i_60, i_61, i_62, i_63, i_64, i_85, i_90, i_100, i_112, i_120, i_121, i_127, i_128, i_130, i_144, i_171, i_192, i_193, i_197, i_200, i_207, i_235, i_240, i_248, i_252, i_254, i_255, i_256, i_512, i_544, i_768, i_769, i_793, i_1000, i_1023, i_1024, i_1200, i_1538, i_1541, i_1545, i_2046, i_2047, i_2049, i_2060, i_2736, i_2737, i_2817, i_2818, i_2819, i_2820, i_2821, i_2831, i_2832, i_3077, i_3085, i_3843, i_3849, i_3851, i_3852, i_4129, i_4353, i_4865, i_5121, i_5122, i_5123, i_6156, i_8192, i_12288, i_16383, i_32000, i_33280, i_49152, i_53247, i_60304, i_64000, i_64512, i_65521, i_65535, i_449838109, nI_add, pk_mul, pk_sub, nI_mm, nI_leI, nI_ltI, nI_eq, pk_div, jrem_N, jshl_N, jshr_N, jushr_N, jmin_N, jmax_N, an_1, an_3, an_7, an_15, an_31, an_63, an_127, an_255, an_1023, an_2047, an_16383, an_65535, nm, pfI, rdI, rdW, rdL, rdI2, rdW2, ldA_N, stA_N, stB_N, stZ_N, pfZ_0, pfZ_1, rtZ_0, rtZ_1, acp_N, Option.bind_some, wp_some_iff, true_and, and_true, false_and, and_false, or_true, true_or, or_false, false_or, not_true_eq_false, not_false_eq_true, if_true, if_false, if_pos, if_neg, lt_sub, le_sub, sub_lt3, sub_le3, Option.bind_assoc]
          refine ⟨h1.fr b2 (fun c k _ => by omega), rfl, fun bs z => ?_, h3.tr b2 (by intro c k h; omega) (by intro c k h; omega)⟩
          cases z
          exact b1
  unfold f40 f7
  simp (disch := omega) only [i_0, i_1, i_2, i_3, i_4, i_5, i_6, i_7, i_8, i_9, i_10, i_11, i_12, i_13, i_14, i_15, i_16, i_17, i_18, i_19, i_20, i_21, i_22, i_23, i_24, i_25, i_26, i_27, i_31, i_32, i_40, i_42, i_45, i_48, i_51, i_52, i_56, i_58, i_59, i_60, i_61, i_62, i_63, i_64, i_85, i_90, i_100, i_112, i_120, i_121, i_127, i_128, i_130, i_144, i_171, i_192, i_193, i_197, i_200, i_207, i_235, i_240, i_248, i_252, i_254, i_255, i_256, i_512, i_544, i_768, i_769, i_793, i_1000, i_1023, i_1024, i_1200, i_1538, i_1541, i_1545, i_2046, i_2047, i_2049, i_2060, i_2736, i_2737, i_2817, i_2818, i_2819, i_2820, i_2821, i_2831, i_2832, i_3077, i_3085, i_3843, i_3849, i_3851, i_3852, i_4129, i_4353, i_4865, i_5121, i_5122, i_5123, i_6156, i_8192, i_12288, i_16383, i_32000, i_33280, i_49152, i_53247, i_60304, i_64000, i_64512, i_65521, i_65535, i_449838109, nI_add, pk_mul, pk_sub, nI_mm, nI_leI, nI_ltI, nI_eq, pk_div, jrem_N, jshl_N, jshr_N, jushr_N, jmin_N, jmax_N, an_1, an_3, an_7, an_15, an_31, an_63, an_127, an_255, an_1023, an_2047, an_16383, an_65535, nm, pfI, rdI, rdW, rdL, rdI2, rdW2, ldA_N, stA_N, stB_N, stZ_N, pfZ_0, pfZ_1, rtZ_0, rtZ_1, acp_N, Option.bind_some, wp_some_iff, true_and, and_true, false_and, and_false, or_true, true_or, or_false, false_or, not_true_eq_false, not_false_eq_true, if_true, if_false, if_pos, if_neg, lt_sub, le_sub, sub_lt3, sub_le3, Option.bind_assoc, p22]
  have k1 := h.par (i := 22) (x := k.2.1 22 + nI 1) (by omega)
  have f1 : Fr (fun c k => FMk c k ∨ c = 124) μ (setI μ 124 22 (k.2.1 22 + nI 1)) := Fr.sI (by omega)
  generalize setI μ 124 22 (k.2.1 22 + nI 1) = m1 at *
  have a1 := hA.fr f1 (by omega) (fun c k _ _ => by omega)
  rw [bit_j he, hA.1 e he]
  unfold hapK
  cases hq : a.1 e
  · simp (disch := omega) only [i_0, i_1, i_2, i_3, i_4, i_5, i_6, i_7, i_8, i_9, i_10, i_11, i_12, i_13, i_14, i_15, i_16, i_17, i_18, i_19, i_20, i_21, i_22, i_23, i_24, i_25, i_26, i_27, i_31, i_32, i_40, i_42, i_45, i_48, i_51, i_52, i_56, i_58, i_59, i_60, i_61, i_62, i_63, i_64, i_85, i_90, i_100, i_112, i_120, i_121, i_127, i_128, i_130, i_144, i_171, i_192, i_193, i_197, i_200, i_207, i_235, i_240, i_248, i_252, i_254, i_255, i_256, i_512, i_544, i_768, i_769, i_793, i_1000, i_1023, i_1024, i_1200, i_1538, i_1541, i_1545, i_2046, i_2047, i_2049, i_2060, i_2736, i_2737, i_2817, i_2818, i_2819, i_2820, i_2821, i_2831, i_2832, i_3077, i_3085, i_3843, i_3849, i_3851, i_3852, i_4129, i_4353, i_4865, i_5121, i_5122, i_5123, i_6156, i_8192, i_12288, i_16383, i_32000, i_33280, i_49152, i_53247, i_60304, i_64000, i_64512, i_65521, i_65535, i_449838109, nI_add, pk_mul, pk_sub, nI_mm, nI_leI, nI_ltI, nI_eq, pk_div, jrem_N, jshl_N, jshr_N, jushr_N, jmin_N, jmax_N, an_1, an_3, an_7, an_15, an_31, an_63, an_127, an_255, an_1023, an_2047, an_16383, an_65535, nm, pfI, rdI, rdW, rdL, rdI2, rdW2, ldA_N, stA_N, stB_N, stZ_N, pfZ_0, pfZ_1, rtZ_0, rtZ_1, acp_N, Option.bind_some, wp_some_iff, true_and, and_true, false_and, and_false, or_true, true_or, or_false, false_or, not_true_eq_false, not_false_eq_true, if_true, if_false, if_pos, if_neg, lt_sub, le_sub, sub_lt3, sub_le3, Option.bind_assoc, b2n_f, Bool.false_eq_true]
    try rw [if_neg (by decide)]
    refine wp_bind (begin_C (sv := 5) (sb := 1 + e / 8) k1.1 (by omega) (by omega)) (fun m2 ⟨c1, c2⟩ => ?_)
    refine wp_bind (pu_ok _ c1 (by rw [bgL_len]; show 13 < gln 88; rw [gl_88]; omega)) (fun m3 ⟨c3, c4⟩ => ?_)
    rw [byv_nI (by omega)] at c3
    refine wp_bind (p4_ok _ c3 (by rw [List.length_append, bgL_len]; show 13 + 1 + 4 ≤ gln 88; rw [gl_88]; omega)) (fun m4 ⟨c5, c6⟩ => ?_)
    rw [List.append_assoc] at c5
    have f4 : Fr (FB 87) m1 m4 := (c2.tr' c4).tr' c6
    refine wp_bind (finish_C (sv := 5) (sb := 1 + e / 8) (k1.1.fr f4 (fun c k _ => by omega)) hI.1 c5 (by omega) (by omega) (by rw [List.length_append, lowB_len]; show 1 + 4 ≤ 67; decide)) (fun m5 ⟨d1, d2, d3⟩ => ?_)
    have f5 : Fr FMk m1 m5 := f4.tr d3 (by intro c k h; omega) (fun _ _ q => q)
    exact fin m5 _ (k1.mk d1 d2 f5) (a1.fr f5 (by omega) (fun c k _ _ => by omega)) (f1.tr f5 (fun _ _ q => q) (by intro c k h; omega))
  · simp (disch := omega) only [i_0, i_1, i_2, i_3, i_4, i_5, i_6, i_7, i_8, i_9, i_10, i_11, i_12, i_13, i_14, i_15, i_16, i_17, i_18, i_19, i_20, i_21, i_22, i_23, i_24, i_25, i_26, i_27, i_31, i_32, i_40, i_42, i_45, i_48, i_51, i_52, i_56, i_58, i_59, i_60, i_61, i_62, i_63, i_64, i_85, i_90, i_100, i_112, i_120, i_121, i_127, i_128, i_130, i_144, i_171, i_192, i_193, i_197, i_200, i_207, i_235, i_240, i_248, i_252, i_254, i_255, i_256, i_512, i_544, i_768, i_769, i_793, i_1000, i_1023, i_1024, i_1200, i_1538, i_1541, i_1545, i_2046, i_2047, i_2049, i_2060, i_2736, i_2737, i_2817, i_2818, i_2819, i_2820, i_2821, i_2831, i_2832, i_3077, i_3085, i_3843, i_3849, i_3851, i_3852, i_4129, i_4353, i_4865, i_5121, i_5122, i_5123, i_6156, i_8192, i_12288, i_16383, i_32000, i_33280, i_49152, i_53247, i_60304, i_64000, i_64512, i_65521, i_65535, i_449838109, nI_add, pk_mul, pk_sub, nI_mm, nI_leI, nI_ltI, nI_eq, pk_div, jrem_N, jshl_N, jshr_N, jushr_N, jmin_N, jmax_N, an_1, an_3, an_7, an_15, an_31, an_63, an_127, an_255, an_1023, an_2047, an_16383, an_65535, nm, pfI, rdI, rdW, rdL, rdI2, rdW2, ldA_N, stA_N, stB_N, stZ_N, pfZ_0, pfZ_1, rtZ_0, rtZ_1, acp_N, Option.bind_some, wp_some_iff, true_and, and_true, false_and, and_false, or_true, true_or, or_false, false_or, not_true_eq_false, not_false_eq_true, if_true, if_false, if_pos, if_neg, lt_sub, le_sub, sub_lt3, sub_le3, Option.bind_assoc, b2n_t]
    try rw [if_pos rfl]
    exact fin m1 _ k1 a1 f1
theorem KM.mk {μ m : Mem} {k : Kw} {x : Mw} (h : KM μ k) (hm : MM m x) (hO : OutM m []) (hf : Fr FMo μ m) : KM m (x, k.2.1, k.2.2) :=
  ⟨hm, h.2.1.fr hf (fun k => by omega), h.2.2.1.fr hf (by omega) (fun c k _ _ => by omega), hO⟩
abbrev FHm : Nat → Nat → Prop := fun c k => FLm c k ∨ c = 140 ∨ c = 129 ∧ k = 27
theorem hap_M {μ : Mem} {k : Kw} {a : Aw} {e dep : Nat} {v : Int32} (h : KM μ k) (hI : KI k) (hA : EvM μ a) (hAI : EvI a) (he : e < 32) (hd : dep ≤ 4) : wp (f330 (nI e) v (nI dep) μ) (fun m => KM m (hapW k a e v dep) ∧ Fr FHm μ m) := by
  have g := gl_162
  have g0 := gl_190
  have g1 := gl_191
  have g2 := gl_192
  have g3 := gl_193
  have g4 := gl_194
  have g5 := gl_140
  have p22 := h.2.1 22 (by decide)
  have fin : ∀ m k', KI k' → KM m k' → EvM m a → Fr (fun c k => FMo c k ∨ c = 162) μ m → wp (c330_43 (nI e) (nI dep) m) (fun m => KM m (match hapG a e dep with | some bs => lookK k' bs (dep + 1) | none => k') ∧ Fr FHm μ m) := by
    intro m k' h0 h1 h2 h3
    unfold c330_43 hapG
    cases hf : fA a.2 e with
    | none =>
      have e1 := h2.2.1 e he (fA_none hf)
      simp (disch := omega) only [i_0, i_1, i_2, i_3, i_4, i_5, i_6, i_7, i_8, i_9, i_10, i_11, i_12, i_13, i_14, i_15, i_16, i_17, i_18, i_19, i_20, i_21, i_22, i_23, i_24, i_25, i_26, i_27, i_31, i_32, i_40, i_42, i_45, i_48, i_51, i_52, i_56, i_58, i_59, i_60, i_61, i_62, i_63, i_64, i_85, i_90, i_100, i_112, i_120, i_121, i_127, i_128, i_130, i_144, i_171, i_192, i_193, i_197, i_200, i_207, i_235, i_240, i_248, i_252, i_254, i_255, i_256, i_512, i_544, i_768, i_769, i_793, i_1000, i_1023, i_1024, i_1200, i_1538, i_1541, i_1545, i_2046, i_2047, i_2049, i_2060, i_2736, i_2737, i_2817, i_2818, i_2819, i_2820, i_2821, i_2831, i_2832, i_3077, i_3085, i_3843, i_3849, i_3851, i_3852, i_4129, i_4353, i_4865, i_5121, i_5122, i_5123, i_6156, i_8192, i_12288, i_16383, i_32000, i_33280, i_49152, i_53247, i_60304, i_64000, i_64512, i_65521, i_65535, i_449838109, nI_add, pk_mul, pk_sub, nI_mm, nI_leI, nI_ltI, nI_eq, pk_div, jrem_N, jshl_N, jshr_N, jushr_N, jmin_N, jmax_N, an_1, an_3, an_7, an_15, an_31, an_63, an_127, an_255, an_1023, an_2047, an_16383, an_65535, nm, pfI, rdI, rdW, rdL, rdI2, rdW2, ldA_N, stA_N, stB_N, stZ_N, pfZ_0, pfZ_1, rtZ_0, rtZ_1, acp_N, Option.bind_some, wp_some_iff, true_and, and_true, false_and, and_false, or_true, true_or, or_false, false_or, not_true_eq_false, not_false_eq_true, if_true, if_false, if_pos, if_neg, lt_sub, le_sub, sub_lt3, sub_le3, Option.bind_assoc, e1]
      exact ⟨h1, h3.mono (by intro c k h; omega)⟩
    | some i =>
      obtain ⟨hi, ht⟩ := fA_some hf
      obtain ⟨e1, e2, e3, e4⟩ := h2.2.2 i e hi he ht
      have hai := hAI.1 i hi
      by_cases q : (pk a.2 i).2.2 = nI 0
      · simp (disch := omega) only [i_0, i_1, i_2, i_3, i_4, i_5, i_6, i_7, i_8, i_9, i_10, i_11, i_12, i_13, i_14, i_15, i_16, i_17, i_18, i_19, i_20, i_21, i_22, i_23, i_24, i_25, i_26, i_27, i_31, i_32, i_40, i_42, i_45, i_48, i_51, i_52, i_56, i_58, i_59, i_60, i_61, i_62, i_63, i_64, i_85, i_90, i_100, i_112, i_120, i_121, i_127, i_128, i_130, i_144, i_171, i_192, i_193, i_197, i_200, i_207, i_235, i_240, i_248, i_252, i_254, i_255, i_256, i_512, i_544, i_768, i_769, i_793, i_1000, i_1023, i_1024, i_1200, i_1538, i_1541, i_1545, i_2046, i_2047, i_2049, i_2060, i_2736, i_2737, i_2817, i_2818, i_2819, i_2820, i_2821, i_2831, i_2832, i_3077, i_3085, i_3843, i_3849, i_3851, i_3852, i_4129, i_4353, i_4865, i_5121, i_5122, i_5123, i_6156, i_8192, i_12288, i_16383, i_32000, i_33280, i_49152, i_53247, i_60304, i_64000, i_64512, i_65521, i_65535, i_449838109, nI_add, pk_mul, pk_sub, nI_mm, nI_leI, nI_ltI, nI_eq, pk_div, jrem_N, jshl_N, jshr_N, jushr_N, jmin_N, jmax_N, an_1, an_3, an_7, an_15, an_31, an_63, an_127, an_255, an_1023, an_2047, an_16383, an_65535, nm, pfI, rdI, rdW, rdL, rdI2, rdW2, ldA_N, stA_N, stB_N, stZ_N, pfZ_0, pfZ_1, rtZ_0, rtZ_1, acp_N, Option.bind_some, wp_some_iff, true_and, and_true, false_and, and_false, or_true, true_or, or_false, false_or, not_true_eq_false, not_false_eq_true, if_true, if_false, if_pos, if_neg, lt_sub, le_sub, sub_lt3, sub_le3, Option.bind_assoc, e1, e2, q]
        try rw [if_pos (Or.inl q)]
        exact ⟨h1, h3.mono (by intro c k h; omega)⟩
      · by_cases q4 : 4 ≤ dep
        · simp (disch := omega) only [i_0, i_1, i_2, i_3, i_4, i_5, i_6, i_7, i_8, i_9, i_10, i_11, i_12, i_13, i_14, i_15, i_16, i_17, i_18, i_19, i_20, i_21, i_22, i_23, i_24, i_25, i_26, i_27, i_31, i_32, i_40, i_42, i_45, i_48, i_51, i_52, i_56, i_58, i_59, i_60, i_61, i_62, i_63, i_64, i_85, i_90, i_100, i_112, i_120, i_121, i_127, i_128, i_130, i_144, i_171, i_192, i_193, i_197, i_200, i_207, i_235, i_240, i_248, i_252, i_254, i_255, i_256, i_512, i_544, i_768, i_769, i_793, i_1000, i_1023, i_1024, i_1200, i_1538, i_1541, i_1545, i_2046, i_2047, i_2049, i_2060, i_2736, i_2737, i_2817, i_2818, i_2819, i_2820, i_2821, i_2831, i_2832, i_3077, i_3085, i_3843, i_3849, i_3851, i_3852, i_4129, i_4353, i_4865, i_5121, i_5122, i_5123, i_6156, i_8192, i_12288, i_16383, i_32000, i_33280, i_49152, i_53247, i_60304, i_64000, i_64512, i_65521, i_65535, i_449838109, nI_add, pk_mul, pk_sub, nI_mm, nI_leI, nI_ltI, nI_eq, pk_div, jrem_N, jshl_N, jshr_N, jushr_N, jmin_N, jmax_N, an_1, an_3, an_7, an_15, an_31, an_63, an_127, an_255, an_1023, an_2047, an_16383, an_65535, nm, pfI, rdI, rdW, rdL, rdI2, rdW2, ldA_N, stA_N, stB_N, stZ_N, pfZ_0, pfZ_1, rtZ_0, rtZ_1, acp_N, Option.bind_some, wp_some_iff, true_and, and_true, false_and, and_false, or_true, true_or, or_false, false_or, not_true_eq_false, not_false_eq_true, if_true, if_false, if_pos, if_neg, lt_sub, le_sub, sub_lt3, sub_le3, Option.bind_assoc, e1, e2, q]
          try rw [if_pos (Or.inr q4)]
          exact ⟨h1, h3.mono (by intro c k h; omega)⟩
        · simp (disch := omega) only [i_0, i_1, i_2, i_3, i_4, i_5, i_6, i_7, i_8, i_9, i_10, i_11, i_12, i_13, i_14, i_15, i_16, i_17, i_18, i_19, i_20, i_21, i_22, i_23, i_24, i_25, i_26, i_27, i_31, i_32, i_40, i_42, i_45, i_48, i_51, i_52, i_56, i_58, i_59, i_60, i_61, i_62, i_63, i_64, i_85, i_90, i_100, i_112, i_120, i_121, i_127, i_128, i_130, i_144, i_171, i_192, i_193, i_197, i_200, i_207, i_235, i_240, i_248, i_252, i_254, i_255, i_256, i_512, i_544, i_768, i_769, i_793, i_1000, i_1023, i_1024, i_1200, i_1538, i_1541, i_1545, i_2046, i_2047, i_2049, i_2060, i_2736, i_2737, i_2817, i_2818, i_2819, i_2820, i_2821, i_2831, i_2832, i_3077, i_3085, i_3843, i_3849, i_3851, i_3852, i_4129, i_4353, i_4865, i_5121, i_5122, i_5123, i_6156, i_8192, i_12288, i_16383, i_32000, i_33280, i_49152, i_53247, i_60304, i_64000, i_64512, i_65521, i_65535, i_449838109, nI_add, pk_mul, pk_sub, nI_mm, nI_leI, nI_ltI, nI_eq, pk_div, jrem_N, jshl_N, jshr_N, jushr_N, jmin_N, jmax_N, an_1, an_3, an_7, an_15, an_31, an_63, an_127, an_255, an_1023, an_2047, an_16383, an_65535, nm, pfI, rdI, rdW, rdL, rdI2, rdW2, ldA_N, stA_N, stB_N, stZ_N, pfZ_0, pfZ_1, rtZ_0, rtZ_1, acp_N, Option.bind_some, wp_some_iff, true_and, and_true, false_and, and_false, or_true, true_or, or_false, false_or, not_true_eq_false, not_false_eq_true, if_true, if_false, if_pos, if_neg, lt_sub, le_sub, sub_lt3, sub_le3, Option.bind_assoc, e1, e2, q, e3]
          try rw [if_neg (by omega)]
          have f4 : Fr (fun c k => c = 129 ∧ k = 27) m (setI m 129 27 (nI (pk a.2 i).1.length)) := Fr.sI ⟨rfl, rfl⟩
          have e27 : (setI m 129 27 (nI (pk a.2 i).1.length)).1 129 27 = nI (pk a.2 i).1.length := by simp (disch := omega) only [i_0, i_1, i_2, i_3, i_4, i_5, i_6, i_7, i_8, i_9, i_10, i_11, i_12, i_13, i_14, i_15, i_16, i_17, i_18, i_19, i_20, i_21, i_22, i_23, i_24, i_25, i_26, i_27, i_31, i_32, i_40, i_42, i_45, i_48, i_51, i_52, i_56, i_58, i_59, i_60, i_61, i_62, i_63, i_64, i_85, i_90, i_100, i_112, i_120, i_121, i_127, i_128, i_130, i_144, i_171, i_192, i_193, i_197, i_200, i_207, i_235, i_240, i_248, i_252, i_254, i_255, i_256, i_512, i_544, i_768, i_769, i_793, i_1000, i_1023, i_1024, i_1200, i_1538, i_1541, i_1545, i_2046, i_2047, i_2049, i_2060, i_2736, i_2737, i_2817, i_2818, i_2819, i_2820, i_2821, i_2831, i_2832, i_3077, i_3085, i_3843, i_3849, i_3851, i_3852, i_4129, i_4353, i_4865, i_5121, i_5122, i_5123, i_6156, i_8192, i_12288, i_16383, i_32000, i_33280, i_49152, i_53247, i_60304, i_64000, i_64512, i_65521, i_65535, i_449838109, nI_add, pk_mul, pk_sub, nI_mm, nI_leI, nI_ltI, nI_eq, pk_div, jrem_N, jshl_N, jshr_N, jushr_N, jmin_N, jmax_N, an_1, an_3, an_7, an_15, an_31, an_63, an_127, an_255, an_1023, an_2047, an_16383, an_65535, nm, pfI, rdI, rdW, rdL, rdI2, rdW2, ldA_N, stA_N, stB_N, stZ_N, pfZ_0, pfZ_1, rtZ_0, rtZ_1, acp_N, Option.bind_some, wp_some_iff, true_and, and_true, false_and, and_false, or_true, true_or, or_false, false_or, not_true_eq_false, not_false_eq_true, if_true, if_false, if_pos, if_neg, lt_sub, le_sub, sub_lt3, sub_le3, Option.bind_assoc]
          generalize setI m 129 27 (nI (pk a.2 i).1.length) = m4 at *
          refine wp_bind (move_M (q := 140) (d := 0) (e4.fr f4 (fun k => by omega)) rfl (by omega) (by omega) (by omega) (Or.inl (by omega))) (fun m5 ⟨b1, b2⟩ => ?_)
          have f5 : Fr (fun c k => c = 140 ∨ c = 129 ∧ k = 27) m m5 := f4.tr b2 (by intro c k h; omega) (by intro c k h; omega)
          refine wp_bind (look_M (dep := dep + 1) (h1.fr h0.1 f5 (fun c k _ => by omega)) h0 ⟨by rw [b2.1 _ _ (by omega)]; exact e27, b1⟩ (by omega)) (fun m6 ⟨d1, d2⟩ => wp_some ⟨d1, ?_⟩)
          exact (h3.tr f5 (P := FHm) (by intro c k h; omega) (by intro c k h; omega)).tr d2 (fun _ _ q => q) (by intro c k h; omega)
  unfold f330
  have eq := hA.1 e he
  simp (disch := omega) only [i_0, i_1, i_2, i_3, i_4, i_5, i_6, i_7, i_8, i_9, i_10, i_11, i_12, i_13, i_14, i_15, i_16, i_17, i_18, i_19, i_20, i_21, i_22, i_23, i_24, i_25, i_26, i_27, i_31, i_32, i_40, i_42, i_45, i_48, i_51, i_52, i_56, i_58, i_59, i_60, i_61, i_62, i_63, i_64, i_85, i_90, i_100, i_112, i_120, i_121, i_127, i_128, i_130, i_144, i_171, i_192, i_193, i_197, i_200, i_207, i_235, i_240, i_248, i_252, i_254, i_255, i_256, i_512, i_544, i_768, i_769, i_793, i_1000, i_1023, i_1024, i_1200, i_1538, i_1541, i_1545, i_2046, i_2047, i_2049, i_2060, i_2736, i_2737, i_2817, i_2818, i_2819, i_2820, i_2821, i_2831, i_2832, i_3077, i_3085, i_3843, i_3849, i_3851, i_3852, i_4129, i_4353, i_4865, i_5121, i_5122, i_5123, i_6156, i_8192, i_12288, i_16383, i_32000, i_33280, i_49152, i_53247, i_60304, i_64000, i_64512, i_65521, i_65535, i_449838109, nI_add, pk_mul, pk_sub, nI_mm, nI_leI, nI_ltI, nI_eq, pk_div, jrem_N, jshl_N, jshr_N, jushr_N, jmin_N, jmax_N, an_1, an_3, an_7, an_15, an_31, an_63, an_127, an_255, an_1023, an_2047, an_16383, an_65535, nm, pfI, rdI, rdW, rdL, rdI2, rdW2, ldA_N, stA_N, stB_N, stZ_N, pfZ_0, pfZ_1, rtZ_0, rtZ_1, acp_N, Option.bind_some, wp_some_iff, true_and, and_true, false_and, and_false, or_true, true_or, or_false, false_or, not_true_eq_false, not_false_eq_true, if_true, if_false, if_pos, if_neg, lt_sub, le_sub, sub_lt3, sub_le3, Option.bind_assoc, p22, eq]
  have k1 := h.par (i := 22) (x := k.2.1 22 + nI 1) hI.1
  have f1 : Fr (fun c k => FMo c k ∨ c = 162) μ (setI μ 162 22 (k.2.1 22 + nI 1)) := Fr.sI (by omega)
  generalize setI μ 162 22 (k.2.1 22 + nI 1) = m1 at *
  have a1 := hA.fr f1 (fun c k _ _ => by omega)
  have hK := hapK_I (a := a) (e := e) (v := v) hI
  show wp _ (fun m => KM m (match hapG a e dep with | some bs => lookK (hapK k a e v) bs (dep + 1) | none => hapK k a e v) ∧ Fr FHm μ m)
  unfold hapK at *
  cases hq : a.1 e
  · rw [hq, if_neg (by decide)] at hK
    simp (disch := omega) only [i_0, i_1, i_2, i_3, i_4, i_5, i_6, i_7, i_8, i_9, i_10, i_11, i_12, i_13, i_14, i_15, i_16, i_17, i_18, i_19, i_20, i_21, i_22, i_23, i_24, i_25, i_26, i_27, i_31, i_32, i_40, i_42, i_45, i_48, i_51, i_52, i_56, i_58, i_59, i_60, i_61, i_62, i_63, i_64, i_85, i_90, i_100, i_112, i_120, i_121, i_127, i_128, i_130, i_144, i_171, i_192, i_193, i_197, i_200, i_207, i_235, i_240, i_248, i_252, i_254, i_255, i_256, i_512, i_544, i_768, i_769, i_793, i_1000, i_1023, i_1024, i_1200, i_1538, i_1541, i_1545, i_2046, i_2047, i_2049, i_2060, i_2736, i_2737, i_2817, i_2818, i_2819, i_2820, i_2821, i_2831, i_2832, i_3077, i_3085, i_3843, i_3849, i_3851, i_3852, i_4129, i_4353, i_4865, i_5121, i_5122, i_5123, i_6156, i_8192, i_12288, i_16383, i_32000, i_33280, i_49152, i_53247, i_60304, i_64000, i_64512, i_65521, i_65535, i_449838109, nI_add, pk_mul, pk_sub, nI_mm, nI_leI, nI_ltI, nI_eq, pk_div, jrem_N, jshl_N, jshr_N, jushr_N, jmin_N, jmax_N, an_1, an_3, an_7, an_15, an_31, an_63, an_127, an_255, an_1023, an_2047, an_16383, an_65535, nm, pfI, rdI, rdW, rdL, rdI2, rdW2, ldA_N, stA_N, stB_N, stZ_N, pfZ_0, pfZ_1, rtZ_0, rtZ_1, acp_N, Option.bind_some, wp_some_iff, true_and, and_true, false_and, and_false, or_true, true_or, or_false, false_or, not_true_eq_false, not_false_eq_true, if_true, if_false, if_pos, if_neg, lt_sub, le_sub, sub_lt3, sub_le3, Option.bind_assoc, b2n_f, Bool.false_eq_true]
    try rw [if_neg (by decide)]
    refine wp_bind (put1_M k1.2.2.2 (by omega) (by show 0 + 1 ≤ 100; omega)) (fun m2 ⟨c1, c2⟩ => ?_)
    rw [List.nil_append] at c1
    refine wp_bind (put_M _ c1 (by omega) (by omega) (by show 1 + 4 ≤ 100; omega)) (fun m3 ⟨c3, c4⟩ => ?_)
    have f3 : Fr FOut m1 m3 := c2.tr' c4
    refine wp_bind (make_M (sv := 5) (sb := 1 + e / 8) (k1.1.fr hI.1 f3 (fun c k _ => by omega)) hI.1 c3 (by omega) (by omega) (by rw [List.length_append, lowB_len]; show 1 + 4 ≤ 67; decide)) (fun m4 ⟨d1, d2, d3⟩ => ?_)
    have f4 : Fr FMo m1 m4 := f3.tr d3 (by intro c k h; omega) (by intro c k h; omega)
    exact fin m4 _ hK (k1.mk d1 d2 f4) (a1.fr f4 (fun c k _ _ => by omega)) (f1.tr f4 (fun _ _ q => q) (by intro c k h; omega))
  · rw [hq, if_pos rfl] at hK
    simp (disch := omega) only [i_0, i_1, i_2, i_3, i_4, i_5, i_6, i_7, i_8, i_9, i_10, i_11, i_12, i_13, i_14, i_15, i_16, i_17, i_18, i_19, i_20, i_21, i_22, i_23, i_24, i_25, i_26, i_27, i_31, i_32, i_40, i_42, i_45, i_48, i_51, i_52, i_56, i_58, i_59, i_60, i_61, i_62, i_63, i_64, i_85, i_90, i_100, i_112, i_120, i_121, i_127, i_128, i_130, i_144, i_171, i_192, i_193, i_197, i_200, i_207, i_235, i_240, i_248, i_252, i_254, i_255, i_256, i_512, i_544, i_768, i_769, i_793, i_1000, i_1023, i_1024, i_1200, i_1538, i_1541, i_1545, i_2046, i_2047, i_2049, i_2060, i_2736, i_2737, i_2817, i_2818, i_2819, i_2820, i_2821, i_2831, i_2832, i_3077, i_3085, i_3843, i_3849, i_3851, i_3852, i_4129, i_4353, i_4865, i_5121, i_5122, i_5123, i_6156, i_8192, i_12288, i_16383, i_32000, i_33280, i_49152, i_53247, i_60304, i_64000, i_64512, i_65521, i_65535, i_449838109, nI_add, pk_mul, pk_sub, nI_mm, nI_leI, nI_ltI, nI_eq, pk_div, jrem_N, jshl_N, jshr_N, jushr_N, jmin_N, jmax_N, an_1, an_3, an_7, an_15, an_31, an_63, an_127, an_255, an_1023, an_2047, an_16383, an_65535, nm, pfI, rdI, rdW, rdL, rdI2, rdW2, ldA_N, stA_N, stB_N, stZ_N, pfZ_0, pfZ_1, rtZ_0, rtZ_1, acp_N, Option.bind_some, wp_some_iff, true_and, and_true, false_and, and_false, or_true, true_or, or_false, false_or, not_true_eq_false, not_false_eq_true, if_true, if_false, if_pos, if_neg, lt_sub, le_sub, sub_lt3, sub_le3, Option.bind_assoc, b2n_t]
    try rw [if_pos rfl]
    exact fin m1 _ hK k1 a1 f1
