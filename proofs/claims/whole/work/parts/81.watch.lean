/-! ===== watches ===== -/
def WtC (μ : Mem) (wt : Nat → Nat → Int32) : Prop := ∀ s, s < 6 → ∀ k, k < 8 → μ.1 126 (8 * s + k) = wt s k
def WtN (μ : Mem) (wt : Nat → Nat → Int32) : Prop := ∀ s, s < 6 → (∀ k, k < 7 → μ.1 (195 + k) s = wt s k) ∧ μ.1 202 s = if wt s 6 = nI 0 then nI 0 else wt s 7
def WtI (wt : Nat → Nat → Int32) : Prop := ∀ s, s < 6 → (nt (wt s 0) ≤ 5 ∧ wt s 0 = nI (nt (wt s 0))) ∧ (nt (wt s 1) < 24 ∧ wt s 1 = nI (nt (wt s 1))) ∧ (nt (wt s 4) < 256 ∧ wt s 4 = nI (nt (wt s 4))) ∧ (nt (wt s 5) < 32 ∧ wt s 5 = nI (nt (wt s 5))) ∧ (nt (wt s 6) < 256 ∧ wt s 6 = nI (nt (wt s 6)))
theorem WtC.fr {μ m : Mem} {st : Nat → Nat → Int32} {P : Nat → Nat → Prop} (h : WtC μ st) (ho : Fr P μ m) (h1 : ∀ k, ¬ P 126 k) : WtC m st := fun s hs k hk => by rw [ho.1 _ _ (h1 _)]; exact h s hs k hk
theorem WtN.fr {μ m : Mem} {st : Nat → Nat → Int32} {P : Nat → Nat → Prop} (h : WtN μ st) (ho : Fr P μ m) (h1 : ∀ c k, 195 ≤ c → c ≤ 202 → ¬ P c k) : WtN m st := fun s hs => ⟨fun k hk => by rw [ho.1 _ _ (h1 _ _ (by omega) (by omega))]; exact (h s hs).1 k hk, by rw [ho.1 _ _ (h1 _ _ (by omega) (by omega))]; exact (h s hs).2⟩
theorem WtC.up {μ : Mem} {st : Nat → Nat → Int32} {s k j : Nat} {v : Int32} (h : WtC μ st) (hk : k < 8) (hj : j = 8 * s + k) : WtC (setI μ 126 j v) (up2 st s k v) := by
  intro a ha b hb
  subst hj
  by_cases e : a = s ∧ b = k
  · obtain ⟨rfl, rfl⟩ := e
    rw [rdI, if_pos ⟨rfl, rfl⟩, up2_s]
  · rw [rdI, if_neg (fun z => e (by omega)), up2_o e]
    exact h a ha b hb
theorem WtN.up {μ : Mem} {st : Nat → Nat → Int32} {s k c : Nat} {v : Int32} (h : WtN μ st) (hk : k < 6) (hc : c = 195 + k) : WtN (setI μ c s v) (up2 st s k v) := by
  intro a ha
  subst hc
  refine ⟨fun b hb => ?_, ?_⟩
  · by_cases e : a = s ∧ b = k
    · obtain ⟨rfl, rfl⟩ := e
      rw [rdI, if_pos ⟨rfl, rfl⟩, up2_s]
    · rw [rdI, if_neg (fun z => e (by omega)), up2_o e]
      exact (h a ha).1 b hb
  · rw [rdI, if_neg (by omega), up2_o (by omega), up2_o (by omega)]
    exact (h a ha).2
theorem WtN.row {μ : Mem} {st : Nat → Nat → Int32} {s : Nat} {r l l2 : Int32} (h : WtN μ st) (h0 : r = nI 0 → l = nI 0) (h1 : r ≠ nI 0 → l = l2) : WtN (setI (setI μ 201 s r) 202 s l) (up2 (up2 st s 7 l2) s 6 r) := by
  intro a ha
  refine ⟨fun b hb => ?_, ?_⟩
  · by_cases e : a = s ∧ b = 6
    · obtain ⟨rfl, rfl⟩ := e
      rw [rdI, if_neg (by omega), rdI, if_pos ⟨rfl, rfl⟩, up2_s]
    · rw [rdI, if_neg (by omega), rdI, if_neg (fun z => e (by omega)), up2_o e, up2_o (by omega)]
      exact (h a ha).1 b hb
  · by_cases e : a = s
    · subst e
      rw [rdI, if_pos ⟨rfl, rfl⟩, up2_s, up2_o (by omega), up2_s]
      by_cases z : r = nI 0
      · rw [if_pos z]; exact h0 z
      · rw [if_neg z]; exact h1 z
    · rw [rdI, if_neg (fun z => e z.2), rdI, if_neg (by omega), up2_o (fun z => e z.1), up2_o (fun z => e z.1), up2_o (fun z => e z.1), up2_o (fun z => e z.1)]
      exact (h a ha).2
theorem WtI.up {st : Nat → Nat → Int32} {s k b : Nat} {v : Int32} (h : WtI st) (hb : k = 0 ∧ b = 6 ∨ k = 1 ∧ b = 24 ∨ k = 4 ∧ b = 256 ∨ k = 5 ∧ b = 32 ∨ k = 6 ∧ b = 256 ∨ k = 2 ∨ k = 3 ∨ k = 7) (hv : k ≠ 2 → k ≠ 3 → k ≠ 7 → ∃ n, n < b ∧ v = nI n) : WtI (up2 st s k v) := by
  have rd : ∀ a j, (a = s ∧ j = k) ∧ up2 st s k v a j = v ∨ up2 st s k v a j = st a j := by
    intro a j
    by_cases e : a = s ∧ j = k
    · left
      obtain ⟨rfl, rfl⟩ := e
      exact ⟨⟨rfl, rfl⟩, up2_s⟩
    · right
      exact up2_o e
  intro a ha
  obtain ⟨i0, i1, i4, i5, i6⟩ := h a ha
  refine ⟨?_, ?_, ?_, ?_, ?_⟩
  · rcases rd a 0 with ⟨⟨_, z⟩, w⟩ | w
    · obtain ⟨n, hn, rfl⟩ := hv (by omega) (by omega) (by omega)
      rw [w, nt_nI (by omega)]
      exact ⟨by omega, rfl⟩
    · rw [w]; exact i0
  · rcases rd a 1 with ⟨⟨_, z⟩, w⟩ | w
    · obtain ⟨n, hn, rfl⟩ := hv (by omega) (by omega) (by omega)
      rw [w, nt_nI (by omega)]
      exact ⟨by omega, rfl⟩
    · rw [w]; exact i1
  · rcases rd a 4 with ⟨⟨_, z⟩, w⟩ | w
    · obtain ⟨n, hn, rfl⟩ := hv (by omega) (by omega) (by omega)
      rw [w, nt_nI (by omega)]
      exact ⟨by omega, rfl⟩
    · rw [w]; exact i4
  · rcases rd a 5 with ⟨⟨_, z⟩, w⟩ | w
    · obtain ⟨n, hn, rfl⟩ := hv (by omega) (by omega) (by omega)
      rw [w, nt_nI (by omega)]
      exact ⟨by omega, rfl⟩
    · rw [w]; exact i5
  · rcases rd a 6 with ⟨⟨_, z⟩, w⟩ | w
    · obtain ⟨n, hn, rfl⟩ := hv (by omega) (by omega) (by omega)
      rw [w, nt_nI (by omega)]
      exact ⟨by omega, rfl⟩
    · rw [w]; exact i6
/-! every tick -/
abbrev Ww : Type := Kw × (Nat → Nat → Int32)
def lkW (wt : Nat → Nat → Int32) (s : Nat) (v : Int32) : Nat := if wt s 2 ≤ v then (if v ≤ wt s 3 then 3 else 5) else 4
def rwW (wt : Nat → Nat → Int32) (s : Nat) (v : Int32) : Nat := if wt s 6 = nI 0 then 1 else if wt s 7 = nI (lkW wt s v) then min (nt (wt s 6) + 1) 255 else 1
def w1W (wt : Nat → Nat → Int32) (s : Nat) (v : Int32) : Nat → Nat → Int32 := up2 (up2 wt s 7 (nI (lkW wt s v))) s 6 (nI (rwW wt s v))
def rpW (wt : Nat → Nat → Int32) (s : Nat) (v : Int32) : List Nat := [s] ++ ([nt (wt s 1)] ++ (lowB v 4 ++ ([nt (wt s 0)] ++ [lkW wt s v])))
def lookW (k : Kw) (wt : Nat → Nat → Int32) (s : Nat) (v : Int32) : Ww × Bool :=
  if rwW wt s v < nt (wt s 4) ∨ nt (wt s 0) = lkW wt s v then ((k, w1W wt s v), false)
  else (((makeW k.1 12 12 (rpW wt s v), k.2), up2 (w1W wt s v) s 0 (nI (lkW wt s v))), decide (lkW wt s v ≠ 3))
def wtT (a : Aw) (en s : Nat) (y : Ww) : Ww :=
  if nt (y.2 s 0) < 2 then y
  else if (lookW y.1 y.2 s (vOf y.1 en (nt (y.2 s 1)))).2 = true then (hapW (lookW y.1 y.2 s (vOf y.1 en (nt (y.2 s 1)))).1.1 a (nt (y.2 s 5)) (vOf y.1 en (nt (y.2 s 1))) 0, (lookW y.1 y.2 s (vOf y.1 en (nt (y.2 s 1)))).1.2)
  else (lookW y.1 y.2 s (vOf y.1 en (nt (y.2 s 1)))).1
def wtsT (a : Aw) (en : Nat) (y : Ww) : Nat → Ww
  | 0 => y
  | s + 1 => wtT a en s (wtsT a en y s)
theorem lkW_3 (wt : Nat → Nat → Int32) (s : Nat) (v : Int32) : lkW wt s v = 3 ∨ lkW wt s v = 4 ∨ lkW wt s v = 5 := by
  unfold lkW
  split
  · split
    · exact Or.inl rfl
    · exact Or.inr (Or.inr rfl)
  · exact Or.inr (Or.inl rfl)
theorem rwW_lt {wt : Nat → Nat → Int32} {s : Nat} {v : Int32} : 1 ≤ rwW wt s v ∧ rwW wt s v < 256 := by
  unfold rwW
  split
  · decide
  · split
    · omega
    · decide
theorem rpW_len (wt : Nat → Nat → Int32) (s : Nat) (v : Int32) : (rpW wt s v).length = 8 := by
  unfold rpW
  simp only [List.length_append, lowB_len, List.length_singleton]
theorem lookW_I {k : Kw} {wt : Nat → Nat → Int32} {s : Nat} {v : Int32} (h : KI k) (hI : WtI wt) : KI (lookW k wt s v).1.1 ∧ WtI (lookW k wt s v).1.2 := by
  have h3 := lkW_3 wt s v
  have hr := rwW_lt (wt := wt) (s := s) (v := v)
  have w1 : WtI (w1W wt s v) := (hI.up (k := 7) (b := 0) (by omega) (fun _ _ z => absurd rfl z)).up (k := 6) (b := 256) (by omega) (fun _ _ _ => ⟨_, hr.2, rfl⟩)
  unfold lookW
  split
  · exact ⟨h, w1⟩
  · exact ⟨⟨makeW_I h.1 (by rw [rpW_len]; decide), h.2.1, h.2.2⟩, w1.up (k := 0) (b := 6) (by omega) (fun _ _ _ => ⟨_, by omega, rfl⟩)⟩
theorem wtT_I {a : Aw} {en s : Nat} {y : Ww} (h : KI y.1) (hI : WtI y.2) (hA : EvI a) : KI (wtT a en s y).1 ∧ WtI (wtT a en s y).2 := by
  have hl := lookW_I (s := s) (v := vOf y.1 en (nt (y.2 s 1))) h hI
  unfold wtT
  split
  · exact ⟨h, hI⟩
  · split
    · exact ⟨hapW_I hl.1 hA, hl.2⟩
    · exact hl
theorem wtsT_I {a : Aw} {en : Nat} {y : Ww} (h : KI y.1) (hI : WtI y.2) (hA : EvI a) : ∀ s, KI (wtsT a en y s).1 ∧ WtI (wtsT a en y s).2
  | 0 => ⟨h, hI⟩
  | s + 1 => by
    obtain ⟨a1, b1⟩ := wtsT_I (en := en) h hI hA s
    exact wtT_I a1 b1 hA
abbrev FWc : Nat → Nat → Prop := fun c k => FMk c k ∨ c = 126
theorem lookW_C {μ : Mem} {k : Kw} {wt : Nat → Nat → Int32} {s : Nat} {v : Int32} (h : KC μ k) (hK : KI k) (hW : WtC μ wt) (hI : WtI wt) (hs : s < 6) : wp (f49 (nI s) v μ) (fun r => KC r.1 (lookW k wt s v).1.1 ∧ WtC r.1 (lookW k wt s v).1.2 ∧ r.2 = nI (b2n (lookW k wt s v).2) ∧ Fr FWc μ r.1) := by
  have g := gl_126
  have g88 : gln (87 + 1) = 82 := gl_88
  have h3 := lkW_3 wt s v
  have hr := rwW_lt (wt := wt) (s := s) (v := v)
  obtain ⟨⟨i0, j0⟩, ⟨i1, j1⟩, ⟨i4, j4⟩, ⟨i5, j5⟩, ⟨i6, j6⟩⟩ := hI s hs
  have e0 := hW s hs 0 (by omega)
  have e1 := hW s hs 1 (by omega)
  have e2 := hW s hs 2 (by omega)
  have e3 := hW s hs 3 (by omega)
  have e4 := hW s hs 4 (by omega)
  have e6 := hW s hs 6 (by omega)
  have e7 := hW s hs 7 (by omega)
  rw [show 8 * s + 0 = s * 8 by omega] at e0
  rw [Nat.mul_comm 8 s] at e1 e2 e3 e4 e6 e7
  have kD : wp (c49_130 (nI s) v (nI (s * 8)) (nI (lkW wt s v)) (nI (s * 8 + 6)) (nI (rwW wt s v)) (setI μ 126 (s * 8 + 7) (nI (lkW wt s v)))) (fun r => KC r.1 (lookW k wt s v).1.1 ∧ WtC r.1 (lookW k wt s v).1.2 ∧ r.2 = nI (b2n (lookW k wt s v).2) ∧ Fr FWc μ r.1) := by
    have w2 : WtC (setI (setI μ 126 (s * 8 + 7) (nI (lkW wt s v))) 126 (s * 8 + 6) (nI (rwW wt s v))) (w1W wt s v) := (hW.up (s := s) (k := 7) (by omega) (by omega)).up (s := s) (k := 6) (by omega) (by omega)
    have f2 : Fr (fun c _ => c = 126) μ (setI (setI μ 126 (s * 8 + 7) (nI (lkW wt s v))) 126 (s * 8 + 6) (nI (rwW wt s v))) := (Fr.sI (by omega)).pI (by omega)
    have r0 : (setI (setI μ 126 (s * 8 + 7) (nI (lkW wt s v))) 126 (s * 8 + 6) (nI (rwW wt s v))).1 126 (s * 8) = nI (nt (wt s 0)) := by
      rw [← j0, ← e0]
      try simp (disch := omega) only [i_0, i_1, i_2, i_3, i_4, i_5, i_6, i_7, i_8, i_9, i_10, i_11, i_12, i_13, i_14, i_15, i_16, i_17, i_18, i_19, i_20, i_21, i_22, i_23, i_24, i_25, i_26, i_27, i_31, i_32, i_40, i_42, i_45, i_48, i_51, i_52, i_56, i_58, i_59, i_60, i_61, i_62, i_63, i_64, i_85, i_90, i_100, i_112, i_120, i_121, i_127, i_128, i_130, i_144, i_171, i_192, i_193, i_197, i_200, i_207, i_235, i_240, i_248, i_252, i_254, i_255, i_256, i_512, i_544, i_768, i_769, i_793, i_1000, i_1023, i_1024, i_1200, i_1538, i_1541, i_1545, i_2046, i_2047, i_2049, i_2060, i_2736, i_2737, i_2817, i_2818, i_2819, i_2820, i_2821, i_2831, i_2832, i_3077, i_3085, i_3843, i_3849, i_3851, i_3852, i_4129, i_4353, i_4865, i_5121, i_5122, i_5123, i_6156, i_8192, i_12288, i_16383, i_32000, i_33280, i_49152, i_53247, i_60304, i_64000, i_64512, i_65521, i_65535, i_449838109, nI_add, pk_mul, pk_sub, nI_mm, nI_leI, nI_ltI, nI_eq, pk_div, jrem_N, jshl_N, jshr_N, jushr_N, jmin_N, jmax_N, an_1, an_3, an_7, an_15, an_31, an_63, an_127, an_255, an_1023, an_2047, an_16383, an_65535, nm, pfI, rdI, rdW, rdL, rdI2, rdW2, ldA_N, stA_N, stB_N, stZ_N, pfZ_0, pfZ_1, rtZ_0, rtZ_1, acp_N, Option.bind_some, wp_some_iff, true_and, and_true, false_and, and_false, or_true, true_or, or_false, false_or, not_true_eq_false, not_false_eq_true, if_true, if_false, if_pos, if_neg, lt_sub, le_sub, sub_lt3, sub_le3, Option.bind_assoc]
    have r1 : (setI (setI μ 126 (s * 8 + 7) (nI (lkW wt s v))) 126 (s * 8 + 6) (nI (rwW wt s v))).1 126 (s * 8 + 1) = nI (nt (wt s 1)) := by
      rw [← j1, ← e1]
      try simp (disch := omega) only [i_0, i_1, i_2, i_3, i_4, i_5, i_6, i_7, i_8, i_9, i_10, i_11, i_12, i_13, i_14, i_15, i_16, i_17, i_18, i_19, i_20, i_21, i_22, i_23, i_24, i_25, i_26, i_27, i_31, i_32, i_40, i_42, i_45, i_48, i_51, i_52, i_56, i_58, i_59, i_60, i_61, i_62, i_63, i_64, i_85, i_90, i_100, i_112, i_120, i_121, i_127, i_128, i_130, i_144, i_171, i_192, i_193, i_197, i_200, i_207, i_235, i_240, i_248, i_252, i_254, i_255, i_256, i_512, i_544, i_768, i_769, i_793, i_1000, i_1023, i_1024, i_1200, i_1538, i_1541, i_1545, i_2046, i_2047, i_2049, i_2060, i_2736, i_2737, i_2817, i_2818, i_2819, i_2820, i_2821, i_2831, i_2832, i_3077, i_3085, i_3843, i_3849, i_3851, i_3852, i_4129, i_4353, i_4865, i_5121, i_5122, i_5123, i_6156, i_8192, i_12288, i_16383, i_32000, i_33280, i_49152, i_53247, i_60304, i_64000, i_64512, i_65521, i_65535, i_449838109, nI_add, pk_mul, pk_sub, nI_mm, nI_leI, nI_ltI, nI_eq, pk_div, jrem_N, jshl_N, jshr_N, jushr_N, jmin_N, jmax_N, an_1, an_3, an_7, an_15, an_31, an_63, an_127, an_255, an_1023, an_2047, an_16383, an_65535, nm, pfI, rdI, rdW, rdL, rdI2, rdW2, ldA_N, stA_N, stB_N, stZ_N, pfZ_0, pfZ_1, rtZ_0, rtZ_1, acp_N, Option.bind_some, wp_some_iff, true_and, and_true, false_and, and_false, or_true, true_or, or_false, false_or, not_true_eq_false, not_false_eq_true, if_true, if_false, if_pos, if_neg, lt_sub, le_sub, sub_lt3, sub_le3, Option.bind_assoc]
    have r4 : (setI (setI μ 126 (s * 8 + 7) (nI (lkW wt s v))) 126 (s * 8 + 6) (nI (rwW wt s v))).1 126 (s * 8 + 4) = nI (nt (wt s 4)) := by
      rw [← j4, ← e4]
      try simp (disch := omega) only [i_0, i_1, i_2, i_3, i_4, i_5, i_6, i_7, i_8, i_9, i_10, i_11, i_12, i_13, i_14, i_15, i_16, i_17, i_18, i_19, i_20, i_21, i_22, i_23, i_24, i_25, i_26, i_27, i_31, i_32, i_40, i_42, i_45, i_48, i_51, i_52, i_56, i_58, i_59, i_60, i_61, i_62, i_63, i_64, i_85, i_90, i_100, i_112, i_120, i_121, i_127, i_128, i_130, i_144, i_171, i_192, i_193, i_197, i_200, i_207, i_235, i_240, i_248, i_252, i_254, i_255, i_256, i_512, i_544, i_768, i_769, i_793, i_1000, i_1023, i_1024, i_1200, i_1538, i_1541, i_1545, i_2046, i_2047, i_2049, i_2060, i_2736, i_2737, i_2817, i_2818, i_2819, i_2820, i_2821, i_2831, i_2832, i_3077, i_3085, i_3843, i_3849, i_3851, i_3852, i_4129, i_4353, i_4865, i_5121, i_5122, i_5123, i_6156, i_8192, i_12288, i_16383, i_32000, i_33280, i_49152, i_53247, i_60304, i_64000, i_64512, i_65521, i_65535, i_449838109, nI_add, pk_mul, pk_sub, nI_mm, nI_leI, nI_ltI, nI_eq, pk_div, jrem_N, jshl_N, jshr_N, jushr_N, jmin_N, jmax_N, an_1, an_3, an_7, an_15, an_31, an_63, an_127, an_255, an_1023, an_2047, an_16383, an_65535, nm, pfI, rdI, rdW, rdL, rdI2, rdW2, ldA_N, stA_N, stB_N, stZ_N, pfZ_0, pfZ_1, rtZ_0, rtZ_1, acp_N, Option.bind_some, wp_some_iff, true_and, and_true, false_and, and_false, or_true, true_or, or_false, false_or, not_true_eq_false, not_false_eq_true, if_true, if_false, if_pos, if_neg, lt_sub, le_sub, sub_lt3, sub_le3, Option.bind_assoc]
    have r6 : (setI (setI μ 126 (s * 8 + 7) (nI (lkW wt s v))) 126 (s * 8 + 6) (nI (rwW wt s v))).1 126 (s * 8 + 6) = nI (rwW wt s v) := by simp (disch := omega) only [i_0, i_1, i_2, i_3, i_4, i_5, i_6, i_7, i_8, i_9, i_10, i_11, i_12, i_13, i_14, i_15, i_16, i_17, i_18, i_19, i_20, i_21, i_22, i_23, i_24, i_25, i_26, i_27, i_31, i_32, i_40, i_42, i_45, i_48, i_51, i_52, i_56, i_58, i_59, i_60, i_61, i_62, i_63, i_64, i_85, i_90, i_100, i_112, i_120, i_121, i_127, i_128, i_130, i_144, i_171, i_192, i_193, i_197, i_200, i_207, i_235, i_240, i_248, i_252, i_254, i_255, i_256, i_512, i_544, i_768, i_769, i_793, i_1000, i_1023, i_1024, i_1200, i_1538, i_1541, i_1545, i_2046, i_2047, i_2049, i_2060, i_2736, i_2737, i_2817, i_2818, i_2819, i_2820, i_2821, i_2831, i_2832, i_3077, i_3085, i_3843, i_3849, i_3851, i_3852, i_4129, i_4353, i_4865, i_5121, i_5122, i_5123, i_6156, i_8192, i_12288, i_16383, i_32000, i_33280, i_49152, i_53247, i_60304, i_64000, i_64512, i_65521, i_65535, i_449838109, nI_add, pk_mul, pk_sub, nI_mm, nI_leI, nI_ltI, nI_eq, pk_div, jrem_N, jshl_N, jshr_N, jushr_N, jmin_N, jmax_N, an_1, an_3, an_7, an_15, an_31, an_63, an_127, an_255, an_1023, an_2047, an_16383, an_65535, nm, pfI, rdI, rdW, rdL, rdI2, rdW2, ldA_N, stA_N, stB_N, stZ_N, pfZ_0, pfZ_1, rtZ_0, rtZ_1, acp_N, Option.bind_some, wp_some_iff, true_and, and_true, false_and, and_false, or_true, true_or, or_false, false_or, not_true_eq_false, not_false_eq_true, if_true, if_false, if_pos, if_neg, lt_sub, le_sub, sub_lt3, sub_le3, Option.bind_assoc]
    unfold c49_130
    rw [stA_N (by omega), Option.bind_some]
    unfold lookW rpW
    generalize setI (setI μ 126 (s * 8 + 7) (nI (lkW wt s v))) 126 (s * 8 + 6) (nI (rwW wt s v)) = m2 at *
    generalize lkW wt s v = L at *
    generalize rwW wt s v = R at *
    generalize w1W wt s v = W1 at *
    generalize nt (wt s 0) = S0 at *
    generalize nt (wt s 1) = S1 at *
    generalize nt (wt s 4) = S4 at *
    have k2 := h.fr f2 (fun c k _ => by omega)
    by_cases q1 : R < S4
    · rw [if_pos (Or.inl q1)]
      simp (disch := omega) only [i_0, i_1, i_2, i_3, i_4, i_5, i_6, i_7, i_8, i_9, i_10, i_11, i_12, i_13, i_14, i_15, i_16, i_17, i_18, i_19, i_20, i_21, i_22, i_23, i_24, i_25, i_26, i_27, i_31, i_32, i_40, i_42, i_45, i_48, i_51, i_52, i_56, i_58, i_59, i_60, i_61, i_62, i_63, i_64, i_85, i_90, i_100, i_112, i_120, i_121, i_127, i_128, i_130, i_144, i_171, i_192, i_193, i_197, i_200, i_207, i_235, i_240, i_248, i_252, i_254, i_255, i_256, i_512, i_544, i_768, i_769, i_793, i_1000, i_1023, i_1024, i_1200, i_1538, i_1541, i_1545, i_2046, i_2047, i_2049, i_2060, i_2736, i_2737, i_2817, i_2818, i_2819, i_2820, i_2821, i_2831, i_2832, i_3077, i_3085, i_3843, i_3849, i_3851, i_3852, i_4129, i_4353, i_4865, i_5121, i_5122, i_5123, i_6156, i_8192, i_12288, i_16383, i_32000, i_33280, i_49152, i_53247, i_60304, i_64000, i_64512, i_65521, i_65535, i_449838109, nI_add, pk_mul, pk_sub, nI_mm, nI_leI, nI_ltI, nI_eq, pk_div, jrem_N, jshl_N, jshr_N, jushr_N, jmin_N, jmax_N, an_1, an_3, an_7, an_15, an_31, an_63, an_127, an_255, an_1023, an_2047, an_16383, an_65535, nm, pfI, rdI, rdW, rdL, rdI2, rdW2, ldA_N, stA_N, stB_N, stZ_N, pfZ_0, pfZ_1, rtZ_0, rtZ_1, acp_N, Option.bind_some, wp_some_iff, true_and, and_true, false_and, and_false, or_true, true_or, or_false, false_or, not_true_eq_false, not_false_eq_true, if_true, if_false, if_pos, if_neg, lt_sub, le_sub, sub_lt3, sub_le3, Option.bind_assoc, r0, r4, r6, Nat.add_zero]
      exact ⟨k2, w2, rfl, f2.mono (by intro c k h; omega)⟩
    · by_cases q2 : S0 = L
      · rw [if_pos (Or.inr q2)]
        simp (disch := omega) only [i_0, i_1, i_2, i_3, i_4, i_5, i_6, i_7, i_8, i_9, i_10, i_11, i_12, i_13, i_14, i_15, i_16, i_17, i_18, i_19, i_20, i_21, i_22, i_23, i_24, i_25, i_26, i_27, i_31, i_32, i_40, i_42, i_45, i_48, i_51, i_52, i_56, i_58, i_59, i_60, i_61, i_62, i_63, i_64, i_85, i_90, i_100, i_112, i_120, i_121, i_127, i_128, i_130, i_144, i_171, i_192, i_193, i_197, i_200, i_207, i_235, i_240, i_248, i_252, i_254, i_255, i_256, i_512, i_544, i_768, i_769, i_793, i_1000, i_1023, i_1024, i_1200, i_1538, i_1541, i_1545, i_2046, i_2047, i_2049, i_2060, i_2736, i_2737, i_2817, i_2818, i_2819, i_2820, i_2821, i_2831, i_2832, i_3077, i_3085, i_3843, i_3849, i_3851, i_3852, i_4129, i_4353, i_4865, i_5121, i_5122, i_5123, i_6156, i_8192, i_12288, i_16383, i_32000, i_33280, i_49152, i_53247, i_60304, i_64000, i_64512, i_65521, i_65535, i_449838109, nI_add, pk_mul, pk_sub, nI_mm, nI_leI, nI_ltI, nI_eq, pk_div, jrem_N, jshl_N, jshr_N, jushr_N, jmin_N, jmax_N, an_1, an_3, an_7, an_15, an_31, an_63, an_127, an_255, an_1023, an_2047, an_16383, an_65535, nm, pfI, rdI, rdW, rdL, rdI2, rdW2, ldA_N, stA_N, stB_N, stZ_N, pfZ_0, pfZ_1, rtZ_0, rtZ_1, acp_N, Option.bind_some, wp_some_iff, true_and, and_true, false_and, and_false, or_true, true_or, or_false, false_or, not_true_eq_false, not_false_eq_true, if_true, if_false, if_pos, if_neg, lt_sub, le_sub, sub_lt3, sub_le3, Option.bind_assoc, r0, r4, r6, Nat.add_zero]
        exact ⟨k2, w2, rfl, f2.mono (by intro c k h; omega)⟩
      · rw [if_neg (by omega)]
        simp (disch := omega) only [i_0, i_1, i_2, i_3, i_4, i_5, i_6, i_7, i_8, i_9, i_10, i_11, i_12, i_13, i_14, i_15, i_16, i_17, i_18, i_19, i_20, i_21, i_22, i_23, i_24, i_25, i_26, i_27, i_31, i_32, i_40, i_42, i_45, i_48, i_51, i_52, i_56, i_58, i_59, i_60, i_61, i_62, i_63, i_64, i_85, i_90, i_100, i_112, i_120, i_121, i_127, i_128, i_130, i_144, i_171, i_192, i_193, i_197, i_200, i_207, i_235, i_240, i_248, i_252, i_254, i_255, i_256, i_512, i_544, i_768, i_769, i_793, i_1000, i_1023, i_1024, i_1200, i_1538, i_1541, i_1545, i_2046, i_2047, i_2049, i_2060, i_2736, i_2737, i_2817, i_2818, i_2819, i_2820, i_2821, i_2831, i_2832, i_3077, i_3085, i_3843, i_3849, i_3851, i_3852, i_4129, i_4353, i_4865, i_5121, i_5122, i_5123, i_6156, i_8192, i_12288, i_16383, i_32000, i_33280, i_49152, i_53247, i_60304, i_64000, i_64512, i_65521, i_65535, i_449838109, nI_add, pk_mul, pk_sub, nI_mm, nI_leI, nI_ltI, nI_eq, pk_div, jrem_N, jshl_N, jshr_N, jushr_N, jmin_N, jmax_N, an_1, an_3, an_7, an_15, an_31, an_63, an_127, an_255, an_1023, an_2047, an_16383, an_65535, nm, pfI, rdI, rdW, rdL, rdI2, rdW2, ldA_N, stA_N, stB_N, stZ_N, pfZ_0, pfZ_1, rtZ_0, rtZ_1, acp_N, Option.bind_some, wp_some_iff, true_and, and_true, false_and, and_false, or_true, true_or, or_false, false_or, not_true_eq_false, not_false_eq_true, if_true, if_false, if_pos, if_neg, lt_sub, le_sub, sub_lt3, sub_le3, Option.bind_assoc, r0, r4, r6, Nat.add_zero]
        refine wp_bind (begin_C (sv := 12) (sb := 12) k2.1 (by omega) (by omega)) (fun m3 ⟨a1, a2⟩ => ?_)
        refine wp_bind (pu_ok _ a1 (by rw [bgL_len]; omega)) (fun m4 ⟨b1, b2⟩ => ?_)
        rw [byv_nI (by omega)] at b1
        have f4 : Fr (FB 87) m2 m4 := a2.tr' b2
        have r1' : m4.1 126 (s * 8 + 1) = nI S1 := by rw [f4.1 _ _ (by omega)]; exact r1
        simp (disch := omega) only [i_0, i_1, i_2, i_3, i_4, i_5, i_6, i_7, i_8, i_9, i_10, i_11, i_12, i_13, i_14, i_15, i_16, i_17, i_18, i_19, i_20, i_21, i_22, i_23, i_24, i_25, i_26, i_27, i_31, i_32, i_40, i_42, i_45, i_48, i_51, i_52, i_56, i_58, i_59, i_60, i_61, i_62, i_63, i_64, i_85, i_90, i_100, i_112, i_120, i_121, i_127, i_128, i_130, i_144, i_171, i_192, i_193, i_197, i_200, i_207, i_235, i_240, i_248, i_252, i_254, i_255, i_256, i_512, i_544, i_768, i_769, i_793, i_1000, i_1023, i_1024, i_1200, i_1538, i_1541, i_1545, i_2046, i_2047, i_2049, i_2060, i_2736, i_2737, i_2817, i_2818, i_2819, i_2820, i_2821, i_2831, i_2832, i_3077, i_3085, i_3843, i_3849, i_3851, i_3852, i_4129, i_4353, i_4865, i_5121, i_5122, i_5123, i_6156, i_8192, i_12288, i_16383, i_32000, i_33280, i_49152, i_53247, i_60304, i_64000, i_64512, i_65521, i_65535, i_449838109, nI_add, pk_mul, pk_sub, nI_mm, nI_leI, nI_ltI, nI_eq, pk_div, jrem_N, jshl_N, jshr_N, jushr_N, jmin_N, jmax_N, an_1, an_3, an_7, an_15, an_31, an_63, an_127, an_255, an_1023, an_2047, an_16383, an_65535, nm, pfI, rdI, rdW, rdL, rdI2, rdW2, ldA_N, stA_N, stB_N, stZ_N, pfZ_0, pfZ_1, rtZ_0, rtZ_1, acp_N, Option.bind_some, wp_some_iff, true_and, and_true, false_and, and_false, or_true, true_or, or_false, false_or, not_true_eq_false, not_false_eq_true, if_true, if_false, if_pos, if_neg, lt_sub, le_sub, sub_lt3, sub_le3, Option.bind_assoc, r1']
        refine wp_bind (pu_ok _ b1 (by rw [List.length_append, bgL_len]; show 13 + 1 < _; omega)) (fun m5 ⟨c1, c2⟩ => ?_)
        rw [byv_nI (by omega)] at c1
        refine wp_bind (p4_ok _ c1 (by rw [List.length_append, List.length_append, bgL_len]; show 13 + 1 + 1 + 4 ≤ _; omega)) (fun m6 ⟨d1, d2⟩ => ?_)
        refine wp_bind (pu_ok _ d1 (by rw [List.length_append, List.length_append, List.length_append, bgL_len, lowB_len]; show 13 + 1 + 1 + 4 < _; omega)) (fun m7 ⟨n1, n2⟩ => ?_)
        rw [byv_nI (by omega)] at n1
        refine wp_bind (pu_ok _ n1 (by rw [List.length_append, List.length_append, List.length_append, List.length_append, bgL_len, lowB_len]; show 13 + 1 + 1 + 4 + 1 < _; omega)) (fun m8 ⟨o1, o2⟩ => ?_)
        rw [byv_nI (by omega)] at o1
        have f8 : Fr (FB 87) m2 m8 := (((f4.tr' c2).tr' d2).tr' n2).tr' o2
        simp only [List.append_assoc] at o1
        refine wp_bind (finish_C (sv := 12) (sb := 12) (k2.1.fr f8 (fun c k _ => by omega)) hK.1 o1 (by omega) (by omega) (by simp only [List.length_append, lowB_len, List.length_singleton]; decide)) (fun m9 ⟨p1, p2, p3⟩ => ?_)
        have f9 : Fr FMk m2 m9 := f8.tr p3 (by intro c k h; omega) (fun _ _ q => q)
        have k9 := k2.mk p1 p2 f9
        have w9 := w2.fr f9 (fun k => by omega)
        have f10 : Fr (fun c _ => c = 126) m9 (setI m9 126 (s * 8) (nI L)) := Fr.sI rfl
        have k10 := k9.fr f10 (fun c k _ => by omega)
        have w10 := w9.up (s := s) (k := 0) (j := s * 8) (v := nI L) (by omega) (by omega)
        have fx : Fr FWc μ (setI m9 126 (s * 8) (nI L)) := (((f2.mono (P := FWc) (by intro c k h; omega)).tr f9 (fun _ _ q => q) (by intro c k h; omega))).tr f10 (fun _ _ q => q) (by intro c k h; omega)
        by_cases q3 : L = 3
        · rw [decide_eq_false (fun z => z q3)]
          rw [if_pos q3]
          exact wp_some ⟨k10, w10, rfl, fx⟩
        · rw [decide_eq_true q3]
          rw [if_neg q3]
          exact wp_some ⟨k10, w10, rfl, fx⟩
  have kC : wp (c49_50 (nI s) v (nI (s * 8)) (nI (lkW wt s v)) μ) (fun r => KC r.1 (lookW k wt s v).1.1 ∧ WtC r.1 (lookW k wt s v).1.2 ∧ r.2 = nI (b2n (lookW k wt s v).2) ∧ Fr FWc μ r.1) := by
    unfold c49_50 c49_82 c49_83
    by_cases q6 : wt s 6 = nI 0
    · have hrw : rwW wt s v = 1 := by unfold rwW; rw [if_pos q6]
      rw [hrw] at kD
      rw [q6] at e6
      simp (disch := omega) only [i_0, i_1, i_2, i_3, i_4, i_5, i_6, i_7, i_8, i_9, i_10, i_11, i_12, i_13, i_14, i_15, i_16, i_17, i_18, i_19, i_20, i_21, i_22, i_23, i_24, i_25, i_26, i_27, i_31, i_32, i_40, i_42, i_45, i_48, i_51, i_52, i_56, i_58, i_59, i_60, i_61, i_62, i_63, i_64, i_85, i_90, i_100, i_112, i_120, i_121, i_127, i_128, i_130, i_144, i_171, i_192, i_193, i_197, i_200, i_207, i_235, i_240, i_248, i_252, i_254, i_255, i_256, i_512, i_544, i_768, i_769, i_793, i_1000, i_1023, i_1024, i_1200, i_1538, i_1541, i_1545, i_2046, i_2047, i_2049, i_2060, i_2736, i_2737, i_2817, i_2818, i_2819, i_2820, i_2821, i_2831, i_2832, i_3077, i_3085, i_3843, i_3849, i_3851, i_3852, i_4129, i_4353, i_4865, i_5121, i_5122, i_5123, i_6156, i_8192, i_12288, i_16383, i_32000, i_33280, i_49152, i_53247, i_60304, i_64000, i_64512, i_65521, i_65535, i_449838109, nI_add, pk_mul, pk_sub, nI_mm, nI_leI, nI_ltI, nI_eq, pk_div, jrem_N, jshl_N, jshr_N, jushr_N, jmin_N, jmax_N, an_1, an_3, an_7, an_15, an_31, an_63, an_127, an_255, an_1023, an_2047, an_16383, an_65535, nm, pfI, rdI, rdW, rdL, rdI2, rdW2, ldA_N, stA_N, stB_N, stZ_N, pfZ_0, pfZ_1, rtZ_0, rtZ_1, acp_N, Option.bind_some, wp_some_iff, true_and, and_true, false_and, and_false, or_true, true_or, or_false, false_or, not_true_eq_false, not_false_eq_true, if_true, if_false, if_pos, if_neg, lt_sub, le_sub, sub_lt3, sub_le3, Option.bind_assoc, e6]
      exact kD
    · have n6 : 1 ≤ nt (wt s 6) := by
        by_cases z : nt (wt s 6) = 0
        · rw [z] at j6; exact absurd j6 q6
        · omega
      rw [j6] at e6
      by_cases q7 : wt s 7 = nI (lkW wt s v)
      · have hrw : rwW wt s v = min (nt (wt s 6) + 1) 255 := by unfold rwW; rw [if_neg q6, if_pos q7]
        rw [hrw] at kD
        simp (disch := omega) only [i_0, i_1, i_2, i_3, i_4, i_5, i_6, i_7, i_8, i_9, i_10, i_11, i_12, i_13, i_14, i_15, i_16, i_17, i_18, i_19, i_20, i_21, i_22, i_23, i_24, i_25, i_26, i_27, i_31, i_32, i_40, i_42, i_45, i_48, i_51, i_52, i_56, i_58, i_59, i_60, i_61, i_62, i_63, i_64, i_85, i_90, i_100, i_112, i_120, i_121, i_127, i_128, i_130, i_144, i_171, i_192, i_193, i_197, i_200, i_207, i_235, i_240, i_248, i_252, i_254, i_255, i_256, i_512, i_544, i_768, i_769, i_793, i_1000, i_1023, i_1024, i_1200, i_1538, i_1541, i_1545, i_2046, i_2047, i_2049, i_2060, i_2736, i_2737, i_2817, i_2818, i_2819, i_2820, i_2821, i_2831, i_2832, i_3077, i_3085, i_3843, i_3849, i_3851, i_3852, i_4129, i_4353, i_4865, i_5121, i_5122, i_5123, i_6156, i_8192, i_12288, i_16383, i_32000, i_33280, i_49152, i_53247, i_60304, i_64000, i_64512, i_65521, i_65535, i_449838109, nI_add, pk_mul, pk_sub, nI_mm, nI_leI, nI_ltI, nI_eq, pk_div, jrem_N, jshl_N, jshr_N, jushr_N, jmin_N, jmax_N, an_1, an_3, an_7, an_15, an_31, an_63, an_127, an_255, an_1023, an_2047, an_16383, an_65535, nm, pfI, rdI, rdW, rdL, rdI2, rdW2, ldA_N, stA_N, stB_N, stZ_N, pfZ_0, pfZ_1, rtZ_0, rtZ_1, acp_N, Option.bind_some, wp_some_iff, true_and, and_true, false_and, and_false, or_true, true_or, or_false, false_or, not_true_eq_false, not_false_eq_true, if_true, if_false, if_pos, if_neg, lt_sub, le_sub, sub_lt3, sub_le3, Option.bind_assoc, e6, e7, q7]
        exact kD
      · have hrw : rwW wt s v = 1 := by unfold rwW; rw [if_neg q6, if_neg q7]
        rw [hrw] at kD
        simp (disch := omega) only [i_0, i_1, i_2, i_3, i_4, i_5, i_6, i_7, i_8, i_9, i_10, i_11, i_12, i_13, i_14, i_15, i_16, i_17, i_18, i_19, i_20, i_21, i_22, i_23, i_24, i_25, i_26, i_27, i_31, i_32, i_40, i_42, i_45, i_48, i_51, i_52, i_56, i_58, i_59, i_60, i_61, i_62, i_63, i_64, i_85, i_90, i_100, i_112, i_120, i_121, i_127, i_128, i_130, i_144, i_171, i_192, i_193, i_197, i_200, i_207, i_235, i_240, i_248, i_252, i_254, i_255, i_256, i_512, i_544, i_768, i_769, i_793, i_1000, i_1023, i_1024, i_1200, i_1538, i_1541, i_1545, i_2046, i_2047, i_2049, i_2060, i_2736, i_2737, i_2817, i_2818, i_2819, i_2820, i_2821, i_2831, i_2832, i_3077, i_3085, i_3843, i_3849, i_3851, i_3852, i_4129, i_4353, i_4865, i_5121, i_5122, i_5123, i_6156, i_8192, i_12288, i_16383, i_32000, i_33280, i_49152, i_53247, i_60304, i_64000, i_64512, i_65521, i_65535, i_449838109, nI_add, pk_mul, pk_sub, nI_mm, nI_leI, nI_ltI, nI_eq, pk_div, jrem_N, jshl_N, jshr_N, jushr_N, jmin_N, jmax_N, an_1, an_3, an_7, an_15, an_31, an_63, an_127, an_255, an_1023, an_2047, an_16383, an_65535, nm, pfI, rdI, rdW, rdL, rdI2, rdW2, ldA_N, stA_N, stB_N, stZ_N, pfZ_0, pfZ_1, rtZ_0, rtZ_1, acp_N, Option.bind_some, wp_some_iff, true_and, and_true, false_and, and_false, or_true, true_or, or_false, false_or, not_true_eq_false, not_false_eq_true, if_true, if_false, if_pos, if_neg, lt_sub, le_sub, sub_lt3, sub_le3, Option.bind_assoc, e6, e7, q7]
        exact kD
  unfold f49
  by_cases q2 : wt s 2 ≤ v
  · by_cases q3 : v ≤ wt s 3
    · have hL : lkW wt s v = 3 := by unfold lkW; rw [if_pos q2, if_pos q3]
      rw [hL] at kC
      simp (disch := omega) only [i_0, i_1, i_2, i_3, i_4, i_5, i_6, i_7, i_8, i_9, i_10, i_11, i_12, i_13, i_14, i_15, i_16, i_17, i_18, i_19, i_20, i_21, i_22, i_23, i_24, i_25, i_26, i_27, i_31, i_32, i_40, i_42, i_45, i_48, i_51, i_52, i_56, i_58, i_59, i_60, i_61, i_62, i_63, i_64, i_85, i_90, i_100, i_112, i_120, i_121, i_127, i_128, i_130, i_144, i_171, i_192, i_193, i_197, i_200, i_207, i_235, i_240, i_248, i_252, i_254, i_255, i_256, i_512, i_544, i_768, i_769, i_793, i_1000, i_1023, i_1024, i_1200, i_1538, i_1541, i_1545, i_2046, i_2047, i_2049, i_2060, i_2736, i_2737, i_2817, i_2818, i_2819, i_2820, i_2821, i_2831, i_2832, i_3077, i_3085, i_3843, i_3849, i_3851, i_3852, i_4129, i_4353, i_4865, i_5121, i_5122, i_5123, i_6156, i_8192, i_12288, i_16383, i_32000, i_33280, i_49152, i_53247, i_60304, i_64000, i_64512, i_65521, i_65535, i_449838109, nI_add, pk_mul, pk_sub, nI_mm, nI_leI, nI_ltI, nI_eq, pk_div, jrem_N, jshl_N, jshr_N, jushr_N, jmin_N, jmax_N, an_1, an_3, an_7, an_15, an_31, an_63, an_127, an_255, an_1023, an_2047, an_16383, an_65535, nm, pfI, rdI, rdW, rdL, rdI2, rdW2, ldA_N, stA_N, stB_N, stZ_N, pfZ_0, pfZ_1, rtZ_0, rtZ_1, acp_N, Option.bind_some, wp_some_iff, true_and, and_true, false_and, and_false, or_true, true_or, or_false, false_or, not_true_eq_false, not_false_eq_true, if_true, if_false, if_pos, if_neg, lt_sub, le_sub, sub_lt3, sub_le3, Option.bind_assoc, e2, e3, q2, q3]
      exact kC
    · have hL : lkW wt s v = 5 := by unfold lkW; rw [if_pos q2, if_neg q3]
      rw [hL] at kC
      simp (disch := omega) only [i_0, i_1, i_2, i_3, i_4, i_5, i_6, i_7, i_8, i_9, i_10, i_11, i_12, i_13, i_14, i_15, i_16, i_17, i_18, i_19, i_20, i_21, i_22, i_23, i_24, i_25, i_26, i_27, i_31, i_32, i_40, i_42, i_45, i_48, i_51, i_52, i_56, i_58, i_59, i_60, i_61, i_62, i_63, i_64, i_85, i_90, i_100, i_112, i_120, i_121, i_127, i_128, i_130, i_144, i_171, i_192, i_193, i_197, i_200, i_207, i_235, i_240, i_248, i_252, i_254, i_255, i_256, i_512, i_544, i_768, i_769, i_793, i_1000, i_1023, i_1024, i_1200, i_1538, i_1541, i_1545, i_2046, i_2047, i_2049, i_2060, i_2736, i_2737, i_2817, i_2818, i_2819, i_2820, i_2821, i_2831, i_2832, i_3077, i_3085, i_3843, i_3849, i_3851, i_3852, i_4129, i_4353, i_4865, i_5121, i_5122, i_5123, i_6156, i_8192, i_12288, i_16383, i_32000, i_33280, i_49152, i_53247, i_60304, i_64000, i_64512, i_65521, i_65535, i_449838109, nI_add, pk_mul, pk_sub, nI_mm, nI_leI, nI_ltI, nI_eq, pk_div, jrem_N, jshl_N, jshr_N, jushr_N, jmin_N, jmax_N, an_1, an_3, an_7, an_15, an_31, an_63, an_127, an_255, an_1023, an_2047, an_16383, an_65535, nm, pfI, rdI, rdW, rdL, rdI2, rdW2, ldA_N, stA_N, stB_N, stZ_N, pfZ_0, pfZ_1, rtZ_0, rtZ_1, acp_N, Option.bind_some, wp_some_iff, true_and, and_true, false_and, and_false, or_true, true_or, or_false, false_or, not_true_eq_false, not_false_eq_true, if_true, if_false, if_pos, if_neg, lt_sub, le_sub, sub_lt3, sub_le3, Option.bind_assoc, e2, e3, q2, q3]
      exact kC
  · have hL : lkW wt s v = 4 := by unfold lkW; rw [if_neg q2]
    rw [hL] at kC
    simp (disch := omega) only [i_0, i_1, i_2, i_3, i_4, i_5, i_6, i_7, i_8, i_9, i_10, i_11, i_12, i_13, i_14, i_15, i_16, i_17, i_18, i_19, i_20, i_21, i_22, i_23, i_24, i_25, i_26, i_27, i_31, i_32, i_40, i_42, i_45, i_48, i_51, i_52, i_56, i_58, i_59, i_60, i_61, i_62, i_63, i_64, i_85, i_90, i_100, i_112, i_120, i_121, i_127, i_128, i_130, i_144, i_171, i_192, i_193, i_197, i_200, i_207, i_235, i_240, i_248, i_252, i_254, i_255, i_256, i_512, i_544, i_768, i_769, i_793, i_1000, i_1023, i_1024, i_1200, i_1538, i_1541, i_1545, i_2046, i_2047, i_2049, i_2060, i_2736, i_2737, i_2817, i_2818, i_2819, i_2820, i_2821, i_2831, i_2832, i_3077, i_3085, i_3843, i_3849, i_3851, i_3852, i_4129, i_4353, i_4865, i_5121, i_5122, i_5123, i_6156, i_8192, i_12288, i_16383, i_32000, i_33280, i_49152, i_53247, i_60304, i_64000, i_64512, i_65521, i_65535, i_449838109, nI_add, pk_mul, pk_sub, nI_mm, nI_leI, nI_ltI, nI_eq, pk_div, jrem_N, jshl_N, jshr_N, jushr_N, jmin_N, jmax_N, an_1, an_3, an_7, an_15, an_31, an_63, an_127, an_255, an_1023, an_2047, an_16383, an_65535, nm, pfI, rdI, rdW, rdL, rdI2, rdW2, ldA_N, stA_N, stB_N, stZ_N, pfZ_0, pfZ_1, rtZ_0, rtZ_1, acp_N, Option.bind_some, wp_some_iff, true_and, and_true, false_and, and_false, or_true, true_or, or_false, false_or, not_true_eq_false, not_false_eq_true, if_true, if_false, if_pos, if_neg, lt_sub, le_sub, sub_lt3, sub_le3, Option.bind_assoc, e2, q2]
    exact kC
