/-! ===== requests are run ===== -/
theorem offS_c (y : Sto) (tk : Nat) (p : List Nat) (w : Nat) : (offS y tk p w).2.1 = y.2.1 := by
  unfold offS addS
  repeat' split
  all_goals rfl
theorem whyB_mk {b : Bw} {bs d : List Nat} {sv sb : Nat} {z : (Nat → Int32) × List Pk} : whyB ((makeW b.1.1 sv sb d, z), b.2) bs = whyB b bs := by
  unfold whyB
  have h15 : why15 (makeW b.1.1 sv sb d) b.2.2.2.2.2.2 bs = why15 b.1.1 b.2.2.2.2.2.2 bs := by
    have e : ∀ s, (stoG (makeW b.1.1 sv sb d) s).2.1 = (stoG b.1.1 s).2.1 := by
      intro s
      unfold stoG makeW
      dsimp only
      split
      · exact offS_c _ _ _ _
      · exact offS_c _ _ _ _
    unfold why15
    rw [e]
  dsimp only
  rw [h15]
  rfl
theorem finB_I {b : Bw} {bs : List Nat} (hKI : KI b.1) (hXI : XI b.2) (hb : ∀ c, c ∈ bs → c < 256) (hP : Pkg bs) (hw : whyB b bs = 0) : KI (finB (actB b bs)).1 ∧ XI (finB (actB b bs)).2 := by
  obtain ⟨x1, x2, x3, x4, x5, x6⟩ := hXI
  have mk : ∀ sv sb d, d.length ≤ 67 → KI (finB (b, some (sv, sb, d))).1 ∧ XI (finB (b, some (sv, sb, d))).2 := fun sv sb d hd => ⟨⟨makeW_I hKI.1 hd, hKI.2.1, hKI.2.2⟩, x1, x2, x3, x4, x5, x6⟩
  unfold whyB at hw
  unfold actB
  rcases hP.sv with h7 | h7 | h7 | h7 | h7 | h7 | h7 | h7 | h7 | h7
  · rw [if_pos h7] at hw ⊢
    by_cases q : bs.getD 8 0 = 27
    · rw [if_pos q]
      have := repS_len (k := b.1) (en := enB b) x2 (why3_s hw)
      exact mk _ _ _ (by omega)
    · rw [if_neg q]
      exact ⟨hKI, x1, act3_I x2 hP h7 hw, x3, x4, x5, x6⟩
  · rw [if_neg (by omega), if_pos h7]
    exact ⟨hKI, x1, x2, x3, x4, x5, x6⟩
  · rw [if_neg (by omega), if_neg (by omega), if_pos h7]
    by_cases q : bs.getD 8 0 = 2
    · rw [if_pos q]
      exact ⟨hKI, by show (mset b.2.1 _ _ _).length = 1024; rw [mset_len]; exact x1, x2, x3, x4, x5, x6⟩
    · rw [if_neg q]
      exact mk _ _ _ (rep6_len x1 hP h7)
  · rw [if_neg (by omega), if_neg (by omega), if_neg (by omega), if_pos h7]
    by_cases q : bs.getD 11 0 = 1
    · rw [if_pos q]
      exact ⟨hKI, x1, x2, x3, x4, x5, x6⟩
    · rw [if_neg q]
      exact ⟨hKI, x1, x2, x3, x4, x5, x6⟩
  · rw [if_neg (by omega), if_neg (by omega), if_neg (by omega), if_neg (by omega), if_pos h7] at hw ⊢
    by_cases q : bs.getD 8 0 = 16
    · rw [if_pos q]
      refine mk _ _ _ ?_
      unfold rp11
      rw [List.length_append, rep11_len, List.length_singleton]
      omega
    · rw [if_neg q]
      exact ⟨hKI, x1, x2, x3, x4, act11_I x5 hb hP h7 hw, x6⟩
  · rw [if_neg (by omega), if_neg (by omega), if_neg (by omega), if_neg (by omega), if_neg (by omega), if_pos h7] at hw ⊢
    by_cases q : bs.getD 8 0 = 13
    · rw [if_pos q]
      exact mk _ _ _ (by rw [rep12_len]; decide)
    · rw [if_neg q]
      exact ⟨hKI, x1, x2, act12_I x3 hb q hw, x4, x5, x6⟩
  · rw [if_neg (by omega), if_neg (by omega), if_neg (by omega), if_neg (by omega), if_neg (by omega), if_neg (by omega), if_pos h7] at hw ⊢
    obtain ⟨w1, _, _⟩ := why15_s hw
    have hs := hP.s15 h7
    have stI := hKI.1.g w1
    have fin : ∀ y, StI b.1.1.1 y → KI (stoP b.1.1 (bs.getD 11 0) y, b.1.2) ∧ XI b.2 := fun y hy => ⟨⟨hKI.1.p w1 hy, hKI.2.1, hKI.2.2⟩, x1, x2, x3, x4, x5, x6⟩
    by_cases q1 : bs.getD 8 0 = 1
    · rw [if_pos q1]; exact fin _ (onS_I stI (Or.inr rfl))
    · rw [if_neg q1]
      by_cases q2 : bs.getD 8 0 = 2
      · rw [if_pos q2]; exact fin _ (onS_I stI (Or.inl rfl))
      · rw [if_neg q2]
        by_cases q3 : bs.getD 8 0 = 3
        · rw [if_pos q3]; exact fin _ (chS_I stI)
        · rw [if_neg q3]
          by_cases q9 : bs.getD 8 0 = 9
          · rw [if_pos q9]; exact ⟨hKI, x1, x2, x3, x4, x5, paW_P stI.2.2⟩
          · rw [if_neg q9]
            by_cases q11 : bs.getD 8 0 = 11
            · rw [if_pos q11]
              exact fin _ ⟨stI.1, stI.2.1, kpU_I (by have := hKI.1.1; omega) _ _ rfl stI.2.2⟩
            · rw [if_neg q11]; exact fin _ (rsS_I (by omega))
  · rw [if_neg (by omega), if_neg (by omega), if_neg (by omega), if_neg (by omega), if_neg (by omega), if_neg (by omega), if_neg (by omega), if_pos h7]
    exact mk _ _ _ (by decide)
  · rw [if_neg (by omega), if_neg (by omega), if_neg (by omega), if_neg (by omega), if_neg (by omega), if_neg (by omega), if_neg (by omega), if_pos h7] at hw
    rw [if_neg (by omega), if_neg (by omega), if_neg (by omega), if_neg (by omega), if_neg (by omega), if_neg (by omega), if_neg (by omega), if_neg (by omega), if_pos h7]
    exact ⟨hKI, x1, x2, x3, act19_I x4 hP h7 hw, x5, x6⟩
  · rw [if_neg (by omega), if_neg (by omega), if_neg (by omega), if_neg (by omega), if_neg (by omega), if_neg (by omega), if_neg (by omega), if_neg (by omega), if_neg (by omega)]
    have hs := hP.s20 h7
    by_cases q : bs.getD 8 0 = 3
    · rw [if_pos q]
      exact ⟨hKI, x1, x2, x3, x4, x5, x6⟩
    · rw [if_neg q]
      refine mk _ _ _ ?_
      unfold rep20
      rw [List.length_append, vlN_len, List.length_singleton]
      omega
theorem doB_I {b : Bw} {bs : List Nat} {dep : Nat} (hKI : KI b.1) (hXI : XI b.2) (hb : ∀ c, c ∈ bs → c < 256) (hP : Pkg bs) (hw : whyB b bs = 0) : KI (doB b bs dep).1 ∧ XI (doB b bs dep).2 := by
  unfold doB
  split
  · exact ⟨hapW_I hKI hXI.2.2.2.1, hXI⟩
  · exact finB_I hKI hXI hb hP hw
def rq1 (k : Kw) : Kw := (k.1, k.2.1, k.2.2.eraseIdx 0)
def ak3 (k : Kw) (bs : List Nat) : Kw := if bs.getD 6 0 / 4 % 2 = 0 then k else (makeW k.1 1 3 (repL bs 0), k.2)
def ak7 (k : Kw) (bs : List Nat) : Kw := if bs.getD 6 0 % 2 = 0 then k else (makeW k.1 1 7 (repL bs 0), k.2)
def flK (k : Kw) (bs : List Nat) (sb c : Nat) : Kw := (makeW k.1 1 sb (repL bs c), upL k.2.1 19 (k.2.1 19 + nI 1), k.2.2)
def suK (k : Kw) : Kw := (k.1, upL k.2.1 20 (k.2.1 20 + nI 1), k.2.2)
def runB (k : Kw) (x : Xw) (bs : List Nat) (dep : Nat) : Bw :=
  if whyB (k, x) bs = 0 then
    (if bs.getD 7 0 = 8 ∧ bs.getD 11 0 = 2 then (flK (ak3 k bs) bs 8 16, x)
    else (suK (ak7 (doB (ak3 k bs, x) bs dep).1 bs), (doB (ak3 k bs, x) bs dep).2))
  else (flK k bs 4 (whyB (k, x) bs), x)
def runR (b : Bw) : Bw := runB (rq1 b.1) b.2 (pk b.1.2.2 0).1 (nt (pk b.1.2.2 0).2.1)
theorem repL_67 (bs : List Nat) (c : Nat) : (repL bs c).length ≤ 67 := by
  have := repL_len bs c
  omega
theorem ak3_I {k : Kw} {bs : List Nat} (h : KI k) : KI (ak3 k bs) := by
  unfold ak3
  split
  · exact h
  · exact ⟨makeW_I h.1 (repL_67 _ _), h.2.1, h.2.2⟩
theorem ak7_I {k : Kw} {bs : List Nat} (h : KI k) : KI (ak7 k bs) := by
  unfold ak7
  split
  · exact h
  · exact ⟨makeW_I h.1 (repL_67 _ _), h.2.1, h.2.2⟩
theorem flK_I {k : Kw} {bs : List Nat} {sb c : Nat} (h : KI k) : KI (flK k bs sb c) := ⟨makeW_I h.1 (repL_67 _ _), h.2.1, h.2.2⟩
theorem suK_I {k : Kw} (h : KI k) : KI (suK k) := h
theorem why_ak3 {k : Kw} {x : Xw} {bs bs2 : List Nat} : whyB (ak3 k bs2, x) bs = whyB (k, x) bs := by
  unfold ak3
  split
  · rfl
  · exact whyB_mk (b := (k, x))
theorem runB_I {k : Kw} {x : Xw} {bs : List Nat} {dep : Nat} (hKI : KI k) (hXI : XI x) (hb : ∀ c, c ∈ bs → c < 256) (hP : Pkg bs) : KI (runB k x bs dep).1 ∧ XI (runB k x bs dep).2 := by
  unfold runB
  by_cases q : whyB (k, x) bs = 0
  · rw [if_pos q]
    by_cases q2 : bs.getD 7 0 = 8 ∧ bs.getD 11 0 = 2
    · rw [if_pos q2]
      exact ⟨flK_I (ak3_I hKI), hXI⟩
    · rw [if_neg q2]
      have := doB_I (b := (ak3 k bs, x)) (dep := dep) (ak3_I hKI) hXI hb hP (why_ak3.trans q)
      exact ⟨suK_I (ak7_I this.1), this.2⟩
  · rw [if_neg q]
    exact ⟨flK_I hKI, hXI⟩
theorem rq1_I {k : Kw} (h : KI k) (h0 : 0 < k.2.2.length) : KI (rq1 k) := by
  have hl : (k.2.2.eraseIdx 0).length = k.2.2.length - 1 := List.length_eraseIdx_of_lt h0
  have h8 := h.2.1
  refine ⟨h.1, by show (k.2.2.eraseIdx 0).length ≤ 8; omega, fun i hi => ?_⟩
  have hi' : i < k.2.2.length - 1 := by rw [← hl]; exact hi
  show Pkg (pk (k.2.2.eraseIdx 0) i).1 ∧ (∃ d, d ≤ 4 ∧ (pk (k.2.2.eraseIdx 0) i).2.1 = nI d) ∧ (pk (k.2.2.eraseIdx 0) i).2.2 = nI 0
  rw [pk_era, if_neg (by omega)]
  exact h.2.2 (i + 1) (by omega)
