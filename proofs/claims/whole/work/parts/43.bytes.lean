/-! ===== Bytes: reading ===== -/
theorem nx_or {a b : Nat} : nI a ||| nI b = nI (a ||| b) := by
  apply Int32.toBitVec_inj.mp
  show BitVec.ofNat 32 a ||| BitVec.ofNat 32 b = BitVec.ofNat 32 (a ||| b)
  apply BitVec.eq_of_getLsbD_eq
  intro i hi
  simp [hi]
theorem or_add {x y : Nat} (k : Nat) (hy : y < 2 ^ k) : (x * 2 ^ k) ||| y = x * 2 ^ k + y := by
  have := Nat.two_pow_add_eq_or_of_lt (i := k) (b := y) hy x
  rw [Nat.mul_comm] at this
  exact this.symm
theorem Byt.get {μ : Mem} {a : Nat} {bs : List Nat} (h : Byt μ a bs) (k : Nat) : bs.getD k 0 < 256 := by
  by_cases hk : k < bs.length
  · rw [List.getD_eq_getElem?_getD, List.getElem?_eq_getElem hk]
    exact h.2.2.2 _ (List.getElem_mem hk)
  · rw [List.getD_eq_getElem?_getD, List.getElem?_eq_none_iff.mpr (by omega)]
    decide
theorem Byt.len {μ : Mem} {a : Nat} {bs : List Nat} (h : Byt μ a bs) : bs.length < 2 ^ 31 := Nat.lt_of_le_of_lt h.2.1 (gln_le _)
theorem at_ok {μ : Mem} {a k : Nat} {bs : List Nat} (h : Byt μ a bs) (hk : k < 2 ^ 31) : f75 a (nI k) μ = some (μ, nI (bs.getD k 0)) := by
  unfold f75
  rw [if_neg (nI_pos hk), h.1]
  by_cases hl : k < bs.length
  · rw [if_neg (fun q => absurd ((nI_leI h.len hk).mp q) (by omega))]
    unfold ldA
    rw [if_pos (inb_nI (Nat.lt_of_lt_of_le hl h.2.1) (gln_le _)), nI_clamp hk, Option.bind_some, h.2.2.1 k hl, (sb_byte _ (h.get k)).1]
  · rw [if_pos ((nI_leI h.len hk).mpr (by omega)), List.getD_eq_getElem?_getD, List.getElem?_eq_none_iff.mpr (by omega)]
    rfl
theorem two_ok {μ : Mem} {a k : Nat} {bs : List Nat} (h : Byt μ a bs) (hk : k + 1 < 2 ^ 31) : f76 a (nI k) μ = some (μ, nI (256 * bs.getD k 0 + bs.getD (k + 1) 0)) := by
  have g1 := h.get k
  have g2 := h.get (k + 1)
  unfold f76
  rw [at_ok h (by omega), Option.bind_some]
  dsimp only
  rw [nI_1, at_ok h hk, Option.bind_some]
  dsimp only
  rw [show jshl (nI (bs.getD k 0)) 8 = nI (bs.getD k 0 * 2 ^ 8) from pk_shlN _ 8 (by decide) (by omega), nx_or, or_add 8 g2]
  congr 3
  omega
def w4 (a b c d : Nat) : Nat := ((a * 256 + b) * 256 + c) * 256 + d
theorem four_ok {μ : Mem} {a k : Nat} {bs : List Nat} (h : Byt μ a bs) (hk : k + 3 < 2 ^ 31) : f77 a (nI k) μ = some (μ, nI (w4 (bs.getD k 0) (bs.getD (k + 1) 0) (bs.getD (k + 2) 0) (bs.getD (k + 3) 0))) := by
  have g1 := h.get k
  have g2 := h.get (k + 1)
  have g3 := h.get (k + 2)
  have g4 := h.get (k + 3)
  unfold f77
  rw [at_ok h (by omega), Option.bind_some]
  dsimp only
  rw [nI_1, at_ok h (by omega), Option.bind_some]
  dsimp only
  rw [lit 2, nI_add, at_ok h (by omega), Option.bind_some]
  dsimp only
  rw [lit 3, nI_add, at_ok h (by omega), Option.bind_some]
  dsimp only
  rw [show jshl (nI (bs.getD k 0)) 24 = nI (bs.getD k 0 * 2 ^ 24) from pk_shlN _ 24 (by decide) (by omega), show jshl (nI (bs.getD (k + 1) 0)) 16 = nI (bs.getD (k + 1) 0 * 2 ^ 16) from pk_shlN _ 16 (by decide) (by omega), show jshl (nI (bs.getD (k + 2) 0)) 8 = nI (bs.getD (k + 2) 0 * 2 ^ 8) from pk_shlN _ 8 (by decide) (by omega), nx_or, nx_or, nx_or]
  have e1 : bs.getD k 0 * 2 ^ 24 ||| bs.getD (k + 1) 0 * 2 ^ 16 = (bs.getD k 0 * 256 + bs.getD (k + 1) 0) * 2 ^ 16 := by
    rw [or_add 24 (by omega)]
    omega
  rw [e1]
  have e2 : (bs.getD k 0 * 256 + bs.getD (k + 1) 0) * 2 ^ 16 ||| bs.getD (k + 2) 0 * 2 ^ 8 = ((bs.getD k 0 * 256 + bs.getD (k + 1) 0) * 256 + bs.getD (k + 2) 0) * 2 ^ 8 := by
    rw [or_add 16 (by omega)]
    omega
  rw [e2, or_add 8 g4]
  rfl
/-! ===== Bytes: writing ===== -/
theorem putTwo_ok {a : Nat} {bs : List Nat} {μ : Mem} (v : Int32) (h : Byt μ a bs) (hc : bs.length + 2 ≤ gln (a + 1)) : wp (f66 a v μ) (fun m => Byt m a (bs ++ [byv (jshr v 8), byv v]) ∧ Off [a, a + 1] μ m) := by
  unfold f66
  refine wp_bind (put_ok _ h (by omega)) (fun m1 h1 => ?_)
  refine wp_bind (put_ok _ h1.1 (by rw [List.length_append]; show bs.length + 1 < _; omega)) (fun m2 h2 => wp_some ?_)
  rw [List.append_assoc] at h2
  exact ⟨h2.1, h1.2.tr h2.2 (fun c hc => hc)⟩
theorem putFour_ok {a : Nat} {bs : List Nat} {μ : Mem} (v : Int32) (h : Byt μ a bs) (hc : bs.length + 4 ≤ gln (a + 1)) : wp (f67 a v μ) (fun m => Byt m a (bs ++ [byv (jshr v 24), byv (jshr v 16), byv (jshr v 8), byv v]) ∧ Off [a, a + 1] μ m) := by
  unfold f67
  refine wp_bind (put_ok _ h (by omega)) (fun m1 h1 => ?_)
  refine wp_bind (put_ok _ h1.1 (by rw [List.length_append]; show bs.length + 1 < _; omega)) (fun m2 h2 => ?_)
  rw [List.append_assoc] at h2
  refine wp_bind (put_ok _ h2.1 (by rw [List.length_append]; show bs.length + 2 < _; omega)) (fun m3 h3 => ?_)
  rw [List.append_assoc] at h3
  refine wp_bind (put_ok _ h3.1 (by rw [List.length_append]; show bs.length + 3 < _; omega)) (fun m4 h4 => wp_some ?_)
  rw [List.append_assoc] at h4
  exact ⟨h4.1, ((h1.2.tr h2.2 (fun c hc => hc)).tr h3.2 (fun c hc => hc)).tr h4.2 (fun c hc => hc)⟩
theorem putMany_ok {a : Nat} {bs : List Nat} {μ : Mem} (v : Int32) (n : Nat) (h : Byt μ a bs) (hc : bs.length + n ≤ gln (a + 1)) (hn : n < 70000) : wp (f69 a v (nI n) μ) (fun m => Byt m a (bs ++ List.replicate n (byv v)) ∧ Off [a, a + 1] μ m) := by
  unfold f69 l69_2
  refine wp_loop (I := fun i x => x.1 = v ∧ x.2.1 = nI n ∧ x.2.2.1 = nI i ∧ Byt x.2.2.2 a (bs ++ List.replicate i (byv v)) ∧ Off [a, a + 1] μ x.2.2.2) n (fun self i x hi hx hk => ?_) (fun self x hx => ?_) gF 0 _ (Nat.zero_le _) (gF_pos (by omega)) ⟨rfl, rfl, rfl, by simpa using h, Off.rf⟩
  · obtain ⟨x1, x2, x3, m⟩ := x
    obtain ⟨rfl, rfl, rfl, h4, h5⟩ := hx
    dsimp only at h4 h5 ⊢
    unfold b69_2
    refine wp_f (fun q => absurd ((nI_leI (by omega) (by omega)).mp q) (by omega)) ?_
    refine wp_bind (put_ok _ h4 (by rw [List.length_append, List.length_replicate]; omega)) (fun m1 h1 => ?_)
    refine wp_nm (fun y hy => ?_)
    refine hk _ ⟨rfl, rfl, by rw [hy, nI_1], ?_, h5.tr h1.2 (fun c hc => hc)⟩
    rw [List.append_assoc] at h1
    rw [List.replicate_succ']
    exact h1.1
  · obtain ⟨x1, x2, x3, m⟩ := x
    obtain ⟨rfl, rfl, rfl, h4, h5⟩ := hx
    dsimp only at h4 h5 ⊢
    unfold b69_2
    exact wp_t (nI_le (Nat.le_refl _) (by omega)) (wp_some ⟨h4, h5⟩)
