/-! ===== rows of the law: what is only looked at (1) ===== -/
theorem b01 {x : Int32} {μ : Mem} (h : x = nI 0 ∨ x = nI 1) : (if x = 0 then some (μ, (0 : Int32)) else some (μ, (1 : Int32))) = some (μ, x) := by
  rcases h with rfl | rfl
  · rw [if_pos (by decide)]; rfl
  · rw [if_neg (by decide)]; rfl
theorem b2n01 (b : Bool) : nI (b2n b) = nI 0 ∨ nI (b2n b) = nI 1 := by
  cases b
  · exact Or.inl rfl
  · exact Or.inr rfl
theorem sm (p : Int32) (k : Nat) : p < 0 ∨ (∃ j, j ≤ k ∧ j < 2 ^ 31 ∧ p = nI j) ∨ ∃ j, k < j ∧ j < 2 ^ 31 ∧ p = nI j := by
  rcases neg_or p with h | ⟨j, hj, e⟩
  · exact Or.inl h
  · by_cases q : j ≤ k
    · exact Or.inr (Or.inl ⟨j, q, hj, e⟩)
    · exact Or.inr (Or.inr ⟨j, by omega, hj, e⟩)
theorem nlt0 {j : Nat} (h : j < 2 ^ 31) : ¬ nI j < (0 : Int32) := fun z => by have := (nI_ltI (b := 0) h (by omega)).mp z; omega
theorem nle0 {j : Nat} (h : j < 2 ^ 31) : (0 : Int32) ≤ nI j := (nI_leI (a := 0) (by omega) h).mpr (Nat.zero_le _)
theorem neg_ne {p : Int32} {k : Nat} (h : p < 0) (hk : k < 2 ^ 31) : ¬ p = nI k := fun z => nlt0 hk (by rw [← z]; exact h)
theorem rw_came (p : Int32) : Rw (f227 p) (f349 p) := by
  refine rw_get (fun n μ hn hI => ?_)
  obtain ⟨ns, t, bs, cl, v, e, x, f, a, b, c, d⟩ := hI
  obtain ⟨hH, _, c6, c7, c11, c12, _, _, _, _⟩ := a.2.2.1
  obtain ⟨hM, _, d6, d7, d11, d12, _⟩ := b.2.2.1
  obtain ⟨k0, k1, k2, k3⟩ := hH.2.2.2.2
  obtain ⟨m0, m1, m2, m3, m4⟩ := hM.2.2.2
  have j1 : μ.1 49 15 = v.1.2.2.1.2 := hH.2.2.2.1.2
  have j2 : μ.1 129 69 = v.1.2.2.1.2 := hM.2.2.1.2
  obtain ⟨_, g1, g2, g3, _⟩ := hH.2.2.1
  obtain ⟨⟨r1, _⟩, r2, r3, _⟩ := hM.2.1
  obtain ⟨cc, cb, ck, cz⟩ := d.2.2.2
  have e2 : (-2 : Int32) = -nI 2 := by decide
  unfold f227 f349
  by_cases h0 : p = (0 : Int32)
  · rw [if_pos h0, if_pos h0, c11, d11]; exact ⟨_, b01 (b2n01 _), b01 (b2n01 _)⟩
  rw [if_neg h0, if_neg h0]
  by_cases h1 : p = (1 : Int32)
  · rw [if_pos h1, if_pos h1, c12, d12]; exact ⟨_, rfl, rfl⟩
  rw [if_neg h1, if_neg h1]
  by_cases h2 : p = (2 : Int32)
  · rw [if_pos h2, if_pos h2, k0, m0]; exact ⟨_, rfl, rfl⟩
  rw [if_neg h2, if_neg h2]
  by_cases h3 : p = (3 : Int32)
  · rw [if_pos h3, if_pos h3, k1, m1]; exact ⟨_, rfl, rfl⟩
  rw [if_neg h3, if_neg h3]
  by_cases h4 : p = (4 : Int32)
  · rw [if_pos h4, if_pos h4, j1, j2]; exact ⟨_, rfl, rfl⟩
  rw [if_neg h4, if_neg h4]
  by_cases h5 : p = (5 : Int32)
  · rw [if_pos h5, if_pos h5, g1, r1]; exact ⟨_, rfl, rfl⟩
  rw [if_neg h5, if_neg h5]
  by_cases h6 : p = (6 : Int32)
  · rw [if_pos h6, if_pos h6, g2, r2]; exact ⟨_, rfl, rfl⟩
  rw [if_neg h6, if_neg h6]
  by_cases h7 : p = (7 : Int32)
  · rw [if_pos h7, if_pos h7, g3, r3]; exact ⟨_, rfl, rfl⟩
  rw [if_neg h7, if_neg h7]
  by_cases h8 : p = (8 : Int32)
  · rw [if_pos h8, if_pos h8, k2, m2]; exact ⟨_, rfl, rfl⟩
  rw [if_neg h8, if_neg h8]
  by_cases h9 : p = (9 : Int32)
  · rw [if_pos h9, if_pos h9, k2, m3]
    by_cases q : v.1.2.2.2 2 = nI 0
    · have c0 : cc = 0 := (nI_eq (by omega) (by omega)).mp (ck.symm.trans q)
      rw [if_pos (show v.1.2.2.2 2 = 0 from q), e2]
      exact ⟨_, rfl, by rw [(cz c0).1]⟩
    · rw [if_neg (show ¬ v.1.2.2.2 2 = 0 from q), (k3 q).1]
      exact ⟨_, rfl, rfl⟩
  rw [if_neg h9, if_neg h9]
  by_cases h10 : p = (10 : Int32)
  · rw [if_pos h10, if_pos h10, k2, m4]
    by_cases q : v.1.2.2.2 2 = nI 0
    · have c0 : cc = 0 := (nI_eq (by omega) (by omega)).mp (ck.symm.trans q)
      rw [if_pos (show v.1.2.2.2 2 = 0 from q), e2]
      exact ⟨_, rfl, by rw [(cz c0).2]⟩
    · rw [if_neg (show ¬ v.1.2.2.2 2 = 0 from q), (k3 q).2]
      exact ⟨_, rfl, rfl⟩
  rw [if_neg h10, if_neg h10]
  exact ⟨_, rfl, rfl⟩
theorem arch {μ : Mem} {t n : Nat} {v : Ey} {ns : List Nat} {j : Nat} (a : EyC ns μ t v) (b : EyM ns μ t v) (c : EyI v) (hn : v.1.2.1.2.1 < 2 ^ 30) (hj : j < 2 ^ 31) :
    (j < v.1.2.1.1.length → f87 (nI j) μ = some (μ, nI (v.1.2.1.1.length - 1 - j)) ∧ f350 (nI j) μ = some (μ, nI ((v.1.2.1.2.1 - 1 - j) % 40))) ∧ (¬ j < v.1.2.1.1.length → f87 (nI j) μ = some (μ, -1) ∧ f350 (nI j) μ = some (μ, -2)) := by
  have e5 : μ.1 15 5 = nI v.1.2.1.1.length := a.1.2.2.1.1.1
  have e7 : μ.1 129 147 = nI v.1.2.1.2.1 := b.1.2.1.1.1
  have hl := c.1.2.1.1
  constructor
  · intro q
    constructor
    · unfold f87
      rw [e5, if_neg (nlt0 hj), if_neg (fun z => by have := (nI_leI (by omega) hj).mp z; omega), i_1, pk_sub (by omega), pk_sub (by omega)]
    · unfold f350
      rw [e7, if_neg (nlt0 hj), if_neg (fun z => by have := (nI_leI (by omega) hj).mp z; omega), i_40, if_pos ((nI_ltI hj (by omega)).mpr (by omega)), i_1, pk_sub (by omega), pk_sub (by omega), jrem_N (by omega) (by omega) (by omega)]
  · intro q
    constructor
    · unfold f87
      rw [e5, if_neg (nlt0 hj), if_pos ((nI_leI (by omega) hj).mpr (by omega))]
    · unfold f350 c350_18
      rw [e7, if_neg (nlt0 hj)]
      by_cases q2 : v.1.2.1.2.1 ≤ j
      · rw [if_pos ((nI_leI (by omega) hj).mpr q2)]
      · rw [if_neg (fun z => q2 ((nI_leI (by omega) hj).mp z)), i_40, if_neg (fun z => by have := (nI_ltI hj (by omega)).mp z; omega)]
theorem arch_n {μ : Mem} {p : Int32} (h : p < 0) : f87 p μ = some (μ, -1) ∧ f350 p μ = some (μ, -2) := by
  constructor
  · unfold f87; rw [if_pos h]
  · unfold f350 c350_18; rw [if_pos h]
theorem j16 {A B : Nat} (hA : A < 65536) (hB : B < 65536) : jshl (nI A) (nI 16) ||| nI B = nI (A * 65536 + B) := by
  rw [show jshl (nI A) (nI 16) = nI (A * 2 ^ 16) from pk_shlN _ 16 (by decide) (by omega), nx_or, or_add 16 (by omega)]
theorem rw_archived (p q : Int32) : Rw (f228 p q) (f351 p q) := by
  refine rw_get (fun n μ hn hI => ?_)
  obtain ⟨ns, t, bs, cl, v, e, x, f, a, b, c, d⟩ := hI
  have no : ∀ q, f87 p μ = some (μ, -1) ∧ f350 p μ = some (μ, -2) → f228 p q μ = some (μ, -1) ∧ f351 p q μ = some (μ, -1) := by
    intro q e
    constructor
    · unfold f228
      rw [e.1, Option.bind_some]
      dsimp only
      rw [if_neg (show ¬ (0 : Int32) ≤ -1 by decide)]
    · unfold f351
      rw [e.2, Option.bind_some]
      dsimp only
      rw [if_pos rfl]
  have hna : v.1.2.1.2.1 < 2 ^ 30 := by have := d.2.2.1; omega
  rcases neg_or p with hp | ⟨j, hj, rfl⟩
  · exact ⟨_, (no q (arch_n hp)).1, (no q (arch_n hp)).2⟩
  · have A := arch (n := n) a.2.2.1 b.2.2.1 c.1 hna hj
    by_cases hl : j < v.1.2.1.1.length
    · obtain ⟨e1, e2⟩ := A.1 hl
      have g215 := gl_215
      have g216 := gl_216
      have g217 := gl_217
      have hsh : Shf μ 15 v.1.2.1.1 := a.2.2.1.1.2.2.1.1
      have hlen := c.1.1.2.1.1
      obtain ⟨w1, w2b, w3⟩ := c.1.1.2.1.2.1 (v.1.2.1.1.length - 1 - j) (by omega)
      have hi : v.1.2.1.1.length - 1 - j < v.1.2.1.1.length := by omega
      obtain ⟨s1, s2, s3⟩ := b.2.2.1.1.2.1.1.2 (v.1.2.1.1.length - 1 - j) hi
      have hbl : ∀ z, z ∈ (pk v.1.2.1.1 (v.1.2.1.1.length - 1 - j)).1 → z < 256 := hsh.2.2.2.2.2.2.2 _ hi
      have hpos : v.1.2.1.2.1 - v.1.2.1.1.length + (v.1.2.1.1.length - 1 - j) = v.1.2.1.2.1 - 1 - j := by omega
      rw [hpos] at s1 s2 s3
      have hr : (v.1.2.1.2.1 - 1 - j) % 40 < 40 := Nat.mod_lt _ (by omega)
      generalize (v.1.2.1.2.1 - 1 - j) % 40 = r at *
      generalize v.1.2.1.1.length - 1 - j = i at *
      have w2l := w2_lt (k := 9) hbl
      have w2m := w2_lt (k := 11) hbl
      have seg : ∀ k, k < (pk v.1.2.1.1 i).1.length → ldA 215 (nI (120 * r + k)) μ = some (nI ((pk v.1.2.1.1 i).1.getD k 0)) := fun k hk => by rw [ldA_N (by omega), s3.1 k hk]
      unfold f228 f351
      rw [e1, e2, Option.bind_some, Option.bind_some]
      dsimp only [nm]
      rw [if_pos (nle0 (by omega)), if_neg (show ¬ nI r = (-2 : Int32) from fun z => by
        have h2 : (-2 : Int32) < 0 := by decide
        exact neg_ne h2 (by omega) z.symm)]
      rw [i_120, pk_mul, i_7, i_8, i_9, i_11, i_2, nI_add, nI_add, nI_add, nI_add]
      rcases sm q 5 with hq | ⟨k, hk, hk2, rfl⟩ | ⟨k, hk, hk2, rfl⟩
      · rw [if_pos hq, if_neg (show ¬ q = 0 from neg_ne (k := 0) hq (by omega)), if_neg (show ¬ q = 1 from neg_ne (k := 1) hq (by omega)), if_neg (neg_ne (k := 2) hq (by omega)), if_neg (show ¬ q = 3 from neg_ne (k := 3) hq (by omega)), if_neg (show ¬ q = 4 from neg_ne (k := 4) hq (by omega)), if_neg (show ¬ q = 5 from neg_ne (k := 5) hq (by omega))]
        exact ⟨_, rfl, rfl⟩
      · rw [if_neg (nlt0 hk2), i_5, if_pos ((nI_leI (by omega) (by omega)).mpr hk)]
        have cs : k = 0 ∨ k = 1 ∨ k = 2 ∨ k = 3 ∨ k = 4 ∨ k = 5 := by omega
        rcases cs with rfl | rfl | rfl | rfl | rfl | rfl
        · refine ⟨(pk v.1.2.1.1 i).2.1, ?_, ?_⟩
          · rw [if_pos (by decide), tagOf_y hsh hi, Option.bind_some]
          · rw [if_pos (by decide), ldA_N (by omega), Option.bind_some, s2]
        · refine ⟨nI ((pk v.1.2.1.1 i).1.getD 7 0), ?_, ?_⟩
          · rw [if_neg (by decide), if_pos (by decide), byteOf_y hsh hi (by omega), Option.bind_some]
          · rw [if_neg (by decide), if_pos (by decide), seg 7 (by omega), Option.bind_some]
        · refine ⟨nI ((pk v.1.2.1.1 i).1.getD 8 0), ?_, ?_⟩
          · rw [if_neg (by decide), if_neg (by decide), if_pos (by decide), byteOf_y hsh hi (by omega), Option.bind_some]
          · rw [if_neg (by decide), if_neg (by decide), if_pos (by decide), seg 8 (by omega), Option.bind_some]
        · refine ⟨nI (w4l (pk v.1.2.1.1 i).1 9), ?_, ?_⟩
          · rw [if_neg (by decide), if_neg (by decide), if_neg (by decide), if_pos (by decide), twoOf_y hsh hi (by omega), Option.bind_some]
            dsimp only
            rw [twoOf_y hsh hi (by omega), Option.bind_some]
            dsimp only
            refine congrArg (fun z => some (μ, z)) ?_
            show jshl (nI (w2 (pk v.1.2.1.1 i).1 9)) (nI 16) ||| nI (w2 (pk v.1.2.1.1 i).1 11) = nI (w4l (pk v.1.2.1.1 i).1 9)
            rw [j16 w2l w2m]
            refine congrArg nI ?_
            generalize (pk v.1.2.1.1 i).1 = bl
            show (256 * bl.getD 9 0 + bl.getD 10 0) * 65536 + (256 * bl.getD 11 0 + bl.getD 12 0) = ((bl.getD 9 0 * 256 + bl.getD 10 0) * 256 + bl.getD 11 0) * 256 + bl.getD 12 0
            omega
          · rw [if_neg (by decide), if_neg (by decide), if_neg (by decide), if_pos (by decide), four_M s3 (by omega) (by omega), Option.bind_some]
        · refine ⟨nI (w2 (pk v.1.2.1.1 i).1 2 % 16384), ?_, ?_⟩
          · rw [if_neg (by decide), if_neg (by decide), if_neg (by decide), if_neg (by decide), if_pos (by decide), twoOf_y hsh hi (by omega), Option.bind_some]
            dsimp only
            rw [i_16383, an_16383]
            rfl
          · rw [if_neg (by decide), if_neg (by decide), if_neg (by decide), if_neg (by decide), if_pos (by decide), word_M s3 (by omega) (by omega), Option.bind_some]
            dsimp only
            rw [i_16383, an_16383]
        · refine ⟨nI (pk v.1.2.1.1 i).1.length, ?_, ?_⟩
          · rw [if_neg (by decide), if_neg (by decide), if_neg (by decide), if_neg (by decide), if_neg (by decide), if_pos (by decide), sizeOf_y hsh hi, Option.bind_some]
          · rw [if_neg (by decide), if_neg (by decide), if_neg (by decide), if_neg (by decide), if_neg (by decide), ldA_N (by omega), Option.bind_some, s1]
      · have ne : ∀ m, m ≤ 5 → ¬ nI k = nI m := fun m hm z => by have := (nI_eq (by omega) (by omega)).mp z; omega
        rw [if_neg (nlt0 hk2), i_5, if_neg (show ¬ nI k ≤ nI 5 from fun z => by have := (nI_leI (by omega) (by omega)).mp z; omega), if_neg (show ¬ nI k = 0 from ne 0 (by omega)), if_neg (show ¬ nI k = 1 from ne 1 (by omega)), if_neg (ne 2 (by omega)), if_neg (show ¬ nI k = 3 from ne 3 (by omega)), if_neg (show ¬ nI k = 4 from ne 4 (by omega)), if_neg (ne 5 (by omega))]
        exact ⟨_, rfl, rfl⟩
    · exact ⟨_, (no q (A.2 hl)).1, (no q (A.2 hl)).2⟩
theorem rw_archByte (p q : Int32) : Rw (f229 p q) (f352 p q) := by
  refine rw_get (fun n μ hn hI => ?_)
  obtain ⟨ns, t, bs, cl, v, e, x, f, a, b, c, d⟩ := hI
  have no : ∀ q, f87 p μ = some (μ, -1) ∧ f350 p μ = some (μ, -2) → f229 p q μ = some (μ, -1) ∧ f352 p q μ = some (μ, -1) := by
    intro q e
    constructor
    · unfold f229
      rw [e.1, Option.bind_some]
      dsimp only
      rw [if_pos (show (-1 : Int32) < 0 by decide)]
    · unfold f352 c352_26
      rw [e.2, Option.bind_some]
      dsimp only
      rw [if_pos rfl]
  have hna : v.1.2.1.2.1 < 2 ^ 30 := by have := d.2.2.1; omega
  rcases neg_or p with hp | ⟨j, hj, rfl⟩
  · exact ⟨_, (no q (arch_n hp)).1, (no q (arch_n hp)).2⟩
  · have A := arch (n := n) a.2.2.1 b.2.2.1 c.1 hna hj
    by_cases hl : j < v.1.2.1.1.length
    · obtain ⟨e1, e2⟩ := A.1 hl
      have g215 := gl_215
      have g216 := gl_216
      have hsh : Shf μ 15 v.1.2.1.1 := a.2.2.1.1.2.2.1.1
      have hlen := c.1.1.2.1.1
      obtain ⟨w1, w2b, w3⟩ := c.1.1.2.1.2.1 (v.1.2.1.1.length - 1 - j) (by omega)
      have hi : v.1.2.1.1.length - 1 - j < v.1.2.1.1.length := by omega
      obtain ⟨s1, s2, s3⟩ := b.2.2.1.1.2.1.1.2 (v.1.2.1.1.length - 1 - j) hi
      have hpos : v.1.2.1.2.1 - v.1.2.1.1.length + (v.1.2.1.1.length - 1 - j) = v.1.2.1.2.1 - 1 - j := by omega
      rw [hpos] at s1 s2 s3
      have hr : (v.1.2.1.2.1 - 1 - j) % 40 < 40 := Nat.mod_lt _ (by omega)
      generalize (v.1.2.1.2.1 - 1 - j) % 40 = r at *
      generalize v.1.2.1.1.length - 1 - j = i at *
      unfold f229 f352 c352_26
      rw [e1, e2, Option.bind_some, Option.bind_some]
      dsimp only
      rw [if_neg (nlt0 (by omega)), if_neg (show ¬ nI r = (-2 : Int32) from fun z => by
        have h2 : (-2 : Int32) < 0 := by decide
        exact neg_ne h2 (by omega) z.symm)]
      rcases neg_or q with hq | ⟨k, hk, rfl⟩
      · rw [if_pos hq, if_pos hq]
        exact ⟨_, rfl, rfl⟩
      · rw [if_neg (nlt0 hk), if_neg (nlt0 hk), sizeOf_y hsh hi, Option.bind_some, ldA_N (by omega), Option.bind_some, s1]
        dsimp only
        by_cases q2 : k < (pk v.1.2.1.1 i).1.length
        · rw [if_pos ((nI_ltI hk (by omega)).mpr q2), if_pos ((nI_ltI hk (by omega)).mpr q2), byteOf_y hsh hi hk, Option.bind_some, i_120, pk_mul, nI_add, ldA_N (by omega), Option.bind_some, s3.1 k q2]
          exact ⟨_, rfl, rfl⟩
        · rw [if_neg (show ¬ nI k < nI (pk v.1.2.1.1 i).1.length from fun z => q2 ((nI_ltI hk (by omega)).mp z)), if_neg (show ¬ nI k < nI (pk v.1.2.1.1 i).1.length from fun z => q2 ((nI_ltI hk (by omega)).mp z))]
          exact ⟨_, rfl, rfl⟩
    · exact ⟨_, (no q (A.2 hl)).1, (no q (A.2 hl)).2⟩
theorem rw_shown (p q : Int32) : Rw (f230 p q) (f353 p q) := by
  refine rw_get (fun n μ hn hI => ?_)
  obtain ⟨ns, t, bs, cl, v, e, x, f, a, b, c, d⟩ := hI
  have hC : ShwC μ v.1.2.1.2.2.2.2.2 := a.2.2.1.1.2.2.1.2.2.2.2.2
  have hM : ShwM μ v.1.2.1.2.2.2.2.2 := b.2.2.1.1.2.1.2.2.2.2
  have h01 := c.1.1.2.1.2.2.2
  have g1 := gl_21
  have g2 := gl_22
  have g3 := gl_23
  have g4 := gl_218
  have g5 := gl_219
  have g6 := gl_220
  unfold f230 f353
  rcases sm p 23 with hp | ⟨j, hj, hj2, rfl⟩ | ⟨j, hj, hj2, rfl⟩
  · rw [if_pos hp, if_pos hp]; exact ⟨_, rfl, rfl⟩
  · have x0 := hC j (by omega) 0 (by omega)
    have x1 : μ.1 22 j = v.1.2.1.2.2.2.2.2 j 1 := hC j (by omega) 1 (by omega)
    have x2 : μ.1 23 j = v.1.2.1.2.2.2.2.2 j 2 := hC j (by omega) 2 (by omega)
    have y0 : μ.1 218 j = v.1.2.1.2.2.2.2.2 j 0 := hM j (by omega) 0 (by omega)
    have y1 : μ.1 219 j = v.1.2.1.2.2.2.2.2 j 1 := hM j (by omega) 1 (by omega)
    have y2 : μ.1 220 j = v.1.2.1.2.2.2.2.2 j 2 := hM j (by omega) 2 (by omega)
    rw [if_neg (nlt0 hj2), if_neg (nlt0 hj2), i_24, if_pos ((nI_ltI hj2 (by omega)).mpr (by omega)), i_23, if_neg (show ¬ nI 23 < nI j from fun z => by have := (nI_ltI (by omega) hj2).mp z; omega)]
    rcases sm q 2 with hq | ⟨k, hk, hk2, rfl⟩ | ⟨k, hk, hk2, rfl⟩
    · rw [if_pos hq, if_neg (show ¬ q = 0 from neg_ne (k := 0) hq (by omega)), if_neg (show ¬ q = 1 from neg_ne (k := 1) hq (by omega)), if_neg (show ¬ q = 2 from neg_ne (k := 2) hq (by omega))]
      exact ⟨_, rfl, rfl⟩
    · have cs : k = 0 ∨ k = 1 ∨ k = 2 := by omega
      rcases cs with rfl | rfl | rfl
      · refine ⟨v.1.2.1.2.2.2.2.2 j 0, ?_, ?_⟩
        · rw [if_pos (by decide), ldA_N (by omega), Option.bind_some, x0]
        · rw [if_neg (by decide), if_pos (by decide), if_pos (by decide), ldA_N (by omega), Option.bind_some, y0]
          exact b01 (h01 j)
      · refine ⟨v.1.2.1.2.2.2.2.2 j 1, ?_, ?_⟩
        · rw [if_neg (by decide), if_pos (by decide), ldA_N (by omega), Option.bind_some, x1]
        · rw [if_neg (by decide), if_pos (by decide), if_neg (by decide), if_pos (by decide), ldA_N (by omega), Option.bind_some, y1]
      · refine ⟨v.1.2.1.2.2.2.2.2 j 2, ?_, ?_⟩
        · rw [if_neg (by decide), if_neg (by decide), if_pos (by decide), ldA_N (by omega), Option.bind_some, x2]
        · rw [if_neg (by decide), if_pos (by decide), if_neg (by decide), if_neg (by decide), ldA_N (by omega), Option.bind_some, y2]
    · have ne : ∀ m, m ≤ 2 → ¬ nI k = nI m := fun m hm z => by have := (nI_eq (by omega) (by omega)).mp z; omega
      rw [if_neg (nlt0 hk2), if_neg (show ¬ nI k ≤ 2 from fun z => by have := (nI_leI (b := 2) (by omega) (by omega)).mp z; omega), if_neg (show ¬ nI k = 0 from ne 0 (by omega)), if_neg (show ¬ nI k = 1 from ne 1 (by omega)), if_neg (show ¬ nI k = 2 from ne 2 (by omega))]
      exact ⟨_, rfl, rfl⟩
  · rw [if_neg (nlt0 hj2), if_neg (nlt0 hj2), i_24, if_neg (show ¬ nI j < nI 24 from fun z => by have := (nI_ltI hj2 (by omega)).mp z; omega), i_23, if_pos ((nI_ltI (by omega) hj2).mpr (by omega))]
    exact ⟨_, rfl, rfl⟩
theorem rw_param (p : Int32) : Rw (f233 p) (f355 p) := by
  refine rw_get (fun n μ hn hI => ?_)
  obtain ⟨ns, t, bs, cl, v, e, x, f, a, b, c, d⟩ := hI
  have vC : VC μ e.1.1 x.2.2.2.2.1.2.2.length := ⟨a.2.2.2.1.1.1.2.1, a.2.2.2.1.1.1.1.2.1, a.2.2.2.2.1.2.2.2.2.1.2.2.1⟩
  have vM : VM μ e.1.1 x.2.2.2.2.1.2.2.length := ⟨b.2.2.2.1.1.1.2.1, b.2.2.2.1.1.1.1.1, b.2.2.2.2.1.2.2.2.2.1.2.2.1⟩
  unfold f233 f355 c233_10 c355_10
  rcases sm p 23 with hp | ⟨j, hj, hj2, rfl⟩ | ⟨j, hj, hj2, rfl⟩
  · rw [if_pos hp, if_pos hp]; exact ⟨_, rfl, rfl⟩
  · rw [if_neg (nlt0 hj2), if_neg (nlt0 hj2), i_24, if_pos ((nI_ltI hj2 (by omega)).mpr (by omega)), i_23, if_pos ((nI_leI (by omega) (by omega)).mpr hj), val_C vC (by omega), val_M vM (by omega)]
    exact ⟨_, rfl, rfl⟩
  · rw [if_neg (nlt0 hj2), if_neg (nlt0 hj2), i_24, if_neg (show ¬ nI j < nI 24 from fun z => by have := (nI_ltI hj2 (by omega)).mp z; omega), i_23, if_neg (show ¬ nI j ≤ nI 23 from fun z => by have := (nI_leI hj2 (by omega)).mp z; omega)]
    exact ⟨_, rfl, rfl⟩
theorem rw_memory (p : Int32) : Rw (f234 p) (f356 p) := by
  refine rw_get (fun n μ hn hI => ?_)
  obtain ⟨ns, t, bs, cl, v, e, x, f, a, b, c, d⟩ := hI
  have g := gl_189
  have hC : Byt μ 127 x.1 := a.2.2.2.2.1.1
  have hM : Seg μ 189 0 x.1 := b.2.2.2.2.1.1
  have hl := c.2.2.1.1
  unfold f234 f356 c234_11 c356_11
  rcases sm p 1023 with hp | ⟨j, hj, hj2, rfl⟩ | ⟨j, hj, hj2, rfl⟩
  · rw [if_pos hp, if_pos hp]; exact ⟨_, rfl, rfl⟩
  · have y := hM.1 j (by omega)
    rw [Nat.zero_add] at y
    rw [if_neg (nlt0 hj2), if_neg (nlt0 hj2), i_1024, if_pos ((nI_ltI hj2 (by omega)).mpr (by omega)), i_1023, if_pos ((nI_leI (by omega) (by omega)).mpr hj), at_ok hC hj2, ldA_N (by omega), y]
    exact ⟨_, rfl, rfl⟩
  · rw [if_neg (nlt0 hj2), if_neg (nlt0 hj2), i_1024, if_neg (show ¬ nI j < nI 1024 from fun z => by have := (nI_ltI hj2 (by omega)).mp z; omega), i_1023, if_neg (show ¬ nI j ≤ nI 1023 from fun z => by have := (nI_leI hj2 (by omega)).mp z; omega)]
    exact ⟨_, rfl, rfl⟩
