/-! ===== rows of the law: what is only looked at (2) ===== -/
theorem rw_craft (p : Int32) : Rw (f235 p) (f357 p) := by
  refine rw_get (fun n μ hn hI => ?_)
  obtain ⟨ns, t, bs, cl, v, e, x, f, a, b, c, d⟩ := hI
  obtain ⟨hD, c1, _, _, _, _, cB, c6, c7⟩ := a.2.2.2.1
  obtain ⟨hE, d1, _, _, _, _, dB, _, _, d6, d7⟩ := b.2.2.2.1
  obtain ⟨y0, y1, y2, y3, y4, y5⟩ := c.2.1.1.2
  have U : ∀ i, i < 6 → μ.1 9 (11 + i) = e.1.2.1 i := hD.2.1
  have V : ∀ i, i < 6 → μ.1 129 (19 + i) = e.1.2.1 i := hE.2.1
  have u0 := U 0 (by omega)
  have u1 := U 1 (by omega)
  have u2 := U 2 (by omega)
  have u3 := U 3 (by omega)
  have u4 := U 4 (by omega)
  have u5 := U 5 (by omega)
  have v0 := V 0 (by omega)
  have v1 := V 1 (by omega)
  have v2 := V 2 (by omega)
  have v3 := V 3 (by omega)
  have v4 := V 4 (by omega)
  have v5 := V 5 (by omega)
  have r1 : μ.1 102 5 = nI e.1.1.2.2.length := hD.1.2.2.1.1
  have r2 : μ.1 129 104 = nI e.1.1.2.2.length := hE.1.2.2.1.1
  have l1 : μ.1 75 5 = nI e.1.1.1.2.2.1.length := hD.1.1.2.2.2.1.1
  have l2 : μ.1 129 86 = nI e.1.1.1.2.2.1.length := hE.1.1.2.2.1.1
  have p1 : μ.1 81 5 = nI x.2.2.2.2.2.length := a.2.2.2.2.1.2.2.2.2.2.1
  have p2 : μ.1 129 90 = nI x.2.2.2.2.2.length := b.2.2.2.2.1.2.2.2.2.2.1
  have o1 : μ.1 57 14 = e.1.1.1.2.2.2.1 := hD.1.1.2.2.2.2.1
  have o2 : μ.1 129 87 = e.1.1.1.2.2.2.1 := hE.1.1.2.2.2.1
  have m1 : μ.1 57 13 = nI e.1.1.1.2.1 := hD.1.1.2.2.1
  have m2 : μ.1 129 81 = nI e.1.1.1.2.1 := hE.1.1.2.1
  have w1 : μ.1 9 10 = e.1.2.2 := hD.2.2
  have w2 : μ.1 129 25 = e.1.2.2 := hE.2.2
  have b1 : μ.1 10 1 = nI e.2.2.2.1.length := cB.1
  have b2 : μ.1 129 16 = nI e.2.2.2.1.length := dB
  unfold f235 f357
  by_cases h0 : p = (0 : Int32)
  · rw [if_pos h0, if_pos h0, show μ.1 9 11 = _ from u0, show μ.1 129 19 = _ from v0]; exact ⟨_, rfl, rfl⟩
  rw [if_neg h0, if_neg h0]
  by_cases h1 : p = (1 : Int32)
  · rw [if_pos h1, if_pos h1, show μ.1 9 12 = _ from u1, show μ.1 129 20 = _ from v1]; exact ⟨_, rfl, b01 y1⟩
  rw [if_neg h1, if_neg h1]
  by_cases h2 : p = (2 : Int32)
  · rw [if_pos h2, if_pos h2, show μ.1 9 13 = _ from u2, show μ.1 129 21 = _ from v2]; exact ⟨_, rfl, b01 y2⟩
  rw [if_neg h2, if_neg h2]
  by_cases h3 : p = (3 : Int32)
  · rw [if_pos h3, if_pos h3, show μ.1 9 14 = _ from u3, show μ.1 129 22 = _ from v3]; exact ⟨_, rfl, b01 y3⟩
  rw [if_neg h3, if_neg h3]
  by_cases h4 : p = (4 : Int32)
  · rw [if_pos h4, if_pos h4, show μ.1 9 15 = _ from u4, show μ.1 129 23 = _ from v4]; exact ⟨_, rfl, rfl⟩
  rw [if_neg h4, if_neg h4]
  by_cases h5 : p = (5 : Int32)
  · rw [if_pos h5, if_pos h5, show μ.1 9 16 = _ from u5, show μ.1 129 24 = _ from v5]; exact ⟨_, rfl, rfl⟩
  rw [if_neg h5, if_neg h5]
  by_cases h6 : p = (6 : Int32)
  · rw [if_pos h6, if_pos h6, r1, r2]; exact ⟨_, rfl, rfl⟩
  rw [if_neg h6, if_neg h6]
  by_cases h7 : p = (7 : Int32)
  · rw [if_pos h7, if_pos h7, l1, l2]; exact ⟨_, rfl, rfl⟩
  rw [if_neg h7, if_neg h7]
  by_cases h8 : p = (8 : Int32)
  · rw [if_pos h8, if_pos h8, p1, p2]; exact ⟨_, rfl, rfl⟩
  rw [if_neg h8, if_neg h8]
  by_cases h9 : p = (9 : Int32)
  · rw [if_pos h9, if_pos h9, o1, o2]; exact ⟨_, rfl, rfl⟩
  rw [if_neg h9, if_neg h9]
  by_cases h10 : p = (10 : Int32)
  · rw [if_pos h10, if_pos h10, c1, d1]; exact ⟨_, b01 (b2n01 _), b01 (b2n01 _)⟩
  rw [if_neg h10, if_neg h10]
  by_cases h11 : p = (11 : Int32)
  · rw [if_pos h11, if_pos h11, b1, b2]; exact ⟨_, rfl, rfl⟩
  rw [if_neg h11, if_neg h11]
  by_cases h12 : p = (12 : Int32)
  · rw [if_pos h12, if_pos h12, c6, d6]; exact ⟨_, rfl, rfl⟩
  rw [if_neg h12, if_neg h12]
  by_cases h13 : p = (13 : Int32)
  · rw [if_pos h13, if_pos h13, c7, d7]; exact ⟨_, rfl, rfl⟩
  rw [if_neg h13, if_neg h13]
  by_cases h14 : p = (14 : Int32)
  · rw [if_pos h14, if_pos h14, m1, m2]; exact ⟨_, rfl, rfl⟩
  rw [if_neg h14, if_neg h14]
  by_cases h15 : p = (15 : Int32)
  · rw [if_pos h15, if_pos h15, w1, w2]; exact ⟨_, rfl, rfl⟩
  rw [if_neg h15, if_neg h15]
  exact ⟨_, rfl, rfl⟩
theorem rw_structure (p q : Int32) : Rw (f236 p q) (f358 p q) := by
  refine rw_get (fun n μ hn hI => ?_)
  obtain ⟨ns, t, bs, cl, v, e, x, f, a, b, c, d⟩ := hI
  have hC : StrC μ x.2.1 := a.2.2.2.2.1.2.1
  have hM : StrM μ x.2.1 := b.2.2.2.2.1.2.1
  have hS := c.2.2.1.2.1
  have g1 := gl_125
  have g2 := gl_183
  have g3 := gl_184
  have g4 := gl_185
  have g5 := gl_186
  have g6 := gl_187
  have g7 := gl_188
  unfold f236 f358
  rcases sm p 5 with hp | ⟨s, hs, hs2, rfl⟩ | ⟨s, hs, hs2, rfl⟩
  · rw [if_pos hp, if_pos hp]; exact ⟨_, rfl, rfl⟩
  · obtain ⟨s0, s1, ⟨s4, s4e⟩, s5⟩ := hS s (by omega)
    generalize nt (x.2.1 s 4) = n4 at s4 s4e
    have hs6 : s < 6 := by omega
    have k0 := hC s hs6 0 (by omega)
    have m0 := (hM s hs6).1 0 (by omega)
    have k4 := hC s hs6 4 (by omega)
    have m4 := (hM s hs6).1 4 (by omega)
    rw [if_neg (nlt0 hs2), if_neg (nlt0 hs2), i_6, if_neg (show ¬ nI 6 ≤ nI s from fun z => by have := (nI_leI (by omega) hs2).mp z; omega), i_5, if_neg (show ¬ nI 5 < nI s from fun z => by have := (nI_ltI (by omega) hs2).mp z; omega)]
    rcases neg_or q with hq | ⟨j, hj, rfl⟩
    · rw [if_neg (Int32.not_le.mpr hq), if_pos hq]; exact ⟨_, rfl, rfl⟩
    · rw [if_pos (nle0 hj), if_neg (nlt0 hj)]
      dsimp only [nm]
      rw [i_13, pk_mul, Nat.mul_comm s 13]
      by_cases j0 : j = 0
      · subst j0
        rw [if_pos (show nI 0 = 0 from rfl), if_pos (show nI 0 ≤ 0 by decide), ldA_N (by omega), Option.bind_some, show μ.1 125 (13 * s) = x.2.1 s 0 from k0]
        unfold c358_28
        rw [if_pos (show nI 0 = 0 from rfl), ldA_N (by omega), Option.bind_some, show μ.1 183 s = x.2.1 s 0 from m0]
        exact ⟨_, rfl, b01 s0⟩
      · have jn : ¬ nI j = 0 := fun z => j0 ((nI_eq (b := 0) (by omega) (by omega)).mp z)
        have jl : ¬ nI j ≤ 0 := fun z => by have := (nI_leI (b := 0) (by omega) (by omega)).mp z; omega
        rw [if_neg jn, if_neg jl, ldA_N (by omega), Option.bind_some, ldA_N (by omega), Option.bind_some, show μ.1 125 (13 * s) = x.2.1 s 0 from k0, show μ.1 183 s = x.2.1 s 0 from m0]
        by_cases q0 : x.2.1 s 0 = nI 0
        · rw [if_pos (show x.2.1 s 0 = 0 from q0), if_pos (show x.2.1 s 0 = 0 from q0)]; exact ⟨_, rfl, rfl⟩
        · rw [if_neg (show ¬ x.2.1 s 0 = 0 from q0), if_neg (show ¬ x.2.1 s 0 = 0 from q0), i_4, nI_add, ldA_N (by omega), Option.bind_some, k4, s4e, nI_add]
          unfold c358_28
          rw [if_neg jn]
          by_cases j5 : j < 5
          · have kj := hC s hs6 j (by omega)
            rw [if_pos ((nI_leI (by omega) (by omega)).mpr (by omega)), nI_add, ldA_N (by omega), Option.bind_some, kj, i_5, if_pos ((nI_ltI (by omega) (by omega)).mpr j5)]
            have cs : j = 1 ∨ j = 2 ∨ j = 3 ∨ j = 4 := by omega
            rcases cs with rfl | rfl | rfl | rfl
            · have mj := (hM s hs6).1 1 (by omega)
              refine ⟨_, rfl, ?_⟩
              rw [if_pos (by decide), ldA_N (by omega), Option.bind_some, show μ.1 184 s = x.2.1 s 1 from mj]
              exact b01 s1
            · have mj := (hM s hs6).1 2 (by omega)
              refine ⟨_, rfl, ?_⟩
              rw [if_neg (by decide), if_pos (by decide), ldA_N (by omega), Option.bind_some, show μ.1 185 s = x.2.1 s 2 from mj]
            · have mj := (hM s hs6).1 3 (by omega)
              refine ⟨_, rfl, ?_⟩
              rw [if_neg (by decide), if_neg (by decide), if_pos (by decide), ldA_N (by omega), Option.bind_some, show μ.1 186 s = x.2.1 s 3 from mj]
            · have mj := (hM s hs6).1 4 (by omega)
              refine ⟨_, rfl, ?_⟩
              rw [if_neg (by decide), if_neg (by decide), if_neg (by decide), ldA_N (by omega), Option.bind_some, show μ.1 187 s = x.2.1 s 4 from mj]
          · rw [i_5, if_neg (show ¬ nI j < nI 5 from fun z => j5 ((nI_ltI (by omega) (by omega)).mp z)), ldA_N (by omega), Option.bind_some, show μ.1 187 s = x.2.1 s 4 from m4, s4e, pk_sub (by omega)]
            by_cases q4 : j ≤ 4 + n4
            · have kj := hC s hs6 j (by omega)
              have mj := (hM s hs6).2 (j - 5) (by omega)
              rw [show 5 + (j - 5) = j by omega] at mj
              rw [if_pos ((nI_leI (by omega) (by omega)).mpr q4), nI_add, ldA_N (by omega), Option.bind_some, kj, if_pos ((nI_ltI (by omega) (by omega)).mpr (by omega)), i_8, pk_mul, nI_add, pk_sub (by omega), show 8 * s + j - 5 = 8 * s + (j - 5) by omega, ldA_N (by omega), Option.bind_some, mj]
              exact ⟨_, rfl, rfl⟩
            · rw [if_neg (show ¬ nI j ≤ nI (4 + n4) from fun z => q4 ((nI_leI (by omega) (by omega)).mp z)), if_neg (show ¬ nI (j - 5) < nI n4 from fun z => by have := (nI_ltI (by omega) (by omega)).mp z; omega)]
              exact ⟨_, rfl, rfl⟩
  · rw [if_neg (nlt0 hs2), if_neg (nlt0 hs2), i_6, if_pos ((nI_leI (by omega) hs2).mpr (by omega)), i_5, if_pos ((nI_ltI (by omega) hs2).mpr (by omega))]
    exact ⟨_, rfl, rfl⟩
theorem rw_watch (p q : Int32) : Rw (f237 p q) (f359 p q) := by
  refine rw_get (fun n μ hn hI => ?_)
  obtain ⟨ns, t, bs, cl, v, e, x, f, a, b, c, d⟩ := hI
  have hC : WtC μ x.2.2.1 := a.2.2.2.2.1.2.2.1
  have hM : WtN μ x.2.2.1 := b.2.2.2.2.1.2.2.1
  have g1 := gl_126
  have g2 := gl_195
  have g3 := gl_196
  have g4 := gl_197
  have g5 := gl_198
  have g6 := gl_199
  have g7 := gl_200
  have g8 := gl_201
  unfold f237 f359
  rcases sm p 5 with hp | ⟨s, hs, hs2, rfl⟩ | ⟨s, hs, hs2, rfl⟩
  · rw [if_pos hp, if_pos hp]; exact ⟨_, rfl, rfl⟩
  · have hs6 : s < 6 := by omega
    have k0 := hC s hs6 0 (by omega)
    have m0 := (hM s hs6).1 0 (by omega)
    rw [if_neg (nlt0 hs2), if_neg (nlt0 hs2), i_6, if_neg (show ¬ nI 6 ≤ nI s from fun z => by have := (nI_leI (by omega) hs2).mp z; omega), i_5, if_neg (show ¬ nI 5 < nI s from fun z => by have := (nI_ltI (by omega) hs2).mp z; omega)]
    rcases sm q 6 with hq | ⟨j, hj, hj2, rfl⟩ | ⟨j, hj, hj2, rfl⟩
    · rw [if_pos hq, if_pos hq]; exact ⟨_, rfl, rfl⟩
    · have kj := hC s hs6 j (by omega)
      have fin : c237_47 (nI j) (nI (8 * s)) μ = some (μ, x.2.2.1 s j) := by
        unfold c237_47
        rw [nI_add, ldA_N (by omega), Option.bind_some, kj]
      have finM : c359_34 (nI s) (nI j) μ = some (μ, x.2.2.1 s j) := by
        have mj := (hM s hs6).1 j (by omega)
        unfold c359_34
        have cs : j = 0 ∨ j = 1 ∨ j = 2 ∨ j = 3 ∨ j = 4 ∨ j = 5 ∨ j = 6 := by omega
        rcases cs with rfl | rfl | rfl | rfl | rfl | rfl | rfl
        · rw [if_pos (by decide), ldA_N (by omega), Option.bind_some, show μ.1 195 s = x.2.2.1 s 0 from mj]
        · rw [if_neg (by decide), if_pos (by decide), ldA_N (by omega), Option.bind_some, show μ.1 196 s = x.2.2.1 s 1 from mj]
        · rw [if_neg (by decide), if_neg (by decide), if_pos (by decide), ldA_N (by omega), Option.bind_some, show μ.1 197 s = x.2.2.1 s 2 from mj]
        · rw [if_neg (by decide), if_neg (by decide), if_neg (by decide), if_pos (by decide), ldA_N (by omega), Option.bind_some, show μ.1 198 s = x.2.2.1 s 3 from mj]
        · rw [if_neg (by decide), if_neg (by decide), if_neg (by decide), if_neg (by decide), if_pos (by decide), ldA_N (by omega), Option.bind_some, show μ.1 199 s = x.2.2.1 s 4 from mj]
        · rw [if_neg (by decide), if_neg (by decide), if_neg (by decide), if_neg (by decide), if_neg (by decide), if_pos (by decide), ldA_N (by omega), Option.bind_some, show μ.1 200 s = x.2.2.1 s 5 from mj]
        · rw [if_neg (by decide), if_neg (by decide), if_neg (by decide), if_neg (by decide), if_neg (by decide), if_neg (by decide), ldA_N (by omega), Option.bind_some, show μ.1 201 s = x.2.2.1 s 6 from mj]
      rw [if_neg (nlt0 hj2), if_neg (nlt0 hj2), if_pos ((nI_leI (by omega) (by omega)).mpr hj), if_neg (show ¬ nI 6 < nI j from fun z => by have := (nI_ltI (by omega) (by omega)).mp z; omega)]
      dsimp only [nm]
      rw [i_8, pk_mul, Nat.mul_comm s 8]
      by_cases j0 : nI j ≤ (0 : Int32)
      · rw [if_pos j0, if_pos j0, fin, finM]; exact ⟨_, rfl, rfl⟩
      · rw [if_neg j0, if_neg j0, ldA_N (by omega), Option.bind_some, ldA_N (by omega), Option.bind_some, show μ.1 126 (8 * s) = x.2.2.1 s 0 from k0, show μ.1 195 s = x.2.2.1 s 0 from m0, fin, finM]
        by_cases q0 : x.2.2.1 s 0 = (0 : Int32)
        · rw [if_pos q0]; exact ⟨_, rfl, rfl⟩
        · rw [if_neg q0]; exact ⟨_, rfl, rfl⟩
    · rw [if_neg (nlt0 hj2), if_neg (nlt0 hj2), if_neg (show ¬ nI j ≤ nI 6 from fun z => by have := (nI_leI (by omega) (by omega)).mp z; omega), if_pos ((nI_ltI (by omega) (by omega)).mpr hj)]
      exact ⟨_, rfl, rfl⟩
  · rw [if_neg (nlt0 hs2), if_neg (nlt0 hs2), i_6, if_pos ((nI_leI (by omega) hs2).mpr (by omega)), i_5, if_pos ((nI_ltI (by omega) hs2).mpr (by omega))]
    exact ⟨_, rfl, rfl⟩
theorem gof_C {μ : Mem} {q : Nat → Bool} {k : Nat} (h : MkC (μ.1 101 12) 4 q) (hk : k < 4) : f8 (nI k) μ = some (μ, nI (b2n (!(q k)))) := by
  unfold f8
  rw [i_1, bit_j (by omega), h k hk]
  cases q k
  · rw [if_pos (by decide)]; rfl
  · rw [if_neg (by decide)]; rfl
theorem eof_C {μ : Mem} {q : Nat → Bool} {k : Nat} (h : MkC (μ.1 101 11) 32 q) (hk : k < 32) : f7 (nI k) μ = some (μ, nI (b2n (!(q k)))) := by
  unfold f7
  rw [i_1, bit_j (by omega), h k hk]
  cases q k
  · rw [if_pos (by decide)]; rfl
  · rw [if_neg (by decide)]; rfl
theorem nb01 {b : Bool} {μ : Mem} : (if nI (b2n b) = 0 then some (μ, (1 : Int32)) else some (μ, (0 : Int32))) = some (μ, nI (b2n (!b))) := by
  cases b
  · rw [if_pos (by decide)]; rfl
  · rw [if_neg (by decide)]; rfl
theorem rw_event (p q : Int32) : Rw (f238 p q) (f360 p q) := by
  refine rw_get (fun n μ hn hI => ?_)
  obtain ⟨ns, t, bs, cl, v, e, x, f, a, b, c, d⟩ := hI
  have hC : EvC μ x.2.2.2.1 := a.2.2.2.2.1.2.2.2.1
  obtain ⟨M1, M2, M3⟩ : EvM μ x.2.2.2.1 := b.2.2.2.2.1.2.2.2.1
  have hS := c.2.2.1.2.2.2.1
  have g1 := gl_190
  have g2 := gl_191
  have g3 := gl_192
  have g4 := gl_194
  unfold f238 f360
  rcases sm p 31 with hp | ⟨s, hs, hs2, rfl⟩ | ⟨s, hs, hs2, rfl⟩
  · rw [if_pos hp, if_pos hp]; exact ⟨_, rfl, rfl⟩
  · have hs32 : s < 32 := by omega
    have m0 := M1 s hs32
    have e7 := eof_C hC.1 hs32
    obtain ⟨r, hr, h1, h2⟩ := find_C (t := nI s) hC.2
    obtain ⟨rm, rv⟩ := r
    dsimp only at h1 h2
    subst h1
    rw [if_neg (nlt0 hs2), if_neg (nlt0 hs2), i_32, if_pos ((nI_ltI (by omega) (by omega)).mpr hs32), i_31, if_neg (show ¬ nI 31 < nI s from fun z => by have := (nI_ltI (by omega) (by omega)).mp z; omega), hr, Option.bind_some]
    dsimp only
    rw [e7, Option.bind_some]
    dsimp only
    rw [b01 (b2n01 _)]
    rcases sm q 3 with hq | ⟨j, hj, hj2, rfl⟩ | ⟨j, hj, hj2, rfl⟩
    · rw [if_pos hq, if_neg (show ¬ q = 0 from neg_ne (k := 0) hq (by omega)), if_neg (show ¬ q = 1 from neg_ne (k := 1) hq (by omega)), if_neg (show ¬ q = 2 from neg_ne (k := 2) hq (by omega)), if_neg (show ¬ q = 3 from neg_ne (k := 3) hq (by omega))]
      exact ⟨_, rfl, rfl⟩
    · rw [if_neg (nlt0 hj2), if_pos (show nI j ≤ 3 from (nI_leI (b := 3) (by omega) (by omega)).mpr hj), ldA_N (by omega), Option.bind_some, m0]
      have cs : j = 0 ∨ j = 1 ∨ j = 2 ∨ j = 3 := by omega
      rcases h2 with ⟨i, hi, ht, _, hv⟩ | ⟨hno, hv⟩
      · obtain ⟨n1, n2, n3, _⟩ := M3 i s hi hs32 ht
        have hmk := (hS.1 i hi).2.2
        have hlen := (hS.1 i hi).2.1
        subst hv
        rw [markOf_y hC.2 hi, sizeOf_y hC.2 hi, Option.bind_some, Option.bind_some]
        dsimp only
        rcases cs with rfl | rfl | rfl | rfl
        · refine ⟨nI (b2n (!(x.2.2.2.1.1 s))), ?_, ?_⟩
          · rw [if_pos (show nI 0 = 0 from rfl)]
          · rw [if_pos (show nI 0 = 0 from rfl)]; exact nb01
        · refine ⟨1, ?_, ?_⟩
          · rw [if_neg (show ¬ nI 1 = 0 by decide), if_pos (show nI 1 = 1 by decide), if_pos (nle0 (by have := hC.2.len; omega))]
          · rw [if_neg (show ¬ nI 1 = 0 by decide), if_pos (show nI 1 = 1 by decide), ldA_N (by omega), Option.bind_some, n1, if_neg (show ¬ nI 1 = 0 by decide)]
        · refine ⟨(pk x.2.2.2.1.2 i).2.2, ?_, ?_⟩
          · rw [if_neg (show ¬ nI 2 = 0 by decide), if_neg (show ¬ nI 2 = 1 by decide), if_pos (show nI 2 = 2 by decide)]
          · rw [if_neg (show ¬ nI 2 = 0 by decide), if_neg (show ¬ nI 2 = 1 by decide), if_pos (show nI 2 = 2 by decide), ldA_N (by omega), Option.bind_some, n1, if_neg (show ¬ nI 1 = 0 by decide), ldA_N (by omega), Option.bind_some, n2]
            exact b01 hmk
        · refine ⟨nI (pk x.2.2.2.1.2 i).1.length, ?_, ?_⟩
          · rw [if_neg (show ¬ nI 3 = 0 by decide), if_neg (show ¬ nI 3 = 1 by decide), if_neg (show ¬ nI 3 = 2 by decide), if_pos (show nI 3 = 3 by decide)]
          · rw [if_neg (show ¬ nI 3 = 0 by decide), if_neg (show ¬ nI 3 = 1 by decide), if_neg (show ¬ nI 3 = 2 by decide), ldA_N (by omega), Option.bind_some, n1, if_neg (show ¬ nI 1 = 0 by decide), ldA_N (by omega), Option.bind_some, n3]
      · have n1 := M2 s hs32 hno
        subst hv
        rw [markOf_n hC.2 (Or.inl (by decide)), sizeOf_n hC.2 (Or.inl (by decide)), Option.bind_some]
        dsimp only
        rcases cs with rfl | rfl | rfl | rfl
        · refine ⟨nI (b2n (!(x.2.2.2.1.1 s))), ?_, ?_⟩
          · rw [if_pos (show nI 0 = 0 from rfl)]
          · rw [if_pos (show nI 0 = 0 from rfl)]; exact nb01
        · refine ⟨0, ?_, ?_⟩
          · rw [if_neg (show ¬ nI 1 = 0 by decide), if_pos (show nI 1 = 1 by decide), if_neg (show ¬ (0 : Int32) ≤ -nI 1 by decide)]
          · rw [if_neg (show ¬ nI 1 = 0 by decide), if_pos (show nI 1 = 1 by decide), ldA_N (by omega), Option.bind_some, n1, if_pos (show nI 0 = 0 from rfl)]
        · refine ⟨0, ?_, ?_⟩
          · rw [if_neg (show ¬ nI 2 = 0 by decide), if_neg (show ¬ nI 2 = 1 by decide), if_pos (show nI 2 = 2 by decide)]; rfl
          · rw [if_neg (show ¬ nI 2 = 0 by decide), if_neg (show ¬ nI 2 = 1 by decide), if_pos (show nI 2 = 2 by decide), ldA_N (by omega), Option.bind_some, n1, if_pos (show nI 0 = 0 from rfl)]
        · refine ⟨0, ?_, ?_⟩
          · rw [if_neg (show ¬ nI 3 = 0 by decide), if_neg (show ¬ nI 3 = 1 by decide), if_neg (show ¬ nI 3 = 2 by decide), if_pos (show nI 3 = 3 by decide)]; rfl
          · rw [if_neg (show ¬ nI 3 = 0 by decide), if_neg (show ¬ nI 3 = 1 by decide), if_neg (show ¬ nI 3 = 2 by decide), ldA_N (by omega), Option.bind_some, n1, if_pos (show nI 0 = 0 from rfl)]
    · have ne : ∀ m, m ≤ 3 → ¬ nI j = nI m := fun m hm z => by have := (nI_eq (by omega) (by omega)).mp z; omega
      rw [if_neg (nlt0 hj2), if_neg (show ¬ nI j ≤ 3 from fun z => by have := (nI_leI (b := 3) (by omega) (by omega)).mp z; omega), if_neg (show ¬ nI j = 0 from ne 0 (by omega)), if_neg (show ¬ nI j = 1 from ne 1 (by omega)), if_neg (show ¬ nI j = 2 from ne 2 (by omega)), if_neg (show ¬ nI j = 3 from ne 3 (by omega))]
      exact ⟨_, rfl, rfl⟩
  · rw [if_neg (nlt0 hs2), if_neg (nlt0 hs2), i_32, if_neg (show ¬ nI s < nI 32 from fun z => by have := (nI_ltI (by omega) (by omega)).mp z; omega), i_31, if_pos ((nI_ltI (by omega) (by omega)).mpr hs)]
    exact ⟨_, rfl, rfl⟩
