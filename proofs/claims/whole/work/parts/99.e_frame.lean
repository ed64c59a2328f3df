/-! a frame goes down: the whole of it, the class -/
def bitsN (a b c d : Nat) : Nat := 32 * a + 16 * b + 8 * c + 2 * d
theorem bits_o : ∀ a, a < 2 → ∀ b, b < 2 → ∀ c, c < 2 → ∀ d, d < 4 → ((jshl (nI a) (nI 5) ||| jshl (nI b) (nI 4)) ||| jshl (nI c) (nI 3)) ||| jshl (nI d) (nI 1) = nI (bitsN a b c d) := by decide +kernel
def bitsY (y : Nat → Int32) : Nat := bitsN (nt (y 1)) (nt (y 2)) (nt (y 3)) (nt (y 4))
theorem YI.n {y : Nat → Int32} (h : YI y) : (nt (y 0) < 256 ∧ y 0 = nI (nt (y 0))) ∧ (nt (y 1) < 2 ∧ y 1 = nI (nt (y 1))) ∧ (nt (y 2) < 2 ∧ y 2 = nI (nt (y 2))) ∧ (nt (y 3) < 2 ∧ y 3 = nI (nt (y 3))) ∧ (nt (y 4) < 4 ∧ y 4 = nI (nt (y 4))) := by
  obtain ⟨⟨v, hv, y0⟩, y1, y2, y3, ⟨b, hb4, y4⟩, _⟩ := h
  have z0 : nt (nI 0) = 0 := rfl
  have z1 : nt (nI 1) = 1 := rfl
  refine ⟨?_, ?_, ?_, ?_, ?_⟩
  · rw [y0, nt_nI (by omega)]; exact ⟨hv, rfl⟩
  · rcases y1 with e | e <;> rw [e]
    · rw [z0]; exact ⟨by decide, rfl⟩
    · rw [z1]; exact ⟨by decide, rfl⟩
  · rcases y2 with e | e <;> rw [e]
    · rw [z0]; exact ⟨by decide, rfl⟩
    · rw [z1]; exact ⟨by decide, rfl⟩
  · rcases y3 with e | e <;> rw [e]
    · rw [z0]; exact ⟨by decide, rfl⟩
    · rw [z1]; exact ⟨by decide, rfl⟩
  · rw [y4, nt_nI (by omega)]; exact ⟨hb4, rfl⟩
theorem bits_C {μ : Mem} {y : Nat → Int32} (h : UmC μ y) (hI : YI y) : f195 μ = some (μ, nI (bitsY y)) := by
  obtain ⟨z0, z1, z2, z3, z4, z5⟩ := h.a
  obtain ⟨_, ⟨a1, b1⟩, ⟨a2, b2⟩, ⟨a3, b3⟩, ⟨a4, b4⟩⟩ := hI.n
  unfold f195
  rw [z1, z2, z3, z4, b1, b2, b3, b4, i_5, i_4, i_3, i_1, bits_o _ a1 _ a2 _ a3 _ a4]
  rfl
theorem bitsY_lt {y : Nat → Int32} (hI : YI y) : bitsY y < 256 := by
  obtain ⟨_, ⟨a1, b1⟩, ⟨a2, b2⟩, ⟨a3, b3⟩, ⟨a4, b4⟩⟩ := hI.n
  unfold bitsY bitsN
  omega
def chW (g0 g1 : Bg) (n0 n1 : Nat) (st : Bool) : Nat := if wnt g1 n1 = true ∧ (st = false ∨ wnt g0 n0 = false) then 1 else if wnt g0 n0 = true then 0 else 7
theorem chW_c (g0 g1 : Bg) (n0 n1 : Nat) (st : Bool) : chW g0 g1 n0 n1 st = 0 ∨ chW g0 g1 n0 n1 st = 1 ∨ chW g0 g1 n0 n1 st = 7 := by
  unfold chW
  split
  · exact Or.inr (Or.inl rfl)
  · split
    · exact Or.inl rfl
    · exact Or.inr (Or.inr rfl)
theorem chan_C {μ : Mem} {g0 g1 : Bg} {lv pd : List Pk} {st : Bool} (h0 : BgC μ 0 g0) (h1 : BgC μ 1 g1) (i0 : BgI g0) (i1 : BgI g1) (s0 : Shf μ 75 lv) (s1 : Shf μ 81 pd) (hst : μ.1 57 17 = nI (b2n st)) : f122 μ = some (μ, nI (chW g0 g1 lv.length pd.length st)) := by
  have w0 := wants_C h0 i0 (by omega) s0
  have w1 := wants_C h1 i1 (by omega) s1
  unfold f122 c122_35 chW
  rw [i_0, i_1, w0, Option.bind_some]
  dsimp only
  rw [w1, Option.bind_some]
  dsimp only
  rw [hst]
  cases wnt g1 pd.length <;> cases wnt g0 lv.length <;> cases st <;> rfl
/-- the frame, before its check -/
def frB (hd : List Nat) (fst : Nat) (ct : List Nat) (bits v : Nat) : List Nat := hd ++ ([24 + fst / 256, fst % 256] ++ (ct ++ ([1, 0] ++ ([bits] ++ [v]))))
def frF (B : List Nat) : List Nat := B ++ lowB (nI (crc B)) 2
def mkF (B ns : List Nat) : List Nat := [26, 207, 252, 29] ++ mixL (frF B) ns
def dnL (n : Nat) (g : Nat → Bool) (F : List Nat) : Nat × (Nat → Bool) := if n + 544 ≤ 64000 then (n + 544, apB n g F) else (n, g)
theorem f24o : ∀ f, f < 2048 → byv (nI 24 ||| jshr (nI f) (nI 8)) = 24 + f / 256 ∧ byv (nI f) = f % 256 := by
  intro f hf
  rw [jshr_N (by omega) (by omega), nx_or, byv_nat, byv_nat]
  have key : ∀ k, k < 8 → (24 ||| k) % 256 = 24 + k := by decide
  exact ⟨key (f / 2 ^ 8) (by omega), rfl⟩
abbrev FTc : Nat → Nat → Prop := fun c k => c = 57 ∧ 15 ≤ k ∧ k ≤ 17 ∨ 96 ≤ c ∧ c ≤ 100 ∨ 7 ≤ c ∧ c ≤ 8
theorem tail_C {μ : Mem} {ch al ow fst bits v a b n : Nat} {own : Nat → Nat} {g : Nat → Bool} {ct ns : List Nat} (hT : Tb μ) (hb : Byt μ 97 ([a, b, al, ow] ++ [0, 0] ++ ct)) (hct : ct.length = 52) (hf : μ.1 57 16 = nI fst) (hf2 : fst < 2048) (hbits : bits < 256) (hv : v < 256) (hal : μ.1 57 15 = nI al) (hown : ∀ i, i < 8 → μ.1 96 i = nI (own i)) (hch : ch < 8) (hns : SegB μ 27 0 ns) (hnl : ns.length = 64) (hl : LinC μ 7 64000 n g) : wp (c121_114 (nI bits) (nI v) (nI ch) μ) (fun m => m.1 57 15 = nI ((al + 1) % 256) ∧ (∀ i, i < 8 → m.1 96 i = nI (upL own ch ((own ch + 1) % 256) i)) ∧ LinC m 7 64000 (dnL n g (mkF (frB [a, b, al, ow] fst ct bits v) ns)).1 (dnL n g (mkF (frB [a, b, al, ow] fst ct bits v) ns)).2 ∧ Fr (fun c k => c = 57 ∧ k = 15 ∨ 96 ≤ c ∧ c ≤ 100 ∨ 7 ≤ c ∧ c ≤ 8) μ m) := by
  have g98 : gln (97 + 1) = 64 := gl_98
  have g100 : gln (99 + 1) = 68 := gl_100
  have g27 := gl_27
  have g96 := gl_96
  obtain ⟨o1, o2⟩ := f24o fst hf2
  have hlen : ([a, b, al, ow] ++ [0, 0] ++ ct).length = 58 := by rw [List.length_append, hct]; rfl
  unfold c121_114
  rw [i_4, i_24, i_8, hf]
  refine wp_bind (set_ok (i := 4) _ hb (by omega)) (fun m1 ⟨a1, a2⟩ => ?_)
  rw [o1] at a1
  have hf1 : m1.1 57 16 = nI fst := by rw [a2.1 _ _ (by omega)]; exact hf
  rw [i_5, hf1]
  refine wp_bind (set_ok (i := 5) _ a1 (by rw [List.length_set]; omega)) (fun m2 ⟨b1, b2⟩ => ?_)
  rw [o2] at b1
  have e2 : ((([a, b, al, ow] ++ [0, 0] ++ ct).set 4 (24 + fst / 256)).set 5 (fst % 256)) = [a, b, al, ow] ++ ([24 + fst / 256, fst % 256] ++ ct) := rfl
  rw [e2] at b1
  have hl2 : ([a, b, al, ow] ++ ([24 + fst / 256, fst % 256] ++ ct)).length = 58 := by
    rw [List.length_append, List.length_append, hct]; rfl
  rw [i_256]
  refine wp_bind (p2_ok _ b1 (by omega)) (fun m3 ⟨c1, c2⟩ => ?_)
  rw [show lowB (nI 256) 2 = [1, 0] by decide +kernel] at c1
  refine wp_bind (pu_ok _ c1 (by rw [List.length_append, hl2, g98]; decide)) (fun m4 ⟨d1, d2⟩ => ?_)
  rw [byv_nI hbits] at d1
  refine wp_bind (pu_ok _ d1 (by rw [List.length_append, List.length_append, hl2, g98]; show 58 + 2 + 1 < 64; decide)) (fun m5 ⟨n1, n2⟩ => ?_)
  rw [byv_nI hv] at n1
  have eB : [a, b, al, ow] ++ ([24 + fst / 256, fst % 256] ++ ct) ++ [1, 0] ++ [bits] ++ [v] = frB [a, b, al, ow] fst ct bits v := by
    unfold frB
    simp only [List.append_assoc]
  rw [eB] at n1
  have hBl : (frB [a, b, al, ow] fst ct bits v).length = 62 := by
    rw [← eB, List.length_append, List.length_append, List.length_append, hl2]; rfl
  have f5 : Fr (FB 97) μ m5 := (((a2.tr' b2).tr' c2).tr' d2).tr' n2
  generalize frB [a, b, al, ow] fst ct bits v = B at *
  refine wp_bind (putCheck_ok (hT.fr f5 (fun k => by omega)) n1 (by omega) (by omega)) (fun m6 ⟨p1, p2⟩ => ?_)
  have f6 : Fr (FB 97) μ m6 := f5.tr' p2
  have hFl : (frF B).length = 64 := by unfold frF; rw [List.length_append, lowB_len, hBl]
  change Byt m6 97 (frF B) at p1
  have hal6 : m6.1 57 15 = nI al := by rw [f6.1 _ _ (by omega)]; exact hal
  rw [hal6, i_1, nI_add, i_255, an_255]
  refine wp_bind (wp_some rfl) (fun m7 hm7 => ?_)
  have f7 : Fr (fun c k => c = 57 ∧ k = 15) m6 m7 := by rw [← hm7]; exact Fr.sI ⟨rfl, rfl⟩
  have r7 : m7.1 57 15 = nI ((al + 1) % 256) := by rw [← hm7, rdI, if_pos ⟨rfl, rfl⟩]
  clear hm7
  have e96 : m7.1 96 ch = nI (own ch) := by rw [f7.1 _ _ (by omega), f6.1 _ _ (by omega)]; exact hown ch hch
  rw [i_7, an_7, Nat.mod_eq_of_lt hch, ldA_N (by omega), Option.bind_some, e96, nI_add, an_255, stA_N (by omega), Option.bind_some]
  have f8 : Fr (fun c k => c = 96 ∧ k = ch) m7 (setI m7 96 ch (nI ((own ch + 1) % 256))) := Fr.sI ⟨rfl, rfl⟩
  have r8 : (setI m7 96 ch (nI ((own ch + 1) % 256))).1 96 ch = nI ((own ch + 1) % 256) := by rw [rdI, if_pos ⟨rfl, rfl⟩]
  generalize setI m7 96 ch (nI ((own ch + 1) % 256)) = m8 at *
  have f78 : Fr (fun c k => c = 57 ∧ k = 15 ∨ c = 96 ∧ k = ch) m6 m8 := f7.tr f8 (by intro c k h; omega) (by intro c k h; omega)
  have f08 : Fr (fun c k => c = 57 ∧ k = 15 ∨ 96 ≤ c ∧ c ≤ 100 ∨ 7 ≤ c ∧ c ≤ 8) μ m8 := (f6.mono (by intro c k h; omega)).tr f78 (fun _ _ q => q) (by intro c k h; omega)
  have hns8 : SegB m8 27 0 ns := ⟨fun i hi => by rw [f08.1 _ _ (by omega)]; exact hns.1 i hi, hns.2⟩
  refine wp_bind (mix_ok (p1.fr f78 (by omega) (fun k => by omega)) hns8 (by omega) (by omega) (by omega) (by omega)) (fun m9 ⟨q1, q2⟩ => ?_)
  refine wp_bind (cl_ok 99 m9) (fun m10 ⟨s1, s2⟩ => ?_)
  rw [i_449838109]
  refine wp_bind (p4_ok _ s1 (by rw [g100]; decide)) (fun m11 ⟨t1, t2⟩ => ?_)
  rw [show [] ++ lowB (nI 449838109) 4 = [26, 207, 252, 29] by decide +kernel] at t1
  have hml : (mixL (frF B) ns).length = 64 := by rw [mixL_len]; exact hFl
  have f10_11 : Fr (FB 99) m9 m11 := s2.tr' t2
  refine wp_bind (putAll_ok t1 (q1.fr f10_11 (by omega) (fun k => by omega)) (by rw [g100, hml]; decide)) (fun m12 ⟨u1, u2⟩ => ?_)
  have f9_12 : Fr (FB 99) m9 m12 := f10_11.tr' u2
  have f812 : Fr (fun c k => 97 ≤ c ∧ c ≤ 100) m8 m12 := q2.tr f9_12 (by intro c k h; omega) (by intro c k h; omega)
  have f012 : Fr (fun c k => c = 57 ∧ k = 15 ∨ 96 ≤ c ∧ c ≤ 100 ∨ 7 ≤ c ∧ c ≤ 8) μ m12 := f08.tr f812 (fun _ _ q => q) (by intro c k h; omega)
  change Byt m12 99 (mkF B ns) at u1
  have hkl : (mkF B ns).length = 68 := by unfold mkF; rw [List.length_append, hml]; rfl
  have hl12 : LinC m12 7 64000 n g := by
    have f6' : Fr (fun c k => c = 57 ∧ k = 15 ∨ 96 ≤ c ∧ c ≤ 100) μ m12 := ((f6.mono (P := fun c k => c = 57 ∧ k = 15 ∨ 96 ≤ c ∧ c ≤ 100) (by intro c k h; omega)).tr f78 (fun _ _ q => q) (by intro c k h; omega)).tr f812 (fun _ _ q => q) (by intro c k h; omega)
    exact hl.fr f6' (fun k => by omega) (fun k => by omega)
  refine wp_bind (lput_C hl12 u1 (by omega) (by omega)) (fun r hr => ?_)
  obtain ⟨hr1, hr2⟩ := hr
  rw [hkl] at hr1
  have r7' : ∀ m', Fr (FL 7) m12 m' → m'.1 57 15 = nI ((al + 1) % 256) := fun m' hf' => by rw [hf'.1 _ _ (by omega), f812.1 _ _ (by omega), f8.1 _ _ (by omega)]; exact r7
  have own' : ∀ m', Fr (FL 7) m12 m' → ∀ i, i < 8 → m'.1 96 i = nI (upL own ch ((own ch + 1) % 256) i) := by
    intro m' hf' i hi
    rw [hf'.1 _ _ (by omega), f812.1 _ _ (by omega)]
    by_cases e : i = ch
    · subst e
      rw [upL_s]
      exact r8
    · rw [upL_o e, f78.1 _ _ (by omega), f6.1 _ _ (by omega)]
      exact hown i hi
  refine wp_some ⟨r7' _ hr2, own' _ hr2, ?_, f012.tr hr2 (fun _ _ q => q) (by intro c k h; omega)⟩
  unfold dnL
  by_cases q : n + 544 ≤ 64000
  · rw [if_pos q]
    rw [if_pos (show n + 8 * 68 ≤ 64000 from q)] at hr1
    exact hr1.2
  · rw [if_neg q]
    rw [if_neg (show ¬ n + 8 * 68 ≤ 64000 from q)] at hr1
    rw [hr1.2]
    exact hl12
