/-! ===== a frame goes down: what is begun ===== -/
abbrev Bg : Type := List Nat × Nat × Bool
def BgC (μ : Mem) (c : Nat) (g : Bg) : Prop := Byt μ (90 + 2 * c) g.1 ∧ μ.1 94 c = nI g.2.1 ∧ μ.1 95 c = nI (b2n g.2.2)
def BgM (μ : Mem) (c : Nat) (g : Bg) : Prop := μ.1 209 c = nI g.1.length ∧ Seg μ 208 (100 * c) g.1 ∧ μ.1 210 c = nI g.2.1 ∧ μ.1 211 c = nI (b2n g.2.2)
def BgI (g : Bg) : Prop := g.2.1 ≤ g.1.length ∧ g.1.length ≤ 82
abbrev FBg (c : Nat) : Nat → Nat → Prop := fun a k => a = 90 + 2 * c ∨ a = 91 + 2 * c ∨ (a = 94 ∨ a = 95) ∧ k = c
abbrev FBm (c : Nat) : Nat → Nat → Prop := fun a k => (209 ≤ a ∧ a ≤ 211) ∧ k = c ∨ a = 208 ∧ 100 * c ≤ k ∧ k < 100 * c + 100
theorem BgC.fr {μ m : Mem} {c : Nat} {g : Bg} {P : Nat → Nat → Prop} (h : BgC μ c g) (ho : Fr P μ m) (h1 : ∀ a k, FBg c a k → ¬ P a k) : BgC m c g :=
  ⟨h.1.fr ho (h1 _ _ (by omega)) (fun k => h1 _ _ (by omega)), by rw [ho.1 _ _ (h1 _ _ (by omega))]; exact h.2.1, by rw [ho.1 _ _ (h1 _ _ (by omega))]; exact h.2.2⟩
theorem BgM.fr {μ m : Mem} {c : Nat} {g : Bg} {P : Nat → Nat → Prop} (h : BgM μ c g) (hI : BgI g) (ho : Fr P μ m) (h1 : ∀ a k, FBm c a k → ¬ P a k) : BgM m c g := by
  obtain ⟨i1, i2⟩ := hI
  refine ⟨?_, ⟨fun i hi => ?_, h.2.1.2⟩, ?_, ?_⟩
  · rw [ho.1 _ _ (h1 _ _ (by omega))]; exact h.1
  · rw [ho.1 _ _ (h1 _ _ (by omega))]; exact h.2.1.1 i hi
  · rw [ho.1 _ _ (h1 _ _ (by omega))]; exact h.2.2.1
  · rw [ho.1 _ _ (h1 _ _ (by omega))]; exact h.2.2.2
theorem ldR89 {i : Nat} (h : i < 2) : ldR 89 (nI i) = some (90 + 2 * i) := by
  have : i = 0 ∨ i = 1 := by omega
  rcases this with rfl | rfl
  · decide +kernel
  · decide +kernel
theorem bgl {c : Nat} (h : c < 2) : gln (90 + 2 * c + 1) = 82 := by
  have : c = 0 ∨ c = 1 := by omega
  rcases this with rfl | rfl
  · exact gl_91
  · exact gl_93
theorem left_C {μ : Mem} {c : Nat} {g : Bg} (h : BgC μ c g) (hI : BgI g) (hc : c < 2) : f124 (nI c) μ = some (μ, nI (g.1.length - g.2.1)) := by
  have gl := gl_94
  have e1 := h.1.1
  have e2 := h.2.1
  obtain ⟨i1, i2⟩ := hI
  unfold f124
  rw [i_1, an_1, Nat.mod_eq_of_lt hc, ldR89 hc, Option.bind_some, ldA_N (by omega), Option.bind_some, e1, e2, pk_sub i1]
def wnt (g : Bg) (n : Nat) : Bool := decide (0 < n ∨ g.2.2 = false ∧ g.2.1 < g.1.length)
theorem wants_C {μ : Mem} {c a : Nat} {g : Bg} {ps : List Pk} (h : BgC μ c g) (hI : BgI g) (hc : c < 2) (hs : Shf μ a ps) : f123 (nI c) a μ = some (μ, nI (b2n (wnt g ps.length))) := by
  have gl := gl_95
  have h5 := hs.1
  have hl := hs.len
  have e3 := h.2.2
  have el := left_C h hI hc
  obtain ⟨i1, i2⟩ := hI
  unfold f123 c123_26 wnt
  rw [h5, i_0]
  by_cases q : 0 < ps.length
  · rw [if_pos ((nI_ltI (by omega) (by omega)).mpr q), decide_eq_true (Or.inl q)]
    rfl
  · rw [if_neg (fun z => q ((nI_ltI (by omega) (by omega)).mp z)), i_1, an_1, Nat.mod_eq_of_lt hc, ldA_N (by omega), Option.bind_some, e3]
    cases hg : g.2.2
    · rw [b2n_f, if_pos rfl, el, Option.bind_some]
      dsimp only
      by_cases q2 : g.2.1 < g.1.length
      · rw [if_neg (fun z => by have := (nI_leI (by omega) (by omega)).mp z; omega), decide_eq_true (Or.inr ⟨rfl, q2⟩)]
        rfl
      · rw [if_pos ((nI_leI (by omega) (by omega)).mpr (by omega)), decide_eq_false (fun z => by omega)]
        rfl
    · rw [b2n_t, if_neg (by decide), decide_eq_false (fun z => z.elim q (fun w => absurd w.1 (by decide)))]
      rfl
def lvl (c : Nat) : Nat := if c = 0 then 86 else 90
theorem wants_M {μ : Mem} {c n : Nat} {g : Bg} (h : BgM μ c g) (hI : BgI g) (hc : c < 2) (hn : μ.1 129 (lvl c) = nI n) (hn2 : n < 1000) : f343 (nI c) μ = some (μ, nI (b2n (wnt g n))) := by
  have g1 := gl_209
  have g2 := gl_210
  have g3 := gl_211
  obtain ⟨e1, e2, e3, e4⟩ := h
  obtain ⟨i1, i2⟩ := hI
  have key : c343_15 (nI c) (nI n) μ = some (μ, nI (b2n (wnt g n))) := by
    unfold c343_15 c343_35 f342 wnt
    rw [i_0]
    by_cases q : 0 < n
    · rw [if_pos ((nI_ltI (by omega) (by omega)).mpr q), decide_eq_true (Or.inl q)]
      rfl
    · rw [if_neg (fun z => q ((nI_ltI (by omega) (by omega)).mp z)), ldA_N (by omega), Option.bind_some, ldA_N (by omega), Option.bind_some, e1, e3]
      by_cases q2 : g.2.1 < g.1.length
      · rw [if_neg (fun z => by have := (nI_leI (by omega) (by omega)).mp z; omega), i_1, rtZ_1, Option.bind_some]
        dsimp only
        rw [if_neg (show ¬ nI 1 = nI 0 by decide), ldA_N (by omega), Option.bind_some, e4]
        cases hg : g.2.2
        · rw [b2n_f, if_pos rfl, decide_eq_true (Or.inr ⟨rfl, q2⟩)]
          rfl
        · rw [b2n_t, if_neg (by decide), decide_eq_false (fun z => z.elim q (fun w => absurd w.1 (by decide)))]
          rfl
      · rw [if_pos ((nI_leI (by omega) (by omega)).mpr (by omega)), rtZ_0, Option.bind_some]
        dsimp only
        rw [if_pos rfl, decide_eq_false (fun z => by omega)]
        rfl
  unfold f343
  have : c = 0 ∨ c = 1 := by omega
  rcases this with rfl | rfl
  · rw [if_pos (show nI 0 = (0 : Int32) from rfl), show μ.1 129 86 = nI n from hn]
    exact key
  · rw [if_neg (show ¬ nI 1 = (0 : Int32) by decide), show μ.1 129 90 = nI n from hn]
    exact key
/-! one is begun -/
def idlL (n : Nat) : List Nat := [7, 255, 192, 0, 0, n - 7] ++ List.replicate (n - 6) 0
theorem idlL_len {n : Nat} (h : 7 ≤ n) : (idlL n).length = n := by
  unfold idlL
  rw [List.length_append, List.length_replicate]
  show 6 + (n - 6) = n
  omega
def begP (ps : List Pk) (room : Nat) : Bg × List Pk := if ps.length = 0 then ((idlL (max room 7), 0, true), ps) else (((pk ps 0).1, 0, false), ps.eraseIdx 0)
def ShI (ps : List Pk) : Prop := ps.length ≤ 40 ∧ ∀ i, i < ps.length → 15 ≤ (pk ps i).1.length ∧ (pk ps i).1.length ≤ 82
theorem begP_I {ps : List Pk} {room : Nat} (h : ShI ps) (hr : room ≤ 52) : BgI (begP ps room).1 ∧ ShI (begP ps room).2 ∧ (begP ps room).1.2.1 = 0 ∧ 7 ≤ (begP ps room).1.1.length := by
  unfold begP
  by_cases q : ps.length = 0
  · rw [if_pos q]
    have hl := idlL_len (n := max room 7) (by omega)
    exact ⟨⟨Nat.zero_le _, by show (idlL (max room 7)).length ≤ 82; omega⟩, h, rfl, by show 7 ≤ (idlL (max room 7)).length; omega⟩
  · rw [if_neg q]
    have h0 := h.2 0 (by omega)
    have hle : (ps.eraseIdx 0).length = ps.length - 1 := List.length_eraseIdx_of_lt (by omega)
    refine ⟨⟨Nat.zero_le _, h0.2⟩, ⟨by have := h.1; show (ps.eraseIdx 0).length ≤ 40; omega, fun i hi => ?_⟩, rfl, by show 7 ≤ (pk ps 0).1.length; omega⟩
    have hi2 : i < ps.length - 1 := by rw [← hle]; exact hi
    show 15 ≤ (pk (ps.eraseIdx 0) i).1.length ∧ (pk (ps.eraseIdx 0) i).1.length ≤ 82
    rw [pk_era, if_neg (by omega)]
    exact h.2 (i + 1) (by omega)
theorem low7 : lowB (nI 2047) 2 = [7, 255] := by decide +kernel
theorem low192 : lowB (nI 49152) 2 = [192, 0] := by decide +kernel
theorem lowN {n : Nat} (h : n < 256) : lowB (nI n) 2 = [0, n] := by
  have key : ∀ n, n < 256 → lowB (nI n) 2 = [0, n] := by decide +kernel
  exact key n h
theorem putIdle_C {μ : Mem} {a n : Nat} (h7 : 7 ≤ n) (hn : n ≤ 82) (hg : gln (a + 1) = 82) : wp (f127 a (nI n) μ) (fun m => Byt m a (idlL n) ∧ Fr (FB a) μ m) := by
  unfold f127
  rw [i_2047, i_49152, i_7, i_6, i_0, pk_sub (by omega), pk_sub (by omega)]
  refine wp_bind (cl_ok a μ) (fun m1 ⟨a1, a2⟩ => ?_)
  refine wp_bind (p2_ok _ a1 (by rw [hg]; decide)) (fun m2 ⟨b1, b2⟩ => ?_)
  refine wp_bind (p2_ok _ b1 (by rw [hg, low7]; decide)) (fun m3 ⟨c1, c2⟩ => ?_)
  refine wp_bind (p2_ok _ c1 (by rw [hg, low7, low192]; decide)) (fun m4 ⟨d1, d2⟩ => ?_)
  rw [low7, low192, lowN (by omega)] at d1
  refine wp_bind (pm_ok _ (n - 6) d1 (by rw [hg]; show 6 + (n - 6) ≤ 82; omega) (by omega)) (fun m5 ⟨o1, o2⟩ => wp_some ⟨o1, ((((a2.tr' b2).tr' c2).tr' d2).tr' o2)⟩)
theorem beg_C {μ : Mem} {c a room : Nat} {g : Bg} {ps : List Pk} (hB : BgC μ c g) (hc : c < 2) (hs : Shf μ a ps) (hI : ShI ps) (ha : a = 75 ∨ a = 81) (hr : room ≤ 52) : wp (f126 (nI c) a (nI room) μ) (fun m => BgC m c (begP ps room).1 ∧ Shf m a (begP ps room).2 ∧ Fr (fun b k => FBg c b k ∨ FS a b k) μ m) := by
  have g4 := gl_94
  have g5 := gl_95
  have gb := bgl hc
  have h5 := hs.1
  have hl40 := hI.1
  unfold f126 begP
  rw [i_1, an_1, Nat.mod_eq_of_lt hc, i_0, stA_N (by omega), Option.bind_some, ldR89 hc]
  have f1 : Fr (fun b k => b = 94 ∧ k = c) μ (setI μ 94 c (nI 0)) := Fr.sI ⟨rfl, rfl⟩
  have r1 : (setI μ 94 c (nI 0)).1 94 c = nI 0 := by rw [rdI, if_pos ⟨rfl, rfl⟩]
  have h5' : (setI μ 94 c (nI 0)).1 a 5 = nI ps.length := by rw [f1.1 _ _ (by omega)]; exact h5
  generalize setI μ 94 c (nI 0) = m1 at *
  rw [h5']
  by_cases q : ps.length = 0
  · rw [if_pos q, if_pos ((nI_leI (by omega) (by omega)).mpr (by omega)), Option.bind_some, i_7, jmax_N (by omega) (by omega)]
    refine wp_bind (putIdle_C (a := 90 + 2 * c) (n := max room 7) (by omega) (by omega) gb) (fun m2 ⟨b1, b2⟩ => ?_)
    rw [stA_N (by omega), Option.bind_some]
    have f3 : Fr (fun b k => b = 95 ∧ k = c) m2 (setI m2 95 c (nI 1)) := Fr.sI ⟨rfl, rfl⟩
    have r3 : (setI m2 95 c (nI 1)).1 95 c = nI 1 := by rw [rdI, if_pos ⟨rfl, rfl⟩]
    generalize setI m2 95 c (nI 1) = m3 at *
    have f13 : Fr (FBg c) μ m3 := (f1.tr b2 (P := FBg c) (by intro c k h; omega) (by intro c k h; omega)).tr f3 (fun _ _ q => q) (by intro c k h; omega)
    exact wp_some ⟨⟨b1.fr f3 (by omega) (fun k => by omega), by rw [f3.1 _ _ (by omega), b2.1 _ _ (by omega)]; exact r1, r3⟩, hs.fr f13 (fun b k _ _ => by omega), f13.mono (by intro c k h; omega)⟩
  · rw [if_neg q, if_neg (fun z => q (by have := (nI_leI (by omega) (by omega)).mp z; omega)), Option.bind_some]
    have hs1 := hs.fr f1 (fun b k _ _ => by omega)
    have h0 := hI.2 0 (by omega)
    refine wp_bind (copyOut_C (i := 0) (p := 90 + 2 * c) hs1 (by omega) (by omega) (by rw [gb]; omega)) (fun m2 ⟨b1, b2⟩ => ?_)
    refine wp_bind (shrem_C (j := 0) (hs1.fr b2 (fun b k _ _ => by omega)) (by omega)) (fun m3 ⟨c1, c2⟩ => ?_)
    rw [stA_N (by omega), Option.bind_some]
    have f4 : Fr (fun b k => b = 95 ∧ k = c) m3 (setI m3 95 c (nI 0)) := Fr.sI ⟨rfl, rfl⟩
    have r4 : (setI m3 95 c (nI 0)).1 95 c = nI 0 := by rw [rdI, if_pos ⟨rfl, rfl⟩]
    generalize setI m3 95 c (nI 0) = m4 at *
    have f14 : Fr (fun b k => FBg c b k ∨ FS a b k) μ m4 := ((f1.tr b2 (P := fun b k => FBg c b k ∨ FS a b k) (by intro c k h; omega) (by intro c k h; omega)).tr c2 (fun _ _ q => q) (by intro c k h; omega)).tr f4 (fun _ _ q => q) (by intro c k h; omega)
    exact wp_some ⟨⟨(b1.fr c2 (by omega) (fun k => by omega)).fr f4 (by omega) (fun k => by omega), by rw [f4.1 _ _ (by omega), c2.1 _ _ (by omega), b2.1 _ _ (by omega)]; exact r1, r4⟩, c1.fr f4 (fun b k _ _ => by omega), f14⟩
