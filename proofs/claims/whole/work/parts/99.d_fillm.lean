/-! a frame goes down: one is begun, the reference -/
def LvM (μ : Mem) (c : Nat) (ps : List Pk) : Prop := μ.1 129 (lvl c) = nI ps.length ∧ QF μ (165 + 2 * c) (166 + 2 * c) 100 0 ps.length (fun i => (pk ps i).1)
abbrev FLv (c : Nat) : Nat → Nat → Prop := fun a k => a = 165 + 2 * c ∨ a = 166 + 2 * c ∨ a = 129 ∧ k = lvl c
theorem lvl_c {c : Nat} (h : c < 2) : c = 0 ∧ lvl c = 86 ∨ c = 1 ∧ lvl c = 90 := by
  have : c = 0 ∨ c = 1 := by omega
  rcases this with rfl | rfl
  · exact Or.inl ⟨rfl, rfl⟩
  · exact Or.inr ⟨rfl, rfl⟩
theorem LvM.fr {μ m : Mem} {c : Nat} {ps : List Pk} {P : Nat → Nat → Prop} (h : LvM μ c ps) (ho : Fr P μ m) (h1 : ∀ a k, FLv c a k → ¬ P a k) : LvM m c ps :=
  ⟨by rw [ho.1 _ _ (h1 _ _ (by omega))]; exact h.1, h.2.fr ho (fun k => h1 _ _ (by omega)) (fun k => h1 _ _ (by omega))⟩
theorem lgl {c : Nat} (h : c < 2) : 24 ≤ gln (166 + 2 * c) ∧ gln (165 + 2 * c) = 100 * gln (166 + 2 * c) := by
  have : c = 0 ∨ c = 1 := by omega
  have a1 := gl_165
  have a2 := gl_166
  have a3 := gl_167
  have a4 := gl_168
  rcases this with rfl | rfl
  · show 24 ≤ gln 166 ∧ gln 165 = 100 * gln 166; omega
  · show 24 ≤ gln 168 ∧ gln 167 = 100 * gln 168; omega
theorem idlR {μ : Mem} {c n : Nat} (h7 : 7 ≤ n) (hn : n ≤ 82) (hc : c < 2) : wp (l344_109 gF (nI (100 * c), nI n, nI 0, μ)) (fun m => Seg m 208 (100 * c) (idlL n) ∧ Fr (fun a k => a = 208 ∧ 100 * c ≤ k ∧ k < 100 * c + 100) μ m) := by
  have g := gl_208
  unfold l344_109
  refine wp_for (fun i m => (nI (100 * c), nI n, nI i, m)) (fun i m => (∀ j, j < i → m.1 208 (100 * c + j) = nI 0) ∧ Fr (fun a k => a = 208 ∧ 100 * c ≤ k ∧ k < 100 * c + 100) μ m) n (by omega) μ _ rfl ⟨fun j hj => absurd hj (Nat.not_lt_zero _), Fr.rf⟩ (fun self i m hi ⟨x1, x2⟩ hk => ?_) (fun self m ⟨x1, x2⟩ => ?_)
  · unfold b344_109
    rw [if_neg (fun z => by have := (nI_leI (by omega) (by omega)).mp z; omega), nI_add, stA_N (by omega), Option.bind_some, i_0]
    dsimp only [nm]
    rw [i_1, nI_add]
    refine hk _ ⟨fun j hj => ?_, x2.pI (by omega)⟩
    rw [rdI]
    by_cases e : j = i
    · rw [if_pos (by omega)]
    · rw [if_neg (by omega)]
      exact x1 j (by omega)
  · unfold b344_109
    rw [if_pos ((nI_leI (by omega) (by omega)).mpr (Nat.le_refl _)), i_1, i_2, i_5, i_7, i_255, i_192, stA_N (by omega), Option.bind_some, nI_add, stA_N (by omega), Option.bind_some, nI_add, stA_N (by omega), Option.bind_some, nI_add, stA_N (by omega), Option.bind_some, pk_sub (by omega)]
    refine wp_some ⟨⟨fun j hj => ?_, fun b hb => ?_⟩, (((x2.pI (by omega)).pI (by omega)).pI (by omega)).pI (by omega)⟩
    · rw [idlL_len h7] at hj
      have z := x1 j hj
      rw [rdI, rdI, rdI, rdI]
      unfold idlL
      rw [getD_app]
      by_cases e0 : j = 0
      · subst e0
        rw [if_neg (by omega), if_neg (by omega), if_neg (by omega), if_pos (by omega)]
        rfl
      · by_cases e1 : j = 1
        · subst e1
          rw [if_neg (by omega), if_neg (by omega), if_pos (by omega)]
          rfl
        · by_cases e2 : j = 2
          · subst e2
            rw [if_neg (by omega), if_pos (by omega)]
            rfl
          · by_cases e5 : j = 5
            · subst e5
              rw [if_pos (by omega)]
              rfl
            · rw [if_neg (by omega), if_neg (by omega), if_neg (by omega), if_neg (by omega), z]
              by_cases e3 : j = 3
              · subst e3; rfl
              · by_cases e4 : j = 4
                · subst e4; rfl
                · rw [if_neg (by show ¬ j < 6; omega)]
                  congr 1
                  rw [List.getD_eq_getElem?_getD]
                  by_cases e : j - 6 < n - 6
                  · rw [List.getElem?_replicate, if_pos (by show j - 6 < n - 6; omega)]
                    rfl
                  · rw [List.getElem?_replicate, if_neg (by show ¬ j - 6 < n - 6; omega)]
                    rfl
    · unfold idlL at hb
      rcases List.mem_append.mp hb with z | z
      · have : b = 7 ∨ b = 255 ∨ b = 192 ∨ b = 0 ∨ b = 0 ∨ b = n - 7 := by simpa using z
        omega
      · rw [(List.mem_replicate.mp z).2]; decide
theorem shL_M {μ : Mem} {c : Nat} {ps : List Pk} (h : LvM μ c ps) (hI : ShI ps) (hc : c < 2) (h0 : 0 < ps.length) (hcap : ps.length ≤ gln (166 + 2 * c)) : wp (l344_204 gF (nI c, 165 + 2 * c, 166 + 2 * c, nI ps.length, nI 1, μ)) (fun m => LvM m c (ps.eraseIdx 0) ∧ Fr (FLv c) μ m) := by
  have hg := lgl hc
  have hl40 := hI.1
  have hcc := lvl_c hc
  have hle : (ps.eraseIdx 0).length = ps.length - 1 := List.length_eraseIdx_of_lt h0
  unfold l344_204
  refine wp_for (fun i m => (nI c, 165 + 2 * c, 166 + 2 * c, nI ps.length, nI (i + 1), m)) (fun i m => (∀ j, j < i → m.1 (166 + 2 * c) j = nI (pk ps (j + 1)).1.length ∧ Seg m (165 + 2 * c) (100 * j) (pk ps (j + 1)).1) ∧ (∀ j, i ≤ j → j < ps.length → m.1 (166 + 2 * c) j = nI (pk ps j).1.length ∧ Seg m (165 + 2 * c) (100 * j) (pk ps j).1) ∧ Fr (fun a _ => a = 165 + 2 * c ∨ a = 166 + 2 * c) μ m) (ps.length - 1) (by omega) μ _ rfl ⟨fun j hj => absurd hj (Nat.not_lt_zero _), fun j _ hj => ⟨(h.2 j (Nat.zero_le _) hj).1, (h.2 j (Nat.zero_le _) hj).2.2⟩, Fr.rf⟩ (fun self i m hi ⟨x1, x2, x3⟩ hk => ?_) (fun self m ⟨x1, x2, x3⟩ => ?_)
  · obtain ⟨t1, t2⟩ := x2 (i + 1) (by omega) (by omega)
    have hp1 := hI.2 (i + 1) (by omega)
    unfold b344_204
    dsimp only
    rw [if_neg (fun z => by have := (nI_leI (by omega) (by omega)).mp z; omega), ldA_N (by omega), Option.bind_some, t1, i_1, pk_sub (by omega), show i + 1 - 1 = i from rfl, stA_N (by omega), Option.bind_some]
    have f3 : Fr (fun a k => a = 166 + 2 * c ∧ k = i) m (setI m (166 + 2 * c) i (nI (pk ps (i + 1)).1.length)) := Fr.sI ⟨rfl, rfl⟩
    have r3 : (setI m (166 + 2 * c) i (nI (pk ps (i + 1)).1.length)).1 (166 + 2 * c) i = nI (pk ps (i + 1)).1.length := by rw [rdI, if_pos ⟨rfl, rfl⟩]
    generalize setI m (166 + 2 * c) i (nI (pk ps (i + 1)).1.length) = m3 at *
    rw [ldA_N (by omega), Option.bind_some, f3.1 _ _ (by omega), t1, i_100, pk_mul, pk_mul]
    refine wp_bind (move_M (p := 165 + 2 * c) (q := 165 + 2 * c) (s := 100 * (i + 1)) (d := 100 * i) (t2.fr f3 (fun k => by omega)) rfl (by omega) (by omega) (by omega) (Or.inr (by omega))) (fun m4 ⟨d1, d2⟩ => ?_)
    have f4 : Fr (fun a k => a = 166 + 2 * c ∧ k = i ∨ a = 165 + 2 * c ∧ 100 * i ≤ k ∧ k < 100 * i + 100) m m4 := f3.tr d2 (by intro c k h; omega) (by intro c k h; omega)
    have seg : ∀ j q, j ≠ i → q.length ≤ 82 → Seg m (165 + 2 * c) (100 * j) q → Seg m4 (165 + 2 * c) (100 * j) q := fun j q hj hq hsg => ⟨fun k hk2 => by rw [f4.1 _ _ (by omega)]; exact hsg.1 k hk2, hsg.2⟩
    dsimp only [nm]
    rw [nI_add]
    refine hk m4 ⟨fun j hj => ?_, fun j h1 h2 => ?_, x3.tr f4 (fun _ _ q => q) (by intro c k h; omega)⟩
    · by_cases e : j = i
      · subst e
        exact ⟨by rw [d2.1 _ _ (by omega)]; exact r3, d1⟩
      · have hq := hI.2 (j + 1) (by omega)
        exact ⟨by rw [f4.1 _ _ (by omega)]; exact (x1 j (by omega)).1, seg j _ e hq.2 (x1 j (by omega)).2⟩
    · have hq := hI.2 j h2
      exact ⟨by rw [f4.1 _ _ (by omega)]; exact (x2 j (by omega) h2).1, seg j _ (by omega) hq.2 (x2 j (by omega) h2).2⟩
  · unfold b344_204
    dsimp only
    rw [if_pos ((nI_leI (by omega) (by omega)).mpr (by omega))]
    have fin : ∀ m', m'.1 129 (lvl c) = nI (ps.length - 1) → Fr (fun a k => a = 129 ∧ k = lvl c) m m' → LvM m' c (ps.eraseIdx 0) ∧ Fr (FLv c) μ m' := by
      intro m' e1 e2
      refine ⟨⟨by rw [hle]; exact e1, fun j _ hj => ?_⟩, x3.tr e2 (by intro c k h; omega) (by intro c k h; omega)⟩
      rw [hle] at hj
      dsimp only
      rw [pk_era, if_neg (by omega)]
      have hq := hI.2 (j + 1) (by omega)
      obtain ⟨z1, z2⟩ := x1 j (by omega)
      exact ⟨by rw [e2.1 _ _ (by omega)]; exact z1, by omega, z2.fr e2 (fun k => by omega)⟩
    have e0 : m.1 129 (lvl c) = nI ps.length := by rw [x3.1 _ _ (by omega)]; exact h.1
    rcases hcc with ⟨c0, l0⟩ | ⟨c1, l1⟩
    · subst c0
      rw [l0] at fin e0
      rw [if_pos (show nI 0 = (0 : Int32) from rfl), e0, i_1, pk_sub (by omega)]
      refine pas (wp_some (fin _ ?_ (Fr.sI ⟨rfl, rfl⟩)))
      rw [rdI, if_pos ⟨rfl, rfl⟩]
    · subst c1
      rw [l1] at fin e0
      rw [if_neg (show ¬ nI 1 = (0 : Int32) by decide), e0, i_1, pk_sub (by omega)]
      refine pas (wp_some (fin _ ?_ (Fr.sI ⟨rfl, rfl⟩)))
      rw [rdI, if_pos ⟨rfl, rfl⟩]
theorem beg_M {μ : Mem} {c room : Nat} {g : Bg} {ps : List Pk} (hB : BgM μ c g) (hc : c < 2) (hs : LvM μ c ps) (hI : ShI ps) (hcap : ps.length ≤ gln (166 + 2 * c)) (hr : room ≤ 52) : wp (f344 (nI c) (nI room) μ) (fun m => BgM m c (begP ps room).1 ∧ LvM m c (begP ps room).2 ∧ Fr (fun a k => FBm c a k ∨ FLv c a k) μ m) := by
  have g8 := gl_208
  have g9 := gl_209
  have g10 := gl_210
  have g11 := gl_211
  have hg := lgl hc
  have hl40 := hI.1
  have hcc := lvl_c hc
  have f1 : Fr (fun a k => a = 210 ∧ k = c) μ (setI μ 210 c (nI 0)) := Fr.sI ⟨rfl, rfl⟩
  have r1 : (setI μ 210 c (nI 0)).1 210 c = nI 0 := by rw [rdI, if_pos ⟨rfl, rfl⟩]
  have key : wp (c344_61 (nI c) (nI room) (nI (100 * c)) (165 + 2 * c) (166 + 2 * c) (nI ps.length) (setI μ 210 c (nI 0))) (fun m => BgM m c (begP ps room).1 ∧ LvM m c (begP ps room).2 ∧ Fr (fun a k => FBm c a k ∨ FLv c a k) μ m) := by
    generalize setI μ 210 c (nI 0) = m1 at *
    have hs1 := hs.fr f1 (fun a k _ => by omega)
    have hB2 := hB.2.1
    unfold c344_61 c344_78 begP
    by_cases q : ps.length = 0
    · rw [if_pos q, q, if_pos (show nI 0 = (0 : Int32) from rfl), stZ_N (by omega), Option.bind_some, show (1 : Int32) &&& 1 = nI 1 by decide, if_pos (show nI 0 = (0 : Int32) from rfl)]
      have f2 : Fr (fun a k => a = 211 ∧ k = c) m1 (setI m1 211 c (nI 1)) := Fr.sI ⟨rfl, rfl⟩
      have r2 : (setI m1 211 c (nI 1)).1 211 c = nI 1 := by rw [rdI, if_pos ⟨rfl, rfl⟩]
      generalize setI m1 211 c (nI 1) = m2 at *
      have idl : wp (c344_96 (nI c) (nI (100 * c)) (nI (max room 7)) m2) (fun m => BgM m c (idlL (max room 7), 0, true) ∧ LvM m c ps ∧ Fr (fun a k => FBm c a k ∨ FLv c a k) μ m) := by
        unfold c344_96
        rw [stA_N (by omega), Option.bind_some, i_0]
        have f3 : Fr (fun a k => a = 209 ∧ k = c) m2 (setI m2 209 c (nI (max room 7))) := Fr.sI ⟨rfl, rfl⟩
        have r3 : (setI m2 209 c (nI (max room 7))).1 209 c = nI (max room 7) := by rw [rdI, if_pos ⟨rfl, rfl⟩]
        generalize setI m2 209 c (nI (max room 7)) = m3 at *
        refine wp_mono (idlR (n := max room 7) (by omega) (by omega) hc) (fun m4 ⟨o1, o2⟩ => ?_)
        have f14 : Fr (FBm c) μ m4 := ((f1.tr f2 (P := FBm c) (by intro c k h; omega) (by intro c k h; omega)).tr f3 (fun _ _ q => q) (by intro c k h; omega)).tr o2 (fun _ _ q => q) (by intro c k h; omega)
        refine ⟨⟨?_, o1, ?_, ?_⟩, hs.fr f14 (fun a k _ => by omega), f14.mono (by intro c k h; omega)⟩
        · rw [o2.1 _ _ (by omega), idlL_len (by omega)]; exact r3
        · rw [o2.1 _ _ (by omega), f3.1 _ _ (by omega), f2.1 _ _ (by omega)]; exact r1
        · rw [o2.1 _ _ (by omega), f3.1 _ _ (by omega)]; exact r2
      rw [i_7]
      by_cases e : 7 ≤ room
      · rw [if_pos ((nI_leI (by omega) (by omega)).mpr e)]
        rw [show max room 7 = room by omega] at idl ⊢
        exact idl
      · rw [if_neg (fun z => e ((nI_leI (by omega) (by omega)).mp z))]
        rw [show max room 7 = 7 by omega] at idl ⊢
        exact idl
    · have h0 := hI.2 0 (by omega)
      have hz : ¬ nI ps.length = (0 : Int32) := fun z => q ((nI_eq (a := ps.length) (b := 0) (by omega) (by omega)).mp z)
      rw [if_neg q, if_neg hz, stZ_N (by omega), Option.bind_some, show (0 : Int32) &&& 1 = nI 0 by decide, if_neg hz]
      have f2 : Fr (fun a k => a = 211 ∧ k = c) m1 (setI m1 211 c (nI 0)) := Fr.sI ⟨rfl, rfl⟩
      have r2 : (setI m1 211 c (nI 0)).1 211 c = nI 0 := by rw [rdI, if_pos ⟨rfl, rfl⟩]
      generalize setI m1 211 c (nI 0) = m2 at *
      have hs2 := hs1.fr f2 (fun a k _ => by omega)
      obtain ⟨z1, z2, z3⟩ := hs2.2 0 (Nat.zero_le _) (by omega)
      dsimp only at z1 z2 z3
      rw [i_0, ldA_N (by omega), Option.bind_some, z1, stA_N (by omega), Option.bind_some]
      have f3 : Fr (fun a k => a = 209 ∧ k = c) m2 (setI m2 209 c (nI (pk ps 0).1.length)) := Fr.sI ⟨rfl, rfl⟩
      have r3 : (setI m2 209 c (nI (pk ps 0).1.length)).1 209 c = nI (pk ps 0).1.length := by rw [rdI, if_pos ⟨rfl, rfl⟩]
      generalize setI m2 209 c (nI (pk ps 0).1.length) = m3 at *
      rw [ldA_N (by omega), Option.bind_some, f3.1 _ _ (by omega), z1]
      refine wp_bind (move_M (q := 208) (d := 100 * c) (s := 0) (z3.fr f3 (fun k => by omega)) rfl (by omega) (by omega) (by omega) (Or.inl (by omega))) (fun m4 ⟨d1, d2⟩ => ?_)
      have f14 : Fr (FBm c) μ m4 := ((f1.tr f2 (P := FBm c) (by intro c k h; omega) (by intro c k h; omega)).tr f3 (fun _ _ q => q) (by intro c k h; omega)).tr d2 (fun _ _ q => q) (by intro c k h; omega)
      rw [i_1]
      refine wp_mono (shL_M (hs.fr f14 (fun a k _ => by omega)) hI hc (by omega) hcap) (fun m5 ⟨o1, o2⟩ => ⟨⟨?_, d1.fr o2 (fun k => by omega), ?_, ?_⟩, o1, f14.tr o2 (by intro c k h; omega) (by intro c k h; omega)⟩)
      · rw [o2.1 _ _ (by omega), d2.1 _ _ (by omega)]; exact r3
      · rw [o2.1 _ _ (by omega), d2.1 _ _ (by omega), f3.1 _ _ (by omega), f2.1 _ _ (by omega)]; exact r1
      · rw [o2.1 _ _ (by omega), d2.1 _ _ (by omega), f3.1 _ _ (by omega)]; exact r2
  have hcnt : (setI μ 210 c (nI 0)).1 129 (lvl c) = nI ps.length := by rw [f1.1 _ _ (by omega)]; exact hs.1
  unfold f344
  dsimp only [nm]
  rw [i_100, pk_mul, i_0, stA_N (by omega), Option.bind_some]
  unfold c344_27 c344_44
  rcases hcc with ⟨c0, l0⟩ | ⟨c1, l1⟩
  · rw [l0] at hcnt
    subst c0
    rw [if_pos rfl, if_pos (show nI 0 = (0 : Int32) from rfl), if_pos (show nI 0 = (0 : Int32) from rfl), hcnt]
    exact key
  · rw [l1] at hcnt
    subst c1
    rw [if_neg (show ¬ nI 1 = nI 0 by decide), if_neg (show ¬ nI 1 = (0 : Int32) by decide), if_neg (show ¬ nI 1 = (0 : Int32) by decide), hcnt]
    exact key
