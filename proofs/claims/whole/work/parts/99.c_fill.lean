/-! a frame goes down: it is filled, the class -/
abbrev Fs : Type := Bg × List Pk × Nat × List Nat
def pbF (a : Nat) (s : Fs) : Fs := if s.1.2.1 = s.1.1.length then ((begP s.2.1 (52 - a)).1, (begP s.2.1 (52 - a)).2, if s.2.2.1 = 2047 then a else s.2.2.1, s.2.2.2) else s
def emN (s : Fs) (n : Nat) : Fs := ((s.1.1, s.1.2.1 + n, s.1.2.2), s.2.1, s.2.2.1, s.2.2.2 ++ (s.1.1.drop s.1.2.1).take n)
def flN (s : Fs) : Nat → Fs
  | 0 => s
  | n + 1 => emN (pbF n (flN s n)) 1
theorem pbF_no {a : Nat} {s : Fs} (h : s.1.2.1 ≠ s.1.1.length) : pbF a s = s := by
  unfold pbF
  rw [if_neg h]
theorem emN_1 (s : Fs) (n : Nat) : emN (emN s n) 1 = emN s (n + 1) := by
  have e : (s.1.1.drop s.1.2.1).take (n + 1) = (s.1.1.drop s.1.2.1).take n ++ (s.1.1.drop (s.1.2.1 + n)).take 1 := by rw [List.take_add, List.drop_drop]
  unfold emN
  dsimp only
  rw [e, List.append_assoc, Nat.add_assoc]
theorem flN_ch {s : Fs} {a : Nat} : ∀ n, 1 ≤ n → (pbF a (flN s a)).1.2.1 + n ≤ (pbF a (flN s a)).1.1.length → flN s (a + n) = emN (pbF a (flN s a)) n
  | 0, h, _ => absurd h (by decide)
  | 1, _, _ => rfl
  | n + 2, _, h2 => by
    show emN (pbF (a + (n + 1)) (flN s (a + (n + 1)))) 1 = _
    rw [flN_ch (n + 1) (by omega) (by omega), pbF_no, emN_1]
    show (pbF a (flN s a)).1.2.1 + (n + 1) ≠ (pbF a (flN s a)).1.1.length
    omega
def FsI (a : Nat) (s : Fs) : Prop := BgI s.1 ∧ ShI s.2.1 ∧ (s.2.2.1 = 2047 ∨ s.2.2.1 ≤ 52) ∧ s.2.2.2.length = a
theorem pbF_I {a : Nat} {s : Fs} (h : FsI a s) (ha : a < 52) : FsI a (pbF a s) ∧ (pbF a s).1.2.1 < (pbF a s).1.1.length := by
  unfold pbF
  by_cases q : s.1.2.1 = s.1.1.length
  · rw [if_pos q]
    obtain ⟨b1, b2, b3, b4⟩ := begP_I (room := 52 - a) h.2.1 (by omega)
    refine ⟨⟨b1, b2, ?_, h.2.2.2⟩, by show (begP s.2.1 (52 - a)).1.2.1 < _; rw [b3]; show 0 < (begP s.2.1 (52 - a)).1.1.length; omega⟩
    show (if s.2.2.1 = 2047 then a else s.2.2.1) = 2047 ∨ (if s.2.2.1 = 2047 then a else s.2.2.1) ≤ 52
    by_cases e : s.2.2.1 = 2047
    · rw [if_pos e]; omega
    · rw [if_neg e]; exact h.2.2.1
  · rw [if_neg q]
    have := h.1.1
    exact ⟨h, by omega⟩
theorem emN_I {a n : Nat} {s : Fs} (h : FsI a s) (hn : s.1.2.1 + n ≤ s.1.1.length) : FsI (a + n) (emN s n) := by
  obtain ⟨⟨h1, h2⟩, h3, h4, h5⟩ := h
  refine ⟨⟨hn, h2⟩, h3, h4, ?_⟩
  show (s.2.2.2 ++ (s.1.1.drop s.1.2.1).take n).length = a + n
  rw [List.length_append, List.length_take, List.length_drop]
  omega
theorem flN_I {s : Fs} (h : FsI 0 s) : ∀ n, n ≤ 52 → FsI n (flN s n)
  | 0, _ => h
  | n + 1, hn => by
    obtain ⟨p1, p2⟩ := pbF_I (flN_I h n (by omega)) (by omega)
    exact emN_I p1 (by omega)
abbrev FFc (c a : Nat) : Nat → Nat → Prop := fun b k => FBg c b k ∨ FS a b k ∨ b = 97 ∨ b = 98 ∨ b = 57 ∧ k = 16
theorem fill_D {μ : Mem} {c a : Nat} {s : Fs} {hd : List Nat} (hB : BgC μ c s.1) (hc : c < 2) (ha : a = if c = 1 then 81 else 75) (hs : Shf μ a s.2.1) (hI : FsI 0 s) (hf : μ.1 57 16 = nI s.2.2.1) (hb : Byt μ 97 (hd ++ s.2.2.2)) (h6 : hd.length = 6) : wp (f125 (nI c) μ) (fun m => BgC m c (flN s 52).1 ∧ Shf m a (flN s 52).2.1 ∧ m.1 57 16 = nI (flN s 52).2.2.1 ∧ Byt m 97 (hd ++ (flN s 52).2.2.2) ∧ Fr (FFc c a) μ m) := by
  have g4 := gl_94
  have gb := bgl hc
  have g98 : gln (97 + 1) = 64 := gl_98
  have ha2 : a = 75 ∨ a = 81 := by rw [ha]; split <;> omega
  have key : wp (c125_20 (nI c) a μ) (fun m => BgC m c (flN s 52).1 ∧ Shf m a (flN s 52).2.1 ∧ m.1 57 16 = nI (flN s 52).2.2.1 ∧ Byt m 97 (hd ++ (flN s 52).2.2.2) ∧ Fr (FFc c a) μ m) := by
    unfold c125_20 l125_28
    refine wp_for (γ := Nat × Mem) (fun i x => (nI c, a, nI (52 - x.1), nI i, x.2)) (fun i x => i ≤ x.1 ∧ x.1 ≤ 52 ∧ BgC x.2 c (flN s x.1).1 ∧ Shf x.2 a (flN s x.1).2.1 ∧ x.2.1 57 16 = nI (flN s x.1).2.2.1 ∧ Byt x.2 97 (hd ++ (flN s x.1).2.2.2) ∧ Fr (FFc c a) μ x.2) 52 (by omega) (0, μ) _ rfl ⟨Nat.le_refl _, Nat.zero_le _, hB, hs, hf, hb, Fr.rf⟩ (fun self i x hi hx hk => ?_) (fun self x hx => ?_)
    · obtain ⟨t, m⟩ := x
      obtain ⟨x1, x2, x3, x4, x5, x6, x7⟩ := hx
      dsimp only at x1 x2 x3 x4 x5 x6 x7 ⊢
      have hk2 : ∀ t' m', i + 1 ≤ t' → t' ≤ 52 → BgC m' c (flN s t').1 → Shf m' a (flN s t').2.1 → m'.1 57 16 = nI (flN s t').2.2.1 → Byt m' 97 (hd ++ (flN s t').2.2.2) → Fr (FFc c a) μ m' → wp (self (nI c, a, nI (52 - t'), nI (i + 1), m')) _ := fun t' m' a1 a2 a3 a4 a5 a6 a7 => hk (t', m') ⟨a1, a2, a3, a4, a5, a6, a7⟩
      clear hk
      unfold b125_28
      rw [i_52, if_neg (fun z => by have := (nI_leI (by omega) (by omega)).mp z; omega), i_0]
      by_cases e52 : t = 52
      · subst e52
        rw [if_pos ((nI_leI (by omega) (by omega)).mpr (by omega))]
        exact wp_some ⟨x3, x4, x5, x6, x7⟩
      · rw [if_neg (fun z => e52 (by have := (nI_leI (by omega) (by omega)).mp z; omega))]
        have hI1 := flN_I hI t (by omega)
        obtain ⟨p1, p2⟩ := pbF_I hI1 (by omega)
        have hl := left_C x3 hI1.1 hc
        have cp : ∀ m', BgC m' c (pbF t (flN s t)).1 → Shf m' a (pbF t (flN s t)).2.1 → m'.1 57 16 = nI (pbF t (flN s t)).2.2.1 → Byt m' 97 (hd ++ (pbF t (flN s t)).2.2.2) → Fr (FFc c a) μ m' → wp (c125_75 (fun v2 q3 v4 v5 μ => self (v2, q3, v4, v5, μ)) (nI c) a (nI (52 - t)) (nI i) m') (fun m => BgC m c (flN s 52).1 ∧ Shf m a (flN s 52).2.1 ∧ m.1 57 16 = nI (flN s 52).2.2.1 ∧ Byt m 97 (hd ++ (flN s 52).2.2.2) ∧ Fr (FFc c a) μ m) := by
          intro m' b1 b2 b3 b4 b5
          have hl2 := left_C b1 p1.1 hc
          have hch := flN_ch (s := s) (a := t)
          generalize pbF t (flN s t) = S at *
          obtain ⟨n, hn⟩ : ∃ n, n = min (S.1.1.length - S.1.2.1) (52 - t) := ⟨_, rfl⟩
          have hn1 : 1 ≤ n ∧ n ≤ 52 - t ∧ S.1.2.1 + n ≤ S.1.1.length := by omega
          obtain ⟨⟨i1, i2⟩, i3, i4, i5⟩ := p1
          unfold c125_75
          rw [hl2, Option.bind_some]
          dsimp only [nm]
          rw [jmin_N (by omega) (by omega), ← hn, ldR89 hc, Option.bind_some, ldA_N (by omega), Option.bind_some, b1.2.1]
          have hxl : ((S.1.1.drop S.1.2.1).take n).length = n := by rw [List.length_take, List.length_drop]; omega
          have sg := b1.1.sub (i := S.1.2.1) (n := n)
          have pr := putRow_ok b4 sg (by rw [hxl, gb]; omega) (by rw [hxl, List.length_append, h6, i5, g98]; omega)
          rw [hxl] at pr
          refine wp_bind pr (fun m2 ⟨c1, c2⟩ => ?_)
          have e94 : m2.1 94 c = nI S.1.2.1 := by rw [c2.1 _ _ (by omega)]; exact b1.2.1
          rw [ldA_N (by omega), Option.bind_some, e94, nI_add, stA_N (by omega), Option.bind_some, pk_sub (by omega), i_1, nI_add]
          have f3 : Fr (fun b k => b = 94 ∧ k = c) m2 (setI m2 94 c (nI (S.1.2.1 + n))) := Fr.sI ⟨rfl, rfl⟩
          have r3 : (setI m2 94 c (nI (S.1.2.1 + n))).1 94 c = nI (S.1.2.1 + n) := by rw [rdI, if_pos ⟨rfl, rfl⟩]
          generalize setI m2 94 c (nI (S.1.2.1 + n)) = m3 at *
          have f23 : Fr (fun b k => b = 94 ∧ k = c ∨ b = 97 ∨ b = 98) m' m3 := c2.tr f3 (by intro c k h; omega) (by intro c k h; omega)
          have hE := hch n hn1.1 hn1.2.2
          rw [show 52 - t - n = 52 - (t + n) by omega]
          refine hk2 (t + n) m3 (by omega) (by omega) ?_ ?_ ?_ ?_ (b5.tr f23 (fun _ _ q => q) (by intro c k h; omega))
          · rw [hE]
            exact ⟨b1.1.fr f23 (by omega) (fun k => by omega), r3, by rw [f23.1 _ _ (by omega)]; exact b1.2.2⟩
          · rw [hE]
            exact b2.fr f23 (fun b k _ _ => by omega)
          · rw [hE, f23.1 _ _ (by omega)]
            exact b3
          · rw [hE]
            show Byt m3 97 (hd ++ (S.2.2.2 ++ (S.1.1.drop S.1.2.1).take n))
            rw [← List.append_assoc]
            exact c1.fr f3 (by omega) (fun k => by omega)
        rw [hl, Option.bind_some]
        dsimp only
        have hB1 := hI1.1
        by_cases q : (flN s t).1.2.1 = (flN s t).1.1.length
        · rw [if_pos (by rw [q, Nat.sub_self])]
          have hpb : pbF t (flN s t) = ((begP (flN s t).2.1 (52 - t)).1, (begP (flN s t).2.1 (52 - t)).2, if (flN s t).2.2.1 = 2047 then t else (flN s t).2.2.1, (flN s t).2.2.2) := by
            unfold pbF
            rw [if_pos q]
          rw [hpb] at cp
          dsimp only at cp
          have bg : ∀ m', BgC m' c (flN s t).1 → Shf m' a (flN s t).2.1 → m'.1 57 16 = nI (if (flN s t).2.2.1 = 2047 then t else (flN s t).2.2.1) → Byt m' 97 (hd ++ (flN s t).2.2.2) → Fr (FFc c a) μ m' → wp (c125_67 (fun v2 q3 v4 v5 μ => self (v2, q3, v4, v5, μ)) (nI c) a (nI (52 - t)) (nI i) m') (fun m => BgC m c (flN s 52).1 ∧ Shf m a (flN s 52).2.1 ∧ m.1 57 16 = nI (flN s 52).2.2.1 ∧ Byt m 97 (hd ++ (flN s 52).2.2.2) ∧ Fr (FFc c a) μ m) := by
            intro m' b1 b2 b3 b4 b5
            unfold c125_67
            refine wp_bind (beg_C (room := 52 - t) b1 hc b2 hI1.2.1 ha2 (by omega)) (fun m2 ⟨c1, c2, c3⟩ => ?_)
            exact cp m2 c1 c2 (by rw [c3.1 _ _ (by omega)]; exact b3) (b4.fr c3 (by omega) (fun k => by omega)) (b5.tr c3 (fun _ _ q => q) (by intro c k h; omega))
          rw [x5, i_2047]
          have h21 := hI1.2.2.1
          by_cases q2 : (flN s t).2.2.1 = 2047
          · rw [if_pos (by rw [q2])]
            rw [if_pos q2] at bg
            refine wp_bind (wp_some rfl) (fun m1 hm1 => ?_)
            rw [pk_sub (by omega), show 52 - (52 - t) = t by omega] at hm1
            have f1 : Fr (fun b k => b = 57 ∧ k = 16) m m1 := by rw [← hm1]; exact Fr.sI ⟨rfl, rfl⟩
            have r1 : m1.1 57 16 = nI t := by rw [← hm1, rdI, if_pos ⟨rfl, rfl⟩]
            exact bg m1 (x3.fr f1 (fun b k _ => by omega)) (x4.fr f1 (fun b k _ _ => by omega)) r1 (x6.fr f1 (by omega) (fun k => by omega)) (x7.tr f1 (fun _ _ q => q) (by intro c k h; omega))
          · rw [if_neg (fun z => q2 ((nI_eq (by omega) (by omega)).mp z))]
            rw [if_neg q2] at bg
            exact bg m x3 x4 x5 x6 x7
        · have hle := hB1.1
          rw [if_neg (fun z => by have := (nI_eq (a := (flN s t).1.1.length - (flN s t).1.2.1) (b := 0) (by have := hB1.2; omega) (by omega)).mp z; omega)]
          rw [pbF_no q] at cp
          exact cp m x3 x4 x5 x6 x7
    · obtain ⟨t, m⟩ := x
      obtain ⟨x1, x2, x3, x4, x5, x6, x7⟩ := hx
      dsimp only at x1 x2 x3 x4 x5 x6 x7 ⊢
      have : t = 52 := by omega
      subst this
      unfold b125_28
      rw [i_52, if_pos ((nI_leI (by omega) (by omega)).mpr (Nat.le_refl _))]
      exact wp_some ⟨x3, x4, x5, x6, x7⟩
  unfold f125
  dsimp only [nm]
  rw [i_1, an_1, Nat.mod_eq_of_lt hc]
  by_cases e : c = 1
  · rw [if_pos e] at ha
    subst ha
    rw [if_pos (by rw [e])]
    exact key
  · rw [if_neg e] at ha
    subst ha
    rw [if_neg (fun z => e ((nI_eq (by omega) (by omega)).mp z))]
    exact key
