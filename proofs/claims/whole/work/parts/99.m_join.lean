/-! ===== the ground: packets are put together ===== -/
abbrev Jw : Type := (Nat → List Nat × Option Nat) × Int32
abbrev Js : Type := Gw × (Nat → Rq) × List Nat
def jnL (t c : Nat) : List Nat → Js → Js
  | [], s => s
  | x :: xs, s => if (s.2.2 ++ [x]).length < 6 then jnL t c xs (s.1, s.2.1, s.2.2 ++ [x]) else if 200 < w2 (s.2.2 ++ [x]) 4 + 7 then (s.1, s.2.1, []) else if (s.2.2 ++ [x]).length = w2 (s.2.2 ++ [x]) 4 + 7 then jnL t c xs (pkG s.1 c (s.2.2 ++ [x]), pkQ t s.2.1 (s.2.2 ++ [x]), []) else jnL t c xs (s.1, s.2.1, s.2.2 ++ [x])
def bgI (bl : List Nat) : Prop := bl.length < 200 ∧ (∀ b, b ∈ bl → b < 256) ∧ (6 ≤ bl.length → w2 bl 4 + 7 ≤ 200 ∧ bl.length < w2 bl 4 + 7)
theorem bgI_0 : bgI [] := ⟨by decide, (fun b hb => by cases hb), fun h => absurd h (by decide)⟩
theorem w2_app {bl : List Nat} {x : Nat} (h : 6 ≤ bl.length) : w2 (bl ++ [x]) 4 = w2 bl 4 := by
  unfold w2
  rw [getD_app, if_pos (by omega), getD_app, if_pos (by omega)]
theorem bgI_6 {bl : List Nat} {x : Nat} (h : bgI bl) (h6 : (bl ++ [x]).length ≠ 6) (h6' : 6 ≤ (bl ++ [x]).length) : w2 (bl ++ [x]) 4 + 7 ≤ 200 ∧ bl.length < w2 (bl ++ [x]) 4 + 7 := by
  have e : (bl ++ [x]).length = bl.length + 1 := List.length_append
  rw [w2_app (by omega)]
  exact h.2.2 (by omega)
theorem bgI_app {bl : List Nat} {x : Nat} (h : bgI bl) (hx : x < 256) (h2 : (bl ++ [x]).length < 6 ∨ w2 (bl ++ [x]) 4 + 7 ≤ 200 ∧ (bl ++ [x]).length ≠ w2 (bl ++ [x]) 4 + 7) : bgI (bl ++ [x]) := by
  have e : (bl ++ [x]).length = bl.length + 1 := List.length_append
  have lt : 6 ≤ (bl ++ [x]).length → bl.length < w2 (bl ++ [x]) 4 + 7 := by
    intro z
    by_cases y : (bl ++ [x]).length = 6
    · omega
    · exact (bgI_6 h y z).2
  refine ⟨?_, mem_lt_app h.2.1 (fun b hb => by rw [List.mem_singleton] at hb; rw [hb]; exact hx), fun z => ?_⟩
  · rcases h2 with a | ⟨a, b⟩
    · omega
    · by_cases z : 6 ≤ (bl ++ [x]).length
      · have := lt z; omega
      · omega
  · rcases h2 with a | ⟨a, b⟩
    · omega
    · have := lt z
      exact ⟨a, by omega⟩
theorem jnL_I {t c : Nat} (hc : c < 2) : ∀ xs : List Nat, ∀ s : Js, (∀ b, b ∈ xs → b < 256) → GwI s.1 → bgI s.2.2 → GwI (jnL t c xs s).1 ∧ bgI (jnL t c xs s).2.2 ∧ (jnL t c xs s).1.2.1 ≤ s.1.2.1 + xs.length
  | [], s, _, h1, h2 => ⟨h1, h2, Nat.le_refl _⟩
  | x :: xs, s, hx, h1, h2 => by
    have hx0 : x < 256 := hx x List.mem_cons_self
    have hxs : ∀ b, b ∈ xs → b < 256 := fun b hb => hx b (List.mem_cons_of_mem _ hb)
    have el : (x :: xs).length = xs.length + 1 := rfl
    rw [jnL]
    by_cases q1 : (s.2.2 ++ [x]).length < 6
    · rw [if_pos q1]
      obtain ⟨a, b, d⟩ := jnL_I hc xs (s.1, s.2.1, s.2.2 ++ [x]) hxs h1 (bgI_app h2 hx0 (Or.inl q1))
      exact ⟨a, b, by rw [el]; exact Nat.le_trans d (by show s.1.2.1 + _ ≤ _; omega)⟩
    · rw [if_neg q1]
      by_cases q2 : 200 < w2 (s.2.2 ++ [x]) 4 + 7
      · rw [if_pos q2]
        exact ⟨h1, bgI_0, by show s.1.2.1 ≤ _; omega⟩
      · rw [if_neg q2]
        by_cases q3 : (s.2.2 ++ [x]).length = w2 (s.2.2 ++ [x]) 4 + 7
        · rw [if_pos q3]
          obtain ⟨a, b, d⟩ := jnL_I hc xs (pkG s.1 c (s.2.2 ++ [x]), pkQ t s.2.1 (s.2.2 ++ [x]), []) hxs (pkG_I h1 hc) bgI_0
          refine ⟨a, b, Nat.le_trans d ?_⟩
          rw [el]
          have : (pkG s.1 c (s.2.2 ++ [x])).2.1 ≤ s.1.2.1 + 1 := by
            unfold pkG
            by_cases z1 : idP (s.2.2 ++ [x]) = true
            · rw [if_pos z1]; omega
            · rw [if_neg z1]
              by_cases z2 : sndP (s.2.2 ++ [x]) = true
              · rw [if_pos z2]; exact Nat.le_refl _
              · rw [if_neg z2]; exact Nat.le_succ _
          show (pkG s.1 c (s.2.2 ++ [x])).2.1 + _ ≤ _
          omega
        · rw [if_neg q3]
          obtain ⟨a, b, d⟩ := jnL_I hc xs (s.1, s.2.1, s.2.2 ++ [x]) hxs h1 (bgI_app h2 hx0 (Or.inr ⟨by omega, q3⟩))
          exact ⟨a, b, by rw [el]; exact Nat.le_trans d (by show s.1.2.1 + _ ≤ _; omega)⟩
theorem gl_bg {c : Nat} (hc : c < 2) : gln (52 + 2 * c + 1) = 200 := by
  have : c = 0 ∨ c = 1 := by omega
  rcases this with rfl | rfl
  · exact gl_53
  · exact gl_55
def jnX (fr : List Nat) (p : Nat) : List Nat := (fr.drop (6 + p)).take (52 - p)
theorem jnX_len {fr : List Nat} {p : Nat} (h : fr.length = 64) : (jnX fr p).length = 52 - p := by
  unfold jnX
  rw [List.length_take, List.length_drop]; omega
theorem jnX_drop {fr : List Nat} {p i : Nat} (h : fr.length = 64) (hi : p + i < 52) : (jnX fr p).drop i = fr.getD (6 + (p + i)) 0 :: (jnX fr p).drop (i + 1) := by
  have hl := jnX_len (p := p) h
  rw [List.drop_eq_getElem_cons (by omega)]
  congr 1
  unfold jnX
  rw [List.getElem_take, List.getElem_drop, List.getD_eq_getElem?_getD, List.getElem?_eq_getElem (by omega), Option.getD_some]
  congr 1
  omega
abbrev FjC (c : Nat) : Nat → Nat → Prop := fun a k => 15 ≤ a ∧ a ≤ 25 ∨ a = 12 ∧ 9 ≤ k ∧ k ≤ 12 ∨ a = 52 + 2 * c ∨ a = 53 + 2 * c
theorem jn_C {μ : Mem} {t c p : Nat} {s : Js} {fr : List Nat} (hTb : Tb μ) (hT : To μ) (h : ReqC μ t s.2.1) (hG : GwC μ s.1) (hI : GwI s.1) (hb : Byt μ (52 + 2 * c) s.2.2) (hbI : bgI s.2.2) (hF : Byt μ 50 fr) (hfl : fr.length = 64) (hc : c < 2) (hp : p < 2048) :
    wp (l105_69 gF (nI c, 52 + 2 * c, nI p, μ)) (fun m => ReqC m t (jnL t c (jnX fr p) s).2.1 ∧ GwC m (jnL t c (jnX fr p) s).1 ∧ Byt m (52 + 2 * c) (jnL t c (jnX fr p) s).2.2 ∧ Fr (FjC c) μ m) := by
  have gb := gl_bg hc
  unfold l105_69
  refine wp_for (fun i m => (nI c, 52 + 2 * c, nI (p + i), m)) (fun i m => ∃ z : Js, ReqC m t z.2.1 ∧ GwC m z.1 ∧ GwI z.1 ∧ Byt m (52 + 2 * c) z.2.2 ∧ bgI z.2.2 ∧ jnL t c ((jnX fr p).drop i) z = jnL t c (jnX fr p) s ∧ Fr (FjC c) μ m) (52 - p) (by omega) μ _ rfl ⟨s, h, hG, hI, hb, hbI, by rw [List.drop_zero], Fr.rf⟩ (fun self i m hi ⟨z, x1, x2, x3, x4, x5, x6, x7⟩ hk => ?_) (fun self m ⟨z, x1, x2, x3, x4, x5, x6, x7⟩ => ?_)
  · unfold b105_69 c105_146
    dsimp only [nm]
    have hb50 := hF.fr x7 (by omega) (fun k => by omega)
    rw [jnX_drop hfl (by omega), jnL] at x6
    have bx := hF.get (6 + (p + i))
    have el : (z.2.2 ++ [fr.getD (6 + (p + i)) 0]).length = z.2.2.length + 1 := List.length_append
    rw [i_52, if_neg (fun y => by have := (nI_leI (by omega) (by omega)).mp y; omega), i_6, nI_add, at_ok hb50 (k := 6 + (p + i)) (by omega), Option.bind_some]
    dsimp only
    have xl := x5.1
    refine wp_bind (pu_ok _ x4 (by rw [gb]; omega)) (fun m1 ⟨a1, a2⟩ => ?_)
    rw [byv_nat, Nat.mod_eq_of_lt bx] at a1
    generalize fr.getD (6 + (p + i)) 0 = x at bx a1 x6 el
    have y7 : Fr (FjC c) μ m1 := x7.tr a2 (fun c k q => q) (by intro c k h; omega)
    have y1 := x1.fr a2 (by omega) (fun c k _ _ => by omega)
    have y2 := x2.fr a2 (fun c k _ => by omega)
    rw [a1.1, i_1, nI_add]
    by_cases q1 : (z.2.2 ++ [x]).length < 6
    · rw [if_pos ((nI_ltI (by omega) (by omega)).mpr q1)]
      rw [if_pos q1] at x6
      exact hk m1 ⟨(z.1, z.2.1, z.2.2 ++ [x]), y1, y2, x3, a1, bgI_app x5 bx (Or.inl q1), x6, y7⟩
    · have w5 := a1.get 4
      have w6 := a1.get 5
      rw [if_neg (fun y => q1 ((nI_ltI (by omega) (by omega)).mp y)), i_4, two_ok a1 (k := 4) (by omega), Option.bind_some]
      dsimp only
      rw [i_7, nI_add, i_200, show 256 * (z.2.2 ++ [x]).getD 4 0 + (z.2.2 ++ [x]).getD (4 + 1) 0 = w2 (z.2.2 ++ [x]) 4 from rfl, a1.1]
      have wl := w2_lt (k := 4) a1.2.2.2
      rw [if_neg q1] at x6
      by_cases q2 : 200 < w2 (z.2.2 ++ [x]) 4 + 7
      · rw [if_neg (fun y => by have := (nI_leI (by omega) (by omega)).mp y; omega)]
        rw [if_pos q2] at x6
        refine wp_bind (cl_ok _ m1) (fun m2 ⟨b1, b2⟩ => wp_some ?_)
        rw [← x6]
        exact ⟨y1.fr b2 (by omega) (fun c k _ _ => by omega), y2.fr b2 (fun c k _ => by omega), b1, y7.tr b2 (fun c k q => q) (by intro c k h; omega)⟩
      · rw [if_pos ((nI_leI (by omega) (by omega)).mpr (by omega))]
        rw [if_neg q2] at x6
        by_cases q3 : (z.2.2 ++ [x]).length = w2 (z.2.2 ++ [x]) 4 + 7
        · rw [if_pos (by rw [q3])]
          rw [if_pos q3] at x6
          refine wp_bind (pkt_C (hTb.fr y7 (fun k => by omega)) (hT.fr y7 (fun k => by omega)) y1 y2 x3 a1 (by omega) (by omega) hc) (fun m2 ⟨b1, b2, b3⟩ => ?_)
          refine wp_bind (cl_ok _ m2) (fun m3 ⟨d1, d2⟩ => ?_)
          exact hk m3 ⟨(pkG z.1 c (z.2.2 ++ [x]), pkQ t z.2.1 (z.2.2 ++ [x]), []), b2.fr d2 (by omega) (fun c k _ _ => by omega), b1.fr d2 (fun c k _ => by omega), pkG_I x3 hc, d1, bgI_0, x6, (y7.tr b3 (fun c k q => q) (by intro c k h; omega)).tr d2 (fun c k q => q) (by intro c k h; omega)⟩
        · rw [if_neg (fun y => q3 ((nI_eq (by omega) (by omega)).mp y))]
          rw [if_neg q3] at x6
          exact hk m1 ⟨(z.1, z.2.1, z.2.2 ++ [x]), y1, y2, x3, a1, bgI_app x5 bx (Or.inr ⟨by omega, q3⟩), x6, y7⟩
  · unfold b105_69
    rw [i_52, if_pos ((nI_leI (by omega) (by omega)).mpr (by omega))]
    rw [List.drop_of_length_le (by rw [jnX_len hfl]; omega), jnL] at x6
    rw [← x6]
    exact wp_some ⟨x1, x2, x4, x7⟩
abbrev FjM (c : Nat) : Nat → Nat → Prop := fun a k => a = 152 ∨ a = 153 ∨ 215 ≤ a ∧ a ≤ 220 ∨ a = 129 ∧ 144 ≤ k ∧ k ≤ 147 ∨ a = 160 ∧ k = c ∨ a = 161 ∧ 200 * c ≤ k ∧ k < 200 * c + 200
theorem jn_M {μ : Mem} {t c p : Nat} {s : Js} {fr : List Nat} (h : ReqM μ t s.2.1) (hG : GwM μ s.1) (hI : GwI s.1) (hb0 : μ.1 160 c = nI s.2.2.length) (hb : Seg μ 161 (200 * c) s.2.2) (hbI : bgI s.2.2) (hF : Seg μ 157 0 fr) (hfl : fr.length = 64) (hc : c < 2) (hp : p < 52) (hn : s.1.2.1 < 2 ^ 29) :
    wp (l302_385 gF (nI c, nI p, nI 1, nI (200 * c), μ)) (fun m => ReqM m t (jnL t c (jnX fr p) s).2.1 ∧ GwM m (jnL t c (jnX fr p) s).1 ∧ m.1 160 c = nI (jnL t c (jnX fr p) s).2.2.length ∧ Seg m 161 (200 * c) (jnL t c (jnX fr p) s).2.2 ∧ Fr (FjM c) μ m) := by
  have g1 := gl_160
  have g2 := gl_161
  have g3 := gl_157
  unfold l302_385
  refine wp_for (γ := Mem × Nat) (fun i y => (nI c, nI (p + i), nI y.2, nI (200 * c), y.1)) (fun i y => y.2 = 1 ∧ (∃ z : Js, ReqM y.1 t z.2.1 ∧ GwM y.1 z.1 ∧ GwI z.1 ∧ y.1.1 160 c = nI z.2.2.length ∧ Seg y.1 161 (200 * c) z.2.2 ∧ bgI z.2.2 ∧ z.1.2.1 ≤ s.1.2.1 + i ∧ jnL t c ((jnX fr p).drop i) z = jnL t c (jnX fr p) s ∧ Fr (FjM c) μ y.1) ∨ y.2 = 0 ∧ ReqM y.1 t (jnL t c (jnX fr p) s).2.1 ∧ GwM y.1 (jnL t c (jnX fr p) s).1 ∧ y.1.1 160 c = nI (jnL t c (jnX fr p) s).2.2.length ∧ Seg y.1 161 (200 * c) (jnL t c (jnX fr p) s).2.2 ∧ Fr (FjM c) μ y.1) (52 - p) (by omega) (μ, 1) _ rfl (Or.inl ⟨rfl, s, h, hG, hI, hb0, hb, hbI, Nat.le_refl _, by rw [List.drop_zero], Fr.rf⟩) (fun self i y hi hy hk => ?_) (fun self y hy => ?_)
  · obtain ⟨m, f⟩ := y
    rcases hy with ⟨e1, z, x1, x2, x3, x40, x4, x5, xn, x6, x7⟩ | ⟨e0, hy⟩
    · have e1 : f = 1 := e1
      subst e1
      have x1 : ReqM m t z.2.1 := x1
      have x2 : GwM m z.1 := x2
      have x40 : m.1 160 c = nI z.2.2.length := x40
      have x4 : Seg m 161 (200 * c) z.2.2 := x4
      have x7 : Fr (FjM c) μ m := x7
      unfold b302_385 c302_475 c302_505 c302_535
      dsimp only [nm]
      rw [jnX_drop hfl (by omega), jnL] at x6
      have bx := hF.get (6 + (p + i))
      have el : (z.2.2 ++ [fr.getD (6 + (p + i)) 0]).length = z.2.2.length + 1 := List.length_append
      have xl := x5.1
      have ld : ldA 157 (nI (6 + (p + i))) m = some (nI (fr.getD (6 + (p + i)) 0)) := by
        have e := hF.1 (6 + (p + i)) (by omega)
        rw [Nat.zero_add] at e
        rw [ldA_N (by omega), x7.1 _ _ (by omega), e]
      rw [if_neg (show ¬ nI 1 = 0 by decide), i_52, if_neg (fun y => by have := (nI_leI (by omega) (by omega)).mp y; omega), ldA_N (by omega), Option.bind_some, x40, i_6, nI_add, ld, Option.bind_some, nI_add, stA_N (by omega), Option.bind_some, ldA_N (by omega), Option.bind_some, rdI, if_neg (by omega), x40, i_1, nI_add, stA_N (by omega), Option.bind_some, nI_add, ldA_N (by omega), Option.bind_some, rdI, if_pos (show 160 = 160 ∧ c = c from ⟨rfl, rfl⟩)]
      generalize fr.getD (6 + (p + i)) 0 = x at bx x6 el
      have f1 : Fr (fun a k => a = 160 ∧ k = c ∨ a = 161 ∧ 200 * c ≤ k ∧ k < 200 * c + 200) m (setI (setI m 161 (200 * c + z.2.2.length) (nI x)) 160 c (nI (z.2.2.length + 1))) := (Fr.sI (by omega)).pI (by omega)
      have a0 : (setI (setI m 161 (200 * c + z.2.2.length) (nI x)) 160 c (nI (z.2.2.length + 1))).1 160 c = nI (z.2.2 ++ [x]).length := by
        rw [rdI, if_pos ⟨rfl, rfl⟩, el]
      have a1 : Seg (setI (setI m 161 (200 * c + z.2.2.length) (nI x)) 160 c (nI (z.2.2.length + 1))) 161 (200 * c) (z.2.2 ++ [x]) := by
        refine ⟨fun j hj => ?_, mem_lt_app x4.2 (fun b hb => by rw [List.mem_singleton] at hb; rw [hb]; exact bx)⟩
        rw [rdI, if_neg (by omega), rdI, getD_app]
        by_cases e : j = z.2.2.length
        · rw [if_pos (by omega), if_neg (by omega), e, Nat.sub_self]; rfl
        · rw [if_neg (by omega), if_pos (by omega)]
          exact x4.1 j (by omega)
      generalize setI (setI m 161 (200 * c + z.2.2.length) (nI x)) 160 c (nI (z.2.2.length + 1)) = m1 at f1 a0 a1 ⊢
      have y7 : Fr (FjM c) μ m1 := x7.tr f1 (fun c k q => q) (by intro c k h; omega)
      have y1 := x1.fr f1 (by omega) (fun c k _ _ => by omega)
      have y2 := x2.fr x3 f1 (fun c k _ => by omega)
      rw [← el]
      have wl := w2_lt (k := 4) a1.2
      have h505 : ∀ n, (6 ≤ (z.2.2 ++ [x]).length → n = w2 (z.2.2 ++ [x]) 4 + 7 ∧ n ≤ 200) → wp (if nI (z.2.2 ++ [x]).length < nI 6 then self (nI c, nI (p + i + 1), nI 1, nI (200 * c), m1) else if nI (z.2.2 ++ [x]).length = nI n then (stA 160 (nI c) 0 m1).bind fun m3 => (f346 (nI c) (nI (200 * c)) (nI n) m3).bind fun r5 => self (nI c, nI (p + i + 1), nI 1, nI (200 * c), r5) else self (nI c, nI (p + i + 1), nI 1, nI (200 * c), m1)) (fun m => ReqM m t (jnL t c (jnX fr p) s).2.1 ∧ GwM m (jnL t c (jnX fr p) s).1 ∧ m.1 160 c = nI (jnL t c (jnX fr p) s).2.2.length ∧ Seg m 161 (200 * c) (jnL t c (jnX fr p) s).2.2 ∧ Fr (FjM c) μ m) := by
        intro n hn6
        by_cases q1 : (z.2.2 ++ [x]).length < 6
        · rw [if_pos ((nI_ltI (by omega) (by omega)).mpr q1)]
          rw [if_pos q1] at x6
          exact hk (m1, 1) (Or.inl ⟨rfl, (z.1, z.2.1, z.2.2 ++ [x]), y1, y2, x3, a0, a1, bgI_app x5 bx (Or.inl q1), Nat.le_succ_of_le xn, x6, y7⟩)
        · obtain ⟨en, ln⟩ := hn6 (by omega)
          rw [if_neg (fun y => q1 ((nI_ltI (by omega) (by omega)).mp y))]
          rw [if_neg q1, if_neg (by omega)] at x6
          by_cases q3 : (z.2.2 ++ [x]).length = n
          · rw [if_pos (by rw [q3]), stA_N (by omega), Option.bind_some]
            rw [if_pos (by omega)] at x6
            have f2 : Fr (fun a k => a = 160 ∧ k = c) m1 (setI m1 160 c 0) := Fr.sI ⟨rfl, rfl⟩
            have e2 : (setI m1 160 c 0).1 160 c = nI 0 := by rw [rdI, if_pos ⟨rfl, rfl⟩]; rfl
            generalize setI m1 160 c 0 = m2 at f2 e2 ⊢
            have a12 : Seg m2 161 (200 * c) (z.2.2 ++ [x]) := ⟨fun j hj => by rw [f2.1 _ _ (by omega)]; exact a1.1 j hj, a1.2⟩
            rw [← q3]
            refine wp_bind (pkt_M (y1.fr f2 (by omega) (fun c k _ _ => by omega)) (y2.fr x3 f2 (fun c k _ => by omega)) x3 a12 (by omega) (by omega) hc (by omega)) (fun m3 ⟨b1, b2, b3⟩ => ?_)
            refine hk (m3, 1) (Or.inl ⟨rfl, (pkG z.1 c (z.2.2 ++ [x]), pkQ t z.2.1 (z.2.2 ++ [x]), []), b2, b1, pkG_I x3 hc, by rw [b3.1 _ _ (by omega)]; exact e2, ⟨fun j hj => absurd hj (Nat.not_lt_zero _), fun b hb => by cases hb⟩, bgI_0, ?_, x6, (y7.tr f2 (fun c k q => q) (by intro c k h; omega)).tr b3 (fun c k q => q) (by intro c k h; omega)⟩)
            have := (jnL_I (t := t) hc [x] z (fun b hb => by rw [List.mem_singleton] at hb; rw [hb]; exact bx) x3 x5).2.2
            rw [jnL, if_neg q1, if_neg (by omega), if_pos (by omega), jnL] at this
            have this : (pkG z.1 c (z.2.2 ++ [x])).2.1 ≤ z.1.2.1 + 1 := this
            show (pkG z.1 c (z.2.2 ++ [x])).2.1 ≤ _
            omega
          · rw [if_neg (fun y => q3 ((nI_eq (by omega) (by omega)).mp y))]
            rw [if_neg (by omega)] at x6
            exact hk (m1, 1) (Or.inl ⟨rfl, (z.1, z.2.1, z.2.2 ++ [x]), y1, y2, x3, a0, a1, bgI_app x5 bx (Or.inr ⟨by omega, by omega⟩), Nat.le_succ_of_le xn, x6, y7⟩)
      by_cases q6 : 6 ≤ (z.2.2 ++ [x]).length
      · have w5 := a1.get 4
        have w6 := a1.get 5
        rw [if_pos ((nI_leI (by omega) (by omega)).mpr q6), i_4, nI_add, ldB a1 hc (by omega) (i := 4) (by omega), Option.bind_some, i_5, nI_add, ldB a1 hc (by omega) (i := 5) (by omega), Option.bind_some, i_8, jshl_N (by omega) (by omega), nx_or, or_add 8 (show _ < 2 ^ 8 from w6), i_7, nI_add, show (z.2.2 ++ [x]).getD 4 0 * 2 ^ 8 + (z.2.2 ++ [x]).getD 5 0 = w2 (z.2.2 ++ [x]) 4 by unfold w2; rw [show 4 + 1 = 5 from rfl]; omega, i_200]
        by_cases q7 : (z.2.2 ++ [x]).length = 6
        · rw [if_pos (show nI (z.2.2 ++ [x]).length = nI 6 by rw [q7])]
          by_cases q2 : 200 < w2 (z.2.2 ++ [x]) 4 + 7
          · rw [if_neg (fun y => by have := (nI_leI (by omega) (by omega)).mp y; omega), stA_N (by omega), Option.bind_some]
            rw [if_neg (by omega), if_pos q2] at x6
            have f2 : Fr (fun a k => a = 160 ∧ k = c) m1 (setI m1 160 c 0) := Fr.sI ⟨rfl, rfl⟩
            have e2 : (setI m1 160 c 0).1 160 c = nI 0 := by rw [rdI, if_pos ⟨rfl, rfl⟩]; rfl
            refine hk (setI m1 160 c 0, 0) (Or.inr ⟨rfl, ?_⟩)
            rw [← x6]
            exact ⟨y1.fr f2 (by omega) (fun c k _ _ => by omega), y2.fr x3 f2 (fun c k _ => by omega), e2, ⟨fun j hj => absurd hj (Nat.not_lt_zero _), fun b hb => by cases hb⟩, y7.tr f2 (fun c k q => q) (by intro c k h; omega)⟩
          · rw [if_pos ((nI_leI (by omega) (by omega)).mpr (by omega))]
            exact h505 _ (fun _ => ⟨rfl, by omega⟩)
        · rw [if_neg (show ¬ nI (z.2.2 ++ [x]).length = nI 6 from fun y => q7 ((nI_eq (by omega) (by omega)).mp y))]
          exact h505 _ (fun _ => ⟨rfl, (bgI_6 x5 q7 q6).1⟩)
      · rw [if_neg (fun y => q6 ((nI_leI (by omega) (by omega)).mp y)), if_neg (show ¬ nI (z.2.2 ++ [x]).length = nI 6 from fun y => q6 (by have := (nI_eq (by omega) (by omega)).mp y; omega)), i_0]
        exact h505 0 (fun y => absurd y q6)
    · have e0 : f = 0 := e0
      subst e0
      unfold b302_385
      rw [if_pos (show nI 0 = 0 by decide)]
      exact wp_some hy
  · obtain ⟨m, f⟩ := y
    rcases hy with ⟨e1, z, x1, x2, x3, x40, x4, x5, xn, x6, x7⟩ | ⟨e0, hy⟩
    · have e1 : f = 1 := e1
      subst e1
      unfold b302_385
      rw [if_neg (show ¬ nI 1 = 0 by decide), i_52, if_pos ((nI_leI (by omega) (by omega)).mpr (by omega))]
      rw [List.drop_of_length_le (by rw [jnX_len hfl]; omega), jnL] at x6
      rw [← x6]
      exact wp_some ⟨x1, x2, x40, x4, x7⟩
    · have e0 : f = 0 := e0
      subst e0
      unfold b302_385
      rw [if_pos (show nI 0 = 0 by decide)]
      exact wp_some hy
