/-! ===== the ground's ear, the reference ===== -/
theorem HM.fr {μ m : Mem} {t : Nat} {h : Hw} {P : Nat → Nat → Prop} (hH : HM μ t h) (hI : HI h) (ho : Fr P μ m) (h1 : ∀ c k, c = 129 ∧ (28 ≤ k ∧ k ≤ 43 ∨ k = 58 ∨ 67 ≤ k ∧ k ≤ 72 ∨ 144 ≤ k ∧ k ≤ 147) ∨ 134 ≤ c ∧ c ≤ 136 ∨ 141 ≤ c ∧ c ≤ 147 ∨ 152 ≤ c ∧ c ≤ 155 ∨ 159 ≤ c ∧ c ≤ 161 ∨ 215 ≤ c ∧ c ≤ 220 → ¬ P c k) : HM m t h :=
  ⟨hH.1.fr ho (fun c k _ => h1 c k (by omega)), hH.2.1.fr hI.2.1 ho (fun c k _ => h1 c k (by omega)), hH.2.2.1.fr ho (fun c k _ => h1 c k (by omega)), hH.2.2.2.fr ho (fun k _ => h1 _ k (by omega))⟩
abbrev FYM : Nat → Nat → Prop := fun a k => FHM a k ∨ a = 129 ∧ 60 ≤ k ∧ k ≤ 65
theorem pw8 {P k : Nat} (hP : P < 2 ^ k) (hk : k ≤ 8) : P * 2 ^ (8 - k) < 256 := by
  have h := Nat.mul_lt_mul_of_pos_right hP (Nat.two_pow_pos (8 - k))
  rw [← Nat.pow_add, show k + (8 - k) = 8 by omega] at h
  exact h
theorem gearI_M {μ : Mem} {t b : Nat} {ns : List Nat} {v : Ey} (h : EyM ns μ t v) (hI : EyI v) (hb : b < 2) (hnl : ns.length = 64) (hn : v.1.2.1.2.1 < 2 ^ 29) (hi : v.2.2.2.1 = true) (hx : μ.1 157 v.2.2.2.2.2.2.length = nI (v.2.2.2.2.2.1 * 2 ^ (8 - v.2.2.2.2.1))) : wp (c299_30 (nI b) μ) (fun m => EyM ns m t (vInn t ns v (2 * v.2.2.2.2.2.1 + b)) ∧ Fr FYM μ m) := by
  obtain ⟨hH, hN, c6, c7, c11, c12, c8, _, cB⟩ := h
  obtain ⟨h1, h2, _, h4⟩ := hI
  obtain ⟨i1, i2, i3, i4⟩ := h4 hi
  obtain ⟨e65, sg, _⟩ := cB hi
  have g := gl_157
  generalize hk : v.2.2.2.2.1 = k at *
  generalize hP : v.2.2.2.2.2.1 = P at *
  generalize hfb : v.2.2.2.2.2.2 = fb at *
  have p8 := pw8 i2 (by omega)
  have hp : 2 * P + b < 2 ^ (k + 1) := by rw [Nat.pow_succ]; omega
  have p7 := pw8 hp (by omega)
  rw [show 8 - (k + 1) = 7 - k by omega] at p7
  have er : (P * 2 ^ (8 - k) ||| b * 2 ^ (7 - k)) = (2 * P + b) * 2 ^ (7 - k) := by
    have := rb (r := k) (A := P) (b := b) i1 hb
    rw [Nat.mod_eq_of_lt p8, Nat.mod_eq_of_lt p7] at this
    exact this
  have bp : b * 2 ^ (7 - k) < 2 ^ 32 := by
    have h7 : 2 ^ (7 - k) ≤ 2 ^ 7 := Nat.pow_le_pow_right (by decide) (by omega)
    have := Nat.mul_le_mul (show b ≤ 1 by omega) h7
    omega
  unfold c299_30
  rw [e65, i_8, i_7, pk_div (by omega) (by omega) (by omega), jrem_N (by omega) (by omega) (by omega), show (8 * fb.length + k) / 8 = fb.length by omega, show (8 * fb.length + k) % 8 = k by omega, ldA_N (by omega), Option.bind_some, hx, pk_sub (by omega), jshl_N (by omega) bp, nx_or, er, stA_N (by omega), Option.bind_some]
  have f0 : Fr (fun a k => a = 157 ∧ k = fb.length ∨ a = 129 ∧ k = 65) μ (setI (setI μ 157 fb.length (nI ((2 * P + b) * 2 ^ (7 - k)))) 129 65 (((setI μ 157 fb.length (nI ((2 * P + b) * 2 ^ (7 - k)))).1 129 65) + 1)) := (Fr.sI (by omega)).pI (by omega)
  have y65 : (setI (setI μ 157 fb.length (nI ((2 * P + b) * 2 ^ (7 - k)))) 129 65 (((setI μ 157 fb.length (nI ((2 * P + b) * 2 ^ (7 - k)))).1 129 65) + 1)).1 129 65 = nI (8 * fb.length + k + 1) := by rw [rdI, if_pos ⟨rfl, rfl⟩, rdI, if_neg (by omega), e65, i_1, nI_add]
  have y157 : (setI (setI μ 157 fb.length (nI ((2 * P + b) * 2 ^ (7 - k)))) 129 65 (((setI μ 157 fb.length (nI ((2 * P + b) * 2 ^ (7 - k)))).1 129 65) + 1)).1 157 fb.length = nI ((2 * P + b) * 2 ^ (7 - k)) := by rw [rdI, if_neg (by omega), rdI, if_pos ⟨rfl, rfl⟩]
  unfold pfI
  rw [Option.bind_some]
  generalize setI (setI μ 157 fb.length (nI ((2 * P + b) * 2 ^ (7 - k)))) 129 65 (((setI μ 157 fb.length (nI ((2 * P + b) * 2 ^ (7 - k)))).1 129 65) + 1) = m0 at f0 y65 y157 ⊢
  have sg0 : Seg m0 157 0 fb := ⟨fun i hi => by rw [f0.1 _ _ (by omega)]; exact sg.1 i hi, sg.2⟩
  have H0 : HM m0 t v.1 := hH.fr h1 f0 (fun c k _ => by omega)
  have N0 : Seg m0 158 0 ns := ⟨fun i hi => by rw [f0.1 _ _ (by omega)]; exact hN.1 i hi, hN.2⟩
  have bits : ∀ x : Bool × Nat × Nat × List Nat, x.1 = true → (m0.1 129 65 = nI (8 * x.2.2.2.length + x.2.1) ∧ Seg m0 157 0 x.2.2.2 ∧ (0 < x.2.1 → m0.1 157 x.2.2.2.length = nI (x.2.2.1 * 2 ^ (8 - x.2.1)))) → EyM ns m0 t (v.1, v.2.1, v.2.2.1, x) := by
    intro x x1 x2
    exact ⟨H0, N0, by rw [f0.1 _ _ (by omega)]; exact c6, by rw [f0.1 _ _ (by omega)]; exact c7, by rw [f0.1 _ _ (by omega)]; exact c11, by rw [f0.1 _ _ (by omega)]; exact c12, by rw [f0.1 _ _ (by omega), c8, hi]; show _ = nI (b2n x.1); rw [x1], (fun z => by have z : x.1 = false := z; rw [x1] at z; cases z), fun _ => x2⟩
  rw [y65, i_512]
  unfold vInn
  rw [hk, hfb]
  by_cases q1 : k < 7
  · rw [if_pos q1, if_neg (fun z => by have := (nI_eq (by omega) (by omega)).mp z; omega)]
    refine wp_some ⟨bits (true, k + 1, 2 * P + b, fb) rfl ⟨y65, sg0, fun _ => ?_⟩, f0.mono (by intro c k h; omega)⟩
    show m0.1 157 fb.length = nI ((2 * P + b) * 2 ^ (8 - (k + 1)))
    rw [y157, show 8 - (k + 1) = 7 - k by omega]
  · have e7 : k = 7 := by omega
    subst e7
    have bl : 2 * P + b < 256 := hp
    rw [if_neg q1]
    rw [show 7 - 7 = 0 from rfl, Nat.pow_zero, Nat.mul_one] at y157
    have el : (fb ++ [2 * P + b]).length = fb.length + 1 := List.length_append
    have sg1 : Seg m0 157 0 (fb ++ [2 * P + b]) := by
      refine ⟨fun j hj => ?_, mem_lt_app i4 (fun x hx => by rw [List.mem_singleton] at hx; rw [hx]; exact bl)⟩
      rw [getD_app]
      by_cases e : j = fb.length
      · rw [if_neg (by omega), e, Nat.sub_self, Nat.zero_add, y157]; rfl
      · rw [if_pos (by omega)]; exact sg0.1 j (by omega)
    by_cases q2 : fb.length < 63
    · rw [if_pos q2, if_neg (fun z => by have := (nI_eq (by omega) (by omega)).mp z; omega)]
      refine wp_some ⟨bits (true, 0, 0, fb ++ [2 * P + b]) rfl ⟨?_, sg1, fun z => absurd z (Nat.lt_irrefl 0)⟩, f0.mono (by intro c k h; omega)⟩
      show m0.1 129 65 = nI (8 * (fb ++ [2 * P + b]).length + 0)
      rw [y65, el]
      congr 1
    · rw [if_neg q2, if_pos (by rw [show fb.length = 63 by omega]), i_0, pfZ_0, Option.bind_some, Option.bind_some, Option.bind_some]
      have f1 : Fr (fun a k => a = 157 ∧ k = fb.length ∨ a = 129 ∧ 62 ≤ k ∧ k ≤ 65) μ (setI (setI (setI m0 129 64 (nI 0)) 129 62 (nI 0)) 129 63 (nI 0)) := (((f0.mono (by intro c k h; omega)).pI (by omega)).pI (by omega)).pI (by omega)
      have f1b : Fr (fun a k => a = 129 ∧ 62 ≤ k ∧ k ≤ 64) m0 (setI (setI (setI m0 129 64 (nI 0)) 129 62 (nI 0)) 129 63 (nI 0)) := ((Fr.sI (by omega)).pI (by omega)).pI (by omega)
      have z64 : (setI (setI (setI m0 129 64 (nI 0)) 129 62 (nI 0)) 129 63 (nI 0)).1 129 64 = nI 0 := by rw [rdI, if_neg (by omega), rdI, if_neg (by omega), rdI, if_pos ⟨rfl, rfl⟩]
      have z62 : (setI (setI (setI m0 129 64 (nI 0)) 129 62 (nI 0)) 129 63 (nI 0)).1 129 62 = nI 0 := by rw [rdI, if_neg (by omega), rdI, if_pos ⟨rfl, rfl⟩]
      have z63 : (setI (setI (setI m0 129 64 (nI 0)) 129 62 (nI 0)) 129 63 (nI 0)).1 129 63 = nI 0 := by rw [rdI, if_pos ⟨rfl, rfl⟩]
      generalize setI (setI (setI m0 129 64 (nI 0)) 129 62 (nI 0)) 129 63 (nI 0) = m1 at f1 f1b z62 z63 z64 ⊢
      refine wp_bind (frm_M (H0.fr h1 f1b (fun c k _ => by omega)) h1 (sg1.fr7 f1b (fun k => by omega)) (by omega) ⟨fun i hi => by rw [f1.1 _ _ (by omega)]; exact hN.1 i hi, hN.2⟩ hnl hn) (fun m2 ⟨d1, d2⟩ => wp_some ⟨⟨d1, ⟨fun i hi => by rw [d2.1 _ _ (by omega), f1.1 _ _ (by omega)]; exact hN.1 i hi, hN.2⟩, by rw [d2.1 _ _ (by omega), f1.1 _ _ (by omega)]; exact c6, by rw [d2.1 _ _ (by omega), f1.1 _ _ (by omega)]; exact c7, by rw [d2.1 _ _ (by omega), f1.1 _ _ (by omega)]; exact c11, by rw [d2.1 _ _ (by omega), f1.1 _ _ (by omega)]; exact c12, by rw [d2.1 _ _ (by omega)]; exact z64, fun _ => ⟨by rw [d2.1 _ _ (by omega)]; exact z62, by rw [d2.1 _ _ (by omega)]; exact z63⟩, fun z => by cases z⟩, f1.tr d2 (by intro c k h; omega) (by intro c k h; omega)⟩)
theorem gear_M {μ : Mem} {t b : Nat} {ns : List Nat} {v : Ey} (h : EyM ns μ t v) (hI : EyI v) (hb : b < 2) (hnl : ns.length = 64) (hn : v.1.2.1.2.1 < 2 ^ 29) : wp (f299 (nI b) μ) (fun m => EyM ns m t (vBit t ns b v) ∧ Fr FYM μ m) := by
  have hh := h
  have hI' := hI
  have g := gl_157
  have g6 := gl_156
  obtain ⟨hH, hN, c6, c7, c11, c12, c8, cO, cB⟩ := h
  obtain ⟨h1, h2, h3, h4⟩ := hI
  unfold f299
  rw [c8]
  by_cases q1 : v.2.2.2.1 = true
  · have eb : vBit t ns b v = vInn t ns v (2 * v.2.2.2.2.2.1 + b) := if_pos q1
    rw [eb, q1, if_neg (show ¬ nI (b2n true) = 0 by decide)]
    obtain ⟨i1, i2, i3, i4⟩ := h4 q1
    obtain ⟨e65, sg, ex⟩ := cB q1
    rw [e65, i_8, jrem_N (by omega) (by omega) (by omega), show (8 * v.2.2.2.2.2.2.length + v.2.2.2.2.1) % 8 = v.2.2.2.2.1 by omega]
    by_cases q2 : v.2.2.2.2.1 = 0
    · rw [if_pos (by rw [q2]; rfl), pk_div (by omega) (by omega) (by omega), show (8 * v.2.2.2.2.2.2.length + v.2.2.2.2.1) / 8 = v.2.2.2.2.2.2.length by omega, stA_N (by omega), Option.bind_some]
      have f0 : Fr (fun a k => a = 157 ∧ k = v.2.2.2.2.2.2.length) μ (setI μ 157 v.2.2.2.2.2.2.length 0) := Fr.sI ⟨rfl, rfl⟩
      have y157 : (setI μ 157 v.2.2.2.2.2.2.length 0).1 157 v.2.2.2.2.2.2.length = nI 0 := by rw [rdI, if_pos ⟨rfl, rfl⟩]; rfl
      generalize setI μ 157 v.2.2.2.2.2.2.length 0 = m0 at f0 y157 ⊢
      have P0 : v.2.2.2.2.2.1 = 0 := by rw [q2] at i2; omega
      have y : m0.1 157 v.2.2.2.2.2.2.length = nI (v.2.2.2.2.2.1 * 2 ^ (8 - v.2.2.2.2.1)) := by rw [P0, Nat.zero_mul]; exact y157
      refine wp_mono (gearI_M ⟨hH.fr h1 f0 (fun c k _ => by omega), ⟨fun i hi => by rw [f0.1 _ _ (by omega)]; exact hN.1 i hi, hN.2⟩, by rw [f0.1 _ _ (by omega)]; exact c6, by rw [f0.1 _ _ (by omega)]; exact c7, by rw [f0.1 _ _ (by omega)]; exact c11, by rw [f0.1 _ _ (by omega)]; exact c12, by rw [f0.1 _ _ (by omega)]; exact c8, (fun z => by rw [q1] at z; cases z), fun _ => ⟨by rw [f0.1 _ _ (by omega)]; exact e65, ⟨fun i hi => by rw [f0.1 _ _ (by omega)]; exact sg.1 i hi, sg.2⟩, fun _ => y⟩⟩ hI' hb hnl hn q1 y) (fun m ⟨a1, a2⟩ => ⟨a1, f0.tr a2 (by intro c k h; omega) (fun _ _ q => q)⟩)
    · rw [if_neg (show ¬ nI v.2.2.2.2.1 = 0 from fun z => q2 ((nI_eq (b := 0) (by omega) (by omega)).mp z))]
      exact gearI_M hh hI' hb hnl hn q1 (ex (by omega))
  · have q1' : v.2.2.2.1 = false := Bool.eq_false_iff.mpr q1
    have eb : vBit t ns b v = if v.2.2.2.2.1 < 31 then (v.1, v.2.1, v.2.2.1, (false, v.2.2.2.2.1 + 1, 2 * v.2.2.2.2.2.1 + b, [])) else vOut v ((2 * v.2.2.2.2.2.1 + b) % 2 ^ 32) := if_neg q1
    rw [eb, q1', if_pos (show nI (b2n false) = 0 by decide)]
    obtain ⟨i1, i2⟩ := h3 q1'
    obtain ⟨e62, e63⟩ := cO q1'
    have pl : v.2.2.2.2.2.1 < 2 ^ 32 := Nat.lt_of_lt_of_le i2 (Nat.pow_le_pow_right (by decide) i1)
    rw [e63, i_1, shl1 pl hb]
    unfold pfI
    rw [Option.bind_some]
    have f0 : Fr (fun a k => a = 129 ∧ k = 63) μ (setI μ 129 63 (nI ((2 * v.2.2.2.2.2.1 + b) % 2 ^ 32))) := Fr.sI ⟨rfl, rfl⟩
    have y63 : (setI μ 129 63 (nI ((2 * v.2.2.2.2.2.1 + b) % 2 ^ 32))).1 129 63 = nI ((2 * v.2.2.2.2.2.1 + b) % 2 ^ 32) := by rw [rdI, if_pos ⟨rfl, rfl⟩]
    generalize setI μ 129 63 (nI ((2 * v.2.2.2.2.2.1 + b) % 2 ^ 32)) = m0 at f0 y63 ⊢
    rw [f0.1 129 62 (by omega), e62, i_32]
    have go : ∀ c, c ≤ 32 → wp (c299_130 (nI c) m0) (fun m => EyM ns m t (if c < 32 then (v.1, v.2.1, v.2.2.1, (false, c, (2 * v.2.2.2.2.2.1 + b) % 2 ^ 32, [])) else vOut v ((2 * v.2.2.2.2.2.1 + b) % 2 ^ 32)) ∧ Fr FYM μ m) := by
      intro c hc
      have lA : (2 * v.2.2.2.2.2.1 + b) % 2 ^ 32 < 2 ^ 32 := Nat.mod_lt _ (by omega)
      generalize (2 * v.2.2.2.2.2.1 + b) % 2 ^ 32 = A at lA y63
      unfold c299_130 pfI
      rw [Option.bind_some]
      have f1 : Fr (fun a k => a = 129 ∧ 62 ≤ k ∧ k ≤ 63) μ (setI m0 129 62 (nI c)) := (f0.mono (by intro c k h; omega)).pI (by omega)
      have x62 : (setI m0 129 62 (nI c)).1 129 62 = nI c := by rw [rdI, if_pos ⟨rfl, rfl⟩]
      have x63 : (setI m0 129 62 (nI c)).1 129 63 = nI A := by rw [rdI, if_neg (by omega)]; exact y63
      generalize setI m0 129 62 (nI c) = m1 at f1 x62 x63 ⊢
      rw [x62, i_32]
      have out : ∀ m, ∀ x : Bool × Int32, ∀ c, Fr (fun a k => a = 129 ∧ 60 ≤ k ∧ k ≤ 63) μ m → m.1 129 62 = nI c → m.1 129 63 = nI A → m.1 129 60 = nI (b2n x.1) → m.1 129 61 = x.2 → EyM ns m t (v.1, v.2.1, x, (false, c, A, [])) := by
        intro m x c f2 y1 y2 y3 y4
        exact ⟨hH.fr h1 f2 (fun c k _ => by omega), ⟨fun i hi => by rw [f2.1 _ _ (by omega)]; exact hN.1 i hi, hN.2⟩, by rw [f2.1 _ _ (by omega)]; exact c6, by rw [f2.1 _ _ (by omega)]; exact c7, y3, y4, by rw [f2.1 _ _ (by omega), c8, q1'], fun _ => ⟨y1, y2⟩, fun z => by cases z⟩
      by_cases q3 : c < 32
      · rw [if_pos q3, if_neg (fun z => by have := (nI_leI (by omega) (by omega)).mp z; omega)]
        exact wp_some ⟨out m1 v.2.2.1 c (f1.mono (by intro c k h; omega)) x62 x63 (by rw [f1.1 _ _ (by omega)]; exact c11) (by rw [f1.1 _ _ (by omega)]; exact c12), f1.mono (by intro c k h; omega)⟩
      · have e32 : c = 32 := by omega
        subst e32
        have lx : A ^^^ 449838109 < 2 ^ 32 := Nat.xor_lt_two_pow lA (by decide)
        rw [if_neg q3, if_pos ((nI_leI (by omega) (by omega)).mpr (Nat.le_refl _)), x63, i_449838109, nx_xor, ones_M lx, Option.bind_some]
        dsimp only
        rw [i_0, ldA_N (by omega), Option.bind_some, f1.1 156 0 (by omega), c6]
        have beg : ∀ m, ∀ x : Bool × Int32, Fr (fun a k => a = 129 ∧ 60 ≤ k ∧ k ≤ 63) μ m → m.1 129 60 = nI (b2n x.1) → m.1 129 61 = x.2 → wp (f300 m) (fun m2 => EyM ns m2 t (v.1, v.2.1, x, (true, 0, 0, [])) ∧ Fr FYM μ m2) := by
          intro m x f2 y3 y4
          unfold f300 pfI
          rw [i_1, pfZ_1, Option.bind_some, Option.bind_some]
          have f3 : Fr (fun a k => a = 129 ∧ 60 ≤ k ∧ k ≤ 65) μ (setI (setI m 129 64 (nI 1)) 129 65 0) := ((f2.mono (by intro c k h; omega)).pI (by omega)).pI (by omega)
          refine wp_some ⟨⟨hH.fr h1 f3 (fun c k _ => by omega), ⟨fun i hi => by rw [f3.1 _ _ (by omega)]; exact hN.1 i hi, hN.2⟩, by rw [f3.1 _ _ (by omega)]; exact c6, by rw [f3.1 _ _ (by omega)]; exact c7, ?_, ?_, ?_, (fun z => by cases z), fun _ => ⟨?_, ⟨fun i hi => absurd hi (Nat.not_lt_zero _), fun b hb => by cases hb⟩, fun z => absurd z (Nat.lt_irrefl 0)⟩⟩, f3.mono (by intro c k h; omega)⟩
          · rw [rdI, if_neg (by omega), rdI, if_neg (by omega)]; exact y3
          · rw [rdI, if_neg (by omega), rdI, if_neg (by omega)]; exact y4
          · rw [rdI, if_neg (by omega), rdI, if_pos ⟨rfl, rfl⟩]; rfl
          · rw [rdI, if_pos ⟨rfl, rfl⟩]; rfl
        have c210 : ∀ x : Int32, wp (c299_210 x m1) (fun m => EyM ns m t (if x ≤ v.2.1.2 then (v.1, v.2.1, (v.2.2.1.1, x), (true, 0, 0, [])) else (v.1, v.2.1, (false, nI 0), (false, 32, A, []))) ∧ Fr FYM μ m) := by
          intro x
          unfold c299_210 pfI
          rw [Option.bind_some]
          have f2 : Fr (fun a k => a = 129 ∧ 60 ≤ k ∧ k ≤ 63) μ (setI m1 129 61 x) := (f1.mono (by intro c k h; omega)).pI (by omega)
          have y60 : (setI m1 129 61 x).1 129 60 = nI (b2n v.2.2.1.1) := by rw [rdI, if_neg (by omega), f1.1 _ _ (by omega)]; exact c11
          have y61 : (setI m1 129 61 x).1 129 61 = x := by rw [rdI, if_pos ⟨rfl, rfl⟩]
          have y62 : (setI m1 129 61 x).1 129 62 = nI 32 := by rw [rdI, if_neg (by omega)]; exact x62
          have y63 : (setI m1 129 61 x).1 129 63 = nI A := by rw [rdI, if_neg (by omega)]; exact x63
          generalize setI m1 129 61 x = m2 at f2 y60 y61 y62 y63 ⊢
          rw [i_1, ldA_N (by omega), Option.bind_some, y61, f2.1 156 1 (by omega), c7]
          by_cases q4 : x ≤ v.2.1.2
          · rw [if_pos q4, if_pos q4]
            exact wp_bind (beg m2 (v.2.2.1.1, x) f2 y60 y61) (fun m3 z => wp_some z)
          · rw [if_neg q4, if_neg q4, i_0, pfZ_0, Option.bind_some, Option.bind_some]
            refine wp_some ⟨out _ (false, nI 0) 32 ((f2.pI (by omega)).pI (by omega)) ?_ ?_ ?_ ?_, ((f2.mono (by intro c k h; omega)).pI (by omega)).pI (by omega)⟩
            · rw [rdI, if_neg (by omega), rdI, if_neg (by omega)]; exact y62
            · rw [rdI, if_neg (by omega), rdI, if_neg (by omega)]; exact y63
            · rw [rdI, if_neg (by omega), rdI, if_pos ⟨rfl, rfl⟩]; rfl
            · rw [rdI, if_pos ⟨rfl, rfl⟩]
        unfold vOut c299_168
        rw [f1.1 129 60 (by omega), c11]
        by_cases q5 : v.2.1.1 < nI (onN (A ^^^ 449838109) 32)
        · rw [if_pos q5, if_neg (show ¬ vMk v.2.1.1 A = true from fun z => (of_decide_eq_true z) q5)]
          by_cases q4 : v.2.2.1.1 = true
          · have := c210 (v.2.2.1.2 + 1)
            rw [q4] at this ⊢
            rw [if_pos rfl, if_neg (show ¬ nI (b2n true) = 0 by decide), if_pos (show nI 0 = 0 by decide), f1.1 129 61 (by omega), c12]
            exact this
          · have q4' : v.2.2.1.1 = false := Bool.eq_false_iff.mpr q4
            rw [if_neg q4, q4', if_pos (show nI (b2n false) = 0 by decide), if_pos (show nI 0 = 0 by decide)]
            exact wp_some ⟨out m1 v.2.2.1 32 (f1.mono (by intro c k h; omega)) x62 x63 (by rw [f1.1 _ _ (by omega)]; exact c11) (by rw [f1.1 _ _ (by omega)]; exact c12), f1.mono (by intro c k h; omega)⟩
        · rw [if_neg q5, if_pos (show vMk v.2.1.1 A = true from decide_eq_true q5)]
          by_cases q4 : v.2.2.1.1 = true
          · have := c210 (nI 0)
            rw [if_pos (show nI 0 ≤ v.2.1.2 from Int32.not_lt.mp h2), q4] at this
            rw [q4, if_neg (show ¬ nI (b2n true) = 0 by decide), if_neg (show ¬ (1 : Int32) = 0 by decide)]
            exact this
          · have q4' : v.2.2.1.1 = false := Bool.eq_false_iff.mpr q4
            rw [q4', if_pos (show nI (b2n false) = 0 by decide), if_neg (show ¬ (1 : Int32) = 0 by decide)]
            unfold pfI
            rw [i_1, pfZ_1, Option.bind_some, Option.bind_some]
            refine wp_bind (beg _ (true, nI 0) (((f1.mono (by intro c k h; omega)).pI (by omega)).pI (by omega)) ?_ ?_) (fun m3 z => wp_some z)
            · rw [rdI, if_neg (by omega), rdI, if_pos ⟨rfl, rfl⟩]; rfl
            · rw [rdI, if_pos ⟨rfl, rfl⟩]; rfl
    by_cases q2 : v.2.2.2.2.1 < 31
    · rw [if_pos q2, if_neg (fun z => by have := (nI_leI (by omega) (by omega)).mp z; omega), nI_add]
      have := go (v.2.2.2.2.1 + 1) (by omega)
      have p2 : 2 * v.2.2.2.2.2.1 + b < 2 ^ 32 := by
        have h7 : 2 ^ v.2.2.2.2.1 ≤ 2 ^ 30 := Nat.pow_le_pow_right (by decide) (by omega)
        omega
      rw [if_pos (by omega), Nat.mod_eq_of_lt p2] at this
      exact this
    · rw [if_neg q2]
      have := go 32 (by omega)
      rw [if_neg (by omega)] at this
      by_cases e : v.2.2.2.2.1 = 32
      · rw [if_pos ((nI_leI (by omega) (by omega)).mpr (by omega))]; exact this
      · rw [if_neg (fun z => by have := (nI_leI (by omega) (by omega)).mp z; omega), nI_add, show v.2.2.2.2.1 + 1 = 32 by omega]; exact this
