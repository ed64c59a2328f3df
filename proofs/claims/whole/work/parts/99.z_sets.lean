/-! ===== rows of the law: two that set ===== -/
theorem EyC.ef {ns : List Nat} {μ m : Mem} {t : Nat} {v : Ey} {x y : Int32} (h : EyC ns μ t v) (h6 : m.1 49 6 = x) (h7 : m.1 49 7 = y) (hf : Fr (fun c k => c = 49 ∧ (k = 6 ∨ k = 7)) μ m) : EyC ns m t (v.1, (x, y), v.2.2) := by
  obtain ⟨hH, hN, c6, c7, c11, c12, c8, c10, ⟨L, lL, c9, eP⟩, cB⟩ := h
  exact ⟨hH.fr hf (fun c k _ => by omega), ⟨fun i hi => by rw [hf.1 _ _ (by omega)]; exact hN.1 i hi, hN.2⟩, h6, h7, by rw [hf.1 _ _ (by omega)]; exact c11, by rw [hf.1 _ _ (by omega)]; exact c12, by rw [hf.1 _ _ (by omega)]; exact c8, by rw [hf.1 _ _ (by omega)]; exact c10, ⟨L, lL, by rw [hf.1 _ _ (by omega)]; exact c9, eP⟩, fun z => (cB z).fr hf (by omega) (fun k => by omega)⟩
theorem EyM.ef {ns : List Nat} {μ m : Mem} {t : Nat} {v : Ey} {x y : Int32} (h : EyM ns μ t v) (hI : EyI v) (h6 : m.1 156 0 = x) (h7 : m.1 156 1 = y) (hf : Fr (fun c _ => c = 156) μ m) : EyM ns m t (v.1, (x, y), v.2.2) := by
  obtain ⟨hH, hN, c6, c7, c11, c12, c8, cO, cB⟩ := h
  exact ⟨hH.fr hI.1 hf (fun c k _ => by omega), ⟨fun i hi => by rw [hf.1 _ _ (by omega)]; exact hN.1 i hi, hN.2⟩, h6, h7, by rw [hf.1 _ _ (by omega)]; exact c11, by rw [hf.1 _ _ (by omega)]; exact c12, by rw [hf.1 _ _ (by omega)]; exact c8, (fun z => ⟨by rw [hf.1 _ _ (by omega)]; exact (cO z).1, by rw [hf.1 _ _ (by omega)]; exact (cO z).2⟩), fun z => ⟨by rw [hf.1 _ _ (by omega)]; exact (cB z).1, (cB z).2.1.fr7 hf (fun k => by omega), fun y => by rw [hf.1 _ _ (by omega)]; exact (cB z).2.2 y⟩⟩
theorem ear_row {n : Nat} {μ : Mem} {ns : List Nat} {t : Nat} {bs cl : List Nat} {v : Ey} {e : Ew} {x : Xw} {f : Fw} {fC fM : Mem → Option (Mem × Int32)} {u w an z : Int32} {k i : Nat} (a : GC ns μ t bs cl v e x f) (b : GM ns μ t bs cl v e x f) (c : GI ns v e x f) (d : GB n t v e) (hw : ¬ w < 0) (hk : k = 6 ∧ i = 0 ∨ k = 7 ∧ i = 1) (eC : fC μ = some (setI μ 49 k z, an)) (eM : ∀ m, GM ns m t bs cl v e x f → fM m = some (setI m 156 i z, an)) (h6 : (setI μ 49 k z).1 49 6 = u) (h7 : (setI μ 49 k z).1 49 7 = w) (h8 : ∀ m, GM ns m t bs cl v e x f → (setI m 156 i z).1 156 0 = u ∧ (setI m 156 i z).1 156 1 = w) : wp (fC μ) (fun r => Sc μ r.1 ∧ wp (fM r.1) (fun r2 => r2.2 = r.2 ∧ Inv (n + 1) r2.1)) := by
  refine rw_of (a := an) b c (t' := t) (bs' := bs) (cl' := cl) (v' := (v.1, (u, w), v.2.2)) (e' := e) (x' := x) (f' := f) ?_ (fun m hm => ?_)
  · rw [eC]
    have fr : Fr (fun c k => c = 49 ∧ (k = 6 ∨ k = 7)) μ (setI μ 49 k z) := Fr.sI ⟨rfl, by omega⟩
    generalize setI μ 49 k z = m at *
    exact wp_some ⟨rfl, ⟨a.1.fr fr (by omega) (fun k => by omega), (fun z => (a.2.1 z).fr fr (fun c k _ => by omega)), a.2.2.1.ef h6 h7 fr, a.2.2.2.1.lo fr (fun c k _ => by omega), a.2.2.2.2.1.fr fr (fun c k _ => by omega), a.2.2.2.2.2.fr fr (fun c k _ => by omega)⟩, (fr.mono (by intro c k h; omega)).l, ⟨⟨c.1.1, hw, c.1.2.2⟩, c.2⟩, d.up⟩
  · rw [eM m hm]
    obtain ⟨h9, h10⟩ := h8 m hm
    have fr : Fr (fun c _ => c = 156) m (setI m 156 i z) := Fr.sI rfl
    generalize setI m 156 i z = m2 at *
    exact wp_some ⟨rfl, ⟨hm.1.fr fr (by omega) (fun k => by omega), (fun z => (hm.2.1 z).fr fr (fun k _ => by omega)), hm.2.2.1.ef c.1 h9 h10 fr, hm.2.2.2.1.fr c.2.1 fr (fun c k _ => by omega), hm.2.2.2.2.1.fr c.2.2.1 fr (fun c k _ => by omega), hm.2.2.2.2.2.1.fr c.2.2.2.1 fr (fun c k _ => by omega), hm.2.2.2.2.2.2.fr fr (fun k => by omega)⟩, fr.mono (by intro c k h; omega)⟩
theorem rw_ear (p q : Int32) : Rw (f226 p q) (f301 p q) := by
  have g := gl_156
  rcases sm p 1 with hp | ⟨l, hl, hl2, rfl⟩ | ⟨l, hl, hl2, rfl⟩
  · refine rw_get (fun n μ _ _ => ⟨-1, ?_, ?_⟩)
    · unfold f226; rw [if_pos hp]
    · unfold f301; rw [if_pos hp]
  · rcases sm q 3 with hq | ⟨k, hk, hk2, rfl⟩ | ⟨k, hk, hk2, rfl⟩
    · refine rw_get (fun n μ _ _ => ⟨-1, ?_, ?_⟩)
      · unfold f226; rw [if_neg (nlt0 hl2), if_neg (show ¬ (1 : Int32) < nI l from fun z => by have := (nI_ltI (a := 1) (by omega) (by omega)).mp z; omega), if_pos hq]
      · unfold f301; rw [if_neg (nlt0 hl2), if_neg (show ¬ (1 : Int32) < nI l from fun z => by have := (nI_ltI (a := 1) (by omega) (by omega)).mp z; omega), if_pos hq]
    · intro n μ hn hI
      obtain ⟨ns, t, bs, cl, v, e, x, f, a, b, c, d⟩ := hI
      have c6 := a.2.2.1.2.2.1
      have c7 := a.2.2.1.2.2.2.1
      have k3 : nI k ≤ (3 : Int32) := (nI_leI (b := 3) (by omega) (by omega)).mpr hk
      have : l = 0 ∨ l = 1 := by omega
      rcases this with rfl | rfl
      · refine ear_row (u := nI k) (w := v.2.1.2) (an := v.2.1.1) (z := nI k) (k := 6) (i := 0) a b c d c.1.2.1 (Or.inl ⟨rfl, rfl⟩) ?_ (fun m hm => ?_) ?_ ?_ (fun m hm => ⟨?_, ?_⟩)
        · unfold f226
          rw [if_neg (show ¬ nI 0 < 0 by decide), if_neg (show ¬ (1 : Int32) < nI 0 by decide), if_neg (nlt0 hk2), if_pos k3, if_pos (show nI 0 = 0 from rfl)]
          unfold f96
          rw [pfI, Option.bind_some, Option.bind_some, c6]
        · unfold f301
          rw [if_neg (show ¬ nI 0 < 0 by decide), if_neg (show ¬ (1 : Int32) < nI 0 by decide), if_neg (nlt0 hk2), if_pos k3, ldA_N (by omega), Option.bind_some, stA_N (by omega), Option.bind_some, hm.2.2.1.2.2.1]
        · rw [rdI, if_pos ⟨rfl, rfl⟩]
        · rw [rdI, if_neg (by omega)]; exact c7
        · rw [rdI, if_pos ⟨rfl, rfl⟩]
        · rw [rdI, if_neg (by omega)]; exact hm.2.2.1.2.2.2.1
      · refine ear_row (u := v.2.1.1) (w := nI k) (an := v.2.1.2) (z := nI k) (k := 7) (i := 1) a b c d (nlt0 hk2) (Or.inr ⟨rfl, rfl⟩) ?_ (fun m hm => ?_) ?_ ?_ (fun m hm => ⟨?_, ?_⟩)
        · unfold f226
          rw [if_neg (show ¬ nI 1 < 0 by decide), if_neg (show ¬ (1 : Int32) < nI 1 by decide), if_neg (nlt0 hk2), if_pos k3, if_neg (show ¬ nI 1 = 0 by decide)]
          unfold f97
          rw [pfI, Option.bind_some, Option.bind_some, c7]
        · unfold f301
          rw [if_neg (show ¬ nI 1 < 0 by decide), if_neg (show ¬ (1 : Int32) < nI 1 by decide), if_neg (nlt0 hk2), if_pos k3, ldA_N (by omega), Option.bind_some, stA_N (by omega), Option.bind_some, hm.2.2.1.2.2.2.1]
        · rw [rdI, if_neg (by omega)]; exact c6
        · rw [rdI, if_pos ⟨rfl, rfl⟩]
        · rw [rdI, if_neg (by omega)]; exact hm.2.2.1.2.2.1
        · rw [rdI, if_pos ⟨rfl, rfl⟩]
    · have k3 : ¬ nI k ≤ (3 : Int32) := fun z => by have := (nI_leI (b := 3) (by omega) (by omega)).mp z; omega
      refine rw_get (fun n μ _ _ => ⟨-1, ?_, ?_⟩)
      · unfold f226; rw [if_neg (nlt0 hl2), if_neg (show ¬ (1 : Int32) < nI l from fun z => by have := (nI_ltI (a := 1) (by omega) (by omega)).mp z; omega), if_neg (nlt0 hk2), if_neg k3]
      · unfold f301; rw [if_neg (nlt0 hl2), if_neg (show ¬ (1 : Int32) < nI l from fun z => by have := (nI_ltI (a := 1) (by omega) (by omega)).mp z; omega), if_neg (nlt0 hk2), if_neg k3]
  · refine rw_get (fun n μ _ _ => ⟨-1, ?_, ?_⟩)
    · unfold f226; rw [if_neg (nlt0 hl2), if_pos (show (1 : Int32) < nI l from (nI_ltI (a := 1) (by omega) (by omega)).mpr hl)]
    · unfold f301; rw [if_neg (nlt0 hl2), if_pos (show (1 : Int32) < nI l from (nI_ltI (a := 1) (by omega) (by omega)).mpr hl)]
def snE (e : Ew) (j : Nat) (z : Int32) : Ew := (((e.1.1.1, upL e.1.1.2.1 j z, e.1.1.2.2), e.1.2), e.2)
theorem rw_sense (p z : Int32) : Rw (f232 p z) (f354 p z) := by
  have g1 := gl_124
  have g2 := gl_162
  rcases sm p 15 with hp | ⟨j, hj, hj2, rfl⟩ | ⟨j, hj, hj2, rfl⟩
  · refine rw_get (fun n μ _ _ => ⟨0, ?_, ?_⟩)
    · unfold f232; rw [if_pos hp]
    · unfold f354; rw [if_pos hp]
  · have j3 : nI j ≤ (15 : Int32) := (nI_leI (b := 15) (by omega) (by omega)).mpr hj
    intro n μ hn hI
    obtain ⟨ns, t, bs, cl, v, e, x, f, a, b, c, d⟩ := hI
    refine rw_of (a := e.1.1.2.1 j) b c (t' := t) (bs' := bs) (cl' := cl) (v' := v) (e' := snE e j z) (x' := x) (f' := f) ?_ (fun m hm => ?_)
    · have hE := a.2.2.2.1
      have hc := hE.1.1
      unfold f232
      rw [if_neg (nlt0 hj2), if_pos j3, ldA_N (by omega), Option.bind_some, stA_N (by omega), Option.bind_some, hc.2.1.1 j (by omega) (by omega) (by omega)]
      have fr : Fr (fun c k => c = 124 ∧ k = j) μ (setI μ 124 j z) := Fr.sI ⟨rfl, rfl⟩
      have rd : (setI μ 124 j z).1 124 j = z := by rw [rdI, if_pos ⟨rfl, rfl⟩]
      generalize setI μ 124 j z = m at *
      have hd : DC m (snE e j z).1 := by
        refine ⟨⟨⟨hc.1.1.fr fr (fun k => by omega), by rw [fr.1 _ _ (by omega)]; exact hc.1.2.1, by rw [fr.1 _ _ (by omega)]; exact hc.1.2.2.1, hc.1.2.2.2.1.fr fr (fun c k _ _ => by omega), by rw [fr.1 _ _ (by omega)]; exact hc.1.2.2.2.2.1, hc.1.2.2.2.2.2.1.fr fr (fun c k _ _ => by omega), hc.1.2.2.2.2.2.2.fr fr (fun c k _ _ => by omega)⟩, ⟨fun i hi h16 h17 => ?_, by rw [fr.1 _ _ (by omega)]; show μ.1 9 8 = upL e.1.1.2.1 j z 16; rw [upL_o (by omega)]; exact hc.2.1.2.1, by rw [fr.1 _ _ (by omega)]; show μ.1 9 9 = upL e.1.1.2.1 j z 17; rw [upL_o (by omega)]; exact hc.2.1.2.2⟩, hc.2.2.1.fr fr (fun c k _ _ => by omega), hc.2.2.2.1.fr fr (fun k => by omega), hc.2.2.2.2.fr fr (by omega) (fun k => by omega)⟩, hE.1.2.1.fr fr (fun k _ _ => by omega), by rw [fr.1 _ _ (by omega)]; exact hE.1.2.2⟩
        show m.1 124 i = upL e.1.1.2.1 j z i
        by_cases q : i = j
        · rw [q, upL_s]; exact rd
        · rw [upL_o q, fr.1 _ _ (by omega)]; exact hc.2.1.1 i hi h16 h17
      exact wp_some ⟨rfl, ⟨a.1.fr fr (by omega) (fun k => by omega), (fun z => (a.2.1 z).fr fr (fun c k _ => by omega)), a.2.2.1.fr fr (fun c k _ => by omega), hE.d hd fr (fun c k _ => by omega), a.2.2.2.2.1.fr fr (fun c k _ => by omega), a.2.2.2.2.2.fr fr (fun c k _ => by omega)⟩, (fr.mono (by intro c k h; omega)).l, c, d.up⟩
    · have hE := hm.2.2.2.1
      have hc := hE.1.1
      have hmi := c.2.1.1.1.1
      unfold f354
      rw [if_neg (nlt0 hj2), if_pos j3, ldA_N (by omega), Option.bind_some, stA_N (by omega), Option.bind_some, hc.2.1 j (by omega)]
      have fr : Fr (fun c k => c = 162 ∧ k = j) m (setI m 162 j z) := Fr.sI ⟨rfl, rfl⟩
      have rd : (setI m 162 j z).1 162 j = z := by rw [rdI, if_pos ⟨rfl, rfl⟩]
      generalize setI m 162 j z = m2 at *
      have hd : DM m2 (snE e j z).1 := by
        refine ⟨⟨⟨by rw [fr.1 _ _ (by omega)]; exact hc.1.1, by rw [fr.1 _ _ (by omega)]; exact hc.1.2.1, ⟨by rw [fr.1 _ _ (by omega)]; exact hc.1.2.2.1.1, hc.1.2.2.1.2.fr fr (fun k => by omega) (fun k => by omega)⟩, by rw [fr.1 _ _ (by omega)]; exact hc.1.2.2.2.1, hc.1.2.2.2.2.1.fr hmi.2.2.1.2.2.l90 fr (fun c k z => by omega), hc.1.2.2.2.2.2.fr hmi.2.2.2.2.2.l90 fr (fun c k z => by omega)⟩, fun i hi => ?_, hc.2.2.1.fr fr (by omega) (fun c k _ _ => by omega), hc.2.2.2.fr fr (by omega) (fun k => by omega)⟩, hE.1.2.1.fr fr (fun k _ _ => by omega), by rw [fr.1 _ _ (by omega)]; exact hE.1.2.2⟩
        show m2.1 162 i = upL e.1.1.2.1 j z i
        by_cases q : i = j
        · rw [q, upL_s]; exact rd
        · rw [upL_o q, fr.1 _ _ (by omega)]; exact hc.2.1 i hi
      exact wp_some ⟨rfl, ⟨hm.1.fr fr (by omega) (fun k => by omega), (fun z => (hm.2.1 z).fr fr (fun k _ => by omega)), hm.2.2.1.fr c.1 fr (fun c k _ => by omega), hE.d hd fr (fun c k _ => by omega), hm.2.2.2.2.1.fr c.2.2.1 fr (fun c k _ => by omega), hm.2.2.2.2.2.1.fr c.2.2.2.1 fr (fun c k _ => by omega), hm.2.2.2.2.2.2.fr fr (fun k => by omega)⟩, fr.mono (by intro c k h; omega)⟩
  · have j3 : ¬ nI j ≤ (15 : Int32) := fun z => by have := (nI_leI (b := 15) (by omega) (by omega)).mp z; omega
    refine rw_get (fun n μ _ _ => ⟨0, ?_, ?_⟩)
    · unfold f232; rw [if_neg (nlt0 hj2), if_neg j3]
    · unfold f354; rw [if_neg (nlt0 hj2), if_neg j3]
