/-! ===== all of it: both worlds at once ===== -/
theorem FwC.fr {μ m : Mem} {f : Fw} {P : Nat → Nat → Prop} (h : FwC μ f) (ho : Fr P μ m) (h1 : ∀ c k, c = 57 ∧ (k = 15 ∨ k = 17) ∨ 90 ≤ c ∧ c ≤ 96 → ¬ P c k) : FwC m f :=
  ⟨h.1.fr ho (fun c k _ => h1 _ _ (by omega)), h.2.1.fr ho (fun c k _ => h1 _ _ (by omega)), by rw [ho.1 _ _ (h1 _ _ (by omega))]; exact h.2.2.1, (fun i hi => by rw [ho.1 _ _ (h1 _ _ (by omega))]; exact h.2.2.2.1 i hi), by rw [ho.1 _ _ (h1 _ _ (by omega))]; exact h.2.2.2.2⟩
theorem FwM.fr {μ m : Mem} {f : Fw} {P : Nat → Nat → Prop} (h : FwM μ f) (hI : FwI f) (ho : Fr P μ m) (h1 : ∀ c k, c = 129 ∧ (k = 139 ∨ k = 141) ∨ 208 ≤ c ∧ c ≤ 212 → ¬ P c k) : FwM m f :=
  ⟨h.1.fr hI.1 ho (fun c k _ => h1 _ _ (by omega)), h.2.1.fr hI.2.1 ho (fun c k _ => h1 _ _ (by omega)), by rw [ho.1 _ _ (h1 _ _ (by omega))]; exact h.2.2.1, (fun i hi => by rw [ho.1 _ _ (h1 _ _ (by omega))]; exact h.2.2.2.1 i hi), by rw [ho.1 _ _ (h1 _ _ (by omega))]; exact h.2.2.2.2⟩
theorem EyC.fr {ns : List Nat} {μ m : Mem} {t : Nat} {v : Ey} {P : Nat → Nat → Prop} (h : EyC ns μ t v) (hf : Fr P μ m) (h1 : ∀ c k, c = 100000 ∨ c = 100001 ∨ c = 12 ∨ 15 ≤ c ∧ c ≤ 40 ∨ 5 ≤ c ∧ c ≤ 8 ∨ 49 ≤ c ∧ c ≤ 56 → ¬ P c k) : EyC ns m t v :=
  h.w (h.1.1.fr hf (fun c k _ => h1 _ _ (by omega))) hf (fun c k _ => h1 _ _ (by omega))
theorem EyM.fr {ns : List Nat} {μ m : Mem} {t : Nat} {v : Ey} {P : Nat → Nat → Prop} (h : EyM ns μ t v) (hI : EyI v) (hf : Fr P μ m) (h1 : ∀ c k, 134 ≤ c ∧ c ≤ 136 ∨ 141 ≤ c ∧ c ≤ 147 ∨ 152 ≤ c ∧ c ≤ 161 ∨ 215 ≤ c ∧ c ≤ 220 ∨ c = 129 ∧ (28 ≤ k ∧ k ≤ 43 ∨ k = 58 ∨ 60 ≤ k ∧ k ≤ 72 ∨ 144 ≤ k ∧ k ≤ 147) → ¬ P c k) : EyM ns m t v :=
  h.w hI (h.1.1.fr hf (fun c k _ => h1 _ _ (by omega))) hf (fun c k _ => h1 _ _ (by omega))
theorem EM.fr {μ m : Mem} {e : Ew} {P : Nat → Nat → Prop} (h : EM μ e) (hI : EI e) (ho : Fr P μ m) (h1 : ∀ c k, c = 129 ∧ (9 ≤ k ∧ k ≤ 25 ∨ k = 77 ∨ k = 80 ∨ k = 81 ∨ k = 86 ∨ k = 87 ∨ k = 104) ∨ 138 ≤ c ∧ c ≤ 139 ∨ 162 ≤ c ∧ c ≤ 163 ∨ 165 ≤ c ∧ c ≤ 166 ∨ 169 ≤ c ∧ c ≤ 181 → ¬ P c k) : EM m e :=
  h.d (h.1.fr hI.1.1.1 ho (fun c k _ => h1 _ _ (by omega))) ho (fun c k _ => h1 _ _ (by omega))
/-! the reports counted -/
def KN (B : Nat) (k : Nat → Int32) : Prop := ∃ c, c ≤ B ∧ k 2 = nI c ∧ (c = 0 → k 3 = -nI 2 ∧ k 4 = -nI 2)
theorem KN.mono {B C : Nat} {k : Nat → Int32} (h : KN B k) (hb : B ≤ C) : KN C k := by
  obtain ⟨c, h1, h2, h3⟩ := h
  exact ⟨c, by omega, h2, h3⟩
theorem frW_K {B t : Nat} {ns fr : List Nat} {h : Hw} (hk : KN B h.2.2.2) : KN (B + 1) (frW t ns fr h).2.2.2 := by
  obtain ⟨c, h1, h2, h3⟩ := hk
  unfold frW frX
  by_cases q : sndF (mixL fr ns) = true
  · rw [if_pos q]
    show KN (B + 1) (frR t (mixL fr ns) _).2.2.2
    unfold frR
    by_cases q2 : repB (mixL fr ns) = true
    · rw [if_pos q2]
      exact ⟨c + 1, by omega, by show h.2.2.2 2 + 1 = nI (c + 1); rw [h2, i_1, nI_add], fun z => absurd z (by omega)⟩
    · rw [if_neg q2]
      exact ⟨c, by omega, h2, h3⟩
  · rw [if_neg q]
    exact ⟨c, by omega, h2, h3⟩
theorem vBit_K {B t b : Nat} {ns : List Nat} {v : Ey} (h : KN B v.1.2.2.2) : KN (B + 1) (vBit t ns b v).1.2.2.2 := by
  have hm := h.mono (Nat.le_succ B)
  unfold vBit
  split
  · unfold vInn
    split
    · exact hm
    · split
      · exact hm
      · exact frW_K h
  · split
    · exact hm
    · unfold vOut
      split
      · exact hm
      · split
        · split
          · exact hm
          · exact hm
        · exact hm
theorem vBs_K {B t : Nat} {ns : List Nat} {g : Nat → Bool} {v : Ey} (h : KN B v.1.2.2.2) : ∀ k, KN (B + k) (vBs t ns g k v).1.2.2.2
  | 0 => h
  | k + 1 => vBit_K (vBs_K h k)
def GC (ns : List Nat) (μ : Mem) (t : Nat) (bs cl : List Nat) (v : Ey) (e : Ew) (x : Xw) (f : Fw) : Prop := Byt μ 1 bs ∧ (v.1.1.1 0 = nI 5 → CtC μ cl) ∧ EyC ns μ t v ∧ EC μ e ∧ XC μ x ∧ FwC μ f
def GM (ns : List Nat) (μ : Mem) (t : Nat) (bs cl : List Nat) (v : Ey) (e : Ew) (x : Xw) (f : Fw) : Prop := MTape μ bs ∧ (v.1.1.1 0 = nI 5 → CtM μ cl) ∧ EyM ns μ t v ∧ EM μ e ∧ XM μ x ∧ FwM μ f ∧ Seg μ 214 0 [26, 207, 252, 29]
def UY (e : Ew) : Prop := ∃ u, u ≤ 254 ∧ 2 ≤ u ∧ u % 2 = 0 ∧ e.1.2.1 5 = nI u
def GI (ns : List Nat) (v : Ey) (e : Ew) (x : Xw) (f : Fw) : Prop := EyI v ∧ EI e ∧ XI x ∧ FwI f ∧ ns.length = 64 ∧ (∀ b, b ∈ ns → b < 256) ∧ UY e
def GB (n t : Nat) (v : Ey) (e : Ew) : Prop := t ≤ n ∧ e.1.1.1.1 ≤ 200 * n ∧ v.1.2.1.2.1 ≤ 3328000 * n ∧ KN (64000 * n) v.1.2.2.2
def Inv (n : Nat) (μ : Mem) : Prop := ∃ ns t bs cl v e x f, GC ns μ t bs cl v e x f ∧ GM ns μ t bs cl v e x f ∧ GI ns v e x f ∧ GB n t v e
theorem GC.fr {ns : List Nat} {μ m : Mem} {t : Nat} {bs cl : List Nat} {v : Ey} {e : Ew} {x : Xw} {f : Fw} {P : Nat → Nat → Prop} (h : GC ns μ t bs cl v e x f) (ho : Fr P μ m) (h1 : ∀ c k, P c k → 129 ≤ c ∧ c ≤ 221) : GC ns m t bs cl v e x f := by
  obtain ⟨a1, a2, a3, a4, a5, a6⟩ := h
  exact ⟨a1.fr ho (fun q => by have := h1 _ _ q; omega) (fun k q => by have := h1 _ _ q; omega), (fun z => (a2 z).fr ho (fun c k _ q => by have := h1 _ _ q; omega)), a3.fr ho (fun c k _ q => by have := h1 _ _ q; omega), a4.lo ho (fun c k _ q => by have := h1 _ _ q; omega), a5.fr ho (fun c k _ q => by have := h1 _ _ q; omega), a6.fr ho (fun c k _ q => by have := h1 _ _ q; omega)⟩
theorem GM.fr {ns : List Nat} {μ m : Mem} {t : Nat} {bs cl : List Nat} {v : Ey} {e : Ew} {x : Xw} {f : Fw} {P : Nat → Nat → Prop} (h : GM ns μ t bs cl v e x f) (hI : GI ns v e x f) (ho : Fr P μ m) (h1 : ∀ c k, P c k → c ≤ 128) : GM ns m t bs cl v e x f := by
  obtain ⟨a1, a2, a3, a4, a5, a6, a7⟩ := h
  exact ⟨a1.fr ho (fun q => by have := h1 _ _ q; omega) (fun k q => by have := h1 _ _ q; omega), (fun z => (a2 z).fr ho (fun k _ q => by have := h1 _ _ q; omega)), a3.fr hI.1 ho (fun c k _ q => by have := h1 _ _ q; omega), a4.fr hI.2.1 ho (fun c k _ q => by have := h1 _ _ q; omega), a5.fr hI.2.2.1 ho (fun c k _ q => by have := h1 _ _ q; omega), a6.fr hI.2.2.2.1 ho (fun c k _ q => by have := h1 _ _ q; omega), a7.fr ho (fun k q => by have := h1 _ _ q; omega)⟩
theorem GM.lo {ns : List Nat} {μ m : Mem} {t : Nat} {bs cl : List Nat} {v : Ey} {e : Ew} {x : Xw} {f : Fw} {P : Nat → Nat → Prop} (h : GM ns μ t bs cl v e x f) (hI : GI ns v e x f) (ho : FrL P μ m) (h1 : ∀ c k, P c k → c ≤ 128) : GM ns m t bs cl v e x f := by
  have z := h.fr hI ho.f h1
  exact z
abbrev QT : Nat → Nat → Prop := fun c k => c ≤ 128 ∧ (c ≠ 9 ∨ k ≠ 16)
abbrev QM : Nat → Nat → Prop := fun c _ => 129 ≤ c ∧ c ≤ 221 ∧ c ≠ 214
def Sc (μ m : Mem) : Prop := ∀ k, m.1 100003 k = μ.1 100003 k
def Rw (fC fM : Mem → Option (Mem × Int32)) : Prop := ∀ n μ, n < 64 → Inv n μ → wp (fC μ) (fun r => Sc μ r.1 ∧ wp (fM r.1) (fun r2 => r2.2 = r.2 ∧ Inv (n + 1) r2.1))
theorem GB.up {n t : Nat} {v : Ey} {e : Ew} (h : GB n t v e) : GB (n + 1) t v e := ⟨by have := h.1; omega, by have := h.2.1; omega, by have := h.2.2.1; omega, h.2.2.2.mono (by omega)⟩
theorem Inv.up {n : Nat} {μ : Mem} (h : Inv n μ) : Inv (n + 1) μ := by
  obtain ⟨ns, t, bs, cl, v, e, x, f, a, b, c, d⟩ := h
  exact ⟨ns, t, bs, cl, v, e, x, f, a, b, c, d.up⟩
theorem rw_get {fC fM : Mem → Option (Mem × Int32)} (h : ∀ n μ, n < 64 → Inv n μ → ∃ a, fC μ = some (μ, a) ∧ fM μ = some (μ, a)) : Rw fC fM := by
  intro n μ hn hI
  obtain ⟨a, e1, e2⟩ := h n μ hn hI
  rw [e1]
  refine wp_some ⟨fun _ => rfl, ?_⟩
  show wp (fM μ) _
  rw [e2]
  exact wp_some ⟨rfl, hI.up⟩
theorem rw_of {fC fM : Mem → Option (Mem × Int32)} {n : Nat} {μ : Mem} {ns : List Nat} {t t' : Nat} {bs bs' cl cl' : List Nat} {v v' : Ey} {e e' : Ew} {x x' : Xw} {f f' : Fw} {a : Int32} (hM0 : GM ns μ t bs cl v e x f) (hI : GI ns v e x f)
    (hC : wp (fC μ) (fun r => r.2 = a ∧ GC ns r.1 t' bs' cl' v' e' x' f' ∧ FrL QT μ r.1 ∧ GI ns v' e' x' f' ∧ GB (n + 1) t' v' e'))
    (hM : ∀ m, GM ns m t bs cl v e x f → wp (fM m) (fun r => r.2 = a ∧ GM ns r.1 t' bs' cl' v' e' x' f' ∧ Fr QM m r.1)) : wp (fC μ) (fun r => Sc μ r.1 ∧ wp (fM r.1) (fun r2 => r2.2 = r.2 ∧ Inv (n + 1) r2.1)) := by
  refine wp_mono hC (fun r ⟨a1, a2, a3, a4, a5⟩ => ⟨fun k => a3 _ _ (by omega), ?_⟩)
  refine wp_mono (hM r.1 (hM0.lo hI a3 (fun c k q => q.1))) (fun r2 ⟨b1, b2, b3⟩ => ⟨b1.trans a1.symm, ns, t', bs', cl', v', e', x', f', a2.fr b3 (fun c k q => ⟨q.1, q.2.1⟩), b2, a4, a5⟩)
/-! a tick, both -/
abbrev Sw : Type := Ey × Ew × Xw × Fw
def qE (s : Sw) (q : Dw × Xw) : Ew := (q.1, s.2.1.2)
def tcQ (t : Nat) (ns cl : List Nat) (s : Sw) (q : Dw × Xw) : Sw := (tmE t cl (dnV ns s.1 (qE s q) q.2 s.2.2.2), dnE (qE s q) q.2 s.2.2.2, dnX (qE s q) q.2 s.2.2.2, dnF (qE s q) q.2 s.2.2.2)
def tck (t : Nat) (ns cl : List Nat) (s : Sw) : Sw := tcQ t ns cl s (tkR s.2.1.1 s.2.2.1)
def TI (s : Sw) : Prop := DI (tkR s.2.1.1 s.2.2.1).1 ∧ XI (tkR s.2.1.1 s.2.2.1).2
def tckN (t : Nat) (ns cl : List Nat) (s : Sw) : Nat → Sw
  | 0 => s
  | n + 1 => tck t ns cl (tckN t ns cl s n)
def GCs (ns : List Nat) (μ : Mem) (t : Nat) (bs cl : List Nat) (s : Sw) : Prop := GC ns μ t bs cl s.1 s.2.1 s.2.2.1 s.2.2.2
def GMs (ns : List Nat) (μ : Mem) (t : Nat) (bs cl : List Nat) (s : Sw) : Prop := GM ns μ t bs cl s.1 s.2.1 s.2.2.1 s.2.2.2
def GIs (ns : List Nat) (s : Sw) : Prop := GI ns s.1 s.2.1 s.2.2.1 s.2.2.2
def tks (s : Sw) : Nat := s.2.1.1.1.1.1
theorem qE_I {s : Sw} {ns : List Nat} {q : Dw × Xw} (h : GIs ns s) (hT : DI q.1) : EI (qE s q) := ⟨hT, h.2.1.2⟩
theorem tcQ_na {t : Nat} {ns cl : List Nat} {s : Sw} {q : Dw × Xw} : (tcQ t ns cl s q).1.1.2 = s.1.1.2 := rfl
theorem tckN_na {t : Nat} {ns cl : List Nat} {s : Sw} : ∀ n, (tckN t ns cl s n).1.1.2 = s.1.1.2
  | 0 => rfl
  | n + 1 => by
    rw [show tckN t ns cl s (n + 1) = tck t ns cl (tckN t ns cl s n) from rfl]
    unfold tck
    rw [tcQ_na]
    exact tckN_na n
theorem tcQ_5 {t : Nat} {ns cl : List Nat} {s : Sw} {q : Dw × Xw} (h : GIs ns s) : (tcQ t ns cl s q).1.1.1.1 0 = nI 5 → s.1.1.1.1 0 = nI 5 := (tmS_J (w := (dnV ns s.1 (qE s q) q.2 s.2.2.2).1.1) h.1.1.1).2
theorem tck_C {ns : List Nat} {μ : Mem} {t : Nat} {bs cl : List Nat} {s : Sw} {kl : Int32 → Int32 → Mem → Option (Mem × Int32)} {v1 v2 : Int32} {Q : Mem × Int32 → Prop} (h : GCs ns μ t bs cl s) (hI : GIs ns s) (ht : tks s + 1 < 2 ^ 30) (hlt : ¬ v1 ≤ v2)
    (hK : ∀ m, GCs ns m t bs cl (tck t ns cl s) → TI s → GIs ns (tck t ns cl s) → tks (tck t ns cl s) = tks s + 1 → Fr QT μ m → wp (c231_109 kl v1 v2 m) Q) : wp (b231_15 kl v1 v2 μ) Q := by
  obtain ⟨hB, hct, hV, hE, hX, hF⟩ := h
  unfold b231_15
  rw [if_neg hlt]
  unfold tck TI at hK
  have RC := fun K : Mem → Option (Mem × Int32) => tkR_C (K := K) (Q := Q) hE.1 hI.2.1.1 hX hI.2.2.1 ht
  obtain ⟨q, eq⟩ : ∃ q, tkR s.2.1.1 s.2.2.1 = q := ⟨_, rfl⟩
  rw [eq] at hK
  rw [eq] at RC
  clear eq
  refine RC _ (fun m a1 a2 a3 a4 a5 a6 => ?_)
  have hE1 : EC m (qE s q) := hE.d a1 a6 (fun c k _ => by omega)
  have hV1 := hV.fr a6 (fun c k _ => by omega)
  have hF1 := hF.fr a6 (fun c k _ => by omega)
  have i0 := qE_I hI a3
  have i1 := dn_I (ns := ns) hI.1 i0 a4 hI.2.2.2.1
  refine dn_C hV1 hE1 a2 hF1 i0 a4 hI.2.2.2.1 hI.2.2.2.2.1 (fun m2 b1 b2 b3 b4 b5 => ?_)
  have f2 : Fr (fun c k => FKc c k ∨ FDn c k) μ m2 := a6.tr b5 (fun _ _ q => Or.inl q) (fun _ _ q => Or.inr q)
  refine tm_C (cl := cl) b1 i1.1 (fun z => (hct z).fr f2 (fun c k _ => by omega)) (fun m3 c1 c2 => ?_)
  have f3 : Fr (fun c k => FKc c k ∨ FDn c k ∨ FG c k) μ m3 := f2.tr c2 (by intro c k h; omega) (by intro c k h; omega)
  have hE3 : EC m3 (dnE (qE s q) q.2 s.2.2.2) := b2.lo c2 (fun c k _ => by omega)
  have e16 : m3.1 9 16 = μ.1 9 16 := f3.1 _ _ (by omega)
  have u1 : m3.1 9 16 = (dnE (qE s q) q.2 s.2.2.2).1.2.1 5 := hE3.1.2.1 5 (by omega)
  have u0 : μ.1 9 16 = s.2.1.1.2.1 5 := hE.1.2.1 5 (by omega)
  refine hK m3 ⟨hB.fr f3 (by omega) (fun k => by omega), (fun z => (hct (tcQ_5 hI z)).fr f3 (fun c k _ => by omega)), c1, hE3, b3.fr c2 (fun c k _ => by omega), b4.fr c2 (fun c k _ => by omega)⟩ ⟨a3, a4⟩ ⟨tmE_I i1.1, i1.2.1, i1.2.2.1, i1.2.2.2, hI.2.2.2.2.1, hI.2.2.2.2.2.1, ?_⟩ a5 (f3.mono (by intro c k h; omega))
  obtain ⟨u, h1, h2, h3, h4⟩ := hI.2.2.2.2.2.2
  exact ⟨u, h1, h2, h3, by rw [← h4, ← u0, ← e16]; exact u1.symm⟩
theorem tck_M {ns : List Nat} {μ : Mem} {t : Nat} {bs cl : List Nat} {s : Sw} {kl : Int32 → Int32 → Mem → Option (Mem × Int32)} {v1 v2 : Int32} {Q : Mem × Int32 → Prop} (h : GMs ns μ t bs cl s) (hI : GIs ns s) (hT : TI s) (ht : tks s + 1 < 2 ^ 30) (hlt : ¬ v1 ≤ v2)
    (hK : ∀ m, GMs ns m t bs cl (tck t ns cl s) → Fr QM μ m → wp (c341_110 kl v1 v2 m) Q) : wp (b341_15 kl v1 v2 μ) Q := by
  obtain ⟨hB, hct, hV, hE, hX, hF, h4⟩ := h
  unfold tck at hK
  unfold TI at hT
  have RM := @tkR_M μ s.2.1.1 s.2.2.1 kl v1 v2 Q hE.1 hI.2.1.1 hX hI.2.2.1 ht hlt
  obtain ⟨q, eq⟩ : ∃ q, tkR s.2.1.1 s.2.2.1 = q := ⟨_, rfl⟩
  rw [eq] at hK hT
  rw [eq] at RM
  clear eq
  refine RM (fun m a1 a2 a6 => ?_)
  have hE1 : EM m (qE s q) := hE.d a1 a6 (fun c k _ => by omega)
  have hV1 := hV.fr hI.1 a6 (fun c k _ => by omega)
  have hF1 := hF.fr hI.2.2.2.1 a6 (fun c k _ => by omega)
  have h41 := h4.fr a6 (fun k => by omega)
  have i0 := qE_I hI hT.1
  have i1 := dn_I (ns := ns) hI.1 i0 hT.2 hI.2.2.2.1
  refine dn_M hV1 hE1 a2 hF1 hI.1 i0 hT.2 hI.2.2.2.1 hI.2.2.2.2.1 h41 (fun m2 b1 b2 b3 b4 b5 => ?_)
  have f2 : Fr (fun c k => FKm c k ∨ FDq c k) μ m2 := a6.tr b5 (fun _ _ q => Or.inl q) (fun _ _ q => Or.inr q)
  refine tm_M (cl := cl) b1 i1.1 (fun z => (hct z).fr f2 (fun k _ => by omega)) (fun m3 c1 c2 => ?_)
  have f3 : Fr (fun c k => FKm c k ∨ FDq c k ∨ FGC c k) μ m3 := f2.tr c2 (by intro c k h; omega) (by intro c k h; omega)
  exact hK m3 ⟨hB.fr f3 (by omega) (fun k => by omega), (fun z => (hct (tcQ_5 hI z)).fr f3 (fun k _ => by omega)), c1, b2.fr i1.2.1 c2 (fun c k _ => by omega), b3.fr i1.2.2.1 c2 (fun c k _ => by omega), b4.fr i1.2.2.2 c2 (fun c k _ => by omega), h4.fr f3 (fun k => by omega)⟩ (f3.mono (by intro c k h; omega))
theorem tcks_C {ns : List Nat} {μ : Mem} {t k : Nat} {bs cl : List Nat} {s : Sw} (h : GCs ns μ t bs cl s) (hI : GIs ns s) (ht : tks s + 300 < 2 ^ 30) (hk : k ≤ 200) : wp (l231_15 gF (nI k, nI 0, μ)) (fun r => r.2 = nI (tks s + k) ∧ GCs ns r.1 t bs cl (tckN t ns cl s k) ∧ (∀ j, j ≤ k → GIs ns (tckN t ns cl s j) ∧ tks (tckN t ns cl s j) = tks s + j) ∧ (∀ j, j < k → TI (tckN t ns cl s j)) ∧ Fr QT μ r.1) := by
  unfold l231_15
  refine wp_for (fun i m => (nI k, nI i, m)) (fun i m => GCs ns m t bs cl (tckN t ns cl s i) ∧ (∀ j, j ≤ i → GIs ns (tckN t ns cl s j) ∧ tks (tckN t ns cl s j) = tks s + j) ∧ (∀ j, j < i → TI (tckN t ns cl s j)) ∧ Fr QT μ m) k (by omega) μ _ rfl ⟨h, fun j hj => (by rw [show j = 0 by omega]; exact ⟨hI, rfl⟩), fun j hj => absurd hj (Nat.not_lt_zero _), Fr.rf⟩ (fun self i m hi ⟨x1, x2, x3, x4⟩ hk2 => ?_) (fun self m ⟨x1, x2, x3, x4⟩ => ?_)
  · obtain ⟨y1, y2⟩ := x2 i (Nat.le_refl _)
    refine tck_C x1 y1 (by omega) (fun z => by have := (nI_leI (by omega) (by omega)).mp z; omega) (fun m2 a1 a2 a3 a4 a5 => ?_)
    unfold c231_109
    dsimp only [nm]
    rw [i_1, nI_add]
    refine hk2 m2 ⟨a1, fun j hj => ?_, fun j hj => ?_, x4.tr' a5⟩
    · by_cases q : j = i + 1
      · rw [q]; exact ⟨a3, by rw [show tckN t ns cl s (i + 1) = tck t ns cl (tckN t ns cl s i) from rfl, a4]; omega⟩
      · exact x2 j (by omega)
    · by_cases q : j = i
      · rw [q]; exact a2
      · exact x3 j (by omega)
  · unfold b231_15
    dsimp only
    rw [if_pos ((nI_leI (by omega) (by omega)).mpr (Nat.le_refl _))]
    refine wp_some ⟨?_, x1, x2, x3, x4⟩
    have := x1.2.2.2.1.1.1.1.2.1
    rw [show m.1 57 12 = nI (tks (tckN t ns cl s k)) from this, (x2 k (Nat.le_refl _)).2]
theorem tcks_M {ns : List Nat} {μ : Mem} {t k : Nat} {bs cl : List Nat} {s : Sw} (h : GMs ns μ t bs cl s) (hIs : ∀ j, j ≤ k → GIs ns (tckN t ns cl s j) ∧ tks (tckN t ns cl s j) = tks s + j) (hTs : ∀ j, j < k → TI (tckN t ns cl s j)) (ht : tks s + 300 < 2 ^ 30) (hk : k ≤ 200) : wp (l341_15 gF (nI k, nI 0, μ)) (fun r => r.2 = nI (tks s + k) ∧ GMs ns r.1 t bs cl (tckN t ns cl s k) ∧ Fr QM μ r.1) := by
  unfold l341_15
  refine wp_for (fun i m => (nI k, nI i, m)) (fun i m => GMs ns m t bs cl (tckN t ns cl s i) ∧ Fr QM μ m) k (by omega) μ _ rfl ⟨h, Fr.rf⟩ (fun self i m hi ⟨x1, x4⟩ hk2 => ?_) (fun self m ⟨x1, x4⟩ => ?_)
  · obtain ⟨y1, y2⟩ := hIs i (by omega)
    refine tck_M x1 y1 (hTs i hi) (by omega) (fun z => by have := (nI_leI (by omega) (by omega)).mp z; omega) (fun m2 a1 a5 => ?_)
    unfold c341_110
    dsimp only [nm]
    rw [i_1, nI_add]
    exact hk2 m2 ⟨a1, x4.tr' a5⟩
  · unfold b341_15
    dsimp only
    rw [if_pos ((nI_leI (by omega) (by omega)).mpr (Nat.le_refl _))]
    refine wp_some ⟨?_, x1, x4⟩
    have := x1.2.2.2.1.1.1.1.1
    rw [show m.1 129 77 = nI (tks (tckN t ns cl s k)) from this, (hIs k (Nat.le_refl _)).2]
theorem rw_tick (p : Int32) : Rw (f231 p) (f341 p) := by
  rcases neg_or p with q | ⟨k, hk, rfl⟩
  · refine rw_get (fun n μ _ _ => ⟨-1, ?_, ?_⟩)
    · unfold f231; rw [if_pos q]
    · unfold f341; rw [if_pos q]
  · by_cases q : k ≤ 200
    · intro n μ hn hI
      obtain ⟨ns, t, bs, cl, v, e, x, f, a, b, c, d⟩ := hI
      have ht : tks (v, e, x, f) + 300 < 2 ^ 30 := by have := d.2.1; show e.1.1.1.1 + 300 < 2 ^ 30; omega
      have cC := tcks_C (s := (v, e, x, f)) (k := k) a c ht q
      obtain ⟨r0, e0, z1, z2, z3, z4, z5⟩ := cC
      have hC : f231 (nI k) μ = some r0 := by
        unfold f231
        rw [i_0, if_neg (fun z => by have := (nI_ltI (by omega) (by omega)).mp z; omega), i_200, if_pos ((nI_leI (by omega) (by omega)).mpr q)]
        exact e0
      have hfin := z3 k (Nat.le_refl _)
      refine rw_of (fC := f231 (nI k)) (fM := f341 (nI k)) (a := nI (tks (v, e, x, f) + k)) b c ⟨r0, hC, z1, z2, z5.l, hfin.1, ?_⟩ (fun m hm => ?_)
      · refine ⟨by have := d.1; omega, ?_, ?_, ?_⟩
        · have h1 := hfin.2
          have h2 := d.2.1
          have h3 : tks (v, e, x, f) = e.1.1.1.1 := rfl
          show tks (tckN t ns cl (v, e, x, f) k) ≤ 200 * (n + 1)
          omega
        · have h1 := tckN_na (t := t) (ns := ns) (cl := cl) (s := (v, e, x, f)) k
          have h2 := d.2.2.1
          rw [h1]
          show v.1.2.1.2.1 ≤ 3328000 * (n + 1)
          omega
        · rw [tckN_na (t := t) (ns := ns) (cl := cl) (s := (v, e, x, f)) k]
          exact d.2.2.2.mono (by omega)
      · unfold f341
        rw [i_0, if_neg (fun z => by have := (nI_ltI (by omega) (by omega)).mp z; omega), i_200, if_pos ((nI_leI (by omega) (by omega)).mpr q)]
        exact tcks_M (s := (v, e, x, f)) hm z3 z4 ht q
    · refine rw_get (fun n μ _ _ => ⟨-1, ?_, ?_⟩)
      · unfold f231
        rw [i_0, if_neg (fun z => by have := (nI_ltI (by omega) (by omega)).mp z; omega), i_200, if_neg (fun z => q ((nI_leI (by omega) (by omega)).mp z))]
      · unfold f341
        rw [i_0, if_neg (fun z => by have := (nI_ltI (by omega) (by omega)).mp z; omega), i_200, if_neg (fun z => q ((nI_leI (by omega) (by omega)).mp z))]
