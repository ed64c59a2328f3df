/-! ===== what is heard down does not look at the line down ===== -/
abbrev L1 : Type := Nat × (Nat → Bool)
def s1 (p : L1) (w : Wd) : Wd := (w.1, w.2.1, w.2.2.1, w.2.2.2.1, (upL w.2.2.2.2.1 1 p.1, upL w.2.2.2.2.2 1 p.2))
theorem upL_comm {α : Type} {f : Nat → α} {i j : Nat} {x y : α} (h : i ≠ j) : upL (upL f i x) j y = upL (upL f j y) i x := by
  funext a
  unfold upL
  by_cases e1 : a = j
  · rw [if_pos e1, if_neg (by omega), if_pos e1]
  · rw [if_neg e1]
    by_cases e2 : a = i
    · rw [if_pos e2, if_pos e2]
    · rw [if_neg e2, if_neg e2, if_neg e1]
theorem txL_s1 {L : Ls} {n : Nat} {g : Nat → Bool} {u : List Nat} : txL (upL L.1 1 n, upL L.2 1 g) 0 u = (upL (txL L 0 u).1 1 n, upL (txL L 0 u).2 1 g) := by
  have e1 : upL L.1 1 n 0 = L.1 0 := upL_o (by omega)
  have e2 : upL L.2 1 g 0 = L.2 0 := upL_o (by omega)
  have key : ∀ x y, x = L.1 0 → y = L.2 0 → (if x + 8 * u.length ≤ 32000 * (0 + 1) then (upL (upL L.1 1 n) 0 (x + 8 * u.length), upL (upL L.2 1 g) 0 (apB x y u)) else (upL L.1 1 n, upL L.2 1 g)) = (upL (txL L 0 u).1 1 n, upL (txL L 0 u).2 1 g) := by
    intro x y hx hy
    subst hx
    subst hy
    unfold txL
    by_cases q : L.1 0 + 8 * u.length ≤ 32000 * (0 + 1)
    · rw [if_pos q, if_pos q]
      dsimp only
      rw [upL_comm (i := 1) (by omega), upL_comm (i := 1) (by omega)]
    · rw [if_neg q, if_neg q]
  exact key _ _ e1 e2
theorem stp_s1 {t : Nat} {p : L1} {w : Wd} : stp t (s1 p w) = (stp t w).map (s1 p) := by
  unfold stp s1
  dsimp only
  by_cases q1 : fm w.2.1 < w.2.1.length
  · rw [if_pos q1, if_pos q1, txL_s1]
    rfl
  · rw [if_neg q1, if_neg q1]
    by_cases q2 : 0 < w.2.2.1.length ∧ w.2.1.length < nt (w.1 5)
    · rw [if_pos q2, if_pos q2, txL_s1]
      rfl
    · rw [if_neg q2, if_neg q2]
      rfl
theorem goF_s1 {t : Nat} {p : L1} : ∀ (n : Nat) (w : Wd), goF t n (s1 p w) = s1 p (goF t n w)
  | 0, _ => rfl
  | n + 1, w => by
    have e := stp_s1 (t := t) (p := p) (w := w)
    cases h : stp t w with
    | none =>
      rw [h] at e
      rw [goF_n e, goF_n h]
    | some w' =>
      rw [h] at e
      rw [goF_s e, goF_s h, goF_s1 n w']
theorem goW_s1 {t : Nat} {p : L1} {w : Wd} : goW t (s1 p w) = s1 p (goW t w) := by
  unfold goW
  by_cases q : w.1 0 = nI 1 ∨ w.1 0 = nI 2
  · rw [if_pos q, if_pos (show (s1 p w).1 0 = nI 1 ∨ (s1 p w).1 0 = nI 2 from q), goF_s1]
  · rw [if_neg q, if_neg (show ¬ ((s1 p w).1 0 = nI 1 ∨ (s1 p w).1 0 = nI 2) from q)]
def s1J (p : L1) (z : Wd × Int32) : Wd × Int32 := (s1 p z.1, z.2)
theorem ite_s1 {p : L1} {c : Prop} [Decidable c] {a b a' b' : Wd × Int32} (h1 : a' = s1J p a) (h2 : b' = s1J p b) : (if c then a' else b') = s1J p (if c then a else b) := by
  by_cases q : c
  · rw [if_pos q, if_pos q, h1]
  · rw [if_neg q, if_neg q, h2]
theorem agn_s1 {t x : Nat} {p : L1} {w : Wd} : agn t (s1 p w) x = s1 p (agn t w x) := by
  unfold agn
  by_cases q : nI x = w.1 2
  · rw [if_pos q, if_pos (show nI x = (s1 p w).1 2 from q)]
  · rw [if_neg q, if_neg (show ¬ nI x = (s1 p w).1 2 from q)]
    rfl
theorem hearJ_s1 {t x : Nat} {p : L1} {w : Wd} {o wt ak : Bool} : hearJ t (s1 p w) x o wt ak = s1J p (hearJ t w x o wt ak) := by
  have ha := agn_s1 (t := t) (x := x) (p := p) (w := w)
  unfold hearJ
  refine ite_s1 (ite_s1 rfl rfl) (ite_s1 rfl (ite_s1 (ite_s1 (ite_s1 rfl rfl) (ite_s1 (ite_s1 rfl rfl) (ite_s1 (ite_s1 rfl (ite_s1 rfl (ite_s1 rfl rfl))) rfl))) (ite_s1 (ite_s1 ?_ (ite_s1 ?_ (ite_s1 (ite_s1 (ite_s1 rfl rfl) rfl) rfl))) (ite_s1 rfl (ite_s1 (ite_s1 rfl rfl) rfl)))))
  · rw [ha]; rfl
  · rw [ha]; rfl
theorem finW_s1 {t : Nat} {p : L1} {z : Wd × Int32} : finW t (s1J p z) = s1 p (finW t z) := by
  unfold finW
  by_cases q1 : z.2 = -nI 1
  · rw [if_pos q1, if_pos (show (s1J p z).2 = -nI 1 from q1)]
    exact goW_s1
  · rw [if_neg q1, if_neg (show ¬ (s1J p z).2 = -nI 1 from q1)]
    by_cases q2 : z.2 = nI 0
    · rw [if_pos q2, if_pos (show (s1J p z).2 = nI 0 from q2)]
      rfl
    · rw [if_neg q2, if_neg (show ¬ (s1J p z).2 = nI 0 from q2)]
      rfl
theorem hearW_s1 {t x : Nat} {p : L1} {w : Wd} {o wt ak : Bool} : hearW t (s1 p w) x o wt ak = s1 p (hearW t w x o wt ak) := by
  unfold hearW
  by_cases q : w.1 0 = nI 6
  · rw [if_pos q, if_pos (show (s1 p w).1 0 = nI 6 from q)]
  · rw [if_neg q, if_neg (show ¬ (s1 p w).1 0 = nI 6 from q), hearJ_s1, finW_s1]
def s1H (p : L1) (h : Hw) : Hw := (s1 p h.1, h.2)
theorem frR_s1 {t : Nat} {p : L1} {F : List Nat} {h : Hw} : frR t F (s1H p h) = s1H p (frR t F h) := by
  unfold frR heR
  by_cases q : repB F = true
  · rw [if_pos q, if_pos q]
    show (hearW t (s1 p h.1) _ _ _ _, _) = _
    rw [hearW_s1]
    rfl
  · rw [if_neg q, if_neg q]
theorem frW_s1 {t : Nat} {p : L1} {ns fr : List Nat} {h : Hw} : frW t ns fr (s1H p h) = s1H p (frW t ns fr h) := by
  unfold frW frX
  by_cases q : sndF (mixL fr ns) = true
  · rw [if_pos q, if_pos q]
    show frJ t _ (frR t _ (s1H p (h.1, h.2.1, h.2.2.1, upL h.2.2.2 0 (h.2.2.2 0 + 1)))) = _
    rw [frR_s1]
    rfl
  · rw [if_neg q, if_neg q]
    rfl
def s1E (p : L1) (v : Ey) : Ey := (s1H p v.1, v.2)
theorem ite_s1E {p : L1} {c : Prop} [Decidable c] {a b a' b' : Ey} (h1 : a' = s1E p a) (h2 : b' = s1E p b) : (if c then a' else b') = s1E p (if c then a else b) := by
  by_cases q : c
  · rw [if_pos q, if_pos q, h1]
  · rw [if_neg q, if_neg q, h2]
theorem vInn_s1 {t P : Nat} {p : L1} {ns : List Nat} {v : Ey} : vInn t ns (s1E p v) P = s1E p (vInn t ns v P) := by
  unfold vInn
  refine ite_s1E rfl (ite_s1E rfl ?_)
  show (frW t ns (v.2.2.2.2.2.2 ++ [P]) (s1H p v.1), _) = _
  rw [frW_s1]
  rfl
theorem vOut_s1 {A : Nat} {p : L1} {v : Ey} : vOut (s1E p v) A = s1E p (vOut v A) := by
  unfold vOut
  exact ite_s1E rfl (ite_s1E (ite_s1E rfl rfl) rfl)
theorem vBit_s1 {t b : Nat} {p : L1} {ns : List Nat} {v : Ey} : vBit t ns b (s1E p v) = s1E p (vBit t ns b v) := by
  unfold vBit
  exact ite_s1E vInn_s1 (ite_s1E rfl vOut_s1)
def vBs (t : Nat) (ns : List Nat) (g : Nat → Bool) : Nat → Ey → Ey
  | 0, v => v
  | k + 1, v => vBit t ns (b2n (g k)) (vBs t ns g k v)
theorem vBs_s1 {t : Nat} {p : L1} {ns : List Nat} {g : Nat → Bool} {v : Ey} : ∀ k, vBs t ns g k (s1E p v) = s1E p (vBs t ns g k v)
  | 0 => rfl
  | k + 1 => by rw [vBs, vBs, vBs_s1 k, vBit_s1]
theorem vBs_I {t : Nat} {ns : List Nat} {g : Nat → Bool} {v : Ey} (h : EyI v) (hns : ∀ b, b ∈ ns → b < 256) : ∀ k, EyI (vBs t ns g k v) ∧ (vBs t ns g k v).1.2.1.2.1 ≤ v.1.2.1.2.1 + 52 * k ∧ ((vBs t ns g k v).1.1.1 0 = nI 5 → v.1.1.1 0 = nI 5)
  | 0 => ⟨h, by show _ ≤ _ + 0; exact Nat.le_refl _, fun z => z⟩
  | k + 1 => by
    obtain ⟨a, b, c⟩ := vBs_I h hns k
    obtain ⟨a2, b2, c2⟩ := vBit_I (t := t) (b := b2n (g k)) a (b2n_lt _) hns
    rw [vBs]
    exact ⟨a2, by omega, fun z => c (c2 z)⟩
def eBs (g : Nat → Bool) : Nat → Ew → Ew
  | 0, e => e
  | k + 1, e => hearE (b2n (g k)) (eBs g k e)
theorem eBs_I {g : Nat → Bool} {e : Ew} (h : EI e) : ∀ k, EI (eBs g k e)
  | 0 => h
  | k + 1 => hearE_I (eBs_I h k) (b2n_lt _)
