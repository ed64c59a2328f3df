/-! ===== rows of the law: tape, lines, the sender ===== -/
theorem rw_tp {fC fM : Mem → Option (Mem × Int32)} (F : List Nat → List Nat × Int32) (hC : ∀ μ bs, Byt μ 1 bs → wp (fC μ) (fun r => r.2 = (F bs).2 ∧ Byt r.1 1 (F bs).1 ∧ Fr (fun c _ => 1 ≤ c ∧ c ≤ 4) μ r.1)) (hM : ∀ μ bs, MTape μ bs → wp (fM μ) (fun r => r.2 = (F bs).2 ∧ MTape r.1 (F bs).1 ∧ Fr (fun c k => 130 ≤ c ∧ c ≤ 133 ∨ c = 129 ∧ k = 1) μ r.1)) : Rw fC fM := by
  intro n μ hn hI
  obtain ⟨ns, t, bs, cl, v, e, x, f, a, b, c, d⟩ := hI
  refine rw_of (a := (F bs).2) b c (t' := t) (bs' := (F bs).1) (cl' := cl) (v' := v) (e' := e) (x' := x) (f' := f) ?_ (fun m hm => ?_)
  · refine wp_mono (hC μ bs a.1) (fun r ⟨z1, z2, z3⟩ => ⟨z1, ⟨z2, (fun z => (a.2.1 z).fr z3 (fun c k _ => by omega)), a.2.2.1.fr z3 (fun c k _ => by omega), a.2.2.2.1.lo z3 (fun c k _ => by omega), a.2.2.2.2.1.fr z3 (fun c k _ => by omega), a.2.2.2.2.2.fr z3 (fun c k _ => by omega)⟩, (z3.mono (by intro c k h; omega)).l, c, d.up⟩)
  · refine wp_mono (hM m bs hm.1) (fun r ⟨z1, z2, z3⟩ => ⟨z1, ⟨z2, (fun z => (hm.2.1 z).fr z3 (fun k _ => by omega)), hm.2.2.1.fr c.1 z3 (fun c k _ => by omega), hm.2.2.2.1.fr c.2.1 z3 (fun c k _ => by omega), hm.2.2.2.2.1.fr c.2.2.1 z3 (fun c k _ => by omega), hm.2.2.2.2.2.1.fr c.2.2.2.1 z3 (fun c k _ => by omega), hm.2.2.2.2.2.2.fr z3 (fun k => by omega)⟩, z3.mono (by intro c k h; omega)⟩)
theorem Chg.c {μ m : Mem} (h : Chg [1, 2] [] μ m) : Fr (fun c _ => 1 ≤ c ∧ c ≤ 4) μ m := by
  refine ⟨fun c k hc => h.1 c k (fun z => ?_) List.not_mem_nil, h.2⟩
  simp only [List.mem_cons, List.not_mem_nil, or_false] at z
  exact hc (by omega)
theorem Chg.m {μ m : Mem} (h : Chg [130] [(129, 1)] μ m) : Fr (fun c k => 130 ≤ c ∧ c ≤ 133 ∨ c = 129 ∧ k = 1) μ m := by
  refine ⟨fun c k hc => h.1 c k (fun z => ?_) (fun z => ?_), h.2⟩
  · simp only [List.mem_cons, List.not_mem_nil, or_false] at z
    exact hc (by omega)
  · simp only [List.mem_cons, List.not_mem_nil, or_false, Prod.mk.injEq] at z
    exact hc (by omega)
def fdT (bs : List Nat) (v n : Int32) : List Nat × Int32 := if n < 1 then (bs, -1) else if n ≤ 4 then (if nI bs.length + n ≤ 256 then (bs ++ lowB v n.toNatClampNeg, nI (bs ++ lowB v n.toNatClampNeg).length) else (bs, -3)) else (bs, -1)
theorem fdT_of {bs bs2 : List Nat} {v n a : Int32} (h : if n < 1 then a = -1 ∧ bs2 = bs else if n ≤ 4 then (if nI bs.length + n ≤ 256 then a = nI bs2.length ∧ bs2 = bs ++ lowB v n.toNatClampNeg else a = -3 ∧ bs2 = bs) else a = -1 ∧ bs2 = bs) : a = (fdT bs v n).2 ∧ bs2 = (fdT bs v n).1 := by
  unfold fdT
  by_cases q1 : n < 1
  · rw [if_pos q1] at h ⊢; exact h
  · rw [if_neg q1] at h ⊢
    by_cases q2 : n ≤ 4
    · rw [if_pos q2] at h ⊢
      by_cases q3 : nI bs.length + n ≤ 256
      · rw [if_pos q3] at h ⊢
        exact ⟨by rw [h.1, h.2], h.2⟩
      · rw [if_neg q3] at h ⊢; exact h
    · rw [if_neg q2] at h ⊢; exact h
theorem rw_feed (v n : Int32) : Rw (f197 v n) (f241 v n) := by
  refine rw_tp (fun bs => fdT bs v n) (fun μ bs h => ?_) (fun μ bs h => ?_)
  · refine wp_mono (feed_C v n h) (fun r ⟨b2, z1, z2, z3⟩ => ?_)
    obtain ⟨y1, y2⟩ := fdT_of z1
    exact ⟨y1, by rw [← y2]; exact z2, z3.c⟩
  · refine wp_mono (feed_M v n h) (fun r ⟨b2, z1, z2, z3⟩ => ?_)
    obtain ⟨y1, y2⟩ := fdT_of z1
    exact ⟨y1, by rw [← y2]; exact z2, z3.m⟩
theorem rw_taped (i : Int32) : Rw (f198 i) (f242 i) := rw_get (fun n μ _ ⟨_, _, bs, _, _, _, _, _, a, b, _, _⟩ => ⟨aTaped bs i, taped_C a.1 i, taped_M b.1 i⟩)
theorem rw_wipe : Rw f199 f243 := by
  refine rw_tp (fun bs => ([], nI bs.length)) (fun μ bs h => ?_) (fun μ bs h => ?_)
  · exact wp_mono (wipe_C h) (fun r ⟨z1, z2, z3⟩ => ⟨z1, z2, z3.c⟩)
  · exact wp_mono (wipe_M h) (fun r ⟨z1, z2, z3⟩ => ⟨z1, z2, z3.m⟩)
theorem rw_check : Rw f200 f244 := rw_get (fun n μ _ ⟨_, _, bs, _, _, _, _, _, a, b, _, _⟩ => ⟨nI (crc bs), check_C a.2.2.1.1.1.1 a.1, check_M b.1⟩)
theorem rw_code (w : Int32) : Rw (f201 w) (f251 w) := rw_tp (fun bs => cTape bs w) (fun μ bs h => code_C w h) (fun μ bs h => code_M w h)
/-! lines -/
theorem rw_bits (p : Int32) : Rw (f205 p) (f257 p) := by
  refine rw_get (fun n μ _ hI => ?_)
  obtain ⟨_, _, bs, _, v, _, _, _, a, b, _, _⟩ := hI
  obtain ⟨r, e1, e2, e3⟩ := bits_CM a.2.2.1.1.1.2.2.2.2.2 b.2.2.1.1.1.2.2.2.2 p
  exact ⟨r.2, by rw [e1, ← e2], e3⟩
theorem rw_bit (p i : Int32) : Rw (f206 p i) (f259 p i) := by
  refine rw_get (fun n μ _ hI => ?_)
  obtain ⟨_, _, bs, _, v, _, _, _, a, b, _, _⟩ := hI
  obtain ⟨r, e1, e2, e3⟩ := bit_CM a.2.2.1.1.1.2.2.2.2.2 b.2.2.1.1.1.2.2.2.2 p i
  exact ⟨r.2, by rw [e1, ← e2], e3⟩
theorem inv_lt {n : Nat} {μ m : Mem} {ns : List Nat} {t : Nat} {bs cl bs2 : List Nat} {v : Ey} {e : Ew} {x : Xw} {f : Fw} {n' : Nat → Nat} {g' : Nat → Nat → Bool} (a : GC ns μ t bs cl v e x f) (b : GM ns μ t bs cl v e x f) (c : GI ns v e x f) (d : GB n t v e) (hC : LC m n' g') (hM : LM m n' g') (hb : Byt m 1 bs2) (hm : MTape m bs2) (ho : Fr (fun c k => 1 ≤ c ∧ c ≤ 2 ∨ 5 ≤ c ∧ c ≤ 8 ∨ c = 129 ∧ k = 1 ∨ 130 ≤ c ∧ c ≤ 136) μ m) : Inv (n + 1) m := by
  have w0 : WC μ t v.1.1 := a.2.2.1.1.1
  have w1 : WM μ t v.1.1 := b.2.2.1.1.1
  have hw : WC m t (v.1.1.1, v.1.1.2.1, v.1.1.2.2.1, v.1.1.2.2.2.1, (n', g')) := ⟨w0.1.fr ho (fun k => by omega), w0.2.1.fr ho (fun k _ _ => by omega), w0.2.2.1.fr ho (fun c k _ _ => by omega), w0.2.2.2.1.fr ho (fun c k _ _ => by omega), w0.2.2.2.2.1.fr ho (by omega) (fun c k _ _ => by omega), hC⟩
  have hw1 : WM m t (v.1.1.1, v.1.1.2.1, v.1.1.2.2.1, v.1.1.2.2.2.1, (n', g')) := ⟨w1.1.fr ho (fun k _ _ => by omega), w1.2.1.fr ho (by omega) (fun c k _ => by omega), w1.2.2.1.fr ho (by omega) (fun c k _ => by omega), w1.2.2.2.1.fr ho (by omega) (fun c k _ _ => by omega), hM⟩
  refine ⟨ns, t, bs2, cl, (((v.1.1.1, v.1.1.2.1, v.1.1.2.2.1, v.1.1.2.2.2.1, (n', g')), v.1.2), v.2), e, x, f, ?_, ?_, c, d.up⟩
  · exact ⟨hb, (fun z => (a.2.1 z).fr ho (fun c k _ => by omega)), a.2.2.1.w hw ho (fun c k _ => by omega), a.2.2.2.1.lo ho (fun c k _ => by omega), a.2.2.2.2.1.fr ho (fun c k _ => by omega), a.2.2.2.2.2.fr ho (fun c k _ => by omega)⟩
  · exact ⟨hm, (fun z => (b.2.1 z).fr ho (fun k _ => by omega)), b.2.2.1.w c.1 hw1 ho (fun c k _ => by omega), b.2.2.2.1.fr c.2.1 ho (fun c k _ => by omega), b.2.2.2.2.1.fr c.2.2.1 ho (fun c k _ => by omega), b.2.2.2.2.2.1.fr c.2.2.2.1 ho (fun c k _ => by omega), b.2.2.2.2.2.2.fr ho (fun k => by omega)⟩
theorem inv_ln {n : Nat} {μ m : Mem} {ns : List Nat} {t : Nat} {bs cl : List Nat} {v : Ey} {e : Ew} {x : Xw} {f : Fw} {n' : Nat → Nat} {g' : Nat → Nat → Bool} (a : GC ns μ t bs cl v e x f) (b : GM ns μ t bs cl v e x f) (c : GI ns v e x f) (d : GB n t v e) (hC : LC m n' g') (hM : LM m n' g') (ho : Fr PL μ m) : Inv (n + 1) m :=
  inv_lt a b c d hC hM (a.1.fr ho (by omega) (fun k => by omega)) (b.1.fr ho (by omega) (fun k => by omega)) (ho.mono (by intro c k h; omega))
theorem rw_turn (p i : Int32) : Rw (f208 p i) (f260 p i) := by
  intro n μ hn hI
  obtain ⟨ns, t, bs, cl, v, e, x, f, a, b, c, d⟩ := hI
  exact wp_mono (wp_and (turn_S a.2.2.1.1.1.2.2.2.2.2 p i) (turn_CM a.2.2.1.1.1.2.2.2.2.2 b.2.2.1.1.1.2.2.2.2 p i)) (fun r ⟨h1, h2⟩ => ⟨h1, wp_mono h2 (fun r2 ⟨y1, ⟨n', g', y2, y3⟩, y4⟩ => ⟨y1, inv_ln a b c d y2 y3 y4⟩)⟩)
theorem rw_slip (p i : Int32) : Rw (f209 p i) (f261 p i) := by
  intro n μ hn hI
  obtain ⟨ns, t, bs, cl, v, e, x, f, a, b, c, d⟩ := hI
  exact wp_mono (wp_and (slip_S a.2.2.1.1.1.2.2.2.2.2 p i) (slip_CM a.2.2.1.1.1.2.2.2.2.2 b.2.2.1.1.1.2.2.2.2 p i)) (fun r ⟨h1, h2⟩ => ⟨h1, wp_mono h2 (fun r2 ⟨y1, ⟨n', g', y2, y3⟩, y4⟩ => ⟨y1, inv_ln a b c d y2 y3 y4⟩)⟩)
theorem rw_lose (p i : Int32) : Rw (f210 p i) (f262 p i) := by
  intro n μ hn hI
  obtain ⟨ns, t, bs, cl, v, e, x, f, a, b, c, d⟩ := hI
  exact wp_mono (wp_and (lose_S a.2.2.1.1.1.2.2.2.2.2 p i) (lose_CM a.2.2.1.1.1.2.2.2.2.2 b.2.2.1.1.1.2.2.2.2 p i)) (fun r ⟨h1, h2⟩ => ⟨h1, wp_mono h2 (fun r2 ⟨y1, ⟨n', g', y2, y3⟩, y4⟩ => ⟨y1, inv_ln a b c d y2 y3 y4⟩)⟩)
theorem rw_inject (p : Int32) : Rw (f211 p) (f263 p) := by
  intro n μ hn hI
  obtain ⟨ns, t, bs, cl, v, e, x, f, a, b, c, d⟩ := hI
  exact wp_mono (wp_and (inject_S a.2.2.1.1.1.2.2.2.2.2 a.1 p) (inject_CM a.2.2.1.1.1.2.2.2.2.2 b.2.2.1.1.1.2.2.2.2 a.1 b.1 p)) (fun r ⟨h1, h2⟩ => ⟨h1, wp_mono h2 (fun r2 ⟨y1, ⟨n', g', bs', y2, y3, y5, y6⟩, y4⟩ => ⟨y1, inv_lt a b c d y2 y3 y5 y6 y4⟩)⟩)
/-! the sender -/
def yE (e : Ew) (u : Nat) : Ew := ((e.1.1, upL e.1.2.1 5 (nI u), e.1.2.2), e.2)
abbrev FXs : Nat → Nat → Prop := fun c k => FDW c k ∨ FRQ c k
theorem inv_snd {n : Nat} {μ m : Mem} {ns : List Nat} {t t2 : Nat} {bs cl bs2 cl2 : List Nat} {v : Ey} {e : Ew} {x : Xw} {f : Fw} {w : Wd} (a : GC ns μ t bs cl v e x f) (b : GM ns μ t bs cl v e x f) (c : GI ns v e x f) (d : GB n t v e) (ht : t2 ≤ t + 1) (hS : Snd m t2 w cl2) (hU : UW m) (hb : Byt m 1 bs2) (hm : MTape m bs2) (ho : Fr FXs μ m) : Inv (n + 1) m := by
  obtain ⟨u, u1, u2, u3, u4, u5⟩ := hU
  obtain ⟨s1, s2, s3, s4⟩ := hS
  obtain ⟨c1, c2, c3, c4, c5, c6, c7⟩ := c
  have hE := a.2.2.2.1
  have hEm := b.2.2.2.1
  have hmi := c2.1.1.1
  have hd : DC m (yE e u).1 := by
    have hc := hE.1.1
    refine ⟨⟨⟨hc.1.1.fr ho (fun k => by omega), by rw [ho.1 _ _ (by omega)]; exact hc.1.2.1, by rw [ho.1 _ _ (by omega)]; exact hc.1.2.2.1, hc.1.2.2.2.1.fr ho (fun c k _ _ => by omega), by rw [ho.1 _ _ (by omega)]; exact hc.1.2.2.2.2.1, hc.1.2.2.2.2.2.1.fr ho (fun c k _ _ => by omega), hc.1.2.2.2.2.2.2.fr ho (fun c k _ _ => by omega)⟩, hc.2.1.fr ho (fun k => by omega) (by omega) (by omega), hc.2.2.1.fr ho (fun c k _ _ => by omega), hc.2.2.2.1.fr ho (fun k => by omega), hc.2.2.2.2.fr ho (by omega) (fun k => by omega)⟩, fun i hi => ?_, by rw [ho.1 _ _ (by omega)]; exact hE.1.2.2⟩
    show m.1 9 (11 + i) = upL e.1.2.1 5 (nI u) i
    by_cases q : i = 5
    · rw [q, upL_s]; exact u4
    · rw [upL_o q, ho.1 _ _ (by omega)]; exact hE.1.2.1 i hi
  have hd1 : DM m (yE e u).1 := by
    have hc := hEm.1.1
    refine ⟨⟨⟨by rw [ho.1 _ _ (by omega)]; exact hc.1.1, by rw [ho.1 _ _ (by omega)]; exact hc.1.2.1, ⟨by rw [ho.1 _ _ (by omega)]; exact hc.1.2.2.1.1, hc.1.2.2.1.2.fr ho (fun k => by omega) (fun k => by omega)⟩, by rw [ho.1 _ _ (by omega)]; exact hc.1.2.2.2.1, hc.1.2.2.2.2.1.fr hmi.2.2.1.2.2.l90 ho (fun c k z => by omega), hc.1.2.2.2.2.2.fr hmi.2.2.2.2.2.l90 ho (fun c k z => by omega)⟩, hc.2.1.fr ho (fun k => by omega), hc.2.2.1.fr ho (by omega) (fun c k _ _ => by omega), hc.2.2.2.fr ho (by omega) (fun k => by omega)⟩, fun i hi => ?_, by rw [ho.1 _ _ (by omega)]; exact hEm.1.2.2⟩
    show m.1 129 (19 + i) = upL e.1.2.1 5 (nI u) i
    by_cases q : i = 5
    · rw [q, upL_s]; exact u5
    · rw [upL_o q, ho.1 _ _ (by omega)]; exact hEm.1.2.1 i hi
  have hy : YI (upL e.1.2.1 5 (nI u)) := by
    obtain ⟨y0, y1, y2, y3, y4, y5⟩ := c2.1.2
    exact ⟨y0, y1, y2, y3, y4, u, u2, u1, rfl⟩
  refine ⟨ns, t2, bs2, cl2, ((w, v.1.2), v.2), yE e u, x, f, ?_, ?_, ⟨⟨⟨s3, c1.1.2⟩, c1.2⟩, ⟨⟨c2.1.1, hy⟩, c2.2⟩, c3, c4, c5, c6, u, u1, u2, u3, rfl⟩, by have := d.1; omega, by have := d.2.1; show e.1.1.1.1 ≤ _; omega, by have := d.2.2.1; show v.1.2.1.2.1 ≤ _; omega, d.2.2.2.mono (by omega)⟩
  · exact ⟨hb, fun z => (s4 z).1, a.2.2.1.w s1 ho (fun c k _ => by omega), hE.d hd ho (fun c k _ => by omega), a.2.2.2.2.1.fr ho (fun c k _ => by omega), a.2.2.2.2.2.fr ho (fun c k _ => by omega)⟩
  · exact ⟨hm, fun z => (s4 z).2, b.2.2.1.w c1 s2 ho (fun c k _ => by omega), hEm.d hd1 ho (fun c k _ => by omega), b.2.2.2.2.1.fr c3 ho (fun c k _ => by omega), b.2.2.2.2.2.1.fr c4 ho (fun c k _ => by omega), b.2.2.2.2.2.2.fr ho (fun k => by omega)⟩
theorem inv_S {μ : Mem} {ns : List Nat} {t : Nat} {bs cl : List Nat} {v : Ey} {e : Ew} {x : Xw} {f : Fw} (a : GC ns μ t bs cl v e x f) (b : GM ns μ t bs cl v e x f) (c : GI ns v e x f) : Snd μ t v.1.1 cl ∧ UW μ := by
  obtain ⟨u, u1, u2, u3, u4⟩ := c.2.2.2.2.2.2
  have e1 : μ.1 9 16 = e.1.2.1 5 := a.2.2.2.1.1.2.1 5 (by omega)
  have e2 : μ.1 129 24 = e.1.2.1 5 := b.2.2.2.1.1.2.1 5 (by omega)
  exact ⟨⟨a.2.2.1.1.1, b.2.2.1.1.1, c.1.1.1, fun z => ⟨a.2.1 z, b.2.1 z⟩⟩, u, u1, u2, u3, e1.trans u4, e2.trans u4⟩
theorem rw_direct (p q : Int32) : Rw (f223 p q) (f286 p q) := by
  intro n μ hn hI
  obtain ⟨ns, t, bs, cl, v, e, x, f, a, b, c, d⟩ := hI
  obtain ⟨hS, hU⟩ := inv_S a b c
  exact wp_mono (wp_and (direct_S hS p q) (direct_CM hS hU p q)) (fun r ⟨h1, h2⟩ => ⟨h1, wp_mono h2 (fun r2 ⟨y1, ⟨w', cl', y2⟩, y3, y4⟩ => ⟨y1, inv_snd a b c d (by omega) y2 y3 (a.1.fr y4 (by omega) (fun k => by omega)) (b.1.fr y4 (by omega) (fun k => by omega)) (y4.mono (fun _ _ q => Or.inl q))⟩)⟩)
theorem inv_ask {n : Nat} {μ : Mem} {ns : List Nat} {t : Nat} {bs cl : List Nat} {v : Ey} {e : Ew} {x : Xw} {f : Fw} {r2 : Mem × Int32} {ans : Int32} (a : GC ns μ t bs cl v e x f) (b : GM ns μ t bs cl v e x f) (c : GI ns v e x f) (d : GB n t v e) (h : AskQ μ t ans r2) : r2.2 = ans ∧ Inv (n + 1) r2.1 := by
  obtain ⟨y1, ⟨t', w', cl', bs', y2, y3, y4, y5⟩, y6⟩ := h
  obtain ⟨hS, hU⟩ := inv_S a b c
  exact ⟨y1, inv_snd a b c d y2 y3 (hU.fr y6 (by omega) (by omega)) y4 y5 (y6.mono (fun _ _ q => Or.inr q))⟩
theorem rw_build (p1 p2 p3 : Int32) : Rw (f217 p1 p2 p3) (f294 p1 p2 p3) := by
  intro n μ hn hI
  obtain ⟨ns, t, bs, cl, v, e, x, f, a, b, c, d⟩ := hI
  have ht : t < 2 ^ 19 := by have := d.1; omega
  have hS := (inv_S a b c).1
  exact wp_mono (wp_and (build_S hS ht a.1 p1 p2 p3) (build_CM hS ht a.1 b.1 p1 p2 p3)) (fun r ⟨h1, h2⟩ => ⟨h1, wp_mono h2 (fun r2 y => inv_ask a b c d y)⟩)
theorem rw_request (p1 p2 p3 p4 : Int32) : Rw (f218 p1 p2 p3 p4) (f295 p1 p2 p3 p4) := by
  intro n μ hn hI
  obtain ⟨ns, t, bs, cl, v, e, x, f, a, b, c, d⟩ := hI
  have ht : t < 2 ^ 19 := by have := d.1; omega
  have hS := (inv_S a b c).1
  exact wp_mono (wp_and (request_S hS ht a.1 p1 p2 p3 p4) (request_CM hS ht a.1 b.1 p1 p2 p3 p4)) (fun r ⟨h1, h2⟩ => ⟨h1, wp_mono h2 (fun r2 y => inv_ask a b c d y)⟩)
theorem rw_requests : Rw f221 f296 := rw_get (fun n μ _ ⟨_, t, _, _, _, _, _, _, a, b, _, _⟩ => ⟨nI t, (requests_CM a.2.2.1.1.1.2.2.2.2.1 b.2.2.1.1.1.2.2.2.1).1, (requests_CM a.2.2.1.1.1.2.2.2.2.1 b.2.2.1.1.1.2.2.2.1).2⟩)
theorem rw_became (p q : Int32) : Rw (f222 p q) (f297 p q) := rw_get (fun n μ _ ⟨_, t, _, _, _, _, _, _, a, b, _, _⟩ => became_CM a.2.2.1.1.1.2.2.2.2.1 b.2.2.1.1.1.2.2.2.1 p q)
theorem rw_machine (p : Int32) : Rw (f225 p) (f287 p) := rw_get (fun n μ _ ⟨_, t, _, _, v, _, _, _, a, b, c, _⟩ => ⟨mchA v.1.1 p, (machine_CM (inv_S a b c).1 p).1, (machine_CM (inv_S a b c).1 p).2⟩)
