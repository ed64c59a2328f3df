/-! ===== a tick: a frame goes down, the timer ===== -/
theorem flN_R {R : List Pk → Prop} (hR : ∀ ps, ¬ ps.length = 0 → R ps → R (ps.eraseIdx 0)) {s : Fs} (h : R s.2.1) : ∀ n, R (flN s n).2.1
  | 0 => h
  | n + 1 => by
    have ih := flN_R hR h n
    show R (pbF n (flN s n)).2.1
    unfold pbF
    by_cases q : (flN s n).1.2.1 = (flN s n).1.1.length
    · rw [if_pos q]
      show R (begP (flN s n).2.1 (52 - n)).2
      unfold begP
      by_cases q2 : (flN s n).2.1.length = 0
      · rw [if_pos q2]; exact ih
      · rw [if_neg q2]; exact hR _ q2 ih
    · rw [if_neg q]; exact ih
theorem lvN_R {R : List Pk → Prop} (hR : ∀ ps, ¬ ps.length = 0 → R ps → R (ps.eraseIdx 0)) {f : Fw} {lv pd : List Pk} (h : R lv) : R (lvN f lv pd) := by
  unfold lvN ctF
  by_cases q : chF f lv pd = 0
  · rw [if_pos q, if_neg (show ¬ chF f lv pd = 7 by omega)]
    refine flN_R hR ?_ 52
    show R (if chF f lv pd = 1 then pd else lv)
    rw [if_neg (by omega)]
    exact h
  · rw [if_neg q]; exact h
theorem pdN_R {R : List Pk → Prop} (hR : ∀ ps, ¬ ps.length = 0 → R ps → R (ps.eraseIdx 0)) {f : Fw} {lv pd : List Pk} (h : R pd) : R (pdN f lv pd) := by
  unfold pdN ctF
  by_cases q : chF f lv pd = 1
  · rw [if_pos q, if_neg (show ¬ chF f lv pd = 7 by omega)]
    refine flN_R hR ?_ 52
    show R (if chF f lv pd = 1 then pd else lv)
    rw [if_pos q]
    exact h
  · rw [if_neg q]; exact h
theorem LvC_era (ps : List Pk) (h0 : ¬ ps.length = 0) (h : LvC ps) : LvC (ps.eraseIdx 0) := by
  have hle : (ps.eraseIdx 0).length = ps.length - 1 := List.length_eraseIdx_of_lt (by omega)
  refine ⟨by have := h.1; omega, fun i hi => ?_⟩
  rw [hle] at hi
  rw [pk_era, if_neg (by omega)]
  exact h.2 (i + 1) (by omega)
theorem PsI_era (ps : List Pk) (h0 : ¬ ps.length = 0) (h : PsI ps) : PsI (ps.eraseIdx 0) := by
  have hle : (ps.eraseIdx 0).length = ps.length - 1 := List.length_eraseIdx_of_lt (by omega)
  refine ⟨by have := h.1; omega, fun i hi => ?_, ?_⟩
  · rw [hle] at hi
    rw [pk_era, if_neg (by omega)]
    exact h.2.1 (i + 1) (by omega)
  · have := off_era2 (ps := ps) (j := 0) (ps.length - 1) (Nat.zero_le _)
    rw [show ps.length - 1 + 1 = ps.length by omega] at this
    have h3 := h.2.2
    rw [hle]
    omega
theorem LvC.sh {ps : List Pk} (h : LvC ps) : ShI ps := ⟨by have := h.1; omega, fun i hi => ⟨(h.2 i hi).1, (h.2 i hi).2.1⟩⟩
theorem PsI.sh {ps : List Pk} (h : PsI ps) : ShI ps := ⟨h.1, fun i hi => ⟨(h.2.1 i hi).1, (h.2.1 i hi).2.1⟩⟩
def lvE (e : Ew) : List Pk := e.1.1.1.2.2.1
def pdX (x : Xw) : List Pk := x.2.2.2.2.2
def dnE (e : Ew) (x : Xw) (f : Fw) : Ew := ((((e.1.1.1.1, e.1.1.1.2.1, lvN f (lvE e) (pdX x), e.1.1.1.2.2.2), e.1.1.2), e.1.2), e.2)
def dnX (e : Ew) (x : Xw) (f : Fw) : Xw := (x.1, x.2.1, x.2.2.1, x.2.2.2.1, x.2.2.2.2.1, pdN f (lvE e) (pdX x))
def dnF (e : Ew) (x : Xw) (f : Fw) : Fw := fwN f (lvE e) (pdX x)
def dnQ (ns : List Nat) (v : Ey) (e : Ew) (x : Xw) (f : Fw) : L1 := dnL (v.1.1.2.2.2.2.1 1) (v.1.1.2.2.2.2.2 1) (frN f (lvE e) (pdX x) (bitsY e.1.2.1) (nt (e.1.2.1 0)) ns)
def dnV (ns : List Nat) (v : Ey) (e : Ew) (x : Xw) (f : Fw) : Ey := s1E (dnQ ns v e x f) v
theorem dn_I {v : Ey} {e : Ew} {x : Xw} {f : Fw} {ns : List Nat} (hv : EyI v) (he : EI e) (hx : XI x) (hf : FwI f) : EyI (dnV ns v e x f) ∧ EI (dnE e x f) ∧ XI (dnX e x f) ∧ FwI (dnF e x f) := by
  obtain ⟨⟨⟨⟨m1, m2, m3, m4⟩, k2⟩, y⟩, he2⟩ := he
  refine ⟨hv, ⟨⟨⟨⟨m1, lvN_R LvC_era m2, m3, m4⟩, k2⟩, y⟩, he2⟩, ⟨hx.1, hx.2.1, hx.2.2.1, hx.2.2.2.1, hx.2.2.2.2.1, pdN_R PsI_era hx.2.2.2.2.2⟩, (fwN_I hf m2.sh hx.2.2.2.2.2.sh).1⟩
/-! components kept -/
theorem EyC.w {ns : List Nat} {μ m : Mem} {t t2 : Nat} {v : Ey} {w : Wd} {P : Nat → Nat → Prop} (h : EyC ns μ t v) (hw : WC m t2 w) (hf : Fr P μ m) (h1 : ∀ c k, c = 100001 ∨ c = 12 ∧ 9 ≤ k ∧ k ≤ 12 ∨ 15 ≤ c ∧ c ≤ 23 ∨ c = 27 ∨ 49 ≤ c ∧ c ≤ 56 → ¬ P c k) : EyC ns m t2 ((w, v.1.2), v.2) := by
  obtain ⟨hH, hN, c6, c7, c11, c12, c8, c10, ⟨L, lL, c9, eP⟩, cB⟩ := h
  exact ⟨⟨hw, hH.2.1.fr hf (fun k => h1 _ _ (by omega)), hH.2.2.1.fr hf (fun c k _ => h1 _ _ (by omega)), hH.2.2.2.1.fr hf (fun c k _ => h1 _ _ (by omega)), hH.2.2.2.2.fr hf (fun k _ => h1 _ _ (by omega))⟩, ⟨fun i hi => by rw [hf.1 _ _ (h1 _ _ (by omega))]; exact hN.1 i hi, hN.2⟩, by rw [hf.1 _ _ (h1 _ _ (by omega))]; exact c6, by rw [hf.1 _ _ (h1 _ _ (by omega))]; exact c7, by rw [hf.1 _ _ (h1 _ _ (by omega))]; exact c11, by rw [hf.1 _ _ (h1 _ _ (by omega))]; exact c12, by rw [hf.1 _ _ (h1 _ _ (by omega))]; exact c8, by rw [hf.1 _ _ (h1 _ _ (by omega))]; exact c10, ⟨L, lL, by rw [hf.1 _ _ (h1 _ _ (by omega))]; exact c9, eP⟩, fun z => (cB z).fr hf (h1 _ _ (by omega)) (fun k => h1 _ _ (by omega))⟩
theorem EyM.w {ns : List Nat} {μ m : Mem} {t t2 : Nat} {v : Ey} {w : Wd} {P : Nat → Nat → Prop} (h : EyM ns μ t v) (hI : EyI v) (hw : WM m t2 w) (hf : Fr P μ m) (h1 : ∀ c k, 156 ≤ c ∧ c ≤ 161 ∨ 215 ≤ c ∧ c ≤ 220 ∨ c = 129 ∧ (60 ≤ k ∧ k ≤ 72 ∨ 144 ≤ k ∧ k ≤ 147) → ¬ P c k) : EyM ns m t2 ((w, v.1.2), v.2) := by
  obtain ⟨hH, hN, c6, c7, c11, c12, c8, cO, cB⟩ := h
  exact ⟨⟨hw, hH.2.1.fr hI.1.2.1 hf (fun c k _ => h1 _ _ (by omega)), hH.2.2.1.fr hf (fun c k _ => h1 _ _ (by omega)), hH.2.2.2.fr hf (fun k _ => h1 _ _ (by omega))⟩, ⟨fun i hi => by rw [hf.1 _ _ (h1 _ _ (by omega))]; exact hN.1 i hi, hN.2⟩, by rw [hf.1 _ _ (h1 _ _ (by omega))]; exact c6, by rw [hf.1 _ _ (h1 _ _ (by omega))]; exact c7, by rw [hf.1 _ _ (h1 _ _ (by omega))]; exact c11, by rw [hf.1 _ _ (h1 _ _ (by omega))]; exact c12, by rw [hf.1 _ _ (h1 _ _ (by omega))]; exact c8, (fun z => ⟨by rw [hf.1 _ _ (h1 _ _ (by omega))]; exact (cO z).1, by rw [hf.1 _ _ (h1 _ _ (by omega))]; exact (cO z).2⟩), fun z => ⟨by rw [hf.1 _ _ (h1 _ _ (by omega))]; exact (cB z).1, (cB z).2.1.fr7 hf (fun k => h1 _ _ (by omega)), fun y => by rw [hf.1 _ _ (h1 _ _ (by omega))]; exact (cB z).2.2 y⟩⟩
theorem EC.d {μ m : Mem} {e : Ew} {d : Dw} {P : Nat → Nat → Prop} (h : EC μ e) (hd : DC m d) (ho : Fr P μ m) (h1 : ∀ c k, c = 9 ∧ k ≤ 7 ∨ 10 ≤ c ∧ c ≤ 11 → ¬ P c k) : EC m (d, e.2) := by
  obtain ⟨e1, e2, e3, e4, ⟨B, b1, b2, b3⟩, e6, e7, e8, e9⟩ := h
  exact ⟨hd, by rw [ho.1 _ _ (h1 _ _ (by omega))]; exact e2, by rw [ho.1 _ _ (h1 _ _ (by omega))]; exact e3, by rw [ho.1 _ _ (h1 _ _ (by omega))]; exact e4, ⟨B, b1, by rw [ho.2]; exact b2, b3⟩, by rw [ho.1 _ _ (h1 _ _ (by omega))]; exact e6, e7.fr ho (h1 _ _ (by omega)) (fun k => h1 _ _ (by omega)), by rw [ho.1 _ _ (h1 _ _ (by omega))]; exact e8, by rw [ho.1 _ _ (h1 _ _ (by omega))]; exact e9⟩
theorem EM.d {μ m : Mem} {e : Ew} {d : Dw} {P : Nat → Nat → Prop} (h : EM μ e) (hd : DM m d) (ho : Fr P μ m) (h1 : ∀ c k, c = 129 ∧ 9 ≤ k ∧ k ≤ 18 ∨ 138 ≤ c ∧ c ≤ 139 → ¬ P c k) : EM m (d, e.2) := by
  obtain ⟨e1, e2, e3, e4, e5, e6, e7, e8, e9, e10, e11⟩ := h
  exact ⟨hd, by rw [ho.1 _ _ (h1 _ _ (by omega))]; exact e2, by rw [ho.1 _ _ (h1 _ _ (by omega))]; exact e3, by rw [ho.1 _ _ (h1 _ _ (by omega))]; exact e4, e5.fr ho (fun k => h1 _ _ (by omega)), by rw [ho.1 _ _ (h1 _ _ (by omega))]; exact e6, by rw [ho.1 _ _ (h1 _ _ (by omega))]; exact e7, e8.fr ho (fun k => h1 _ _ (by omega)), (fun z => by rw [ho.1 _ _ (h1 _ _ (by omega))]; exact e9 z), by rw [ho.1 _ _ (h1 _ _ (by omega))]; exact e10, by rw [ho.1 _ _ (h1 _ _ (by omega))]; exact e11⟩
theorem dn_C {ns : List Nat} {μ : Mem} {t : Nat} {v : Ey} {e : Ew} {x : Xw} {f : Fw} {α : Type} {K : Mem → Option α} {Q : α → Prop} (hV : EyC ns μ t v) (hE : EC μ e) (hX : XC μ x) (hF : FwC μ f) (he : EI e) (hx : XI x) (hf : FwI f) (hnl : ns.length = 64) (hK : ∀ m, EyC ns m t (dnV ns v e x f) → EC m (dnE e x f) → XC m (dnX e x f) → FwC m (dnF e x f) → Fr FDn μ m → wp (K m) Q) :
    wp ((f195 μ).bind fun r12 => (f121 r12.2 (r12.1.1 9 11) r12.1).bind K) Q := by
  have hD := hE.1
  have hU := hD.2.1
  obtain ⟨⟨y1, y2⟩, _⟩ := he.1.2.n
  rw [bits_C hU he.1.2, Option.bind_some]
  dsimp only
  rw [show μ.1 9 11 = e.1.2.1 0 from hU 0 (by omega), y2]
  have L1h : LinC μ 7 64000 (v.1.1.2.2.2.2.1 1) (v.1.1.2.2.2.2.2 1) := hV.1.1.2.2.2.2.2 1 (by omega)
  refine wp_bind (frame_C (ns := ns) hF hf hD.1.1.2.2.2.1 hX.2.2.2.2.2 he.1.1.1.2.1.sh hx.2.2.2.2.2.sh hV.1.1.1 hV.2.1 hnl L1h (bitsY_lt he.1.2) y1) (fun m ⟨a1, a2, a3, a4, a5⟩ => ?_)
  have hw : WC m t (s1 (dnQ ns v e x f) v.1.1) := by
    refine ⟨hV.1.1.1.fr a5 (fun k => by omega), hV.1.1.2.1.fr a5 (fun k _ _ => by omega), hV.1.1.2.2.1.fr a5 (fun c k _ _ => by omega), hV.1.1.2.2.2.1.fr a5 (fun c k _ _ => by omega), hV.1.1.2.2.2.2.1.fr a5 (by omega) (fun c k _ _ => by omega), fun l hl => ?_⟩
    show LinC m (5 + 2 * l) (32000 * (l + 1)) (upL v.1.1.2.2.2.2.1 1 (dnQ ns v e x f).1 l) (upL v.1.1.2.2.2.2.2 1 (dnQ ns v e x f).2 l)
    by_cases q : l = 1
    · rw [q, upL_s, upL_s]; exact a4
    · rw [upL_o q, upL_o q]; exact (hV.1.1.2.2.2.2.2 l hl).fr a5 (fun k => by omega) (fun k => by omega)
  have hd : DC m (dnE e x f).1 := by
    have hc := hD.1
    exact ⟨⟨⟨hc.1.1.fr a5 (fun k => by omega), by rw [a5.1 _ _ (by omega)]; exact hc.1.2.1, by rw [a5.1 _ _ (by omega)]; exact hc.1.2.2.1, a2, by rw [a5.1 _ _ (by omega)]; exact hc.1.2.2.2.2.1, hc.1.2.2.2.2.2.1.fr a5 (fun c k _ _ => by omega), hc.1.2.2.2.2.2.2.fr a5 (fun c k _ _ => by omega)⟩, hc.2.1.fr a5 (fun k => by omega) (by omega) (by omega), hc.2.2.1.fr a5 (fun c k _ _ => by omega), hc.2.2.2.1.fr a5 (fun k => by omega), hc.2.2.2.2.fr a5 (by omega) (fun k => by omega)⟩, hU.fr a5 (fun k _ _ => by omega), by rw [a5.1 _ _ (by omega)]; exact hD.2.2⟩
  exact hK m (hV.w hw a5 (fun c k _ => by omega)) (hE.d hd a5 (fun c k _ => by omega)) ⟨hX.1.fr a5 (by omega) (fun k => by omega), hX.2.1.fr a5 (fun k => by omega), hX.2.2.1.fr a5 (fun k => by omega), hX.2.2.2.1.fr a5 (by omega) (fun c k _ _ => by omega), hX.2.2.2.2.1.fr a5 (by omega) (by omega) (fun c k _ _ => by omega), a3⟩ a1 a5
theorem dn_M {ns : List Nat} {μ : Mem} {t : Nat} {v : Ey} {e : Ew} {x : Xw} {f : Fw} {α : Type} {K : Mem → Option α} {Q : α → Prop} (hV : EyM ns μ t v) (hE : EM μ e) (hX : XM μ x) (hF : FwM μ f) (hv : EyI v) (he : EI e) (hx : XI x) (hf : FwI f) (hnl : ns.length = 64) (h4 : Seg μ 214 0 [26, 207, 252, 29]) (hK : ∀ m, EyM ns m t (dnV ns v e x f) → EM m (dnE e x f) → XM m (dnX e x f) → FwM m (dnF e x f) → Fr FDq μ m → wp (K m) Q) :
    wp ((f345 μ).bind K) Q := by
  have hD := hE.1
  have hc := hD.1
  have hmi := he.1.1.1
  refine wp_bind (frame_M (ns := ns) (lv := lvE e) (pd := pdX x) hF hf hc.1.2.2.1 hX.2.2.2.2.2 he.1.1.1.2.1.sh hx.2.2.2.2.2.sh he.1.1.1.2.1.1 hD.2.1 he.1.2 hV.2.1 hnl h4 (hV.1.1.2.2.2.2 1 (by omega))) (fun m ⟨a1, a2, a3, a4, a5⟩ => ?_)
  have hw : WM m t (s1 (dnQ ns v e x f) v.1.1) := by
    refine ⟨hV.1.1.1.fr a5 (fun k _ _ => by omega), hV.1.1.2.1.fr a5 (by omega) (fun c k _ => by omega), hV.1.1.2.2.1.fr a5 (by omega) (fun c k _ => by omega), hV.1.1.2.2.2.1.fr a5 (by omega) (fun c k _ _ => by omega), fun l hl => ?_⟩
    show LinM m l (upL v.1.1.2.2.2.2.1 1 (dnQ ns v e x f).1 l) (upL v.1.1.2.2.2.2.2 1 (dnQ ns v e x f).2 l)
    by_cases q : l = 1
    · rw [q, upL_s, upL_s]; exact a4
    · rw [upL_o q, upL_o q]; exact (hV.1.1.2.2.2.2 l hl).fr a5 (by omega) (fun k => by omega)
  have hd : DM m (dnE e x f).1 := by
    exact ⟨⟨⟨by rw [a5.1 _ _ (by omega)]; exact hc.1.1, by rw [a5.1 _ _ (by omega)]; exact hc.1.2.1, a2, by rw [a5.1 _ _ (by omega)]; exact hc.1.2.2.2.1, hc.1.2.2.2.2.1.fr hmi.2.2.1.2.2.l90 a5 (fun c k z => by omega), hc.1.2.2.2.2.2.fr hmi.2.2.2.2.2.l90 a5 (fun c k z => by omega)⟩, hc.2.1.fr a5 (fun k => by omega), hc.2.2.1.fr a5 (by omega) (fun c k _ _ => by omega), hc.2.2.2.fr a5 (by omega) (fun k => by omega)⟩, hD.2.1.fr a5 (fun k _ _ => by omega), by rw [a5.1 _ _ (by omega)]; exact hD.2.2⟩
  exact hK m (hV.w hv hw a5 (fun c k _ => by omega)) (hE.d hd a5 (fun c k _ => by omega)) ⟨hX.1.fr a5 (fun k => by omega), hX.2.1.fr a5 (fun c k _ _ => by omega), hX.2.2.1.fr a5 (fun c k _ _ => by omega), hX.2.2.2.1.fr a5 (fun c k _ _ => by omega), hX.2.2.2.2.1.fr hx.2.2.2.2.1 a5 (by omega) (by omega) (fun c k _ => by omega), a3⟩ a1 a5
/-! the timer -/
def tmS (t : Nat) (w : Wd) (cl : List Nat) : Wd := if w.1 6 = nI 0 then w else if w.1 6 - nI 1 = nI 0 then tmoW t (stZw w 6 (w.1 6 - nI 1)) cl else stZw w 6 (w.1 6 - nI 1)
def tmE (t : Nat) (cl : List Nat) (v : Ey) : Ey := ((tmS t v.1.1 cl, v.1.2), v.2)
theorem tmo1_I {t : Nat} {w : Wd} {cl : List Nat} (h : WI w) (hb : (tmo1 t w cl).2 = true) : WI (tmo1 t w cl).1 := by
  unfold tmo1 at hb ⊢
  by_cases p3 : w.1 3 < w.1 4
  · rw [if_pos p3] at hb ⊢
    by_cases q1 : w.1 0 = nI 1
    · rw [if_pos q1]; exact rep_I h
    · rw [if_neg q1] at hb ⊢
      by_cases q2 : w.1 0 = nI 2
      · rw [if_pos q2]; exact rep_I h
      · rw [if_neg q2] at hb
        exfalso
        repeat' split at hb
        all_goals exact absurd hb Bool.false_ne_true
  · rw [if_neg p3] at hb
    exact absurd hb Bool.false_ne_true
theorem tmW_TQ {w : Wd} {n : Nat} (h : WJ w) (hn : n ≤ 1000) : TQ (stZw w 6 (nI n)) := ⟨⟨n, hn, rfl⟩, h.2.1.2⟩
theorem tmS_J {t : Nat} {w : Wd} {cl : List Nat} (h : WJ w) : WJ (tmS t w cl) ∧ ((tmS t w cl).1 0 = nI 5 → w.1 0 = nI 5) := by
  obtain ⟨n, hn, e6⟩ := h.2.1.1
  unfold tmS
  by_cases q : w.1 6 = nI 0
  · rw [if_pos q]; exact ⟨h, fun z => z⟩
  · have n0 : n ≠ 0 := fun z => q (by rw [e6, z])
    have es : w.1 6 - nI 1 = nI (n - 1) := by rw [e6, pk_sub (by omega)]
    have s6 : w.1 0 ≠ nI 6 := fun z => q (h.2.2.1 z).1
    have hT : TQ (stZw w 6 (w.1 6 - nI 1)) := by rw [es]; exact tmW_TQ h (by omega)
    have hW : WI (stZw w 6 (w.1 6 - nI 1)) := stZ_I h.1 (by decide)
    rw [if_neg q]
    by_cases q2 : w.1 6 - nI 1 = nI 0
    · rw [if_pos q2]
      exact tmo_J hW hT (by show w.1 6 - nI 1 = nI 0; exact q2) ⟨s6, h.2.2.2.2⟩ h.2.2.2.1
    · rw [if_neg q2]
      exact ⟨⟨hW, hT, fun z => absurd z s6, h.2.2.2.1, h.2.2.2.2⟩, fun z => z⟩
theorem tmE_I {t : Nat} {cl : List Nat} {v : Ey} (h : EyI v) : EyI (tmE t cl v) := ⟨⟨(tmS_J h.1.1).1, h.1.2⟩, h.2⟩
theorem tm_C {ns : List Nat} {μ : Mem} {t : Nat} {v : Ey} {cl : List Nat} {α : Type} {K : Mem → Option α} {Q : α → Prop} (hV : EyC ns μ t v) (hv : EyI v) (hc : v.1.1.1 0 = nI 5 → CtC μ cl) (hK : ∀ m, EyC ns m t (tmE t cl v) → Fr FG μ m → wp (K m) Q) :
    wp ((f148 μ).bind fun r16 => if r16.2 = 0 then K r16.1 else (f149 r16.1).bind fun r19 => if r19.2 = 0 then K r19.1 else (f135 r19.1).bind K) Q := by
  have hW := hV.1.1
  have z6 : μ.1 28 14 = v.1.1.1 6 := hW.2.1 6 (by omega)
  unfold tmE tmS at hK
  unfold f148
  rw [z6]
  by_cases q : v.1.1.1 6 = nI 0
  · rw [if_pos q] at hK
    rw [if_pos (show v.1.1.1 6 = 0 from q), i_0, rtZ_0, Option.bind_some]
    dsimp only
    rw [if_pos rfl]
    exact hK μ hV Fr.rf
  · rw [if_neg q] at hK
    rw [if_neg (show ¬ v.1.1.1 6 = 0 from q), pfI, Option.bind_some]
    have w2 := hW.st (k := 14) (i := 6) (x := v.1.1.1 6 - nI 1) rfl
    have f2 : Fr FG μ (setI μ 28 14 (v.1.1.1 6 - nI 1)) := Fr.sI (by omega)
    have e14 : (setI μ 28 14 (v.1.1.1 6 - nI 1)).1 28 14 = v.1.1.1 6 - nI 1 := by rw [rdI, if_pos ⟨rfl, rfl⟩]
    rw [i_1, e14, i_0]
    by_cases q2 : v.1.1.1 6 - nI 1 = nI 0
    · rw [if_pos q2] at hK
      rw [if_pos q2, rtZ_1, Option.bind_some]
      dsimp only
      rw [if_neg (show ¬ nI 1 = nI 0 by decide)]
      generalize setI μ 28 14 (v.1.1.1 6 - nI 1) = m1 at *
      have hW2 : WI (stZw v.1.1 6 (v.1.1.1 6 - nI 1)) := stZ_I hv.1.1.1 (by decide)
      refine wp_bind (tmo_C (cl := cl) w2 hW2 (fun z => (hc z).fr f2 (fun c k _ => by omega))) (fun r ⟨a1, a2, a3⟩ => ?_)
      obtain ⟨m2, b⟩ := r
      dsimp only at a1 a2 a3 ⊢
      unfold tmoW at hK
      by_cases qb : (tmo1 t (stZw v.1.1 6 (v.1.1.1 6 - nI 1)) cl).2 = true
      · rw [if_pos qb] at hK
        rw [qb, b2n_t] at a1
        rw [a1, if_neg (show ¬ nI 1 = nI 0 by decide)]
        refine wp_bind (go_C a2 (tmo1_I hW2 qb)) (fun m3 ⟨b1, b2⟩ => ?_)
        have f3 : Fr FG μ m3 := (f2.tr' a3).tr' b2
        exact hK m3 (hV.w b1 f3 (fun c k _ => by omega)) f3
      · rw [if_neg qb] at hK
        rw [Bool.eq_false_iff.mpr qb, b2n_f] at a1
        rw [a1, if_pos rfl]
        have f3 : Fr FG μ m2 := f2.tr' a3
        exact hK m2 (hV.w a2 f3 (fun c k _ => by omega)) f3
    · rw [if_neg q2] at hK
      rw [if_neg q2, rtZ_0, Option.bind_some]
      dsimp only
      rw [if_pos rfl]
      exact hK _ (hV.w w2 f2 (fun c k _ => by omega)) f2
theorem tm_M {ns : List Nat} {μ : Mem} {t : Nat} {v : Ey} {cl : List Nat} {α : Type} {K : Mem → Option α} {Q : α → Prop} (hV : EyM ns μ t v) (hv : EyI v) (hc : v.1.1.1 0 = nI 5 → CtM μ cl) (hK : ∀ m, EyM ns m t (tmE t cl v) → Fr FGC μ m → wp (K m) Q) :
    wp (if (μ.1 129 34) ≤ 0 then K μ else (pfI 129 34 ((μ.1 129 34) - (1 : Int32)) μ).bind fun m5 => if (m5.1 129 34) = 0 then (f283 m5).bind K else K m5) Q := by
  have hW := hV.1.1
  have z6 : μ.1 129 34 = v.1.1.1 6 := hW.1 6 (by omega)
  obtain ⟨n, hn, e6⟩ := hv.1.1.2.1.1
  unfold tmE tmS at hK
  rw [z6]
  by_cases q : v.1.1.1 6 = nI 0
  · rw [if_pos q] at hK
    rw [if_pos (by rw [q]; decide)]
    exact hK μ hV Fr.rf
  · have n0 : n ≠ 0 := fun z => q (by rw [e6, z])
    rw [if_neg q] at hK
    rw [if_neg (by rw [e6, i_0]; exact fun z => by have := (nI_leI (by omega) (by omega)).mp z; omega), pfI, Option.bind_some]
    have w2 := hW.st (k := 34) (i := 6) (x := v.1.1.1 6 - nI 1) rfl (by decide)
    have f2 : Fr FGC μ (setI μ 129 34 (v.1.1.1 6 - nI 1)) := Fr.sI (by omega)
    have e14 : (setI μ 129 34 (v.1.1.1 6 - nI 1)).1 129 34 = v.1.1.1 6 - nI 1 := by rw [rdI, if_pos ⟨rfl, rfl⟩]
    rw [i_1, e14, i_0]
    by_cases q2 : v.1.1.1 6 - nI 1 = nI 0
    · rw [if_pos q2] at hK
      rw [if_pos q2]
      generalize setI μ 129 34 (v.1.1.1 6 - nI 1) = m1 at *
      have hW2 : WI (stZw v.1.1 6 (v.1.1.1 6 - nI 1)) := stZ_I hv.1.1.1 (by decide)
      refine wp_bind (tmo_M (cl := cl) w2 hW2 q2 (fun z => (hc z).fr f2 (fun k _ => by omega))) (fun m2 ⟨a1, a2⟩ => ?_)
      have f3 : Fr FGC μ m2 := f2.tr' a2
      exact hK m2 (hV.w hv a1 f3 (fun c k _ => by omega)) f3
    · rw [if_neg q2] at hK
      rw [if_neg q2]
      exact hK _ (hV.w hv w2 f2 (fun c k _ => by omega)) f2
