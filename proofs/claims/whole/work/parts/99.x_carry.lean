/-! ===== carry: the call ===== -/
def s0 (p : L1) (w : Wd) : Wd := (w.1, w.2.1, w.2.2.1, w.2.2.2.1, (upL w.2.2.2.2.1 0 p.1, upL w.2.2.2.2.2 0 p.2))
def s0E (p : L1) (v : Ey) : Ey := ((s0 p v.1.1, v.1.2), v.2)
theorem carn_C {μ : Mem} {l j n : Nat} {g : Nat → Bool} (hl : l < 2) (hj : j < 2 ^ 31) (hL : LinC μ (5 + 2 * l) (32000 * (l + 1)) n g) : f207 (nI l) (nI j) μ = l207_33 gF (nI l, 5 + 2 * l, nI (min j n), nI 0, μ) := by
  have h2 := hL.2.1
  have hn := hL.2.2.1
  unfold f207
  rw [isl_C hl, Option.bind_some]
  dsimp only
  rw [i_0, if_neg (show ¬ nI 1 = nI 0 by decide), if_pos ((nI_leI (by omega) (by omega)).mpr (Nat.zero_le _)), lof_C hl, Option.bind_some]
  dsimp only [nm]
  rw [h2, jmin_N hj (by omega)]
theorem carn_M {μ : Mem} {l j n : Nat} {g : Nat → Bool} (hl : l < 2) (hj : j < 2 ^ 31) (hL : LinM μ l n g) : f264 (nI l) (nI j) μ = c264_33 (nI l) (nI (min j n)) μ := by
  have g2 := gl_136
  have h1 := hL.1
  have hn := hL.2.1
  unfold f264
  rw [isl_M hl, Option.bind_some]
  dsimp only
  rw [i_0, if_neg (show ¬ nI 1 = nI 0 by decide), if_pos ((nI_leI (by omega) (by omega)).mpr (Nat.zero_le _)), ldA_N (by omega), Option.bind_some, h1]
  by_cases q : n ≤ j
  · rw [if_pos ((nI_leI (by omega) (by omega)).mpr q), Option.bind_some, show min j n = n by omega]
  · rw [if_neg (fun z => q ((nI_leI (by omega) (by omega)).mp z)), show min j n = j by omega]
theorem rw_car1 {j n : Nat} {μ : Mem} (hj : j < 2 ^ 31) (hn : n < 64) (hI : Inv n μ) : wp (f207 (nI 1) (nI j) μ) (fun r => Sc μ r.1 ∧ wp (f264 (nI 1) (nI j) r.1) (fun r2 => r2.2 = r.2 ∧ Inv (n + 1) r2.1)) := by
  obtain ⟨ns, t, bs, cl, v, e, x, f, a, b, c, d⟩ := hI
  obtain ⟨cv, ce, cx, cf, cn, cb, cu⟩ := c
  have hL : LinC μ 7 64000 (v.1.1.2.2.2.2.1 1) (v.1.1.2.2.2.2.2 1) := a.2.2.1.1.1.2.2.2.2.2 1 (by omega)
  have hN := hL.2.2.1
  have hkn : min j (v.1.1.2.2.2.2.1 1) ≤ v.1.1.2.2.2.2.1 1 ∧ min j (v.1.1.2.2.2.2.1 1) ≤ 64000 := by omega
  have e1 := carn_C (j := j) (by omega : 1 < 2) hj hL
  have e2 : ∀ m, GM ns m t bs cl v e x f → f264 (nI 1) (nI j) m = c264_33 (nI 1) (nI (min j (v.1.1.2.2.2.2.1 1))) m := fun m hm => carn_M (by omega) hj (hm.2.2.1.1.1.2.2.2.2 1 (by omega))
  generalize min j (v.1.1.2.2.2.2.1 1) = k at hkn e1 e2
  have vi := vBs_I (t := t) (ns := ns) (g := v.1.1.2.2.2.2.2 1) cv cb k
  refine rw_of (fC := f207 (nI 1) (nI j)) (fM := f264 (nI 1) (nI j)) (a := nI k) b ⟨cv, ce, cx, cf, cn, cb, cu⟩ (t' := t) (bs' := bs) (cl' := cl) (v' := s1E (v.1.1.2.2.2.2.1 1 - k, fun j => v.1.1.2.2.2.2.2 1 (j + k)) (vBs t ns (v.1.1.2.2.2.2.2 1) k v)) (e' := e) (x' := x) (f' := f) ?_ (fun m hm => ?_)
  · rw [e1]
    refine wp_mono (car1_C (k := k) a.2.2.1 cv cn cb hkn.1) (fun r ⟨z1, z2, z3⟩ => ⟨z1, ⟨a.1.fr z3 (by omega) (fun k => by omega), (fun z => (a.2.1 (vi.2.2 z)).fr z3 (fun c k _ => by omega)), z2, a.2.2.2.1.lo z3 (fun c k _ => by omega), a.2.2.2.2.1.fr z3 (fun c k _ => by omega), a.2.2.2.2.2.fr z3 (fun c k _ => by omega)⟩, (z3.mono (by intro c k h; omega)).l, ⟨vi.1, ce, cx, cf, cn, cb, cu⟩, ?_⟩)
    exact ⟨by have := d.1; omega, by have := d.2.1; omega, by have := d.2.2.1; have := vi.2.1; show (vBs t ns (v.1.1.2.2.2.2.2 1) k v).1.2.1.2.1 ≤ _; omega, (vBs_K (t := t) (ns := ns) (g := v.1.1.2.2.2.2.2 1) d.2.2.2 k).mono (by omega)⟩
  · rw [e2 m hm]
    refine carP_M (by omega) (hm.2.2.1.1.1.2.2.2.2 1 (by omega)) hkn.1 (fun m2 a1 a2 a3 => ?_)
    have w1 := EyM.dn (p := (v.1.1.2.2.2.2.1 1 - k, fun j => v.1.1.2.2.2.2.2 1 (j + k))) hm.2.2.1 cv a1 a3
    refine wp_mono (car1_M (k := k) (g := v.1.1.2.2.2.2.2 1) w1 cv cn cb a2 hkn.2 (by have := d.2.2.1; show v.1.2.1.2.1 + 52 * 64000 < 2 ^ 29; omega)) (fun r ⟨z1, z2, z3⟩ => ?_)
    rw [vBs_s1] at z2
    have f2 : Fr (fun c k => (c = 137 ∨ FM 1 c k) ∨ FYM c k) m r.1 := a3.tr z3 (fun _ _ q => Or.inl q) (fun _ _ q => Or.inr q)
    exact ⟨z1, ⟨hm.1.fr f2 (by omega) (fun k => by omega), (fun z => (hm.2.1 (vi.2.2 z)).fr f2 (fun k _ => by omega)), z2, hm.2.2.2.1.fr ce f2 (fun c k _ => by omega), hm.2.2.2.2.1.fr cx f2 (fun c k _ => by omega), hm.2.2.2.2.2.1.fr cf f2 (fun c k _ => by omega), hm.2.2.2.2.2.2.fr f2 (fun k => by omega)⟩, f2.mono (by intro c k h; omega)⟩
theorem rw_car0 {j n : Nat} {μ : Mem} (hj : j < 2 ^ 31) (hn : n < 64) (hI : Inv n μ) : wp (f207 (nI 0) (nI j) μ) (fun r => Sc μ r.1 ∧ wp (f264 (nI 0) (nI j) r.1) (fun r2 => r2.2 = r.2 ∧ Inv (n + 1) r2.1)) := by
  obtain ⟨ns, t, bs, cl, v, e, x, f, a, b, c, d⟩ := hI
  obtain ⟨cv, ce, cx, cf, cn, cb, cu⟩ := c
  have hL : LinC μ 5 32000 (v.1.1.2.2.2.2.1 0) (v.1.1.2.2.2.2.2 0) := a.2.2.1.1.1.2.2.2.2.2 0 (by omega)
  have hN := hL.2.2.1
  have hkn : min j (v.1.1.2.2.2.2.1 0) ≤ v.1.1.2.2.2.2.1 0 ∧ min j (v.1.1.2.2.2.2.1 0) ≤ 64000 := by omega
  have e1 := carn_C (j := j) (by omega : 0 < 2) hj hL
  have e2 : ∀ m, GM ns m t bs cl v e x f → f264 (nI 0) (nI j) m = c264_33 (nI 0) (nI (min j (v.1.1.2.2.2.2.1 0))) m := fun m hm => carn_M (by omega) hj (hm.2.2.1.1.1.2.2.2.2 0 (by omega))
  generalize min j (v.1.1.2.2.2.2.1 0) = k at hkn e1 e2
  have ei := eBs_I (g := v.1.1.2.2.2.2.2 0) ce k
  refine rw_of (fC := f207 (nI 0) (nI j)) (fM := f264 (nI 0) (nI j)) (a := nI k) b ⟨cv, ce, cx, cf, cn, cb, cu⟩ (t' := t) (bs' := bs) (cl' := cl) (v' := s0E (v.1.1.2.2.2.2.1 0 - k, fun j => v.1.1.2.2.2.2.2 0 (j + k)) v) (e' := eBs (v.1.1.2.2.2.2.2 0) k e) (x' := x) (f' := f) ?_ (fun m hm => ?_)
  · rw [e1]
    refine wp_mono (car0_C (k := k) a.2.2.2.1 ce hL hkn.1) (fun r ⟨z1, z2, z3, z4⟩ => ?_)
    have f4 := z4.f
    have hw0 : WC μ t v.1.1 := a.2.2.1.1.1
    have hw : WC (r.1.1, μ.2) t (s0 (v.1.1.2.2.2.2.1 0 - k, fun j => v.1.1.2.2.2.2.2 0 (j + k)) v.1.1) := by
      refine ⟨hw0.1.fr f4 (fun k => by omega), hw0.2.1.fr f4 (fun k _ _ => by omega), hw0.2.2.1.fr f4 (fun c k _ _ => by omega), hw0.2.2.2.1.fr f4 (fun c k _ _ => by omega), hw0.2.2.2.2.1.fr f4 (by omega) (fun c k _ _ => by omega), fun l hl => ?_⟩
      show LinC (r.1.1, μ.2) (5 + 2 * l) (32000 * (l + 1)) (upL v.1.1.2.2.2.2.1 0 (v.1.1.2.2.2.2.1 0 - k) l) (upL v.1.1.2.2.2.2.2 0 (fun j => v.1.1.2.2.2.2.2 0 (j + k)) l)
      by_cases q : l = 0
      · rw [q, upL_s, upL_s]; exact z3
      · rw [upL_o q, upL_o q]; exact (hw0.2.2.2.2.2 l hl).fr f4 (fun k => by omega) (fun k => by omega)
    have hv : EyC ns (r.1.1, μ.2) t (s0E (v.1.1.2.2.2.2.1 0 - k, fun j => v.1.1.2.2.2.2.2 0 (j + k)) v) := a.2.2.1.w hw f4 (fun c k _ => by omega)
    have hx := a.2.2.2.2.1.fr f4 (fun c k _ => by omega)
    have hf := a.2.2.2.2.2.fr f4 (fun c k _ => by omega)
    have hb := a.1.fr f4 (by omega) (fun k => by omega)
    have e16 : r.1.1 9 16 = μ.1 9 16 := z4 _ _ (by omega)
    have e12 : r.1.1 57 12 = μ.1 57 12 := z4 _ _ (by omega)
    have u1 : r.1.1 9 16 = (eBs (v.1.1.2.2.2.2.2 0) k e).1.2.1 5 := z2.1.2.1 5 (by omega)
    have u0 : μ.1 9 16 = e.1.2.1 5 := a.2.2.2.1.1.2.1 5 (by omega)
    have t1 : r.1.1 57 12 = nI (eBs (v.1.1.2.2.2.2.2 0) k e).1.1.1.1 := z2.1.1.1.2.1
    have t0 : μ.1 57 12 = nI e.1.1.1.1 := a.2.2.2.1.1.1.1.2.1
    have tl := ei.1.1.1.1
    have tl0 := ce.1.1.1.1
    have te : (eBs (v.1.1.2.2.2.2.2 0) k e).1.1.1.1 = e.1.1.1.1 := (nI_eq (by omega) (by omega)).mp (t1.symm.trans (e12.trans t0))
    have hct : v.1.1.1 0 = nI 5 → CtC (r.1.1, μ.2) cl := fun z => (a.2.1 z).fr f4 (fun c k _ => by omega)
    refine ⟨z1, ⟨hb, hct, hv, z2, hx, hf⟩, fun c k hc => z4 c k (fun q => hc (by omega)), ⟨cv, ei, cx, cf, cn, cb, ?_⟩, by have := d.1; omega, by rw [te]; have := d.2.1; omega, by have := d.2.2.1; show v.1.2.1.2.1 ≤ _; omega, d.2.2.2.mono (by omega)⟩
    obtain ⟨u, h1, h2, h3, h4⟩ := cu
    exact ⟨u, h1, h2, h3, by rw [← h4, ← u0, ← e16]; exact u1.symm⟩
  · rw [e2 m hm]
    refine carP_M (by omega) (hm.2.2.1.1.1.2.2.2.2 0 (by omega)) hkn.1 (fun m2 a1 a2 a3 => ?_)
    refine wp_mono (car0_M (k := k) (g := v.1.1.2.2.2.2.2 0) (hm.2.2.2.1.fr ce a3 (fun c k _ => by omega)) ce a2 hkn.2) (fun r ⟨z1, z2, z3⟩ => ?_)
    have f2 : Fr (fun c k => (c = 137 ∨ FM 0 c k) ∨ FEm c k) m r.1 := a3.tr z3 (fun _ _ q => Or.inl q) (fun _ _ q => Or.inr q)
    have hw0 : WM m t v.1.1 := hm.2.2.1.1.1
    have hw : WM r.1 t (s0 (v.1.1.2.2.2.2.1 0 - k, fun j => v.1.1.2.2.2.2.2 0 (j + k)) v.1.1) := by
      refine ⟨hw0.1.fr f2 (fun k _ _ => by omega), hw0.2.1.fr f2 (by omega) (fun c k _ => by omega), hw0.2.2.1.fr f2 (by omega) (fun c k _ => by omega), hw0.2.2.2.1.fr f2 (by omega) (fun c k _ _ => by omega), fun l hl => ?_⟩
      show LinM r.1 l (upL v.1.1.2.2.2.2.1 0 (v.1.1.2.2.2.2.1 0 - k) l) (upL v.1.1.2.2.2.2.2 0 (fun j => v.1.1.2.2.2.2.2 0 (j + k)) l)
      by_cases q : l = 0
      · rw [q, upL_s, upL_s]; exact a1.fr z3 (by omega) (fun k => by omega)
      · rw [upL_o q, upL_o q]; exact (hw0.2.2.2.2 l hl).fr f2 (by omega) (fun k => by omega)
    exact ⟨z1, ⟨hm.1.fr f2 (by omega) (fun k => by omega), (fun z => (hm.2.1 z).fr f2 (fun k _ => by omega)), hm.2.2.1.w cv hw f2 (fun c k _ => by omega), z2, hm.2.2.2.2.1.fr cx f2 (fun c k _ => by omega), hm.2.2.2.2.2.1.fr cf f2 (fun c k _ => by omega), hm.2.2.2.2.2.2.fr f2 (fun k => by omega)⟩, f2.mono (by intro c k h; omega)⟩
theorem rw_carry (p q : Int32) : Rw (f207 p q) (f264 p q) := by
  rcases ln_or p with ⟨l, hl, rfl⟩ | h
  · rcases neg_or q with hq | ⟨j, hj, rfl⟩
    · refine rw_get (fun n μ _ _ => ⟨-1, ?_, ?_⟩)
      · unfold f207
        rw [isl_C hl, Option.bind_some]
        dsimp only
        rw [i_0, if_neg (show ¬ nI 1 = nI 0 by decide), if_neg (show ¬ nI 0 ≤ q from Int32.not_le.mpr hq)]
      · unfold f264
        rw [isl_M hl, Option.bind_some]
        dsimp only
        rw [i_0, if_neg (show ¬ nI 1 = nI 0 by decide), if_neg (show ¬ nI 0 ≤ q from Int32.not_le.mpr hq)]
    · intro n μ hn hI
      have : l = 0 ∨ l = 1 := by omega
      rcases this with rfl | rfl
      · exact rw_car0 hj hn hI
      · exact rw_car1 hj hn hI
  · refine rw_get (fun n μ _ _ => ⟨-1, ?_, ?_⟩)
    · unfold f207
      rw [nol_C h, Option.bind_some]
      dsimp only
      rw [i_0, if_pos rfl]
    · unfold f264
      rw [nol_M h, Option.bind_some]
      dsimp only
      rw [i_0, if_pos rfl]
