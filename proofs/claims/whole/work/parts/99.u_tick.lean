/-! ===== a tick on board ===== -/
def tkY (k : Kw) : Kw := ((k.1.1 + 1, k.1.2), k.2)
def tkX (x : Xw) (a : Yw) (b : Mw × (Nat → Nat → Int32)) (c : Ww) : Xw := (x.1, b.2, c.2, x.2.2.2.1, a.2, x.2.2.2.2.2)
def tk1 (d : Dw) (x : Xw) : Yw := schN 16 (tkY d.1, x.2.2.2.2.1)
def tk2 (a : Yw) (x : Xw) : Mw × (Nat → Nat → Int32) := strsT a.1.2.1 a.2.2.2.length (a.1.1, x.2.1) 6
def tk3 (a : Yw) (b : Mw × (Nat → Nat → Int32)) (x : Xw) : Ww := wtsT x.2.2.2.1 a.2.2.2.length ((b.1, a.1.2), x.2.2.1) 6
def tkR (d : Dw) (x : Xw) : Dw × Xw := runD ((tk3 (tk1 d x) (tk2 (tk1 d x) x) x).1, d.2) (tkX x (tk1 d x) (tk2 (tk1 d x) x) (tk3 (tk1 d x) (tk2 (tk1 d x) x) x))
theorem SPk.up {tk : Nat} {ps : List Pk} (h : SPk tk ps) (ht : tk + 1 < 2 ^ 30) : SPk (tk + 1) ps := by
  obtain ⟨h1, h2, h3⟩ := h
  refine ⟨h1, fun i hi => ?_, fun i j u v hij hj hu hv e1 e2 => ?_⟩
  · obtain ⟨a, b, c, w, d, e⟩ := h2 i hi
    exact ⟨a, b, c, w, by omega, e⟩
  · obtain ⟨_, _, _, w1, d1, f1⟩ := h2 i (by omega)
    obtain ⟨_, _, _, w2, d2, f2⟩ := h2 j hj
    have x1 : u = w1 := (nI_eq (by omega) (by omega)).mp (e1.symm.trans f1)
    have x2 : v = w2 := (nI_eq (by omega) (by omega)).mp (e2.symm.trans f2)
    exact h3 i j u v hij hj (by omega) (by omega) e1 e2
theorem tkY_I {k : Kw} (h : KI k) (ht : k.1.1 + 1 < 2 ^ 30) : KI (tkY k) :=
  ⟨⟨ht, h.1.2.1, ⟨h.1.2.2.1.1, h.1.2.2.1.2.1, h.1.2.2.1.2.2.up ht⟩, ⟨h.1.2.2.2.1, h.1.2.2.2.2.1, h.1.2.2.2.2.2.up ht⟩⟩, h.2⟩
theorem tk1_I {d : Dw} {x : Xw} {a : Yw} (ea : tk1 d x = a) (h : KI d.1) (ht : d.1.1.1 + 1 < 2 ^ 30) (hX : XI x) : KI a.1 ∧ EnI a.2.2.2 := by
  rw [← ea]
  exact schN_I 16 _ (tkY_I h ht) hX.2.2.2.2.1
theorem tk2_I {x : Xw} {a : Yw} {b : Mw × (Nat → Nat → Int32)} (eb : tk2 a x = b) (h : KI a.1) (hX : XI x) : MI b.1 ∧ StrI b.2 := by
  rw [← eb]
  have b := strsT_I (z := a.1.2.1) (en := a.2.2.2.length) (y := (a.1.1, x.2.1)) h.1 hX.2.1 6 (Nat.le_refl _)
  exact ⟨b.1, b.2.1⟩
theorem tk3_I {x : Xw} {a : Yw} {b : Mw × (Nat → Nat → Int32)} {c : Ww} (ec : tk3 a b x = c) (h : KI (b.1, a.1.2)) (hX : XI x) : KI c.1 ∧ WtI c.2 := by
  rw [← ec]
  exact wtsT_I (a := x.2.2.2.1) (en := a.2.2.2.length) (y := ((b.1, a.1.2), x.2.2.1)) h hX.2.2.1 hX.2.2.2.1 6
abbrev FKc : Nat → Nat → Prop := fun c k => c = 9 ∧ k = 13 ∨ c = 57 ∧ 12 ≤ k ∧ k ≤ 14 ∨ 59 ≤ c ∧ c ≤ 88 ∨ c = 101 ∧ 11 ≤ k ∧ k ≤ 13 ∨ 102 ≤ c ∧ c ≤ 128
theorem tkR_C {μ : Mem} {d : Dw} {x : Xw} {α : Type} {K : Mem → Option α} {Q : α → Prop} (h : DC μ d) (hI : DI d) (hX : XC μ x) (hXI : XI x) (ht : d.1.1.1 + 1 < 2 ^ 30) (hK : ∀ m, DC m (tkR d x).1 → XC m (tkR d x).2 → DI (tkR d x).1 → XI (tkR d x).2 → (tkR d x).1.1.1.1 = d.1.1.1 + 1 → Fr FKc μ m → wp (K m) Q) :
    wp ((pfI 57 12 ((μ.1 57 12) + (1 : Int32)) μ).bind fun m2 => (f51 m2).bind fun r4 => (f38 r4).bind fun r6 => (f48 r6).bind fun r8 => (f16 r8).bind K) Q := by
  have hc := h.1
  unfold tkR at hK
  obtain ⟨a, ea⟩ : ∃ a, tk1 d x = a := ⟨_, rfl⟩
  rw [ea] at hK
  obtain ⟨b, eb⟩ : ∃ b, tk2 a x = b := ⟨_, rfl⟩
  rw [eb] at hK
  obtain ⟨c, ec⟩ : ∃ c, tk3 a b x = c := ⟨_, rfl⟩
  rw [ec] at hK
  have i1 := tk1_I ea hI.1 ht hXI
  have i2 := tk2_I eb i1.1 hXI
  have i23 : KI (b.1, a.1.2) := ⟨i2.1, i1.1.2⟩
  have i3 := tk3_I ec i23 hXI
  have ix : XI (tkX x a b c) := ⟨hXI.1, i2.2, i3.2, hXI.2.2.2.1, i1.2, hXI.2.2.2.2.2⟩
  unfold tk1 at ea
  unfold tk2 at eb
  unfold tk3 at ec
  unfold pfI
  rw [Option.bind_some, hc.1.2.1, i_1, nI_add]
  have f0 : Fr (fun c k => c = 57 ∧ k = 12) μ (setI μ 57 12 (nI (d.1.1.1 + 1))) := Fr.sI ⟨rfl, rfl⟩
  have e12 : (setI μ 57 12 (nI (d.1.1.1 + 1))).1 57 12 = nI (d.1.1.1 + 1) := by rw [rdI, if_pos ⟨rfl, rfl⟩]
  generalize setI μ 57 12 (nI (d.1.1.1 + 1)) = m0 at f0 e12 ⊢
  have K0 : KC m0 (tkY d.1) := by
    refine ⟨⟨hc.1.1.fr f0 (fun k => by omega), e12, by rw [f0.1 _ _ (by omega)]; exact hc.1.2.2.1, hc.1.2.2.2.1.fr f0 (fun c k _ _ => by omega), by rw [f0.1 _ _ (by omega)]; exact hc.1.2.2.2.2.1, hc.1.2.2.2.2.2.1.fr f0 (fun c k _ _ => by omega), hc.1.2.2.2.2.2.2.fr f0 (fun c k _ _ => by omega)⟩, hc.2.1.fr f0 (fun k => by omega) (by omega) (by omega), hc.2.2.1.fr f0 (fun c k _ _ => by omega), hc.2.2.2.1.fr f0 (fun k => by omega), hc.2.2.2.2.fr f0 (by omega) (fun k => by omega)⟩
  have X0 := hX.fr f0 (fun c k _ => by omega)
  refine wp_bind (sch_C (y := (tkY d.1, x.2.2.2.2.1)) K0 (tkY_I hI.1 ht) X0.2.2.2.2.1 hXI.2.2.2.2.1) (fun m1 ⟨a1, a2, a3⟩ => ?_)
  rw [ea] at a1 a2
  clear ea
  refine wp_bind (strsT_C (y := (a.1.1, x.2.1)) (z := a.1.2.1) (en := a.2.2.2.length) a1.1 i1.1.1 (X0.2.1.fr a3 (fun k => by omega)) hXI.2.1 a1.2.1 a2.2.2.1 a1.2.2.2.2) (fun m2 ⟨b1, b2, b3, b4⟩ => ?_)
  rw [eb] at b1 b2
  clear eb
  have K2 : KC m2 (b.1, a.1.2) := ⟨b1, a1.2.1.fr b4 (fun k => by omega) (by omega) (by omega), a1.2.2.1.fr b4 (fun c k _ _ => by omega), a1.2.2.2.1.fr b4 (fun k => by omega), b3⟩
  have f12 : Fr (fun c k => FYc c k ∨ FSs c k) m0 m2 := a3.tr b4 (fun _ _ q => Or.inl q) (fun _ _ q => Or.inr q)
  have s2 := a2.fr b4 (by omega) (by omega) (fun c k _ _ => by omega)
  refine wp_bind (wtsT_C (y := ((b.1, a.1.2), x.2.2.1)) (a := x.2.2.2.1) (en := a.2.2.2.length) K2 i23 (X0.2.2.1.fr f12 (fun k => by omega)) hXI.2.2.1 (X0.2.2.2.1.fr f12 (by omega) (fun c k _ _ => by omega)) hXI.2.2.2.1 s2.2.2.1) (fun m3 ⟨c1, c2, c3⟩ => ?_)
  rw [ec] at c1 c2
  clear ec
  have f13 : Fr (fun c k => FYc c k ∨ FSs c k ∨ FWt c k) m0 m3 := f12.tr c3 (by intro c k h; omega) (by intro c k h; omega)
  have f03 : Fr FKc μ m3 := f0.tr f13 (by intro c k h; omega) (by intro c k h; omega)
  have f03b : Fr (fun c k => c = 57 ∧ k = 12 ∨ FYc c k ∨ FSs c k ∨ FWt c k) μ m3 := f0.tr f13 (by intro c k h; omega) (by intro c k h; omega)
  have D3 : DC m3 (c.1, d.2) := ⟨c1, h.2.1.fr f03b (fun k _ _ => by omega), by rw [f03b.1 _ _ (by omega)]; exact h.2.2⟩
  have X3 : XC m3 (tkX x a b c) := ⟨X0.1.fr f13 (by omega) (fun k => by omega), b2.fr c3 (fun k => by omega), c2, X0.2.2.2.1.fr f13 (by omega) (fun c k _ _ => by omega), s2.fr c3 (by omega) (by omega) (fun c k _ _ => by omega), X0.2.2.2.2.2.fr f13 (fun c k _ _ => by omega)⟩
  obtain ⟨q, eq⟩ : ∃ q, runD (c.1, d.2) (tkX x a b c) = q := ⟨_, rfl⟩
  have RC := runs_C D3 ⟨i3.1, hI.2⟩ X3 ix
  rw [eq] at hK RC
  clear eq
  refine wp_bind RC (fun m4 ⟨d1, d2, d3, d4, d5⟩ => ?_)
  refine hK m4 d1 d2 d3 d4 ?_ (f03.tr d5 (fun _ _ q => q) (by intro c k h; omega))
  have e4 : m4.1 57 12 = nI (d.1.1.1 + 1) := by rw [d5.1 _ _ (by omega), f13.1 _ _ (by omega), e12]
  have := d1.1.1.2.1
  rw [e4] at this
  have dl : q.1.1.1.1 < 2 ^ 30 := d3.1.1.1
  exact ((nI_eq (by omega) (by omega)).mp this).symm
abbrev FKm : Nat → Nat → Prop := fun c k => c = 129 ∧ (k = 21 ∨ k = 27 ∨ k = 77 ∨ 80 ≤ k ∧ k ≤ 90 ∨ k = 104 ∨ k = 106 ∨ k = 107 ∨ k = 128 ∨ k = 130) ∨ c = 140 ∨ 162 ≤ c ∧ c ≤ 207
theorem tkL_M {μ m3 : Mem} {d : Dw} {w : Kw} {y : Xw} {n : Nat} {kl15 : Int32 → Int32 → Mem → Option (Mem × Int32)} {v1 v2 : Int32} {Q : Mem × Int32 → Prop} (c1 : KM m3 w) (X3 : XM m3 y) (i3 : KI w) (ix : XI y) (U3 : UmM m3 d.2.1) (e25 : m3.1 129 25 = d.2.2) (f03 : Fr FKm μ m3) (hm : n ≤ w.2.2.length ∧ n ≤ 4) (l8 : w.2.2.length ≤ 8) (hK : ∀ m, DM m ((runN (w, y) n).1, (if n = 0 then d.2.1 else upL d.2.1 2 (nI 0)), d.2.2) → XM m (runN (w, y) n).2 → Fr FKm μ m → wp ((f345 m).bind fun r2 => if (r2.1 129 34) ≤ 0 then c341_110 kl15 v1 v2 r2 else (pfI 129 34 ((r2.1 129 34) - (1 : Int32)) r2).bind fun m5 => if (m5.1 129 34) = 0 then (f283 m5).bind fun r8 => c341_110 kl15 v1 v2 r8 else c341_110 kl15 v1 v2 m5) Q) :
    wp (c341_58 kl15 v1 v2 (nI n) m3) Q := by
  unfold c341_58 l341_62
  rw [i_0]
  refine wp_for (fun i m => (v1, v2, nI n, nI i, m)) (fun i m => KM m (runN (w, y) i).1 ∧ XM m (runN (w, y) i).2 ∧ KI (runN (w, y) i).1 ∧ XI (runN (w, y) i).2 ∧ w.2.2.length ≤ (runN (w, y) i).1.2.2.length + i ∧ UmM m (if i = 0 then d.2.1 else upL d.2.1 2 (nI 0)) ∧ m.1 129 25 = d.2.2 ∧ Fr FKm μ m) n (by omega) m3 _ rfl ⟨c1, X3, i3, ix, Nat.le_refl _, by rw [if_pos rfl]; exact U3, e25, f03⟩ (fun self i m hi ⟨x1, x2, x3, x4, x5, x6, x7, x8⟩ hk => ?_) (fun self m ⟨x1, x2, x3, x4, x5, x6, x7, x8⟩ => ?_)
  · obtain ⟨b, eb⟩ : ∃ b, runN (w, y) i = b := ⟨_, rfl⟩
    have es : runN (w, y) (i + 1) = runR b := by rw [← eb]; rfl
    rw [eb] at x1 x2 x3 x4 x5
    rw [es] at hk
    clear es eb
    have hR := runR_len (b := b)
    unfold b341_62
    dsimp only [nm]
    rw [if_neg (fun z => by have := (nI_leI (by omega) (by omega)).mp z; omega)]
    refine wp_bind (run1_M x1 x3 x2 x4 (by omega)) (fun m' ⟨y1, y2, y3, y4, y5, y6⟩ => ?_)
    rw [i_1, nI_add]
    refine hk m' ⟨y1, y2, y3, y4, by omega, ?_, by rw [y6.1 _ _ (by omega)]; exact x7, x8.tr y6 (fun _ _ q => q) (by intro c k h; omega)⟩
    rw [if_neg (by omega)]
    by_cases e : i = 0
    · rw [if_pos e] at x6
      exact x6.w y6 (fun k _ _ _ => by omega) y5
    · rw [if_neg e] at x6
      have := x6.w y6 (fun k _ _ _ => by omega) y5
      intro j hj
      have z := this j hj
      by_cases e2 : j = 2
      · rw [e2, upL_s] at z ⊢; exact z
      · rw [upL_o e2] at z; exact z
  · unfold b341_62
    dsimp only
    rw [if_pos ((nI_leI (by omega) (by omega)).mpr (Nat.le_refl _))]
    exact hK m ⟨x1, x6, x7⟩ x2 x8
set_option maxHeartbeats 4000000 in
theorem tkS_M {μ : Mem} {d : Dw} {x : Xw} {a : Yw} {b : Mw × (Nat → Nat → Int32)} {c : Ww} {kl15 : Int32 → Int32 → Mem → Option (Mem × Int32)} {v1 v2 : Int32} {Q : Mem × Int32 → Prop} (h : DM μ d) (hI : DI d) (hX : XM μ x) (hXI : XI x) (ht : d.1.1.1 + 1 < 2 ^ 30) (hlt : ¬ v1 ≤ v2) (ea : tk1 d x = a) (eb : tk2 a x = b) (ec : tk3 a b x = c) (i1 : KI a.1 ∧ EnI a.2.2.2) (i23 : KI (b.1, a.1.2)) (hK : ∀ m, KM m c.1 → XM m (tkX x a b c) → UmM m d.2.1 → m.1 129 25 = d.2.2 → Fr FKm μ m → wp (if (4 : Int32) ≤ (m.1 129 104) then c341_58 kl15 v1 v2 (4 : Int32) m else c341_58 kl15 v1 v2 (m.1 129 104) m) Q) :
    wp (b341_15 kl15 v1 v2 μ) Q := by
  have hc := h.1
  unfold tk1 at ea
  unfold tk2 at eb
  unfold tk3 at ec
  unfold b341_15 pfI
  rw [if_neg hlt, Option.bind_some, hc.1.1, i_1, nI_add]
  have f0 : Fr (fun c k => c = 129 ∧ k = 77) μ (setI μ 129 77 (nI (d.1.1.1 + 1))) := Fr.sI ⟨rfl, rfl⟩
  have e12 : (setI μ 129 77 (nI (d.1.1.1 + 1))).1 129 77 = nI (d.1.1.1 + 1) := by rw [rdI, if_pos ⟨rfl, rfl⟩]
  generalize setI μ 129 77 (nI (d.1.1.1 + 1)) = m0 at f0 e12 ⊢
  have K0 : KM m0 (tkY d.1) := by
    have hmi := hI.1.1
    refine ⟨⟨e12, by rw [f0.1 _ _ (by omega)]; exact hc.1.2.1, ⟨by rw [f0.1 _ _ (by omega)]; exact hc.1.2.2.1.1, hc.1.2.2.1.2.fr f0 (fun k => by omega) (fun k => by omega)⟩, by rw [f0.1 _ _ (by omega)]; exact hc.1.2.2.2.1, hc.1.2.2.2.2.1.fr hmi.2.2.1.2.2.l90 f0 (fun c k z => by omega), hc.1.2.2.2.2.2.fr hmi.2.2.2.2.2.l90 f0 (fun c k z => by omega)⟩, hc.2.1.fr f0 (fun k => by omega), hc.2.2.1.fr f0 (by omega) (fun c k _ _ => by omega), hc.2.2.2.fr f0 (by omega) (fun k => by omega)⟩
  have X0 := hX.fr hXI f0 (fun c k _ => by omega)
  refine wp_bind (sch_M (y := (tkY d.1, x.2.2.2.2.1)) K0 (tkY_I hI.1 ht) X0.2.2.2.2.1 hXI.2.2.2.2.1) (fun m1 ⟨a1, a2, a3⟩ => ?_)
  rw [ea] at a1 a2
  clear ea
  refine wp_bind (strsT_M (y := (a.1.1, x.2.1)) (z := a.1.2.1) (en := a.2.2.2.length) a1.1 i1.1.1 (X0.2.1.fr a3 (fun c k _ _ => by omega)) hXI.2.1 a1.2.1 a2.2.2.1 a1.2.2.2) (fun m2 ⟨b1, b2, b3, b4⟩ => ?_)
  rw [eb] at b1 b2
  clear eb
  have K2 : KM m2 (b.1, a.1.2) := ⟨b1, a1.2.1.fr b4 (fun k => by omega), a1.2.2.1.fr b4 (by omega) (fun c k _ _ => by omega), b3⟩
  have f12 : Fr (fun c k => FYm c k ∨ FSm c k) m0 m2 := a3.tr b4 (fun _ _ q => Or.inl q) (fun _ _ q => Or.inr q)
  have s2 := a2.fr i1.2 b4 (by omega) (by omega) (fun c k _ => by omega)
  refine wp_bind (wtsT_M (y := ((b.1, a.1.2), x.2.2.1)) (a := x.2.2.2.1) (en := a.2.2.2.length) K2 i23 (X0.2.2.1.fr f12 (fun c k _ _ => by omega)) hXI.2.2.1 (X0.2.2.2.1.fr f12 (fun c k _ _ => by omega)) hXI.2.2.2.1 s2.2.2.1) (fun m3 ⟨c1, c2, c3⟩ => ?_)
  rw [ec] at c1 c2
  clear ec
  have f13 : Fr (fun c k => FYm c k ∨ FSm c k ∨ FWm c k) m0 m3 := f12.tr c3 (by intro c k h; omega) (by intro c k h; omega)
  have f03 : Fr FKm μ m3 := f0.tr f13 (by intro c k h; omega) (by intro c k h; omega)
  have f03b : Fr (fun c k => c = 129 ∧ k = 77 ∨ FYm c k ∨ FSm c k ∨ FWm c k) μ m3 := f0.tr f13 (by intro c k h; omega) (by intro c k h; omega)
  have X3 : XM m3 (tkX x a b c) := ⟨X0.1.fr f13 (fun k => by omega), b2.fr c3 (fun c k _ _ => by omega), c2, X0.2.2.2.1.fr f13 (fun c k _ _ => by omega), s2.fr i1.2 c3 (by omega) (by omega) (fun c k _ => by omega), X0.2.2.2.2.2.fr f13 (by omega) (fun c k _ _ => by omega)⟩
  have U3 : UmM m3 d.2.1 := h.2.1.fr f03b (fun k _ _ => by omega)
  have e25 : m3.1 129 25 = d.2.2 := by rw [f03b.1 _ _ (by omega)]; exact h.2.2
  exact hK m3 c1 X3 U3 e25 f03
set_option maxHeartbeats 4000000 in
theorem tkR_M {μ : Mem} {d : Dw} {x : Xw} {kl15 : Int32 → Int32 → Mem → Option (Mem × Int32)} {v1 v2 : Int32} {Q : Mem × Int32 → Prop} (h : DM μ d) (hI : DI d) (hX : XM μ x) (hXI : XI x) (ht : d.1.1.1 + 1 < 2 ^ 30) (hlt : ¬ v1 ≤ v2) (hK : ∀ m, DM m (tkR d x).1 → XM m (tkR d x).2 → Fr FKm μ m → wp ((f345 m).bind fun r2 => if (r2.1 129 34) ≤ 0 then c341_110 kl15 v1 v2 r2 else (pfI 129 34 ((r2.1 129 34) - (1 : Int32)) r2).bind fun m5 => if (m5.1 129 34) = 0 then (f283 m5).bind fun r8 => c341_110 kl15 v1 v2 r8 else c341_110 kl15 v1 v2 m5) Q) :
    wp (b341_15 kl15 v1 v2 μ) Q := by
  unfold tkR at hK
  obtain ⟨a, ea⟩ : ∃ a, tk1 d x = a := ⟨_, rfl⟩
  rw [ea] at hK
  obtain ⟨b, eb⟩ : ∃ b, tk2 a x = b := ⟨_, rfl⟩
  rw [eb] at hK
  obtain ⟨c, ec⟩ : ∃ c, tk3 a b x = c := ⟨_, rfl⟩
  rw [ec] at hK
  have i1 := tk1_I ea hI.1 ht hXI
  have i2 := tk2_I eb i1.1 hXI
  have i23 : KI (b.1, a.1.2) := ⟨i2.1, i1.1.2⟩
  have i3 := tk3_I ec i23 hXI
  have ix : XI (tkX x a b c) := ⟨hXI.1, i2.2, i3.2, hXI.2.2.2.1, i1.2, hXI.2.2.2.2.2⟩
  refine tkS_M h hI hX hXI ht hlt ea eb ec i1 i23 (fun m3 c1 X3 U3 e25 f03 => ?_)
  clear ea eb ec i1 i2 i23
  have l8 := i3.1.2.1
  have e104 := c1.2.2.1.1
  generalize tkX x a b c = y at hK ix X3
  have i4 := i3.1
  clear i3
  generalize c.1 = w at hK c1 l8 e104 i4
  have hrd : runD (w, d.2) y = (((runN (w, y) (min w.2.2.length 4)).1, if min w.2.2.length 4 = 0 then d.2.1 else upL d.2.1 2 (nI 0), d.2.2), (runN (w, y) (min w.2.2.length 4)).2) := rfl
  rw [hrd] at hK
  have loop : wp (c341_58 kl15 v1 v2 (nI (min w.2.2.length 4)) m3) Q := tkL_M c1 X3 i4 ix U3 e25 f03 (by omega) l8 hK
  rw [e104, i_4]
  by_cases q : 4 ≤ w.2.2.length
  · rw [if_pos ((nI_leI (by omega) (by omega)).mpr q)]
    rw [show min w.2.2.length 4 = 4 by omega] at loop
    exact loop
  · rw [if_neg (fun z => q ((nI_leI (by omega) (by omega)).mp z))]
    rw [show min w.2.2.length 4 = w.2.2.length by omega] at loop
    exact loop
