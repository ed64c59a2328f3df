/-! requests are run: the loop of the class, one of the reference -/
theorem ite_ind {α : Type} {c : Prop} [Decidable c] {F : α → Prop} {a b : α} (ha : F a) (hb : F b) : F (if c then a else b) := by
  split
  · exact ha
  · exact hb
theorem actB_q (b : Bw) (bs : List Nat) : (finB (actB b bs)).1.2.2 = b.1.2.2 := by
  show (fun A => (finB A).1.2.2 = b.1.2.2) (actB b bs)
  unfold actB
  repeat' (refine ite_ind (F := fun A : Bw × Option (Nat × Nat × List Nat) => (finB A).1.2.2 = b.1.2.2) ?_ ?_)
  all_goals rfl
theorem doB_len (b : Bw) (bs : List Nat) (dep : Nat) : b.1.2.2.length ≤ (doB b bs dep).1.2.2.length := by
  unfold doB
  split
  · unfold hapW
    split
    · exact look_len (k := hapK b.1 _ _ _)
    · exact Nat.le_refl _
  · rw [actB_q]
    exact Nat.le_refl _
theorem ak3_q (k : Kw) (bs : List Nat) : (ak3 k bs).2.2 = k.2.2 := by
  unfold ak3
  split <;> rfl
theorem ak7_q (k : Kw) (bs : List Nat) : (ak7 k bs).2.2 = k.2.2 := by
  unfold ak7
  split <;> rfl
theorem runB_len {k : Kw} {x : Xw} {bs : List Nat} {dep : Nat} : k.2.2.length ≤ (runB k x bs dep).1.2.2.length := by
  unfold runB
  split
  · split
    · show _ ≤ (ak3 k bs).2.2.length
      rw [ak3_q]
      exact Nat.le_refl _
    · show _ ≤ (ak7 (doB (ak3 k bs, x) bs dep).1 bs).2.2.length
      rw [ak7_q]
      have := doB_len (ak3 k bs, x) bs dep
      dsimp only at this
      rw [ak3_q] at this
      exact this
  · exact Nat.le_refl _
theorem runR_len {b : Bw} : b.1.2.2.length ≤ (runR b).1.2.2.length + 1 := by
  have := runB_len (k := rq1 b.1) (x := b.2) (bs := (pk b.1.2.2 0).1) (dep := nt (pk b.1.2.2 0).2.1)
  have h2 : (rq1 b.1).2.2.length = b.1.2.2.length - 1 ∨ b.1.2.2.length = 0 := by
    by_cases e : b.1.2.2.length = 0
    · exact Or.inr e
    · exact Or.inl (List.length_eraseIdx_of_lt (by omega))
  show _ ≤ (runB (rq1 b.1) b.2 (pk b.1.2.2 0).1 (nt (pk b.1.2.2 0).2.1)).1.2.2.length + 1
  omega
def runD (d : Dw) (x : Xw) : Dw × Xw := (((runN (d.1, x) (min d.1.2.2.length 4)).1, if min d.1.2.2.length 4 = 0 then d.2.1 else upL d.2.1 2 (nI 0), d.2.2), (runN (d.1, x) (min d.1.2.2.length 4)).2)
theorem UmC.w {μ m : Mem} {y : Nat → Int32} {P : Nat → Nat → Prop} (h : UmC μ y) (ho : Fr P μ m) (h1 : ∀ k, 11 ≤ k → k ≤ 16 → k ≠ 13 → ¬ P 9 k) (h2 : m.1 9 13 = nI 0) : UmC m (upL y 2 (nI 0)) := by
  intro i hi
  by_cases e : i = 2
  · subst e
    rw [upL_s]
    exact h2
  · rw [upL_o e, ho.1 _ _ (h1 _ (by omega) (by omega) (by omega))]
    exact h i hi
theorem UmM.w {μ m : Mem} {y : Nat → Int32} {P : Nat → Nat → Prop} (h : UmM μ y) (ho : Fr P μ m) (h1 : ∀ k, 19 ≤ k → k ≤ 24 → k ≠ 21 → ¬ P 129 k) (h2 : m.1 129 21 = nI 0) : UmM m (upL y 2 (nI 0)) := by
  intro i hi
  by_cases e : i = 2
  · subst e
    rw [upL_s]
    exact h2
  · rw [upL_o e, ho.1 _ _ (h1 _ (by omega) (by omega) (by omega))]
    exact h i hi
theorem runs_C {μ : Mem} {d : Dw} {x : Xw} (h : DC μ d) (hI : DI d) (hX : XC μ x) (hXI : XI x) : wp (f16 μ) (fun m => DC m (runD d x).1 ∧ XC m (runD d x).2 ∧ DI (runD d x).1 ∧ XI (runD d x).2 ∧ Fr FRc μ m) := by
  have hl8 := hI.1.2.1
  have h5 := h.1.2.2.1.1
  unfold f16
  rw [h5, i_4, jmin_N (by omega) (by omega)]
  dsimp only [nm]
  unfold runD
  have hm : min d.1.2.2.length 4 ≤ d.1.2.2.length ∧ min d.1.2.2.length 4 ≤ 4 := by omega
  generalize min d.1.2.2.length 4 = n at *
  unfold l16_14
  refine wp_for (fun i m => (nI n, nI i, m)) (fun i m => KC m (runN (d.1, x) i).1 ∧ XC m (runN (d.1, x) i).2 ∧ KI (runN (d.1, x) i).1 ∧ XI (runN (d.1, x) i).2 ∧ d.1.2.2.length ≤ (runN (d.1, x) i).1.2.2.length + i ∧ (0 < i → m.1 9 13 = nI 0) ∧ (i = 0 → m = μ) ∧ Fr FRc μ m) n (by omega) μ _ rfl ⟨h.1, hX, hI.1, hXI, by show _ ≤ d.1.2.2.length + 0; omega, fun z => absurd z (Nat.lt_irrefl _), fun _ => rfl, Fr.rf⟩ (fun self i m hi hx hk => ?_) (fun self m hx => ?_)
  · obtain ⟨x1, x2, x3, x4, x5, x6, x7, x8⟩ := hx
    have hR := runR_len (b := runN (d.1, x) i)
    refine run1_C x1 x3 x2 x4 (by omega) hi (by omega) (fun m' a1 a2 a3 a4 a5 a6 => ?_)
    exact hk m' ⟨a1, a2, a3, a4, by show _ ≤ (runR (runN (d.1, x) i)).1.2.2.length + (i + 1); omega, fun _ => a5, fun z => absurd z (by omega), x8.tr' a6⟩
  · obtain ⟨x1, x2, x3, x4, x5, x6, x7, x8⟩ := hx
    unfold b16_14
    rw [if_pos ((nI_leI (by omega) (by omega)).mpr (Nat.le_refl _))]
    have c10 : m.1 9 10 = d.2.2 := by rw [x8.1 _ _ (by omega)]; exact h.2.2
    obtain ⟨y0, y1, y2, y3, y4, y5⟩ := hI.2
    by_cases e : n = 0
    · have hmm := x7 e
      subst hmm
      rw [if_pos e]
      exact wp_some ⟨⟨x1, h.2.1, c10⟩, x2, ⟨x3, hI.2⟩, x4, x8⟩
    · rw [if_neg e]
      exact wp_some ⟨⟨x1, h.2.1.w x8 (fun k _ _ _ => by omega) (x6 (by omega)), c10⟩, x2, ⟨x3, y0, y1, Or.inl rfl, y3, y4, y5⟩, x4, x8⟩
/-! the reference -/
theorem failM_M {μ : Mem} {k : Kw} {bs : List Nat} {dep sb c : Nat} (h : KM μ k) (hI : KI k) (hb : CurM μ bs dep) (hs : sb < 256) (hc : c < 256) : wp ((ldA 162 (nI 19) μ).bind fun x21 => (stA 162 (nI 19) (x21 + nI 1) μ).bind fun m23 => (f318 (nI sb) (nI (bs.getD 2 0)) (nI (bs.getD 3 0)) (nI c) m23).bind fun r25 => some r25) (fun m => KM m (flK k bs sb c) ∧ Fr (fun c k => FMo c k ∨ c = 162) μ m) := by
  have g := gl_162
  have p19 := h.2.1 19 (by decide)
  rw [ldA_N (by omega), Option.bind_some, p19, stA_N (by omega), Option.bind_some]
  have f1 : Fr (fun c _ => c = 162) μ (setI μ 162 19 (k.2.1 19 + nI 1)) := Fr.sI rfl
  have k1 := h.par (i := 19) (x := k.2.1 19 + nI 1) hI.1
  generalize setI μ 162 19 (k.2.1 19 + nI 1) = m1 at *
  refine wp_bind (rep1_M (bs := bs) k1.1 hI.1 k1.2.2.2 hs hc rfl rfl (getD_lt hb.2.2.2 2) (getD_lt hb.2.2.2 3)) (fun m2 ⟨a1, a2, a3⟩ => wp_some ⟨k1.mk a1 a2 a3, f1.tr a3 (by intro c k h; omega) (by intro c k h; omega)⟩)
theorem succM_M {μ : Mem} {k : Kw} {bs : List Nat} {dep : Nat} (h : KM μ k) (hI : KI k) (hb : CurM μ bs dep) : wp (if (nI (bs.getD 6 0 % 16) &&& nI 1) = nI 0 then c319_286 μ else (f318 (nI 7) (nI (bs.getD 2 0)) (nI (bs.getD 3 0)) (nI 0) μ).bind fun r8 => c319_286 r8) (fun m => KM m (suK (ak7 k bs)) ∧ Fr (fun c k => FMo c k ∨ c = 162) μ m) := by
  have g := gl_162
  have fin : ∀ m k', KM m k' → KI k' → Fr (fun c k => FMo c k ∨ c = 162) μ m → wp (c319_286 m) (fun m => KM m (suK k') ∧ Fr (fun c k => FMo c k ∨ c = 162) μ m) := by
    intro m k' h1 h0 h2
    have p20 := h1.2.1 20 (by decide)
    unfold c319_286
    rw [i_20, ldA_N (by omega), Option.bind_some, p20, stA_N (by omega), Option.bind_some, i_1]
    exact wp_some ⟨h1.par (i := 20) h0.1, h2.pI (by omega)⟩
  unfold ak7
  rw [an_1, show bs.getD 6 0 % 16 % 2 = bs.getD 6 0 % 2 by omega]
  by_cases q : bs.getD 6 0 % 2 = 0
  · rw [if_pos q, q, if_pos rfl]
    exact fin μ k h hI Fr.rf
  · rw [if_neg q, if_neg (fun z => q ((nI_eq (a := bs.getD 6 0 % 2) (b := 0) (by omega) (by omega)).mp z))]
    refine wp_bind (rep1_M (sb := 7) (c := 0) (bs := bs) h.1 hI.1 h.2.2.2 (by decide) (by decide) rfl rfl (getD_lt hb.2.2.2 2) (getD_lt hb.2.2.2 3)) (fun m1 ⟨a1, a2, a3⟩ => ?_)
    exact fin m1 _ (h.mk a1 a2 a3) ⟨makeW_I hI.1 (repL_67 _ _), hI.2.1, hI.2.2⟩ (a3.mono (by intro c k h; omega))
abbrev FRp : Nat → Nat → Prop := fun c k => FRn c k ∨ c = 129 ∧ k = 21
theorem and16_4 : ∀ v, v < 256 → (nI (v % 16) &&& nI 4 = nI 0 ↔ v / 4 % 2 = 0) := by
  have h : (List.range 256).all (fun v => decide (nI (v % 16) &&& nI 4 = nI 0 ↔ v / 4 % 2 = 0)) = true := by decide +kernel
  intro v hv
  exact of_decide_eq_true (List.all_eq_true.mp h v (List.mem_range.mpr hv))
theorem run2_M {μ : Mem} {k : Kw} {x : Xw} {bs : List Nat} {dep : Nat} (hK : KM μ k) (hKI : KI k) (hX : XM μ x) (hXI : XI x) (h : CurM μ bs dep) (hP : Pkg bs) (hd : dep ≤ 4) (hw : whyB (k, x) bs = 0) : wp (c319_208 (nI (bs.getD 2 0)) (nI (bs.getD 3 0)) (nI (bs.getD 6 0 % 16)) μ) (fun m => KM m (if bs.getD 7 0 = 8 ∧ bs.getD 11 0 = 2 then (flK k bs 8 16, x) else (suK (ak7 (doB (k, x) bs dep).1 bs), (doB (k, x) bs dep).2)).1 ∧ XM m (if bs.getD 7 0 = 8 ∧ bs.getD 11 0 = 2 then (flK k bs 8 16, x) else (suK (ak7 (doB (k, x) bs dep).1 bs), (doB (k, x) bs dep).2)).2 ∧ Fr FRn μ m) := by
  have hl := hP.2.1
  have h13 := hP.1
  have e7 := h.ld hl (i := 7) (by omega)
  have e8 := h.ld hl (i := 8) (by omega)
  have b7 := getD_lt h.2.2.2 7
  have b11 := getD_lt h.2.2.2 11
  have key : ¬ (bs.getD 7 0 = 8 ∧ bs.getD 11 0 = 2) → wp (c319_253 (nI (bs.getD 2 0)) (nI (bs.getD 3 0)) (nI (bs.getD 6 0 % 16)) μ) (fun m => KM m (if bs.getD 7 0 = 8 ∧ bs.getD 11 0 = 2 then (flK k bs 8 16, x) else (suK (ak7 (doB (k, x) bs dep).1 bs), (doB (k, x) bs dep).2)).1 ∧ XM m (if bs.getD 7 0 = 8 ∧ bs.getD 11 0 = 2 then (flK k bs 8 16, x) else (suK (ak7 (doB (k, x) bs dep).1 bs), (doB (k, x) bs dep).2)).2 ∧ Fr FRn μ m) := by
    intro q
    rw [if_neg q]
    unfold c319_253
    rw [i_7, e7, Option.bind_some, i_8, e8, Option.bind_some, i_1, i_0]
    have hI2 := doB_I (b := (k, x)) (dep := dep) hKI hXI h.2.2.2 hP hw
    refine wp_bind (doB_M (b := (k, x)) hK hKI hX hXI h hP hd hw) (fun m1 ⟨a1, a2, a3⟩ => ?_)
    have h1 := h.fr a3 (by omega) (by omega) (fun k => by omega)
    refine wp_mono (succM_M a1 hI2.1 h1) (fun m2 ⟨c1, c2⟩ => ⟨c1, a2.fr hI2.2 c2 (fun c k _ => by omega), a3.tr c2 (fun _ _ q => q) (by intro c k h; omega)⟩)
  unfold c319_208
  rw [i_7, e7, Option.bind_some]
  by_cases q8 : bs.getD 7 0 = 8
  · have hs := hP.s8 q8
    have e11 := h.ld hl (i := 11) (by omega)
    rw [q8, if_pos (show nI 8 = (8 : Int32) from rfl), i_11, e11, Option.bind_some, i_2]
    by_cases q2 : bs.getD 11 0 = 2
    · rw [if_pos (show 8 = 8 ∧ bs.getD 11 0 = 2 from ⟨rfl, q2⟩), q2, if_pos rfl, i_19, i_1, i_8, i_16]
      refine wp_mono (failM_M hK hKI h (by decide) (by decide)) (fun m ⟨a1, a2⟩ => ⟨a1, hX.fr hXI a2 (fun c k _ => by omega), a2.mono (by intro c k h; omega)⟩)
    · rw [if_neg (fun z => q2 ((nI_eq (a := bs.getD 11 0) (b := 2) (by omega) (by omega)).mp z))]
      have := key (fun z => q2 z.2)
      rw [q8] at this
      exact this
  · rw [i_8, if_neg (fun z => q8 ((nI_eq (by omega) (by omega)).mp z))]
    exact key (fun z => q8 z.1)
theorem runE_M {μ : Mem} {k : Kw} {x : Xw} {bs : List Nat} {dep i : Nat} {kl : Int32 → Mem → Option Mem} (hK : KM μ k) (hKI : KI k) (hX : XM μ x) (hXI : XI x) (h : CurM μ bs dep) (hP : Pkg bs) (hd : dep ≤ 4) (hi : i = k.2.2.length) : wp (b319_49 kl (nI i) μ) (fun m => KM m (runB k x bs dep).1 ∧ XM m (runB k x bs dep).2 ∧ m.1 129 21 = nI 0 ∧ Fr FRp μ m) := by
  have hl := hP.2.1
  have h13 := hP.1
  have hl8 := hKI.2.1
  have e104 := hK.2.2.1.1
  have b6 := getD_lt h.2.2.2 6
  have hlt := whyB_lt (b := (k, x)) (bs := bs)
  subst hi
  unfold b319_49
  rw [e104, if_pos ((nI_leI (by omega) (by omega)).mpr (Nat.le_refl _))]
  refine wp_bind (wp_some rfl) (fun m1 hm1 => ?_)
  have f1 : Fr (fun c k => c = 129 ∧ k = 21) μ m1 := by rw [← hm1]; exact Fr.sI ⟨rfl, rfl⟩
  have c21 : m1.1 129 21 = nI 0 := by rw [← hm1, rdI, if_pos ⟨rfl, rfl⟩]; rfl
  clear hm1
  have k1 := hK.fr hKI.1 f1 (fun c k _ => by omega)
  have x1 := hX.fr hXI f1 (fun c k _ => by omega)
  have h1 := h.fr f1 (by omega) (by omega) (fun k => by omega)
  have ew := whyB_M (b := (k, x)) k1 hKI x1 hXI h1 hP
  rw [i_2, h1.ld hl (i := 2) (by omega), Option.bind_some, i_3, h1.ld hl (i := 3) (by omega), Option.bind_some, i_6, h1.ld hl (i := 6) (by omega), Option.bind_some]
  dsimp only [nm]
  rw [i_7, h1.ld hl (i := 7) (by omega), Option.bind_some, i_8, h1.ld hl (i := 8) (by omega), Option.bind_some, ew, Option.bind_some]
  dsimp only
  rw [i_15, an_15, i_0]
  unfold runB
  by_cases q : whyB (k, x) bs = 0
  · rw [if_pos q, q, if_pos ((nI_leI (by omega) (by omega)).mpr (Nat.le_refl _)), i_4]
    have cont : ∀ m, KM m (ak3 k bs) → XM m x → CurM m bs dep → m.1 129 21 = nI 0 → Fr FRp μ m → wp (c319_208 (nI (bs.getD 2 0)) (nI (bs.getD 3 0)) (nI (bs.getD 6 0 % 16)) m) (fun m => KM m (if bs.getD 7 0 = 8 ∧ bs.getD 11 0 = 2 then (flK (ak3 k bs) bs 8 16, x) else (suK (ak7 (doB (ak3 k bs, x) bs dep).1 bs), (doB (ak3 k bs, x) bs dep).2)).1 ∧ XM m (if bs.getD 7 0 = 8 ∧ bs.getD 11 0 = 2 then (flK (ak3 k bs) bs 8 16, x) else (suK (ak7 (doB (ak3 k bs, x) bs dep).1 bs), (doB (ak3 k bs, x) bs dep).2)).2 ∧ m.1 129 21 = nI 0 ∧ Fr FRp μ m) := by
      intro m o1 o2 o3 o4 o5
      refine wp_mono (run2_M o1 (ak3_I hKI) o2 hXI o3 hP hd (why_ak3.trans q)) (fun m' ⟨p1, p2, p3⟩ => ⟨p1, p2, by rw [p3.1 _ _ (by omega)]; exact o4, o5.tr p3 (fun _ _ q => q) (by intro c k h; omega)⟩)
    have f1' : Fr FRp μ m1 := f1.mono (by intro c k h; omega)
    unfold ak3 at cont ⊢
    by_cases q4 : bs.getD 6 0 / 4 % 2 = 0
    · rw [if_pos q4] at cont ⊢
      rw [if_pos ((and16_4 _ b6).mpr q4)]
      exact cont m1 k1 x1 h1 c21 f1'
    · rw [if_neg q4] at cont ⊢
      rw [if_neg (fun z => q4 ((and16_4 _ b6).mp z))]
      refine wp_bind (rep1_M (sb := 3) (c := 0) (bs := bs) k1.1 hKI.1 k1.2.2.2 (by decide) (by decide) rfl rfl (getD_lt h.2.2.2 2) (getD_lt h.2.2.2 3)) (fun m4 ⟨o1, o2, o3⟩ => ?_)
      exact cont m4 (k1.mk o1 o2 o3) (x1.fr hXI o3 (fun c k _ => by omega)) (h1.fr o3 (by omega) (by omega) (fun k => by omega)) (by rw [o3.1 _ _ (by omega)]; exact c21) (f1'.tr o3 (fun _ _ q => q) (by intro c k h; omega))
  · rw [if_neg q, if_neg (fun z => q (by have := (nI_leI (by omega) (by omega)).mp z; omega)), i_19, i_1, i_4]
    refine wp_mono (failM_M k1 hKI h1 (by decide) hlt) (fun m ⟨a1, a2⟩ => ⟨a1, x1.fr hXI a2 (fun c k _ => by omega), by rw [a2.1 _ _ (by omega)]; exact c21, (f1.mono (P := FRp) (by intro c k h; omega)).tr a2 (fun _ _ q => q) (by intro c k h; omega)⟩)
