/-! the board: what a request does, the reference -/
theorem does_x {μ : Mem} {bs : List Nat} {dep : Nat} {a b : Int32} (h : CurM μ bs dep) (hl : bs.length ≤ 60) : f325 a b μ = c325_20 a b (nI (xq bs)) μ := by
  have z := h.1
  unfold f325 xq
  by_cases q : 13 < bs.length
  · have e := h.ld hl (i := 11) (by omega)
    rw [z, i_13, if_neg (fun w => by have := (nI_leI (by omega) (by omega)).mp w; omega), i_11, e, Option.bind_some, if_pos q]
  · rw [z, i_13, if_pos ((nI_leI (by omega) (by omega)).mpr (by omega)), if_neg q, i_0]
theorem cd3_M {t s0 : Int32} {μ : Mem} : c325_20 (nI 3) t s0 μ = (f329 t s0 μ).bind fun r => some r := by
  unfold c325_20
  repeat refine ite_no (by decide) ?_
  exact ite_yes (by decide) rfl
theorem cd5_M {t s0 : Int32} {μ : Mem} : c325_20 (nI 5) t s0 μ = if t = (6 : Int32) then c325_160 s0 (1 : Int32) μ else c325_160 s0 (0 : Int32) μ := by
  unfold c325_20
  repeat refine ite_no (by decide) ?_
  exact ite_yes (by decide) rfl
theorem cd6_M {t s0 : Int32} {μ : Mem} : c325_20 (nI 6) t s0 μ = (f327 t μ).bind fun r => some r := by
  unfold c325_20
  repeat refine ite_no (by decide) ?_
  exact ite_yes (by decide) rfl
theorem cd8_M {t s0 : Int32} {μ : Mem} : c325_20 (nI 8) t s0 μ = if s0 = (1 : Int32) then (f314 182 (12 : Int32) μ).bind fun r23 => (stA 162 (0 : Int32) r23.2 r23.1).bind fun m25 => some m25 else if s0 = (3 : Int32) then (f314 182 (12 : Int32) μ).bind fun r17 => (f314 182 (12 : Int32) r17.1).bind fun r19 => (f330 (r17.2 &&& (31 : Int32)) r19.2 (r19.1.1 129 107) r19.1).bind fun r21 => some r21 else some μ := by
  unfold c325_20
  repeat refine ite_no (by decide) ?_
  exact ite_yes (by decide) rfl
theorem cd11_M {t s0 : Int32} {μ : Mem} : c325_20 (nI 11) t s0 μ = (f336 t s0 μ).bind fun r => some r := by
  unfold c325_20
  repeat refine ite_no (by decide) ?_
  exact ite_yes (by decide) rfl
theorem cd12_M {t s0 : Int32} {μ : Mem} : c325_20 (nI 12) t s0 μ = (f331 t s0 μ).bind fun r => some r := by
  unfold c325_20
  repeat refine ite_no (by decide) ?_
  exact ite_yes (by decide) rfl
theorem cd15_M {t s0 : Int32} {μ : Mem} : c325_20 (nI 15) t s0 μ = (f337 t s0 μ).bind fun r => some r := by
  unfold c325_20
  repeat refine ite_no (by decide) ?_
  exact ite_yes (by decide) rfl
theorem cd17_M {t s0 : Int32} {μ : Mem} : c325_20 (nI 17) t s0 μ = (f305 (17 : Int32) (2 : Int32) μ).bind fun r => some r := by
  unfold c325_20
  repeat refine ite_no (by decide) ?_
  exact ite_yes (by decide) rfl
theorem cd19_M {t s0 : Int32} {μ : Mem} : c325_20 (nI 19) t s0 μ = (f332 t s0 μ).bind fun r => some r := by
  unfold c325_20
  repeat refine ite_no (by decide) ?_
  exact ite_yes (by decide) rfl
theorem cd20_M {t s0 : Int32} {μ : Mem} : c325_20 (nI 20) t s0 μ = (f326 t s0 μ).bind fun r => some r := by
  unfold c325_20
  repeat refine ite_no (by decide) ?_
  exact ite_yes (by decide) rfl
abbrev FRn : Nat → Nat → Prop := fun c k => c = 129 ∧ (k = 27 ∨ 80 ≤ k ∧ k ≤ 90 ∨ k = 104 ∨ k = 128 ∨ k = 130) ∨ c = 140 ∨ 162 ≤ c ∧ c ≤ 181 ∨ 183 ≤ c ∧ c ≤ 207
def doB (b : Bw) (bs : List Nat) (dep : Nat) : Bw := if bs.getD 7 0 = 8 ∧ bs.getD 11 0 = 3 then (hapW b.1 b.2.2.2.2.1 (w4l bs 12 % 32) (nI (w4l bs 12)) dep, b.2) else finB (actB b bs)
theorem KM.x {μ m : Mem} {k : Kw} {x : Mw} (h : KM μ k) (hm : MM m x) {P : Nat → Nat → Prop} (hf : Fr P μ m) (h1 : ∀ c k, c = 129 ∧ (k = 80 ∨ k = 104) ∨ 162 ≤ c ∧ c ≤ 163 ∨ 179 ≤ c ∧ c ≤ 181 → ¬ P c k) : KM m (x, k.2) :=
  ⟨hm, h.2.1.fr hf (fun k => h1 _ _ (by omega)), h.2.2.1.fr hf (h1 _ _ (by omega)) (fun c k _ _ => h1 _ _ (by omega)), h.2.2.2.fr hf (h1 _ _ (by omega)) (fun k => h1 _ _ (by omega))⟩
theorem act15_M {μ : Mem} {b : Bw} {bs : List Nat} {dep : Nat} (hK : KM μ b.1) (hKI : KI b.1) (hX : XM μ b.2) (hXI : XI b.2) (h : CurM μ bs dep) (hP : Pkg bs) (h7 : bs.getD 7 0 = 15) (hw : why15 b.1.1 b.2.2.2.2.2.2 bs = 0) : wp (f337 (nI (bs.getD 8 0)) (nI (bs.getD 11 0)) μ) (fun m => KM m (finB (actB b bs)).1 ∧ XM m (finB (actB b bs)).2 ∧ Fr FRn μ m) := by
  obtain ⟨w1, w2', w3⟩ := why15_s hw
  have hs := hP.s15 h7
  have hl := hP.2.1
  have g := gl_170
  have st := hK.1.g w1
  have stI := hKI.1.g w1
  have l90 := stI.2.2.l90
  unfold actB
  rw [if_neg (by omega), if_neg (by omega), if_neg (by omega), if_neg (by omega), if_neg (by omega), if_neg (by omega), if_pos h7]
  generalize bs.getD 11 0 = s at *
  have fin : ∀ m y, StM m s y → Fr (FStM s) μ m → KM m (stoP b.1.1 s y, b.1.2) ∧ XM m b.2 ∧ Fr FRn μ m := fun m y hy hf => ⟨hK.x (hK.1.p hKI.1 w1 hy hf) hf (fun c k _ => by omega), hX.fr hXI hf (fun c k _ => by omega), hf.mono (by intro c k h; omega)⟩
  by_cases q1 : bs.getD 8 0 = 1
  · rw [if_pos q1, q1, f337_1, i_1, stZ_N (by omega), show nI 1 &&& 1 = nI 1 from by decide]
    exact pas (wp_some (fin _ _ (onS_M st l90) (Fr.sI (by omega))))
  · rw [if_neg q1]
    by_cases q2 : bs.getD 8 0 = 2
    · rw [if_pos q2, q2, f337_2, i_0, stZ_N (by omega), show nI 0 &&& 1 = nI 0 from by decide]
      exact pas (wp_some (fin _ _ (onS_M st l90) (Fr.sI (by omega))))
    · rw [if_neg q2]
      by_cases q3 : bs.getD 8 0 = 3
      · rw [if_pos q3, q3]
        exact wp_mono (chS_M w1 st l90 h (by omega) (w2' q3)) (fun m ⟨a1, a2⟩ => fin m _ a1 a2)
      · rw [if_neg q3]
        by_cases q9 : bs.getD 8 0 = 9
        · rw [if_pos q9, q9]
          refine wp_mono (pass_M w1 st stI.2.2 h (by omega)) (fun m ⟨a1, a2⟩ => ?_)
          exact ⟨hK.fr hKI.1 a2 (fun c k _ => by omega), ⟨hX.1.fr a2 (fun k => by omega), hX.2.1.fr a2 (fun c k _ _ => by omega), hX.2.2.1.fr a2 (fun c k _ _ => by omega), hX.2.2.2.1.fr a2 (fun c k _ _ => by omega), hX.2.2.2.2.1.fr hXI.2.2.2.2.1 a2 (by omega) (by omega) (fun c k _ => by omega), a1⟩, a2.mono (by intro c k h; omega)⟩
        · rw [if_neg q9]
          by_cases q11 : bs.getD 8 0 = 11
          · rw [if_pos q11, q11]
            exact wp_mono (dropU_M w1 st stI.2.2 (by have := hKI.1.1; omega) h (by omega)) (fun m ⟨a1, a2⟩ => fin m _ a1 a2)
          · rw [if_neg q11]
            have q12 : bs.getD 8 0 = 12 := by omega
            rw [q12]
            exact wp_mono (rsS_M w1 st h (by omega)) (fun m ⟨a1, a2⟩ => fin m _ a1 a2)
theorem doB_M {μ : Mem} {b : Bw} {bs : List Nat} {dep : Nat} (hK : KM μ b.1) (hKI : KI b.1) (hX : XM μ b.2) (hXI : XI b.2) (h : CurM μ bs dep) (hP : Pkg bs) (hd : dep ≤ 4) (hw : whyB b bs = 0) : wp (f325 (nI (bs.getD 7 0)) (nI (bs.getD 8 0)) μ) (fun m => KM m (doB b bs dep).1 ∧ XM m (doB b bs dep).2 ∧ Fr FRn μ m) := by
  have hl := hP.2.1
  have b11 := getD_lt h.2.2.2 11
  have hV : VM μ b.1 (enB b) := ⟨hK.2.1, hK.1.1, hX.2.2.2.2.1.2.2.1⟩
  have hO := hK.2.2.2
  have mk : ∀ m x, MM m x → OutM m [] → Fr FMo μ m → KM m (x, b.1.2) ∧ XM m b.2 ∧ Fr FRn μ m := fun m x h1 h2 h3 => ⟨hK.mk h1 h2 h3, hX.fr hXI h3 (fun c k _ => by omega), h3.mono (by intro c k h; omega)⟩
  rw [does_x h hl]
  unfold whyB at hw
  unfold doB
  rcases hP.sv with h7 | h7 | h7 | h7 | h7 | h7 | h7 | h7 | h7 | h7
  · rw [if_neg (by omega), h7, cd3_M]
    refine pas ?_
    have hs := hP.s3 h7
    have hx : xq bs = bs.getD 11 0 := by unfold xq; rw [if_pos (by omega)]
    rw [hx]
    rw [if_pos h7] at hw
    unfold actB
    rw [if_pos h7]
    by_cases q : bs.getD 8 0 = 27
    · rw [if_pos q, q]
      have hs6 := why3_s hw
      unfold f329
      rw [if_neg (show ¬ nI 27 = (1 : Int32) by decide), if_neg (show ¬ nI 27 = (3 : Int32) by decide), if_neg (show ¬ nI 27 = (5 : Int32) by decide), if_neg (show ¬ nI 27 = (6 : Int32) by decide)]
      exact pas (wp_mono (tellS_M hX.2.1 hXI.2.1 hs6 hK.1 hKI.1 hV hO) (fun m ⟨a1, a2, a3⟩ => mk m _ a1 a2 a3))
    · rw [if_neg q]
      refine wp_mono (act3_M h hX.2.1 hP h7 hw q) (fun m ⟨a1, a2⟩ => ?_)
      exact ⟨hK.fr hKI.1 a2 (fun c k _ => by omega), ⟨hX.1.fr a2 (fun k => by omega), a1, hX.2.2.1.fr a2 (fun c k _ _ => by omega), hX.2.2.2.1.fr a2 (fun c k _ _ => by omega), hX.2.2.2.2.1.fr hXI.2.2.2.2.1 a2 (by omega) (by omega) (fun c k _ => by omega), hX.2.2.2.2.2.fr a2 (by omega) (fun c k _ _ => by omega)⟩, a2.mono (by intro c k h; omega)⟩
  · rw [if_neg (by omega), h7, cd5_M]
    have hs := hP.s5 h7
    have hx : xq bs = bs.getD 11 0 := by unfold xq; rw [if_pos (by omega)]
    rw [hx]
    rw [if_neg (by omega), if_pos h7] at hw
    have hq : bs.getD 11 0 < 32 := by
      unfold why5 at hw
      by_cases z : bs.getD 11 0 < 32
      · exact z
      · rw [if_neg z] at hw; exact absurd hw (by decide)
    have g := gl_190
    have hA : actB b bs = ((b.1, b.2.1, b.2.2.1, b.2.2.2.1, act5 b.2.2.2.2.1 bs, b.2.2.2.2.2), none) := by
      unfold actB
      rw [if_neg (by omega), if_pos h7]
    rw [hA]
    have key : ∀ v : Bool, v = decide (bs.getD 8 0 = 6) → wp (c325_160 (nI (bs.getD 11 0)) (nI (b2n v)) μ) (fun m => KM m b.1 ∧ XM m (b.2.1, b.2.2.1, b.2.2.2.1, act5 b.2.2.2.2.1 bs, b.2.2.2.2.2) ∧ Fr FRn μ m) := by
      intro v hv
      unfold c325_160 act5
      rw [← hv, stZ_N (by omega), show nI (b2n v) &&& 1 = nI (b2n v) by cases v <;> decide]
      have f1 : Fr (fun c _ => c = 190) μ (setI μ 190 (bs.getD 11 0) (nI (b2n v))) := Fr.sI rfl
      exact pas (wp_some ⟨hK.fr hKI.1 f1 (fun c k _ => by omega), ⟨hX.1.fr f1 (fun k => by omega), hX.2.1.fr f1 (fun c k _ _ => by omega), hX.2.2.1.fr f1 (fun c k _ _ => by omega), hX.2.2.2.1.q, hX.2.2.2.2.1.fr hXI.2.2.2.2.1 f1 (by omega) (by omega) (fun c k _ => by omega), hX.2.2.2.2.2.fr f1 (by omega) (fun c k _ _ => by omega)⟩, f1.mono (by intro c k h; omega)⟩)
    by_cases q : bs.getD 8 0 = 6
    · rw [q, if_pos (show nI 6 = (6 : Int32) from rfl)]
      exact key true (decide_eq_true q).symm
    · have q5 : bs.getD 8 0 = 5 := by omega
      rw [q5, if_neg (show ¬ nI 5 = (6 : Int32) by decide)]
      exact key false (decide_eq_false q).symm
  · rw [if_neg (by omega), h7, cd6_M]
    refine pas ?_
    rw [if_neg (by omega), if_neg (by omega), if_pos h7] at hw
    unfold actB
    rw [if_neg (by omega), if_neg (by omega), if_pos h7]
    by_cases q : bs.getD 8 0 = 2
    · rw [if_pos q, q]
      refine wp_mono (set6_M h hX.1 hXI.1 hP h7 q hw) (fun m ⟨a1, a2⟩ => ?_)
      exact ⟨hK.fr hKI.1 a2 (fun c k _ => by omega), ⟨a1, hX.2.1.fr a2 (fun c k _ _ => by omega), hX.2.2.1.fr a2 (fun c k _ _ => by omega), hX.2.2.2.1.fr a2 (fun c k _ _ => by omega), hX.2.2.2.2.1.fr hXI.2.2.2.2.1 a2 (by omega) (by omega) (fun c k _ => by omega), hX.2.2.2.2.2.fr a2 (by omega) (fun c k _ _ => by omega)⟩, a2.mono (by intro c k h; omega)⟩
    · rw [if_neg q]
      exact wp_mono (rep6_M h hX.1 hXI.1 hK.1 hKI.1 hO hP h7 q hw) (fun m ⟨a1, a2, a3⟩ => mk m _ a1 a2 a3)
  · have hs := hP.s8 h7
    have hx : xq bs = bs.getD 11 0 := by unfold xq; rw [if_pos (by omega)]
    have g := gl_162
    have e12 := h.fo hl (i := 12) (by omega)
    have hv : w4l bs 12 < 4294967296 := by4 h.2.2.2 12
    by_cases q3 : bs.getD 11 0 = 3
    · rw [if_pos (show bs.getD 7 0 = 8 ∧ bs.getD 11 0 = 3 from ⟨h7, q3⟩), h7, cd8_M, hx, q3, if_neg (show ¬ nI 3 = (1 : Int32) by decide), if_pos (show nI 3 = (3 : Int32) from rfl), i_12, e12, Option.bind_some]
      dsimp only
      rw [e12, Option.bind_some]
      dsimp only
      rw [h.2.1, i_31, an_31]
      refine pas (wp_mono (hap_M hK hKI hX.2.2.2.1 hXI.2.2.2.1 (Nat.mod_lt _ (by decide)) hd) (fun m ⟨a1, a2⟩ => ⟨a1, hX.fr hXI a2 (fun c k _ => by omega), a2.mono (by intro c k h; omega)⟩))
    · rw [if_neg (show ¬ (bs.getD 7 0 = 8 ∧ bs.getD 11 0 = 3) from fun z => q3 z.2)]
      by_cases q : bs.getD 11 0 = 1
      · have hA : actB b bs = (((b.1.1, upL b.1.2.1 0 (nI (w4l bs 12)), b.1.2.2), b.2), none) := by
          unfold actB
          rw [if_neg (by omega), if_neg (by omega), if_neg (by omega), if_pos h7, if_pos q]
        rw [hA, h7, cd8_M, hx, q, if_pos (show nI 1 = (1 : Int32) from rfl), i_12, e12, Option.bind_some]
        dsimp only
        rw [i_0, stA_N (by omega)]
        have f1 : Fr (fun c _ => c = 162) μ (setI μ 162 0 (nI (w4l bs 12))) := Fr.sI rfl
        exact pas (wp_some ⟨hK.par hKI.1, hX.fr hXI f1 (fun c k _ => by omega), f1.mono (by intro c k h; omega)⟩)
      · have hA : actB b bs = (b, none) := by
          unfold actB
          rw [if_neg (by omega), if_neg (by omega), if_neg (by omega), if_pos h7, if_neg q]
        rw [hA, h7, cd8_M, hx, i_1, if_neg (fun z => q ((nI_eq (by omega) (by omega)).mp z)), i_3, if_neg (fun z => q3 ((nI_eq (by omega) (by omega)).mp z))]
        exact wp_some ⟨hK, hX, Fr.rf⟩
  · rw [if_neg (by omega), h7, cd11_M]
    refine pas ?_
    rw [if_neg (by omega), if_neg (by omega), if_neg (by omega), if_neg (by omega), if_pos h7] at hw
    unfold actB
    rw [if_neg (by omega), if_neg (by omega), if_neg (by omega), if_neg (by omega), if_pos h7]
    by_cases q : bs.getD 8 0 = 16
    · rw [if_pos q, q]
      exact wp_mono (rep11_M hX.2.2.2.2.1 hXI.2.2.2.2.1 hK.1 hKI.1 hO) (fun m ⟨a1, a2, a3⟩ => mk m _ a1 a2 a3)
    · rw [if_neg q]
      refine wp_mono (act11_M h hX.2.2.2.2.1 hXI.2.2.2.2.1 hP h7 hw q) (fun m ⟨a1, a2⟩ => ?_)
      exact ⟨hK.fr hKI.1 a2 (fun c k _ => by omega), ⟨hX.1.fr a2 (fun k => by omega), hX.2.1.fr a2 (fun c k _ _ => by omega), hX.2.2.1.fr a2 (fun c k _ _ => by omega), hX.2.2.2.1.fr a2 (fun c k _ _ => by omega), a1, hX.2.2.2.2.2.fr a2 (by omega) (fun c k _ _ => by omega)⟩, a2.mono (by intro c k h; omega)⟩
  · rw [if_neg (by omega), h7, cd12_M]
    refine pas ?_
    rw [if_neg (by omega), if_neg (by omega), if_neg (by omega), if_neg (by omega), if_neg (by omega), if_pos h7] at hw
    unfold actB
    rw [if_neg (by omega), if_neg (by omega), if_neg (by omega), if_neg (by omega), if_neg (by omega), if_pos h7]
    by_cases q : bs.getD 8 0 = 13
    · rw [if_pos q, q]
      exact wp_mono (rep12_M hX.2.2.1 hXI.2.2.1 hK.1 hKI.1 hO) (fun m ⟨a1, a2, a3⟩ => mk m _ a1 a2 a3)
    · rw [if_neg q]
      have hs := hP.s12 h7
      have hx : xq bs = bs.getD 11 0 := by unfold xq; rw [if_pos (by omega)]
      rw [hx]
      refine wp_mono (act12_M h hX.2.2.1 hP h7 q hw) (fun m ⟨a1, a2⟩ => ?_)
      exact ⟨hK.fr hKI.1 a2 (fun c k _ => by omega), ⟨hX.1.fr a2 (fun k => by omega), hX.2.1.fr a2 (fun c k _ _ => by omega), a1, hX.2.2.2.1.fr a2 (fun c k _ _ => by omega), hX.2.2.2.2.1.fr hXI.2.2.2.2.1 a2 (by omega) (by omega) (fun c k _ => by omega), hX.2.2.2.2.2.fr a2 (by omega) (fun c k _ _ => by omega)⟩, a2.mono (by intro c k h; omega)⟩
  · rw [if_neg (by omega), h7, cd15_M]
    have hs := hP.s15 h7
    have hx : xq bs = bs.getD 11 0 := by unfold xq; rw [if_pos (by omega)]
    rw [hx]
    rw [if_neg (by omega), if_neg (by omega), if_neg (by omega), if_neg (by omega), if_neg (by omega), if_neg (by omega), if_pos h7] at hw
    exact pas (act15_M hK hKI hX hXI h hP h7 hw)
  · rw [if_neg (by omega), h7, cd17_M]
    unfold actB
    rw [if_neg (by omega), if_neg (by omega), if_neg (by omega), if_neg (by omega), if_neg (by omega), if_neg (by omega), if_neg (by omega), if_pos h7, i_17, i_2]
    exact pas (wp_mono (make_M (sv := 17) (sb := 2) hK.1 hKI.1 hO (by omega) (by omega) (by decide)) (fun m ⟨a1, a2, a3⟩ => mk m _ a1 a2 (a3.mono (by intro c k h; omega))))
  · rw [if_neg (by omega), h7, cd19_M]
    refine pas ?_
    have hs := hP.s19 h7
    have hx : xq bs = bs.getD 11 0 := by unfold xq; rw [if_pos (by omega)]
    rw [hx]
    rw [if_neg (by omega), if_neg (by omega), if_neg (by omega), if_neg (by omega), if_neg (by omega), if_neg (by omega), if_neg (by omega), if_pos h7] at hw
    unfold actB
    rw [if_neg (by omega), if_neg (by omega), if_neg (by omega), if_neg (by omega), if_neg (by omega), if_neg (by omega), if_neg (by omega), if_neg (by omega), if_pos h7]
    refine wp_mono (act19_M h hX.2.2.2.1 hXI.2.2.2.1 hP h7 hw) (fun m ⟨a1, a2⟩ => ?_)
    exact ⟨hK.fr hKI.1 a2 (fun c k _ => by omega), ⟨hX.1.fr a2 (fun k => by omega), hX.2.1.fr a2 (fun c k _ _ => by omega), hX.2.2.1.fr a2 (fun c k _ _ => by omega), a1, hX.2.2.2.2.1.fr hXI.2.2.2.2.1 a2 (by omega) (by omega) (fun c k _ => by omega), hX.2.2.2.2.2.fr a2 (by omega) (fun c k _ _ => by omega)⟩, a2.mono (by intro c k h; omega)⟩
  · rw [if_neg (by omega), h7, cd20_M]
    refine pas ?_
    have hs := hP.s20 h7
    have hx : xq bs = bs.getD 11 0 := by unfold xq; rw [if_pos (by omega)]
    rw [hx]
    rw [if_neg (by omega), if_neg (by omega), if_neg (by omega), if_neg (by omega), if_neg (by omega), if_neg (by omega), if_neg (by omega), if_neg (by omega), if_pos h7] at hw
    unfold actB
    rw [if_neg (by omega), if_neg (by omega), if_neg (by omega), if_neg (by omega), if_neg (by omega), if_neg (by omega), if_neg (by omega), if_neg (by omega), if_neg (by omega)]
    by_cases q : bs.getD 8 0 = 3
    · rw [if_pos q, q]
      refine wp_mono (set20_M h hK.2.1 hP h7 q hw) (fun m ⟨a1, a2⟩ => ?_)
      exact ⟨⟨hK.1.fr hKI.1 a2 (fun c k _ => by omega), a1, hK.2.2.1.fr a2 (by omega) (fun c k _ _ => by omega), hK.2.2.2.fr a2 (by omega) (fun k => by omega)⟩, hX.fr hXI a2 (fun c k _ => by omega), a2.mono (by intro c k h; omega)⟩
    · rw [if_neg q]
      have q1 : bs.getD 8 0 = 1 := by omega
      rw [q1]
      exact wp_mono (rep20_M h hK.1 hKI.1 hV hO hP h7 q1 hw) (fun m ⟨a1, a2, a3⟩ => mk m _ a1 a2 a3)
