/-! the board: what a request does, the class -/
abbrev FAc : Nat → Nat → Prop := fun c k => 59 ≤ c ∧ c ≤ 74 ∨ 81 ≤ c ∧ c ≤ 88 ∨ c = 101 ∧ 11 ≤ k ∧ k ≤ 13 ∨ 108 ≤ c ∧ c ≤ 119 ∨ 124 ≤ c ∧ c ≤ 128
def PnC (μ m : Mem) (b : Bw) (x : Bw × Option (Nat × Nat × List Nat)) : Prop := match x.2 with
  | none => KC m x.1.1 ∧ XC m x.1.2 ∧ Fr FAc μ m
  | some (sv, sb, d) => x.1 = b ∧ sv < 256 ∧ sb < 256 ∧ d.length ≤ 67 ∧ Byt m 87 (bgL b.1.1.2.1 b.1.1.1 sv sb ++ d) ∧ Fr (FB 87) μ m
theorem f25_3 {μ : Mem} (e7 : f75 122 (7 : Int32) μ = some (μ, nI 3)) : f25 μ = (f35 μ).bind fun r => some r := by
  unfold f25
  rw [e7, Option.bind_some]
  dsimp only
  repeat refine ite_no (by decide) ?_
  exact ite_yes (by decide) rfl
theorem f25_5 {μ : Mem} (e7 : f75 122 (7 : Int32) μ = some (μ, nI 5)) : f25 μ = (f39 μ).bind fun r => some r := by
  unfold f25
  rw [e7, Option.bind_some]
  dsimp only
  repeat refine ite_no (by decide) ?_
  exact ite_yes (by decide) rfl
theorem f25_6 {μ : Mem} (e7 : f75 122 (7 : Int32) μ = some (μ, nI 6)) : f25 μ = (f32 μ).bind fun r => some r := by
  unfold f25
  rw [e7, Option.bind_some]
  dsimp only
  repeat refine ite_no (by decide) ?_
  exact ite_yes (by decide) rfl
theorem f25_8 {μ : Mem} (e7 : f75 122 (7 : Int32) μ = some (μ, nI 8)) : f25 μ = (f30 μ).bind fun r => some r := by
  unfold f25
  rw [e7, Option.bind_some]
  dsimp only
  repeat refine ite_no (by decide) ?_
  exact ite_yes (by decide) rfl
theorem f25_11 {μ : Mem} (e7 : f75 122 (7 : Int32) μ = some (μ, nI 11)) : f25 μ = (f58 μ).bind fun r => some r := by
  unfold f25
  rw [e7, Option.bind_some]
  dsimp only
  repeat refine ite_no (by decide) ?_
  exact ite_yes (by decide) rfl
theorem f25_12 {μ : Mem} (e7 : f75 122 (7 : Int32) μ = some (μ, nI 12)) : f25 μ = (f45 μ).bind fun r => some r := by
  unfold f25
  rw [e7, Option.bind_some]
  dsimp only
  repeat refine ite_no (by decide) ?_
  exact ite_yes (by decide) rfl
theorem f25_15 {μ : Mem} (e7 : f75 122 (7 : Int32) μ = some (μ, nI 15)) : f25 μ = (f62 μ).bind fun r => some r := by
  unfold f25
  rw [e7, Option.bind_some]
  dsimp only
  repeat refine ite_no (by decide) ?_
  exact ite_yes (by decide) rfl
theorem f25_19 {μ : Mem} (e7 : f75 122 (7 : Int32) μ = some (μ, nI 19)) : f25 μ = (f42 μ).bind fun r => some r := by
  unfold f25
  rw [e7, Option.bind_some]
  dsimp only
  repeat refine ite_no (by decide) ?_
  exact ite_yes (by decide) rfl
theorem f25_20 {μ : Mem} (e7 : f75 122 (7 : Int32) μ = some (μ, nI 20)) : f25 μ = (f27 μ).bind fun r => some r := by
  unfold f25
  rw [e7, Option.bind_some]
  dsimp only
  repeat refine ite_no (by decide) ?_
  exact ite_yes (by decide) rfl
theorem f25_17 {μ : Mem} (e7 : f75 122 (7 : Int32) μ = some (μ, nI 17)) : f25 μ = (f117 (17 : Int32) (2 : Int32) μ).bind fun r => some r := by
  unfold f25
  rw [e7, Option.bind_some]
  dsimp only
  repeat refine ite_no (by decide) ?_
  exact ite_yes (by decide) rfl
theorem pas {o : Option Mem} {Q : Mem → Prop} (h : wp o Q) : wp (o.bind fun r => some r) Q := wp_bind h (fun m h => wp_some h)
theorem f62_1 {μ : Mem} {s : Nat} (hs : s < 2) (e11 : f20 (nI 0) μ = some (μ, nI s)) (e8 : f23 μ = some (μ, nI 1)) : f62 μ = (pfZ (59 + 8 * s) 4 (1 : Int32) μ).bind fun m10 => some m10 := by
  unfold f62
  rw [i_0, e11, Option.bind_some]
  dsimp only
  rw [if_pos (show nI s < (2 : Int32) from (nI_ltI (a := s) (b := 2) (by omega) (by omega)).mpr hs), e11, Option.bind_some]
  dsimp only
  rw [ldR58 hs, Option.bind_some, e8, Option.bind_some]
  dsimp only
  repeat refine ite_no (by decide) ?_
  exact ite_yes (by decide) rfl
theorem f62_2 {μ : Mem} {s : Nat} (hs : s < 2) (e11 : f20 (nI 0) μ = some (μ, nI s)) (e8 : f23 μ = some (μ, nI 2)) : f62 μ = (pfZ (59 + 8 * s) 4 (nI 0) μ).bind fun m13 => some m13 := by
  unfold f62
  rw [i_0, e11, Option.bind_some]
  dsimp only
  rw [if_pos (show nI s < (2 : Int32) from (nI_ltI (a := s) (b := 2) (by omega) (by omega)).mpr hs), e11, Option.bind_some]
  dsimp only
  rw [ldR58 hs, Option.bind_some, e8, Option.bind_some]
  dsimp only
  repeat refine ite_no (by decide) ?_
  exact ite_yes (by decide) rfl
theorem f62_3 {μ : Mem} {s : Nat} (hs : s < 2) (e11 : f20 (nI 0) μ = some (μ, nI s)) (e8 : f23 μ = some (μ, nI 3)) : f62 μ = (f21 (1 : Int32) μ).bind fun r16 => (f177 (59 + 8 * s) r16.2 r16.1).bind fun r18 => some r18 := by
  unfold f62
  rw [i_0, e11, Option.bind_some]
  dsimp only
  rw [if_pos (show nI s < (2 : Int32) from (nI_ltI (a := s) (b := 2) (by omega) (by omega)).mpr hs), e11, Option.bind_some]
  dsimp only
  rw [ldR58 hs, Option.bind_some, e8, Option.bind_some]
  dsimp only
  repeat refine ite_no (by decide) ?_
  exact ite_yes (by decide) rfl
theorem f62_9 {μ : Mem} {s : Nat} (hs : s < 2) (e11 : f20 (nI 0) μ = some (μ, nI s)) (e8 : f23 μ = some (μ, nI 9)) : f62 μ = (f22 (1 : Int32) μ).bind fun r26 => (f22 (5 : Int32) r26.1).bind fun r28 => (f120 (59 + 8 * s) r26.2 r28.2 r28.1).bind fun r30 => some r30 := by
  unfold f62
  rw [i_0, e11, Option.bind_some]
  dsimp only
  rw [if_pos (show nI s < (2 : Int32) from (nI_ltI (a := s) (b := 2) (by omega) (by omega)).mpr hs), e11, Option.bind_some]
  dsimp only
  rw [ldR58 hs, Option.bind_some, e8, Option.bind_some]
  dsimp only
  repeat refine ite_no (by decide) ?_
  exact ite_yes (by decide) rfl
theorem f62_11 {μ : Mem} {s : Nat} (hs : s < 2) (e11 : f20 (nI 0) μ = some (μ, nI s)) (e8 : f23 μ = some (μ, nI 11)) : f62 μ = (f22 (1 : Int32) μ).bind fun r34 => (f179 (59 + 8 * s) r34.2 r34.1).bind fun r36 => some r36 := by
  unfold f62
  rw [i_0, e11, Option.bind_some]
  dsimp only
  rw [if_pos (show nI s < (2 : Int32) from (nI_ltI (a := s) (b := 2) (by omega) (by omega)).mpr hs), e11, Option.bind_some]
  dsimp only
  rw [ldR58 hs, Option.bind_some, e8, Option.bind_some]
  dsimp only
  repeat refine ite_no (by decide) ?_
  exact ite_yes (by decide) rfl
theorem f62_12 {μ : Mem} {s : Nat} (hs : s < 2) (e11 : f20 (nI 0) μ = some (μ, nI s)) (e8 : f23 μ = some (μ, nI 12)) : f62 μ = (f20 (1 : Int32) μ).bind fun r39 => (f174 (59 + 8 * s) r39.2 r39.1).bind fun r41 => some r41 := by
  unfold f62
  rw [i_0, e11, Option.bind_some]
  dsimp only
  rw [if_pos (show nI s < (2 : Int32) from (nI_ltI (a := s) (b := 2) (by omega) (by omega)).mpr hs), e11, Option.bind_some]
  dsimp only
  rw [ldR58 hs, Option.bind_some, e8, Option.bind_some]
  dsimp only
  repeat refine ite_no (by decide) ?_
  exact ite_yes (by decide) rfl
theorem why15_s {x : Mw} {pd : List Pk} {bs : List Nat} (hw : why15 x pd bs = 0) : bs.getD 11 0 < 2 ∧ (bs.getD 8 0 = 3 → (stoG x (bs.getD 11 0)).2.1.length < 6 ∨ w2 bs 12 ∈ (stoG x (bs.getD 11 0)).2.1) ∧ (bs.getD 8 0 = 9 → pd = []) := by
  unfold why15 at hw
  by_cases q : bs.getD 11 0 < 2
  · rw [if_pos q] at hw
    refine ⟨q, fun q3 => ?_, fun q9 => ?_⟩
    · rw [if_pos q3] at hw
      by_cases z : (stoG x (bs.getD 11 0)).2.1.length < 6 ∨ w2 bs 12 ∈ (stoG x (bs.getD 11 0)).2.1
      · exact z
      · rw [if_neg z] at hw; exact absurd hw (by decide)
    · rw [if_neg (by omega), if_pos q9] at hw
      by_cases z : pd.length = 0
      · exact List.length_eq_zero_iff.mp z
      · rw [if_neg z] at hw; exact absurd hw (by decide)
  · rw [if_neg q] at hw; exact absurd hw (by decide)
theorem KC.x {μ m : Mem} {k : Kw} {x : Mw} (h : KC μ k) (hm : MC m x) (h87 : Byt m 87 []) {P : Nat → Nat → Prop} (hf : Fr P μ m) (h1 : ∀ c k, c = 100002 ∨ c = 124 ∨ c = 9 ∧ 8 ≤ k ∧ k ≤ 9 ∨ 102 ≤ c ∧ c ≤ 107 → ¬ P c k) : KC m (x, k.2) :=
  ⟨hm, h.2.1.fr hf (fun k => h1 _ _ (by omega)) (h1 _ _ (by omega)) (h1 _ _ (by omega)), h.2.2.1.fr hf (fun c k _ _ => h1 _ _ (by omega)), h.2.2.2.1.fr hf (fun k => h1 _ _ (by omega)), h87⟩
theorem act15_C {μ : Mem} {b : Bw} {bs : List Nat} (hK : KC μ b.1) (hKI : KI b.1) (hX : XC μ b.2) (hXI : XI b.2) (h : Byt μ 122 bs) (hP : Pkg bs) (h7 : bs.getD 7 0 = 15) (hw : why15 b.1.1 b.2.2.2.2.2.2 bs = 0) : wp (f62 μ) (fun m => PnC μ m b (actB b bs)) := by
  obtain ⟨w1, w2', w3⟩ := why15_s hw
  have hs := hP.s15 h7
  have e8 := sub_C h
  have e11 := arg_C h (i := 0) (by omega)
  rw [show 11 + 0 = 11 from rfl] at e11
  have st := hK.1.g w1
  have stI := hKI.1.g w1
  unfold actB
  rw [if_neg (by omega), if_neg (by omega), if_neg (by omega), if_neg (by omega), if_neg (by omega), if_neg (by omega), if_pos h7]
  generalize bs.getD 11 0 = s at *
  have fin : ∀ m y, StC m s y → Fr (FSt s) μ m → KC m (stoP b.1.1 s y, b.1.2) ∧ XC m b.2 ∧ Fr FAc μ m := fun m y hy hf => ⟨hK.x (hK.1.p w1 hy hf) (hK.2.2.2.2.fr hf (by omega) (fun k => by omega)) hf (fun c k _ => by omega), hX.fr hf (fun c k _ => by omega), hf.mono (by intro c k h; omega)⟩
  by_cases q1 : bs.getD 8 0 = 1
  · rw [if_pos q1]
    rw [q1] at e8
    rw [f62_1 w1 e11 e8, i_1]
    refine pas (wp_some ?_)
    exact fin _ _ (onS_C st) (Fr.sI (by omega))
  · rw [if_neg q1]
    by_cases q2 : bs.getD 8 0 = 2
    · rw [if_pos q2]
      rw [q2] at e8
      rw [f62_2 w1 e11 e8]
      refine pas (wp_some ?_)
      exact fin _ _ (onS_C st) (Fr.sI (by omega))
    · rw [if_neg q2]
      by_cases q3 : bs.getD 8 0 = 3
      · rw [if_pos q3]
        have e12 := arg2_C h (i := 1) (by omega)
        rw [show 11 + 1 = 12 from rfl] at e12
        rw [q3] at e8
        rw [f62_3 w1 e11 e8, i_1, e12, Option.bind_some]
        refine pas (wp_mono (chS_C w1 st (w2_lt (k := 12) h.2.2.2) (w2' q3)) (fun m ⟨a1, a2⟩ => fin m _ a1 a2))
      · rw [if_neg q3]
        by_cases q9 : bs.getD 8 0 = 9
        · rw [if_pos q9]
          have e12 := arg4_C h (i := 1) (by omega)
          have e16 := arg4_C h (i := 5) (by omega)
          rw [show 11 + 1 = 12 from rfl] at e12
          rw [show 11 + 5 = 16 from rfl] at e16
          rw [q9] at e8
          rw [f62_9 w1 e11 e8, i_1, e12, Option.bind_some]
          dsimp only
          rw [i_5, e16, Option.bind_some]
          have hp := hX.2.2.2.2.2
          rw [w3 q9] at hp
          refine pas (wp_mono (pass_C (lo := nI (w4l bs 12)) (hi := nI (w4l bs 16)) w1 st stI.2.2 hp) (fun m ⟨a1, a2, a3⟩ => ?_))
          refine ⟨hK.x (hK.1.fr a3 (fun c k _ => by omega)) a2 a3 (fun c k _ => by omega), ⟨hX.1.fr a3 (by omega) (fun k => by omega), hX.2.1.fr a3 (fun k => by omega), hX.2.2.1.fr a3 (fun k => by omega), hX.2.2.2.1.fr a3 (by omega) (fun c k _ _ => by omega), hX.2.2.2.2.1.fr a3 (by omega) (by omega) (fun c k _ _ => by omega), a1⟩, a3.mono (by intro c k h; omega)⟩
        · rw [if_neg q9]
          by_cases q11 : bs.getD 8 0 = 11
          · rw [if_pos q11]
            have e12 := arg4_C h (i := 1) (by omega)
            rw [show 11 + 1 = 12 from rfl] at e12
            rw [q11] at e8
            rw [f62_11 w1 e11 e8, i_1, e12, Option.bind_some]
            refine pas (wp_mono (dropU_C w1 st) (fun m ⟨a1, a2⟩ => fin m _ a1 a2))
          · rw [if_neg q11]
            have q12 : bs.getD 8 0 = 12 := by omega
            have e12 := arg_C h (i := 1) (by omega)
            rw [show 11 + 1 = 12 from rfl] at e12
            rw [q12] at e8
            rw [f62_12 w1 e11 e8, i_1, e12, Option.bind_some]
            refine pas (wp_mono (rsS_C w1 st) (fun m ⟨a1, a2⟩ => fin m _ a1 a2))
theorem actB_C {μ : Mem} {b : Bw} {bs : List Nat} (hK : KC μ b.1) (hKI : KI b.1) (hX : XC μ b.2) (hXI : XI b.2) (h : Byt μ 122 bs) (hP : Pkg bs) (hw : whyB b bs = 0) : wp (f25 μ) (fun m => PnC μ m b (actB b bs)) := by
  have e7 := sv_C h
  have e8 := sub_C h
  have e11 := arg_C h (i := 0) (by omega)
  have b11 := h.get 11
  have g87 : gln (87 + 1) = 82 := gl_88
  rw [show 11 + 0 = 11 from rfl] at e11
  have hV : VC μ b.1 (enB b) := ⟨hK.2.1, hK.1.2.1, hX.2.2.2.2.1.2.2.1⟩
  unfold whyB at hw
  rcases hP.sv with h7 | h7 | h7 | h7 | h7 | h7 | h7 | h7 | h7 | h7
  · rw [h7] at e7
    rw [f25_3 e7]
    refine pas ?_
    rw [if_pos h7] at hw
    unfold actB
    rw [if_pos h7]
    by_cases q : bs.getD 8 0 = 27
    · rw [if_pos q]
      have hs6 := why3_s hw
      have hle := repS_len (k := b.1) (en := enB b) hXI.2.1 hs6
      rw [q] at e8
      unfold f35
      rw [i_0, e11, Option.bind_some]
      dsimp only
      rw [if_pos (show nI (bs.getD 11 0) < (6 : Int32) from (nI_ltI (b := 6) (by omega) (by omega)).mpr hs6)]
      dsimp only [nm]
      rw [e8, Option.bind_some]
      dsimp only
      rw [if_neg (show ¬ nI 27 = (1 : Int32) by decide), if_neg (show ¬ nI 27 = (2 : Int32) by decide), if_neg (show ¬ nI 27 = (3 : Int32) by decide), if_neg (show ¬ nI 27 = (4 : Int32) by decide), if_neg (show ¬ nI 27 = (5 : Int32) by decide), if_neg (show ¬ nI 27 = (6 : Int32) by decide)]
      refine pas (wp_mono (tellS_C hX.2.1 hXI.2.1 hs6 hK.1 hV) (fun m ⟨a1, a2⟩ => ?_))
      exact ⟨rfl, by decide, by decide, by omega, a1, a2⟩
    · rw [if_neg q]
      refine wp_mono (act3_C h hX.2.1 hP h7 hw q) (fun m ⟨a1, a2⟩ => ?_)
      exact ⟨hK.fr a2 (fun c k _ => by omega), ⟨hX.1.fr a2 (by omega) (fun k => by omega), a1, hX.2.2.1.fr a2 (fun k => by omega), hX.2.2.2.1.fr a2 (by omega) (fun c k _ _ => by omega), hX.2.2.2.2.1.fr a2 (by omega) (by omega) (fun c k _ _ => by omega), hX.2.2.2.2.2.fr a2 (fun c k _ _ => by omega)⟩, a2.mono (by intro c k h; omega)⟩
  · rw [h7] at e7
    rw [f25_5 e7]
    refine pas ?_
    rw [if_neg (by omega), if_pos h7] at hw
    have hq : bs.getD 11 0 < 32 := by
      unfold why5 at hw
      by_cases z : bs.getD 11 0 < 32
      · exact z
      · rw [if_neg z] at hw; exact absurd hw (by decide)
    unfold actB
    rw [if_neg (by omega), if_pos h7]
    refine wp_mono (act5_C h hX.2.2.2.1 hP h7 hq) (fun m ⟨a1, a2⟩ => ?_)
    exact ⟨hK.fr a2 (fun c k _ => by omega), ⟨hX.1.fr a2 (by omega) (fun k => by omega), hX.2.1.fr a2 (fun k => by omega), hX.2.2.1.fr a2 (fun k => by omega), a1, hX.2.2.2.2.1.fr a2 (by omega) (by omega) (fun c k _ _ => by omega), hX.2.2.2.2.2.fr a2 (fun c k _ _ => by omega)⟩, a2.mono (by intro c k h; omega)⟩
  · rw [h7] at e7
    rw [f25_6 e7]
    refine pas ?_
    rw [if_neg (by omega), if_neg (by omega), if_pos h7] at hw
    unfold actB
    rw [if_neg (by omega), if_neg (by omega), if_pos h7]
    by_cases q : bs.getD 8 0 = 2
    · rw [if_pos q]
      refine wp_mono (set6_C h hX.1 hXI.1 q hw) (fun m ⟨a1, a2⟩ => ?_)
      exact ⟨hK.fr a2 (fun c k _ => by omega), ⟨a1, hX.2.1.fr a2 (fun k => by omega), hX.2.2.1.fr a2 (fun k => by omega), hX.2.2.2.1.fr a2 (by omega) (fun c k _ _ => by omega), hX.2.2.2.2.1.fr a2 (by omega) (by omega) (fun c k _ _ => by omega), hX.2.2.2.2.2.fr a2 (fun c k _ _ => by omega)⟩, a2.mono (by intro c k h; omega)⟩
    · rw [if_neg q]
      refine wp_mono (rep6_C h hX.1 hXI.1 hK.1 hP h7 q hw) (fun m ⟨a1, a2⟩ => ?_)
      refine ⟨rfl, by decide, ?_, rep6_len hXI.1 hP h7, a1, a2⟩
      unfold sb6
      split <;> decide
  · rw [h7] at e7
    rw [f25_8 e7]
    refine pas ?_
    unfold actB
    rw [if_neg (by omega), if_neg (by omega), if_neg (by omega), if_pos h7]
    unfold f30
    rw [i_0, e11, Option.bind_some]
    dsimp only
    by_cases q : bs.getD 11 0 = 1
    · have e12 := arg4_C h (i := 1) (by omega)
      rw [show 11 + 1 = 12 from rfl] at e12
      rw [if_pos q, q, if_pos (show nI 1 = (1 : Int32) from rfl), i_1, e12, Option.bind_some]
      have g := gl_124
      unfold f28
      simp (disch := omega) only [i_0, i_1, i_2, i_3, i_4, i_5, i_6, i_7, i_8, i_9, i_10, i_11, i_12, i_13, i_14, i_15, i_16, i_17, i_18, i_19, i_20, i_21, i_22, i_23, i_24, i_25, i_26, i_27, i_31, i_32, i_40, i_42, i_45, i_48, i_51, i_52, i_56, i_58, i_59, i_60, i_61, i_62, i_63, i_64, i_85, i_90, i_100, i_112, i_120, i_121, i_127, i_128, i_130, i_144, i_171, i_192, i_193, i_197, i_200, i_207, i_235, i_240, i_248, i_252, i_254, i_255, i_256, i_512, i_544, i_768, i_769, i_793, i_1000, i_1023, i_1024, i_1200, i_1538, i_1541, i_1545, i_2046, i_2047, i_2049, i_2060, i_2736, i_2737, i_2817, i_2818, i_2819, i_2820, i_2821, i_2831, i_2832, i_3077, i_3085, i_3843, i_3849, i_3851, i_3852, i_4129, i_4353, i_4865, i_5121, i_5122, i_5123, i_6156, i_8192, i_12288, i_16383, i_32000, i_33280, i_49152, i_53247, i_60304, i_64000, i_64512, i_65521, i_65535, i_449838109, nI_add, pk_mul, pk_sub, nI_mm, nI_leI, nI_ltI, nI_eq, pk_div, jrem_N, jshl_N, jshr_N, jushr_N, jmin_N, jmax_N, an_1, an_3, an_7, an_15, an_31, an_63, an_127, an_255, an_1023, an_2047, an_16383, an_65535, nm, pfI, rdI, rdW, rdL, rdI2, rdW2, ldA_N, stA_N, stB_N, stZ_N, pfZ_0, pfZ_1, rtZ_0, rtZ_1, acp_N, Option.bind_some, wp_some_iff, true_and, and_true, false_and, and_false, or_true, true_or, or_false, false_or, not_true_eq_false, not_false_eq_true, if_true, if_false, if_pos, if_neg, lt_sub, le_sub, sub_lt3, sub_le3, Option.bind_assoc]
      have f1 : Fr (fun c _ => c = 124) μ (setI μ 124 0 (nI (w4l bs 12))) := Fr.sI rfl
      exact ⟨hK.par (i := 0) (by omega), hX.fr f1 (fun c k _ => by omega), f1.mono (by intro c k h; omega)⟩
    · rw [if_neg q, i_1, if_neg (fun z => q ((nI_eq (a := bs.getD 11 0) (b := 1) (by omega) (by omega)).mp z))]
      exact wp_some ⟨hK, hX, Fr.rf⟩
  · rw [h7] at e7
    rw [f25_11 e7]
    refine pas ?_
    rw [if_neg (by omega), if_neg (by omega), if_neg (by omega), if_neg (by omega), if_pos h7] at hw
    unfold actB
    rw [if_neg (by omega), if_neg (by omega), if_neg (by omega), if_neg (by omega), if_pos h7]
    by_cases q : bs.getD 8 0 = 16
    · rw [if_pos q]
      refine wp_mono (rep11_C h hX.2.2.2.2.1 hXI.2.2.2.2.1 hK.1 q) (fun m ⟨a1, a2⟩ => ?_)
      refine ⟨rfl, by decide, by decide, ?_, a1, a2⟩
      unfold rp11
      rw [List.length_append, rep11_len, List.length_singleton]
      omega
    · rw [if_neg q]
      refine wp_mono (act11_C h hX.2.2.2.2.1 hXI.2.2.2.2.1 hP h7 hw q) (fun m ⟨a1, a2⟩ => ?_)
      exact ⟨hK.fr a2 (fun c k _ => by omega), ⟨hX.1.fr a2 (by omega) (fun k => by omega), hX.2.1.fr a2 (fun k => by omega), hX.2.2.1.fr a2 (fun k => by omega), hX.2.2.2.1.fr a2 (by omega) (fun c k _ _ => by omega), a1, hX.2.2.2.2.2.fr a2 (fun c k _ _ => by omega)⟩, a2.mono (by intro c k h; omega)⟩
  · rw [h7] at e7
    rw [f25_12 e7]
    refine pas ?_
    rw [if_neg (by omega), if_neg (by omega), if_neg (by omega), if_neg (by omega), if_neg (by omega), if_pos h7] at hw
    unfold actB
    rw [if_neg (by omega), if_neg (by omega), if_neg (by omega), if_neg (by omega), if_neg (by omega), if_pos h7]
    by_cases q : bs.getD 8 0 = 13
    · rw [if_pos q]
      refine wp_mono (rep12_C h hX.2.2.1 hXI.2.2.1 hK.1 q) (fun m ⟨a1, a2⟩ => ?_)
      exact ⟨rfl, by decide, by decide, by rw [rep12_len]; decide, a1, a2⟩
    · rw [if_neg q]
      refine wp_mono (act12_C h hX.2.2.1 q hw) (fun m ⟨a1, a2⟩ => ?_)
      exact ⟨hK.fr a2 (fun c k _ => by omega), ⟨hX.1.fr a2 (by omega) (fun k => by omega), hX.2.1.fr a2 (fun k => by omega), a1, hX.2.2.2.1.fr a2 (by omega) (fun c k _ _ => by omega), hX.2.2.2.2.1.fr a2 (by omega) (by omega) (fun c k _ _ => by omega), hX.2.2.2.2.2.fr a2 (fun c k _ _ => by omega)⟩, a2.mono (by intro c k h; omega)⟩
  · rw [h7] at e7
    rw [f25_15 e7]
    rw [if_neg (by omega), if_neg (by omega), if_neg (by omega), if_neg (by omega), if_neg (by omega), if_neg (by omega), if_pos h7] at hw
    exact pas (act15_C hK hKI hX hXI h hP h7 hw)
  · rw [h7] at e7
    rw [f25_17 e7]
    refine pas ?_
    unfold actB
    rw [if_neg (by omega), if_neg (by omega), if_neg (by omega), if_neg (by omega), if_neg (by omega), if_neg (by omega), if_neg (by omega), if_pos h7, i_17, i_2]
    refine wp_mono (begin_C (sv := 17) (sb := 2) hK.1 (by omega) (by omega)) (fun m ⟨a1, a2⟩ => ?_)
    exact ⟨rfl, by decide, by decide, by decide, by rw [List.append_nil]; exact a1, a2⟩
  · rw [h7] at e7
    rw [f25_19 e7]
    refine pas ?_
    rw [if_neg (by omega), if_neg (by omega), if_neg (by omega), if_neg (by omega), if_neg (by omega), if_neg (by omega), if_neg (by omega), if_pos h7] at hw
    unfold actB
    rw [if_neg (by omega), if_neg (by omega), if_neg (by omega), if_neg (by omega), if_neg (by omega), if_neg (by omega), if_neg (by omega), if_neg (by omega), if_pos h7]
    refine wp_mono (act19_C h hX.2.2.2.1 hXI.2.2.2.1 hP h7 hw) (fun m ⟨a1, a2⟩ => ?_)
    exact ⟨hK.fr a2 (fun c k _ => by omega), ⟨hX.1.fr a2 (by omega) (fun k => by omega), hX.2.1.fr a2 (fun k => by omega), hX.2.2.1.fr a2 (fun k => by omega), a1, hX.2.2.2.2.1.fr a2 (by omega) (by omega) (fun c k _ _ => by omega), hX.2.2.2.2.2.fr a2 (fun c k _ _ => by omega)⟩, a2.mono (by intro c k h; omega)⟩
  · rw [h7] at e7
    rw [f25_20 e7]
    refine pas ?_
    rw [if_neg (by omega), if_neg (by omega), if_neg (by omega), if_neg (by omega), if_neg (by omega), if_neg (by omega), if_neg (by omega), if_neg (by omega), if_pos h7] at hw
    unfold actB
    rw [if_neg (by omega), if_neg (by omega), if_neg (by omega), if_neg (by omega), if_neg (by omega), if_neg (by omega), if_neg (by omega), if_neg (by omega), if_neg (by omega)]
    by_cases q : bs.getD 8 0 = 3
    · rw [if_pos q]
      refine wp_mono (set20_C h hK.2.1 q hw) (fun m ⟨a1, a2⟩ => ?_)
      exact ⟨⟨hK.1.fr a2 (fun c k _ => by omega), a1, hK.2.2.1.fr a2 (fun c k _ _ => by omega), hK.2.2.2.1.fr a2 (fun k => by omega), hK.2.2.2.2.fr a2 (by omega) (fun k => by omega)⟩, hX.fr a2 (fun c k _ => by omega), a2.mono (by intro c k h; omega)⟩
    · rw [if_neg q]
      have hs := hP.s20 h7
      refine wp_mono (rep20_C h hK.1 hV hP h7 (by omega) hw) (fun m ⟨a1, a2⟩ => ?_)
      refine ⟨rfl, by decide, by decide, ?_, a1, a2⟩
      unfold rep20
      rw [List.length_append, vlN_len, List.length_singleton]
      omega
abbrev FRa : Nat → Nat → Prop := fun c k => c = 57 ∧ (k = 13 ∨ k = 14) ∨ 59 ≤ c ∧ c ≤ 88 ∨ c = 101 ∧ 11 ≤ k ∧ k ≤ 13 ∨ 108 ≤ c ∧ c ≤ 119 ∨ 124 ≤ c ∧ c ≤ 128
theorem actF_C {μ : Mem} {b : Bw} {bs : List Nat} (hK : KC μ b.1) (hKI : KI b.1) (hX : XC μ b.2) (hXI : XI b.2) (h : Byt μ 122 bs) (hP : Pkg bs) (hw : whyB b bs = 0) (K : Mem → Option Mem) (Q : Mem → Prop) (hk : ∀ m, KC m (finB (actB b bs)).1 → XC m (finB (actB b bs)).2 → Byt m 122 bs → Fr FRa μ m → wp (K m) Q) : wp ((f25 μ).bind fun r1 => (f118 r1).bind fun r3 => if r3.2 = 0 then K r3.1 else (f119 r3.1).bind fun r6 => K r6) Q := by
  refine wp_bind (actB_C hK hKI hX hXI h hP hw) (fun m hm => ?_)
  unfold PnC at hm
  unfold finB at hk
  generalize actB b bs = A at *
  obtain ⟨b2, o⟩ := A
  dsimp only at hm hk
  cases o with
  | none =>
    dsimp only at hm hk
    obtain ⟨a1, a2, a3⟩ := hm
    have e87 := a1.2.2.2.2.1
    unfold f118
    rw [e87]
    show wp ((if nI 0 ≤ 0 then rtZ 0 m else rtZ 1 m).bind _) Q
    rw [if_pos (show nI 0 ≤ (0 : Int32) by decide), i_0, rtZ_0, Option.bind_some]
    dsimp only
    rw [if_pos rfl]
    exact hk m a1 a2 (h.fr a3 (by omega) (fun k => by omega)) (a3.mono (by intro c k h; omega))
  | some t =>
    obtain ⟨sv, sb, d⟩ := t
    dsimp only at hm hk
    obtain ⟨rfl, a1, a2, a3, a4, a5⟩ := hm
    have e87 := a4.1
    rw [List.length_append, bgL_len] at e87
    have mc := hK.1.fr a5 (fun c k _ => by omega)
    unfold f118
    rw [e87, i_0, if_neg (fun z => by have := (nI_leI (by omega) (by omega)).mp z; omega), i_1, rtZ_1, Option.bind_some]
    dsimp only
    rw [if_neg (by decide)]
    refine wp_bind (finish_C mc hKI.1 a4 a1 a2 a3) (fun m2 ⟨c1, c2, c3⟩ => ?_)
    have f2 : Fr FMk μ m2 := a5.tr c3 (by intro c k h; omega) (fun _ _ q => q)
    exact hk m2 (hK.mk c1 c2 f2) (hX.fr f2 (fun c k _ => by omega)) (h.fr f2 (by omega) (fun k => by omega)) (f2.mono (by intro c k h; omega))
