/-! ===== the board: requests that are run, put together ===== -/
abbrev Xw : Type := List Nat × (Nat → Nat → Int32) × (Nat → Nat → Int32) × Aw × Tw × List Pk
abbrev Bw : Type := Kw × Xw
def XC (μ : Mem) (x : Xw) : Prop := Byt μ 127 x.1 ∧ StrC μ x.2.1 ∧ WtC μ x.2.2.1 ∧ EvC μ x.2.2.2.1 ∧ ScC μ x.2.2.2.2.1 ∧ Shf μ 81 x.2.2.2.2.2
def XM (μ : Mem) (x : Xw) : Prop := Seg μ 189 0 x.1 ∧ StrM μ x.2.1 ∧ WtN μ x.2.2.1 ∧ EvM μ x.2.2.2.1 ∧ ScM μ x.2.2.2.2.1 ∧ PsM μ x.2.2.2.2.2
def XI (x : Xw) : Prop := x.1.length = 1024 ∧ StrI x.2.1 ∧ WtI x.2.2.1 ∧ EvI x.2.2.2.1 ∧ EnI x.2.2.2.2.1.2.2 ∧ PsI x.2.2.2.2.2
theorem PsM.fr {μ m : Mem} {ps : List Pk} {P : Nat → Nat → Prop} (h : PsM μ ps) (ho : Fr P μ m) (h0 : ¬ P 129 90) (h1 : ∀ c k, 167 ≤ c → c ≤ 168 → ¬ P c k) : PsM m ps := ⟨by rw [ho.1 _ _ h0]; exact h.1, h.2.fr ho (fun k => h1 _ k (by omega) (by omega)) (fun k => h1 _ k (by omega) (by omega))⟩
theorem XC.fr {μ m : Mem} {x : Xw} {P : Nat → Nat → Prop} (h : XC μ x) (ho : Fr P μ m) (h1 : ∀ c k, 81 ≤ c ∧ c ≤ 86 ∨ c = 101 ∧ 11 ≤ k ∧ k ≤ 13 ∨ 108 ≤ c ∧ c ≤ 119 ∨ 125 ≤ c ∧ c ≤ 128 → ¬ P c k) : XC m x :=
  ⟨h.1.fr ho (h1 _ _ (by omega)) (fun k => h1 _ _ (by omega)), h.2.1.fr ho (fun k => h1 _ _ (by omega)), h.2.2.1.fr ho (fun k => h1 _ _ (by omega)), h.2.2.2.1.fr ho (h1 _ _ (by omega)) (fun c k _ _ => h1 _ _ (by omega)), h.2.2.2.2.1.fr ho (h1 _ _ (by omega)) (h1 _ _ (by omega)) (fun c k _ _ => h1 _ _ (by omega)), h.2.2.2.2.2.fr ho (fun c k _ _ => h1 _ _ (by omega))⟩
theorem XM.fr {μ m : Mem} {x : Xw} {P : Nat → Nat → Prop} (h : XM μ x) (hI : XI x) (ho : Fr P μ m) (h1 : ∀ c k, c = 129 ∧ (k = 90 ∨ k = 128 ∨ k = 130) ∨ 167 ≤ c ∧ c ≤ 168 ∨ 183 ≤ c ∧ c ≤ 207 → ¬ P c k) : XM m x :=
  ⟨h.1.fr ho (fun k => h1 _ _ (by omega)), h.2.1.fr ho (fun c k _ _ => h1 _ _ (by omega)), h.2.2.1.fr ho (fun c k _ _ => h1 _ _ (by omega)), h.2.2.2.1.fr ho (fun c k _ _ => h1 _ _ (by omega)), h.2.2.2.2.1.fr hI.2.2.2.2.1 ho (h1 _ _ (by omega)) (h1 _ _ (by omega)) (fun c k _ => h1 _ _ (by omega)), h.2.2.2.2.2.fr ho (h1 _ _ (by omega)) (fun c k _ _ => h1 _ _ (by omega))⟩
def enB (b : Bw) : Nat := b.2.2.2.2.2.1.2.2.length
def whyB (b : Bw) (bs : List Nat) : Nat :=
  if bs.getD 7 0 = 3 then why3 b.2.2.1 bs
  else if bs.getD 7 0 = 5 then why5 bs
  else if bs.getD 7 0 = 6 then why6 bs
  else if bs.getD 7 0 = 8 then (if bs.getD 11 0 ≤ 3 then 0 else 15)
  else if bs.getD 7 0 = 11 then why11 b.1.1.1 b.2.2.2.2.2.1 bs
  else if bs.getD 7 0 = 12 then why12 b.2.2.2.1 bs
  else if bs.getD 7 0 = 15 then why15 b.1.1 b.2.2.2.2.2.2 bs
  else if bs.getD 7 0 = 19 then why19 b.2.2.2.2.1 bs
  else if bs.getD 7 0 = 20 then why20 bs
  else 0
theorem f24_3 {μ : Mem} (e7 : f75 122 (7 : Int32) μ = some (μ, nI 3)) : f24 μ = (f33 μ).bind fun r => some (r.1, r.2) := by
  unfold f24
  rw [e7, Option.bind_some]
  dsimp only
  repeat refine ite_no (by decide) ?_
  exact ite_yes (by decide) rfl
theorem f24_6 {μ : Mem} (e7 : f75 122 (7 : Int32) μ = some (μ, nI 6)) : f24 μ = (f31 μ).bind fun r => some (r.1, r.2) := by
  unfold f24
  rw [e7, Option.bind_some]
  dsimp only
  repeat refine ite_no (by decide) ?_
  exact ite_yes (by decide) rfl
theorem f24_11 {μ : Mem} (e7 : f75 122 (7 : Int32) μ = some (μ, nI 11)) : f24 μ = (f52 μ).bind fun r => some (r.1, r.2) := by
  unfold f24
  rw [e7, Option.bind_some]
  dsimp only
  repeat refine ite_no (by decide) ?_
  exact ite_yes (by decide) rfl
theorem f24_12 {μ : Mem} (e7 : f75 122 (7 : Int32) μ = some (μ, nI 12)) : f24 μ = (f43 μ).bind fun r => some (r.1, r.2) := by
  unfold f24
  rw [e7, Option.bind_some]
  dsimp only
  repeat refine ite_no (by decide) ?_
  exact ite_yes (by decide) rfl
theorem f24_15 {μ : Mem} (e7 : f75 122 (7 : Int32) μ = some (μ, nI 15)) : f24 μ = (f61 μ).bind fun r => some (r.1, r.2) := by
  unfold f24
  rw [e7, Option.bind_some]
  dsimp only
  repeat refine ite_no (by decide) ?_
  exact ite_yes (by decide) rfl
theorem f24_19 {μ : Mem} (e7 : f75 122 (7 : Int32) μ = some (μ, nI 19)) : f24 μ = (f41 μ).bind fun r => some (r.1, r.2) := by
  unfold f24
  rw [e7, Option.bind_some]
  dsimp only
  repeat refine ite_no (by decide) ?_
  exact ite_yes (by decide) rfl
theorem f24_20 {μ : Mem} (e7 : f75 122 (7 : Int32) μ = some (μ, nI 20)) : f24 μ = (f26 μ).bind fun r => some (r.1, r.2) := by
  unfold f24
  rw [e7, Option.bind_some]
  dsimp only
  repeat refine ite_no (by decide) ?_
  exact ite_yes (by decide) rfl
theorem f24_5 {μ : Mem} (e7 : f75 122 (7 : Int32) μ = some (μ, nI 5)) : f24 μ = (f20 (0 : Int32) μ).bind fun r7 => if r7.2 < (32 : Int32) then some (r7.1, (0 : Int32)) else some (r7.1, (14 : Int32)) := by
  unfold f24
  rw [e7, Option.bind_some]
  dsimp only
  repeat refine ite_no (by decide) ?_
  exact ite_yes (by decide) rfl
theorem f24_8 {μ : Mem} (e7 : f75 122 (7 : Int32) μ = some (μ, nI 8)) : f24 μ = (f20 (0 : Int32) μ).bind fun r15 => if r15.2 ≤ (3 : Int32) then some (r15.1, (0 : Int32)) else some (r15.1, (15 : Int32)) := by
  unfold f24
  rw [e7, Option.bind_some]
  dsimp only
  repeat refine ite_no (by decide) ?_
  exact ite_yes (by decide) rfl
theorem f24_17 {μ : Mem} (e7 : f75 122 (7 : Int32) μ = some (μ, nI 17)) : f24 μ = some (μ, (0 : Int32)) := by
  unfold f24
  rw [e7, Option.bind_some]
  dsimp only
  repeat refine ite_no (by decide) ?_
  exact ite_yes (by decide) rfl
theorem ch5_M {t s0 : Int32} {μ : Mem} : c321_20 (nI 5) t s0 μ = if s0 ≤ (31 : Int32) then some (μ, (0 : Int32)) else some (μ, (14 : Int32)) := by
  unfold c321_20
  repeat refine ite_no (by decide) ?_
  exact ite_yes (by decide) rfl
theorem ch8_M {t s0 : Int32} {μ : Mem} : c321_20 (nI 8) t s0 μ = if s0 ≤ (3 : Int32) then some (μ, (0 : Int32)) else some (μ, (15 : Int32)) := by
  unfold c321_20
  repeat refine ite_no (by decide) ?_
  exact ite_yes (by decide) rfl
theorem ch17_M {t s0 : Int32} {μ : Mem} : c321_20 (nI 17) t s0 μ = some (μ, (0 : Int32)) := by
  unfold c321_20
  repeat refine ite_no (by decide) ?_
  exact ite_yes (by decide) rfl
theorem whyB_C {μ : Mem} {b : Bw} {bs : List Nat} (hK : KC μ b.1) (hKI : KI b.1) (hX : XC μ b.2) (hXI : XI b.2) (h : Byt μ 122 bs) (hP : Pkg bs) : f24 μ = some (μ, nI (whyB b bs)) := by
  have e7 := sv_C h
  have e11 := arg_C h (i := 0) (by omega)
  have b11 := h.get 11
  rw [show 11 + 0 = 11 from rfl] at e11
  unfold whyB
  rcases hP.sv with h7 | h7 | h7 | h7 | h7 | h7 | h7 | h7 | h7 | h7
  · rw [h7] at e7
    rw [f24_3 e7, h7]
    exact bind_id (why3_C h hX.2.1 hP h7)
  · rw [h7] at e7
    rw [f24_5 e7, h7, i_0, e11, Option.bind_some, i_32]
    show _ = some (μ, nI (why5 bs))
    unfold why5
    dsimp only
    by_cases q : bs.getD 11 0 < 32
    · rw [if_pos q, if_pos ((nI_ltI (by omega) (by omega)).mpr q)]
    · rw [if_neg q, if_neg (fun z => q ((nI_ltI (by omega) (by omega)).mp z)), i_14]
  · rw [h7] at e7
    rw [f24_6 e7, h7]
    exact bind_id (why6_C h)
  · rw [h7] at e7
    rw [f24_8 e7, h7, i_0, e11, Option.bind_some, i_3]
    show _ = some (μ, nI (if bs.getD 11 0 ≤ 3 then 0 else 15))
    dsimp only
    by_cases q : bs.getD 11 0 ≤ 3
    · rw [if_pos q, if_pos ((nI_leI (by omega) (by omega)).mpr q)]
    · rw [if_neg q, if_neg (fun z => q ((nI_leI (by omega) (by omega)).mp z)), i_15]
  · rw [h7] at e7
    rw [f24_11 e7, h7]
    exact bind_id (why11_C h hX.2.2.2.2.1 hXI.2.2.2.2.1 hK.1.2.1 hKI.1.1)
  · rw [h7] at e7
    rw [f24_12 e7, h7]
    exact bind_id (why12_C h hX.2.2.1)
  · rw [h7] at e7
    rw [f24_15 e7, h7]
    exact bind_id (why15_C h hK.1 hX.2.2.2.2.2)
  · rw [h7] at e7
    rw [f24_17 e7, h7]
    rfl
  · rw [h7] at e7
    rw [f24_19 e7, h7]
    exact bind_id (why19_C h hX.2.2.2.1 hXI.2.2.2.1)
  · rw [h7] at e7
    rw [f24_20 e7, h7]
    exact bind_id (why20_C h)
theorem whyB_M {μ : Mem} {b : Bw} {bs : List Nat} {dep : Nat} (hK : KM μ b.1) (hKI : KI b.1) (hX : XM μ b.2) (hXI : XI b.2) (h : CurM μ bs dep) (hP : Pkg bs) : f321 (nI (bs.getD 7 0)) (nI (bs.getD 8 0)) μ = some (μ, nI (whyB b bs)) := by
  have hl := hP.2.1
  have b11 := getD_lt h.2.2.2 11
  unfold whyB
  rcases hP.sv with h7 | h7 | h7 | h7 | h7 | h7 | h7 | h7 | h7 | h7
  · rw [h7]
    exact why3_M h hX.2.1 hP h7
  · have hs := hP.s5 h7
    have hx : xq bs = bs.getD 11 0 := by unfold xq; rw [if_pos (by omega)]
    rw [h7, why_M h hl, ch5_M, hx, i_31]
    show _ = some (μ, nI (why5 bs))
    unfold why5
    by_cases q : bs.getD 11 0 < 32
    · rw [if_pos q, if_pos ((nI_leI (by omega) (by omega)).mpr (by omega)), i_0]
    · rw [if_neg q, if_neg (fun z => q (by have := (nI_leI (by omega) (by omega)).mp z; omega)), i_14]
  · rw [h7]
    exact why6_M h hP h7
  · have hs := hP.s8 h7
    have hx : xq bs = bs.getD 11 0 := by unfold xq; rw [if_pos (by omega)]
    rw [h7, why_M h hl, ch8_M, hx, i_3]
    show _ = some (μ, nI (if bs.getD 11 0 ≤ 3 then 0 else 15))
    by_cases q : bs.getD 11 0 ≤ 3
    · rw [if_pos q, if_pos ((nI_leI (by omega) (by omega)).mpr q), i_0]
    · rw [if_neg q, if_neg (fun z => q ((nI_leI (by omega) (by omega)).mp z)), i_15]
  · rw [h7]
    exact why11_M h hX.2.2.2.2.1 hXI.2.2.2.2.1 hK.1.1 hKI.1.1 hP h7
  · rw [h7]
    exact why12_M h hX.2.2.1 hP h7
  · rw [h7]
    exact why15_M h hK.1 hX.2.2.2.2.2 hXI.2.2.2.2.2 hP h7
  · rw [h7, why_M h hl, ch17_M]
    rfl
  · rw [h7]
    exact why19_M h hX.2.2.2.1 hP h7
  · rw [h7]
    exact why20_M h hP h7
/-! what a request does -/
def actB (b : Bw) (bs : List Nat) : Bw × Option (Nat × Nat × List Nat) :=
  if bs.getD 7 0 = 3 then (if bs.getD 8 0 = 27 then (b, some (3, 25, repS b.1 (enB b) b.2.2.1 (bs.getD 11 0))) else ((b.1, b.2.1, act3 b.2.2.1 bs, b.2.2.2), none))
  else if bs.getD 7 0 = 5 then ((b.1, b.2.1, b.2.2.1, b.2.2.2.1, act5 b.2.2.2.2.1 bs, b.2.2.2.2.2), none)
  else if bs.getD 7 0 = 6 then (if bs.getD 8 0 = 2 then ((b.1, mset b.2.1 (w2 bs 11) (fun i => bs.getD (14 + i) 0) (bs.getD 13 0), b.2.2), none) else (b, some (6, sb6 bs, rep6 bs b.2.1)))
  else if bs.getD 7 0 = 8 then (if bs.getD 11 0 = 1 then (((b.1.1, upL b.1.2.1 0 (nI (w4l bs 12)), b.1.2.2), b.2), none) else (b, none))
  else if bs.getD 7 0 = 11 then (if bs.getD 8 0 = 16 then (b, some (11, 17, rp11 b.2.2.2.2.2.1.2.2)) else ((b.1, b.2.1, b.2.2.1, b.2.2.2.1, b.2.2.2.2.1, act11 b.2.2.2.2.2.1 bs, b.2.2.2.2.2.2), none))
  else if bs.getD 7 0 = 12 then (if bs.getD 8 0 = 13 then (b, some (12, 14, rep12 b.2.2.2.1 6)) else ((b.1, b.2.1, b.2.2.1, act12 b.2.2.2.1 bs, b.2.2.2.2), none))
  else if bs.getD 7 0 = 15 then
    (if bs.getD 8 0 = 1 then (((stoP b.1.1 (bs.getD 11 0) (onS (stoG b.1.1 (bs.getD 11 0)) (nI 1)), b.1.2), b.2), none)
    else if bs.getD 8 0 = 2 then (((stoP b.1.1 (bs.getD 11 0) (onS (stoG b.1.1 (bs.getD 11 0)) (nI 0)), b.1.2), b.2), none)
    else if bs.getD 8 0 = 3 then (((stoP b.1.1 (bs.getD 11 0) (chS (stoG b.1.1 (bs.getD 11 0)) (w2 bs 12)), b.1.2), b.2), none)
    else if bs.getD 8 0 = 9 then ((b.1, b.2.1, b.2.2.1, b.2.2.2.1, b.2.2.2.2.1, b.2.2.2.2.2.1, paW (stoG b.1.1 (bs.getD 11 0)).2.2 (nI (w4l bs 12)) (nI (w4l bs 16)) (stoG b.1.1 (bs.getD 11 0)).2.2.length), none)
    else if bs.getD 8 0 = 11 then (((stoP b.1.1 (bs.getD 11 0) ((stoG b.1.1 (bs.getD 11 0)).1, (stoG b.1.1 (bs.getD 11 0)).2.1, kpU (nI (w4l bs 12)) (stoG b.1.1 (bs.getD 11 0)).2.2), b.1.2), b.2), none)
    else (((stoP b.1.1 (bs.getD 11 0) (rsS (nI (bs.getD 12 0))), b.1.2), b.2), none))
  else if bs.getD 7 0 = 17 then (b, some (17, 2, []))
  else if bs.getD 7 0 = 19 then ((b.1, b.2.1, b.2.2.1, b.2.2.2.1, act19 b.2.2.2.2.1 bs, b.2.2.2.2.2), none)
  else (if bs.getD 8 0 = 3 then (((b.1.1, paS bs b.1.2.1 (bs.getD 11 0), b.1.2.2), b.2), none) else (b, some (20, 2, rep20 b.1 (enB b) bs)))
def finB (x : Bw × Option (Nat × Nat × List Nat)) : Bw := match x.2 with
  | none => x.1
  | some (sv, sb, d) => ((makeW x.1.1.1 sv sb d, x.1.1.2), x.1.2)
