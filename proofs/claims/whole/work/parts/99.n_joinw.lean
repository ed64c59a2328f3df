/-! ===== the ground: packets of a frame ===== -/
def JC (μ : Mem) (j : Jw) : Prop := (∀ c, c < 2 → Byt μ (52 + 2 * c) (j.1 c).1 ∧ μ.1 56 c = lcC (j.1 c).2) ∧ μ.1 49 15 = j.2
def JM (μ : Mem) (j : Jw) : Prop := (∀ c, c < 2 → μ.1 160 c = nI (j.1 c).1.length ∧ Seg μ 161 (200 * c) (j.1 c).1 ∧ μ.1 159 c = lcM (j.1 c).2) ∧ μ.1 129 69 = j.2
def JI (j : Jw) : Prop := ∀ c, c < 2 → bgI (j.1 c).1 ∧ ∀ v, (j.1 c).2 = some v → v < 256
theorem JC.fr {μ m : Mem} {j : Jw} {P : Nat → Nat → Prop} (h : JC μ j) (ho : Fr P μ m) (h1 : ∀ c k, 52 ≤ c ∧ c ≤ 56 ∨ c = 49 ∧ k = 15 → ¬ P c k) : JC m j :=
  ⟨fun c hc => ⟨(h.1 c hc).1.fr ho (h1 _ _ (by omega)) (fun k => h1 _ _ (by omega)), by rw [ho.1 _ _ (h1 _ _ (by omega))]; exact (h.1 c hc).2⟩, by rw [ho.1 _ _ (h1 _ _ (by omega))]; exact h.2⟩
theorem JM.fr {μ m : Mem} {j : Jw} {P : Nat → Nat → Prop} (h : JM μ j) (ho : Fr P μ m) (h1 : ∀ c k, 159 ≤ c ∧ c ≤ 161 ∨ c = 129 ∧ k = 69 → ¬ P c k) : JM m j :=
  ⟨fun c hc => ⟨by rw [ho.1 _ _ (h1 _ _ (by omega))]; exact (h.1 c hc).1, ⟨fun i hi => by rw [ho.1 _ _ (h1 _ _ (by omega))]; exact (h.1 c hc).2.1.1 i hi, (h.1 c hc).2.1.2⟩, by rw [ho.1 _ _ (h1 _ _ (by omega))]; exact (h.1 c hc).2.2⟩, by rw [ho.1 _ _ (h1 _ _ (by omega))]; exact h.2⟩
def gpB (own : Option Nat) (n : Nat) : Bool :=
  match own with
  | none => false
  | some v => decide (n ≠ (v + 1) % 256)
abbrev Jt : Type := Gw × (Nat → Rq) × Jw
def joB (fr : List Nat) (x : List Nat × Option Nat) : List Nat := if gpB x.2 (fr.getD 3 0) = true then [] else x.1
def joP (fr bl : List Nat) : Nat := if bl.length = 0 then w2 fr 4 % 2048 else 0
def joR (t c : Nat) (fr : List Nat) (s : Jt) : Js := jnL t c (jnX fr (joP fr (joB fr (s.2.2.1 c)))) (s.1, s.2.1, joB fr (s.2.2.1 c))
def joN (t c : Nat) (fr : List Nat) (s : Jt) : Jt := ((joR t c fr s).1, (joR t c fr s).2.1, upL s.2.2.1 c ((joR t c fr s).2.2, some (fr.getD 3 0)), if gpB (s.2.2.1 c).2 (fr.getD 3 0) = true then s.2.2.2 + 1 else s.2.2.2)
def joW (t : Nat) (fr : List Nat) (s : Jt) : Jt := if 1 < fr.getD 1 0 / 2 % 8 then s else joN t (fr.getD 1 0 / 2 % 8) fr s
theorem bgI_jo {fr : List Nat} {x : List Nat × Option Nat} (h : bgI x.1) : bgI (joB fr x) := by
  unfold joB
  by_cases q : gpB x.2 (fr.getD 3 0) = true
  · rw [if_pos q]; exact bgI_0
  · rw [if_neg q]; exact h
theorem jnX_mem {fr : List Nat} {p : Nat} (h : ∀ b, b ∈ fr → b < 256) : ∀ b, b ∈ jnX fr p → b < 256 := fun b hb => h b (List.mem_of_mem_drop (List.mem_of_mem_take hb))
theorem joN_I {t c : Nat} {fr : List Nat} {s : Jt} (hc : c < 2) (hF : ∀ b, b ∈ fr → b < 256) (hfl : fr.length = 64) (h1 : GwI s.1) (h2 : JI s.2.2) : GwI (joN t c fr s).1 ∧ JI (joN t c fr s).2.2 ∧ (joN t c fr s).1.2.1 ≤ s.1.2.1 + 52 := by
  obtain ⟨a, b, d⟩ := jnL_I (t := t) hc (jnX fr (joP fr (joB fr (s.2.2.1 c)))) (s.1, s.2.1, joB fr (s.2.2.1 c)) (jnX_mem hF) h1 (bgI_jo (h2 c hc).1)
  rw [jnX_len hfl] at d
  refine ⟨a, fun c' hc' => ?_, Nat.le_trans d (by show s.1.2.1 + _ ≤ _; omega)⟩
  show bgI (upL s.2.2.1 c ((joR t c fr s).2.2, some (fr.getD 3 0)) c').1 ∧ ∀ v, (upL s.2.2.1 c ((joR t c fr s).2.2, some (fr.getD 3 0)) c').2 = some v → v < 256
  by_cases e : c' = c
  · rw [e, upL_s]
    refine ⟨b, fun v hv => ?_⟩
    cases hv
    exact getD_lt hF 3
  · rw [upL_o e]
    exact h2 c' hc'
theorem joW_I {t : Nat} {fr : List Nat} {s : Jt} (hF : ∀ b, b ∈ fr → b < 256) (hfl : fr.length = 64) (h1 : GwI s.1) (h2 : JI s.2.2) : GwI (joW t fr s).1 ∧ JI (joW t fr s).2.2 ∧ (joW t fr s).1.2.1 ≤ s.1.2.1 + 52 := by
  unfold joW
  by_cases q : 1 < fr.getD 1 0 / 2 % 8
  · rw [if_pos q]; exact ⟨h1, h2, Nat.le_add_right _ _⟩
  · rw [if_neg q]; exact joN_I (by omega) hF hfl h1 h2
abbrev FJC : Nat → Nat → Prop := fun a k => 15 ≤ a ∧ a ≤ 25 ∨ a = 12 ∧ 9 ≤ k ∧ k ≤ 12 ∨ 52 ≤ a ∧ a ≤ 56 ∨ a = 49 ∧ k = 15
theorem lcC_no {own : Option Nat} (h : ∀ v, own = some v → v < 256) {n : Nat} (hn : n < 256) : (lcC own < 0 ∧ gpB own n = false) ∨ ∃ v, own = some v ∧ ¬ lcC own < 0 ∧ (nI n = ((lcC own + nI 1) &&& nI 255) ↔ gpB own n = false) := by
  cases own with
  | none => exact Or.inl ⟨by decide, rfl⟩
  | some v =>
    have hv := h v rfl
    refine Or.inr ⟨v, rfl, fun z => by have := (nI_ltI (a := v) (b := 0) (by omega) (by omega)).mp z; omega, ?_⟩
    show nI n = ((nI v + nI 1) &&& nI 255) ↔ decide (n ≠ (v + 1) % 256) = false
    rw [nI_add, an_255, nI_eq (by omega) (by omega), decide_eq_false_iff_not]
    omega
theorem jo_C {μ : Mem} {t c : Nat} {s : Jt} {fr : List Nat} (hTb : Tb μ) (hT : To μ) (h : ReqC μ t s.2.1) (hG : GwC μ s.1) (hI : GwI s.1) (hJ : JC μ s.2.2) (hJI : JI s.2.2) (hF : Byt μ 50 fr) (hfl : fr.length = 64) (hc : c < 2) :
    wp (c105_35 (nI c) (52 + 2 * c) μ) (fun m => ReqC m t (joN t c fr s).2.1 ∧ GwC m (joN t c fr s).1 ∧ JC m (joN t c fr s).2.2 ∧ Fr FJC μ m) := by
  have g56 := gl_56
  have b3 := hF.get 3
  have b4 := hF.get 4
  have b5 := hF.get 5
  have hjc := hJ.1 c hc
  have hji := hJI c hc
  unfold c105_35
  have st1 : wp (f106 (nI c) (52 + 2 * c) μ) (fun m => Byt m (52 + 2 * c) (joB fr (s.2.2.1 c)) ∧ m.1 56 c = nI (fr.getD 3 0) ∧ m.1 49 15 = (if gpB (s.2.2.1 c).2 (fr.getD 3 0) = true then s.2.2.2 + 1 else s.2.2.2) ∧ Fr (fun a k => a = 52 + 2 * c ∨ a = 53 + 2 * c ∨ a = 56 ∧ k = c ∨ a = 49 ∧ k = 15) μ m) := by
    unfold f106 c106_50 joB
    rw [i_3, at_ok hF (k := 3) (by omega), Option.bind_some]
    dsimp only
    rw [i_1, an_1, Nat.mod_eq_of_lt hc, ldA_N (by omega), Option.bind_some, hjc.2]
    have ok : gpB (s.2.2.1 c).2 (fr.getD 3 0) = false → wp ((stA 56 (nI c) (nI (fr.getD 3 0)) μ).bind fun m1 => some m1) (fun m => Byt m (52 + 2 * c) (if gpB (s.2.2.1 c).2 (fr.getD 3 0) = true then [] else (s.2.2.1 c).1) ∧ m.1 56 c = nI (fr.getD 3 0) ∧ m.1 49 15 = (if gpB (s.2.2.1 c).2 (fr.getD 3 0) = true then s.2.2.2 + 1 else s.2.2.2) ∧ Fr (fun a k => a = 52 + 2 * c ∨ a = 53 + 2 * c ∨ a = 56 ∧ k = c ∨ a = 49 ∧ k = 15) μ m) := by
      intro z
      rw [z, if_neg (by decide), if_neg (by decide), stA_N (by omega), Option.bind_some]
      have f0 : Fr (fun a k => a = 56 ∧ k = c) μ (setI μ 56 c (nI (fr.getD 3 0))) := Fr.sI ⟨rfl, rfl⟩
      exact wp_some ⟨hjc.1.fr f0 (by omega) (fun k => by omega), by rw [rdI, if_pos ⟨rfl, rfl⟩], by rw [f0.1 _ _ (by omega)]; exact hJ.2, f0.mono (by intro c k h; omega)⟩
    rcases lcC_no hji.2 b3 with ⟨z1, z2⟩ | ⟨v, _, z1, z2⟩
    · rw [if_pos z1]
      exact ok z2
    · rw [if_neg z1, i_255]
      by_cases z3 : gpB (s.2.2.1 c).2 (fr.getD 3 0) = false
      · rw [if_pos (z2.mpr z3)]
        exact ok z3
      · rw [if_neg (fun z => z3 (z2.mp z)), hJ.2]
        have z4 : gpB (s.2.2.1 c).2 (fr.getD 3 0) = true := Bool.not_eq_false _ ▸ z3
        rw [if_pos z4, if_pos z4]
        unfold pfI
        rw [Option.bind_some]
        have f0 : Fr (fun a k => a = 49 ∧ k = 15) μ (setI μ 49 15 (s.2.2.2 + nI 1)) := Fr.sI ⟨rfl, rfl⟩
        refine wp_bind (cl_ok _ _) (fun m2 ⟨b1, b2⟩ => ?_)
        rw [stA_N (by omega), Option.bind_some]
        refine wp_some ⟨?_, by rw [rdI, if_pos ⟨rfl, rfl⟩], ?_, ((f0.mono (by intro c k h; omega)).tr b2 (fun _ _ q => q) (by intro c k h; omega)).pI (by omega)⟩
        · exact b1.set_o (by omega)
        · rw [rdI, if_neg (by omega), b2.1 _ _ (by omega), rdI, if_pos ⟨rfl, rfl⟩]
  refine wp_bind st1 (fun m ⟨a1, a2, a3, a4⟩ => ?_)
  have hF1 := hF.fr a4 (by omega) (fun k => by omega)
  have fin : ∀ p, p = joP fr (joB fr (s.2.2.1 c)) → wp (c105_65 (nI c) (52 + 2 * c) (nI p) m) (fun m => ReqC m t (joN t c fr s).2.1 ∧ GwC m (joN t c fr s).1 ∧ JC m (joN t c fr s).2.2 ∧ Fr FJC μ m) := by
    intro p hp
    have p2 : p < 2048 := by rw [hp]; unfold joP; split <;> omega
    unfold c105_65
    refine wp_mono (jn_C (s := (s.1, s.2.1, joB fr (s.2.2.1 c))) (hTb.fr a4 (fun k => by omega)) (hT.fr a4 (fun k => by omega)) (h.fr a4 (by omega) (fun c k _ _ => by omega)) (hG.fr a4 (fun c k _ => by omega)) hI a1 (bgI_jo hji.1) hF1 hfl hc p2) (fun m2 ⟨d1, d2, d3, d4⟩ => ?_)
    rw [hp] at d1 d2 d3
    refine ⟨d1, d2, ⟨fun c' hc' => ?_, ?_⟩, a4.tr d4 (by intro c k h; omega) (by intro c k h; omega)⟩
    · show Byt m2 (52 + 2 * c') (upL s.2.2.1 c ((joR t c fr s).2.2, some (fr.getD 3 0)) c').1 ∧ m2.1 56 c' = lcC (upL s.2.2.1 c ((joR t c fr s).2.2, some (fr.getD 3 0)) c').2
      by_cases e : c' = c
      · rw [e, upL_s]
        exact ⟨d3, by rw [d4.1 _ _ (by omega), a2]; rfl⟩
      · rw [upL_o e]
        exact ⟨((hJ.1 c' hc').1.fr a4 (by omega) (fun k => by omega)).fr d4 (by omega) (fun k => by omega), by rw [d4.1 _ _ (by omega), a4.1 _ _ (by omega)]; exact (hJ.1 c' hc').2⟩
    · rw [d4.1 _ _ (by omega), a3]; rfl
  rw [a1.1]
  by_cases q : (joB fr (s.2.2.1 c)).length = 0
  · rw [if_pos (show nI (joB fr (s.2.2.1 c)).length ≤ 0 by rw [q]; decide), i_4, two_ok hF1 (k := 4) (by omega), Option.bind_some]
    dsimp only
    rw [i_2047, an_2047]
    exact fin _ (by unfold joP; rw [if_pos q]; rfl)
  · have jl := (bgI_jo (fr := fr) hji.1).1
    rw [if_neg (show ¬ nI (joB fr (s.2.2.1 c)).length ≤ 0 from fun z => q (by have := (nI_leI (b := 0) (by omega) (by omega)).mp z; omega))]
    exact fin 0 (by unfold joP; rw [if_neg q])
theorem join_C {μ : Mem} {t : Nat} {s : Jt} {fr : List Nat} (hTb : Tb μ) (hT : To μ) (h : ReqC μ t s.2.1) (hG : GwC μ s.1) (hI : GwI s.1) (hJ : JC μ s.2.2) (hJI : JI s.2.2) (hF : Byt μ 50 fr) (hfl : fr.length = 64) :
    wp (f105 μ) (fun m => ReqC m t (joW t fr s).2.1 ∧ GwC m (joW t fr s).1 ∧ JC m (joW t fr s).2.2 ∧ Fr FJC μ m) := by
  have b1 := hF.get 1
  unfold f105 joW
  rw [i_1, at_ok hF (k := 1) (by omega), Option.bind_some]
  dsimp only [nm]
  rw [jshr_N (by omega) (by omega), Nat.pow_one, i_7, an_7]
  generalize hc : fr.getD 1 0 / 2 % 8 = c
  have c8 : c < 8 := by omega
  by_cases q : 1 < c
  · rw [if_pos q, if_neg (fun z => by have := (nI_leI (by omega) (by omega)).mp z; omega)]
    exact wp_some ⟨h, hG, hJ, Fr.rf⟩
  · rw [if_neg q, if_pos ((nI_leI (by omega) (by omega)).mpr (by omega))]
    have : c = 0 ∨ c = 1 := by omega
    have k := jo_C (c := c) hTb hT h hG hI hJ hJI hF hfl (by omega)
    rcases this with rfl | rfl
    · rw [if_pos (show nI 0 = 0 by decide)]; exact k
    · rw [if_neg (show ¬ nI 1 = 0 by decide)]; exact k
abbrev FJM : Nat → Nat → Prop := fun a k => a = 152 ∨ a = 153 ∨ 215 ≤ a ∧ a ≤ 220 ∨ a = 129 ∧ 144 ≤ k ∧ k ≤ 147 ∨ 159 ≤ a ∧ a ≤ 161 ∨ a = 129 ∧ k = 69
theorem lcM_no {own : Option Nat} (h : ∀ v, own = some v → v < 256) {n : Nat} (hn : n < 256) : (lcM own = -2 ∧ gpB own n = false) ∨ ¬ lcM own = -2 ∧ (nI n = ((lcM own + nI 1) &&& nI 255) ↔ gpB own n = false) := by
  cases own with
  | none => exact Or.inl ⟨by decide, rfl⟩
  | some v =>
    have hv := h v rfl
    refine Or.inr ⟨fun z => ?_, ?_⟩
    · have z : nI v = -2 := z
      have : ¬ nI v < 0 := fun y => by have := (nI_ltI (a := v) (b := 0) (by omega) (by omega)).mp y; omega
      exact this (by rw [z]; decide)
    · show nI n = ((nI v + nI 1) &&& nI 255) ↔ decide (n ≠ (v + 1) % 256) = false
      rw [nI_add, an_255, nI_eq (by omega) (by omega), decide_eq_false_iff_not]
      omega
theorem ld157 {μ : Mem} {i : Nat} {fr : List Nat} (h : Seg μ 157 0 fr) (hl : fr.length = 64) (hi : i < 64) : ldA 157 (nI i) μ = some (nI (fr.getD i 0)) := by
  have g := gl_157
  have e := h.1 i (by omega)
  rw [Nat.zero_add] at e
  rw [ldA_N (by omega), e]
theorem Seg.fr7 {μ m : Mem} {fr : List Nat} {P : Nat → Nat → Prop} (h : Seg μ 157 0 fr) (ho : Fr P μ m) (h1 : ∀ k, ¬ P 157 k) : Seg m 157 0 fr := ⟨fun i hi => by rw [ho.1 _ _ (h1 _)]; exact h.1 i hi, h.2⟩
theorem jo_M {μ : Mem} {t c : Nat} {s : Jt} {fr : List Nat} (h : ReqM μ t s.2.1) (hG : GwM μ s.1) (hI : GwI s.1) (hJ : JM μ s.2.2) (hJI : JI s.2.2) (hF : Seg μ 157 0 fr) (hfl : fr.length = 64) (hc : c < 2) (hn : s.1.2.1 < 2 ^ 29) (hx : fr.getD 1 0 / 2 % 8 = c) :
    wp (c302_265 μ) (fun m => ReqM m t (joN t c fr s).2.1 ∧ GwM m (joN t c fr s).1 ∧ JM m (joN t c fr s).2.2 ∧ Fr FJM μ m) := by
  have g159 := gl_159
  have g160 := gl_160
  have g161 := gl_161
  have b1 := hF.get 1
  have b3 := hF.get 3
  have b4 := hF.get 4
  have b5 := hF.get 5
  have hjc := hJ.1 c hc
  have hji := hJI c hc
  have fin : ∀ m, m.1 160 c = nI (joB fr (s.2.2.1 c)).length → Seg m 161 (200 * c) (joB fr (s.2.2.1 c)) → m.1 129 69 = (if gpB (s.2.2.1 c).2 (fr.getD 3 0) = true then s.2.2.2 + 1 else s.2.2.2) → Fr (fun a k => a = 160 ∧ k = c ∨ a = 129 ∧ k = 69) μ m → wp (c302_326 (nI c) m) (fun m => ReqM m t (joN t c fr s).2.1 ∧ GwM m (joN t c fr s).1 ∧ JM m (joN t c fr s).2.2 ∧ Fr FJM μ m) := by
    intro m a1 a2 a3 a4
    have hF1 := hF.fr7 a4 (fun k => by omega)
    unfold c302_326
    rw [i_3, ld157 hF1 hfl (by omega), Option.bind_some, stA_N (by omega), Option.bind_some]
    have f2 : Fr (fun a k => a = 159 ∧ k = c) m (setI m 159 c (nI (fr.getD 3 0))) := Fr.sI ⟨rfl, rfl⟩
    have e159 : (setI m 159 c (nI (fr.getD 3 0))).1 159 c = nI (fr.getD 3 0) := by rw [rdI, if_pos ⟨rfl, rfl⟩]
    generalize setI m 159 c (nI (fr.getD 3 0)) = m2 at f2 e159 ⊢
    have hF2 := hF1.fr7 f2 (fun k => by omega)
    have f3 : Fr (fun a k => (a = 159 ∨ a = 160) ∧ k = c ∨ a = 129 ∧ k = 69) μ m2 := a4.tr f2 (by intro c k h; omega) (by intro c k h; omega)
    rw [i_4, ld157 hF2 hfl (by omega), Option.bind_some, i_5, ld157 hF2 hfl (by omega), Option.bind_some]
    dsimp only [nm]
    have a12 : m2.1 160 c = nI (joB fr (s.2.2.1 c)).length := by rw [f2.1 _ _ (by omega)]; exact a1
    have a22 : Seg m2 161 (200 * c) (joB fr (s.2.2.1 c)) := ⟨fun i hi => by rw [f2.1 _ _ (by omega)]; exact a2.1 i hi, a2.2⟩
    have hJ2 : ∀ m3, Fr (fun a k => a = 152 ∨ a = 153 ∨ 215 ≤ a ∧ a ≤ 220 ∨ a = 129 ∧ 144 ≤ k ∧ k ≤ 147 ∨ a = 160 ∧ k = c ∨ a = 161 ∧ 200 * c ≤ k ∧ k < 200 * c + 200) m2 m3 → m3.1 160 c = nI (joR t c fr s).2.2.length → Seg m3 161 (200 * c) (joR t c fr s).2.2 → JM m3 (joN t c fr s).2.2 := by
      intro m3 d4 d2 d3
      refine ⟨fun c' hc' => ?_, ?_⟩
      · show m3.1 160 c' = nI (upL s.2.2.1 c ((joR t c fr s).2.2, some (fr.getD 3 0)) c').1.length ∧ Seg m3 161 (200 * c') (upL s.2.2.1 c ((joR t c fr s).2.2, some (fr.getD 3 0)) c').1 ∧ m3.1 159 c' = lcM (upL s.2.2.1 c ((joR t c fr s).2.2, some (fr.getD 3 0)) c').2
        by_cases e : c' = c
        · rw [e, upL_s]
          exact ⟨d2, d3, by rw [d4.1 _ _ (by omega), e159]; rfl⟩
        · rw [upL_o e]
          obtain ⟨k1, k2, k3⟩ := hJ.1 c' hc'
          have := (hJI c' hc').1.1
          exact ⟨by rw [d4.1 _ _ (by omega), f3.1 _ _ (by omega)]; exact k1, ⟨fun i hi => by rw [d4.1 _ _ (by omega), f3.1 _ _ (by omega)]; exact k2.1 i hi, k2.2⟩, by rw [d4.1 _ _ (by omega), f3.1 _ _ (by omega)]; exact k3⟩
      · rw [d4.1 _ _ (by omega), f2.1 _ _ (by omega), a3]; rfl
    have fin2 : ∀ p, p = joP fr (joB fr (s.2.2.1 c)) → p < 2048 → wp (c302_365 (nI c) (nI p) m2) (fun m => ReqM m t (joN t c fr s).2.1 ∧ GwM m (joN t c fr s).1 ∧ JM m (joN t c fr s).2.2 ∧ Fr FJM μ m) := by
      intro p hp p2
      unfold c302_365
      rw [i_51]
      by_cases q5 : p ≤ 51
      · rw [if_pos ((nI_leI (by omega) (by omega)).mpr q5)]
        dsimp only [nm]
        rw [i_200, pk_mul, i_1]
        refine wp_mono (jn_M (s := (s.1, s.2.1, joB fr (s.2.2.1 c))) (h.fr f3 (by omega) (fun c k _ _ => by omega)) (hG.fr hI f3 (fun c k _ => by omega)) hI a12 a22 (bgI_jo hji.1) hF2 hfl hc (by omega) hn) (fun m3 ⟨d1, d2, d3, d4, d5⟩ => ?_)
        rw [hp] at d1 d2 d3 d4
        exact ⟨d1, d2, hJ2 m3 d5 d3 d4, f3.tr d5 (by intro c k h; omega) (by intro c k h; omega)⟩
      · rw [if_neg (fun z => q5 ((nI_leI (by omega) (by omega)).mp z))]
        have eR : joR t c fr s = (s.1, s.2.1, joB fr (s.2.2.1 c)) := by
          unfold joR
          rw [← hp, show jnX fr p = [] by unfold jnX; rw [show 52 - p = 0 by omega, List.take_zero], jnL]
        refine wp_some ⟨?_, ?_, hJ2 m2 Fr.rf (by rw [eR]; exact a12) (by rw [eR]; exact a22), f3.mono (by intro c k h; omega)⟩
        · show ReqM m2 t (joR t c fr s).2.1
          rw [eR]; exact h.fr f3 (by omega) (fun c k _ _ => by omega)
        · show GwM m2 (joR t c fr s).1
          rw [eR]; exact hG.fr hI f3 (fun c k _ => by omega)
    rw [ldA_N (by omega), Option.bind_some, a12]
    by_cases q : (joB fr (s.2.2.1 c)).length = 0
    · rw [if_pos (show nI (joB fr (s.2.2.1 c)).length ≤ 0 by rw [q]; decide), i_7, an_7, i_8, jshl_N (by omega) (by omega), nx_or, or_add 8 (show _ < 2 ^ 8 from b5)]
      refine fin2 _ ?_ (by omega)
      unfold joP w2
      rw [if_pos q, show 4 + 1 = 5 from rfl]
      omega
    · have jl := (bgI_jo (fr := fr) hji.1).1
      rw [if_neg (show ¬ nI (joB fr (s.2.2.1 c)).length ≤ 0 from fun z => q (by have := (nI_leI (b := 0) (by omega) (by omega)).mp z; omega))]
      exact fin2 0 (by unfold joP; rw [if_neg q]) (by omega)
  unfold c302_265
  rw [i_1, ld157 hF hfl (by omega), Option.bind_some]
  dsimp only [nm]
  rw [jshr_N (by omega) (by omega), Nat.pow_one, i_7, an_7, hx, if_pos ((nI_leI (by omega) (by omega)).mpr (by omega)), ldA_N (by omega), Option.bind_some, hjc.2.2]
  have ok : gpB (s.2.2.1 c).2 (fr.getD 3 0) = false → wp (c302_326 (nI c) μ) (fun m => ReqM m t (joN t c fr s).2.1 ∧ GwM m (joN t c fr s).1 ∧ JM m (joN t c fr s).2.2 ∧ Fr FJM μ m) := by
    intro z
    refine fin μ ?_ ?_ ?_ Fr.rf
    · unfold joB; rw [z, if_neg (by decide)]; exact hjc.1
    · unfold joB; rw [z, if_neg (by decide)]; exact hjc.2.1
    · rw [z, if_neg (by decide)]; exact hJ.2
  rcases lcM_no hji.2 b3 with ⟨z1, z2⟩ | ⟨z1, z2⟩
  · rw [if_pos z1]
    exact ok z2
  · rw [if_neg z1, i_3, ld157 hF hfl (by omega), Option.bind_some, Option.bind_some, i_255]
    by_cases z3 : gpB (s.2.2.1 c).2 (fr.getD 3 0) = false
    · rw [if_pos (z2.mpr z3)]
      exact ok z3
    · rw [if_neg (fun z => z3 (z2.mp z)), hJ.2]
      have z4 : gpB (s.2.2.1 c).2 (fr.getD 3 0) = true := Bool.not_eq_false _ ▸ z3
      unfold pfI
      rw [Option.bind_some, stA_N (by omega), Option.bind_some]
      refine fin _ ?_ ?_ ?_ ((Fr.sI (by omega)).pI (by omega))
      · unfold joB; rw [if_pos z4, rdI, if_pos ⟨rfl, rfl⟩]; rfl
      · unfold joB; rw [if_pos z4]; exact ⟨fun j hj => absurd hj (Nat.not_lt_zero _), fun b hb => by cases hb⟩
      · rw [if_pos z4, rdI, if_neg (by omega), rdI, if_pos ⟨rfl, rfl⟩]; rfl
theorem join_M {μ : Mem} {t : Nat} {s : Jt} {fr : List Nat} (h : ReqM μ t s.2.1) (hG : GwM μ s.1) (hI : GwI s.1) (hJ : JM μ s.2.2) (hJI : JI s.2.2) (hF : Seg μ 157 0 fr) (hfl : fr.length = 64) (hn : s.1.2.1 < 2 ^ 29) :
    wp (c302_265 μ) (fun m => ReqM m t (joW t fr s).2.1 ∧ GwM m (joW t fr s).1 ∧ JM m (joW t fr s).2.2 ∧ Fr FJM μ m) := by
  have b1 := hF.get 1
  unfold joW
  by_cases q : 1 < fr.getD 1 0 / 2 % 8
  · rw [if_pos q]
    unfold c302_265
    rw [i_1, ld157 hF hfl (by omega), Option.bind_some]
    dsimp only [nm]
    rw [jshr_N (by omega) (by omega), Nat.pow_one, i_7, an_7, if_neg (fun z => by have := (nI_leI (by omega) (by omega)).mp z; omega)]
    exact wp_some ⟨h, hG, hJ, Fr.rf⟩
  · rw [if_neg q]
    exact jo_M h hG hI hJ hJI hF hfl (by omega) hn rfl
