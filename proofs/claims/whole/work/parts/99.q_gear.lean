/-! ===== the ground's ear, bit by bit ===== -/
theorem shl1 {L b : Nat} (hL : L < 2 ^ 32) (hb : b < 2) : jshl (nI L) (nI 1) ||| nI b = nI ((2 * L + b) % 2 ^ 32) := by
  have e : jshl (nI L) (nI 1) = nI (L % 2 ^ 31 * 2 ^ 1) := by
    apply Int32.toBitVec_inj.mp
    apply BitVec.eq_of_toNat_eq
    rw [pk_shl _ _ 1 (s_l 1 (by omega)), pk_tn hL, pk_tn (by omega)]
    omega
  rw [e, nx_or, or_add 1 (by omega)]
  congr 1
  omega
theorem low32 {B b nb : Nat} (hb : b < 2) (hn : nb < 32) : (2 * B + b) % 2 ^ 32 % 2 ^ (nb + 1) = 2 * (B % 2 ^ nb) + b := by
  rw [Nat.mod_mod_of_dvd _ (Nat.pow_dvd_pow 2 (by omega)), Nat.pow_succ, Nat.mul_comm (2 ^ nb) 2]
  have hs := Nat.two_pow_pos nb
  generalize 2 ^ nb = s at *
  have h1 := Nat.mod_lt B hs
  have h2 := Nat.div_add_mod B s
  have h3 : 2 * B + b = 2 * s * (B / s) + (2 * (B % s) + b) := by
    rw [Nat.mul_assoc]
    omega
  rw [h3, Nat.mul_add_mod, Nat.mod_eq_of_lt (by omega)]
abbrev Ey : Type := Hw × (Int32 × Int32) × (Bool × Int32) × (Bool × Nat × Nat × List Nat)
def EyC (ns : List Nat) (μ : Mem) (t : Nat) (v : Ey) : Prop := HC μ t v.1 ∧ SegB μ 27 0 ns ∧ μ.1 49 6 = v.2.1.1 ∧ μ.1 49 7 = v.2.1.2 ∧ μ.1 49 11 = nI (b2n v.2.2.1.1) ∧ μ.1 49 12 = v.2.2.1.2 ∧ μ.1 49 8 = nI (b2n v.2.2.2.1) ∧ μ.1 49 10 = nI v.2.2.2.2.1 ∧ (∃ L, L < 2 ^ 32 ∧ μ.1 49 9 = nI L ∧ v.2.2.2.2.2.1 = L % 2 ^ v.2.2.2.2.1) ∧ (v.2.2.2.1 = true → Byt μ 50 v.2.2.2.2.2.2)
def EyM (ns : List Nat) (μ : Mem) (t : Nat) (v : Ey) : Prop := HM μ t v.1 ∧ Seg μ 158 0 ns ∧ μ.1 156 0 = v.2.1.1 ∧ μ.1 156 1 = v.2.1.2 ∧ μ.1 129 60 = nI (b2n v.2.2.1.1) ∧ μ.1 129 61 = v.2.2.1.2 ∧ μ.1 129 64 = nI (b2n v.2.2.2.1) ∧ (v.2.2.2.1 = false → μ.1 129 62 = nI v.2.2.2.2.1 ∧ μ.1 129 63 = nI v.2.2.2.2.2.1) ∧ (v.2.2.2.1 = true → μ.1 129 65 = nI (8 * v.2.2.2.2.2.2.length + v.2.2.2.2.1) ∧ Seg μ 157 0 v.2.2.2.2.2.2 ∧ (0 < v.2.2.2.2.1 → μ.1 157 v.2.2.2.2.2.2.length = nI (v.2.2.2.2.2.1 * 2 ^ (8 - v.2.2.2.2.1))))
def EyI (v : Ey) : Prop := HI v.1 ∧ ¬ v.2.1.2 < 0 ∧ (v.2.2.2.1 = false → v.2.2.2.2.1 ≤ 32 ∧ v.2.2.2.2.2.1 < 2 ^ v.2.2.2.2.1) ∧ (v.2.2.2.1 = true → v.2.2.2.2.1 < 8 ∧ v.2.2.2.2.2.1 < 2 ^ v.2.2.2.2.1 ∧ v.2.2.2.2.2.2.length < 64 ∧ ∀ b, b ∈ v.2.2.2.2.2.2 → b < 256)
def vMk (e : Int32) (A : Nat) : Bool := decide (¬ e < nI (onN (A ^^^ 449838109) 32))
def vOut (v : Ey) (A : Nat) : Ey := if vMk v.2.1.1 A = true then (v.1, v.2.1, (true, nI 0), (true, 0, 0, [])) else if v.2.2.1.1 = true then (if v.2.2.1.2 + 1 ≤ v.2.1.2 then (v.1, v.2.1, (true, v.2.2.1.2 + 1), (true, 0, 0, [])) else (v.1, v.2.1, (false, nI 0), (false, 32, A, []))) else (v.1, v.2.1, v.2.2.1, (false, 32, A, []))
def vInn (t : Nat) (ns : List Nat) (v : Ey) (P : Nat) : Ey := if v.2.2.2.2.1 < 7 then (v.1, v.2.1, v.2.2.1, (true, v.2.2.2.2.1 + 1, P, v.2.2.2.2.2.2)) else if v.2.2.2.2.2.2.length < 63 then (v.1, v.2.1, v.2.2.1, (true, 0, 0, v.2.2.2.2.2.2 ++ [P])) else (frW t ns (v.2.2.2.2.2.2 ++ [P]) v.1, v.2.1, v.2.2.1, (false, 0, 0, []))
def vBit (t : Nat) (ns : List Nat) (b : Nat) (v : Ey) : Ey := if v.2.2.2.1 = true then vInn t ns v (2 * v.2.2.2.2.2.1 + b) else if v.2.2.2.2.1 < 31 then (v.1, v.2.1, v.2.2.1, (false, v.2.2.2.2.1 + 1, 2 * v.2.2.2.2.2.1 + b, [])) else vOut v ((2 * v.2.2.2.2.2.1 + b) % 2 ^ 32)
theorem vInn_I {t b : Nat} {ns : List Nat} {v : Ey} (h : EyI v) (hb : b < 2) (hi : v.2.2.2.1 = true) (hns : ∀ b, b ∈ ns → b < 256) : EyI (vInn t ns v (2 * v.2.2.2.2.2.1 + b)) ∧ (vInn t ns v (2 * v.2.2.2.2.2.1 + b)).1.2.1.2.1 ≤ v.1.2.1.2.1 + 52 ∧ ((vInn t ns v (2 * v.2.2.2.2.2.1 + b)).1.1.1 0 = nI 5 → v.1.1.1 0 = nI 5) := by
  obtain ⟨h1, h2, h3, h4⟩ := h
  obtain ⟨i1, i2, i3, i4⟩ := h4 hi
  have hp : 2 * v.2.2.2.2.2.1 + b < 2 ^ (v.2.2.2.2.1 + 1) := by rw [Nat.pow_succ]; omega
  unfold vInn
  by_cases q1 : v.2.2.2.2.1 < 7
  · rw [if_pos q1]
    exact ⟨⟨h1, h2, (fun z => by cases z), fun _ => ⟨by show _ + 1 < 8; omega, hp, i3, i4⟩⟩, Nat.le_add_right _ _, fun z => z⟩
  · rw [if_neg q1]
    have e7 : v.2.2.2.2.1 = 7 := by omega
    rw [e7] at hp
    have bm : ∀ x, x ∈ v.2.2.2.2.2.2 ++ [2 * v.2.2.2.2.2.1 + b] → x < 256 := mem_lt_app i4 (fun x hx => by rw [List.mem_singleton] at hx; rw [hx]; exact hp)
    have el : (v.2.2.2.2.2.2 ++ [2 * v.2.2.2.2.2.1 + b]).length = v.2.2.2.2.2.2.length + 1 := List.length_append
    by_cases q2 : v.2.2.2.2.2.2.length < 63
    · rw [if_pos q2]
      exact ⟨⟨h1, h2, (fun z => by cases z), fun _ => ⟨by show 0 < 8; omega, by show 0 < 2 ^ 0; decide, by show (v.2.2.2.2.2.2 ++ [2 * v.2.2.2.2.2.1 + b]).length < 64; omega, bm⟩⟩, Nat.le_add_right _ _, fun z => z⟩
    · rw [if_neg q2]
      obtain ⟨a, b, c⟩ := frW_I (t := t) h1 bm (by omega) hns
      exact ⟨⟨a, h2, fun _ => ⟨by show 0 ≤ 32; omega, by show 0 < 2 ^ 0; decide⟩, fun z => by cases z⟩, b, c⟩
theorem vOut_I {v : Ey} {A : Nat} (h : EyI v) (hA : A < 2 ^ 32) : EyI (vOut v A) ∧ (vOut v A).1 = v.1 := by
  obtain ⟨h1, h2, h3, h4⟩ := h
  have k0 : ∀ x : Bool × Int32, EyI (v.1, v.2.1, x, (true, 0, 0, [])) := fun x => ⟨h1, h2, (fun z => by cases z), fun _ => ⟨by show 0 < 8; omega, by show 0 < 2 ^ 0; decide, by show 0 < 64; omega, fun b hb => by cases hb⟩⟩
  have k1 : ∀ x : Bool × Int32, EyI (v.1, v.2.1, x, (false, 32, A, [])) := fun x => ⟨h1, h2, fun _ => ⟨by show 32 ≤ 32; omega, hA⟩, fun z => by cases z⟩
  unfold vOut
  by_cases q1 : vMk v.2.1.1 A = true
  · rw [if_pos q1]; exact ⟨k0 _, rfl⟩
  · rw [if_neg q1]
    by_cases q2 : v.2.2.1.1 = true
    · rw [if_pos q2]
      by_cases q3 : v.2.2.1.2 + 1 ≤ v.2.1.2
      · rw [if_pos q3]; exact ⟨k0 _, rfl⟩
      · rw [if_neg q3]; exact ⟨k1 _, rfl⟩
    · rw [if_neg q2]; exact ⟨k1 _, rfl⟩
theorem vBit_I {t b : Nat} {ns : List Nat} {v : Ey} (h : EyI v) (hb : b < 2) (hns : ∀ b, b ∈ ns → b < 256) : EyI (vBit t ns b v) ∧ (vBit t ns b v).1.2.1.2.1 ≤ v.1.2.1.2.1 + 52 ∧ ((vBit t ns b v).1.1.1 0 = nI 5 → v.1.1.1 0 = nI 5) := by
  unfold vBit
  by_cases q1 : v.2.2.2.1 = true
  · rw [if_pos q1]; exact vInn_I h hb q1 hns
  · rw [if_neg q1]
    by_cases q2 : v.2.2.2.2.1 < 31
    · rw [if_pos q2]
      obtain ⟨h1, h2, h3, h4⟩ := h
      have i := h3 (Bool.eq_false_iff.mpr q1)
      exact ⟨⟨h1, h2, fun _ => ⟨by show v.2.2.2.2.1 + 1 ≤ 32; omega, by show 2 * v.2.2.2.2.2.1 + b < 2 ^ (v.2.2.2.2.1 + 1); rw [Nat.pow_succ]; omega⟩, fun z => by cases z⟩, Nat.le_add_right _ _, fun z => z⟩
    · rw [if_neg q2]
      obtain ⟨a, c⟩ := vOut_I h (A := (2 * v.2.2.2.2.2.1 + b) % 2 ^ 32) (Nat.mod_lt _ (by omega))
      exact ⟨a, by rw [c]; omega, by rw [c]; exact fun z => z⟩
abbrev FYC : Nat → Nat → Prop := fun a k => FHC a k ∨ a = 49 ∧ 8 ≤ k ∧ k ≤ 12
theorem HC.fr {μ m : Mem} {t : Nat} {h : Hw} {P : Nat → Nat → Prop} (hH : HC μ t h) (ho : Fr P μ m) (h1 : ∀ c k, c = 100000 ∨ c = 100001 ∨ 28 ≤ c ∧ c ≤ 40 ∨ c = 12 ∨ 15 ≤ c ∧ c ≤ 26 ∨ 5 ≤ c ∧ c ≤ 8 ∨ 52 ≤ c ∧ c ≤ 56 ∨ c = 49 ∧ 13 ≤ k ∧ k ≤ 18 → ¬ P c k) : HC m t h :=
  ⟨hH.1.fr ho (fun c k _ => h1 c k (by omega)), hH.2.1.fr ho (fun k => h1 _ _ (by omega)), hH.2.2.1.fr ho (fun c k _ => h1 c k (by omega)), hH.2.2.2.1.fr ho (fun c k _ => h1 c k (by omega)), hH.2.2.2.2.fr ho (fun k _ => h1 _ k (by omega))⟩
theorem gear_C {μ : Mem} {t b : Nat} {ns : List Nat} {v : Ey} {α : Type} (h : EyC ns μ t v) (hI : EyI v) (hb : b < 2) (hnl : ns.length = 64) (K : Mem → Option α) (Q : α → Prop) (hK : ∀ m, EyC ns m t (vBit t ns b v) → Fr FYC μ m → wp (K m) Q) : wp ((f98 (nI b) μ).bind fun r7 => if r7.2 = 0 then K r7.1 else (f216 r7.1).bind fun r10 => K r10) Q := by
  obtain ⟨hH, hN, c6, c7, c11, c12, c8, c10, ⟨L, lL, c9, eP⟩, cB⟩ := h
  have hI' := hI
  obtain ⟨h1, h2, h3, h4⟩ := hI
  have k40 : v.2.2.2.2.1 < 33 := by
    cases hh : v.2.2.2.1 with
    | true => have := (h4 hh).1; omega
    | false => have := (h3 hh).1; omega
  unfold f98 pfI
  rw [Option.bind_some, Option.bind_some, c9, i_1, shl1 lL hb]
  have f0 : Fr (fun a k => a = 49 ∧ 9 ≤ k ∧ k ≤ 10) μ (setI (setI μ 49 9 (nI ((2 * L + b) % 2 ^ 32))) 49 10 (((setI μ 49 9 (nI ((2 * L + b) % 2 ^ 32))).1 49 10) + nI 1)) := (Fr.sI (by omega)).pI (by omega)
  have e9 : (setI (setI μ 49 9 (nI ((2 * L + b) % 2 ^ 32))) 49 10 (((setI μ 49 9 (nI ((2 * L + b) % 2 ^ 32))).1 49 10) + nI 1)).1 49 9 = nI ((2 * L + b) % 2 ^ 32) := by rw [rdI, if_neg (by omega), rdI, if_pos ⟨rfl, rfl⟩]
  have e10 : (setI (setI μ 49 9 (nI ((2 * L + b) % 2 ^ 32))) 49 10 (((setI μ 49 9 (nI ((2 * L + b) % 2 ^ 32))).1 49 10) + nI 1)).1 49 10 = nI (v.2.2.2.2.1 + 1) := by rw [rdI, if_pos ⟨rfl, rfl⟩, rdI, if_neg (by omega), c10, nI_add]
  generalize setI (setI μ 49 9 (nI ((2 * L + b) % 2 ^ 32))) 49 10 (((setI μ 49 9 (nI ((2 * L + b) % 2 ^ 32))).1 49 10) + nI 1) = m0 at f0 e9 e10 ⊢
  have lL' : (2 * L + b) % 2 ^ 32 < 2 ^ 32 := Nat.mod_lt _ (by omega)
  have H0 : HC m0 t v.1 := hH.fr f0 (fun c k _ => by omega)
  have N0 : SegB m0 27 0 ns := ⟨fun i hi => by rw [f0.1 _ _ (by omega)]; exact hN.1 i hi, hN.2⟩
  rw [f0.1 49 8 (by omega), c8]
  by_cases q1 : v.2.2.2.1 = true
  · rw [q1, if_neg (show ¬ nI (b2n true) = 0 by decide)]
    obtain ⟨i1, i2, i3, i4⟩ := h4 q1
    have cB := cB q1
    have eb : vBit t ns b v = vInn t ns v (2 * v.2.2.2.2.2.1 + b) := if_pos q1
    rw [eb] at hK
    unfold f99
    rw [e10, i_8, e9]
    unfold vInn at hK
    by_cases q2 : v.2.2.2.2.1 < 7
    · rw [if_neg (fun z => by have := (nI_leI (by omega) (by omega)).mp z; omega), i_0, rtZ_0, Option.bind_some]
      dsimp only
      rw [rtZ_0, Option.bind_some]
      dsimp only
      rw [if_pos rfl]
      rw [if_pos q2] at hK
      refine hK m0 ⟨H0, N0, by rw [f0.1 _ _ (by omega)]; exact c6, by rw [f0.1 _ _ (by omega)]; exact c7, by rw [f0.1 _ _ (by omega)]; exact c11, by rw [f0.1 _ _ (by omega)]; exact c12, by rw [f0.1 _ _ (by omega), c8, q1], e10, ⟨_, lL', e9, ?_⟩, fun _ => cB.fr f0 (by omega) (fun k => by omega)⟩ (f0.mono (by intro c k h; omega))
      show 2 * v.2.2.2.2.2.1 + b = _
      rw [low32 hb (by omega), eP]
    · have e7 : v.2.2.2.2.1 = 7 := by omega
      rw [if_pos ((nI_leI (by omega) (by omega)).mpr (by omega))]
      rw [if_neg q2] at hK
      have g51 := gl_51
      have eby : byv (nI ((2 * L + b) % 2 ^ 32)) = 2 * v.2.2.2.2.2.1 + b := by
        rw [byv_nat, show 256 = 2 ^ (7 + 1) from rfl, low32 hb (by omega), eP, e7]
      rw [Option.bind_assoc, Option.bind_assoc]
      refine wp_bind (pu_ok _ (cB.fr f0 (by omega) (fun k => by omega)) (by show _ < gln 51; omega)) (fun m1 ⟨a1, a2⟩ => ?_)
      rw [eby] at a1
      unfold pfI
      rw [Option.bind_some]
      have el : (v.2.2.2.2.2.2 ++ [2 * v.2.2.2.2.2.1 + b]).length = v.2.2.2.2.2.2.length + 1 := List.length_append
      have f1 : Fr (fun a k => a = 49 ∧ 9 ≤ k ∧ k ≤ 10 ∨ a = 50 ∨ a = 51) μ (setI m1 49 10 0) := (f0.tr a2 (by intro c k h; omega) (by intro c k h; omega)).pI (by omega)
      have B1 : Byt (setI m1 49 10 0) 50 (v.2.2.2.2.2.2 ++ [2 * v.2.2.2.2.2.1 + b]) := a1.set_o (by omega)
      have x9 : (setI m1 49 10 0).1 49 9 = nI ((2 * L + b) % 2 ^ 32) := by rw [rdI, if_neg (by omega), a2.1 _ _ (by omega), e9]
      have x10 : (setI m1 49 10 0).1 49 10 = nI 0 := by rw [rdI, if_pos ⟨rfl, rfl⟩]; rfl
      rw [i_0] at f1 B1 x9 x10 ⊢
      generalize setI m1 49 10 (nI 0) = m2 at f1 B1 x9 x10 ⊢
      have H2 : HC m2 t v.1 := hH.fr f1 (fun c k _ => by omega)
      have N2 : SegB m2 27 0 ns := ⟨fun i hi => by rw [f1.1 _ _ (by omega)]; exact hN.1 i hi, hN.2⟩
      rw [B1.1, i_64]
      by_cases q3 : v.2.2.2.2.2.2.length < 63
      · rw [if_neg (fun z => by have := (nI_leI (by omega) (by omega)).mp z; omega), rtZ_0, Option.bind_some]
        dsimp only
        rw [rtZ_0, Option.bind_some]
        dsimp only
        rw [if_pos rfl]
        rw [if_pos q3] at hK
        exact hK m2 ⟨H2, N2, by rw [f1.1 _ _ (by omega)]; exact c6, by rw [f1.1 _ _ (by omega)]; exact c7, by rw [f1.1 _ _ (by omega)]; exact c11, by rw [f1.1 _ _ (by omega)]; exact c12, by rw [f1.1 _ _ (by omega), c8, q1], x10, ⟨_, lL', x9, by show 0 = _ % 2 ^ 0; rw [Nat.pow_zero, Nat.mod_one]⟩, fun _ => B1⟩ (f1.mono (by intro c k h; omega))
      · rw [if_pos ((nI_leI (by omega) (by omega)).mpr (by omega)), pfZ_0, Option.bind_some, i_1, rtZ_1, Option.bind_some]
        dsimp only
        rw [rtZ_1, Option.bind_some]
        dsimp only
        rw [if_neg (show ¬ nI 1 = nI 0 by decide)]
        rw [if_neg q3] at hK
        have f3 : Fr (fun a k => a = 49 ∧ k = 8) m2 (setI m2 49 8 (nI 0)) := Fr.sI ⟨rfl, rfl⟩
        have x8 : (setI m2 49 8 (nI 0)).1 49 8 = nI 0 := by rw [rdI, if_pos ⟨rfl, rfl⟩]
        generalize setI m2 49 8 (nI 0) = m3 at f3 x8 ⊢
        have f4 : Fr (fun a k => a = 49 ∧ 8 ≤ k ∧ k ≤ 10 ∨ a = 50 ∨ a = 51) μ m3 := f1.tr f3 (by intro c k h; omega) (by intro c k h; omega)
        refine wp_bind (frm_C (H2.fr f3 (fun c k _ => by omega)) h1 (B1.fr f3 (by omega) (fun k => by omega)) (by omega) ⟨fun i hi => by rw [f4.1 _ _ (by omega)]; exact hN.1 i hi, hN.2⟩ hnl) (fun m4 ⟨d1, d2, d3⟩ => ?_)
        exact hK m4 ⟨d1, ⟨fun i hi => by rw [d3.1 _ _ (by omega), f4.1 _ _ (by omega)]; exact hN.1 i hi, hN.2⟩, by rw [d3.1 _ _ (by omega), f4.1 _ _ (by omega)]; exact c6, by rw [d3.1 _ _ (by omega), f4.1 _ _ (by omega)]; exact c7, by rw [d3.1 _ _ (by omega), f4.1 _ _ (by omega)]; exact c11, by rw [d3.1 _ _ (by omega), f4.1 _ _ (by omega)]; exact c12, by rw [d3.1 _ _ (by omega)]; exact x8, by rw [d3.1 _ _ (by omega), f3.1 _ _ (by omega)]; exact x10, ⟨_, lL', by rw [d3.1 _ _ (by omega), f3.1 _ _ (by omega)]; exact x9, by show 0 = _ % 2 ^ 0; rw [Nat.pow_zero, Nat.mod_one]⟩, fun z => by cases z⟩ (f4.tr d3 (by intro c k h; omega) (by intro c k h; omega))
  · have q1' : v.2.2.2.1 = false := Bool.eq_false_iff.mpr q1
    rw [q1', if_pos (show nI (b2n false) = 0 by decide), e10, i_32]
    obtain ⟨i1, i2⟩ := h3 q1'
    have eb : vBit t ns b v = if v.2.2.2.2.1 < 31 then (v.1, v.2.1, v.2.2.1, (false, v.2.2.2.2.1 + 1, 2 * v.2.2.2.2.2.1 + b, [])) else vOut v ((2 * v.2.2.2.2.2.1 + b) % 2 ^ 32) := if_neg q1
    rw [eb] at hK
    by_cases q2 : v.2.2.2.2.1 < 31
    · rw [if_pos ((nI_ltI (by omega) (by omega)).mpr (by omega)), i_0, rtZ_0, Option.bind_some]
      dsimp only
      rw [if_pos rfl]
      rw [if_pos q2] at hK
      refine hK m0 ⟨H0, N0, by rw [f0.1 _ _ (by omega)]; exact c6, by rw [f0.1 _ _ (by omega)]; exact c7, by rw [f0.1 _ _ (by omega)]; exact c11, by rw [f0.1 _ _ (by omega)]; exact c12, by rw [f0.1 _ _ (by omega), c8, q1'], e10, ⟨_, lL', e9, ?_⟩, fun z => by cases z⟩ (f0.mono (by intro c k h; omega))
      show 2 * v.2.2.2.2.2.1 + b = _
      rw [low32 hb (by omega), eP]
    · rw [if_neg (fun z => by have := (nI_ltI (by omega) (by omega)).mp z; omega), Option.bind_some]
      rw [if_neg q2] at hK
      have eA : (2 * v.2.2.2.2.2.1 + b) % 2 ^ 32 = (2 * L + b) % 2 ^ 32 := by
        rw [eP]
        by_cases z : v.2.2.2.2.1 = 32
        · rw [z]; omega
        · rw [show v.2.2.2.2.1 = 31 by omega]; omega
      rw [eA] at hK
      generalize hA : (2 * L + b) % 2 ^ 32 = A at lL' e9 hK
      have f1 : Fr (fun a k => a = 49 ∧ 9 ≤ k ∧ k ≤ 10) μ (setI m0 49 10 (nI 32)) := f0.pI (by omega)
      have x9 : (setI m0 49 10 (nI 32)).1 49 9 = nI A := by rw [rdI, if_neg (by omega)]; exact e9
      have x10 : (setI m0 49 10 (nI 32)).1 49 10 = nI 32 := by rw [rdI, if_pos ⟨rfl, rfl⟩]
      generalize setI m0 49 10 (nI 32) = m1 at f1 x9 x10 ⊢
      have H1 : HC m1 t v.1 := hH.fr f1 (fun c k _ => by omega)
      have N1 : SegB m1 27 0 ns := ⟨fun i hi => by rw [f1.1 _ _ (by omega)]; exact hN.1 i hi, hN.2⟩
      have lx : A ^^^ 449838109 < 2 ^ 32 := Nat.xor_lt_two_pow lL' (by decide)
      unfold f100
      rw [x9, i_449838109, nx_xor, ones_C lx, Option.bind_some]
      dsimp only
      rw [f1.1 49 6 (by omega), c6]
      have beg : ∀ m, ∀ x : Bool × Int32, Fr (fun a k => a = 49 ∧ 9 ≤ k ∧ k ≤ 12) μ m → m.1 49 9 = nI A → m.1 49 11 = nI (b2n x.1) → m.1 49 12 = x.2 → wp (f102 m) (fun m2 => EyC ns m2 t (v.1, v.2.1, x, (true, 0, 0, [])) ∧ Fr FYC μ m2) := by
        intro m x f2 y9 y11 y12
        unfold f102 pfI
        rw [i_1, pfZ_1, Option.bind_some, Option.bind_some]
        have f3 : Fr (fun a k => a = 49 ∧ 8 ≤ k ∧ k ≤ 12) μ (setI (setI m 49 8 (nI 1)) 49 10 0) := ((f2.mono (by intro c k h; omega)).pI (by omega)).pI (by omega)
        have z8 : (setI (setI m 49 8 (nI 1)) 49 10 0).1 49 8 = nI 1 := by rw [rdI, if_neg (by omega), rdI, if_pos ⟨rfl, rfl⟩]
        have z9 : (setI (setI m 49 8 (nI 1)) 49 10 0).1 49 9 = nI A := by rw [rdI, if_neg (by omega), rdI, if_neg (by omega)]; exact y9
        have z10 : (setI (setI m 49 8 (nI 1)) 49 10 0).1 49 10 = nI 0 := by rw [rdI, if_pos ⟨rfl, rfl⟩]; rfl
        have z11 : (setI (setI m 49 8 (nI 1)) 49 10 0).1 49 11 = nI (b2n x.1) := by rw [rdI, if_neg (by omega), rdI, if_neg (by omega)]; exact y11
        have z12 : (setI (setI m 49 8 (nI 1)) 49 10 0).1 49 12 = x.2 := by rw [rdI, if_neg (by omega), rdI, if_neg (by omega)]; exact y12
        generalize setI (setI m 49 8 (nI 1)) 49 10 0 = m3 at f3 z8 z9 z10 z11 z12 ⊢
        refine wp_bind (cl_ok 50 m3) (fun m4 ⟨d1, d2⟩ => wp_some ?_)
        have f5 : Fr (fun a k => a = 49 ∧ 8 ≤ k ∧ k ≤ 12 ∨ a = 50 ∨ a = 51) μ m4 := f3.tr d2 (by intro c k h; omega) (by intro c k h; omega)
        exact ⟨⟨hH.fr f5 (fun c k _ => by omega), ⟨fun i hi => by rw [f5.1 _ _ (by omega)]; exact hN.1 i hi, hN.2⟩, by rw [f5.1 _ _ (by omega)]; exact c6, by rw [f5.1 _ _ (by omega)]; exact c7, by rw [d2.1 _ _ (by omega)]; exact z11, by rw [d2.1 _ _ (by omega)]; exact z12, by rw [d2.1 _ _ (by omega)]; exact z8, by rw [d2.1 _ _ (by omega)]; exact z10, ⟨A, lL', by rw [d2.1 _ _ (by omega)]; exact z9, by show 0 = _ % 2 ^ 0; rw [Nat.pow_zero, Nat.mod_one]⟩, fun _ => d1⟩, f5.mono (by intro c k h; omega)⟩
      have rest : ∀ m, ∀ x : Bool × Int32, Fr (fun a k => a = 49 ∧ 9 ≤ k ∧ k ≤ 12) μ m → m.1 49 9 = nI A → m.1 49 10 = nI 32 → m.1 49 11 = nI (b2n x.1) → m.1 49 12 = x.2 → EyC ns m t (v.1, v.2.1, x, (false, 32, A, [])) := by
        intro m x f2 y9 y10 y11 y12
        exact ⟨hH.fr f2 (fun c k _ => by omega), ⟨fun i hi => by rw [f2.1 _ _ (by omega)]; exact hN.1 i hi, hN.2⟩, by rw [f2.1 _ _ (by omega)]; exact c6, by rw [f2.1 _ _ (by omega)]; exact c7, y11, y12, by rw [f2.1 _ _ (by omega), c8, q1'], y10, ⟨A, lL', y9, (Nat.mod_eq_of_lt lL').symm⟩, fun z => by cases z⟩
      have fin : wp (if v.2.1.1 < nI (onN (A ^^^ 449838109) 32) then c100_22 0 m1 else c100_22 (nI 1) m1) (fun m => EyC ns m t (vOut v A) ∧ Fr FYC μ m) := by
        unfold vOut
        by_cases q3 : v.2.1.1 < nI (onN (A ^^^ 449838109) 32)
        · rw [if_pos q3, if_neg (show ¬ vMk v.2.1.1 A = true from fun z => (of_decide_eq_true z) q3)]
          unfold c100_22
          rw [if_pos rfl, f1.1 49 11 (by omega), c11]
          by_cases q4 : v.2.2.1.1 = true
          · rw [if_pos q4, q4, if_neg (show ¬ nI (b2n true) = 0 by decide)]
            unfold f101 pfI
            rw [Option.bind_assoc, Option.bind_some, f1.1 49 12 (by omega), c12]
            have f2 : Fr (fun a k => a = 49 ∧ 9 ≤ k ∧ k ≤ 12) μ (setI m1 49 12 (v.2.2.1.2 + 1)) := (f1.mono (by intro c k h; omega)).pI (by omega)
            have y9 : (setI m1 49 12 (v.2.2.1.2 + 1)).1 49 9 = nI A := by rw [rdI, if_neg (by omega)]; exact x9
            have y10 : (setI m1 49 12 (v.2.2.1.2 + 1)).1 49 10 = nI 32 := by rw [rdI, if_neg (by omega)]; exact x10
            have y11 : (setI m1 49 12 (v.2.2.1.2 + 1)).1 49 11 = nI (b2n true) := by rw [rdI, if_neg (by omega), f1.1 _ _ (by omega), c11, q4]
            have y12 : (setI m1 49 12 (v.2.2.1.2 + 1)).1 49 12 = v.2.2.1.2 + 1 := by rw [rdI, if_pos ⟨rfl, rfl⟩]
            generalize setI m1 49 12 (v.2.2.1.2 + 1) = m2 at f2 y9 y10 y11 y12 ⊢
            rw [y12, f2.1 49 7 (by omega), c7]
            by_cases q5 : v.2.2.1.2 + 1 ≤ v.2.1.2
            · rw [if_pos q5, if_pos q5, Option.bind_assoc]
              exact wp_bind (beg m2 (true, v.2.2.1.2 + 1) f2 y9 y11 y12) (fun m3 z => by rw [Option.bind_some]; exact wp_some z)
            · rw [if_neg q5, if_neg q5, i_0, pfZ_0, Option.bind_some, Option.bind_some, Option.bind_some]
              refine wp_some ⟨rest _ (false, nI 0) ((f2.pI (by omega)).pI (by omega)) ?_ ?_ ?_ ?_, ((f2.mono (by intro c k h; omega)).pI (by omega)).pI (by omega)⟩
              · rw [rdI, if_neg (by omega), rdI, if_neg (by omega)]; exact y9
              · rw [rdI, if_neg (by omega), rdI, if_neg (by omega)]; exact y10
              · rw [rdI, if_neg (by omega), rdI, if_pos ⟨rfl, rfl⟩]; rfl
              · rw [rdI, if_pos ⟨rfl, rfl⟩]
          · have q4' : v.2.2.1.1 = false := Bool.eq_false_iff.mpr q4
            rw [if_neg q4, q4', if_pos (show nI (b2n false) = 0 by decide)]
            exact wp_some ⟨rest m1 v.2.2.1 (f1.mono (by intro c k h; omega)) x9 x10 (by rw [f1.1 _ _ (by omega)]; exact c11) (by rw [f1.1 _ _ (by omega)]; exact c12), f1.mono (by intro c k h; omega)⟩
        · rw [if_neg q3, if_pos (show vMk v.2.1.1 A = true from decide_eq_true q3)]
          unfold c100_22 pfI
          rw [if_neg (show ¬ nI 1 = 0 by decide), i_1, pfZ_1, Option.bind_some, Option.bind_some]
          refine wp_bind (beg _ (true, nI 0) (((f1.mono (by intro c k h; omega)).pI (by omega)).pI (by omega)) ?_ ?_ ?_) (fun m3 z => wp_some z)
          · rw [rdI, if_neg (by omega), rdI, if_neg (by omega)]; exact x9
          · rw [rdI, if_neg (by omega), rdI, if_pos ⟨rfl, rfl⟩]; rfl
          · rw [rdI, if_pos ⟨rfl, rfl⟩]; rfl
      rw [Option.bind_assoc]
      refine wp_bind fin (fun m ⟨z1, z2⟩ => ?_)
      rw [i_0, rtZ_0, Option.bind_some]
      dsimp only
      rw [if_pos rfl]
      exact hK m z1 z2
