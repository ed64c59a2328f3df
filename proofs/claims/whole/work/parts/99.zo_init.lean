/-! ===== what the makers leave ===== -/
theorem G0_pm (L : Nat) (xs : Nat → Int32) : gG0 L xs = pm L 0 (fun _ _ => none) (m0 xs) := by
  have e : (fun a => if 100000 ≤ a ∧ a < 100004 then (8, gsn L (a - 100000)) else (9, 0)) = pk0 L 0 := by
    funext a
    unfold pk0
    rw [if_neg (Nat.not_lt_zero _)]
    by_cases q : 100000 ≤ a ∧ a < 100004
    · rw [if_pos q]
      have cs : a = 100000 ∨ a = 100001 ∨ a = 100002 ∨ a = 100003 := by omega
      rcases cs with rfl | rfl | rfl | rfl
      · rfl
      · rfl
      · rfl
      · rfl
    · rw [if_neg q, if_neg (by omega), if_neg (by omega), if_neg (by omega), if_neg (by omega)]
  show (0, (fun a => if 100000 ≤ a ∧ a < 100004 then (8, gsn L (a - 100000)) else (9, 0)), (m0 xs).1, (m0 xs).2, (fun _ _ => none)) = (0, pk0 L 0, (m0 xs).1, (m0 xs).2, (fun _ _ => none))
  rw [e]
theorem m0_Z (xs : Nat → Int32) : Zr 0 (fun _ _ => none) (m0 xs) := fun c _ h => ⟨funext fun k => m0_z (by omega), rfl, rfl⟩
def SRh (j a : Nat) : Bool := a == 129 || (SR a (j + 20)).isNone
set_option maxRecDepth 100000 in
theorem SR_20_0 (j : Nat) : (List.range' 0 6).all (SRh j) = true := rfl
set_option maxRecDepth 100000 in
theorem SR_20_1 (j : Nat) : (List.range' 6 6).all (SRh j) = true := rfl
set_option maxRecDepth 100000 in
theorem SR_20_2 (j : Nat) : (List.range' 12 6).all (SRh j) = true := rfl
set_option maxRecDepth 100000 in
theorem SR_20_3 (j : Nat) : (List.range' 18 6).all (SRh j) = true := rfl
set_option maxRecDepth 100000 in
theorem SR_20_4 (j : Nat) : (List.range' 24 6).all (SRh j) = true := rfl
set_option maxRecDepth 100000 in
theorem SR_20_5 (j : Nat) : (List.range' 30 6).all (SRh j) = true := rfl
set_option maxRecDepth 100000 in
theorem SR_20_6 (j : Nat) : (List.range' 36 6).all (SRh j) = true := rfl
set_option maxRecDepth 100000 in
theorem SR_20_7 (j : Nat) : (List.range' 42 6).all (SRh j) = true := rfl
set_option maxRecDepth 100000 in
theorem SR_20_8 (j : Nat) : (List.range' 48 6).all (SRh j) = true := rfl
set_option maxRecDepth 100000 in
theorem SR_20_9 (j : Nat) : (List.range' 54 6).all (SRh j) = true := rfl
set_option maxRecDepth 100000 in
theorem SR_20_10 (j : Nat) : (List.range' 60 6).all (SRh j) = true := rfl
set_option maxRecDepth 100000 in
theorem SR_20_11 (j : Nat) : (List.range' 66 6).all (SRh j) = true := rfl
set_option maxRecDepth 100000 in
theorem SR_20_12 (j : Nat) : (List.range' 72 6).all (SRh j) = true := rfl
set_option maxRecDepth 100000 in
theorem SR_20_13 (j : Nat) : (List.range' 78 6).all (SRh j) = true := rfl
set_option maxRecDepth 100000 in
theorem SR_20_14 (j : Nat) : (List.range' 84 6).all (SRh j) = true := rfl
set_option maxRecDepth 100000 in
theorem SR_20_15 (j : Nat) : (List.range' 90 6).all (SRh j) = true := rfl
set_option maxRecDepth 100000 in
theorem SR_20_16 (j : Nat) : (List.range' 96 6).all (SRh j) = true := rfl
set_option maxRecDepth 100000 in
theorem SR_20_17 (j : Nat) : (List.range' 102 6).all (SRh j) = true := rfl
set_option maxRecDepth 100000 in
theorem SR_20_18 (j : Nat) : (List.range' 108 6).all (SRh j) = true := rfl
set_option maxRecDepth 100000 in
theorem SR_20_19 (j : Nat) : (List.range' 114 6).all (SRh j) = true := rfl
set_option maxRecDepth 100000 in
theorem SR_20_20 (j : Nat) : (List.range' 120 6).all (SRh j) = true := rfl
set_option maxRecDepth 100000 in
theorem SR_20_21 (j : Nat) : (List.range' 126 6).all (SRh j) = true := rfl
set_option maxRecDepth 100000 in
theorem SR_20_22 (j : Nat) : (List.range' 132 6).all (SRh j) = true := rfl
set_option maxRecDepth 100000 in
theorem SR_20_23 (j : Nat) : (List.range' 138 6).all (SRh j) = true := rfl
set_option maxRecDepth 100000 in
theorem SR_20_24 (j : Nat) : (List.range' 144 6).all (SRh j) = true := rfl
set_option maxRecDepth 100000 in
theorem SR_20_25 (j : Nat) : (List.range' 150 6).all (SRh j) = true := rfl
set_option maxRecDepth 100000 in
theorem SR_20_26 (j : Nat) : (List.range' 156 6).all (SRh j) = true := rfl
set_option maxRecDepth 100000 in
theorem SR_20_27 (j : Nat) : (List.range' 162 6).all (SRh j) = true := rfl
set_option maxRecDepth 100000 in
theorem SR_20_28 (j : Nat) : (List.range' 168 6).all (SRh j) = true := rfl
set_option maxRecDepth 100000 in
theorem SR_20_29 (j : Nat) : (List.range' 174 6).all (SRh j) = true := rfl
set_option maxRecDepth 100000 in
theorem SR_20_30 (j : Nat) : (List.range' 180 6).all (SRh j) = true := rfl
set_option maxRecDepth 100000 in
theorem SR_20_31 (j : Nat) : (List.range' 186 6).all (SRh j) = true := rfl
set_option maxRecDepth 100000 in
theorem SR_20_32 (j : Nat) : (List.range' 192 6).all (SRh j) = true := rfl
set_option maxRecDepth 100000 in
theorem SR_20_33 (j : Nat) : (List.range' 198 6).all (SRh j) = true := rfl
set_option maxRecDepth 100000 in
theorem SR_20_34 (j : Nat) : (List.range' 204 6).all (SRh j) = true := rfl
set_option maxRecDepth 100000 in
theorem SR_20_35 (j : Nat) : (List.range' 210 6).all (SRh j) = true := rfl
set_option maxRecDepth 100000 in
theorem SR_20_36 (j : Nat) : (List.range' 216 6).all (SRh j) = true := rfl
theorem SR_20 (j a : Nat) (h : a < 222) : SRh j a = true := by
  have key : ∀ lo, (List.range' lo 6).all (SRh j) = true → lo ≤ a → a < lo + 6 → SRh j a = true := fun lo hl h1 h2 => List.all_eq_true.mp hl a (List.mem_range'_1.mpr ⟨h1, h2⟩)
  by_cases q0 : a < 6
  · exact key 0 (SR_20_0 j) (by omega) (by omega)
  by_cases q1 : a < 12
  · exact key 6 (SR_20_1 j) (by omega) (by omega)
  by_cases q2 : a < 18
  · exact key 12 (SR_20_2 j) (by omega) (by omega)
  by_cases q3 : a < 24
  · exact key 18 (SR_20_3 j) (by omega) (by omega)
  by_cases q4 : a < 30
  · exact key 24 (SR_20_4 j) (by omega) (by omega)
  by_cases q5 : a < 36
  · exact key 30 (SR_20_5 j) (by omega) (by omega)
  by_cases q6 : a < 42
  · exact key 36 (SR_20_6 j) (by omega) (by omega)
  by_cases q7 : a < 48
  · exact key 42 (SR_20_7 j) (by omega) (by omega)
  by_cases q8 : a < 54
  · exact key 48 (SR_20_8 j) (by omega) (by omega)
  by_cases q9 : a < 60
  · exact key 54 (SR_20_9 j) (by omega) (by omega)
  by_cases q10 : a < 66
  · exact key 60 (SR_20_10 j) (by omega) (by omega)
  by_cases q11 : a < 72
  · exact key 66 (SR_20_11 j) (by omega) (by omega)
  by_cases q12 : a < 78
  · exact key 72 (SR_20_12 j) (by omega) (by omega)
  by_cases q13 : a < 84
  · exact key 78 (SR_20_13 j) (by omega) (by omega)
  by_cases q14 : a < 90
  · exact key 84 (SR_20_14 j) (by omega) (by omega)
  by_cases q15 : a < 96
  · exact key 90 (SR_20_15 j) (by omega) (by omega)
  by_cases q16 : a < 102
  · exact key 96 (SR_20_16 j) (by omega) (by omega)
  by_cases q17 : a < 108
  · exact key 102 (SR_20_17 j) (by omega) (by omega)
  by_cases q18 : a < 114
  · exact key 108 (SR_20_18 j) (by omega) (by omega)
  by_cases q19 : a < 120
  · exact key 114 (SR_20_19 j) (by omega) (by omega)
  by_cases q20 : a < 126
  · exact key 120 (SR_20_20 j) (by omega) (by omega)
  by_cases q21 : a < 132
  · exact key 126 (SR_20_21 j) (by omega) (by omega)
  by_cases q22 : a < 138
  · exact key 132 (SR_20_22 j) (by omega) (by omega)
  by_cases q23 : a < 144
  · exact key 138 (SR_20_23 j) (by omega) (by omega)
  by_cases q24 : a < 150
  · exact key 144 (SR_20_24 j) (by omega) (by omega)
  by_cases q25 : a < 156
  · exact key 150 (SR_20_25 j) (by omega) (by omega)
  by_cases q26 : a < 162
  · exact key 156 (SR_20_26 j) (by omega) (by omega)
  by_cases q27 : a < 168
  · exact key 162 (SR_20_27 j) (by omega) (by omega)
  by_cases q28 : a < 174
  · exact key 168 (SR_20_28 j) (by omega) (by omega)
  by_cases q29 : a < 180
  · exact key 174 (SR_20_29 j) (by omega) (by omega)
  by_cases q30 : a < 186
  · exact key 180 (SR_20_30 j) (by omega) (by omega)
  by_cases q31 : a < 192
  · exact key 186 (SR_20_31 j) (by omega) (by omega)
  by_cases q32 : a < 198
  · exact key 192 (SR_20_32 j) (by omega) (by omega)
  by_cases q33 : a < 204
  · exact key 198 (SR_20_33 j) (by omega) (by omega)
  by_cases q34 : a < 210
  · exact key 204 (SR_20_34 j) (by omega) (by omega)
  by_cases q35 : a < 216
  · exact key 210 (SR_20_35 j) (by omega) (by omega)
  by_cases q36 : a < 222
  · exact key 216 (SR_20_36 j) (by omega) (by omega)
  omega
theorem SR_160 (j : Nat) : SR 129 (j + 160) = none := rfl
theorem SR_222 {a k : Nat} (h : 222 ≤ a) : SR a k = none := by
  have e : Nat.blt a 222 = false := by
    cases q : Nat.blt a 222
    · rfl
    · have : a < 222 := Nat.le_of_ble_eq_true q
      omega
  unfold SR
  rw [e]
  rfl
theorem SR_Bd : Bd SR := by
  intro a k h
  by_cases q : 222 ≤ a
  · exact SR_222 q
  · by_cases q2 : a = 129
    · subst q2
      obtain ⟨j, rfl⟩ : ∃ j, k = j + 160 := ⟨k - 160, by omega⟩
      exact SR_160 j
    · obtain ⟨j, rfl⟩ : ∃ j, k = j + 20 := ⟨k - 20, by omega⟩
      have := SR_20 j a (by omega)
      unfold SRh at this
      rw [Bool.or_eq_true] at this
      rcases this with h1 | h1
      · exact absurd (eq_of_beq h1) q2
      · exact Option.isNone_iff_eq_none.mp h1
theorem rF_lo : ∀ a, a < 222 → ∀ k, k < 20 → rF a k = SR a k := by decide +kernel
theorem rF_129 : ∀ k, k < 160 → rF 129 k = SR 129 k := by decide +kernel
theorem rF_SR : rF = SR := by
  have hB : Bd rF := kb129 (kb0 (fun _ _ _ => rfl))
  funext a k
  by_cases q : a ≠ 129 ∧ 20 ≤ k ∨ 160 ≤ k ∨ 222 ≤ a
  · rw [hB a k q, SR_Bd a k q]
  · by_cases q2 : a = 129
    · rw [q2]; exact rF_129 k (by omega)
    · exact rF_lo a (by omega) k (by omega)
theorem pm_mk {L : Nat} {μ : Mem} : pm L 222 SR μ = mk L μ := rfl
theorem law_s {L : Nat} {xs : Nat → Int32} (hL : L ≤ 320) (hI : Inv 0 (mF xs)) : ∃ G' : gM, Sx 369 0 [(0, .ref 100003)] [] 0 0 (gG0 L xs) (G', some (.int 1)) := by
  obtain ⟨r, e, h⟩ := law_l hL hI
  refine ⟨mk L r.1, ?_⟩
  rw [G0_pm]
  refine law_0 (m0_Z xs) ?_
  rw [show kr129 (kr0 (fun _ _ => none)) = SR from rF_SR, pm_mk]
  have := l369_18_ok gF (nI 0) (mF xs) r e
  rw [h] at this
  exact this
theorem law_T (xs : Nat → Int32) (L : Nat) (hL : L ≤ 320) : ∃ G' : gM, Sx 369 0 [(0, .ref 100003)] [] 0 0 (gG0 L xs) (G', some (.int 1)) := law_s hL (inv_0 xs)
