theorem nm_eq {α β : Type} {x v : α} {k : α → β} {r : β} (h : x = v) (hk : k v = r) : nm x k = r := by
  subst h
  exact hk
def q4 (a b c d : Nat) : Nat := a + 256 * (b + 256 * (c + 256 * d))
theorem q4_lt {a b c d : Nat} (ha : a < 256) (hb : b < 256) (hc : c < 256) (hd : d < 256) : q4 a b c d < 2 ^ 32 := by
  unfold q4
  omega
theorem q4_sub {a b c d ua ub uc ud : Nat} (ha : ua ≤ a) (hb : ub ≤ b) (hc : uc ≤ c) (hd : ud ≤ d) : q4 ua ub uc ud ≤ q4 a b c d ∧ q4 a b c d - q4 ua ub uc ud = q4 (a - ua) (b - ub) (c - uc) (d - ud) := by
  obtain ⟨a, rfl⟩ := Nat.exists_eq_add_of_le ha
  obtain ⟨b, rfl⟩ := Nat.exists_eq_add_of_le hb
  obtain ⟨c, rfl⟩ := Nat.exists_eq_add_of_le hc
  obtain ⟨d, rfl⟩ := Nat.exists_eq_add_of_le hd
  rw [Nat.add_sub_cancel_left, Nat.add_sub_cancel_left, Nat.add_sub_cancel_left, Nat.add_sub_cancel_left]
  unfold q4
  omega
theorem q4_add {a b c d e f g h : Nat} : q4 a b c d + q4 e f g h = q4 (a + e) (b + f) (c + g) (d + h) := by
  unfold q4
  omega
theorem q4_55 {a b c d : Nat} (ha : a < 256) (hb : b < 256) (hc : c < 256) : q4 a b c d / 2 &&& 1431655765 = q4 ((a / 2) &&& 85) ((b / 2) &&& 85) ((c / 2) &&& 85) ((d / 2) &&& 85) := by
  unfold q4
  rw [show 1431655765 = 85 + 256 * (85 + 256 * (85 + 256 * 85)) from rfl, and_s1 _ _ ha (by decide), and_s1 _ _ hb (by decide), and_s1 _ _ hc (by decide)]
theorem q4_33 {a b c d : Nat} (ha : a < 256) (hb : b < 256) (hc : c < 256) : q4 a b c d &&& 858993459 = q4 (a &&& 51) (b &&& 51) (c &&& 51) (d &&& 51) := by
  unfold q4
  rw [show 858993459 = 51 + 256 * (51 + 256 * (51 + 256 * 51)) from rfl, and_sp _ _ ha (by decide), and_sp _ _ hb (by decide), and_sp _ _ hc (by decide)]
theorem q4_34 {a b c d : Nat} (ha : a < 256) (hb : b < 256) (hc : c < 256) : q4 a b c d / 4 &&& 858993459 = q4 ((a / 4) &&& 51) ((b / 4) &&& 51) ((c / 4) &&& 51) ((d / 4) &&& 51) := by
  unfold q4
  rw [show 858993459 = 51 + 256 * (51 + 256 * (51 + 256 * 51)) from rfl, and_s2 _ _ ha (by decide), and_s2 _ _ hb (by decide), and_s2 _ _ hc (by decide)]
theorem q4_16 {a b c d : Nat} : q4 a b c d + q4 a b c d / 16 = q4 (a + a / 16 + b % 16 * 16) (b + b / 16 + c % 16 * 16) (c + c / 16 + d % 16 * 16) (d + d / 16) := by
  unfold q4
  have e : (a + 256 * (b + 256 * (c + 256 * d))) / 16 = a / 16 + 16 * (b + 256 * (c + 256 * d)) := by
    rw [show 256 * (b + 256 * (c + 256 * d)) = 16 * (16 * (b + 256 * (c + 256 * d))) by omega, Nat.add_mul_div_left _ _ (by decide)]
  rw [e]
  have h1 := Nat.div_add_mod b 16
  have h2 := Nat.div_add_mod c 16
  have h3 := Nat.div_add_mod d 16
  generalize b / 16 = b1 at *
  generalize c / 16 = c1 at *
  generalize d / 16 = d1 at *
  generalize a / 16 = a1 at *
  generalize b % 16 = b2 at *
  generalize c % 16 = c2 at *
  generalize d % 16 = d2 at *
  omega
theorem and_15 (x : Nat) : x &&& 15 = x % 16 := Nat.and_two_pow_sub_one_eq_mod x 4
theorem q4_0f {a b c d : Nat} (ha : a < 256) (hb : b < 256) (hc : c < 256) : q4 a b c d &&& 252645135 = q4 (a % 16) (b % 16) (c % 16) (d % 16) := by
  unfold q4
  rw [show 252645135 = 15 + 256 * (15 + 256 * (15 + 256 * 15)) from rfl, and_sp _ _ ha (by decide), and_sp _ _ hb (by decide), and_sp _ _ hc (by decide), and_15, and_15, and_15, and_15]
theorem q4_f8 {a b c d : Nat} (ha : a ≤ 8) : q4 a b c d / 2 ^ 8 = b + 256 * (c + 256 * d) := by
  unfold q4
  omega
theorem q4_fin {a b c d : Nat} (ha : a ≤ 8) (hb : b ≤ 8) (hc : c ≤ 8) (hd : d ≤ 8) : (q4 a b c d + (b + 256 * (c + 256 * d)) + (q4 a b c d + (b + 256 * (c + 256 * d))) / 2 ^ 16) % 64 = a + b + c + d := by
  have e : (q4 a b c d + (b + 256 * (c + 256 * d))) / 2 ^ 16 = c + d + 256 * d := by
    unfold q4
    omega
  rw [e]
  unfold q4
  omega
theorem ones_q {a b c d : Nat} {μ : Mem} (ha : a < 256) (hb : b < 256) (hc : c < 256) (hd : d < 256) : f364 (nI (q4 a b c d)) μ = some (μ, nI (onN a 8 + onN b 8 + onN c 8 + onN d 8)) := by
  obtain ⟨a1, a2, a3, a4, a5⟩ := xB_s ha
  obtain ⟨b1, b2, b3, b4, b5⟩ := xB_s hb
  obtain ⟨c1, c2, c3, c4, c5⟩ := xB_s hc
  obtain ⟨d1, d2, d3, d4, d5⟩ := xB_s hd
  have l := q4_lt ha hb hc hd
  have s := q4_sub a1 b1 c1 d1
  unfold f364
  refine nm_eq (v := nI (q4 (a - ((a / 2) &&& 85)) (b - ((b / 2) &&& 85)) (c - ((c / 2) &&& 85)) (d - ((d / 2) &&& 85)))) ?_ ?_
  · rw [i_1, i_55, jushr_N l (by decide), an_M, Nat.pow_one, q4_55 ha hb hc, pk_sub s.1, s.2]
  have pa : a - ((a / 2) &&& 85) < 256 := Nat.lt_of_le_of_lt (Nat.sub_le _ _) ha
  have pb : b - ((b / 2) &&& 85) < 256 := Nat.lt_of_le_of_lt (Nat.sub_le _ _) hb
  have pc : c - ((c / 2) &&& 85) < 256 := Nat.lt_of_le_of_lt (Nat.sub_le _ _) hc
  have pd : d - ((d / 2) &&& 85) < 256 := Nat.lt_of_le_of_lt (Nat.sub_le _ _) hd
  refine nm_eq (v := nI (q4 (xB a) (xB b) (xB c) (xB d))) ?_ ?_
  · rw [i_2, i_33, jushr_N (q4_lt pa pb pc pd) (by decide), an_M, an_M, show (2 : Nat) ^ 2 = 4 from rfl, q4_33 pa pb pc, q4_34 pa pb pc, nI_add, q4_add]
    rfl
  clear s l pa pb pc pd
  have xa : xB a < 80 := by omega
  have xb : xB b < 80 := by omega
  have xc : xB c < 80 := by omega
  have xd : xB d < 80 := by omega
  refine nm_eq (v := nI (q4 (onN a 8) (onN b 8) (onN c 8) (onN d 8))) ?_ ?_
  · rw [i_4, i_0f, jushr_N (q4_lt (by omega) (by omega) (by omega) (by omega)) (by decide), nI_add, an_M, show (2 : Nat) ^ 4 = 16 from rfl, q4_16, q4_0f (by omega) (by omega) (by omega), Nat.add_mul_mod_self_right, Nat.add_mul_mod_self_right, Nat.add_mul_mod_self_right, a4, b4, c4, d4]
  refine nm_eq (v := nI (q4 (onN a 8) (onN b 8) (onN c 8) (onN d 8) + (onN b 8 + 256 * (onN c 8 + 256 * onN d 8)))) ?_ ?_
  · rw [i_8, jushr_N (q4_lt (by omega) (by omega) (by omega) (by omega)) (by decide), q4_f8 a5, nI_add]
  clear a1 a2 a3 a4 b1 b2 b3 b4 c1 c2 c3 c4 d1 d2 d3 d4 xa xb xc xd ha hb hc hd
  have f := q4_fin a5 b5 c5 d5
  have lt : q4 (onN a 8) (onN b 8) (onN c 8) (onN d 8) + (onN b 8 + 256 * (onN c 8 + 256 * onN d 8)) < 2 ^ 32 := by
    unfold q4
    omega
  refine nm_eq (v := nI (q4 (onN a 8) (onN b 8) (onN c 8) (onN d 8) + (onN b 8 + 256 * (onN c 8 + 256 * onN d 8)) + (q4 (onN a 8) (onN b 8) (onN c 8) (onN d 8) + (onN b 8 + 256 * (onN c 8 + 256 * onN d 8))) / 2 ^ 16)) ?_ ?_
  · rw [i_16, jushr_N lt (by decide), nI_add]
  rw [i_63, an_63, f]
theorem ones_C {n : Nat} {μ : Mem} (hn : n < 2 ^ 32) : f364 (nI n) μ = some (μ, nI (onN n 32)) := by
  obtain ⟨a, b, c, d, ha, hb, hc, hd, rfl⟩ : ∃ a b c d, a < 256 ∧ b < 256 ∧ c < 256 ∧ d < 256 ∧ n = q4 a b c d := ⟨n % 256, n / 256 % 256, n / 65536 % 256, n / 16777216, by omega, by omega, by omega, by omega, by unfold q4; omega⟩
  rw [ones_q ha hb hc hd]
  have on32 : onN (q4 a b c d) (8 + (8 + (8 + 8))) = onN a 8 + (onN b 8 + (onN c 8 + onN d 8)) := by
    unfold q4
    rw [onN_s ha, onN_s hb, onN_s hc]
  rw [show 32 = 8 + (8 + (8 + 8)) from rfl, on32, ← Nat.add_assoc, ← Nat.add_assoc]
