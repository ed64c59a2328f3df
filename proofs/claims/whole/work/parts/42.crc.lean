/-! ===== CHECK: a bit, a half byte, a byte, a row ===== -/
def cst (c b : Nat) : Nat := ((2 * c) % 65536) ^^^ (if c / 32768 % 2 = b then 0 else 4129)
def cnb (c h : Nat) : Nat := cst (cst (cst (cst c (h / 8 % 2)) (h / 4 % 2)) (h / 2 % 2)) (h % 2)
def cby (c v : Nat) : Nat := cnb (cnb c (v / 16)) (v % 16)
def crc (bs : List Nat) : Nat := bs.foldl cby 65535
theorem xor_lt16 {a b : Nat} (ha : a < 65536) (hb : b < 65536) : a ^^^ b < 65536 := Nat.xor_lt_two_pow (n := 16) ha hb
theorem cst_lt {c b : Nat} : cst c b < 65536 := by
  unfold cst
  refine xor_lt16 (Nat.mod_lt _ (by decide)) ?_
  split <;> decide
theorem cnb_lt {c h : Nat} : cnb c h < 65536 := cst_lt
theorem cby_lt {c v : Nat} : cby c v < 65536 := cnb_lt
theorem crc_lt (bs : List Nat) : crc bs < 65536 := by
  unfold crc
  have : ∀ (l : List Nat) (c : Nat), c < 65536 → l.foldl cby c < 65536 := by
    intro l
    induction l with
    | nil => intro c h; exact h
    | cons x l ih => intro c h; exact ih _ cby_lt
  exact this bs 65535 (by decide)
theorem cst_lin {y k b : Nat} (hy : y < 32768) (hk : k < 65536) : cst (y ^^^ k) b = (2 * y) ^^^ cst k b := by
  have e1 : (y ^^^ k) / 32768 = k / 32768 := by
    have h : (y ^^^ k) / 2 ^ 15 = (y / 2 ^ 15) ^^^ (k / 2 ^ 15) := Nat.xor_div_two_pow
    have h0 : y / 2 ^ 15 = 0 := Nat.div_eq_of_lt hy
    rw [h0, Nat.zero_xor] at h
    exact h
  have e2 : (2 * (y ^^^ k)) % 65536 = (2 * y) ^^^ ((2 * k) % 65536) := by
    have h1 : 2 * (y ^^^ k) = (2 * y) ^^^ (2 * k) := by
      have := Nat.shiftLeft_xor_distrib (a := y) (b := k) (i := 1)
      simpa [Nat.shiftLeft_eq, Nat.mul_comm] using this
    have h2 : ((2 * y) ^^^ (2 * k)) % 2 ^ 16 = ((2 * y) % 2 ^ 16) ^^^ ((2 * k) % 2 ^ 16) := Nat.xor_mod_two_pow
    rw [h1, show (65536 : Nat) = 2 ^ 16 from rfl, h2, Nat.mod_eq_of_lt (show 2 * y < 2 ^ 16 by omega)]
  unfold cst
  rw [e1, e2, Nat.xor_assoc]
theorem cnb_lin {l k h : Nat} (hl : l < 4096) (hk : k < 65536) : cnb (l ^^^ k) h = (16 * l) ^^^ cnb k h := by
  unfold cnb
  rw [cst_lin (by omega) hk, cst_lin (by omega) cst_lt, cst_lin (by omega) cst_lt, cst_lin (by omega) cst_lt]
  congr 1
  omega
theorem cnb_tab : (List.range 16).all (fun q => (List.range 16).all (fun h => decide (nI (cnb (4096 * q) h) = gtab0.getD (q ^^^ h) 0) && decide (cnb (4096 * q) h < 65536))) = true := by decide +kernel
theorem cnb_eq {c h : Nat} (hc : c < 65536) (hh : h < 16) : nI (cnb c h) = nI (16 * (c % 4096)) ^^^ gtab0.getD ((c / 4096) ^^^ h) 0 := by
  have e : c = (c % 4096) ^^^ (4096 * (c / 4096)) := by
    have h1 := Nat.two_pow_add_eq_or_of_lt (i := 12) (b := c % 4096) (Nat.mod_lt _ (by decide)) (c / 4096)
    have h2 : (2 ^ 12 * (c / 4096)) ||| (c % 4096) = (2 ^ 12 * (c / 4096)) ^^^ (c % 4096) := by
      apply Nat.eq_of_testBit_eq
      intro i
      rw [Nat.testBit_or, Nat.testBit_xor]
      by_cases hi : i < 12
      · rw [Nat.testBit_two_pow_mul]
        simp [hi, Nat.not_le.mpr hi]
      · have : (c % 4096).testBit i = false := Nat.testBit_lt_two_pow (Nat.lt_of_lt_of_le (Nat.mod_lt _ (by decide)) (Nat.pow_le_pow_right (by decide) (Nat.not_lt.mp hi) : 2 ^ 12 ≤ 2 ^ i))
        rw [this]
        simp
    have h3 : c = 2 ^ 12 * (c / 4096) + c % 4096 := (Nat.div_add_mod c 4096).symm
    rw [Nat.xor_comm]
    exact h3.trans (h1.trans h2)
  have t := List.all_eq_true.mp (List.all_eq_true.mp cnb_tab (c / 4096) (List.mem_range.mpr (by omega))) h (List.mem_range.mpr hh)
  rw [Bool.and_eq_true, decide_eq_true_eq, decide_eq_true_eq] at t
  rw [show cnb c h = (16 * (c % 4096)) ^^^ cnb (4096 * (c / 4096)) h by
    conv => lhs; rw [e]
    exact cnb_lin (Nat.mod_lt _ (by decide)) (by omega)]
  rw [← t.1, nx_xor]
