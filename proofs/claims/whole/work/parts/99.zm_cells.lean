/-! ===== what the makers leave: the cells ===== -/
def m0 (xs : Nat → Int32) : Mem := (fun a => if 100000 ≤ a then gsf xs (a - 100000) else fun _ => 0, fun _ _ => 0)
theorem m0_z {xs : Nat → Int32} {c k : Nat} (h : c < 100000) : (m0 xs).1 c k = 0 := by
  show (if 100000 ≤ c then gsf xs (c - 100000) else fun _ => 0) k = 0
  rw [if_neg (by omega)]
def mF (xs : Nat → Int32) : Mem := ku129 (ku0 (m0 xs))
/-! the cells -/
abbrev P0 : Nat → Nat → Prop := fun c k => c = 5 ∧ k = 0 ∨ c = 7 ∧ k = 0 ∨ c = 9 ∧ k = 16 ∨ c = 12 ∧ k = 12 ∨ c = 27 ∨ c = 28 ∧ (k = 8 ∨ 11 ≤ k ∧ k ≤ 13 ∨ k = 15) ∨ c = 56 ∨ c = 127 ∧ k = 1 ∨ c = 129 ∧ (k = 24 ∨ k = 28 ∨ 31 ≤ k ∧ k ≤ 33 ∨ k = 35 ∨ k = 71 ∨ k = 72 ∨ k = 146) ∨ c = 158 ∨ c = 159 ∨ c = 214 ∨ c = 221 ∨ c = 128
theorem Fr_nz {P : Nat → Nat → Prop} {μ m : Mem} {n : Nat} (h : Fr P μ m) (hp : ∀ k, P 27 k) : Fr P μ (nzM m n) := ⟨fun c k hc => by rw [noise_o (fun e => hc (by rw [e]; exact hp k)) n]; exact h.1 c k hc, by rw [noise_2]; exact h.2⟩
theorem Fr_zo {P : Nat → Nat → Prop} {μ m : Mem} {n : Nat} (h : Fr P μ m) (hp : ∀ k, P 128 k) (hq : P 127 1) : Fr P μ (zoM m n) := by
  refine ⟨fun c k hc => ?_, by rw [zoM_2]; exact h.2⟩
  have q : c ≠ 127 ∨ k ≠ 1 := by
    by_cases q : c = 127 ∧ k = 1
    · exact absurd (by rw [q.1, q.2]; exact hq) hc
    · omega
  rw [zoM_o q (fun e => hc (by rw [e]; exact hp k)) n]
  exact h.1 c k hc
theorem Fr_mn {P : Nat → Nat → Prop} {μ m : Mem} {n : Nat} (h : Fr P μ m) (hp : ∀ k, P 221 k) (hq : ∀ k, P 158 k) : Fr P μ (mnM m n) := ⟨fun c k hc => by rw [mnM_o (fun e => hc (by rw [e]; exact hp k)) (fun e => hc (by rw [e]; exact hq k)) n]; exact h.1 c k hc, by rw [mnM_2]; exact h.2⟩
def mA (μ : Mem) : Mem := setI (setI (setI (setI μ 5 0 32000) 7 0 64000) 9 16 16) 12 12 (-1)
def mB (μ : Mem) : Mem := setI (setI (setI (setI (setI (setI (setI μ 28 8 6) 28 11 1) 28 12 3) 28 13 8) 28 15 20) 56 0 (-1)) 56 1 (-1)
def mC (μ : Mem) : Mem := setI (setI (setI (setI (setI (setI (setI (setI (setI (setI (setI (setI (setI (setI (setI μ 129 24 16) 129 28 6) 129 31 1) 129 32 3) 129 33 8) 129 35 20) 129 71 (-2)) 129 72 (-2)) 159 0 (-2)) 159 1 (-2)) 214 0 26) 214 1 207) 214 2 252) 214 3 29) 129 146 (-2)
theorem mF_e (xs : Nat → Int32) : mF xs = mnM (mC (zoM (mB (nzM (mA (m0 xs)) 64)) 1024)) 512 := by
  unfold mF mA mB mC
  exact ku_F
theorem mF_fr (xs : Nat → Int32) : Fr P0 (m0 xs) (mF xs) := by
  rw [mF_e]
  unfold mA mB mC
  exact Fr_mn ((((((((((((((((Fr_zo ((((((((Fr_nz ((((Fr.sI (by omega)).pI (by omega)).pI (by omega)).pI (by omega)) (fun k => by omega)).pI (by omega)).pI (by omega)).pI (by omega)).pI (by omega)).pI (by omega)).pI (by omega)).pI (by omega)) (fun k => by omega) (by omega)).pI (by omega)).pI (by omega)).pI (by omega)).pI (by omega)).pI (by omega)).pI (by omega)).pI (by omega)).pI (by omega)).pI (by omega)).pI (by omega)).pI (by omega)).pI (by omega)).pI (by omega)).pI (by omega)).pI (by omega)) (fun k => by omega) (fun k => by omega)
theorem mC_o {μ : Mem} {c k : Nat} (h : c ≠ 129 ∧ c ≠ 159 ∧ c ≠ 214) : (mC μ).1 c k = μ.1 c k := by
  unfold mC
  rw [rdI, if_neg (by omega), rdI, if_neg (by omega), rdI, if_neg (by omega), rdI, if_neg (by omega), rdI, if_neg (by omega), rdI, if_neg (by omega), rdI, if_neg (by omega), rdI, if_neg (by omega), rdI, if_neg (by omega), rdI, if_neg (by omega), rdI, if_neg (by omega), rdI, if_neg (by omega), rdI, if_neg (by omega), rdI, if_neg (by omega), rdI, if_neg (by omega)]
theorem mB_o {μ : Mem} {c k : Nat} (h : c ≠ 28 ∧ c ≠ 56) : (mB μ).1 c k = μ.1 c k := by
  unfold mB
  rw [rdI, if_neg (by omega), rdI, if_neg (by omega), rdI, if_neg (by omega), rdI, if_neg (by omega), rdI, if_neg (by omega), rdI, if_neg (by omega), rdI, if_neg (by omega)]
theorem mA_o {μ : Mem} {c k : Nat} (h : c ≠ 5 ∧ c ≠ 7 ∧ c ≠ 9 ∧ c ≠ 12) : (mA μ).1 c k = μ.1 c k := by
  unfold mA
  rw [rdI, if_neg (by omega), rdI, if_neg (by omega), rdI, if_neg (by omega), rdI, if_neg (by omega)]
theorem mC_v {μ : Mem} : (mC μ).1 129 24 = nI 16 ∧ (mC μ).1 129 28 = nI 6 ∧ (mC μ).1 129 31 = nI 1 ∧ (mC μ).1 129 32 = nI 3 ∧ (mC μ).1 129 33 = nI 8 ∧ (mC μ).1 129 35 = nI 20 ∧ (mC μ).1 129 71 = -nI 2 ∧ (mC μ).1 129 72 = -nI 2 ∧ (mC μ).1 159 0 = -nI 2 ∧ (mC μ).1 159 1 = -nI 2 ∧ (mC μ).1 214 0 = nI 26 ∧ (mC μ).1 214 1 = nI 207 ∧ (mC μ).1 214 2 = nI 252 ∧ (mC μ).1 214 3 = nI 29 ∧ (mC μ).1 129 146 = -nI 2 := ⟨rfl, rfl, rfl, rfl, rfl, rfl, rfl, rfl, rfl, rfl, rfl, rfl, rfl, rfl, rfl⟩
theorem mB_v {μ : Mem} : (mB μ).1 28 8 = nI 6 ∧ (mB μ).1 28 11 = nI 1 ∧ (mB μ).1 28 12 = nI 3 ∧ (mB μ).1 28 13 = nI 8 ∧ (mB μ).1 28 15 = nI 20 ∧ (mB μ).1 56 0 = -nI 1 ∧ (mB μ).1 56 1 = -nI 1 := ⟨rfl, rfl, rfl, rfl, rfl, rfl, rfl⟩
theorem mA_v {μ : Mem} : (mA μ).1 5 0 = nI 32000 ∧ (mA μ).1 7 0 = nI 64000 ∧ (mA μ).1 9 16 = nI 16 ∧ (mA μ).1 12 12 = -nI 1 := ⟨rfl, rfl, rfl, rfl⟩
section
variable {xs : Nat → Int32}
theorem f_z {c k : Nat} (h1 : c < 100000) (h2 : ¬ P0 c k) : (mF xs).1 c k = nI 0 := by rw [(mF_fr xs).1 c k h2]; exact m0_z h1
theorem f_t {c k : Nat} (h1 : 100000 ≤ c) : (mF xs).1 c k = gsf xs (c - 100000) k := by
  rw [(mF_fr xs).1 c k (by omega)]
  show (if 100000 ≤ c then gsf xs (c - 100000) else fun _ => 0) k = _
  rw [if_pos h1]
theorem f_C {c k : Nat} {x : Int32} (h1 : c ≠ 221 ∧ c ≠ 158) (hv : ∀ μ, (mC μ).1 c k = x) : (mF xs).1 c k = x := by rw [mF_e, mnM_o h1.1 h1.2, hv]
theorem f_B {c k : Nat} {x : Int32} (h : c = 28 ∨ c = 56) (hv : ∀ μ, (mB μ).1 c k = x) : (mF xs).1 c k = x := by
  rw [mF_e, mnM_o (by omega) (by omega), mC_o (by omega), zoM_o (by omega) (by omega), hv]
theorem f_A {c k : Nat} {x : Int32} (h : c = 5 ∨ c = 7 ∨ c = 9 ∨ c = 12) (hv : ∀ μ, (mA μ).1 c k = x) : (mF xs).1 c k = x := by
  rw [mF_e, mnM_o (by omega) (by omega), mC_o (by omega), zoM_o (by omega) (by omega), mB_o (by omega), noise_o (by omega), hv]
theorem f_127 : (mF xs).1 127 1 = nI 1024 := by
  rw [mF_e, mnM_o (by decide) (by decide), mC_o (by decide)]
  exact zoM_1 (by rw [mB_o (by decide), noise_o (by decide), mA_o (by decide)]; exact m0_z (by decide)) 1024
theorem f_128 {i : Nat} : (mF xs).1 128 i = 0 := by
  rw [mF_e, mnM_o (by decide) (by decide), mC_o (by decide)]
  exact zoM_128 (fun j => by rw [mB_o (by decide), noise_o (by decide), mA_o (by decide)]; exact m0_z (by decide)) 1024 i
theorem f_27 {i : Nat} (h : i < 64) : (mF xs).1 27 i = (nI (nsF i)).toInt8.toInt32 := by
  rw [mF_e, mnM_o (by decide) (by decide), mC_o (by decide), zoM_o (by omega) (by decide), mB_o (by decide), noise_at, if_pos h]
theorem f_158 {i : Nat} (h : i < 64) : (mF xs).1 158 i = nI (nsF i) := by
  have h0 : ∀ j, (mC (zoM (mB (nzM (mA (m0 xs)) 64)) 1024)).1 158 j = 0 := fun j => by
    rw [mC_o (by decide), zoM_o (by omega) (by decide), mB_o (by decide), noise_o (by decide), mA_o (by decide)]
    exact m0_z (by decide)
  rw [mF_e, mnM_158 h0 512 i (by omega) h]
  unfold zzV
  rw [if_pos (by omega)]
end
