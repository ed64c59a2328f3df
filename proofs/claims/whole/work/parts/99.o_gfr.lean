/-! ===== the ground: a frame has come ===== -/
abbrev Hw : Type := Wd × Gw × Jw × (Nat → Int32)
def KnC (μ : Mem) (k : Nat → Int32) : Prop := μ.1 49 13 = k 0 ∧ μ.1 49 14 = k 1 ∧ μ.1 49 16 = k 2 ∧ (¬ k 2 = nI 0 → μ.1 49 17 = k 3 ∧ μ.1 49 18 = k 4)
def KnM (μ : Mem) (k : Nat → Int32) : Prop := μ.1 129 67 = k 0 ∧ μ.1 129 68 = k 1 ∧ μ.1 129 70 = k 2 ∧ μ.1 129 71 = k 3 ∧ μ.1 129 72 = k 4
theorem KnC.fr {μ m : Mem} {n : Nat → Int32} {P : Nat → Nat → Prop} (h : KnC μ n) (ho : Fr P μ m) (h1 : ∀ k, k = 13 ∨ k = 14 ∨ 16 ≤ k ∧ k ≤ 18 → ¬ P 49 k) : KnC m n :=
  ⟨by rw [ho.1 _ _ (h1 _ (by omega))]; exact h.1, by rw [ho.1 _ _ (h1 _ (by omega))]; exact h.2.1, by rw [ho.1 _ _ (h1 _ (by omega))]; exact h.2.2.1, (fun z => ⟨by rw [ho.1 _ _ (h1 _ (by omega))]; exact (h.2.2.2 z).1, by rw [ho.1 _ _ (h1 _ (by omega))]; exact (h.2.2.2 z).2⟩)⟩
theorem KnM.fr {μ m : Mem} {n : Nat → Int32} {P : Nat → Nat → Prop} (h : KnM μ n) (ho : Fr P μ m) (h1 : ∀ k, k = 67 ∨ k = 68 ∨ 70 ≤ k ∧ k ≤ 72 → ¬ P 129 k) : KnM m n :=
  ⟨by rw [ho.1 _ _ (h1 _ (by omega))]; exact h.1, by rw [ho.1 _ _ (h1 _ (by omega))]; exact h.2.1, by rw [ho.1 _ _ (h1 _ (by omega))]; exact h.2.2.1, by rw [ho.1 _ _ (h1 _ (by omega))]; exact h.2.2.2.1, by rw [ho.1 _ _ (h1 _ (by omega))]; exact h.2.2.2.2⟩
def HC (μ : Mem) (t : Nat) (h : Hw) : Prop := WC μ t h.1 ∧ To μ ∧ GwC μ h.2.1 ∧ JC μ h.2.2.1 ∧ KnC μ h.2.2.2
def HM (μ : Mem) (t : Nat) (h : Hw) : Prop := WM μ t h.1 ∧ GwM μ h.2.1 ∧ JM μ h.2.2.1 ∧ KnM μ h.2.2.2
def HI (h : Hw) : Prop := WJ h.1 ∧ GwI h.2.1 ∧ JI h.2.2.1
def sndF (fr : List Nat) : Bool := decide (fr.getD 0 0 = 10 ∧ fr.getD 1 0 / 16 = 11 ∧ fr.getD 1 0 % 2 = 1 ∧ fr.getD 4 0 / 8 = 3 ∧ crc (fr.take 62) = w2 fr 62)
def repB (fr : List Nat) : Bool := decide (fr.getD 58 0 = 1 ∧ fr.getD 59 0 = 0 ∧ fr.getD 60 0 < 64 ∧ fr.getD 60 0 % 2 = 0)
def heR (t : Nat) (fr : List Nat) (w : Wd) : Wd := hearW t w (fr.getD 61 0) (decide (fr.getD 60 0 / 2 / 16 % 2 = 1)) (decide (fr.getD 60 0 / 2 / 8 % 2 = 1)) (decide (fr.getD 60 0 / 2 / 4 % 2 = 1))
def frR (t : Nat) (fr : List Nat) (h : Hw) : Hw := if repB fr = true then (heR t fr h.1, h.2.1, h.2.2.1, upL (upL (upL h.2.2.2 2 (h.2.2.2 2 + 1)) 4 (nI (fr.getD 60 0 / 2))) 3 (nI (fr.getD 61 0))) else h
def frJ (t : Nat) (fr : List Nat) (h : Hw) : Hw := ((h.1.1, h.1.2.1, h.1.2.2.1, (joW t fr (h.2.1, h.1.2.2.2.1, h.2.2.1)).2.1, h.1.2.2.2.2), (joW t fr (h.2.1, h.1.2.2.2.1, h.2.2.1)).1, (joW t fr (h.2.1, h.1.2.2.2.1, h.2.2.1)).2.2, h.2.2.2)
def frX (t : Nat) (fr : List Nat) (h : Hw) : Hw := if sndF fr = true then frJ t fr (frR t fr h) else (h.1, h.2.1, h.2.2.1, upL h.2.2.2 1 (h.2.2.2 1 + 1))
def frW (t : Nat) (ns fr : List Nat) (h : Hw) : Hw := frX t (mixL fr ns) (h.1, h.2.1, h.2.2.1, upL h.2.2.2 0 (h.2.2.2 0 + 1))
theorem hd_q : ∀ b, b < 256 → (b &&& 241 = 177 ↔ b / 16 = 11 ∧ b % 2 = 1) := by
  have h : (List.range 256).all (fun v => decide (v &&& 241 = 177 ↔ v / 16 = 11 ∧ v % 2 = 1)) = true := by decide +kernel
  intro v hv
  exact of_decide_eq_true (List.all_eq_true.mp h v (List.mem_range.mpr hv))
theorem hd_p : ∀ a, a < 256 → (a &&& 255 = 10 ↔ a = 10) := by
  have h : (List.range 256).all (fun v => decide (v &&& 255 = 10 ↔ v = 10)) = true := by decide +kernel
  intro v hv
  exact of_decide_eq_true (List.all_eq_true.mp h v (List.mem_range.mpr hv))
theorem hd_C {a b : Nat} (ha : a < 256) (hb : b < 256) : nI (256 * a + b) &&& nI 65521 = nI 2737 ↔ a = 10 ∧ b / 16 = 11 ∧ b % 2 = 1 := by
  have hl : (256 * a + b) &&& 65521 < 65536 := Nat.and_lt_two_pow (n := 16) _ (by decide)
  rw [nx_and, nI_eq (by omega) (by omega), ← hd_q b hb, ← hd_p a ha]
  have e1 : ((256 * a + b) &&& 65521) / 2 ^ 8 = a &&& 255 := by
    rw [Nat.and_div_two_pow, show (256 * a + b) / 2 ^ 8 = a by omega]
  have e2 : ((256 * a + b) &&& 65521) % 2 ^ 8 = b &&& 241 := by
    rw [Nat.and_mod_two_pow, show (256 * a + b) % 2 ^ 8 = b by omega]
  omega
theorem an248 : ∀ v, v < 256 → (nI v &&& nI 248 = nI 24 ↔ v / 8 = 3) := by
  have h : (List.range 256).all (fun v => decide (nI v &&& nI 248 = nI 24 ↔ v / 8 = 3)) = true := by decide +kernel
  intro v hv
  exact of_decide_eq_true (List.all_eq_true.mp h v (List.mem_range.mpr hv))
theorem an193 : ∀ v, v < 256 → (nI v &&& nI 193 = nI 0 ↔ v < 64 ∧ v % 2 = 0) := by
  have h : (List.range 256).all (fun v => decide (nI v &&& nI 193 = nI 0 ↔ v < 64 ∧ v % 2 = 0)) = true := by decide +kernel
  intro v hv
  exact of_decide_eq_true (List.all_eq_true.mp h v (List.mem_range.mpr hv))
theorem mixL_mem {fr ns : List Nat} (h1 : ∀ b, b ∈ fr → b < 256) (h2 : ∀ b, b ∈ ns → b < 256) : ∀ b, b ∈ mixL fr ns → b < 256 := fun b hb => by
  rw [mixL] at hb
  obtain ⟨i, hi, rfl⟩ := List.mem_map.mp hb
  exact Nat.xor_lt_two_pow (n := 8) (getD_lt h1 i) (getD_lt h2 i)
theorem chk_C {μ : Mem} {fr ns : List Nat} (hT : Tb μ) (hF : Byt μ 50 fr) (hfl : fr.length = 64) (hns : SegB μ 27 0 ns) (hnl : ns.length = 64) :
    wp (f103 μ) (fun r => r.2 = nI (b2n (sndF (mixL fr ns))) ∧ Byt r.1 50 (mixL fr ns) ∧ r.1.1 49 13 = μ.1 49 13 + 1 ∧ r.1.1 49 14 = (if sndF (mixL fr ns) = true then μ.1 49 14 else μ.1 49 14 + 1) ∧ Fr (fun a k => a = 50 ∨ a = 51 ∨ a = 49 ∧ 13 ≤ k ∧ k ≤ 14) μ r.1) := by
  have g27 := gl_27
  have hml := mixL_len fr ns
  have f0 : Fr (fun a k => a = 49 ∧ k = 13) μ (setI μ 49 13 (μ.1 49 13 + 1)) := Fr.sI ⟨rfl, rfl⟩
  have e13 : (setI μ 49 13 (μ.1 49 13 + 1)).1 49 13 = μ.1 49 13 + 1 := by rw [rdI, if_pos ⟨rfl, rfl⟩]
  unfold f103 pfI
  rw [Option.bind_some]
  generalize setI μ 49 13 (μ.1 49 13 + 1) = m0 at f0 e13 ⊢
  refine wp_bind (mix_ok (hF.fr f0 (by omega) (fun k => by omega)) (ns := ns) (p := 27) ⟨fun i hi => by rw [f0.1 _ _ (by omega)]; exact hns.1 i hi, hns.2⟩ (by omega) (by omega) (by decide) (by omega)) (fun m ⟨a1, a2⟩ => ?_)
  have f1 : Fr (fun a k => a = 50 ∨ a = 51 ∨ a = 49 ∧ k = 13) μ m := f0.tr a2 (by intro c k h; omega) (by intro c k h; omega)
  have hT1 := hT.fr f1 (fun k => by omega)
  have e13' : m.1 49 13 = μ.1 49 13 + 1 := by rw [a2.1 _ _ (by omega), e13]
  have e14 : m.1 49 14 = μ.1 49 14 := f1.1 _ _ (by omega)
  rw [hfl] at hml
  generalize mixL fr ns = F at a1 hml ⊢
  have b0 := a1.get 0
  have b1 := a1.get 1
  have b4 := a1.get 4
  have no : sndF F = false → wp (c103_81 m) (fun r => r.2 = nI (b2n (sndF F)) ∧ Byt r.1 50 F ∧ r.1.1 49 13 = μ.1 49 13 + 1 ∧ r.1.1 49 14 = (if sndF F = true then μ.1 49 14 else μ.1 49 14 + 1) ∧ Fr (fun a k => a = 50 ∨ a = 51 ∨ a = 49 ∧ 13 ≤ k ∧ k ≤ 14) μ r.1) := by
    intro z
    unfold c103_81 c103_82 pfI
    rw [if_pos rfl, Option.bind_some, i_0, rtZ_0, z, if_neg (by decide), e14]
    have f2 : Fr (fun a k => a = 49 ∧ k = 14) m (setI m 49 14 (μ.1 49 14 + 1)) := Fr.sI ⟨rfl, rfl⟩
    exact wp_some ⟨rfl, a1.fr f2 (by omega) (fun k => by omega), by rw [rdI, if_neg (by omega)]; exact e13', by rw [rdI, if_pos ⟨rfl, rfl⟩], f1.tr f2 (by intro c k h; omega) (by intro c k h; omega)⟩
  rw [i_0, two_ok a1 (k := 0) (by omega), Option.bind_some, show 0 + 1 = 1 from rfl]
  dsimp only
  rw [i_65521, i_2737]
  by_cases q1 : F.getD 0 0 = 10 ∧ F.getD 1 0 / 16 = 11 ∧ F.getD 1 0 % 2 = 1
  · rw [if_pos ((hd_C b0 b1).mpr q1), i_4, at_ok a1 (k := 4) (by omega), Option.bind_some]
    dsimp only
    rw [i_248, i_24]
    by_cases q2 : F.getD 4 0 / 8 = 3
    · have ck := checkOf_ok hT1 a1 (s := 0) (e := 62) (by omega) (by omega) (by omega)
      rw [List.drop_zero] at ck
      have cl := crc_lt (F.take 62)
      have wl := w2_lt (k := 62) a1.2.2.2
      rw [if_pos ((an248 _ b4).mpr q2), i_62, ck, Option.bind_some]
      dsimp only
      rw [two_ok a1 (k := 62) (by omega), Option.bind_some]
      dsimp only
      rw [show 256 * F.getD 62 0 + F.getD (62 + 1) 0 = w2 F 62 from rfl]
      by_cases q3 : crc (F.take 62) = w2 F 62
      · have z : sndF F = true := decide_eq_true ⟨q1.1, q1.2.1, q1.2.2, q2, q3⟩
        rw [if_pos (by rw [q3]), z, if_pos rfl]
        unfold c103_82
        rw [if_neg (by decide), i_1, rtZ_1]
        exact wp_some ⟨rfl, a1, e13', e14, f1.mono (by intro c k h; omega)⟩
      · rw [if_neg (fun z => q3 ((nI_eq (by omega) (by omega)).mp z))]
        exact no (decide_eq_false (fun z => q3 z.2.2.2.2))
    · rw [if_neg (fun z => q2 ((an248 _ b4).mp z))]
      exact no (decide_eq_false (fun z => q2 z.2.2.2.1))
  · rw [if_neg (fun z => q1 ((hd_C b0 b1).mp z))]
    exact no (decide_eq_false (fun z => q1 ⟨z.1, z.2.1, z.2.2.1⟩))
theorem rep2_C {μ : Mem} {F : List Nat} (hF : Byt μ 50 F) :
    wp (f104 μ) (fun r => r.2 = nI (b2n (repB F)) ∧ (if repB F = true then r.1.1 49 16 = μ.1 49 16 + 1 ∧ r.1.1 49 17 = nI (F.getD 61 0) ∧ r.1.1 49 18 = nI (F.getD 60 0 / 2) else r.1 = μ) ∧ Fr (fun a k => a = 49 ∧ 16 ≤ k ∧ k ≤ 18) μ r.1) := by
  have b58 := hF.get 58
  have b59 := hF.get 59
  have b60 := hF.get 60
  unfold f104
  rw [i_60, at_ok hF (k := 60) (by omega), Option.bind_some]
  dsimp only
  rw [i_58, two_ok hF (k := 58) (by omega), Option.bind_some, show 58 + 1 = 59 from rfl]
  dsimp only
  rw [i_256, i_193, i_0]
  have no : repB F = false → wp (rtZ (nI 0) μ) (fun r => r.2 = nI (b2n (repB F)) ∧ (if repB F = true then r.1.1 49 16 = μ.1 49 16 + 1 ∧ r.1.1 49 17 = nI (F.getD 61 0) ∧ r.1.1 49 18 = nI (F.getD 60 0 / 2) else r.1 = μ) ∧ Fr (fun a k => a = 49 ∧ 16 ≤ k ∧ k ≤ 18) μ r.1) := by
    intro z
    rw [rtZ_0, z]
    exact wp_some ⟨rfl, rfl, Fr.rf⟩
  by_cases q1 : F.getD 58 0 = 1 ∧ F.getD 59 0 = 0
  · rw [if_pos (by rw [q1.1, q1.2])]
    by_cases q2 : F.getD 60 0 < 64 ∧ F.getD 60 0 % 2 = 0
    · have z : repB F = true := decide_eq_true ⟨q1.1, q1.2, q2.1, q2.2⟩
      rw [if_pos ((an193 _ b60).mpr q2), i_1, jshr_N (by omega) (by omega), Nat.pow_one]
      unfold pfI
      rw [Option.bind_some, Option.bind_some]
      have f0 : Fr (fun a k => a = 49 ∧ (k = 16 ∨ k = 18)) μ (setI (setI μ 49 16 (μ.1 49 16 + nI 1)) 49 18 (nI (F.getD 60 0 / 2))) := (Fr.sI (by omega)).pI (by omega)
      rw [i_61, at_ok (hF.fr f0 (by omega) (fun k => by omega)) (k := 61) (by omega), Option.bind_some]
      dsimp only
      rw [Option.bind_some, rtZ_1, z]
      refine wp_some ⟨rfl, ⟨?_, ?_, ?_⟩, (f0.mono (by intro c k h; omega)).pI (by omega)⟩
      · rw [rdI, if_neg (by omega), rdI, if_neg (by omega), rdI, if_pos ⟨rfl, rfl⟩]
      · rw [rdI, if_pos ⟨rfl, rfl⟩]
      · rw [rdI, if_neg (by omega), rdI, if_pos ⟨rfl, rfl⟩]
    · rw [if_neg (fun z => q2 ((an193 _ b60).mp z))]
      exact no (decide_eq_false (fun z => q2 ⟨z.2.2.1, z.2.2.2⟩))
  · rw [if_neg (fun z => q1 (by have := (nI_eq (by omega) (by omega)).mp z; omega))]
    exact no (decide_eq_false (fun z => q1 ⟨z.1, z.2.1⟩))
theorem WC.rq {μ m : Mem} {t : Nat} {w : Wd} {q : Nat → Rq} {P : Nat → Nat → Prop} (h : WC μ t w) (hq : ReqC m t q) (ho : Fr P μ m) (h1 : ∀ c k, c = 100000 ∨ 28 ≤ c ∧ c ≤ 40 ∨ 5 ≤ c ∧ c ≤ 8 → ¬ P c k) : WC m t (w.1, w.2.1, w.2.2.1, q, w.2.2.2.2) :=
  ⟨h.1.fr ho (fun k => h1 _ _ (by omega)), h.2.1.fr ho (fun k _ _ => h1 _ _ (by omega)), h.2.2.1.fr ho (fun c k _ _ => h1 _ _ (by omega)), h.2.2.2.1.fr ho (fun c k _ _ => h1 _ _ (by omega)), hq, h.2.2.2.2.2.fr ho (fun c k _ _ => h1 _ _ (by omega))⟩
theorem WM.rq {μ m : Mem} {t : Nat} {w : Wd} {q : Nat → Rq} {P : Nat → Nat → Prop} (h : WM μ t w) (hq : ReqM m t q) (ho : Fr P μ m) (h1 : ∀ c k, c = 129 ∧ 28 ≤ k ∧ k ≤ 43 ∨ 134 ≤ c ∧ c ≤ 136 ∨ 141 ≤ c ∧ c ≤ 147 → ¬ P c k) : WM m t (w.1, w.2.1, w.2.2.1, q, w.2.2.2.2) :=
  ⟨h.1.fr ho (fun k _ _ => h1 _ _ (by omega)), h.2.1.fr ho (h1 _ _ (by omega)) (fun c k _ => h1 _ _ (by omega)), h.2.2.1.fr ho (h1 _ _ (by omega)) (fun c k _ => h1 _ _ (by omega)), hq, h.2.2.2.2.fr ho (fun c k _ _ => h1 _ _ (by omega))⟩
theorem WI_rq {w : Wd} {q : Nat → Rq} (h : WI w) : WI (w.1, w.2.1, w.2.2.1, q, w.2.2.2.2) := h
theorem WJ_rq {w : Wd} {q : Nat → Rq} (h : WJ w) : WJ (w.1, w.2.1, w.2.2.1, q, w.2.2.2.2) := h
abbrev FHC : Nat → Nat → Prop := fun a k => 15 ≤ a ∧ a ≤ 25 ∨ a = 12 ∧ 9 ≤ k ∧ k ≤ 12 ∨ 50 ≤ a ∧ a ≤ 56 ∨ a = 49 ∧ 13 ≤ k ∧ k ≤ 18 ∨ 28 ≤ a ∧ a ≤ 40 ∨ 43 ≤ a ∧ a ≤ 48 ∨ 5 ≤ a ∧ a ≤ 6
theorem frm_C {μ : Mem} {t : Nat} {h : Hw} {fr ns : List Nat} (hH : HC μ t h) (hI : HI h) (hF : Byt μ 50 fr) (hfl : fr.length = 64) (hns : SegB μ 27 0 ns) (hnl : ns.length = 64) :
    wp (f216 μ) (fun m => HC m t (frW t ns fr h) ∧ Byt m 50 (mixL fr ns) ∧ Fr FHC μ m) := by
  have hml := mixL_len fr ns
  rw [hfl] at hml
  unfold f216 frW
  refine wp_bind (chk_C hH.1.1 hF hfl hns hnl) (fun r ⟨a1, a2, a3, a4, a5⟩ => ?_)
  obtain ⟨m, rv⟩ := r
  dsimp only at a1 a2 a3 a4 a5 ⊢
  subst a1
  generalize mixL fr ns = F at a2 a4 hml ⊢
  have H1 : WC m t h.1 ∧ To m ∧ GwC m h.2.1 ∧ JC m h.2.2.1 := ⟨hH.1.fr a5 (fun c k _ => by omega), hH.2.1.fr a5 (fun k => by omega), hH.2.2.1.fr a5 (fun c k _ => by omega), hH.2.2.2.1.fr a5 (fun c k _ => by omega)⟩
  obtain ⟨k1, k2, k3, k4⟩ := hH.2.2.2.2
  unfold frX
  by_cases q1 : sndF F = true
  · rw [if_pos q1] at a4 ⊢
    rw [q1, if_neg (show ¬ nI (b2n true) = 0 by decide)]
    have K1 : KnC m (upL h.2.2.2 0 (h.2.2.2 0 + 1)) := ⟨by rw [a3, k1]; rfl, by rw [a4, k2]; rfl, by rw [a5.1 _ _ (by omega), k3]; rfl, (fun z => ⟨by rw [a5.1 _ _ (by omega)]; exact (k4 z).1, by rw [a5.1 _ _ (by omega)]; exact (k4 z).2⟩)⟩
    have jn : ∀ m1 : Mem, ∀ h1 : Hw, HC m1 t h1 → HI h1 → Byt m1 50 F → Fr FHC μ m1 → wp (c216_52 m1) (fun m => HC m t (frJ t F h1) ∧ Byt m 50 F ∧ Fr FHC μ m) := by
      intro m1 h1 y1 y2 y3 y4
      unfold c216_52
      refine wp_bind (join_C (s := (h1.2.1, h1.1.2.2.2.1, h1.2.2.1)) y1.1.1 y1.2.1 y1.1.2.2.2.2.1 y1.2.2.1 y2.2.1 y1.2.2.2.1 y2.2.2 y3 hml) (fun m2 ⟨d1, d2, d3, d4⟩ => wp_some ⟨⟨y1.1.rq d1 d4 (fun c k _ => by omega), y1.2.1.fr d4 (fun k => by omega), d2, d3, y1.2.2.2.2.fr d4 (fun k _ => by omega)⟩, y3.fr d4 (by omega) (fun k => by omega), y4.tr d4 (fun _ _ q => q) (by intro c k h; omega)⟩)
    refine wp_bind (rep2_C a2) (fun r ⟨b1, b2, b3⟩ => ?_)
    obtain ⟨m2, rv⟩ := r
    dsimp only at b1 b2 b3 ⊢
    subst b1
    have f2 : Fr FHC μ m2 := a5.tr b3 (by intro c k h; omega) (by intro c k h; omega)
    unfold frR
    by_cases q2 : repB F = true
    · rw [if_pos q2] at b2 ⊢
      rw [q2, if_neg (show ¬ nI (b2n true) = 0 by decide), b2.2.1, b2.2.2]
      have b60 := a2.get 60
      have b61 := a2.get 61
      have r60 := (of_decide_eq_true q2).2.2.1
      have W2 : WC m2 t h.1 := H1.1.fr b3 (fun c k _ => by omega)
      have K2 : KnC m2 (upL (upL (upL (upL h.2.2.2 0 (h.2.2.2 0 + 1)) 2 ((upL h.2.2.2 0 (h.2.2.2 0 + 1)) 2 + 1)) 4 (nI (F.getD 60 0 / 2))) 3 (nI (F.getD 61 0))) := by
        obtain ⟨j1, j2, j3, j4⟩ := K1
        exact ⟨by rw [b3.1 _ _ (by omega), j1]; rfl, by rw [b3.1 _ _ (by omega), j2]; rfl, by rw [b2.1, j3]; rfl, fun _ => ⟨by rw [b2.2.1]; rfl, by rw [b2.2.2]; rfl⟩⟩
      have hc := hear_C (t := t) (x := F.getD 61 0) (fl := F.getD 60 0 / 2) W2 hI.1.1 b61 (by omega) rfl rfl rfl
      refine wp_bind hc (fun r ⟨c1, c2, c3⟩ => ?_)
      obtain ⟨m3, rv⟩ := r
      dsimp only at c1 c2 c3 ⊢
      subst c1
      have eh : heR t F h.1 = _ := hear_go
      have hj : HI (heR t F h.1, h.2.1, h.2.2.1, upL (upL (upL (upL h.2.2.2 0 (h.2.2.2 0 + 1)) 2 ((upL h.2.2.2 0 (h.2.2.2 0 + 1)) 2 + 1)) 4 (nI (F.getD 60 0 / 2))) 3 (nI (F.getD 61 0))) := ⟨(hear_J hI.1 b61).1, hI.2⟩
      have asm : ∀ m4 : Mem, WC m4 t (heR t F h.1) → Fr FG m2 m4 → wp (c216_52 m4) (fun m => HC m t (frJ t F (heR t F h.1, h.2.1, h.2.2.1, upL (upL (upL (upL h.2.2.2 0 (h.2.2.2 0 + 1)) 2 ((upL h.2.2.2 0 (h.2.2.2 0 + 1)) 2 + 1)) 4 (nI (F.getD 60 0 / 2))) 3 (nI (F.getD 61 0)))) ∧ Byt m 50 F ∧ Fr FHC μ m) := by
        intro m4 z1 z2
        have f4 : Fr (fun a k => a = 49 ∧ 16 ≤ k ∧ k ≤ 18 ∨ FG a k) m m4 := b3.tr z2 (by intro c k h; omega) (by intro c k h; omega)
        exact jn m4 _ ⟨z1, H1.2.1.fr f4 (fun k => by omega), H1.2.2.1.fr f4 (fun c k _ => by omega), H1.2.2.2.fr f4 (fun c k _ => by omega), K2.fr z2 (fun k _ => by omega)⟩ hj (a2.fr f4 (by omega) (fun k => by omega)) (f2.tr z2 (fun _ _ q => q) (by intro c k h; omega))
      by_cases q3 : goes t h.1 (F.getD 61 0) (decide (F.getD 60 0 / 2 / 16 % 2 = 1)) (decide (F.getD 60 0 / 2 / 8 % 2 = 1)) (decide (F.getD 60 0 / 2 / 4 % 2 = 1)) = true
      · rw [q3, if_neg (show ¬ nI (b2n true) = 0 by decide)]
        rw [if_pos q3] at eh
        have hi1 : WI (hear1 t h.1 (F.getD 61 0) (decide (F.getD 60 0 / 2 / 16 % 2 = 1)) (decide (F.getD 60 0 / 2 / 8 % 2 = 1)) (decide (F.getD 60 0 / 2 / 4 % 2 = 1))) := by
          unfold hear1
          have qz := of_decide_eq_true q3
          rw [if_neg qz.1, if_pos qz.2]
          exact (hearJ_P hI.1.1 b61).1
        refine wp_bind (go_C c2 hi1) (fun m4 ⟨d1, d2⟩ => asm m4 (by rw [eh]; exact d1) (c3.tr' d2))
      · have q3' := Bool.eq_false_iff.mpr q3
        rw [q3', if_pos (show nI (b2n false) = 0 by decide)]
        rw [if_neg q3] at eh
        exact asm m3 (by rw [eh]; exact c2) c3
    · rw [if_neg q2] at b2 ⊢
      have q2' : repB F = false := Bool.eq_false_iff.mpr q2
      rw [q2', if_pos (show nI (b2n false) = 0 by decide)]
      subst b2
      exact jn m2 _ ⟨H1.1, H1.2.1, H1.2.2.1, H1.2.2.2, K1⟩ ⟨hI.1, hI.2⟩ a2 f2
  · rw [if_neg q1] at a4 ⊢
    have q1' : sndF F = false := Bool.eq_false_iff.mpr q1
    rw [q1', if_pos (show nI (b2n false) = 0 by decide)]
    refine wp_some ⟨⟨H1.1, H1.2.1, H1.2.2.1, H1.2.2.2, ?_⟩, a2, a5.mono (by intro c k h; omega)⟩
    exact ⟨by rw [a3, k1]; rfl, by rw [a4, k2]; rfl, by rw [a5.1 _ _ (by omega), k3]; rfl, (fun z => ⟨by rw [a5.1 _ _ (by omega)]; exact (k4 z).1, by rw [a5.1 _ _ (by omega)]; exact (k4 z).2⟩)⟩
theorem frW_I {t : Nat} {h : Hw} {fr ns : List Nat} (hI : HI h) (hF : ∀ b, b ∈ fr → b < 256) (hfl : fr.length = 64) (hns : ∀ b, b ∈ ns → b < 256) : HI (frW t ns fr h) ∧ (frW t ns fr h).2.1.2.1 ≤ h.2.1.2.1 + 52 ∧ ((frW t ns fr h).1.1 0 = nI 5 → h.1.1 0 = nI 5) := by
  have hml := mixL_len fr ns
  have hmm := mixL_mem hF hns
  unfold frW frX
  generalize mixL fr ns = F at hml hmm
  by_cases q1 : sndF F = true
  · rw [if_pos q1]
    have key : ∀ h1 : Hw, HI h1 → HI (frJ t F h1) ∧ (frJ t F h1).2.1.2.1 ≤ h1.2.1.2.1 + 52 ∧ ((frJ t F h1).1.1 0 = nI 5 → h1.1.1 0 = nI 5) := by
      intro h1 y
      obtain ⟨a, b, c⟩ := joW_I (t := t) (s := (h1.2.1, h1.1.2.2.2.1, h1.2.2.1)) hmm (by omega) y.2.1 y.2.2
      exact ⟨⟨y.1, a, b⟩, c, fun z => z⟩
    unfold frR
    by_cases q2 : repB F = true
    · rw [if_pos q2]
      have hj := hear_J (t := t) (o := decide (F.getD 60 0 / 2 / 16 % 2 = 1)) (wt := decide (F.getD 60 0 / 2 / 8 % 2 = 1)) (ak := decide (F.getD 60 0 / 2 / 4 % 2 = 1)) hI.1 (getD_lt hmm 61)
      obtain ⟨a, b, c⟩ := key _ (show HI (heR t F h.1, h.2.1, h.2.2.1, upL (upL (upL (upL h.2.2.2 0 (h.2.2.2 0 + 1)) 2 ((upL h.2.2.2 0 (h.2.2.2 0 + 1)) 2 + 1)) 4 (nI (F.getD 60 0 / 2))) 3 (nI (F.getD 61 0))) from ⟨hj.1, hI.2⟩)
      exact ⟨a, b, fun z => hj.2 (c z)⟩
    · rw [if_neg q2]
      exact key _ ⟨hI.1, hI.2⟩
  · rw [if_neg q1]
    exact ⟨hI, Nat.le_add_right _ _, fun z => z⟩
