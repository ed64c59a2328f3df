/-! ===== the ground: a frame has come, the reference ===== -/
theorem b_32 : ∀ v, v < 256 → (nI v &&& nI 32 = nI 0 ↔ decide (v / 2 / 16 % 2 = 1) = false) := by
  have h : (List.range 256).all (fun v => decide (nI v &&& nI 32 = nI 0 ↔ decide (v / 2 / 16 % 2 = 1) = false)) = true := by decide +kernel
  intro v hv
  exact of_decide_eq_true (List.all_eq_true.mp h v (List.mem_range.mpr hv))
theorem b_16 : ∀ v, v < 256 → (nI v &&& nI 16 = nI 0 ↔ decide (v / 2 / 8 % 2 = 1) = false) := by
  have h : (List.range 256).all (fun v => decide (nI v &&& nI 16 = nI 0 ↔ decide (v / 2 / 8 % 2 = 1) = false)) = true := by decide +kernel
  intro v hv
  exact of_decide_eq_true (List.all_eq_true.mp h v (List.mem_range.mpr hv))
theorem b_8 : ∀ v, v < 256 → (nI v &&& nI 8 = nI 0 ↔ decide (v / 2 / 4 % 2 = 1) = false) := by
  have h : (List.range 256).all (fun v => decide (nI v &&& nI 8 = nI 0 ↔ decide (v / 2 / 4 % 2 = 1) = false)) = true := by decide +kernel
  intro v hv
  exact of_decide_eq_true (List.all_eq_true.mp h v (List.mem_range.mpr hv))
theorem fl_M : ∀ v, v < 256 → v < 64 ∧ v % 2 = 0 → ((jshl (jshr (nI v) (nI 5) &&& nI 1) (nI 4) ||| jshl (jshr (nI v) (nI 4) &&& nI 1) (nI 3)) ||| jshl (jshr (nI v) (nI 3) &&& nI 1) (nI 2)) ||| (jshr (nI v) (nI 1) &&& nI 3) = nI (v / 2) := by
  have h : (List.range 256).all (fun v => decide (v < 64 ∧ v % 2 = 0 → ((jshl (jshr (nI v) (nI 5) &&& nI 1) (nI 4) ||| jshl (jshr (nI v) (nI 4) &&& nI 1) (nI 3)) ||| jshl (jshr (nI v) (nI 3) &&& nI 1) (nI 2)) ||| (jshr (nI v) (nI 1) &&& nI 3) = nI (v / 2))) = true := by decide +kernel
  intro v hv
  exact of_decide_eq_true (List.all_eq_true.mp h v (List.mem_range.mpr hv))
theorem hd_M {a b : Nat} (ha : a < 256) (hb : b < 256) : jshr (jshl (nI a) (nI 8) ||| nI b) (nI 4) = nI 171 ↔ a = 10 ∧ b / 16 = 11 := by
  rw [jshl_N (by omega) (by omega), nx_or, or_add 8 (show b < 2 ^ 8 from hb), jshr_N (by omega) (by omega), nI_eq (by omega) (by omega)]
  omega
theorem chk_M {μ : Mem} {F : List Nat} (hF : Seg μ 157 0 F) (hfl : F.length = 64) (kl : Int32 → Mem → Option Mem) : b302_12 kl (nI 64) μ = if sndF F = true then c302_107 (nI 1) μ else c302_107 (nI 0) μ := by
  have g := gl_157
  have b0 := hF.get 0
  have b1 := hF.get 1
  have b4 := hF.get 4
  have b62 := hF.get 62
  have b63 := hF.get 63
  have sg : Seg μ 157 0 (F.take 62) := by
    have := hF.sub (i := 0) (n := 62)
    rw [List.drop_zero, Nat.add_zero] at this
    exact this
  have htl : (F.take 62).length = 62 := by rw [List.length_take]; omega
  have ck := mcheck_ok sg (by rw [htl]; omega) (by rw [htl]; omega)
  rw [htl] at ck
  have cl := crc_lt (F.take 62)
  have wl := w2_lt (k := 62) hF.2
  unfold b302_12
  rw [if_pos (show (64 : Int32) ≤ nI 64 by decide), i_0, i_62, ck, Option.bind_some]
  dsimp only
  rw [ld157 hF hfl (by omega), Option.bind_some, i_63, ld157 hF hfl (by omega), Option.bind_some]
  have ew : jshl (nI (F.getD 62 0)) 8 ||| nI (F.getD 63 0) = nI (w2 F 62) := by
    rw [i_8, jshl_N (by omega) (by omega), nx_or, or_add 8 (show _ < 2 ^ 8 from b63)]
    congr 1
    unfold w2
    rw [show 62 + 1 = 63 from rfl]
    omega
  rw [ew, show c302_106 μ = c302_107 (nI 0) μ from rfl]
  by_cases q1 : crc (F.take 62) = w2 F 62
  · rw [if_pos (by rw [q1]), ld157 hF hfl (by omega), Option.bind_some, i_1, ld157 hF hfl (by omega), Option.bind_some, i_8, i_4, i_171, Option.bind_some]
    by_cases q2 : F.getD 0 0 = 10 ∧ F.getD 1 0 / 16 = 11
    · rw [if_pos ((hd_M b0 b1).mpr q2), an_1]
      by_cases q3 : F.getD 1 0 % 2 = 1
      · rw [if_pos (by rw [q3]), ld157 hF hfl (by omega), Option.bind_some, i_3, jshr_N (by omega) (by omega), show 2 ^ 3 = 8 from rfl]
        by_cases q4 : F.getD 4 0 / 8 = 3
        · rw [if_pos (by rw [q4]), if_pos (show sndF F = true from decide_eq_true ⟨q2.1, q2.2, q3, q4, q1⟩)]
        · rw [if_neg (fun z => q4 ((nI_eq (by omega) (by omega)).mp z)), if_neg (show ¬ sndF F = true from fun z => q4 (of_decide_eq_true z).2.2.2.1)]
      · rw [if_neg (fun z => q3 ((nI_eq (by omega) (by omega)).mp z)), if_neg (show ¬ sndF F = true from fun z => q3 (of_decide_eq_true z).2.2.1)]
    · rw [if_neg (fun z => q2 ((hd_M b0 b1).mp z)), if_neg (show ¬ sndF F = true from fun z => q2 ⟨(of_decide_eq_true z).1, (of_decide_eq_true z).2.1⟩)]
  · rw [if_neg (fun z => q1 ((nI_eq (by omega) (by omega)).mp z)), if_neg (show ¬ sndF F = true from fun z => q1 (of_decide_eq_true z).2.2.2.2)]
abbrev FHM : Nat → Nat → Prop := fun a k => a = 152 ∨ a = 153 ∨ 215 ≤ a ∧ a ≤ 220 ∨ a = 129 ∧ 144 ≤ k ∧ k ≤ 147 ∨ 159 ≤ a ∧ a ≤ 161 ∨ a = 129 ∧ 67 ≤ k ∧ k ≤ 72 ∨ a = 157 ∨ a = 129 ∧ 28 ≤ k ∧ k ≤ 43 ∨ 131 ≤ a ∧ a ≤ 134 ∨ a = 136 ∨ 141 ≤ a ∧ a ≤ 148
theorem frx_M {μ : Mem} {t : Nat} {h : Hw} {F : List Nat} (hH : HM μ t h) (hI : HI h) (hF : Seg μ 157 0 F) (hfl : F.length = 64) (hn : h.2.1.2.1 < 2 ^ 29) (kl : Int32 → Mem → Option Mem) : wp (b302_12 kl (nI 64) μ) (fun m => HM m t (frX t F h) ∧ Fr FHM μ m) := by
  have b58 := hF.get 58
  have b59 := hF.get 59
  have b60 := hF.get 60
  have b61 := hF.get 61
  obtain ⟨k1, k2, k3, k4, k5⟩ := hH.2.2.2
  rw [chk_M hF hfl]
  unfold frX
  by_cases q1 : sndF F = true
  · rw [if_pos q1, if_pos q1]
    have jn : ∀ m1 : Mem, ∀ h1 : Hw, HM m1 t h1 → HI h1 → h1.2.1.2.1 < 2 ^ 29 → Seg m1 157 0 F → Fr FHM μ m1 → wp (c302_265 m1) (fun m => HM m t (frJ t F h1) ∧ Fr FHM μ m) := by
      intro m1 h1 y1 y2 yn y3 y4
      exact wp_mono (join_M (s := (h1.2.1, h1.1.2.2.2.1, h1.2.2.1)) y1.1.2.2.2.1 y1.2.1 y2.2.1 y1.2.2.1 y2.2.2 y3 hfl yn) (fun m2 ⟨d1, d2, d3, d4⟩ => ⟨⟨y1.1.rq d1 d4 (fun c k _ => by omega), d2, d3, y1.2.2.2.fr d4 (fun k _ => by omega)⟩, y4.tr d4 (fun _ _ q => q) (by intro c k h; omega)⟩)
    unfold c302_107 frR
    rw [if_neg (show ¬ nI 1 = (0 : Int32) by decide), i_58, ld157 hF hfl (by omega), Option.bind_some, i_1]
    have no : ¬ repB F = true → wp (c302_265 μ) (fun m => HM m t (frJ t F (if repB F = true then (heR t F h.1, h.2.1, h.2.2.1, upL (upL (upL h.2.2.2 2 (h.2.2.2 2 + 1)) 4 (nI (F.getD 60 0 / 2))) 3 (nI (F.getD 61 0))) else h)) ∧ Fr FHM μ m) := by
      intro z
      rw [if_neg z]
      exact jn μ h hH hI hn hF Fr.rf
    by_cases q2 : F.getD 58 0 = 1
    · rw [if_pos (by rw [q2]), i_59, ld157 hF hfl (by omega), Option.bind_some, i_0]
      by_cases q3 : F.getD 59 0 = 0
      · rw [if_pos (by rw [q3]), i_60, ld157 hF hfl (by omega), Option.bind_some, i_193]
        by_cases q4 : F.getD 60 0 < 64 ∧ F.getD 60 0 % 2 = 0
        · have z : repB F = true := decide_eq_true ⟨q2, q3, q4.1, q4.2⟩
          rw [if_pos ((an193 _ b60).mpr q4), if_pos z]
          unfold pfI
          rw [Option.bind_some, k3, i_61]
          have f1 : Fr (fun a k => a = 129 ∧ k = 70) μ (setI μ 129 70 (h.2.2.2 2 + nI 1)) := Fr.sI ⟨rfl, rfl⟩
          rw [ld157 (hF.fr7 f1 (fun k => by omega)) hfl (by omega), Option.bind_some, Option.bind_some]
          have f2 : Fr (fun a k => a = 129 ∧ 70 ≤ k ∧ k ≤ 71) μ (setI (setI μ 129 70 (h.2.2.2 2 + nI 1)) 129 71 (nI (F.getD 61 0))) := (f1.mono (by intro c k h; omega)).pI (by omega)
          rw [ld157 (hF.fr7 f2 (fun k => by omega)) hfl (by omega), Option.bind_some, Option.bind_some, Option.bind_some, Option.bind_some, Option.bind_some, i_5, i_4, i_3, i_2, fl_M _ b60 q4]
          have f3 : Fr (fun a k => a = 129 ∧ 70 ≤ k ∧ k ≤ 72) μ (setI (setI (setI μ 129 70 (h.2.2.2 2 + nI 1)) 129 71 (nI (F.getD 61 0))) 129 72 (nI (F.getD 60 0 / 2))) := (f2.mono (by intro c k h; omega)).pI (by omega)
          have K3 : KnM (setI (setI (setI μ 129 70 (h.2.2.2 2 + nI 1)) 129 71 (nI (F.getD 61 0))) 129 72 (nI (F.getD 60 0 / 2))) (upL (upL (upL h.2.2.2 2 (h.2.2.2 2 + 1)) 4 (nI (F.getD 60 0 / 2))) 3 (nI (F.getD 61 0))) := by
            refine ⟨?_, ?_, ?_, ?_, ?_⟩
            · rw [f3.1 _ _ (by omega), k1]; rfl
            · rw [f3.1 _ _ (by omega), k2]; rfl
            · rw [rdI, if_neg (by omega), rdI, if_neg (by omega), rdI, if_pos ⟨rfl, rfl⟩]; rfl
            · rw [rdI, if_neg (by omega), rdI, if_pos ⟨rfl, rfl⟩]; rfl
            · rw [rdI, if_pos ⟨rfl, rfl⟩]; rfl
          generalize setI (setI (setI μ 129 70 (h.2.2.2 2 + nI 1)) 129 71 (nI (F.getD 61 0))) 129 72 (nI (F.getD 60 0 / 2)) = m3 at f3 K3 ⊢
          have hF3 := hF.fr7 f3 (fun k => by omega)
          rw [ld157 hF3 hfl (by omega), Option.bind_some, ld157 hF3 hfl (by omega), Option.bind_some, i_32]
          have W3 : WM m3 t h.1 := hH.1.fr f3 (fun c k _ => by omega)
          have hj : HI (heR t F h.1, h.2.1, h.2.2.1, upL (upL (upL h.2.2.2 2 (h.2.2.2 2 + 1)) 4 (nI (F.getD 60 0 / 2))) 3 (nI (F.getD 61 0))) := ⟨(hear_J hI.1 b61).1, hI.2⟩
          have fin : wp (c302_262 (nI (F.getD 61 0)) (nI (b2n (decide (F.getD 60 0 / 2 / 16 % 2 = 1)))) (nI (b2n (decide (F.getD 60 0 / 2 / 8 % 2 = 1)))) (nI (b2n (decide (F.getD 60 0 / 2 / 4 % 2 = 1)))) m3) (fun m => HM m t (frJ t F (heR t F h.1, h.2.1, h.2.2.1, upL (upL (upL h.2.2.2 2 (h.2.2.2 2 + 1)) 4 (nI (F.getD 60 0 / 2))) 3 (nI (F.getD 61 0)))) ∧ Fr FHM μ m) := by
            unfold c302_262
            refine wp_bind (hear_M W3 hI.1.1 b61 _ _ _) (fun m4 ⟨d1, d2⟩ => ?_)
            have f4 : Fr (fun a k => a = 129 ∧ 70 ≤ k ∧ k ≤ 72 ∨ FGM a k) μ m4 := f3.tr d2 (by intro c k h; omega) (by intro c k h; omega)
            exact jn m4 _ ⟨d1, hH.2.1.fr hI.2.1 f4 (fun c k _ => by omega), hH.2.2.1.fr f4 (fun c k _ => by omega), K3.fr d2 (fun k _ => by omega)⟩ hj hn (hF.fr7 f4 (fun k => by omega)) (f4.mono (by intro c k h; omega))
          have s3 : c302_247 (nI (F.getD 61 0)) (nI (b2n (decide (F.getD 60 0 / 2 / 16 % 2 = 1)))) (nI (b2n (decide (F.getD 60 0 / 2 / 8 % 2 = 1)))) m3 = c302_262 (nI (F.getD 61 0)) (nI (b2n (decide (F.getD 60 0 / 2 / 16 % 2 = 1)))) (nI (b2n (decide (F.getD 60 0 / 2 / 8 % 2 = 1)))) (nI (b2n (decide (F.getD 60 0 / 2 / 4 % 2 = 1)))) m3 := by
            unfold c302_247
            rw [i_60, ld157 hF3 hfl (by omega), Option.bind_some, i_8, i_0, i_1]
            by_cases y : decide (F.getD 60 0 / 2 / 4 % 2 = 1) = false
            · rw [if_pos ((b_8 _ b60).mpr y), y]; rfl
            · rw [if_neg (fun x => y ((b_8 _ b60).mp x)), show decide (F.getD 60 0 / 2 / 4 % 2 = 1) = true from Bool.not_eq_false _ ▸ y]; rfl
          have s2 : c302_232 (nI (F.getD 61 0)) (nI (b2n (decide (F.getD 60 0 / 2 / 16 % 2 = 1)))) m3 = c302_262 (nI (F.getD 61 0)) (nI (b2n (decide (F.getD 60 0 / 2 / 16 % 2 = 1)))) (nI (b2n (decide (F.getD 60 0 / 2 / 8 % 2 = 1)))) (nI (b2n (decide (F.getD 60 0 / 2 / 4 % 2 = 1)))) m3 := by
            rw [← s3]
            unfold c302_232
            rw [i_60, ld157 hF3 hfl (by omega), Option.bind_some, i_16, i_0, i_1]
            by_cases y : decide (F.getD 60 0 / 2 / 8 % 2 = 1) = false
            · rw [if_pos ((b_16 _ b60).mpr y), y]; rfl
            · rw [if_neg (fun x => y ((b_16 _ b60).mp x)), show decide (F.getD 60 0 / 2 / 8 % 2 = 1) = true from Bool.not_eq_false _ ▸ y]; rfl
          rw [← s2] at fin
          by_cases y : decide (F.getD 60 0 / 2 / 16 % 2 = 1) = false
          · rw [if_pos ((b_32 _ b60).mpr y)]
            rw [y] at fin
            exact fin
          · rw [if_neg (fun x => y ((b_32 _ b60).mp x))]
            have y2 : decide (F.getD 60 0 / 2 / 16 % 2 = 1) = true := Bool.not_eq_false _ ▸ y
            rw [y2] at fin
            exact fin
        · rw [if_neg (fun z => q4 ((an193 _ b60).mp z))]
          exact no (fun z => q4 ⟨(of_decide_eq_true z).2.2.1, (of_decide_eq_true z).2.2.2⟩)
      · rw [if_neg (fun z => q3 ((nI_eq (by omega) (by omega)).mp z))]
        exact no (fun z => q3 (of_decide_eq_true z).2.1)
    · rw [if_neg (fun z => q2 ((nI_eq (by omega) (by omega)).mp z))]
      exact no (fun z => q2 (of_decide_eq_true z).1)
  · rw [if_neg q1, if_neg q1]
    unfold c302_107 pfI
    rw [if_pos (show nI 0 = (0 : Int32) by decide), Option.bind_some, k2]
    have f1 : Fr (fun a k => a = 129 ∧ k = 68) μ (setI μ 129 68 (h.2.2.2 1 + 1)) := Fr.sI ⟨rfl, rfl⟩
    refine wp_some ⟨⟨hH.1.fr f1 (fun c k _ => by omega), hH.2.1.fr hI.2.1 f1 (fun c k _ => by omega), hH.2.2.1.fr f1 (fun c k _ => by omega), ?_⟩, f1.mono (by intro c k h; omega)⟩
    exact ⟨by rw [f1.1 _ _ (by omega), k1]; rfl, by rw [rdI, if_pos ⟨rfl, rfl⟩]; rfl, by rw [f1.1 _ _ (by omega), k3]; rfl, by rw [f1.1 _ _ (by omega), k4]; rfl, by rw [f1.1 _ _ (by omega), k5]; rfl⟩
theorem frm_M {μ : Mem} {t : Nat} {h : Hw} {fr ns : List Nat} (hH : HM μ t h) (hI : HI h) (hF : Seg μ 157 0 fr) (hfl : fr.length = 64) (hns : Seg μ 158 0 ns) (hnl : ns.length = 64) (hn : h.2.1.2.1 < 2 ^ 29) :
    wp (f302 μ) (fun m => HM m t (frW t ns fr h) ∧ Fr FHM μ m) := by
  have g1 := gl_157
  have g2 := gl_158
  have hml := mixL_len fr ns
  obtain ⟨k1, k2, k3, k4, k5⟩ := hH.2.2.2
  unfold f302 pfI frW
  rw [Option.bind_some, k1]
  have f0 : Fr (fun a k => a = 129 ∧ k = 67) μ (setI μ 129 67 (h.2.2.2 0 + 1)) := Fr.sI ⟨rfl, rfl⟩
  have K0 : KnM (setI μ 129 67 (h.2.2.2 0 + 1)) (upL h.2.2.2 0 (h.2.2.2 0 + 1)) := ⟨by rw [rdI, if_pos ⟨rfl, rfl⟩]; rfl, by rw [f0.1 _ _ (by omega), k2]; rfl, by rw [f0.1 _ _ (by omega), k3]; rfl, by rw [f0.1 _ _ (by omega), k4]; rfl, by rw [f0.1 _ _ (by omega), k5]; rfl⟩
  generalize setI μ 129 67 (h.2.2.2 0 + 1) = m0 at f0 K0 ⊢
  unfold l302_12
  rw [i_0]
  refine wp_for (fun i m => (nI i, m)) (fun i m => (∀ j, j < 64 → m.1 157 j = nI (if j < i then fr.getD j 0 ^^^ ns.getD j 0 else fr.getD j 0)) ∧ Fr (fun c _ => c = 157) m0 m) 64 (by omega) m0 _ rfl ⟨fun j hj => by
    have e := (hF.fr7 f0 (fun k => by omega)).1 j (by omega)
    rw [Nat.zero_add] at e
    rw [if_neg (by omega)]; exact e, Fr.rf⟩ (fun self i m hi ⟨x1, x2⟩ hk => ?_) (fun self m ⟨x1, x2⟩ => ?_)
  · have e1 := x1 i hi
    rw [if_neg (by omega)] at e1
    have e2 : m.1 158 i = nI (ns.getD i 0) := by
      have e := hns.1 i (by omega)
      rw [Nat.zero_add] at e
      rw [x2.1 _ _ (by omega), f0.1 _ _ (by omega)]; exact e
    unfold b302_12
    rw [i_64, if_neg (fun z => by have := (nI_leI (by omega) (by omega)).mp z; omega), ldA_N (by omega), Option.bind_some, ldA_N (by omega), Option.bind_some, e1, e2, nx_xor, stA_N (by omega), Option.bind_some]
    dsimp only [nm]
    rw [i_1, nI_add]
    refine hk _ ⟨fun j hj => ?_, x2.pI rfl⟩
    rw [rdI]
    by_cases e : j = i
    · subst e
      rw [if_pos ⟨rfl, rfl⟩, if_pos (by omega)]
    · rw [if_neg (fun z => e z.2), x1 j hj]
      by_cases e3 : j < i
      · rw [if_pos e3, if_pos (by omega)]
      · rw [if_neg e3, if_neg (by omega)]
  · have sg : Seg m 157 0 (mixL fr ns) := by
      refine ⟨fun j hj => ?_, mixL_mem hF.2 hns.2⟩
      rw [hml, hfl] at hj
      rw [Nat.zero_add, x1 j hj, if_pos hj, mixL, range_getD (by omega)]
    have f1 : Fr (fun a k => a = 129 ∧ k = 67 ∨ a = 157) μ m := f0.tr x2 (by intro c k h; omega) (by intro c k h; omega)
    refine wp_mono (frx_M (h := (h.1, h.2.1, h.2.2.1, upL h.2.2.2 0 (h.2.2.2 0 + 1))) ⟨hH.1.fr f1 (fun c k _ => by omega), hH.2.1.fr hI.2.1 f1 (fun c k _ => by omega), hH.2.2.1.fr f1 (fun c k _ => by omega), K0.fr x2 (fun k _ => by omega)⟩ ⟨hI.1, hI.2⟩ sg (by omega) hn _) (fun m2 ⟨a1, a2⟩ => ⟨a1, f1.tr a2 (by intro c k h; omega) (fun _ _ q => q)⟩)
