/-! a frame goes down: the reference -/
def FwM (μ : Mem) (f : Fw) : Prop := BgM μ 0 (f.1 0) ∧ BgM μ 1 (f.1 1) ∧ μ.1 129 139 = nI f.2.1 ∧ (∀ i, i < 8 → μ.1 212 i = nI (f.2.2.1 i)) ∧ μ.1 129 141 = nI (b2n f.2.2.2)
theorem FwM.b {μ : Mem} {f : Fw} {c : Nat} (h : FwM μ f) (hc : c < 2) : BgM μ c (f.1 c) := by
  have : c = 0 ∨ c = 1 := by omega
  rcases this with rfl | rfl
  · exact h.1
  · exact h.2.1
theorem bitL_app {a b : List Nat} {k : Nat} : bitL (a ++ b) k = if k < 8 * a.length then bitL a k else bitL b (k - 8 * a.length) := by
  unfold bitL
  rw [getD_app]
  by_cases e : k < 8 * a.length
  · rw [if_pos e, if_pos (by omega)]
  · rw [if_neg e, if_neg (by omega), show k / 8 - a.length = (k - 8 * a.length) / 8 by omega, show k % 8 = (k - 8 * a.length) % 8 by omega]
theorem apB_app {n j : Nat} {g : Nat → Bool} {a b : List Nat} : apB (n + 8 * a.length) (apB n g a) b j = apB n g (a ++ b) j := by
  unfold apB
  by_cases e1 : j < n
  · rw [if_pos (by omega), if_pos e1, if_pos e1]
  · rw [if_neg e1, if_neg e1, bitL_app]
    by_cases e2 : j < n + 8 * a.length
    · rw [if_pos e2, if_pos (by omega)]
    · rw [if_neg e2, if_neg (by omega)]
      congr 1
      omega
theorem xorL_M {μ : Mem} {n : Nat} {g : Nat → Bool} {F ns : List Nat} (hF : Seg μ 213 0 F) (hl : F.length = 64) (hns : Seg μ 158 0 ns) (hnl : ns.length = 64) (hm : Seg μ 214 0 [26, 207, 252, 29]) (hL : LinM μ 1 n g) : wp (l345_412 gF (nI 0, μ)) (fun m => LinM m 1 (dnL n g ([26, 207, 252, 29] ++ mixL F ns)).1 (dnL n g ([26, 207, 252, 29] ++ mixL F ns)).2 ∧ Fr (fun c k => c = 213 ∨ FM 1 c k) μ m) := by
  have g1 := gl_213
  have g2 := gl_158
  have g3 := gl_214
  have g4 := gl_136
  have hml := mixL_len F ns
  unfold l345_412
  refine wp_for (fun i m => (nI i, m)) (fun i m => (∀ j, j < 64 → m.1 213 j = nI (if j < i then F.getD j 0 ^^^ ns.getD j 0 else F.getD j 0)) ∧ Fr (fun c _ => c = 213) μ m) 64 (by omega) μ _ rfl ⟨fun j hj => by rw [if_neg (by omega)]; exact hF.z (by omega), Fr.rf⟩ (fun self i m hi ⟨x1, x2⟩ hk => ?_) (fun self m ⟨x1, x2⟩ => ?_)
  · have e1 := x1 i hi
    rw [if_neg (by omega)] at e1
    have e2 : m.1 158 i = nI (ns.getD i 0) := by rw [x2.1 _ _ (by omega)]; exact hns.z (by omega)
    unfold b345_412
    rw [i_64, if_neg (fun z => by have := (nI_leI (by omega) (by omega)).mp z; omega), ldA_N (by omega), Option.bind_some, ldA_N (by omega), Option.bind_some, e1, e2, nx_xor, stA_N (by omega), Option.bind_some]
    dsimp only [nm]
    rw [i_1, nI_add]
    refine hk _ ⟨fun j hj => ?_, x2.pI rfl⟩
    rw [rdI]
    by_cases e : j = i
    · subst e
      rw [if_pos ⟨rfl, rfl⟩, if_pos (by omega)]
    · rw [if_neg (fun z => e z.2), x1 j hj]
      by_cases e3 : j < i
      · rw [if_pos e3, if_pos (by omega)]
      · rw [if_neg e3, if_neg (by omega)]
  · have sg : Seg m 213 0 (mixL F ns) := by
      refine ⟨fun j hj => ?_, fun b hb => ?_⟩
      · rw [hml, hl] at hj
        rw [Nat.zero_add, x1 j hj, if_pos hj, mixL, range_getD (by omega)]
      · rw [mixL] at hb
        obtain ⟨i, hi, rfl⟩ := List.mem_map.mp hb
        exact Nat.xor_lt_two_pow (n := 8) (getD_lt hF.2 i) (getD_lt hns.2 i)
    have hL1 := hL.fr x2 (by omega) (fun k => by omega)
    have e136 := hL1.1
    have hn64 := hL1.2.1
    have hm1 := hm.fr x2 (fun k => by omega)
    unfold b345_412 f254 c254_12
    rw [i_64, if_pos ((nI_leI (by omega) (by omega)).mpr (Nat.le_refl _)), if_neg (show ¬ (1 : Int32) = 0 by decide), i_1, ldA_N (by omega), Option.bind_some, e136, Option.bind_some]
    dsimp only
    rw [i_64000, pk_sub (by omega), i_544]
    unfold dnL
    by_cases q : n + 544 ≤ 64000
    · rw [if_pos q, if_neg (fun z => by have := (nI_ltI (by omega) (by omega)).mp z; omega), i_4]
      refine wp_bind (addBits_M (l := 1) (bs := [26, 207, 252, 29]) (by omega) hL1 hm1 (by rw [g3]; decide) (by decide) (by show n + 8 * 4 ≤ 64000; omega)) (fun m2 ⟨a1, a2⟩ => ?_)
      have sg2 := sg.fr a2 (fun k => by omega)
      have ad := addBits_M (l := 1) (bs := mixL F ns) (by omega) a1 sg2 (by rw [hml, hl, g1]; exact Nat.le_refl _) (by decide) (by rw [hml, hl]; show n + 8 * 4 + 8 * 64 ≤ 64000; omega)
      rw [hml, hl] at ad
      refine wp_bind ad (fun m3 ⟨b1, b2⟩ => wp_some ⟨?_, ((x2.mono (P := fun c k => c = 213 ∨ FM 1 c k) (by intro c k h; omega)).tr a2 (fun _ _ q => q) (by intro c k h; omega)).tr b2 (fun _ _ q => q) (by intro c k h; omega)⟩)
      have b1' : LinM m3 1 (n + 544) (apB (n + 8 * [26, 207, 252, 29].length) (apB n g [26, 207, 252, 29]) (mixL F ns)) := b1
      exact b1'.cg (fun j _ => apB_app)
    · rw [if_neg q, if_pos ((nI_ltI (by omega) (by omega)).mpr (by omega))]
      exact wp_some ⟨hL1, x2.mono (by intro c k h; omega)⟩
theorem hd_m : ∀ ch, ch = 0 ∨ ch = 1 ∨ ch = 7 → (nI 2736 ||| jshl (nI ch) (nI 1)) ||| nI 1 = nI (2737 + 2 * ch) ∧ jshr (nI (2737 + 2 * ch)) (nI 8) = nI 10 ∧ nI (2737 + 2 * ch) &&& nI 255 = nI (177 + 2 * ch) := by
  intro ch h
  rcases h with rfl | rfl | rfl <;> decide +kernel
theorem bits_m : ∀ a, a < 2 → ∀ b, b < 2 → ∀ c, c < 2 → ∀ d, d < 4 → ((nI (32 * a) ||| nI (16 * b)) ||| nI (8 * c)) ||| jshl (nI d) (nI 1) = nI (bitsN a b c d) := by decide +kernel
theorem or24 {f : Nat} (h : f < 2048) : nI 24 ||| jshr (nI f) (nI 8) = nI (24 + f / 256) := by
  rw [jshr_N (by omega) (by omega), nx_or]
  have key : ∀ k, k < 8 → (24 ||| k) = 24 + k := by decide
  rw [show f / 2 ^ 8 = f / 256 from rfl, key _ (by omega)]
theorem tail2_M {μ : Mem} {n : Nat} {g : Nat → Bool} {B ns : List Nat} {y : Nat → Int32} {hd : List Nat} {fst : Nat} {ct : List Nat} (hB : B = frB hd fst ct (bitsY y) (nt (y 0))) (h60 : Seg μ 213 0 (hd ++ ([24 + fst / 256, fst % 256] ++ (ct ++ [1, 0])))) (hl4 : hd.length = 4) (hct : ct.length = 52) (hU : UmM μ y) (hI : YI y) (hns : Seg μ 158 0 ns) (hnl : ns.length = 64) (hm : Seg μ 214 0 [26, 207, 252, 29]) (hL : LinM μ 1 n g) : wp (if (μ.1 129 20) = 0 then c345_325 (nI 60) (nI 0) μ else c345_325 (nI 60) (nI 32) μ) (fun m => LinM m 1 (dnL n g (mkF B ns)).1 (dnL n g (mkF B ns)).2 ∧ Fr (fun c k => c = 213 ∨ FM 1 c k) μ m) := by
  have g1 := gl_213
  obtain ⟨z0, z1, z2, z3, z4, z5⟩ := hU.a
  obtain ⟨⟨a0, b0⟩, ⟨a1, b1⟩, ⟨a2, b2⟩, ⟨a3, b3⟩, ⟨a4, b4⟩⟩ := hI.n
  have hbl := bitsY_lt hI
  have hB' : B = (hd ++ ([24 + fst / 256, fst % 256] ++ (ct ++ [1, 0]))) ++ [bitsY y] ++ [nt (y 0)] := by
    rw [hB]
    unfold frB
    simp only [List.append_assoc]
  have hl60 : (hd ++ ([24 + fst / 256, fst % 256] ++ (ct ++ [1, 0]))).length = 60 := by
    rw [List.length_append, List.length_append, List.length_append, hl4, hct]; rfl
  generalize hd ++ ([24 + fst / 256, fst % 256] ++ (ct ++ [1, 0])) = H at *
  have hBl : B.length = 62 := by rw [hB', List.length_append, List.length_append, hl60]; rfl
  have fin : ∀ s2 s3, (s2 ||| s3) ||| jshl (μ.1 129 23) (nI 1) = nI (bitsY y) → wp (c345_352 (nI 60) s2 s3 μ) (fun m => LinM m 1 (dnL n g (mkF B ns)).1 (dnL n g (mkF B ns)).2 ∧ Fr (fun c k => c = 213 ∨ FM 1 c k) μ m) := by
    intro s2 s3 hs
    unfold c345_352
    rw [i_1, hs, stA_N (by omega), Option.bind_some]
    have f1 : Fr (fun c _ => c = 213) μ (setI μ 213 60 (nI (bitsY y))) := Fr.sI rfl
    have s1 := h60.sn (p := 60) (b := bitsY y) (by omega) hbl
    generalize setI μ 213 60 (nI (bitsY y)) = m1 at *
    rw [i_61, show m1.1 129 19 = nI (nt (y 0)) by rw [f1.1 _ _ (by omega), z0]; exact b0, stA_N (by omega), Option.bind_some]
    have f2 : Fr (fun c _ => c = 213) μ (setI m1 213 61 (nI (nt (y 0)))) := f1.pI rfl
    have sB := s1.sn (p := 61) (b := nt (y 0)) (by rw [List.length_append, hl60]; rfl) a0
    rw [← hB'] at sB
    generalize setI m1 213 61 (nI (nt (y 0))) = m2 at *
    have ck := mcheck_ok sB (by omega) (by omega)
    rw [hBl] at ck
    have hcl := crc_lt B
    rw [i_0, i_62, ck, Option.bind_some]
    dsimp only
    rw [i_8, jshr_N (by omega) (by omega), stA_N (by omega), Option.bind_some, i_63, i_255, an_255, stA_N (by omega), Option.bind_some]
    have hlow : lowB (nI (crc B)) 2 = [crc B / 256, crc B % 256] := by
      rw [lowB_2, show (8 : Int32) = nI 8 from rfl, jshr_N (by omega) (by omega), byv_nat, byv_nat]
      congr 1
      show crc B / 2 ^ 8 % 256 = crc B / 256
      omega
    have s3 := (sB.sn (p := 62) (b := crc B / 2 ^ 8) (by omega) (by show crc B / 256 < 256; omega)).sn (p := 63) (b := crc B % 256) (by rw [List.length_append, hBl]; rfl) (Nat.mod_lt _ (by decide))
    have eF : B ++ [crc B / 2 ^ 8] ++ [crc B % 256] = frF B := by
      unfold frF
      rw [hlow, List.append_assoc]
      rfl
    rw [eF] at s3
    have f4 : Fr (fun c _ => c = 213) μ (setI (setI m2 213 62 (nI (crc B / 2 ^ 8))) 213 63 (nI (crc B % 256))) := (f2.pI rfl).pI rfl
    generalize setI (setI m2 213 62 (nI (crc B / 2 ^ 8))) 213 63 (nI (crc B % 256)) = m4 at *
    have hFl : (frF B).length = 64 := by unfold frF; rw [List.length_append, lowB_len, hBl]
    exact wp_mono (xorL_M s3 hFl (hns.fr f4 (fun k => by omega)) hnl (hm.fr f4 (fun k => by omega)) (hL.fr f4 (by omega) (fun k => by omega))) (fun m ⟨o1, o2⟩ => ⟨o1, (f4.mono (by intro c k h; omega)).tr o2 (fun _ _ q => q) (fun _ _ q => q)⟩)
  have hbe : ((nI (32 * nt (y 1)) ||| nI (16 * nt (y 2))) ||| nI (8 * nt (y 3))) ||| jshl (μ.1 129 23) (nI 1) = nI (bitsY y) := by
    rw [z4, b4]
    exact bits_m _ a1 _ a2 _ a3 _ a4
  rw [z1, b1]
  unfold c345_325 c345_338
  rw [z2, b2, z3, b3, i_0]
  have c1 : nt (y 1) = 0 ∨ nt (y 1) = 1 := by omega
  have c2 : nt (y 2) = 0 ∨ nt (y 2) = 1 := by omega
  have c3 : nt (y 3) = 0 ∨ nt (y 3) = 1 := by omega
  rcases c1 with e1 | e1 <;> rcases c2 with e2 | e2 <;> rcases c3 with e3 | e3 <;> rw [e1, e2, e3] at hbe <;> rw [e1, e2, e3] <;> exact fin _ _ hbe
theorem tail_M {μ : Mem} {ch al ow fst n : Nat} {own : Nat → Nat} {g : Nat → Bool} {ct ns : List Nat} {y : Nat → Int32} {kl : Int32 → Int32 → Int32 → Mem → Option Mem} (hc : Seg μ 213 6 ct) (hct : ct.length = 52) (hf2 : fst < 2048) (hal : μ.1 129 139 = nI al) (hal2 : al < 256) (hown : ∀ i, i < 8 → μ.1 212 i = nI (own i)) (how2 : own ch < 256) (hch : ch = 0 ∨ ch = 1 ∨ ch = 7) (hU : UmM μ y) (hI : YI y) (hns : Seg μ 158 0 ns) (hnl : ns.length = 64) (hm : Seg μ 214 0 [26, 207, 252, 29]) (hL : LinM μ 1 n g) (how : ow = own ch) : wp (b345_76 kl (nI ch) (nI fst) (nI 52) μ) (fun m => m.1 129 139 = nI ((al + 1) % 256) ∧ (∀ i, i < 8 → m.1 212 i = nI (upL own ch ((own ch + 1) % 256) i)) ∧ LinM m 1 (dnL n g (mkF (frB [10, 177 + 2 * ch, al, ow] fst ct (bitsY y) (nt (y 0))) ns)).1 (dnL n g (mkF (frB [10, 177 + 2 * ch, al, ow] fst ct (bitsY y) (nt (y 0))) ns)).2 ∧ Fr (fun c k => c = 129 ∧ k = 139 ∨ 212 ≤ c ∧ c ≤ 213 ∨ FM 1 c k) μ m) := by
  have g1 := gl_213
  have g2 := gl_212
  obtain ⟨e1, e2, e3⟩ := hd_m ch hch
  subst how
  unfold b345_76
  rw [i_52, if_pos ((nI_leI (by omega) (by omega)).mpr (Nat.le_refl _))]
  dsimp only [nm]
  rw [i_2736, i_1, e1, i_0, i_8, e2, i_255, e3, stA_N (by omega), Option.bind_some, stA_N (by omega), Option.bind_some]
  have q2 : (setI (setI μ 213 0 (nI 10)) 213 1 (nI (177 + 2 * ch))).1 129 139 = nI al := by rw [rdI, if_neg (by omega), rdI, if_neg (by omega)]; exact hal
  rw [q2, i_2, stA_N (by omega), Option.bind_some]
  have q3 : (setI (setI (setI μ 213 0 (nI 10)) 213 1 (nI (177 + 2 * ch))) 213 2 (nI al)).1 212 ch = nI (own ch) := by rw [rdI, if_neg (by omega), rdI, if_neg (by omega), rdI, if_neg (by omega)]; exact hown ch (by omega)
  rw [ldA_N (by omega), Option.bind_some, q3, i_3, stA_N (by omega), Option.bind_some, i_4, i_24, or24 hf2, stA_N (by omega), Option.bind_some, i_5, an_255, stA_N (by omega), Option.bind_some]
  have s0 : Seg (setI (setI (setI (setI (setI (setI μ 213 0 (nI 10)) 213 1 (nI (177 + 2 * ch))) 213 2 (nI al)) 213 3 (nI (own ch))) 213 4 (nI (24 + fst / 256))) 213 5 (nI (fst % 256))) 213 0 ([10, 177 + 2 * ch, al, own ch] ++ ([24 + fst / 256, fst % 256] ++ ct)) := by
    have hh : Seg (setI (setI (setI (setI (setI (setI μ 213 0 (nI 10)) 213 1 (nI (177 + 2 * ch))) 213 2 (nI al)) 213 3 (nI (own ch))) 213 4 (nI (24 + fst / 256))) 213 5 (nI (fst % 256))) 213 0 ([] ++ [10] ++ [177 + 2 * ch] ++ [al] ++ [own ch] ++ [24 + fst / 256] ++ [fst % 256]) := (((((Seg.nil.sn (p := 0) rfl (by decide)).sn (p := 1) rfl (by omega)).sn (p := 2) rfl (by omega)).sn (p := 3) rfl (by omega)).sn (p := 4) rfl (by omega)).sn (p := 5) rfl (by omega)
    refine ⟨fun j hj => ?_, fun b hb => ?_⟩
    · by_cases e : j < 6
      · have := hh.1 j e
        rw [this]
        congr 1
        have : j = 0 ∨ j = 1 ∨ j = 2 ∨ j = 3 ∨ j = 4 ∨ j = 5 := by omega
        rcases this with rfl | rfl | rfl | rfl | rfl | rfl <;> rfl
      · have hj2 : j < 58 := by
          rw [List.length_append, List.length_append, hct] at hj
          exact hj
        rw [rdI, if_neg (by omega), rdI, if_neg (by omega), rdI, if_neg (by omega), rdI, if_neg (by omega), rdI, if_neg (by omega), rdI, if_neg (by omega)]
        have := hc.1 (j - 6) (by omega)
        rw [show 6 + (j - 6) = 0 + j by omega] at this
        rw [this, ← List.append_assoc, getD_app, if_neg (by show ¬ j < 6; omega)]
        rfl
    · rw [← List.append_assoc] at hb
      rcases List.mem_append.mp hb with z | z
      · exact hh.2 b z
      · exact hc.2 b z
  have f6 : Fr (fun c _ => c = 213) μ (setI (setI (setI (setI (setI (setI μ 213 0 (nI 10)) 213 1 (nI (177 + 2 * ch))) 213 2 (nI al)) 213 3 (nI (own ch))) 213 4 (nI (24 + fst / 256))) 213 5 (nI (fst % 256))) := (((((Fr.sI (by omega)).pI (by omega)).pI (by omega)).pI (by omega)).pI (by omega)).pI (by omega)
  generalize setI (setI (setI (setI (setI (setI μ 213 0 (nI 10)) 213 1 (nI (177 + 2 * ch))) 213 2 (nI al)) 213 3 (nI (own ch))) 213 4 (nI (24 + fst / 256))) 213 5 (nI (fst % 256)) = m6 at *
  rw [show m6.1 129 139 = nI al by rw [f6.1 _ _ (by omega)]; exact hal, nI_add, an_255]
  refine wp_bind (wp_some rfl) (fun m7 hm7 => ?_)
  have f7 : Fr (fun c k => c = 129 ∧ k = 139) m6 m7 := by rw [← hm7]; exact Fr.sI ⟨rfl, rfl⟩
  have r7 : m7.1 129 139 = nI ((al + 1) % 256) := by rw [← hm7, rdI, if_pos ⟨rfl, rfl⟩]
  clear hm7
  have e212 : m7.1 212 ch = nI (own ch) := by rw [f7.1 _ _ (by omega), f6.1 _ _ (by omega)]; exact hown ch (by omega)
  rw [ldA_N (by omega), Option.bind_some, e212, nI_add, an_255, stA_N (by omega), Option.bind_some]
  have f8 : Fr (fun c k => c = 212 ∧ k = ch) m7 (setI m7 212 ch (nI ((own ch + 1) % 256))) := Fr.sI ⟨rfl, rfl⟩
  have r8 : (setI m7 212 ch (nI ((own ch + 1) % 256))).1 212 ch = nI ((own ch + 1) % 256) := by rw [rdI, if_pos ⟨rfl, rfl⟩]
  generalize setI m7 212 ch (nI ((own ch + 1) % 256)) = m8 at *
  have f68 : Fr (fun c k => c = 129 ∧ k = 139 ∨ c = 212) m6 m8 := f7.tr f8 (by intro c k h; omega) (by intro c k h; omega)
  have s8 := s0.fr f68 (fun k => by omega)
  rw [i_58, i_59, stA_N (by omega), Option.bind_some, stA_N (by omega), Option.bind_some]
  have hl58 : ([10, 177 + 2 * ch, al, own ch] ++ ([24 + fst / 256, fst % 256] ++ ct)).length = 58 := by rw [List.length_append, List.length_append, hct]; rfl
  have s10 := (s8.sn (p := 58) (b := 1) (by omega) (by decide)).sn (p := 59) (b := 0) (by rw [List.length_append, hl58]; rfl) (by decide)
  have f10 : Fr (fun c _ => c = 213) m8 (setI (setI m8 213 58 (nI 1)) 213 59 (nI 0)) := (Fr.sI (by omega)).pI (by omega)
  generalize setI (setI m8 213 58 (nI 1)) 213 59 (nI 0) = m10 at *
  have f010 : Fr (fun c k => c = 129 ∧ k = 139 ∨ 212 ≤ c ∧ c ≤ 213) μ m10 := ((f6.mono (P := fun c k => c = 129 ∧ k = 139 ∨ 212 ≤ c ∧ c ≤ 213) (by intro c k h; omega)).tr f68 (fun _ _ q => q) (by intro c k h; omega)).tr f10 (fun _ _ q => q) (by intro c k h; omega)
  rw [i_60, i_32]
  have s10' : Seg m10 213 0 ([10, 177 + 2 * ch, al, own ch] ++ ([24 + fst / 256, fst % 256] ++ (ct ++ [1, 0]))) := by
    have := s10
    simp only [List.append_assoc] at this
    exact this
  refine wp_mono (tail2_M (hd := [10, 177 + 2 * ch, al, own ch]) (fst := fst) (ct := ct) rfl s10' rfl hct (hU.fr f010 (fun k _ _ => by omega)) hI (hns.fr f010 (fun k => by omega)) hnl (hm.fr f010 (fun k => by omega)) (hL.fr f010 (by omega) (fun k => by omega))) (fun m ⟨o1, o2⟩ => ⟨?_, fun i hi => ?_, o1, f010.tr o2 (by intro c k h; omega) (by intro c k h; omega)⟩)
  · rw [o2.1 _ _ (by omega), f10.1 _ _ (by omega), f8.1 _ _ (by omega)]; exact r7
  · rw [o2.1 _ _ (by omega), f10.1 _ _ (by omega)]
    by_cases e : i = ch
    · subst e
      rw [upL_s]
      exact r8
    · rw [upL_o e, f8.1 _ _ (by omega), f7.1 _ _ (by omega), f6.1 _ _ (by omega)]
      exact hown i hi
