/-! ===== the ground: a packet has come ===== -/
def sndP (bs : List Nat) : Bool := decide (15 ≤ bs.length ∧ bs.length ≤ 120 ∧ bs.getD 0 0 = 8 ∧ bs.getD 1 0 = 12 ∧ bs.getD 2 0 / 64 = 3 ∧ bs.getD 6 0 = 32 ∧ crc (bs.take (bs.length - 2)) = w2 bs (bs.length - 2))
theorem an192 : ∀ v, v < 256 → (nI v &&& nI 192 = nI 192 ↔ v / 64 = 3) := by
  have h : (List.range 256).all (fun v => decide (nI v &&& nI 192 = nI 192 ↔ v / 64 = 3)) = true := by decide +kernel
  intro v hv
  exact of_decide_eq_true (List.all_eq_true.mp h v (List.mem_range.mpr hv))
theorem sndP_C {μ : Mem} {p : Nat} {bs : List Nat} (hT : Tb μ) (h : Byt μ p bs) (hl : bs.length ≤ 200) : f89 p μ = some (μ, nI (b2n (sndP bs))) := by
  have h1 := h.1
  have b0 := h.get 0
  have b1 := h.get 1
  have b2 := h.get 2
  have b6 := h.get 6
  unfold f89 sndP
  rw [h1, i_15, i_120]
  by_cases q1 : 15 ≤ bs.length
  · rw [if_neg (fun z => by have := (nI_ltI (by omega) (by omega)).mp z; omega)]
    by_cases q2 : bs.length ≤ 120
    · rw [if_neg (fun z => by have := (nI_ltI (by omega) (by omega)).mp z; omega), i_0, two_ok h (k := 0) (by omega), Option.bind_some]
      dsimp only
      rw [i_2060]
      by_cases q3 : bs.getD 0 0 = 8 ∧ bs.getD 1 0 = 12
      · rw [if_pos (by rw [q3.1, show 0 + 1 = 1 from rfl, q3.2]), i_2, at_ok h (k := 2) (by omega), Option.bind_some]
        dsimp only
        rw [i_192]
        by_cases q4 : bs.getD 2 0 / 64 = 3
        · rw [if_pos ((an192 _ b2).mpr q4), i_6, at_ok h (k := 6) (by omega), Option.bind_some]
          dsimp only
          rw [i_32]
          by_cases q5 : bs.getD 6 0 = 32
          · have ck := checkOf_ok hT h (s := 0) (e := bs.length - 2) (by omega) (by omega) (by omega)
            rw [List.drop_zero] at ck
            have cl := crc_lt (bs.take (bs.length - 2))
            have wl := w2_lt (k := bs.length - 2) h.2.2.2
            rw [if_pos (by rw [q5]), h1, pk_sub (by omega), ck, Option.bind_some]
            dsimp only
            rw [h1, pk_sub (by omega), two_ok h (k := bs.length - 2) (by omega), Option.bind_some]
            dsimp only
            change (if nI (crc (bs.take (bs.length - 2))) = nI (w2 bs (bs.length - 2)) then _ else _) = _
            by_cases q6 : crc (bs.take (bs.length - 2)) = w2 bs (bs.length - 2)
            · rw [if_pos (by rw [q6]), decide_eq_true ⟨q1, q2, q3.1, q3.2, q4, q5, q6⟩]; rfl
            · rw [if_neg (fun z => q6 ((nI_eq (by omega) (by omega)).mp z)), decide_eq_false (fun z => q6 z.2.2.2.2.2.2)]; rfl
          · rw [if_neg (fun z => q5 ((nI_eq (by omega) (by omega)).mp z)), decide_eq_false (fun z => q5 z.2.2.2.2.2.1)]; rfl
        · rw [if_neg (fun z => q4 ((an192 _ b2).mp z)), decide_eq_false (fun z => q4 z.2.2.2.2.1)]; rfl
      · rw [show 0 + 1 = 1 from rfl, if_neg (fun z => q3 (by have := (nI_eq (by omega) (by omega)).mp z; omega)), decide_eq_false (fun z => q3 ⟨z.2.2.1, z.2.2.2.1⟩)]; rfl
    · rw [if_pos ((nI_ltI (by omega) (by omega)).mpr (by omega)), decide_eq_false (fun z => q2 z.2.1)]; rfl
  · rw [if_pos ((nI_ltI (by omega) (by omega)).mpr (by omega)), decide_eq_false (fun z => q1 z.1)]; rfl
/-- a packet that has come, in the reference's row -/
theorem ldB {μ : Mem} {c i : Nat} {bs : List Nat} (h : Seg μ 161 (200 * c) bs) (hc : c < 2) (hl : bs.length ≤ 200) (hi : i < bs.length) : ldA 161 (nI (200 * c + i)) μ = some (nI (bs.getD i 0)) := by
  have g := gl_161
  rw [ldA_N (by omega), h.1 i hi]
theorem woB {μ : Mem} {c i : Nat} {bs : List Nat} (h : Seg μ 161 (200 * c) bs) (hc : c < 2) (hl : bs.length ≤ 200) (hi : i + 1 < bs.length) : f313 161 (nI (200 * c + i)) μ = some (μ, nI (w2 bs i)) := by
  have g := gl_161
  exact word_M h hi (by omega)
theorem foB {μ : Mem} {c i : Nat} {bs : List Nat} (h : Seg μ 161 (200 * c) bs) (hc : c < 2) (hl : bs.length ≤ 200) (hi : i + 3 < bs.length) : f314 161 (nI (200 * c + i)) μ = some (μ, nI (w4l bs i)) := by
  have g := gl_161
  exact four_M h hi (by omega)
theorem sh63 {v : Nat} (hv : v < 256) : jshr (nI v) (nI 6) = nI (v / 64) := sh6 hv
theorem sndP_M {μ : Mem} {c : Nat} {bs : List Nat} (h : Seg μ 161 (200 * c) bs) (hc : c < 2) (hl : bs.length ≤ 200) (h6 : 6 ≤ bs.length) : c346_28 (nI c) (nI (200 * c)) (nI bs.length) μ = if sndP bs = true then c346_90 (nI c) (nI (200 * c)) (nI bs.length) (nI 1) μ else c346_120 μ := by
  have g := gl_161
  have b0 := h.get 0
  have b1 := h.get 1
  have b2 := h.get 2
  have b6 := h.get 6
  have e0 := ldB h hc hl (i := 0) (by omega)
  rw [Nat.add_zero] at e0
  have bad : c346_89 (nI c) (nI (200 * c)) (nI bs.length) μ = c346_120 μ := by
    unfold c346_89 c346_90
    exact if_pos rfl
  unfold c346_28
  rw [bad, i_15, i_120]
  by_cases q1 : 15 ≤ bs.length
  · rw [if_neg (fun z => by have := (nI_ltI (by omega) (by omega)).mp z; omega)]
    by_cases q2 : bs.length ≤ 120
    · rw [if_neg (fun z => by have := (nI_ltI (by omega) (by omega)).mp z; omega), e0, Option.bind_some, i_8]
      by_cases q3 : bs.getD 0 0 = 8
      · rw [if_pos (by rw [q3]), i_1, nI_add, ldB h hc hl (i := 1) (by omega), Option.bind_some, i_12]
        by_cases q4 : bs.getD 1 0 = 12
        · rw [if_pos (by rw [q4]), i_2, nI_add, ldB h hc hl (i := 2) (by omega), Option.bind_some, i_6, sh63 b2, i_3]
          by_cases q5 : bs.getD 2 0 / 64 = 3
          · rw [if_pos (by rw [q5]), nI_add, ldB h hc hl (i := 6) (by omega), Option.bind_some, i_32]
            by_cases q6 : bs.getD 6 0 = 32
            · rw [if_pos (by rw [q6])]
              by_cases q7 : crc (bs.take (bs.length - 2)) = w2 bs (bs.length - 2)
              · rw [if_pos (show sndP bs = true from decide_eq_true ⟨q1, q2, q3, q4, q5, q6, q7⟩)]
              · rw [if_neg (show ¬ sndP bs = true from fun z => q7 (of_decide_eq_true z).2.2.2.2.2.2)]
                have sg : Seg μ 161 (200 * c) (bs.take (bs.length - 2)) := by
                  have := h.sub (i := 0) (n := bs.length - 2)
                  rw [List.drop_zero, Nat.add_zero] at this
                  exact this
                have htl : (bs.take (bs.length - 2)).length = bs.length - 2 := by rw [List.length_take]; omega
                have ck := mcheck_ok sg (by rw [htl]; omega) (by rw [htl]; omega)
                rw [htl] at ck
                have cl := crc_lt (bs.take (bs.length - 2))
                have wl := w2_lt (k := bs.length - 2) h.2
                unfold c346_90
                rw [if_neg (show ¬ nI 1 = (0 : Int32) by decide), i_2, pk_sub (by omega), ck, Option.bind_some]
                dsimp only
                rw [nI_add, pk_sub (by omega), show 200 * c + bs.length - 2 = 200 * c + (bs.length - 2) by omega, woB h hc hl (i := bs.length - 2) (by omega), Option.bind_some]
                dsimp only
                rw [if_neg (fun z => q7 ((nI_eq (by omega) (by omega)).mp z))]
            · rw [if_neg (fun z => q6 ((nI_eq (by omega) (by omega)).mp z)), if_neg (show ¬ sndP bs = true from fun z => q6 (of_decide_eq_true z).2.2.2.2.2.1)]
          · rw [if_neg (fun z => q5 ((nI_eq (by omega) (by omega)).mp z)), if_neg (show ¬ sndP bs = true from fun z => q5 (of_decide_eq_true z).2.2.2.2.1)]
        · rw [if_neg (fun z => q4 ((nI_eq (by omega) (by omega)).mp z)), if_neg (show ¬ sndP bs = true from fun z => q4 (of_decide_eq_true z).2.2.2.1)]
      · rw [if_neg (fun z => q3 ((nI_eq (by omega) (by omega)).mp z)), if_neg (show ¬ sndP bs = true from fun z => q3 (of_decide_eq_true z).2.2.1)]
    · rw [if_pos ((nI_ltI (by omega) (by omega)).mpr (by omega)), if_neg (show ¬ sndP bs = true from fun z => q2 (of_decide_eq_true z).2.1)]
  · rw [if_pos ((nI_ltI (by omega) (by omega)).mpr (by omega)), if_neg (show ¬ sndP bs = true from fun z => q1 (of_decide_eq_true z).1)]
/-! values shown -/
def shU (sh : Nat → Nat → Int32) (p : Nat) (v tk : Int32) : Nat → Nat → Int32 := if 24 ≤ p then sh else if sh p 0 = nI 0 ∨ sh p 2 ≤ tk then up2 (up2 (up2 sh p 0 (nI 1)) p 1 v) p 2 tk else sh
def ShwC (μ : Mem) (sh : Nat → Nat → Int32) : Prop := ∀ p, p < 24 → ∀ k, k < 3 → μ.1 (21 + k) p = sh p k
def ShwM (μ : Mem) (sh : Nat → Nat → Int32) : Prop := ∀ p, p < 24 → ∀ k, k < 3 → μ.1 (218 + k) p = sh p k
theorem ShwC.fr {μ m : Mem} {sh : Nat → Nat → Int32} {P : Nat → Nat → Prop} (h : ShwC μ sh) (ho : Fr P μ m) (h1 : ∀ c k, 21 ≤ c → c ≤ 23 → ¬ P c k) : ShwC m sh := fun p hp k hk => by rw [ho.1 _ _ (h1 _ _ (by omega) (by omega))]; exact h p hp k hk
theorem ShwM.fr {μ m : Mem} {sh : Nat → Nat → Int32} {P : Nat → Nat → Prop} (h : ShwM μ sh) (ho : Fr P μ m) (h1 : ∀ c k, 218 ≤ c → c ≤ 220 → ¬ P c k) : ShwM m sh := fun p hp k hk => by rw [ho.1 _ _ (h1 _ _ (by omega) (by omega))]; exact h p hp k hk
theorem ShwC.up {μ : Mem} {sh : Nat → Nat → Int32} {p k c : Nat} {v : Int32} (h : ShwC μ sh) (hc : c = 21 + k) : ShwC (setI μ c p v) (up2 sh p k v) := by
  intro a ha b hb
  subst hc
  by_cases e : a = p ∧ b = k
  · obtain ⟨rfl, rfl⟩ := e
    rw [rdI, if_pos ⟨rfl, rfl⟩, up2_s]
  · rw [rdI, if_neg (fun z => e (by omega)), up2_o e]
    exact h a ha b hb
theorem ShwM.up {μ : Mem} {sh : Nat → Nat → Int32} {p k c : Nat} {v : Int32} (h : ShwM μ sh) (hc : c = 218 + k) : ShwM (setI μ c p v) (up2 sh p k v) := by
  intro a ha b hb
  subst hc
  by_cases e : a = p ∧ b = k
  · obtain ⟨rfl, rfl⟩ := e
    rw [rdI, if_pos ⟨rfl, rfl⟩, up2_s]
  · rw [rdI, if_neg (fun z => e (by omega)), up2_o e]
    exact h a ha b hb
def shN (sh : Nat → Nat → Int32) (bs : List Nat) (pl : Nat) : Nat → Nat → Nat → Int32
  | 0 => sh
  | i + 1 => if pl + 5 * i + 8 ≤ bs.length then shU (shN sh bs pl i) (bs.getD (pl + 1 + 5 * i) 0) (nI (w4l bs (pl + 2 + 5 * i))) (nI (w4l bs 9)) else shN sh bs pl i
theorem shN_stop {sh : Nat → Nat → Int32} {bs : List Nat} {pl i : Nat} (h : ¬ pl + 5 * i + 8 ≤ bs.length) : ∀ n, i ≤ n → shN sh bs pl n = shN sh bs pl i
  | 0, hn => by rw [show i = 0 by omega]
  | n + 1, hn => by
    by_cases e : i = n + 1
    · rw [e]
    · rw [shN, if_neg (by omega), shN_stop h n (by omega)]
def shA (sh : Nat → Nat → Int32) (bs : List Nat) (pl : Nat) : Nat → Nat → Int32 := if bs.length ≤ pl + 2 then sh else shN sh bs pl (bs.getD pl 0)
theorem showU_C {μ : Mem} {sh : Nat → Nat → Int32} {p : Nat} {v tk : Int32} (h : ShwC μ sh) (hp : p < 256) : wp (f93 (nI p) v tk μ) (fun m => ShwC m (shU sh p v tk) ∧ Fr (fun c _ => 21 ≤ c ∧ c ≤ 23) μ m) := by
  have g1 := gl_21
  have g2 := gl_22
  have g3 := gl_23
  unfold f93 c93_26 shU
  rw [i_24]
  by_cases q : 24 ≤ p
  · rw [if_pos q, if_pos ((nI_leI (by omega) (by omega)).mpr q)]
    exact wp_some ⟨h, Fr.rf⟩
  · have e0 : μ.1 21 p = sh p 0 := h p (by omega) 0 (by omega)
    have e2 : μ.1 23 p = sh p 2 := h p (by omega) 2 (by omega)
    have st : wp ((stA 21 (nI p) (nI 1) μ).bind fun m1 => (stA 22 (nI p) v m1).bind fun m3 => (stA 23 (nI p) tk m3).bind fun m5 => some m5) (fun m => ShwC m (up2 (up2 (up2 sh p 0 (nI 1)) p 1 v) p 2 tk) ∧ Fr (fun c _ => 21 ≤ c ∧ c ≤ 23) μ m) := by
      rw [stA_N (by omega), Option.bind_some, stA_N (by omega), Option.bind_some, stA_N (by omega), Option.bind_some]
      exact wp_some ⟨((h.up (k := 0) rfl).up (k := 1) rfl).up (k := 2) rfl, ((Fr.sI (by omega)).pI (by omega)).pI (by omega)⟩
    rw [if_neg q, if_neg (fun z => q ((nI_leI (by omega) (by omega)).mp z)), ldA_N (by omega), Option.bind_some, e0, i_0, i_1]
    by_cases q0 : sh p 0 = nI 0
    · rw [if_pos q0, if_pos (Or.inl q0)]
      exact st
    · rw [if_neg q0, ldA_N (by omega), Option.bind_some, e2]
      by_cases q2 : sh p 2 ≤ tk
      · rw [if_pos q2, if_pos (Or.inr q2)]
        exact st
      · rw [if_neg q2, if_neg (fun z => z.elim q0 q2)]
        exact wp_some ⟨h, Fr.rf⟩
theorem showA_C {μ : Mem} {sh : Nat → Nat → Int32} {b pl : Nat} {bs : List Nat} (h : ShwC μ sh) (hb : Byt μ b bs) (hl : bs.length ≤ 200) (h15 : 15 ≤ bs.length) (hpl : pl = 13 ∨ pl = 14) (hbb : 52 ≤ b) : wp (f92 b (nI pl) μ) (fun m => ShwC m (shA sh bs pl) ∧ Fr (fun c _ => 21 ≤ c ∧ c ≤ 23) μ m) := by
  have h1 := hb.1
  have bp := hb.get pl
  unfold f92 shA c92_21
  dsimp only [nm]
  rw [h1, i_2, pk_sub (by omega), i_9, four_ok hb (k := 9) (by omega), i_0]
  have key : ∀ n, n < 256 → wp (l92_34 b gF (nI pl, nI (bs.length - 2), nI n, nI (w4l bs 9), nI 0, μ)) (fun m => ShwC m (shN sh bs pl n) ∧ Fr (fun c _ => 21 ≤ c ∧ c ≤ 23) μ m) := by
    intro n hn
    unfold l92_34
    refine wp_for (fun i m => (nI pl, nI (bs.length - 2), nI n, nI (w4l bs 9), nI i, m)) (fun i m => ShwC m (shN sh bs pl i) ∧ Fr (fun c _ => 21 ≤ c ∧ c ≤ 23) μ m) n (by omega) μ _ rfl ⟨h, Fr.rf⟩ (fun self i m hi ⟨x1, x2⟩ hk => ?_) (fun self m ⟨x1, x2⟩ => ?_)
    · have hb2 := hb.fr x2 (by omega) (fun k => by omega)
      unfold b92_34
      dsimp only [nm]
      rw [if_neg (fun z => by have := (nI_leI (by omega) (by omega)).mp z; omega), i_1, i_5, nI_add, pk_mul, nI_add, nI_add]
      by_cases q : pl + 5 * i + 8 ≤ bs.length
      · rw [if_pos ((nI_leI (by omega) (by omega)).mpr (by omega)), at_ok hb2 (k := pl + 1 + 5 * i) (by omega), Option.bind_some]
        dsimp only
        rw [nI_add, show pl + 1 + 5 * i + 1 = pl + 2 + 5 * i by omega, four_ok hb2 (k := pl + 2 + 5 * i) (by omega), Option.bind_some]
        dsimp only
        refine wp_bind (showU_C x1 (hb.get _)) (fun m2 ⟨a1, a2⟩ => ?_)
        rw [nI_add]
        refine hk m2 ⟨?_, x2.tr' a2⟩
        rw [shN, if_pos q]
        exact a1
      · rw [if_neg (fun z => q (by have := (nI_leI (by omega) (by omega)).mp z; omega))]
        refine wp_some ⟨?_, x2⟩
        rw [shN_stop q n (by omega)]
        exact x1
    · unfold b92_34
      rw [if_pos ((nI_leI (by omega) (by omega)).mpr (Nat.le_refl _))]
      exact wp_some ⟨x1, x2⟩
  by_cases q : bs.length ≤ pl + 2
  · rw [if_pos q, if_pos ((nI_leI (by omega) (by omega)).mpr (by omega)), Option.bind_some]
    exact key 0 (by omega)
  · rw [if_neg q, if_neg (fun z => q (by have := (nI_leI (by omega) (by omega)).mp z; omega)), at_ok hb (k := pl) (by omega), Option.bind_some]
    dsimp only
    rw [four_ok hb (k := 9) (by omega), Option.bind_some]
    exact key _ bp
