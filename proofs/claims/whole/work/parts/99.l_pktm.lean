/-! ===== the ground: a packet has come, the reference ===== -/
theorem showAll_M {μ : Mem} {t c : Nat} {q : Nat → Rq} {sh : Nat → Nat → Int32} {bs : List Nat} (h : ReqM μ t q) (hs : ShwM μ sh) (hb : Seg μ 161 (200 * c) bs) (hc : c < 2) (h15 : 15 ≤ bs.length) (hl : bs.length ≤ 200) : wp (c346_242 (nI (200 * c)) (nI bs.length) μ) (fun m => ReqM m t (if bs.getD 7 0 = 1 then lrn t q bs else q) ∧ ShwM m (shW sh bs) ∧ Fr (fun c _ => c = 152 ∨ c = 153 ∨ 218 ≤ c ∧ c ≤ 220) μ m) := by
  have b7 := hb.get 7
  have b8 := hb.get 8
  have b13 := hb.get 13
  have b14 := hb.get 14
  have wl := w2_lt (k := 7) hb.2
  have ew : w2 bs 7 = 256 * bs.getD 7 0 + bs.getD 8 0 := rfl
  unfold c346_242
  rw [i_7, i_8, i_9, i_13, i_2, nI_add, nI_add, nI_add, nI_add, nI_add, pk_sub (by omega), ldB hb hc hl (i := 7) (by omega), Option.bind_some, ldB hb hc hl (i := 8) (by omega), Option.bind_some, foB hb hc hl (i := 9) (by omega), Option.bind_some]
  dsimp only [nm]
  have e368 : ∀ x, ¬ x = 5122 → ¬ x = 793 → x = w2 bs 7 → wp (c346_368 (nI (bs.getD 7 0)) (nI (bs.getD 8 0)) (nI (200 * c + 13)) (nI (200 * c + bs.length - 2)) μ) (fun m => ReqM m t (if bs.getD 7 0 = 1 then lrn t q bs else q) ∧ ShwM m (shW sh bs) ∧ Fr (fun c _ => c = 152 ∨ c = 153 ∨ 218 ≤ c ∧ c ≤ 220) μ m) := by
    intro x x1 x2 x3
    unfold c346_368 shW
    rw [i_1, ← x3, if_neg x1, if_neg x2]
    by_cases q3 : bs.getD 7 0 = 1
    · rw [if_pos (by rw [q3]), if_pos q3]
      refine wp_bind (lrn_M h hb hc h15 hl) (fun m ⟨a1, a2⟩ => wp_some ⟨a1, hs.fr a2 (fun c k _ _ => by omega), a2.mono (by intro c k h; omega)⟩)
    · rw [if_neg (fun z => q3 ((nI_eq (by omega) (by omega)).mp z)), if_neg q3]
      exact wp_some ⟨h, hs, Fr.rf⟩
  have e324 : ¬ w2 bs 7 = 5122 ∨ bs.length ≤ 15 → wp (c346_324 (nI (bs.getD 7 0)) (nI (bs.getD 8 0)) (nI (w4l bs 9)) (nI (200 * c + 13)) (nI (200 * c + bs.length - 2)) μ) (fun m => ReqM m t (if bs.getD 7 0 = 1 then lrn t q bs else q) ∧ ShwM m (shW sh bs) ∧ Fr (fun c _ => c = 152 ∨ c = 153 ∨ 218 ≤ c ∧ c ≤ 220) μ m) := by
    intro hx
    unfold c346_324
    rw [i_3, i_25, i_1, i_2, nI_add, nI_add]
    have none : bs.getD 7 0 ≠ 1 → shW sh bs = sh → wp (c346_368 (nI (bs.getD 7 0)) (nI (bs.getD 8 0)) (nI (200 * c + 13)) (nI (200 * c + bs.length - 2)) μ) (fun m => ReqM m t (if bs.getD 7 0 = 1 then lrn t q bs else q) ∧ ShwM m (shW sh bs) ∧ Fr (fun c _ => c = 152 ∨ c = 153 ∨ 218 ≤ c ∧ c ≤ 220) μ m) := by
      intro z1 z2
      unfold c346_368
      rw [i_1, if_neg (fun z => z1 ((nI_eq (by omega) (by omega)).mp z)), if_neg z1, z2]
      exact wp_some ⟨h, hs, Fr.rf⟩
    have rest : ¬ w2 bs 7 = 793 → wp (c346_368 (nI (bs.getD 7 0)) (nI (bs.getD 8 0)) (nI (200 * c + 13)) (nI (200 * c + bs.length - 2)) μ) (fun m => ReqM m t (if bs.getD 7 0 = 1 then lrn t q bs else q) ∧ ShwM m (shW sh bs) ∧ Fr (fun c _ => c = 152 ∨ c = 153 ∨ 218 ≤ c ∧ c ≤ 220) μ m) := by
      intro z
      by_cases q1 : w2 bs 7 = 5122
      · refine none (by omega) ?_
        unfold shW shA
        rw [if_pos q1, if_pos (by omega)]
      · exact e368 _ q1 z rfl
    by_cases q1 : bs.getD 7 0 = 3
    · rw [if_pos (by rw [q1])]
      by_cases q2 : bs.getD 8 0 = 25
      · rw [if_pos (by rw [q2])]
        have n1 : ¬ w2 bs 7 = 5122 := by omega
        have n2 : w2 bs 7 = 793 := by omega
        by_cases q3 : bs.length ≤ 16
        · rw [if_pos ((nI_leI (by omega) (by omega)).mpr (by omega))]
          refine none (by omega) ?_
          unfold shW shA
          rw [if_neg n1, if_pos n2, if_pos (by omega)]
        · rw [if_neg (fun z => q3 (by have := (nI_leI (by omega) (by omega)).mp z; omega)), show 200 * c + 13 + 1 = 200 * c + 14 by omega, ldB hb hc hl (i := 14) (by omega), Option.bind_some, if_neg (by omega)]
          refine wp_bind (showA_M (pl := 14) hs hb hc hl h15 (Or.inr rfl) b14) (fun m ⟨a1, a2⟩ => wp_some ⟨h.fr a2 (by omega) (fun c k _ _ => by omega), ?_, a2.mono (by intro c k h; omega)⟩)
          unfold shW shA
          rw [if_neg n1, if_pos n2, if_neg (by omega)]
          exact a1
      · rw [if_neg (fun z => q2 ((nI_eq (by omega) (by omega)).mp z))]
        exact rest (by omega)
    · rw [if_neg (fun z => q1 ((nI_eq (by omega) (by omega)).mp z))]
      exact rest (by omega)
  rw [i_20]
  by_cases q1 : bs.getD 7 0 = 20
  · rw [if_pos (by rw [q1])]
    by_cases q2 : bs.getD 8 0 = 2
    · rw [if_pos (by rw [q2])]
      by_cases q3 : bs.length ≤ 15
      · rw [if_pos ((nI_leI (by omega) (by omega)).mpr (by omega))]
        exact e324 (Or.inr q3)
      · rw [if_neg (fun z => q3 (by have := (nI_leI (by omega) (by omega)).mp z; omega)), ldB hb hc hl (i := 13) (by omega), Option.bind_some, i_1, nI_add, if_neg (by omega)]
        refine wp_bind (showA_M (pl := 13) hs hb hc hl h15 (Or.inl rfl) b13) (fun m ⟨a1, a2⟩ => wp_some ⟨h.fr a2 (by omega) (fun c k _ _ => by omega), ?_, a2.mono (by intro c k h; omega)⟩)
        unfold shW shA
        rw [if_pos (by omega), if_neg (by omega)]
        exact a1
    · rw [if_neg (fun z => q2 ((nI_eq (by omega) (by omega)).mp z))]
      exact e324 (Or.inl (by omega))
  · rw [if_neg (fun z => q1 ((nI_eq (by omega) (by omega)).mp z))]
    exact e324 (Or.inl (by omega))
abbrev FpM : Nat → Nat → Prop := fun c k => c = 152 ∨ c = 153 ∨ 215 ≤ c ∧ c ≤ 220 ∨ c = 129 ∧ 144 ≤ k ∧ k ≤ 147
theorem ArM.add {μ m : Mem} {ar : List Pk} {na c : Nat} {bs : List Nat} (h : ArM μ ar na) (hI : ar.length = min na 40) (h2 : ∀ i, i < ar.length → (pk ar i).1.length ≤ 120) (hn : m.1 129 147 = nI (na + 1)) (h216 : m.1 216 (na % 40) = nI bs.length) (h217 : m.1 217 (na % 40) = nI c) (hS : Seg m 215 (120 * (na % 40)) bs) (ho : Fr (fun c k => (c = 216 ∨ c = 217) ∧ k = na % 40 ∨ c = 215 ∧ 120 * (na % 40) ≤ k ∧ k < 120 * (na % 40) + 120 ∨ c = 129 ∧ k = 147) μ m) : ArM m (arN ar bs c) (na + 1) := by
  have h40 : ar.length ≤ 40 := by omega
  refine ⟨hn, fun j hj => ?_⟩
  rw [arN_len h40] at hj ⊢
  rw [pk_arN]
  have old : ∀ i, i < ar.length → (na - ar.length + i) % 40 ≠ na % 40 → m.1 216 ((na - ar.length + i) % 40) = nI (pk ar i).1.length ∧ m.1 217 ((na - ar.length + i) % 40) = (pk ar i).2.1 ∧ Seg m 215 (120 * ((na - ar.length + i) % 40)) (pk ar i).1 := by
    intro i hi hne
    obtain ⟨a, b, d⟩ := h.2 i hi
    have l2 := h2 i hi
    have l3 : (na - ar.length + i) % 40 < 40 := Nat.mod_lt _ (by omega)
    generalize (na - ar.length + i) % 40 = s at hne a b d l3
    generalize na % 40 = s2 at hne ho
    exact ⟨by rw [ho.1 _ _ (by omega)]; exact a, by rw [ho.1 _ _ (by omega)]; exact b, fun k hk => by rw [ho.1 _ _ (by omega)]; exact d.1 k hk, d.2⟩
  by_cases q : ar.length < 40
  · rw [if_pos q]
    have e : na = ar.length := by omega
    by_cases e2 : j < ar.length
    · rw [if_pos e2]
      have := old j e2 (by omega)
      rw [show na + 1 - min (ar.length + 1) 40 + j = na - ar.length + j by omega]
      exact this
    · rw [if_neg e2, if_pos (by omega), show na + 1 - min (ar.length + 1) 40 + j = na by omega]
      exact ⟨h216, h217, hS⟩
  · rw [if_neg q]
    have e : ar.length = 40 := by omega
    by_cases e2 : j < ar.length - 1
    · rw [if_pos e2]
      have := old (j + 1) (by omega) (by omega)
      rw [show na + 1 - min (ar.length + 1) 40 + j = na - ar.length + (j + 1) by omega]
      exact this
    · rw [if_neg e2, if_pos (by omega), show (na + 1 - min (ar.length + 1) 40 + j) % 40 = na % 40 by omega]
      exact ⟨h216, h217, hS⟩
theorem pkt_M {μ : Mem} {t c : Nat} {q : Nat → Rq} {g : Gw} {bs : List Nat} (h : ReqM μ t q) (hG : GwM μ g) (hI : GwI g) (hb : Seg μ 161 (200 * c) bs) (h7 : 7 ≤ bs.length) (hl : bs.length ≤ 200) (hc : c < 2) (hn : g.2.1 < 2 ^ 30) :
    wp (f346 (nI c) (nI (200 * c)) (nI bs.length) μ) (fun m => GwM m (pkG g c bs) ∧ ReqM m t (pkQ t q bs) ∧ Fr FpM μ m) := by
  have g0 := gl_161
  have g1 := gl_215
  have g2 := gl_216
  have g3 := gl_217
  have b0 := hb.get 0
  have b1 := hb.get 1
  have e0 := ldB hb hc hl (i := 0) (by omega)
  rw [Nat.add_zero] at e0
  have main : ¬ (bs.getD 0 0 = 7 ∧ bs.getD 1 0 = 255) → wp (c346_28 (nI c) (nI (200 * c)) (nI bs.length) μ) (fun m => GwM m (pkG g c bs) ∧ ReqM m t (pkQ t q bs) ∧ Fr FpM μ m) := by
    intro q1
    have nid : ¬ idP bs = true := fun z => q1 (of_decide_eq_true z)
    unfold pkG pkQ
    rw [if_neg nid, if_neg nid, sndP_M hb hc hl (by omega)]
    by_cases q2 : sndP bs = true
    · have hsl := sndP_len q2
      have hck := (of_decide_eq_true q2).2.2.2.2.2.2
      have sg : Seg μ 161 (200 * c) (bs.take (bs.length - 2)) := by
        have := hb.sub (i := 0) (n := bs.length - 2)
        rw [List.drop_zero, Nat.add_zero] at this
        exact this
      have htl : (bs.take (bs.length - 2)).length = bs.length - 2 := by rw [List.length_take]; omega
      have ck := mcheck_ok sg (by rw [htl]; omega) (by rw [htl]; omega)
      rw [htl] at ck
      rw [if_pos q2, if_pos q2]
      unfold c346_90
      rw [if_neg (show ¬ nI 1 = (0 : Int32) by decide), i_2, pk_sub (by omega), ck, Option.bind_some]
      dsimp only
      rw [nI_add, pk_sub (by omega), show 200 * c + bs.length - 2 = 200 * c + (bs.length - 2) by omega, woB hb hc hl (i := bs.length - 2) (by omega), Option.bind_some]
      dsimp only [nm]
      rw [if_pos (by rw [hck]), hG.1.1, i_40, jrem_N (by omega) (by omega) (by omega), i_120, pk_mul]
      have hx : g.2.1 % 40 < 40 := Nat.mod_lt _ (by omega)
      refine wp_bind (move_M (n := bs.length) hb rfl (by omega) (by omega) (by omega) (Or.inl (by decide))) (fun m1 ⟨a1, a2⟩ => ?_)
      rw [stA_N (by omega), Option.bind_some, stA_N (by omega), Option.bind_some]
      unfold pfI
      rw [Option.bind_some]
      have e147 : (setI (setI m1 216 (g.2.1 % 40) (nI bs.length)) 217 (g.2.1 % 40) (nI c)).1 129 147 = nI g.2.1 := by
        rw [rdI, if_neg (by omega), rdI, if_neg (by omega), a2.1 _ _ (by omega), hG.1.1]
      rw [e147, i_1, nI_add, nI_add]
      have f1 : Fr (fun c k => (c = 216 ∨ c = 217) ∧ k = g.2.1 % 40 ∨ c = 215 ∧ 120 * (g.2.1 % 40) ≤ k ∧ k < 120 * (g.2.1 % 40) + 120 ∨ c = 129 ∧ k = 147) μ (setI (setI (setI m1 216 (g.2.1 % 40) (nI bs.length)) 217 (g.2.1 % 40) (nI c)) 129 147 (nI (g.2.1 + 1))) :=
        (((a2.mono (by intro c k h; omega)).pI (by omega)).pI (by omega)).pI (by omega)
      have A1 : ArM (setI (setI (setI m1 216 (g.2.1 % 40) (nI bs.length)) 217 (g.2.1 % 40) (nI c)) 129 147 (nI (g.2.1 + 1))) (arN g.1 bs c) (g.2.1 + 1) := by
        refine hG.1.add hI.1 (fun i hi => (hI.2.1 i hi).1) ?_ ?_ ?_ ⟨fun i hi => ?_, hb.2⟩ f1
        · rw [rdI, if_pos ⟨rfl, rfl⟩]
        · rw [rdI, if_neg (by omega), rdI, if_neg (by omega), rdI, if_pos ⟨rfl, rfl⟩]
        · rw [rdI, if_neg (by omega), rdI, if_pos ⟨rfl, rfl⟩]
        · rw [rdI, if_neg (by omega), rdI, if_neg (by omega), rdI, if_neg (by omega)]
          exact a1.1 i hi
      obtain ⟨m2, hm2⟩ : ∃ m2, m2 = setI (setI (setI m1 216 (g.2.1 % 40) (nI bs.length)) 217 (g.2.1 % 40) (nI c)) 129 147 (nI (g.2.1 + 1)) := ⟨_, rfl⟩
      rw [← hm2] at f1 A1 ⊢
      clear hm2
      have hb2 : Seg m2 161 (200 * c) bs := ⟨fun j hj => by rw [f1.1 _ _ (by omega)]; exact hb.1 j hj, hb.2⟩
      have w2l := w2_lt (k := 2) hb.2
      rw [woB hb2 hc hl (i := 2) (by omega), Option.bind_some]
      dsimp only [nm]
      rw [i_16383, an_16383]
      have f2 : Fr (fun c k => 215 ≤ c ∧ c ≤ 217 ∨ c = 129 ∧ k = 147) μ m2 := f1.mono (by intro c k h; omega)
      have e145 : m2.1 129 145 = g.2.2.2.1 := by rw [f2.1 _ _ (by omega)]; exact hG.2.2.1
      have e146 : m2.1 129 146 = lcM g.2.2.2.2.1 := by rw [f2.1 _ _ (by omega)]; exact hG.2.2.2.1
      have arl : ∀ i, i < (arN g.1 bs c).length → (pk (arN g.1 bs c) i).1.length ≤ 120 := by
        have := pkG_I (bs := bs) hI hc
        unfold pkG at this
        rw [if_neg nid, if_pos q2] at this
        exact fun i hi => (this.2.1 i hi).1
      have tail : ∀ m3 : Mem, ∀ ms lc, m3.1 129 145 = ms → m3.1 129 146 = lcM lc → Fr (fun c k => c = 129 ∧ 145 ≤ k ∧ k ≤ 146) m2 m3 → wp (c346_242 (nI (200 * c)) (nI bs.length) m3) (fun m => GwM m (arN g.1 bs c, g.2.1 + 1, g.2.2.1, ms, lc, shW g.2.2.2.2.2 bs) ∧ ReqM m t (if sndP bs = true ∧ bs.getD 7 0 = 1 then lrn t q bs else q) ∧ Fr FpM μ m) := by
        intro m3 ms lc z1 z2 f3
        have f4 : Fr (fun c k => 215 ≤ c ∧ c ≤ 217 ∨ c = 129 ∧ 145 ≤ k ∧ k ≤ 147) μ m3 := f2.tr f3 (by intro c k h; omega) (by intro c k h; omega)
        refine wp_mono (showAll_M (h.fr f4 (by omega) (fun c k _ _ => by omega)) (hG.2.2.2.2.fr f4 (fun c k _ _ => by omega)) ⟨fun j hj => by rw [f4.1 _ _ (by omega)]; exact hb.1 j hj, hb.2⟩ hc hsl.1 hl) (fun m ⟨a1, a2, a3⟩ => ⟨⟨(A1.fr arl f3 (fun c k _ => by omega)).fr arl a3 (fun c k _ => by omega), ?_, ?_, ?_, a2⟩, ?_, f4.tr a3 (by intro c k h; omega) (by intro c k h; omega)⟩)
        · rw [a3.1 _ _ (by omega), f4.1 _ _ (by omega)]; exact hG.2.1
        · rw [a3.1 _ _ (by omega)]; exact z1
        · rw [a3.1 _ _ (by omega)]; exact z2
        · by_cases q7 : bs.getD 7 0 = 1
          · rw [if_pos ⟨q2, q7⟩]; rw [if_pos q7] at a1; exact a1
          · rw [if_neg (fun z => q7 z.2)]; rw [if_neg q7] at a1; exact a1
      by_cases q0 : c = 0
      · rw [if_pos (show nI c = 0 by rw [q0]; rfl), if_pos q0, if_pos q0, e145, e146]
        unfold c346_232 pfI
        cases hlc : g.2.2.2.2.1 with
        | none =>
          rw [if_pos (show lcM none = -nI 2 from rfl), Option.bind_some, Option.bind_some]
          refine tail _ _ (some _) ?_ ?_ ((Fr.sI (by omega)).pI (by omega))
          · rw [rdI, if_neg (by omega), rdI, if_pos ⟨rfl, rfl⟩, Int32.add_zero]; rfl
          · rw [rdI, if_pos ⟨rfl, rfl⟩]; rfl
        | some w =>
          have hw := hI.2.2.1 w hlc
          have nn : ¬ lcM (some w) = -nI 2 := fun z => by
            have z : nI w = -nI 2 := z
            have : ¬ nI w < 0 := fun y => by have := (nI_ltI (a := w) (b := 0) (by omega) (by omega)).mp y; omega
            exact this (by rw [z]; decide)
          rw [if_neg nn, Option.bind_some, Option.bind_some]
          refine tail _ _ (some _) ?_ ?_ ((Fr.sI (by omega)).pI (by omega))
          · rw [rdI, if_neg (by omega), rdI, if_pos ⟨rfl, rfl⟩]; rfl
          · rw [rdI, if_pos ⟨rfl, rfl⟩]; rfl
      · rw [if_neg (show ¬ nI c = 0 from fun z => q0 ((nI_eq (a := c) (b := 0) (by omega) (by omega)).mp z)), if_neg q0, if_neg q0]
        exact tail m2 _ _ e145 e146 Fr.rf
    · rw [if_neg q2, if_neg q2, if_neg (fun z => q2 z.1)]
      unfold c346_120 pfI
      rw [Option.bind_some, hG.2.1]
      have f0 : Fr (fun c k => c = 129 ∧ k = 144) μ (setI μ 129 144 (g.2.2.1 + 1)) := Fr.sI ⟨rfl, rfl⟩
      refine wp_some ⟨⟨hG.1.fr (fun i hi => (hI.2.1 i hi).1) f0 (fun c k _ => by omega), by rw [rdI, if_pos ⟨rfl, rfl⟩], by rw [f0.1 _ _ (by omega)]; exact hG.2.2.1, by rw [f0.1 _ _ (by omega)]; exact hG.2.2.2.1, hG.2.2.2.2.fr f0 (fun c k _ _ => by omega)⟩, h.fr f0 (by omega) (fun c k _ _ => by omega), f0.mono (by intro c k h; omega)⟩
  unfold f346
  rw [e0, Option.bind_some, i_7]
  by_cases q1 : bs.getD 0 0 = 7
  · rw [if_pos (by rw [q1]), i_1, nI_add, ldB hb hc hl (i := 1) (by omega), Option.bind_some, i_255]
    by_cases q2 : bs.getD 1 0 = 255
    · rw [if_pos (by rw [q2])]
      unfold pkG pkQ
      rw [if_pos (show idP bs = true from decide_eq_true ⟨q1, q2⟩), if_pos (show idP bs = true from decide_eq_true ⟨q1, q2⟩)]
      exact wp_some ⟨hG, h, Fr.rf⟩
    · rw [if_neg (fun z => q2 ((nI_eq (by omega) (by omega)).mp z))]
      exact main (fun z => q2 z.2)
  · rw [if_neg (fun z => q1 ((nI_eq (by omega) (by omega)).mp z))]
    exact main (fun z => q1 z.1)
