/-! ===== what is changed: whole cells, single places ===== -/
def Chg (S : List Nat) (T : List (Nat × Nat)) (μ μ' : Mem) : Prop := (∀ c k, c ∉ S → (c, k) ∉ T → μ'.1 c k = μ.1 c k) ∧ μ'.2 = μ.2
theorem Chg.rf {S : List Nat} {T : List (Nat × Nat)} {μ : Mem} : Chg S T μ μ := ⟨fun _ _ _ _ => rfl, rfl⟩
theorem Chg.tr {S S2 : List Nat} {T T2 : List (Nat × Nat)} {μ μ1 μ2 : Mem} (h : Chg S T μ μ1) (h2 : Chg S2 T2 μ1 μ2) (hS : ∀ c, c ∈ S2 → c ∈ S) (hT : ∀ q, q ∈ T2 → q.1 ∈ S ∨ q ∈ T) : Chg S T μ μ2 :=
  ⟨fun c k hc hk => (h2.1 c k (fun q => hc (hS c q)) (fun q => (hT (c, k) q).elim hc hk)).trans (h.1 c k hc hk), h2.2.trans h.2⟩
theorem Chg.mono {S S2 : List Nat} {T T2 : List (Nat × Nat)} {μ μ1 : Mem} (h : Chg S T μ μ1) (hS : ∀ c, c ∈ S → c ∈ S2) (hT : ∀ q, q ∈ T → q.1 ∈ S2 ∨ q ∈ T2) : Chg S2 T2 μ μ1 := Chg.rf.tr h hS hT
theorem Off.chg {S : List Nat} {μ μ1 : Mem} (h : Off S μ μ1) : Chg S [] μ μ1 := ⟨fun c k hc _ => by rw [h.1 c hc], h.2⟩
theorem Chg.row {S : List Nat} {T : List (Nat × Nat)} {μ μ1 : Mem} (h : Chg S T μ μ1) {c : Nat} (hc : c ∉ S) (hT : c ∉ T.map (fun q => q.1)) : μ1.1 c = μ.1 c := by
  funext k
  exact h.1 c k hc (fun q => hT (List.mem_map.mpr ⟨(c, k), q, rfl⟩))
theorem Chg.setI {S : List Nat} {T : List (Nat × Nat)} {μ : Mem} {a k : Nat} {x : Int32} (h : a ∈ S ∨ (a, k) ∈ T) : Chg S T μ (setI μ a k x) := by
  refine ⟨fun c j hc hj => ?_, rfl⟩
  by_cases e : c = a
  · subst e
    rw [setI_s]
    refine gup_o (fun q => ?_)
    subst q
    exact h.elim hc hj
  · rw [setI_o e]
theorem Byt.chg {μ μ' : Mem} {a : Nat} {bs : List Nat} {S : List Nat} {T : List (Nat × Nat)} (h : Byt μ a bs) (ho : Chg S T μ μ') (h1 : a ∉ S) (h2 : (a, 1) ∉ T) (h3 : a + 1 ∉ S) (h4 : a + 1 ∉ T.map (fun q => q.1)) : Byt μ' a bs := by
  obtain ⟨b1, b2, b3, b4⟩ := h
  exact ⟨by rw [ho.1 a 1 h1 h2]; exact b1, b2, fun i hi => by rw [ho.row h3 h4]; exact b3 i hi, b4⟩
theorem Seg.chg {μ μ' : Mem} {c k : Nat} {bs : List Nat} {S : List Nat} {T : List (Nat × Nat)} (h : Seg μ c k bs) (ho : Chg S T μ μ') (h1 : c ∉ S) (h2 : c ∉ T.map (fun q => q.1)) : Seg μ' c k bs :=
  ⟨fun i hi => by rw [ho.row h1 h2]; exact h.1 i hi, h.2⟩
/-! ===== THE TAPE ===== -/
theorem gl_2 : gln 2 = 256 := by decide +kernel
theorem gl_130 : gln 130 = 256 := by decide +kernel
theorem neg_or (x : Int32) : x < 0 ∨ ∃ j : Nat, j < 2 ^ 31 ∧ x = nI j := by
  by_cases h : x < 0
  · exact Or.inl h
  · exact Or.inr (nI_of h)
def MTape (μ : Mem) (bs : List Nat) : Prop := μ.1 129 1 = nI bs.length ∧ bs.length ≤ 256 ∧ Seg μ 130 0 bs
theorem MTape.chg {μ μ' : Mem} {bs : List Nat} {S : List Nat} {T : List (Nat × Nat)} (h : MTape μ bs) (ho : Chg S T μ μ') (h1 : 129 ∉ S) (h2 : (129, 1) ∉ T) (h3 : 130 ∉ S) (h4 : 130 ∉ T.map (fun q => q.1)) : MTape μ' bs :=
  ⟨by rw [ho.1 129 1 h1 h2]; exact h.1, h.2.1, h.2.2.chg ho h3 h4⟩
theorem Byt.cap {μ : Mem} {bs : List Nat} (h : Byt μ 1 bs) : bs.length ≤ 256 := by
  have := h.2.1
  rw [show 1 + 1 = 2 from rfl, gl_2] at this
  exact this
/-- what taped answers -/
def aTaped (bs : List Nat) (i : Int32) : Int32 := if i < 0 then -1 else if i < nI bs.length then nI (bs.getD i.toNatClampNeg 0) else -1
theorem taped_C {μ : Mem} {bs : List Nat} (h : Byt μ 1 bs) (i : Int32) : f198 i μ = some (μ, aTaped bs i) := by
  unfold f198 aTaped c198_15
  rw [h.1]
  rcases neg_or i with hi | ⟨j, hj, rfl⟩
  · rw [if_pos hi, if_pos hi]
  · rw [if_neg (nI_pos hj), if_neg (nI_pos hj), nI_clamp hj]
    by_cases hl : nI j < nI bs.length
    · rw [if_pos hl, if_pos hl, at_ok h hj, Option.bind_some]
    · rw [if_neg hl, if_neg hl]
theorem taped_M {μ : Mem} {bs : List Nat} (h : MTape μ bs) (i : Int32) : f242 i μ = some (μ, aTaped bs i) := by
  obtain ⟨h1, h2, h3⟩ := h
  unfold f242 aTaped c242_12
  rw [h1]
  rcases neg_or i with hi | ⟨j, hj, rfl⟩
  · rw [if_pos hi, if_pos hi]
  · rw [if_neg (nI_pos hj), if_neg (nI_pos hj), nI_clamp hj]
    by_cases hl : nI j < nI bs.length
    · have hl2 := (nI_ltI hj (by omega)).mp hl
      rw [if_pos hl, if_pos hl]
      unfold ldA
      rw [if_pos (inb_nI (by rw [gl_130]; omega) (gln_le _)), Option.bind_some, nI_clamp hj, ← h3.1 j hl2, Nat.zero_add]
    · rw [if_neg hl, if_neg hl]
theorem wipe_C {μ : Mem} {bs : List Nat} (h : Byt μ 1 bs) : wp (f199 μ) (fun r => r.2 = nI bs.length ∧ Byt r.1 1 [] ∧ Chg [1, 2] [] μ r.1) := by
  unfold f199
  refine wp_bind (clear_ok 1 μ) (fun m hm => wp_some ⟨h.1, hm.1, hm.2.chg⟩)
theorem wipe_M {μ : Mem} {bs : List Nat} (h : MTape μ bs) : wp (f243 μ) (fun r => r.2 = nI bs.length ∧ MTape r.1 [] ∧ Chg [130] [(129, 1)] μ r.1) := by
  unfold f243
  refine wp_bind wp_pfI (fun m hm => wp_some ?_)
  subst hm
  exact ⟨h.1, ⟨by rw [setI_s]; exact gup_s, Nat.zero_le _, fun i hi => absurd hi (Nat.not_lt_zero _), fun b hb => by cases hb⟩, Chg.setI (Or.inr (by simp))⟩
theorem check_C {μ : Mem} {bs : List Nat} (hT : Tb μ) (h : Byt μ 1 bs) : f200 μ = some (μ, nI (crc bs)) := by
  have := h.cap
  unfold f200
  rw [h.1, lit 0, checkOf_ok hT h (Nat.zero_le _) (Nat.zero_le _) (by omega), Option.bind_some, List.drop_zero, List.take_of_length_le (Nat.le_refl _)]
theorem check_M {μ : Mem} {bs : List Nat} (h : MTape μ bs) : f244 μ = some (μ, nI (crc bs)) := by
  obtain ⟨h1, h2, h3⟩ := h
  unfold f244
  rw [h1, lit 0, mcheck_ok h3 (by rw [gl_130]; omega) (by omega), Option.bind_some]
/-! feed -/
theorem shr255 (v : Int32) {n : Nat} (hn : n + 8 ≤ 32) : (jushr v (nI n)) &&& 255 = nI (byv (jshr v (nI n))) := by
  rw [← byv_and]
  apply b_ext
  intro i hi
  rw [b_and, b_and, b_255]
  by_cases h8 : i < 8
  · rw [show jushr v (nI n) = (v.toUInt32 >>> ((nI n).toUInt32 &&& Int32.toUInt32 31)).toInt32 from rfl, b_ushr n (by omega) v i, show jshr v (nI n) = v >>> (nI n &&& 31) from rfl, b_sshr n (by omega) v hi, if_pos (by omega)]
  · rw [decide_eq_false h8, Bool.and_false, Bool.and_false]
/-- the n lowest bytes of v, the highest first -/
def lowB (v : Int32) : Nat → List Nat
  | 0 => []
  | n + 1 => byv (jshr v (nI (8 * n))) :: lowB v n
theorem lowB_len (v : Int32) : ∀ n, (lowB v n).length = n
  | 0 => rfl
  | n + 1 => by rw [lowB, List.length_cons, lowB_len v n]
theorem lowB_lt (v : Int32) : ∀ n b, b ∈ lowB v n → b < 256
  | 0, b, h => by cases h
  | n + 1, b, h => by
    rcases List.mem_cons.mp h with rfl | h
    · exact byv_lt _
    · exact lowB_lt v n b h
theorem fdn : ∀ j, j < 5 → ∀ i, i < j → nI (j - 1 - i) + (-1) = nI j - 1 - nI (i + 1) := by decide
theorem fde : ∀ j, j < 5 → nI j - 1 - nI j < 0 := by decide
theorem feed_C {μ : Mem} {bs : List Nat} (v n : Int32) (h : Byt μ 1 bs) : wp (f197 v n μ) (fun r => ∃ bs2 : List Nat, (if n < 1 then r.2 = -1 ∧ bs2 = bs else if n ≤ 4 then (if nI bs.length + n ≤ 256 then r.2 = nI bs2.length ∧ bs2 = bs ++ lowB v n.toNatClampNeg else r.2 = -3 ∧ bs2 = bs) else r.2 = -1 ∧ bs2 = bs) ∧ Byt r.1 1 bs2 ∧ Chg [1, 2] [] μ r.1) := by
  unfold f197
  rw [h.1]
  refine wp_if (fun q => wp_some ⟨bs, by rw [if_pos q]; exact ⟨rfl, rfl⟩, h, Chg.rf⟩) (fun q1 => ?_)
  refine wp_if (fun q2 => ?_) (fun q2 => wp_some ⟨bs, by rw [if_neg q1, if_neg q2]; exact ⟨rfl, rfl⟩, h, Chg.rf⟩)
  refine wp_if (fun q3 => ?_) (fun q3 => wp_some ⟨bs, by rw [if_neg q1, if_pos q2, if_neg q3]; exact ⟨rfl, rfl⟩, h, Chg.rf⟩)
  obtain ⟨j, hj, rfl⟩ := nI_of2 (n := 4) (by decide) (fun z => q1 (Int32.lt_of_lt_of_le z (by decide))) q2
  have hcap := h.cap
  have hj1 : 1 ≤ j := by
    rcases Nat.lt_or_ge j 1 with z | z
    · exact absurd (nI_lt (b := 1) z (by decide)) q1
    · exact z
  have hlen : bs.length + j ≤ 256 := by
    rw [nI_add] at q3
    exact (nI_leI (b := 256) (by omega) (by decide)).mp q3
  refine wp_nm (fun y hy => ?_)
  rw [lit 1, pk_sub hj1] at hy
  subst hy
  have hcl : (nI j).toNatClampNeg = j := nI_clamp (by omega)
  unfold l197_34
  refine wp_loop (I := fun i x => x.1 = v ∧ x.2.1 = nI j - 1 - nI i ∧ (∃ l, l ++ lowB v (j - i) = lowB v j ∧ l.length = i ∧ Byt x.2.2 1 (bs ++ l)) ∧ Off [1, 2] μ x.2.2) j (fun self i x hi hx hk => ?_) (fun self x hx => ?_) gF 0 _ (Nat.zero_le _) (gF_pos (by omega)) ⟨rfl, by rw [lit 1, pk_sub hj1, show nI 0 = 0 from rfl]; simp, ⟨[], rfl, rfl, by simpa using h⟩, Off.rf⟩
  · obtain ⟨x1, x2, m⟩ := x
    obtain ⟨rfl, rfl, ⟨l, hl1, hl2, hl3⟩, h4⟩ := hx
    dsimp only at hk hl3 h4 ⊢
    rw [lit 1, pk_sub hj1, pk_sub (show i ≤ j - 1 by omega)]
    unfold b197_34
    refine wp_f (nI_pos (by omega)) ?_
    rw [lit 8, pk_mul]
    refine wp_bind (put_ok _ hl3 (by rw [show 1 + 1 = 2 from rfl, gl_2, List.length_append]; omega)) (fun m1 h1 => ?_)
    refine wp_nm (fun z hz => ?_)
    have hji : j - i = (j - 1 - i) + 1 := by omega
    refine hk _ ⟨rfl, ?_, ⟨l ++ [byv (jshr x1 (nI (8 * (j - 1 - i))))], ?_, by rw [List.length_append, hl2]; rfl, ?_⟩, h4.tr h1.2 (fun c hc => hc)⟩
    · rw [hz]
      exact fdn j (by omega) i hi
    · rw [hji] at hl1
      rw [List.append_assoc, show j - (i + 1) = j - 1 - i by omega]
      exact hl1
    · rw [← List.append_assoc]
      exact h1.1
  · obtain ⟨x1, x2, m⟩ := x
    obtain ⟨rfl, rfl, ⟨l, hl1, hl2, hl3⟩, h4⟩ := hx
    dsimp only at hl3 h4 ⊢
    unfold b197_34
    refine wp_t ?_ (wp_some ⟨bs ++ l, ?_, hl3, h4.chg⟩)
    · exact fde j (by omega)
    · rw [if_neg q1, if_pos q2, if_pos q3, hcl]
      refine ⟨hl3.1, ?_⟩
      rw [Nat.sub_self] at hl1
      rw [← hl1]
      simp [lowB]
theorem Seg.snoc {μ : Mem} {c k : Nat} {bs : List Nat} {b : Nat} (h : Seg μ c k bs) (hb : b < 256) : Seg (setI μ c (k + bs.length) (nI b)) c k (bs ++ [b]) := by
  refine ⟨fun i hi => ?_, fun x hx => ?_⟩
  · rw [List.length_append] at hi
    have hi : i < bs.length + 1 := hi
    rw [setI_s]
    by_cases e : i = bs.length
    · subst e
      rw [gup_s, getD_r (Nat.le_refl _), Nat.sub_self]
      rfl
    · rw [gup_o (by omega), h.1 i (by omega), getD_l (by omega)]
  · rcases List.mem_append.mp hx with q | q
    · exact h.2 x q
    · rw [List.mem_singleton.mp q]
      exact hb
theorem feed_M {μ : Mem} {bs : List Nat} (v n : Int32) (h : MTape μ bs) : wp (f241 v n μ) (fun r => ∃ bs2 : List Nat, (if n < 1 then r.2 = -1 ∧ bs2 = bs else if n ≤ 4 then (if nI bs.length + n ≤ 256 then r.2 = nI bs2.length ∧ bs2 = bs ++ lowB v n.toNatClampNeg else r.2 = -3 ∧ bs2 = bs) else r.2 = -1 ∧ bs2 = bs) ∧ MTape r.1 bs2 ∧ Chg [130] [(129, 1)] μ r.1) := by
  unfold f241
  rw [h.1]
  refine wp_if (fun q => wp_some ⟨bs, by rw [if_pos q]; exact ⟨rfl, rfl⟩, h, Chg.rf⟩) (fun q1 => ?_)
  refine wp_if (fun q2 => ?_) (fun q2 => wp_some ⟨bs, by rw [if_neg q1, if_neg q2]; exact ⟨rfl, rfl⟩, h, Chg.rf⟩)
  refine wp_if (fun q3 => ?_) (fun q3 => wp_some ⟨bs, by rw [if_neg q1, if_pos q2, if_neg q3]; exact ⟨rfl, rfl⟩, h, Chg.rf⟩)
  obtain ⟨j, hj, rfl⟩ := nI_of2 (n := 4) (by decide) (fun z => q1 (Int32.lt_of_lt_of_le z (by decide))) q2
  have hcap := h.2.1
  have hj1 : 1 ≤ j := by
    rcases Nat.lt_or_ge j 1 with z | z
    · exact absurd (nI_lt (b := 1) z (by decide)) q1
    · exact z
  have hlen : bs.length + j ≤ 256 := by
    rw [nI_add] at q3
    exact (nI_leI (b := 256) (by omega) (by decide)).mp q3
  refine wp_nm (fun y hy => ?_)
  rw [lit 1, pk_sub hj1] at hy
  subst hy
  have hcl : (nI j).toNatClampNeg = j := nI_clamp (by omega)
  unfold l241_31
  refine wp_loop (I := fun i x => x.1 = v ∧ x.2.1 = nI j - 1 - nI i ∧ (∃ l, l ++ lowB v (j - i) = lowB v j ∧ l.length = i ∧ MTape x.2.2 (bs ++ l)) ∧ Chg [130] [(129, 1)] μ x.2.2) j (fun self i x hi hx hk => ?_) (fun self x hx => ?_) gF 0 _ (Nat.zero_le _) (gF_pos (by omega)) ⟨rfl, by rw [lit 1, pk_sub hj1, show nI 0 = 0 from rfl]; simp, ⟨[], rfl, rfl, by simpa using h⟩, Chg.rf⟩
  · obtain ⟨x1, x2, m⟩ := x
    obtain ⟨rfl, rfl, ⟨l, hl1, hl2, hl3⟩, h4⟩ := hx
    dsimp only at hk hl3 h4 ⊢
    have hll : (bs ++ l).length = bs.length + i := by rw [List.length_append, hl2]
    rw [lit 1, pk_sub hj1, pk_sub (show i ≤ j - 1 by omega)]
    unfold b241_31
    refine wp_f (nI_pos (by omega)) ?_
    rw [lit 8, pk_mul, hl3.1, shr255 x1 (n := 8 * (j - 1 - i)) (by omega)]
    refine wp_bind (wp_stA (by rw [gl_130, hll]; omega) (gln_le _)) (fun m1 hm1 => ?_)
    subst hm1
    have hsn := hl3.2.2.snoc (byv_lt (jshr x1 (nI (8 * (j - 1 - i)))))
    rw [Nat.zero_add] at hsn
    refine wp_bind wp_pfI (fun m2 hm2 => ?_)
    subst hm2
    refine wp_nm (fun z hz => ?_)
    have hji : j - i = (j - 1 - i) + 1 := by omega
    refine hk _ ⟨rfl, ?_, ⟨l ++ [byv (jshr x1 (nI (8 * (j - 1 - i))))], ?_, by rw [List.length_append, hl2]; rfl, ?_⟩, ?_⟩
    · rw [hz]
      exact fdn j (by omega) i hi
    · rw [hji] at hl1
      rw [List.append_assoc, show j - (i + 1) = j - 1 - i by omega]
      exact hl1
    · rw [← List.append_assoc]
      refine ⟨?_, ?_, ?_⟩
      · rw [setI_s, gup_s, setI_o (by decide), hl3.1, lit 1, nI_add, List.length_append (as := bs ++ l)]
        rfl
      · rw [List.length_append, hll]
        show bs.length + i + 1 ≤ 256
        omega
      · exact hsn.chg (S := []) (T := [(129, 1)]) (Chg.setI (Or.inr (by simp))) (by simp) (by simp)
    · exact (h4.tr (Chg.setI (S := [130]) (T := [(129, 1)]) (Or.inl (by simp))) (fun c hc => hc) (fun q hq => Or.inr hq)).tr (Chg.setI (S := [130]) (T := [(129, 1)]) (Or.inr (by simp))) (fun c hc => hc) (fun q hq => Or.inr hq)
  · obtain ⟨x1, x2, m⟩ := x
    obtain ⟨rfl, rfl, ⟨l, hl1, hl2, hl3⟩, h4⟩ := hx
    dsimp only at hl3 h4 ⊢
    unfold b241_31
    refine wp_t ?_ (wp_some ⟨bs ++ l, ?_, hl3, h4⟩)
    · exact fde j (by omega)
    · rw [if_neg q1, if_pos q2, if_pos q3, hcl]
      refine ⟨hl3.1, ?_⟩
      rw [Nat.sub_self] at hl1
      rw [← hl1]
      simp [lowB]
