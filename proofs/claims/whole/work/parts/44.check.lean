/-! ===== CHECK, in the class and in the reference ===== -/
/-- the table of the class is where it was -/
def Tb (μ : Mem) : Prop := ∀ i, μ.1 100000 i = gtab0.getD i 0
theorem Tb.keep {S : List Nat} {μ μ' : Mem} (h : Tb μ) (ho : Off S μ μ') (hS : 100000 ∉ S) : Tb μ' := fun i => by rw [ho.1 100000 hS]; exact h i
theorem nib_hi : ∀ q, q < 16 → ∀ b, b < 256 → ((nI q) ^^^ (jshr (sb_b b) 4)) &&& 15 = nI (q ^^^ (b / 16)) := by
  have h : (List.range 16).all (fun q => (List.range 256).all (fun b => decide (((nI q) ^^^ (jshr (sb_b b) 4)) &&& 15 = nI (q ^^^ (b / 16))))) = true := by decide +kernel
  intro q hq b hb
  exact of_decide_eq_true (List.all_eq_true.mp (List.all_eq_true.mp h q (List.mem_range.mpr hq)) b (List.mem_range.mpr hb))
theorem nib_lo : ∀ q, q < 16 → ∀ b, b < 256 → ((nI q) ^^^ (sb_b b)) &&& 15 = nI (q ^^^ (b % 16)) := by
  have h : (List.range 16).all (fun q => (List.range 256).all (fun b => decide (((nI q) ^^^ (sb_b b)) &&& 15 = nI (q ^^^ (b % 16))))) = true := by decide +kernel
  intro q hq b hb
  exact of_decide_eq_true (List.all_eq_true.mp (List.all_eq_true.mp h q (List.mem_range.mpr hq)) b (List.mem_range.mpr hb))
theorem nib_up {c : Nat} (hc : c < 65536) : (jshl (nI c) 4) &&& 65535 = nI (16 * (c % 4096)) := by
  rw [show jshl (nI c) 4 = nI (c * 2 ^ 4) from pk_shlN _ 4 (by decide) (by omega), pk_andN (by omega) 16 (by decide)]
  congr 1
  omega
theorem xor16 {a b : Nat} (ha : a < 16) (hb : b < 16) : a ^^^ b < 16 := Nat.xor_lt_two_pow (n := 4) ha hb
theorem crc_snoc (bs : List Nat) (b : Nat) : crc (bs ++ [b]) = cby (crc bs) b := by
  unfold crc
  rw [List.foldl_append]
  rfl
theorem seg_snoc {bs : List Nat} {s i : Nat} (hs : s ≤ i) (hi : i < bs.length) : (bs.take (i + 1)).drop s = (bs.take i).drop s ++ [bs.getD i 0] := by
  rw [List.take_add_one, List.drop_append_of_le_length (by rw [List.length_take]; omega), List.getElem?_eq_getElem hi, List.getD_eq_getElem?_getD, List.getElem?_eq_getElem hi]
  rfl
theorem checkOf_ok {μ : Mem} {a s e : Nat} {bs : List Nat} (hT : Tb μ) (h : Byt μ a bs) (hs : s ≤ e) (hsl : s ≤ bs.length) (he : e < 70000) : f78 a (nI s) (nI e) μ = some (μ, nI (crc ((bs.take e).drop s))) := by
  have hlen := h.len
  have key : wp (f78 a (nI s) (nI e) μ) (fun r => r = (μ, nI (crc ((bs.take e).drop s)))) := by
    unfold f78
    refine wp_nm (fun v hv => ?_)
    have hv : v = nI s := by
      rw [hv]
      show (if nI s < 0 then 0 else nI s) = nI s
      rw [if_neg (nI_pos (by omega))]
    subst hv
    unfold l78_10
    refine wp_loop (I := fun i x => x.1 = nI e ∧ x.2.1 = nI (crc ((bs.take (s + i)).drop s)) ∧ x.2.2.1 = nI (s + i) ∧ x.2.2.2 = μ) (min e bs.length - s) (fun self i x hi hx hk => ?_) (fun self x hx => ?_) gF 0 _ (Nat.zero_le _) (gF_pos (by omega)) ⟨rfl, by rw [Nat.add_zero, List.drop_eq_nil_of_le (by rw [List.length_take]; omega)]; rfl, rfl, rfl⟩
    · obtain ⟨x1, x2, x3, m⟩ := x
      obtain ⟨rfl, rfl, rfl, rfl⟩ := hx
      dsimp only at hk ⊢
      have hil : s + i < bs.length := by omega
      have hgb := h.get (s + i)
      have hcl := crc_lt ((bs.take (s + i)).drop s)
      unfold b78_10
      refine wp_f (fun q => absurd ((nI_leI (by omega) (by omega)).mp q) (by omega)) ?_
      rw [h.1]
      refine wp_f (fun q => absurd ((nI_leI (by omega) (by omega)).mp q) (by omega)) ?_
      refine wp_bind (wp_ldN (Nat.lt_of_lt_of_le hil h.2.1) (gln_le _)) (fun y hy => ?_)
      rw [h.2.2.1 _ hil] at hy
      subst hy
      generalize hce : crc ((bs.take (s + i)).drop s) = c at hcl hk ⊢
      rw [show jshr (nI c) 12 = nI (c / 2 ^ 12) from pk_shrN (by omega) 12 12 (by decide), nib_hi _ (by omega) _ hgb]
      refine wp_bind (wp_ldN (a := 100000) (show _ < 16 from xor16 (by omega) (by omega)) (by decide)) (fun y hy => ?_)
      rw [hT] at hy
      subst hy
      refine wp_nm (fun y hy => ?_)
      rw [nib_up hcl, show c / 2 ^ 12 = c / 4096 from rfl, ← cnb_eq hcl (by omega)] at hy
      subst hy
      have hcl2 : cnb c (bs.getD (s + i) 0 / 16) < 65536 := cnb_lt
      rw [show jshr (nI (cnb c (bs.getD (s + i) 0 / 16))) 12 = nI (cnb c (bs.getD (s + i) 0 / 16) / 2 ^ 12) from pk_shrN (by omega) 12 12 (by decide), nib_lo _ (by omega) _ hgb]
      refine wp_bind (wp_ldN (a := 100000) (show _ < 16 from xor16 (by omega) (by omega)) (by decide)) (fun y hy => ?_)
      rw [hT] at hy
      subst hy
      refine wp_nm (fun y hy => ?_)
      rw [nib_up hcl2, show cnb c (bs.getD (s + i) 0 / 16) / 2 ^ 12 = cnb c (bs.getD (s + i) 0 / 16) / 4096 from rfl, ← cnb_eq hcl2 (by omega)] at hy
      subst hy
      refine wp_nm (fun z hz => ?_)
      rw [nI_1] at hz
      subst hz
      refine hk _ ⟨rfl, ?_, rfl, rfl⟩
      rw [← Nat.add_assoc, seg_snoc (Nat.le_add_right s i) hil, crc_snoc, hce]
      rfl
    · obtain ⟨x1, x2, x3, m⟩ := x
      obtain ⟨rfl, rfl, rfl, rfl⟩ := hx
      dsimp only
      unfold b78_10
      refine wp_if (fun q => wp_some ?_) (fun q => ?_)
      · have q2 := (nI_leI (by omega) (by omega)).mp q
        rw [show s + (min e bs.length - s) = e by omega]
      · have q2 : ¬ e ≤ s + (min e bs.length - s) := fun z => q ((nI_leI (by omega) (by omega)).mpr z)
        rw [h.1]
        refine wp_t ((nI_leI (by omega) (by omega)).mpr (by omega)) (wp_some ?_)
        rw [List.take_of_length_le (show bs.length ≤ s + (min e bs.length - s) by omega), List.take_of_length_le (show bs.length ≤ e by omega)]
  obtain ⟨r, h1, h2⟩ := key
  rw [h1, h2]

/-! the reference: bit by bit -/
def cbt (c v : Nat) : Nat → Nat
  | 0 => c
  | i + 1 => cst (cbt c v i) (v / 2 ^ (7 - i) % 2)
theorem cbt_8 (c v : Nat) : cbt c v 8 = cby c v := by
  simp only [cbt, cby, cnb]
  have e1 : v / 16 / 8 % 2 = v / 2 ^ 7 % 2 := by omega
  have e2 : v / 16 / 4 % 2 = v / 2 ^ 6 % 2 := by omega
  have e3 : v / 16 / 2 % 2 = v / 2 ^ 5 % 2 := by omega
  have e4 : v / 16 % 2 = v / 2 ^ 4 % 2 := by omega
  have e5 : v % 16 / 8 % 2 = v / 2 ^ 3 % 2 := by omega
  have e6 : v % 16 / 4 % 2 = v / 2 ^ 2 % 2 := by omega
  have e7 : v % 16 / 2 % 2 = v / 2 ^ 1 % 2 := by omega
  have e8 : v % 16 % 2 = v / 2 ^ 0 % 2 := by omega
  rw [e1, e2, e3, e4, e5, e6, e7, e8]
theorem cbt_lt {c v : Nat} (hc : c < 65536) : ∀ i, cbt c v i < 65536
  | 0 => hc
  | _ + 1 => cst_lt
/-- a piece of a row of ints holds the bytes bs -/
def Seg (μ : Mem) (c from_ : Nat) (bs : List Nat) : Prop := (∀ i, i < bs.length → μ.1 c (from_ + i) = nI (bs.getD i 0)) ∧ ∀ b, b ∈ bs → b < 256
theorem Seg.get {μ : Mem} {c k : Nat} {bs : List Nat} (h : Seg μ c k bs) (i : Nat) : bs.getD i 0 < 256 := by
  by_cases hk : i < bs.length
  · rw [List.getD_eq_getElem?_getD, List.getElem?_eq_getElem hk]
    exact h.2 _ (List.getElem_mem hk)
  · rw [List.getD_eq_getElem?_getD, List.getElem?_eq_none_iff.mpr (by omega)]
    decide
theorem bit_of {v i : Nat} (hv : v < 2 ^ 31) (hi : i < 32) : (jshr (nI v) (nI i)) &&& 1 = nI (v / 2 ^ i % 2) := by
  have hs : ((nI i &&& 31).toBitVec.smod 32).toNat = i := s_l i hi
  rw [show jshr (nI v) (nI i) = nI (v / 2 ^ i) from pk_shrN hv _ i hs, pk_andN (Nat.lt_of_le_of_lt (Nat.div_le_self _ _) (by omega)) 1 (by decide)]
theorem cdown : ∀ j, j < 8 → nI (7 - j) + (-1) = nI 7 - nI (j + 1) := by decide
theorem mcheck_ok {μ : Mem} {p k : Nat} {bs : List Nat} (h : Seg μ p k bs) (hl : k + bs.length ≤ gln p) (hn : bs.length < 70000) : f245 p (nI k) (nI bs.length) μ = some (μ, nI (crc bs)) := by
  have hg := gln_le p
  have key : wp (f245 p (nI k) (nI bs.length) μ) (fun r => r = (μ, nI (crc bs))) := by
    unfold f245 l245_6
    refine wp_loop (I := fun i x => x.1 = nI k ∧ x.2.1 = nI bs.length ∧ x.2.2.1 = nI (crc (bs.take i)) ∧ x.2.2.2.1 = nI i ∧ x.2.2.2.2 = μ) bs.length (fun self i x hi hx hk => ?_) (fun self x hx => ?_) gF 0 _ (Nat.zero_le _) (gF_pos (by omega)) ⟨rfl, rfl, rfl, rfl, rfl⟩
    · obtain ⟨x1, x2, x3, x4, m⟩ := x
      obtain ⟨rfl, rfl, rfl, rfl, rfl⟩ := hx
      dsimp only at hk ⊢
      unfold b245_6
      refine wp_f (fun q => absurd ((nI_leI (by omega) (by omega)).mp q) (by omega)) ?_
      have hgb := h.get i
      have hcl := crc_lt (bs.take i)
      have hsn : crc (bs.take (i + 1)) = cby (crc (bs.take i)) (bs.getD i 0) := by
        have := seg_snoc (s := 0) (Nat.zero_le i) hi
        rw [List.drop_zero, List.drop_zero] at this
        rw [this, crc_snoc]
      unfold l245_16
      refine wp_loop (I := fun j x => x.1 = nI k ∧ x.2.1 = nI bs.length ∧ x.2.2.1 = nI (cbt (crc (bs.take i)) (bs.getD i 0) j) ∧ x.2.2.2.1 = nI i ∧ x.2.2.2.2.1 = nI 7 - nI j ∧ x.2.2.2.2.2 = m) 8 (fun self2 j x hj hx hk2 => ?_) (fun self2 x hx => ?_) gF 0 _ (Nat.zero_le _) (gF_pos (by omega)) ⟨rfl, rfl, rfl, rfl, rfl, rfl⟩
      · obtain ⟨y1, y2, y3, y4, y5, m2⟩ := x
        obtain ⟨rfl, rfl, rfl, rfl, rfl, rfl⟩ := hx
        dsimp only at hk2 ⊢
        rw [pk_sub (show j ≤ 7 by omega)]
        unfold b245_16
        refine wp_f (nI_pos (by omega)) ?_
        rw [nI_add]
        refine wp_bind (wp_ldN (by omega) hg) (fun y hy => ?_)
        rw [h.1 i hi] at hy
        subst hy
        have hcb := cbt_lt (v := bs.getD i 0) hcl j
        generalize hce : cbt (crc (bs.take i)) (bs.getD i 0) j = c at hcb hk2 ⊢
        rw [show (jshr (nI c) 15) &&& 1 = nI (c / 2 ^ 15 % 2) from bit_of (by omega) (show 15 < 32 by decide), bit_of (by omega) (show 7 - j < 32 by omega)]
        have fin : ∀ t : Nat, t < 65536 → (if c / 32768 % 2 = bs.getD i 0 / 2 ^ (7 - j) % 2 then 0 else 4129) = t → wp (c245_63 p (fun v1 v2 v3 v4 μ => self (v1, v2, v3, v4, μ)) (fun v1 v2 v3 v4 v5 μ => self2 (v1, v2, v3, v4, v5, μ)) (nI k) (nI bs.length) (nI i) (nI (7 - j)) (2 * nI c) (nI t) m2) (fun r => r = (m2, nI (crc bs))) := by
          intro t ht hte
          unfold c245_63
          refine wp_nm (fun y hy => ?_)
          rw [lit 2, pk_mul, nx_xor, pk_andN (Nat.lt_of_lt_of_le (Nat.xor_lt_two_pow (n := 17) (by omega) (by omega)) (by decide)) 16 (by decide)] at hy
          have hm : (2 * c ^^^ t) % 2 ^ 16 = cst c (bs.getD i 0 / 2 ^ (7 - j) % 2) := by
            rw [Nat.xor_mod_two_pow, Nat.mod_eq_of_lt (show t < 2 ^ 16 from ht), ← hte]
            rfl
          rw [hm] at hy
          subst hy
          refine wp_nm (fun z hz => ?_)
          refine hk2 _ ⟨rfl, rfl, ?_, rfl, ?_, rfl⟩
          · rw [cbt, hce]
          · rw [hz]
            exact cdown j hj
        refine wp_if (fun q => ?_) (fun q => ?_)
        · have q2 := (nI_eq (by omega) (by omega)).mp q
          unfold c245_46
          refine wp_t rfl ?_
          exact fin 0 (by decide) (if_pos q2)
        · have q2 : ¬ c / 2 ^ 15 % 2 = bs.getD i 0 / 2 ^ (7 - j) % 2 := fun z => q (by rw [z])
          unfold c245_46
          refine wp_f (by decide) ?_
          exact fin 4129 (by decide) (if_neg q2)
      · obtain ⟨y1, y2, y3, y4, y5, m2⟩ := x
        obtain ⟨rfl, rfl, rfl, rfl, rfl, rfl⟩ := hx
        dsimp only
        unfold b245_16
        refine wp_t (by decide) ?_
        refine wp_nm (fun z hz => ?_)
        rw [nI_1] at hz
        subst hz
        rw [cbt_8]
        exact hk _ ⟨rfl, rfl, by rw [hsn], rfl, rfl⟩
    · obtain ⟨x1, x2, x3, x4, m⟩ := x
      obtain ⟨rfl, rfl, rfl, rfl, rfl⟩ := hx
      dsimp only
      unfold b245_6
      refine wp_t (nI_le (Nat.le_refl _) (by omega)) (wp_some ?_)
      rw [List.take_of_length_le (Nat.le_refl _)]
  obtain ⟨r, h1, h2⟩ := key
  rw [h1, h2]
