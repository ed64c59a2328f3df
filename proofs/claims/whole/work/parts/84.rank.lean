/-! ===== the schedule: entries in the order in which they go ===== -/
def cn (f : Nat → Bool) : Nat → Nat
  | 0 => 0
  | n + 1 => cn f n + b2n (f n)
theorem b2n_le {a b : Bool} (h : a = true → b = true) : b2n a ≤ b2n b := by
  cases a
  · rw [b2n_f]; exact Nat.zero_le _
  · rw [h rfl]; exact Nat.le_refl _
theorem cn_le {f g : Nat → Bool} : ∀ n, (∀ k, k < n → f k = true → g k = true) → cn f n ≤ cn g n
  | 0, _ => Nat.le_refl _
  | n + 1, h => Nat.add_le_add (cn_le n (fun k hk => h k (by omega))) (b2n_le (h n (by omega)))
theorem cn_lt {f g : Nat → Bool} {k0 : Nat} (hf : f k0 = false) (hg : g k0 = true) : ∀ n, k0 < n → (∀ k, k < n → f k = true → g k = true) → cn f n < cn g n
  | 0, hk, _ => absurd hk (Nat.not_lt_zero _)
  | n + 1, hk, h => by
    rw [cn, cn]
    by_cases e : k0 = n
    · subst e
      have := cn_le (f := f) (g := g) k0 (fun k hk => h k (by omega))
      rw [hf, hg, b2n_f, b2n_t]
      omega
    · have := cn_lt hf hg n (by omega) (fun k hk => h k (by omega))
      have := b2n_le (h n (by omega))
      omega
theorem cn_cg {f g : Nat → Bool} : ∀ n, (∀ k, k < n → f k = g k) → cn f n = cn g n
  | 0, _ => rfl
  | n + 1, h => by rw [cn, cn, cn_cg n (fun k hk => h k (by omega)), h n (by omega)]
theorem cn_t : ∀ n, cn (fun _ => true) n = n
  | 0 => rfl
  | n + 1 => by rw [cn, cn_t n, b2n_t]
theorem cn_n (f : Nat → Bool) (n : Nat) : cn f n ≤ n := by
  have := cn_le (f := f) (g := fun _ => true) n (fun _ _ _ => rfl)
  rw [cn_t] at this
  exact this
theorem cn_skip {f : Nat → Bool} {i : Nat} : ∀ n, i ≤ n → cn (fun k => f (if k < i then k else k + 1)) n + b2n (f i) = cn f (n + 1)
  | 0, h => by
    have : i = 0 := by omega
    subst this
    rfl
  | n + 1, h => by
    by_cases e : i = n + 1
    · subst e
      show cn (fun k => f (if k < n + 1 then k else k + 1)) (n + 1) + b2n (f (n + 1)) = cn f (n + 1) + b2n (f (n + 1))
      rw [cn_cg (f := fun k => f (if k < n + 1 then k else k + 1)) (g := f) (n + 1) (fun k hk => by rw [if_pos hk])]
    · have := cn_skip (f := f) (i := i) n (by omega)
      rw [cn, cn, if_neg (by omega)]
      omega
def tm (es : List Pk) (k : Nat) : Nat := nt (pk es k).2.1
def ah (es : List Pk) (i k : Nat) : Bool := decide (tm es k < tm es i ∨ tm es k = tm es i ∧ k < i)
def rk (es : List Pk) (i : Nat) : Nat := cn (ah es i) es.length
def fnt (es : List Pk) (n : Nat) : Option Nat := (List.range es.length).find? (fun i => decide (rk es i = n))
def nthI (es : List Pk) (n : Nat) : Nat := (fnt es n).getD 0
theorem ah_iff {es : List Pk} {i k : Nat} : ah es i k = true ↔ tm es k < tm es i ∨ tm es k = tm es i ∧ k < i := by
  unfold ah
  rw [decide_eq_true_eq]
theorem ah_no {es : List Pk} {i : Nat} : ah es i i = false := by
  unfold ah
  rw [decide_eq_false (by omega)]
theorem rk_mono {es : List Pk} {i j : Nat} (hi : i < es.length) (h : ah es j i = true) : rk es i < rk es j := by
  refine cn_lt (k0 := i) ah_no h es.length hi (fun k _ hk => ?_)
  rw [ah_iff] at hk h ⊢
  omega
theorem rk_iff {es : List Pk} {i j : Nat} (hi : i < es.length) (hj : j < es.length) : ah es j i = true ↔ rk es i < rk es j := by
  refine ⟨rk_mono hi, fun h => ?_⟩
  rw [ah_iff]
  by_cases e : i = j
  · subst e; omega
  · by_cases z : ah es i j = true
    · have := rk_mono hj z
      omega
    · rw [ah_iff] at z
      omega
theorem rk_inj {es : List Pk} {i j : Nat} (hi : i < es.length) (hj : j < es.length) (h : rk es i = rk es j) : i = j := by
  have h1 := rk_iff hi hj
  have h2 := rk_iff hj hi
  rw [ah_iff] at h1 h2
  omega
theorem rk_lt {es : List Pk} {i : Nat} (hi : i < es.length) : rk es i < es.length := by
  have := cn_lt (f := ah es i) (g := fun _ => true) (k0 := i) ah_no rfl es.length hi (fun _ _ _ => rfl)
  rw [cn_t] at this
  exact this
theorem rk_sur {es : List Pk} {n : Nat} (hn : n < es.length) : ∃ i, i < es.length ∧ rk es i = n := by
  by_cases e : ∃ i, i < es.length ∧ rk es i = n
  · exact e
  · exfalso
    have := pig (es.length - 1) es.length (fun i => if rk es i < n then rk es i else rk es i - 1) (fun i hi => by
      try dsimp only
      have := rk_lt hi
      have : rk es i ≠ n := fun z => e ⟨i, hi, z⟩
      split <;> omega) (fun i j hi hj hf => by
      try dsimp only at hf
      have n1 : rk es i ≠ n := fun z => e ⟨i, hi, z⟩
      have n2 : rk es j ≠ n := fun z => e ⟨j, hj, z⟩
      refine rk_inj hi hj ?_
      split at hf <;> split at hf <;> omega)
    omega
theorem fnt_some {es : List Pk} {n i : Nat} (h : fnt es n = some i) : i < es.length ∧ rk es i = n := by
  unfold fnt at h
  have h4p := List.find?_some h
  exact ⟨List.mem_range.mp (List.mem_of_find?_eq_some h), of_decide_eq_true h4p⟩
theorem nth_lt {es : List Pk} {n : Nat} (hn : n < es.length) : nthI es n < es.length ∧ rk es (nthI es n) = n := by
  unfold nthI
  cases h : fnt es n with
  | none =>
    obtain ⟨i, hi, hr⟩ := rk_sur hn
    have := List.find?_eq_none.mp h i (List.mem_range.mpr hi)
    exact absurd (decide_eq_true hr) this
  | some i => exact fnt_some h
theorem nth_of {es : List Pk} {n i : Nat} (hi : i < es.length) (h : rk es i = n) : nthI es n = i := by
  have hn : n < es.length := by rw [← h]; exact rk_lt hi
  obtain ⟨h1, h2⟩ := nth_lt hn
  exact rk_inj h1 hi (h2.trans h.symm)
theorem nth_inj {es : List Pk} {n m : Nat} (hn : n < es.length) (hm : m < es.length) (h : nthI es n = nthI es m) : n = m := by
  rw [← (nth_lt hn).2, ← (nth_lt hm).2, h]
/-! one goes out -/
theorem tm_era {es : List Pk} {i0 k : Nat} : tm (es.eraseIdx i0) k = tm es (if k < i0 then k else k + 1) := by
  unfold tm
  rw [pk_era]
  split <;> rfl
theorem ah_era {es : List Pk} {i0 i k : Nat} : ah (es.eraseIdx i0) i k = ah es (if i < i0 then i else i + 1) (if k < i0 then k else k + 1) := by
  unfold ah
  rw [tm_era, tm_era]
  congr 1
  apply propext
  split <;> split <;> omega
theorem rk_era {es : List Pk} {i0 i : Nat} (h0 : i0 < es.length) (hi : i + 1 < es.length) : rk (es.eraseIdx i0) i = rk es (if i < i0 then i else i + 1) - b2n (decide (rk es i0 < rk es (if i < i0 then i else i + 1))) := by
  have hl : (es.eraseIdx i0).length = es.length - 1 := List.length_eraseIdx_of_lt h0
  have hj : (if i < i0 then i else i + 1) < es.length := by split <;> omega
  have key := cn_skip (f := ah es (if i < i0 then i else i + 1)) (i := i0) (es.length - 1) (by omega)
  rw [show es.length - 1 + 1 = es.length by omega] at key
  have e1 : rk (es.eraseIdx i0) i = cn (fun k => ah es (if i < i0 then i else i + 1) (if k < i0 then k else k + 1)) (es.length - 1) := by
    unfold rk
    rw [hl]
    exact cn_cg _ (fun k _ => ah_era)
  have e2 : ah es (if i < i0 then i else i + 1) i0 = decide (rk es i0 < rk es (if i < i0 then i else i + 1)) := by
    have := rk_iff h0 hj
    by_cases z : rk es i0 < rk es (if i < i0 then i else i + 1)
    · rw [decide_eq_true z, this.mpr z]
    · rw [decide_eq_false z]
      cases hq : ah es (if i < i0 then i else i + 1) i0
      · rfl
      · exact absurd (this.mp hq) z
  rw [e1, ← e2]
  show _ = rk es (if i < i0 then i else i + 1) - _
  unfold rk
  omega
theorem nth_era {es : List Pk} {n j : Nat} (hn : n < es.length) (hj : j + 1 < es.length) : pk (es.eraseIdx (nthI es n)) (nthI (es.eraseIdx (nthI es n)) j) = pk es (nthI es (if j < n then j else j + 1)) := by
  obtain ⟨h1, h2⟩ := nth_lt hn
  have hJ : (if j < n then j else j + 1) < es.length := by split <;> omega
  obtain ⟨h3, h4⟩ := nth_lt hJ
  have hne : nthI es (if j < n then j else j + 1) ≠ nthI es n := fun z => by
    have := nth_inj hJ hn z
    split at this <;> omega
  generalize nthI es n = i0 at *
  generalize nthI es (if j < n then j else j + 1) = i at *
  have hl : (es.eraseIdx i0).length = es.length - 1 := List.length_eraseIdx_of_lt h1
  have key : ∀ i', i' + 1 < es.length → (if i' < i0 then i' else i' + 1) = i → nthI (es.eraseIdx i0) j = i' := by
    intro i' hi' he
    refine nth_of (by omega) ?_
    rw [rk_era h1 hi', he, h4, h2]
    by_cases z : j < n
    · rw [if_pos z, decide_eq_false (by omega), b2n_f]
      omega
    · rw [if_neg z, decide_eq_true (by omega), b2n_t]
      omega
  by_cases e : i < i0
  · rw [key i (by omega) (by rw [if_pos e]), pk_era, if_pos e]
  · rw [key (i - 1) (by omega) (by rw [if_neg (by omega)]; omega), pk_era, if_neg (by omega), show i - 1 + 1 = i by omega]
/-! one comes -/
def ps (es : List Pk) (t : Nat) : Nat := cn (fun k => decide (tm es k ≤ t)) es.length
theorem ps_iff {es : List Pk} {t i : Nat} (hi : i < es.length) : tm es i ≤ t ↔ rk es i < ps es t := by
  constructor
  · intro h
    refine cn_lt (k0 := i) ah_no (decide_eq_true h) es.length hi (fun k _ hk => ?_)
    rw [ah_iff] at hk
    exact decide_eq_true (by omega)
  · intro h
    by_cases z : tm es i ≤ t
    · exact z
    · have : ps es t ≤ rk es i := cn_le es.length (fun k _ hk => by
        rw [ah_iff]
        have := of_decide_eq_true hk
        omega)
      omega
theorem tm_app {es : List Pk} {p : Pk} {k : Nat} (hk : k < es.length) : tm (es ++ [p]) k = tm es k := by
  unfold tm
  rw [pk_app, if_pos hk]
theorem tm_apl {es : List Pk} {p : Pk} : tm (es ++ [p]) es.length = nt p.2.1 := by
  unfold tm
  rw [pk_app, if_neg (by omega), if_pos rfl]
theorem rk_app {es : List Pk} {p : Pk} {i : Nat} (hi : i < es.length) : rk (es ++ [p]) i = rk es i + b2n (decide (nt p.2.1 < tm es i)) := by
  unfold rk
  rw [List.length_append, List.length_singleton, cn]
  congr 1
  · refine cn_cg _ (fun k hk => ?_)
    unfold ah
    rw [tm_app hk, tm_app hi]
  · unfold ah
    rw [tm_apl, tm_app hi]
    congr 2
    apply propext
    omega
theorem rk_apl {es : List Pk} {p : Pk} : rk (es ++ [p]) es.length = ps es (nt p.2.1) := by
  unfold rk ps
  rw [List.length_append, List.length_singleton, cn, ah_no, b2n_f, Nat.add_zero]
  refine cn_cg _ (fun k hk => ?_)
  unfold ah
  rw [tm_app hk, tm_apl]
  congr 1
  apply propext
  omega
theorem nth_app {es : List Pk} {p : Pk} {j : Nat} (hj : j ≤ es.length) : pk (es ++ [p]) (nthI (es ++ [p]) j) = if j < ps es (nt p.2.1) then pk es (nthI es j) else if j = ps es (nt p.2.1) then p else pk es (nthI es (j - 1)) := by
  have hps : ps es (nt p.2.1) ≤ es.length := cn_n _ _
  have hl : (es ++ [p]).length = es.length + 1 := by rw [List.length_append]; rfl
  by_cases e1 : j < ps es (nt p.2.1)
  · rw [if_pos e1]
    obtain ⟨h1, h2⟩ := nth_lt (es := es) (n := j) (by omega)
    have h3 := (ps_iff (t := nt p.2.1) h1).mpr (by omega)
    rw [nth_of (i := nthI es j) (by omega) (by rw [rk_app h1, h2, decide_eq_false (by omega), b2n_f, Nat.add_zero]), pk_app, if_pos h1]
  · rw [if_neg e1]
    by_cases e2 : j = ps es (nt p.2.1)
    · rw [if_pos e2, nth_of (i := es.length) (by omega) (by rw [rk_apl, e2]), pk_app, if_neg (by omega), if_pos rfl]
    · rw [if_neg e2]
      obtain ⟨h1, h2⟩ := nth_lt (es := es) (n := j - 1) (by omega)
      have h3 : ¬ tm es (nthI es (j - 1)) ≤ nt p.2.1 := fun z => by
        have := (ps_iff h1).mp z
        omega
      rw [nth_of (i := nthI es (j - 1)) (by omega) (by rw [rk_app h1, h2, decide_eq_true (by omega), b2n_t]; omega), pk_app, if_pos h1]
theorem nth_cg {es fs : List Pk} (hl : es.length = fs.length) (h : ∀ i k, i < es.length → k < es.length → (ah es i k = ah fs i k)) {n : Nat} (hn : n < es.length) : nthI es n = nthI fs n := by
  obtain ⟨h1, h2⟩ := nth_lt hn
  have e : rk fs (nthI es n) = rk es (nthI es n) := by
    unfold rk
    rw [← hl]
    exact (cn_cg _ (fun k hk => h _ k h1 hk)).symm
  exact (nth_of (by omega) (e.trans h2)).symm
