/-! ===== carry ===== -/
theorem EyC.dn {ns : List Nat} {μ m : Mem} {t : Nat} {v : Ey} {p : L1} (h : EyC ns μ t v) (hl : LinC m 7 64000 p.1 p.2) (hf : Fr (FL 7) μ m) : EyC ns m t (s1E p v) := by
  obtain ⟨hH, hN, c6, c7, c11, c12, c8, c10, ⟨L, lL, c9, eP⟩, cB⟩ := h
  have hw : WC m t (s1 p v.1.1) := ⟨hH.1.1.fr hf (fun k => by omega), hH.1.2.1.fr hf (fun k _ _ => by omega), hH.1.2.2.1.fr hf (fun c k _ _ => by omega), hH.1.2.2.2.1.fr hf (fun c k _ _ => by omega), hH.1.2.2.2.2.1.fr hf (by omega) (fun c k _ _ => by omega), hH.1.2.2.2.2.2.up (l := 1) (by omega) hl hf⟩
  exact ⟨⟨hw, hH.2.1.fr hf (fun k => by omega), hH.2.2.1.fr hf (fun c k _ => by omega), hH.2.2.2.1.fr hf (fun c k _ => by omega), hH.2.2.2.2.fr hf (fun k _ => by omega)⟩, ⟨fun i hi => by rw [hf.1 _ _ (by omega)]; exact hN.1 i hi, hN.2⟩, by rw [hf.1 _ _ (by omega)]; exact c6, by rw [hf.1 _ _ (by omega)]; exact c7, by rw [hf.1 _ _ (by omega)]; exact c11, by rw [hf.1 _ _ (by omega)]; exact c12, by rw [hf.1 _ _ (by omega)]; exact c8, by rw [hf.1 _ _ (by omega)]; exact c10, ⟨L, lL, by rw [hf.1 _ _ (by omega)]; exact c9, eP⟩, fun z => (cB z).fr hf (by omega) (fun k => by omega)⟩
theorem EyM.dn {ns : List Nat} {μ m : Mem} {t : Nat} {v : Ey} {p : L1} (h : EyM ns μ t v) (hI : EyI v) (hl : LinM m 1 p.1 p.2) (hf : Fr (fun c k => c = 137 ∨ FM 1 c k) μ m) : EyM ns m t (s1E p v) := by
  obtain ⟨hH, hN, c6, c7, c11, c12, c8, cO, cB⟩ := h
  have hw : WM m t (s1 p v.1.1) := by
    refine ⟨hH.1.1.fr hf (fun k _ _ => by omega), hH.1.2.1.fr hf (by omega) (fun c k _ => by omega), hH.1.2.2.1.fr hf (by omega) (fun c k _ => by omega), hH.1.2.2.2.1.fr hf (by omega) (fun c k _ _ => by omega), fun l hl2 => ?_⟩
    show LinM m l (upL v.1.1.2.2.2.2.1 1 p.1 l) (upL v.1.1.2.2.2.2.2 1 p.2 l)
    by_cases e : l = 1
    · rw [e, upL_s, upL_s]; exact hl
    · rw [upL_o e, upL_o e]; exact (hH.1.2.2.2.2 l hl2).fr hf (by omega) (fun k => by omega)
  exact ⟨⟨hw, hH.2.1.fr hI.1.2.1 hf (fun c k _ => by omega), hH.2.2.1.fr hf (fun c k _ => by omega), hH.2.2.2.fr hf (fun k _ => by omega)⟩, ⟨fun i hi => by rw [hf.1 _ _ (by omega)]; exact hN.1 i hi, hN.2⟩, by rw [hf.1 _ _ (by omega)]; exact c6, by rw [hf.1 _ _ (by omega)]; exact c7, by rw [hf.1 _ _ (by omega)]; exact c11, by rw [hf.1 _ _ (by omega)]; exact c12, by rw [hf.1 _ _ (by omega)]; exact c8, (fun z => ⟨by rw [hf.1 _ _ (by omega)]; exact (cO z).1, by rw [hf.1 _ _ (by omega)]; exact (cO z).2⟩), fun z => ⟨by rw [hf.1 _ _ (by omega)]; exact (cB z).1, (cB z).2.1.fr7 hf (fun k => by omega), fun y => by rw [hf.1 _ _ (by omega)]; exact (cB z).2.2 y⟩⟩
abbrev FZC : Nat → Nat → Prop := fun a k => FYC a k ∨ a = 7 ∨ a = 8
theorem car1_C {ns : List Nat} {μ : Mem} {t k : Nat} {v : Ey} (h : EyC ns μ t v) (hI : EyI v) (hnl : ns.length = 64) (hns : ∀ b, b ∈ ns → b < 256) (hk : k ≤ v.1.1.2.2.2.2.1 1) : wp (l207_33 gF (nI 1, 7, nI k, nI 0, μ)) (fun r => r.2 = nI k ∧ EyC ns r.1 t (s1E (v.1.1.2.2.2.2.1 1 - k, fun j => v.1.1.2.2.2.2.2 1 (j + k)) (vBs t ns (v.1.1.2.2.2.2.2 1) k v)) ∧ Fr FZC μ r.1) := by
  have hL : LinC μ 7 64000 (v.1.1.2.2.2.2.1 1) (v.1.1.2.2.2.2.2 1) := h.1.1.2.2.2.2.2 1 (by omega)
  have n64 := hL.2.2.1
  unfold l207_33
  refine wp_for (fun i m => (nI 1, 7, nI k, nI i, m)) (fun i m => EyC ns m t (vBs t ns (v.1.1.2.2.2.2.2 1) i v) ∧ Fr FYC μ m) k (by omega) μ _ rfl ⟨h, Fr.rf⟩ (fun self i m hi ⟨x1, x2⟩ hk2 => ?_) (fun self m ⟨x1, x2⟩ => ?_)
  · have hL2 := hL.fr x2 (fun k => by omega) (fun k => by omega)
    unfold b207_33 c207_87
    dsimp only [nm]
    rw [if_neg (fun z => by have := (nI_leI (by omega) (by omega)).mp z; omega), lat_C hL2 (by omega), Option.bind_some, if_neg (show ¬ nI 1 = 0 by decide), i_1, nI_add]
    exact gear_C x1 (vBs_I hI hns i).1 (b2n_lt _) hnl (fun m => self (nI 1, 7, nI k, nI (i + 1), m)) _ (fun m2 a1 a2 => hk2 m2 ⟨a1, x2.tr' a2⟩)
  · have hL2 := hL.fr x2 (fun k => by omega) (fun k => by omega)
    unfold b207_33
    dsimp only
    rw [if_pos ((nI_leI (by omega) (by omega)).mpr (Nat.le_refl _))]
    refine wp_bind (dropFirst_C hL2 hk) (fun m2 ⟨a1, a2⟩ => wp_some ⟨rfl, x1.dn (p := (_, _)) a1 a2, x2.tr a2 (fun _ _ q => Or.inl q) (by intro c k h; omega)⟩)
abbrev FZE : Nat → Nat → Prop := fun a k => FEc a k ∨ a = 5 ∨ a = 6
theorem EC.lo {m m2 : Mem} {e : Ew} {P : Nat → Nat → Prop} (h : EC m e) (ho : Fr P m m2) (h1 : ∀ c k, c = 100000 ∨ c = 100002 ∨ c = 57 ∧ 12 ≤ k ∧ k ≤ 14 ∨ 59 ≤ c ∧ c ≤ 80 ∨ 87 ≤ c ∧ c ≤ 88 ∨ c = 124 ∨ c = 9 ∨ 10 ≤ c ∧ c ≤ 11 ∨ 102 ≤ c ∧ c ≤ 107 → ¬ P c k) : EC m2 e := by
  obtain ⟨e1, e2, e3, e4, ⟨B, b1, b2, b3⟩, e6, e7, e8, e9⟩ := h
  exact ⟨e1.fr ho (fun c k _ => h1 c k (by omega)), by rw [ho.1 _ _ (h1 _ _ (by omega))]; exact e2, by rw [ho.1 _ _ (h1 _ _ (by omega))]; exact e3, by rw [ho.1 _ _ (h1 _ _ (by omega))]; exact e4, ⟨B, b1, by rw [ho.2]; exact b2, b3⟩, by rw [ho.1 _ _ (h1 _ _ (by omega))]; exact e6, e7.fr ho (h1 _ _ (by omega)) (fun k => h1 _ _ (by omega)), by rw [ho.1 _ _ (h1 _ _ (by omega))]; exact e8, by rw [ho.1 _ _ (h1 _ _ (by omega))]; exact e9⟩
theorem LinC.lo {μ m : Mem} {a R n : Nat} {g : Nat → Bool} {P : Nat → Nat → Prop} (h : LinC μ a R n g) (ho : FrL P μ m) (h1 : ∀ k, ¬ P a k) (h2 : ∀ k, ¬ P (a + 1) k) : LinC m a R n g := by
  have z := h.fr ho.f h1 h2
  exact z
theorem car0_C {μ : Mem} {k n : Nat} {g : Nat → Bool} {e : Ew} (h : EC μ e) (hI : EI e) (hL : LinC μ 5 32000 n g) (hk : k ≤ n) : wp (l207_33 gF (nI 0, 5, nI k, nI 0, μ)) (fun r => r.2 = nI k ∧ EC r.1 (eBs g k e) ∧ LinC r.1 5 32000 (n - k) (fun j => g (j + k)) ∧ FrL FZE μ r.1) := by
  have n64 := hL.2.2.1
  unfold l207_33
  refine wp_for (fun i m => (nI 0, 5, nI k, nI i, m)) (fun i m => EC m (eBs g i e) ∧ FrL FEc μ m) k (by omega) μ _ rfl ⟨h, FrL.rf⟩ (fun self i m hi ⟨x1, x2⟩ hk2 => ?_) (fun self m ⟨x1, x2⟩ => ?_)
  · have hL2 := hL.lo x2 (fun k => by omega) (fun k => by omega)
    unfold b207_33 c207_87
    dsimp only [nm]
    rw [if_neg (fun z => by have := (nI_leI (by omega) (by omega)).mp z; omega), lat_C hL2 (by omega), Option.bind_some, if_pos (show nI 0 = 0 by decide), i_1, nI_add]
    exact earS_C x1 (eBs_I hI i) (b2n_lt _) (fun m => self (nI 0, 5, nI k, nI (i + 1), m)) _ (fun m2 a1 a2 => hk2 m2 ⟨a1, x2.tr a2 (fun _ _ q => q) (fun _ _ q => q)⟩)
  · have hL2 := hL.lo x2 (fun k => by omega) (fun k => by omega)
    unfold b207_33
    dsimp only
    rw [if_pos ((nI_leI (by omega) (by omega)).mpr (Nat.le_refl _))]
    refine wp_bind (dropFirst_C hL2 hk) (fun m2 ⟨a1, a2⟩ => wp_some ⟨rfl, x1.lo a2 (fun c k _ => by omega), a1, x2.tr a2.l (fun _ _ q => Or.inl q) (by intro c k h; omega)⟩)
/-! the reference -/
theorem carP_M {μ : Mem} {l k n : Nat} {g : Nat → Bool} {Q : Mem × Int32 → Prop} (hl : l < 2) (hL : LinM μ l n g) (hk : k ≤ n) (hK : ∀ m, LinM m l (n - k) (fun j => g (j + k)) → (∀ i, i < k → m.1 137 i = nI (b2n (g i))) → Fr (fun c k => c = 137 ∨ FM l c k) μ m → wp (l264_113 gF (nI l, nI k, nI 0, m)) Q) : wp (c264_33 (nI l) (nI k) μ) Q := by
  have g1 := gl_137
  have g2 := gl_136
  have hg := glnM hl
  obtain ⟨l1, l2, l3⟩ := hL
  have b2 : ∀ i, nI (b2n (g i)) &&& 1 = nI (b2n (g i)) := by
    intro i
    rw [i_1, an_1, Nat.mod_eq_of_lt (b2n_lt _)]
  unfold c264_33
  rw [row_M hl, Option.bind_some]
  unfold l264_44
  rw [i_0]
  refine wp_for (fun i m => (nI l, nI k, 134 + l, nI i, m)) (fun i m => (∀ j, j < i → m.1 137 j = nI (b2n (g j))) ∧ Fr (fun c _ => c = 137) μ m) k (by omega) μ _ rfl ⟨fun j hj => absurd hj (Nat.not_lt_zero _), Fr.rf⟩ (fun self i m hi ⟨x1, x2⟩ hk2 => ?_) (fun self m ⟨x1, x2⟩ => ?_)
  · unfold b264_44
    dsimp only [nm]
    rw [if_neg (fun z => by have := (nI_leI (by omega) (by omega)).mp z; omega), ldA_N (by omega), Option.bind_some, x2.1 _ _ (by omega), l3 i (by omega), stZ_N (by omega), Option.bind_some, b2, i_1, nI_add]
    refine hk2 _ ⟨fun j hj => ?_, x2.pI rfl⟩
    rw [rdI]
    by_cases e : j = i
    · rw [if_pos ⟨rfl, e⟩, e]
    · rw [if_neg (fun z => e z.2)]; exact x1 j (by omega)
  · unfold b264_44
    rw [if_pos ((nI_leI (by omega) (by omega)).mpr (Nat.le_refl _))]
    unfold l264_71
    refine wp_for (fun i m => (nI l, nI k, 134 + l, nI (k + i), m)) (fun i m2 => (∀ j, j < n → m2.1 (134 + l) j = nI (b2n (if j < i then g (j + k) else g j))) ∧ Fr (fun c _ => c = 134 + l) m m2) (n - k) (by omega) m _ rfl ⟨fun j hj => by rw [if_neg (by omega), x2.1 _ _ (by omega)]; exact l3 j hj, Fr.rf⟩ (fun self2 i m2 hi ⟨y1, y2⟩ hk2 => ?_) (fun self2 m2 ⟨y1, y2⟩ => ?_)
    · unfold b264_71
      dsimp only [nm]
      have e136 : m2.1 136 l = nI n := by rw [y2.1 _ _ (by omega), x2.1 _ _ (by omega)]; exact l1
      have yv := y1 (k + i) (by omega)
      rw [show (if k + i < i then g (k + i + k) else g (k + i)) = g (k + i) by
        by_cases z : k + i < i
        · omega
        · rw [if_neg z]] at yv
      rw [ldA_N (by omega), Option.bind_some, e136, if_neg (fun z => by have := (nI_leI (by omega) (by omega)).mp z; omega), ldA_N (by omega), Option.bind_some, yv, pk_sub (by omega), stZ_N (by omega), Option.bind_some, b2, i_1, nI_add]
      refine hk2 _ ⟨fun j hj => ?_, y2.pI rfl⟩
      rw [rdI]
      by_cases e : j = k + i - k
      · rw [if_pos ⟨rfl, e⟩, if_pos (by omega), show j + k = k + i by omega]
      · rw [if_neg (fun z => e z.2), y1 j hj]
        by_cases e2 : j < i
        · rw [if_pos e2, if_pos (by omega)]
        · rw [if_neg e2, if_neg (by omega)]
    · unfold b264_71
      have e136 : m2.1 136 l = nI n := by rw [y2.1 _ _ (by omega), x2.1 _ _ (by omega)]; exact l1
      rw [ldA_N (by omega), Option.bind_some, e136, if_pos ((nI_leI (by omega) (by omega)).mpr (by omega)), Option.bind_some, pk_sub (by omega), stA_N (by omega), Option.bind_some, i_0]
      refine hK _ ⟨by rw [rdI, if_pos ⟨rfl, rfl⟩], by omega, fun i hi => ?_⟩ (fun i hi => ?_) (((x2.mono (by intro c k h; omega)).tr y2 (fun _ _ q => q) (by intro c k h; omega)).pI (by omega))
      · rw [rdI, if_neg (by omega), y1 i (by omega), if_pos hi]
      · rw [rdI, if_neg (by omega), y2.1 _ _ (by omega)]; exact x1 i hi
theorem ld137 {m : Mem} {i : Nat} {b : Bool} (h : m.1 137 i = nI (b2n b)) (hi : i < 64000) {α : Type} (K : Int32 → Option α) : ((ldA 137 (nI i) m).bind fun x => if x = 0 then K 0 else K 1) = K (nI (b2n b)) := by
  have g := gl_137
  rw [ldA_N (by omega), Option.bind_some, h]
  cases b
  · rw [if_pos (by decide)]; rfl
  · rw [if_neg (by decide)]; rfl
theorem car1_M {ns : List Nat} {μ : Mem} {t k : Nat} {g : Nat → Bool} {v : Ey} (h : EyM ns μ t v) (hI : EyI v) (hnl : ns.length = 64) (hns : ∀ b, b ∈ ns → b < 256) (hg : ∀ i, i < k → μ.1 137 i = nI (b2n (g i))) (hk : k ≤ 64000) (hn : v.1.2.1.2.1 + 52 * 64000 < 2 ^ 29) : wp (l264_113 gF (nI 1, nI k, nI 0, μ)) (fun r => r.2 = nI k ∧ EyM ns r.1 t (vBs t ns g k v) ∧ Fr FYM μ r.1) := by
  unfold l264_113
  refine wp_for (fun i m => (nI 1, nI k, nI i, m)) (fun i m => EyM ns m t (vBs t ns g i v) ∧ Fr FYM μ m) k (by omega) μ _ rfl ⟨h, Fr.rf⟩ (fun self i m hi ⟨x1, x2⟩ hk2 => ?_) (fun self m ⟨x1, x2⟩ => ?_)
  · unfold b264_113 c264_161 c264_164
    dsimp only [nm]
    have e := hg i hi
    rw [← x2.1 137 i (by omega)] at e
    obtain ⟨i1, i2, _⟩ := vBs_I (t := t) (g := g) hI hns i
    rw [if_neg (fun z => by have := (nI_leI (by omega) (by omega)).mp z; omega), if_neg (show ¬ nI 1 = 0 by decide)]
    rw [ld137 e (by omega) (fun x => (f299 x m).bind fun r1 => self (nI 1, nI k, nI i + 1, r1)), i_1, nI_add]
    exact wp_bind (gear_M x1 i1 (b2n_lt _) hnl (by omega)) (fun m2 ⟨a1, a2⟩ => hk2 m2 ⟨a1, x2.tr' a2⟩)
  · unfold b264_113
    rw [if_pos ((nI_leI (by omega) (by omega)).mpr (Nat.le_refl _))]
    exact wp_some ⟨rfl, x1, x2⟩
theorem car0_M {μ : Mem} {k : Nat} {g : Nat → Bool} {e : Ew} (h : EM μ e) (hI : EI e) (hg : ∀ i, i < k → μ.1 137 i = nI (b2n (g i))) (hk : k ≤ 64000) : wp (l264_113 gF (nI 0, nI k, nI 0, μ)) (fun r => r.2 = nI k ∧ EM r.1 (eBs g k e) ∧ Fr FEm μ r.1) := by
  unfold l264_113
  refine wp_for (fun i m => (nI 0, nI k, nI i, m)) (fun i m => EM m (eBs g i e) ∧ Fr FEm μ m) k (by omega) μ _ rfl ⟨h, Fr.rf⟩ (fun self i m hi ⟨x1, x2⟩ hk2 => ?_) (fun self m ⟨x1, x2⟩ => ?_)
  · unfold b264_113 c264_139 c264_164
    dsimp only [nm]
    have e := hg i hi
    rw [← x2.1 137 i (by omega)] at e
    rw [if_neg (fun z => by have := (nI_leI (by omega) (by omega)).mp z; omega), if_pos (show nI 0 = 0 by decide)]
    rw [ld137 e (by omega) (fun x => (f265 x m).bind fun r1 => self (nI 0, nI k, nI i + 1, r1)), i_1, nI_add]
    exact wp_bind (earS_M x1 (eBs_I hI i) (b2n_lt _)) (fun m2 ⟨a1, a2⟩ => hk2 m2 ⟨a1, x2.tr' a2⟩)
  · unfold b264_113
    rw [if_pos ((nI_leI (by omega) (by omega)).mpr (Nat.le_refl _))]
    exact wp_some ⟨rfl, x1, x2⟩
