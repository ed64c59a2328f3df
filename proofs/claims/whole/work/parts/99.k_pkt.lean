/-! ===== the ground: a packet has come, whole ===== -/
abbrev Gw : Type := List Pk × Nat × Int32 × Int32 × Option Nat × (Nat → Nat → Int32)
def lcC : Option Nat → Int32
  | none => -nI 1
  | some v => nI v
def lcM : Option Nat → Int32
  | none => -nI 2
  | some v => nI v
def ArM (μ : Mem) (ar : List Pk) (na : Nat) : Prop := μ.1 129 147 = nI na ∧ ∀ j, j < ar.length → μ.1 216 ((na - ar.length + j) % 40) = nI (pk ar j).1.length ∧ μ.1 217 ((na - ar.length + j) % 40) = (pk ar j).2.1 ∧ Seg μ 215 (120 * ((na - ar.length + j) % 40)) (pk ar j).1
def GwC (μ : Mem) (g : Gw) : Prop := Shf μ 15 g.1 ∧ μ.1 12 9 = nI g.2.1 ∧ μ.1 12 10 = g.2.2.1 ∧ μ.1 12 11 = g.2.2.2.1 ∧ μ.1 12 12 = lcC g.2.2.2.2.1 ∧ ShwC μ g.2.2.2.2.2
def GwM (μ : Mem) (g : Gw) : Prop := ArM μ g.1 g.2.1 ∧ μ.1 129 144 = g.2.2.1 ∧ μ.1 129 145 = g.2.2.2.1 ∧ μ.1 129 146 = lcM g.2.2.2.2.1 ∧ ShwM μ g.2.2.2.2.2
def GwI (g : Gw) : Prop := g.1.length = min g.2.1 40 ∧ (∀ i, i < g.1.length → (pk g.1 i).1.length ≤ 120 ∧ 15 ≤ (pk g.1 i).1.length ∧ ((pk g.1 i).2.1 = nI 0 ∨ (pk g.1 i).2.1 = nI 1)) ∧ (∀ v, g.2.2.2.2.1 = some v → v < 16384) ∧ ∀ p, g.2.2.2.2.2 p 0 = nI 0 ∨ g.2.2.2.2.2 p 0 = nI 1
theorem ArM.fr {μ m : Mem} {ar : List Pk} {na : Nat} {P : Nat → Nat → Prop} (h : ArM μ ar na) (hI : ∀ i, i < ar.length → (pk ar i).1.length ≤ 120) (ho : Fr P μ m) (h1 : ∀ c k, 215 ≤ c ∧ c ≤ 217 ∨ c = 129 ∧ k = 147 → ¬ P c k) : ArM m ar na := by
  refine ⟨by rw [ho.1 _ _ (h1 _ _ (by omega))]; exact h.1, fun j hj => ?_⟩
  obtain ⟨a, b, c⟩ := h.2 j hj
  exact ⟨by rw [ho.1 _ _ (h1 _ _ (by omega))]; exact a, by rw [ho.1 _ _ (h1 _ _ (by omega))]; exact b, fun i hi => by rw [ho.1 _ _ (h1 _ _ (by omega))]; exact c.1 i hi, c.2⟩
theorem GwC.fr {μ m : Mem} {g : Gw} {P : Nat → Nat → Prop} (h : GwC μ g) (ho : Fr P μ m) (h1 : ∀ c k, 15 ≤ c ∧ c ≤ 23 ∨ c = 12 ∧ 9 ≤ k ∧ k ≤ 12 → ¬ P c k) : GwC m g :=
  ⟨h.1.fr ho (fun c k a b => h1 c k (by omega)), by rw [ho.1 _ _ (h1 _ _ (by omega))]; exact h.2.1, by rw [ho.1 _ _ (h1 _ _ (by omega))]; exact h.2.2.1, by rw [ho.1 _ _ (h1 _ _ (by omega))]; exact h.2.2.2.1, by rw [ho.1 _ _ (h1 _ _ (by omega))]; exact h.2.2.2.2.1, h.2.2.2.2.2.fr ho (fun c k a b => h1 c k (by omega))⟩
theorem GwM.fr {μ m : Mem} {g : Gw} {P : Nat → Nat → Prop} (h : GwM μ g) (hI : GwI g) (ho : Fr P μ m) (h1 : ∀ c k, 215 ≤ c ∧ c ≤ 220 ∨ c = 129 ∧ 144 ≤ k ∧ k ≤ 147 → ¬ P c k) : GwM m g :=
  ⟨h.1.fr (fun i hi => (hI.2.1 i hi).1) ho (fun c k a => h1 c k (by omega)), by rw [ho.1 _ _ (h1 _ _ (by omega))]; exact h.2.1, by rw [ho.1 _ _ (h1 _ _ (by omega))]; exact h.2.2.1, by rw [ho.1 _ _ (h1 _ _ (by omega))]; exact h.2.2.2.1, h.2.2.2.2.fr ho (fun c k a b => h1 c k (by omega))⟩
def arN (ar : List Pk) (bs : List Nat) (c : Nat) : List Pk := (if ar.length < 40 then ar else ar.eraseIdx 0) ++ [(bs, nI c, nI 0)]
def flM (lc : Option Nat) (v : Nat) (x : Int32) : Int32 :=
  match lc with
  | none => x
  | some w => x + ((nI v - nI w - 1) &&& 16383)
def shW (sh : Nat → Nat → Int32) (bs : List Nat) : Nat → Nat → Int32 := if w2 bs 7 = 5122 then shA sh bs 13 else if w2 bs 7 = 793 then shA sh bs 14 else sh
def idP (bs : List Nat) : Bool := decide (bs.getD 0 0 = 7 ∧ bs.getD 1 0 = 255)
def pkG (g : Gw) (c : Nat) (bs : List Nat) : Gw := if idP bs = true then g else if sndP bs = true then (arN g.1 bs c, g.2.1 + 1, g.2.2.1, (if c = 0 then flM g.2.2.2.2.1 (w2 bs 2 % 16384) g.2.2.2.1 else g.2.2.2.1), (if c = 0 then some (w2 bs 2 % 16384) else g.2.2.2.2.1), shW g.2.2.2.2.2 bs) else (g.1, g.2.1, g.2.2.1 + 1, g.2.2.2)
def pkQ (t : Nat) (q : Nat → Rq) (bs : List Nat) : Nat → Rq := if idP bs = true then q else if sndP bs = true ∧ bs.getD 7 0 = 1 then lrn t q bs else q
theorem era0_len {ps : List Pk} : (ps.eraseIdx 0).length = ps.length - 1 := by
  cases ps <;> simp
theorem pk_arN {ar : List Pk} {bs : List Nat} {c j : Nat} : pk (arN ar bs c) j = if ar.length < 40 then (if j < ar.length then pk ar j else if j = ar.length then (bs, nI c, nI 0) else ([], nI 0, nI 0)) else (if j < ar.length - 1 then pk ar (j + 1) else if j = ar.length - 1 then (bs, nI c, nI 0) else ([], nI 0, nI 0)) := by
  unfold arN
  by_cases q : ar.length < 40
  · rw [if_pos q, if_pos q, pk_app]
  · rw [if_neg q, if_neg q, pk_app, era0_len]
    by_cases e : j < ar.length - 1
    · rw [if_pos e, if_pos e, pk_era, if_neg (by omega)]
    · rw [if_neg e, if_neg e]
theorem arN_len {ar : List Pk} {bs : List Nat} {c : Nat} (h : ar.length ≤ 40) : (arN ar bs c).length = min (ar.length + 1) 40 := by
  unfold arN
  rw [List.length_append]
  by_cases q : ar.length < 40
  · rw [if_pos q]; show ar.length + 1 = _; omega
  · rw [if_neg q, era0_len]; show ar.length - 1 + 1 = _; omega
theorem sndP_len {bs : List Nat} (h : sndP bs = true) : 15 ≤ bs.length ∧ bs.length ≤ 120 := ⟨(of_decide_eq_true h).1, (of_decide_eq_true h).2.1⟩
theorem shU_01 {sh : Nat → Nat → Int32} {p : Nat} {v tk : Int32} (h : ∀ p, sh p 0 = nI 0 ∨ sh p 0 = nI 1) : ∀ a, shU sh p v tk a 0 = nI 0 ∨ shU sh p v tk a 0 = nI 1 := by
  intro a
  unfold shU
  by_cases q1 : 24 ≤ p
  · rw [if_pos q1]; exact h a
  · rw [if_neg q1]
    by_cases q2 : sh p 0 = nI 0 ∨ sh p 2 ≤ tk
    · rw [if_pos q2]
      unfold up2
      rw [if_neg (show ¬ (a = p ∧ 0 = 2) by omega), if_neg (show ¬ (a = p ∧ 0 = 1) by omega)]
      by_cases q3 : a = p
      · rw [if_pos ⟨q3, rfl⟩]; exact Or.inr rfl
      · rw [if_neg (fun z => q3 z.1)]; exact h a
    · rw [if_neg q2]; exact h a
theorem shN_01 {sh : Nat → Nat → Int32} {bs : List Nat} {pl : Nat} (h : ∀ p, sh p 0 = nI 0 ∨ sh p 0 = nI 1) : ∀ i a, shN sh bs pl i a 0 = nI 0 ∨ shN sh bs pl i a 0 = nI 1
  | 0, a => h a
  | i + 1, a => by
    show (if pl + 5 * i + 8 ≤ bs.length then shU (shN sh bs pl i) (bs.getD (pl + 1 + 5 * i) 0) (nI (w4l bs (pl + 2 + 5 * i))) (nI (w4l bs 9)) else shN sh bs pl i) a 0 = nI 0 ∨ (if pl + 5 * i + 8 ≤ bs.length then shU (shN sh bs pl i) (bs.getD (pl + 1 + 5 * i) 0) (nI (w4l bs (pl + 2 + 5 * i))) (nI (w4l bs 9)) else shN sh bs pl i) a 0 = nI 1
    by_cases q : pl + 5 * i + 8 ≤ bs.length
    · rw [if_pos q]; exact shU_01 (shN_01 h i) a
    · rw [if_neg q]; exact shN_01 h i a
theorem shA_01 {sh : Nat → Nat → Int32} {bs : List Nat} {pl : Nat} (h : ∀ p, sh p 0 = nI 0 ∨ sh p 0 = nI 1) : ∀ a, shA sh bs pl a 0 = nI 0 ∨ shA sh bs pl a 0 = nI 1 := by
  intro a
  unfold shA
  by_cases q : bs.length ≤ pl + 2
  · rw [if_pos q]; exact h a
  · rw [if_neg q]; exact shN_01 h _ a
theorem shW_01 {sh : Nat → Nat → Int32} {bs : List Nat} (h : ∀ p, sh p 0 = nI 0 ∨ sh p 0 = nI 1) : ∀ a, shW sh bs a 0 = nI 0 ∨ shW sh bs a 0 = nI 1 := by
  intro a
  unfold shW
  by_cases q : w2 bs 7 = 5122
  · rw [if_pos q]; exact shA_01 h a
  · rw [if_neg q]
    by_cases q2 : w2 bs 7 = 793
    · rw [if_pos q2]; exact shA_01 h a
    · rw [if_neg q2]; exact h a
theorem pkG_I {g : Gw} {c : Nat} {bs : List Nat} (h : GwI g) (hc : c < 2) : GwI (pkG g c bs) := by
  unfold pkG
  by_cases q1 : idP bs = true
  · rw [if_pos q1]; exact h
  · rw [if_neg q1]
    by_cases q2 : sndP bs = true
    · rw [if_pos q2]
      have hl := sndP_len q2
      have h1 := h.1
      have h40 : g.1.length ≤ 40 := by omega
      refine ⟨?_, ?_, ?_, shW_01 h.2.2.2⟩
      · show (arN g.1 bs c).length = min (g.2.1 + 1) 40
        rw [arN_len h40]; omega
      · intro i hi
        have hi : i < (arN g.1 bs c).length := hi
        show (pk (arN g.1 bs c) i).1.length ≤ 120 ∧ 15 ≤ (pk (arN g.1 bs c) i).1.length ∧ ((pk (arN g.1 bs c) i).2.1 = nI 0 ∨ (pk (arN g.1 bs c) i).2.1 = nI 1)
        rw [arN_len h40] at hi
        have ne : bs.length ≤ 120 ∧ 15 ≤ bs.length ∧ (nI c = nI 0 ∨ nI c = nI 1) := by
          have : c = 0 ∨ c = 1 := by omega
          exact ⟨hl.2, hl.1, by rcases this with rfl | rfl; exact Or.inl rfl; exact Or.inr rfl⟩
        rw [pk_arN]
        by_cases q : g.1.length < 40
        · rw [if_pos q]
          by_cases e : i < g.1.length
          · rw [if_pos e]; exact h.2.1 i e
          · rw [if_neg e, if_pos (by omega)]; exact ne
        · rw [if_neg q]
          by_cases e : i < g.1.length - 1
          · rw [if_pos e]; exact h.2.1 _ (by omega)
          · rw [if_neg e, if_pos (by omega)]; exact ne
      · intro v hv
        have hv : (if c = 0 then some (w2 bs 2 % 16384) else g.2.2.2.2.1) = some v := hv
        by_cases e : c = 0
        · rw [if_pos e] at hv
          cases hv
          exact Nat.mod_lt _ (by omega)
        · rw [if_neg e] at hv
          exact h.2.2.1 v hv
    · rw [if_neg q2]; exact h
theorem showAll_C {μ : Mem} {t b : Nat} {q : Nat → Rq} {sh : Nat → Nat → Int32} {bs : List Nat} (hT : To μ) (h : ReqC μ t q) (hs : ShwC μ sh) (hb : Byt μ b bs) (h15 : 15 ≤ bs.length) (hl : bs.length ≤ 200) (hbb : 52 ≤ b) : wp (f91 b μ) (fun m => ReqC m t (if bs.getD 7 0 = 1 then lrn t q bs else q) ∧ ShwC m (shW sh bs) ∧ Fr (fun c _ => 21 ≤ c ∧ c ≤ 25) μ m) := by
  have b7 := hb.get 7
  have b8 := hb.get 8
  have wl := w2_lt (k := 7) hb.2.2.2
  have ew : w2 bs 7 = 256 * bs.getD 7 0 + bs.getD 8 0 := rfl
  unfold f91 shW
  rw [i_7, two_ok hb (k := 7) (by omega), Option.bind_some]
  dsimp only
  rw [show 256 * bs.getD 7 0 + bs.getD (7 + 1) 0 = w2 bs 7 from rfl, i_5122, i_793, i_13, i_14]
  by_cases q1 : w2 bs 7 = 5122
  · rw [if_pos (by rw [q1]), if_pos q1, if_neg (by omega)]
    refine wp_bind (showA_C hs hb hl h15 (Or.inl rfl) hbb) (fun m ⟨a1, a2⟩ => wp_some ⟨h.fr a2 (by omega) (fun c k _ _ => by omega), a1, a2.mono (by intro c k h; omega)⟩)
  · rw [if_neg (fun z => q1 ((nI_eq (by omega) (by omega)).mp z)), if_neg q1]
    by_cases q2 : w2 bs 7 = 793
    · rw [if_pos (by rw [q2]), if_pos q2, if_neg (by omega)]
      refine wp_bind (showA_C hs hb hl h15 (Or.inr rfl) hbb) (fun m ⟨a1, a2⟩ => wp_some ⟨h.fr a2 (by omega) (fun c k _ _ => by omega), a1, a2.mono (by intro c k h; omega)⟩)
    · rw [if_neg (fun z => q2 ((nI_eq (by omega) (by omega)).mp z)), if_neg q2, at_ok hb (k := 7) (by omega), Option.bind_some]
      dsimp only
      rw [i_1]
      by_cases q3 : bs.getD 7 0 = 1
      · rw [if_pos (by rw [q3]), if_pos q3]
        refine wp_bind (lrn_C hT h hb h15 hl hbb) (fun m ⟨a1, a2⟩ => wp_some ⟨a1, hs.fr a2 (fun c k _ _ => by omega), a2.mono (by intro c k h; omega)⟩)
      · rw [if_neg (fun z => q3 ((nI_eq (by omega) (by omega)).mp z)), if_neg q3]
        exact wp_some ⟨h, hs, Fr.rf⟩
theorem off_120 {ps : List Pk} (h : ∀ i, i < ps.length → (pk ps i).1.length ≤ 120) : ∀ n, n ≤ ps.length → off ps n ≤ 120 * n
  | 0, _ => Nat.zero_le _
  | n + 1, hn => by
    have a := off_120 h n (by omega)
    have b := h n (by omega)
    rw [off]
    omega
def fcm (m : Mem) (ms : Int32) (v : Nat) : Option Nat → Mem
  | none => setI m 12 12 (nI v)
  | some w => setI (setI m 12 11 (ms + ((nI v - nI w - 1) &&& 16383))) 12 12 (nI v)
abbrev FpC : Nat → Nat → Prop := fun c k => 15 ≤ c ∧ c ≤ 25 ∨ c = 12 ∧ 9 ≤ k ∧ k ≤ 12
theorem pkt59_C {μ : Mem} {t b c : Nat} {q : Nat → Rq} {ar : List Pk} {ms : Int32} {lc : Option Nat} {sh : Nat → Nat → Int32} {bs : List Nat} (hT : To μ) (h : ReqC μ t q) (hs : ShwC μ sh) (hb : Byt μ b bs) (h15 : 15 ≤ bs.length) (hl : bs.length ≤ 120) (hbb : 52 ≤ b) (hA : Shf μ 15 ar) (hA1 : ar.length < 40) (hA2 : ∀ i, i < ar.length → (pk ar i).1.length ≤ 120) (hm : μ.1 12 11 = ms) (hlc : μ.1 12 12 = lcC lc) (hlv : ∀ v, lc = some v → v < 16384) (hc : c < 2) :
    wp (c88_59 b (nI c) μ) (fun m => Shf m 15 (ar ++ [(bs, nI c, nI 0)]) ∧ m.1 12 11 = (if c = 0 then flM lc (w2 bs 2 % 16384) ms else ms) ∧ m.1 12 12 = lcC (if c = 0 then some (w2 bs 2 % 16384) else lc) ∧ ShwC m (shW sh bs) ∧ ReqC m t (if bs.getD 7 0 = 1 then lrn t q bs else q) ∧ Fr (fun c k => 15 ≤ c ∧ c ≤ 25 ∨ c = 12 ∧ 11 ≤ k ∧ k ≤ 12) μ m) := by
  have g1 := gl_16
  have g2 := gl_17
  have of := off_120 hA2 ar.length (Nat.le_refl _)
  unfold c88_59
  rw [hb.1, i_0]
  refine wp_bind (shadd_C (b := 0) (xs := bs) (tag := nI c) (mark := nI 0) hA hb (by omega) (by rw [List.drop_zero, List.take_length]) (by omega)) (fun r hr => ?_)
  obtain ⟨hr1, hr2⟩ := hr
  rw [if_pos (show ar.length < gln (15 + 2) ∧ off ar ar.length + bs.length ≤ gln (15 + 1) by rw [show 15 + 2 = 17 from rfl, show 15 + 1 = 16 from rfl]; omega)] at hr1
  obtain ⟨_, hA'⟩ := hr1
  obtain ⟨m, rv⟩ := r
  have hr2 : Fr (FS 15) μ m := hr2
  have hA' : Shf m 15 (ar ++ [(bs, nI c, nI 0)]) := hA'
  dsimp only
  have tail : ∀ m1 : Mem, Fr (fun c k => c = 12 ∧ 11 ≤ k ∧ k ≤ 12) m m1 → wp (c88_92 b m1) (fun m2 => m2.1 12 11 = m1.1 12 11 ∧ m2.1 12 12 = m1.1 12 12 ∧ Shf m2 15 (ar ++ [(bs, nI c, nI 0)]) ∧ ShwC m2 (shW sh bs) ∧ ReqC m2 t (if bs.getD 7 0 = 1 then lrn t q bs else q) ∧ Fr (fun c k => 15 ≤ c ∧ c ≤ 25 ∨ c = 12 ∧ 11 ≤ k ∧ k ≤ 12) μ m2) := by
    intro m1 f1
    have f2 : Fr (fun c k => 15 ≤ c ∧ c ≤ 20 ∨ c = 12 ∧ 11 ≤ k ∧ k ≤ 12) μ m1 := hr2.tr f1 (fun c k z => Or.inl z) (fun c k z => Or.inr z)
    unfold c88_92
    refine wp_bind (showAll_C (hT.fr f2 (fun k => by omega)) (h.fr f2 (by omega) (fun c k _ _ => by omega)) (hs.fr f2 (fun c k _ _ => by omega)) (hb.fr f2 (by omega) (fun k => by omega)) h15 (by omega) hbb) (fun m2 ⟨a1, a2, a3⟩ => wp_some ⟨a3.1 _ _ (by omega), a3.1 _ _ (by omega), (hA'.fr f1 (fun c k _ _ => by omega)).fr a3 (fun c k _ _ => by omega), a2, a1, f2.tr a3 (by intro c k h; omega) (by intro c k h; omega)⟩)
  by_cases q0 : c = 0
  · subst q0
    have hb2 := hb.fr hr2 (by intro z; unfold FS at z; omega) (fun k z => by unfold FS at z; omega)
    rw [if_pos rfl, if_pos rfl, if_pos rfl, i_2, two_ok hb2 (k := 2) (by omega), Option.bind_some]
    dsimp only
    rw [show 256 * bs.getD 2 0 + bs.getD (2 + 1) 0 = w2 bs 2 from rfl, i_16383, an_16383]
    have e11 : m.1 12 11 = ms := by rw [hr2.1 _ _ (by intro z; unfold FS at z; omega)]; exact hm
    have e12 : m.1 12 12 = lcC lc := by rw [hr2.1 _ _ (by intro z; unfold FS at z; omega)]; exact hlc
    have e90 : f90 (nI (w2 bs 2 % 16384)) m = some (fcm m ms (w2 bs 2 % 16384) lc) := by
      unfold f90 c90_28 pfI
      rw [e12, e11]
      cases lc with
      | none =>
        rw [if_pos (show lcC none < 0 by decide)]
        rfl
      | some w =>
        have := hlv w rfl
        rw [if_neg (show ¬ lcC (some w) < 0 from fun z => by have := (nI_ltI (a := w) (b := 0) (by omega) (by omega)).mp z; omega)]
        rfl
    rw [e90, Option.bind_some]
    cases lc with
    | none =>
      refine wp_mono (tail (setI m 12 12 (nI (w2 bs 2 % 16384))) (Fr.sI (by omega))) (fun m2 ⟨a1, a2, a3, a4, a5, a6⟩ => ⟨a3, ?_, ?_, a4, a5, a6⟩)
      · rw [a1, rdI, if_neg (by omega), e11]; rfl
      · rw [a2, rdI, if_pos ⟨rfl, rfl⟩]; rfl
    | some w =>
      refine wp_mono (tail (setI (setI m 12 11 (ms + ((nI (w2 bs 2 % 16384) - nI w - 1) &&& 16383))) 12 12 (nI (w2 bs 2 % 16384))) ((Fr.sI (by omega)).pI (by omega))) (fun m2 ⟨a1, a2, a3, a4, a5, a6⟩ => ⟨a3, ?_, ?_, a4, a5, a6⟩)
      · rw [a1, rdI, if_neg (by omega), rdI, if_pos ⟨rfl, rfl⟩]; rfl
      · rw [a2, rdI, if_pos ⟨rfl, rfl⟩]; rfl
  · rw [if_neg (fun z => q0 ((nI_eq (by omega) (by omega)).mp z)), if_neg q0, if_neg q0]
    refine wp_mono (tail m Fr.rf) (fun m2 ⟨a1, a2, a3, a4, a5, a6⟩ => ⟨a3, ?_, ?_, a4, a5, a6⟩)
    · rw [a1, hr2.1 _ _ (by intro z; unfold FS at z; omega)]; exact hm
    · rw [a2, hr2.1 _ _ (by intro z; unfold FS at z; omega)]; exact hlc
theorem pkt_C {μ : Mem} {t b c : Nat} {q : Nat → Rq} {g : Gw} {bs : List Nat} (hTb : Tb μ) (hT : To μ) (h : ReqC μ t q) (hG : GwC μ g) (hI : GwI g) (hb : Byt μ b bs) (hl : bs.length ≤ 200) (hbb : 52 ≤ b) (hc : c < 2) :
    wp (f88 b (nI c) μ) (fun m => GwC m (pkG g c bs) ∧ ReqC m t (pkQ t q bs) ∧ Fr FpC μ m) := by
  have g2 := gl_17
  have b0 := hb.get 0
  have b1 := hb.get 1
  unfold f88 pkG pkQ
  rw [i_0, two_ok hb (k := 0) (by omega), Option.bind_some, show 0 + 1 = 1 from rfl]
  dsimp only
  rw [i_2047]
  by_cases q1 : bs.getD 0 0 = 7 ∧ bs.getD 1 0 = 255
  · rw [if_pos (show nI (256 * bs.getD 0 0 + bs.getD 1 0) = nI 2047 by rw [q1.1, q1.2]), if_pos (show idP bs = true from decide_eq_true q1), if_pos (show idP bs = true from decide_eq_true q1)]
    exact wp_some ⟨hG, h, Fr.rf⟩
  · have nid : ¬ idP bs = true := fun z => q1 (of_decide_eq_true z)
    rw [if_neg (show ¬ nI (256 * bs.getD 0 0 + bs.getD 1 0) = nI 2047 from fun z => q1 (by have := (nI_eq (by omega) (by omega)).mp z; omega)), if_neg nid, if_neg nid, sndP_C hTb hb hl, Option.bind_some]
    dsimp only
    by_cases q2 : sndP bs = true
    · have hsl := sndP_len q2
      have h1 := hI.1
      rw [if_pos q2, q2, if_neg (show ¬ nI (b2n true) = nI 0 by decide), hG.2.1, i_1, nI_add]
      unfold pfI
      rw [Option.bind_some]
      have f0 : Fr (fun c k => c = 12 ∧ k = 9) μ (setI μ 12 9 (nI (g.2.1 + 1))) := Fr.sI ⟨rfl, rfl⟩
      have A0 := hG.1.fr f0 (fun c k _ _ => by omega)
      rw [hasPlace_C A0, Option.bind_some]
      dsimp only
      have e9 : (setI μ 12 9 (nI (g.2.1 + 1))).1 12 9 = nI (g.2.1 + 1) := by rw [rdI, if_pos ⟨rfl, rfl⟩]
      generalize setI μ 12 9 (nI (g.2.1 + 1)) = m0 at f0 A0 e9
      have fin : ∀ m1 : Mem, ∀ ar, Fr (FS 15) m0 m1 → Shf m1 15 ar → ar.length < 40 → (∀ i, i < ar.length → (pk ar i).1.length ≤ 120) → wp (c88_59 b (nI c) m1) (fun m => GwC m (ar ++ [(bs, nI c, nI 0)], g.2.1 + 1, g.2.2.1, (if c = 0 then flM g.2.2.2.2.1 (w2 bs 2 % 16384) g.2.2.2.1 else g.2.2.2.1), (if c = 0 then some (w2 bs 2 % 16384) else g.2.2.2.2.1), shW g.2.2.2.2.2 bs) ∧ ReqC m t (if true = true ∧ bs.getD 7 0 = 1 then lrn t q bs else q) ∧ Fr FpC μ m) := by
        intro m1 ar f1 A1 l1 l2
        have f2 : Fr (fun c k => 15 ≤ c ∧ c ≤ 20 ∨ c = 12 ∧ k = 9) μ m1 := f0.tr f1 (fun c k z => Or.inr z) (fun c k z => Or.inl z)
        refine wp_mono (pkt59_C (hT.fr f2 (fun k => by omega)) (h.fr f2 (by omega) (fun c k _ _ => by omega)) (hG.2.2.2.2.2.fr f2 (fun c k _ _ => by omega)) (hb.fr f2 (by omega) (fun k => by omega)) hsl.1 hsl.2 hbb A1 l1 l2 (by rw [f2.1 _ _ (by omega)]; exact hG.2.2.2.1) (by rw [f2.1 _ _ (by omega)]; exact hG.2.2.2.2.1) hI.2.2.1 hc) (fun m ⟨a1, a2, a3, a4, a5, a6⟩ => ⟨⟨a1, ?_, ?_, a2, a3, a4⟩, ?_, ?_⟩)
        · rw [a6.1 _ _ (by omega), f1.1 _ _ (by intro z; unfold FS at z; omega), e9]
        · rw [a6.1 _ _ (by omega), f2.1 _ _ (by omega)]; exact hG.2.2.1
        · by_cases q7 : bs.getD 7 0 = 1
          · rw [if_pos ⟨rfl, q7⟩]; rw [if_pos q7] at a5; exact a5
          · rw [if_neg (fun z => q7 z.2)]; rw [if_neg q7] at a5; exact a5
        · exact f2.tr a6 (by intro c k h; omega) (by intro c k h; omega)
      unfold arN
      by_cases q3 : g.1.length < 40
      · rw [decide_eq_true (show g.1.length < gln (15 + 2) by rw [show 15 + 2 = 17 from rfl]; omega), if_neg (show ¬ nI (b2n true) = nI 0 by decide), if_pos q3]
        exact fin m0 g.1 Fr.rf A0 q3 (fun i hi => (hI.2.1 i hi).1)
      · rw [decide_eq_false (show ¬ g.1.length < gln (15 + 2) by rw [show 15 + 2 = 17 from rfl]; omega), if_pos (show nI (b2n false) = nI 0 by decide), if_neg q3]
        refine wp_bind (shrem_C A0 (j := 0) (by omega)) (fun m1 ⟨a1, a2⟩ => ?_)
        refine fin m1 _ a2 a1 (by rw [era0_len]; omega) (fun i hi => ?_)
        rw [era0_len] at hi
        rw [pk_era, if_neg (by omega)]
        exact (hI.2.1 (i + 1) (by omega)).1
    · have q2' : sndP bs = false := Bool.eq_false_iff.mpr q2
      rw [q2', if_pos (show nI (b2n false) = nI 0 by decide), if_neg (show ¬ false = true by decide), if_neg (show ¬ (false = true ∧ bs.getD 7 0 = 1) from fun z => by cases z.1)]
      unfold pfI
      rw [Option.bind_some, hG.2.2.1]
      have f0 : Fr (fun c k => c = 12 ∧ k = 10) μ (setI μ 12 10 (g.2.2.1 + 1)) := Fr.sI ⟨rfl, rfl⟩
      refine wp_some ⟨⟨hG.1.fr f0 (fun c k _ _ => by omega), by rw [f0.1 _ _ (by omega)]; exact hG.2.1, by rw [rdI, if_pos ⟨rfl, rfl⟩], by rw [f0.1 _ _ (by omega)]; exact hG.2.2.2.1, by rw [f0.1 _ _ (by omega)]; exact hG.2.2.2.2.1, hG.2.2.2.2.2.fr f0 (fun c k _ _ => by omega)⟩, h.fr f0 (by omega) (fun c k _ _ => by omega), f0.mono (by intro c k h; omega)⟩
