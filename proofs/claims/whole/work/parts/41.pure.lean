/-! ===== pure rows: what the functions do, step by step ===== -/
def wp {β : Type} (o : Option β) (Q : β → Prop) : Prop := ∃ r, o = some r ∧ Q r
theorem wp_some {β : Type} {x : β} {Q : β → Prop} (h : Q x) : wp (some x) Q := ⟨x, rfl, h⟩
theorem wp_bind {α β : Type} {o : Option α} {k : α → Option β} {P : α → Prop} {Q : β → Prop} (h : wp o P) (hk : ∀ x, P x → wp (k x) Q) : wp (o.bind k) Q := by
  obtain ⟨x, hx, hp⟩ := h
  rw [hx]
  exact hk x hp
theorem wp_mono {β : Type} {o : Option β} {P Q : β → Prop} (h : wp o P) (hk : ∀ x, P x → Q x) : wp o Q := by
  obtain ⟨x, hx, hp⟩ := h
  exact ⟨x, hx, hk x hp⟩
theorem wp_if {β : Type} {c : Prop} [Decidable c] {a b : Option β} {Q : β → Prop} (h1 : c → wp a Q) (h2 : ¬ c → wp b Q) : wp (if c then a else b) Q := by
  by_cases h : c
  · rw [if_pos h]; exact h1 h
  · rw [if_neg h]; exact h2 h
theorem wp_t {β : Type} {c : Prop} [Decidable c] {a b : Option β} {Q : β → Prop} (h : c) (h1 : wp a Q) : wp (if c then a else b) Q := by rw [if_pos h]; exact h1
theorem wp_f {β : Type} {c : Prop} [Decidable c] {a b : Option β} {Q : β → Prop} (h : ¬ c) (h1 : wp b Q) : wp (if c then a else b) Q := by rw [if_neg h]; exact h1
theorem wp_nm {α β : Type} {x : α} {k : α → Option β} {Q : β → Prop} (h : ∀ v, v = x → wp (k v) Q) : wp (nm x k) Q := h x rfl
/-- a loop that counts: the invariant by the number of rounds done -/
theorem wp_loop {α β : Type} {F : (α → Option β) → α → Option β} {Q : β → Prop} (I : Nat → α → Prop) (N : Nat) (hs : ∀ (self : α → Option β) (i : Nat) (x : α), i < N → I i x → (∀ y, I (i + 1) y → wp (self y) Q) → wp (F self x) Q) (hf : ∀ (self : α → Option β) (x : α), I N x → wp (F self x) Q) :
    ∀ (n i : Nat) (x : α), i ≤ N → N - i < n → I i x → wp (fixN F n x) Q := by
  intro n
  induction n with
  | zero => intro i x _ h; exact absurd h (Nat.not_lt_zero _)
  | succ n ih =>
    intro i x hi hn hI
    rcases Nat.lt_or_ge i N with q | q
    · exact hs (fixN F n) i x q hI (fun y hy => ih (i + 1) y (by omega) (by omega) hy)
    · have : i = N := by omega
      subst this
      exact hf (fixN F n) x hI
theorem gF_pos {k : Nat} (h : k < 70000) : k < gF := h
/-! numbers -/
theorem lit (n : Nat) : (OfNat.ofNat n : Int32) = nI n := rfl
theorem nI_z : (0 : Int32) = nI 0 := rfl
theorem nI_neg {n : Nat} (h : n < 2 ^ 31) : ¬ nI n < 0 := nI_pos h
theorem inb_nI {i n : Nat} (h : i < n) (hn : n < 2 ^ 31) : inb (nI i) n := ⟨nI_pos (by omega), by rw [nI_clamp (by omega)]; exact h⟩
def byv (v : Int32) : Nat := v.toBitVec.toNat % 256
theorem byv_lt (v : Int32) : byv v < 256 := Nat.mod_lt _ (by decide)
theorem byv_and (v : Int32) : v &&& 255 = nI (byv v) := pk_and v 8 (by decide)
theorem byv_nI {c : Nat} (h : c < 256) : byv (nI c) = c := by
  unfold byv
  rw [pk_tn (by omega)]
  omega
theorem sb_byv (v : Int32) : sb_b (byv v) = v.toInt8.toInt32 := by
  unfold sb_b byv
  congr 1
  apply Int8.toBitVec_inj.mp
  apply BitVec.eq_of_toNat_eq
  rw [Int32.toBitVec_toInt8, Int32.toBitVec_toInt8, BitVec.signExtend_eq_setWidth_of_le _ (by decide), BitVec.signExtend_eq_setWidth_of_le _ (by decide), BitVec.toNat_setWidth, BitVec.toNat_setWidth, pk_tn (by omega)]
  omega
theorem i8_idem (v : Int32) : v.toInt8.toInt32.toInt8.toInt32 = v.toInt8.toInt32 := by simp
theorem getD_l {l m : List Nat} {i d : Nat} (h : i < l.length) : (l ++ m).getD i d = l.getD i d := by
  rw [List.getD_eq_getElem?_getD, List.getD_eq_getElem?_getD, List.getElem?_append_left h]
theorem getD_r {l m : List Nat} {i d : Nat} (h : l.length ≤ i) : (l ++ m).getD i d = m.getD (i - l.length) d := by
  rw [List.getD_eq_getElem?_getD, List.getD_eq_getElem?_getD, List.getElem?_append_right h]
/-! memory -/
theorem setI_s {μ : Mem} {a k : Nat} {x : Int32} : (setI μ a k x).1 a = va_up (μ.1 a) k x := gup_s
theorem setI_o {μ : Mem} {a c k : Nat} {x : Int32} (h : c ≠ a) : (setI μ a k x).1 c = μ.1 c := gup_o h
theorem setW_s {μ : Mem} {a : Nat} {f : Nat → Int32} : (setW μ a f).1 a = f := gup_s
theorem setW_o {μ : Mem} {a c : Nat} {f : Nat → Int32} (h : c ≠ a) : (setW μ a f).1 c = μ.1 c := gup_o h
def Off (S : List Nat) (μ μ' : Mem) : Prop := (∀ c, c ∉ S → μ'.1 c = μ.1 c) ∧ μ'.2 = μ.2
theorem Off.rf {S : List Nat} {μ : Mem} : Off S μ μ := ⟨fun _ _ => rfl, rfl⟩
theorem Off.tr {S T : List Nat} {μ μ1 μ2 : Mem} (h : Off S μ μ1) (h2 : Off T μ1 μ2) (hT : ∀ c, c ∈ T → c ∈ S) : Off S μ μ2 :=
  ⟨fun c hc => (h2.1 c (fun q => hc (hT c q))).trans (h.1 c hc), h2.2.trans h.2⟩
theorem Off.mono {S T : List Nat} {μ μ1 : Mem} (h : Off S μ μ1) (hT : ∀ c, c ∈ S → c ∈ T) : Off T μ μ1 := ⟨fun c hc => h.1 c (fun q => hc (hT c q)), h.2⟩
theorem Off.setI {S : List Nat} {μ : Mem} {a k : Nat} {x : Int32} (h : a ∈ S) : Off S μ (setI μ a k x) := ⟨fun c hc => setI_o (fun q => hc (q ▸ h)), rfl⟩
theorem Off.setW {S : List Nat} {μ : Mem} {a : Nat} {f : Nat → Int32} (h : a ∈ S) : Off S μ (setW μ a f) := ⟨fun c hc => setW_o (fun q => hc (q ▸ h)), rfl⟩
theorem wp_ldA {a : Nat} {i : Int32} {μ : Mem} (h : inb i (gln a)) : wp (ldA a i μ) (fun x => x = μ.1 a i.toNatClampNeg) := by
  unfold ldA
  rw [if_pos h]
  exact wp_some rfl
theorem wp_ldN {a i : Nat} {μ : Mem} (h : i < gln a) (hn : gln a < 2 ^ 31) : wp (ldA a (nI i) μ) (fun x => x = μ.1 a i) := by
  unfold ldA
  rw [if_pos (inb_nI h hn), nI_clamp (by omega)]
  exact wp_some rfl
theorem wp_stA {a i : Nat} {x : Int32} {μ : Mem} (h : i < gln a) (hn : gln a < 2 ^ 31) : wp (stA a (nI i) x μ) (fun m => m = setI μ a i x) := by
  unfold stA
  rw [if_pos (inb_nI h hn), nI_clamp (by omega)]
  exact wp_some rfl
theorem wp_stB {a i : Nat} {x : Int32} {μ : Mem} (h : i < gln a) (hn : gln a < 2 ^ 31) : wp (stB a (nI i) x μ) (fun m => m = setI μ a i x.toInt8.toInt32) := by
  unfold stB
  rw [if_pos (inb_nI h hn), nI_clamp (by omega)]
  exact wp_some rfl
theorem wp_stZ {a i : Nat} {x : Int32} {μ : Mem} (h : i < gln a) (hn : gln a < 2 ^ 31) : wp (stZ a (nI i) x μ) (fun m => m = setI μ a i (x &&& 1)) := by
  unfold stZ
  rw [if_pos (inb_nI h hn), nI_clamp (by omega)]
  exact wp_some rfl
theorem wp_pfI {a k : Nat} {x : Int32} {μ : Mem} : wp (pfI a k x μ) (fun m => m = setI μ a k x) := wp_some rfl
theorem wp_pfZ {a k : Nat} {x : Int32} {μ : Mem} (h : x = 0 ∨ x = 1) : wp (pfZ a k x μ) (fun m => m = setI μ a k x) := by
  unfold pfZ
  rw [if_pos h]
  exact wp_some rfl
theorem gln_le (a : Nat) : gln a < 2 ^ 31 := by
  unfold gln
  split
  · rename_i h
    have key : (List.range 222).all (fun a => decide ((SK0 a).2 < 2 ^ 31)) = true := by decide +kernel
    exact of_decide_eq_true (List.all_eq_true.mp key a (List.mem_range.mpr h))
  · split
    · decide
    · split <;> decide
/-! ===== Bytes ===== -/
/-- the Bytes at a hold the bytes bs -/
def Byt (μ : Mem) (a : Nat) (bs : List Nat) : Prop := μ.1 a 1 = nI bs.length ∧ bs.length ≤ gln (a + 1) ∧ (∀ i, i < bs.length → μ.1 (a + 1) i = sb_b (bs.getD i 0)) ∧ ∀ b, b ∈ bs → b < 256
theorem Byt.keep {μ μ' : Mem} {a : Nat} {bs : List Nat} {S : List Nat} (h : Byt μ a bs) (ho : Off S μ μ') (h1 : a ∉ S) (h2 : a + 1 ∉ S) : Byt μ' a bs := by
  obtain ⟨b1, b2, b3, b4⟩ := h
  exact ⟨by rw [ho.1 a h1]; exact b1, b2, fun i hi => by rw [ho.1 (a + 1) h2]; exact b3 i hi, b4⟩
theorem clear_ok (a : Nat) (μ : Mem) : wp (f64 a μ) (fun m => Byt m a [] ∧ Off [a, a + 1] μ m) := by
  unfold f64
  refine wp_bind wp_pfI (fun m hm => wp_some ?_)
  subst hm
  exact ⟨⟨by rw [setI_s]; exact gup_s, Nat.zero_le _, fun i hi => absurd hi (Nat.not_lt_zero _), fun b hb => by cases hb⟩, Off.setI List.mem_cons_self⟩
theorem put_ok {a : Nat} {bs : List Nat} {μ : Mem} (v : Int32) (h : Byt μ a bs) (hc : bs.length < gln (a + 1)) : wp (f65 a v μ) (fun m => Byt m a (bs ++ [byv v]) ∧ Off [a, a + 1] μ m) := by
  obtain ⟨b1, b2, b3, b4⟩ := h
  have hn := gln_le (a + 1)
  unfold f65
  rw [b1]
  refine wp_f (fun q => ?_) ?_
  · exact absurd ((nI_leI hn (by omega)).mp q) (by omega)
  refine wp_bind (wp_stB hc hn) (fun m hm => ?_)
  subst hm
  refine wp_bind wp_pfI (fun m hm => wp_some ?_)
  subst hm
  have e1 : (setI μ (a + 1) bs.length (v.toInt8.toInt32).toInt8.toInt32).1 a = μ.1 a := setI_o (by omega)
  refine ⟨⟨?_, ?_, fun i hi => ?_, fun b hb => ?_⟩, ?_⟩
  · rw [setI_s, gup_s, e1, b1, List.length_append, lit 1, nI_add]
    rfl
  · rw [List.length_append]
    exact hc
  · rw [List.length_append] at hi
    have hi : i < bs.length + 1 := hi
    rw [setI_o (by omega), setI_s]
    by_cases e : i = bs.length
    · subst e
      rw [gup_s, i8_idem, getD_r (Nat.le_refl _), Nat.sub_self, ← sb_byv]
      rfl
    · rw [gup_o e, b3 i (by omega), getD_l (by omega)]
  · rcases List.mem_append.mp hb with q | q
    · exact b4 b q
    · rw [List.mem_singleton.mp q]
      exact byv_lt v
  · exact (Off.setI (by simp)).tr (Off.setI (a := a) (S := [a, a + 1]) (by simp)) (fun c hc => hc)
