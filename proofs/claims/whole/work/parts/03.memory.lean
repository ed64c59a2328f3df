/-! ===== a memory without addresses of the machine: how many cells, the kind of each, ints, longs, references ===== -/
/-- kinds: (0, number of the kind of object in vwCl), (1, n) ints, (2, n) bytes, (3, n) booleans, (4, n) rows of Bytes, (5, n) rows of Store, (8, n) ints that nobody writes, (9, 0) nothing -/
abbrev gM : Type := Nat × (Nat → Nat × Nat) × (Nat → Nat → Int32) × (Nat → Nat → Int64) × (Nat → Nat → Option Nat)
def gty : Nat → Nat → FieldType := fun ci => match ci with
  | 0 => tyX1 | 1 => tyX2 | 2 => tyX3 | 3 => tyX4 | 4 => tyX5 | 5 => tyX6 | 6 => tyX7 | 7 => tyX8 | 8 => tyX9 | 9 => tyX10 | 10 => tyX11 | _ => tyX12
def gcl (ci : Nat) : vw_C := (vwCl[ci]?).getD (RX1, TX1, 14)
def gnf (ci : Nat) : Nat := (gcl ci).2.2
def gad (base : Nat) (st : Nat → Nat) (k : Nat) : Nat := if k < 100000 then base + k else st (k - 100000)
def gV (ad : Nat → Nat) (G : gM) (a k : Nat) (ty : FieldType) : Value := match ty with
  | .long => .long (G.2.2.2.1 a k)
  | .object _ => va_rf ((G.2.2.2.2 a k).map ad)
  | .array _ => va_rf ((G.2.2.2.2 a k).map ad)
  | _ => .int (G.2.2.1 a k)
def gE (ad : Nat → Nat) (cy : Nat → ClassId) (G : gM) (a : Nat) : va_E :=
  if (G.2.1 a).1 = 0 then .inr ((G.2.1 a).2, (List.range (gnf (G.2.1 a).2)).map (fun k => gV ad G a k (gty (G.2.1 a).2 k)))
  else if (G.2.1 a).1 ≤ 3 then .inl (cy ((G.2.1 a).1 - 1), (G.2.1 a).2, .inl (G.2.2.1 a))
  else .inl (cy ((G.2.1 a).1 - 1), (G.2.1 a).2, .inr (.inr (.inr (.inr (fun j => (G.2.2.2.2 a j).map ad)))))
abbrev gtys (cy : Nat → ClassId) : List (ClassId × FieldType) := [(cy 0, .int), (cy 1, .byte), (cy 2, .boolean), (cy 3, .object "CraftHouse$Bytes"), (cy 4, .object "CraftHouse$Store")]
def gWd (base : Nat) (st : Nat → Nat) (cy : Nat → ClassId) (G : gM) : va_W := va_pl (List.range' base G.1) (fun q => gE (gad base st) cy G (q - base))
theorem gE_congr {ad : Nat → Nat} {cy : Nat → ClassId} {G G' : gM} {a : Nat} (h1 : G'.2.1 a = G.2.1 a) (h2 : G'.2.2.1 a = G.2.2.1 a) (h3 : G'.2.2.2.1 a = G.2.2.2.1 a) (h4 : G'.2.2.2.2 a = G.2.2.2.2 a) : gE ad cy G' a = gE ad cy G a := by
  have hV : ∀ k ty, gV ad G' a k ty = gV ad G a k ty := by
    intro k ty
    unfold gV
    rw [h2, h3, h4]
  unfold gE
  rw [h1, h2, h4]
  simp only [hV]
theorem gWd_get {base : Nat} {st : Nat → Nat} {cy : Nat → ClassId} {G : gM} {a : Nat} (h : a < G.1) : (gWd base st cy G)[a]? = some (base + a, gE (gad base st) cy G a) := by
  unfold gWd va_pl
  rw [List.getElem?_map, List.getElem?_range' (by simpa using h)]
  simp
theorem gWd_len {base : Nat} {st : Nat → Nat} {cy : Nat → ClassId} {G : gM} : (gWd base st cy G).length = G.1 := by
  unfold gWd va_pl
  simp
theorem gWd_none {base : Nat} {st : Nat → Nat} {cy : Nat → ClassId} {G : gM} {a : Nat} (h : ¬ a < G.1) : (gWd base st cy G)[a]? = none := by
  rw [List.getElem?_eq_none_iff, gWd_len]
  omega
theorem gWd_some {base : Nat} {st : Nat → Nat} {cy : Nat → ClassId} {G : gM} {a : Nat} {x : Nat × va_E} (h : (gWd base st cy G)[a]? = some x) : a < G.1 ∧ x = (base + a, gE (gad base st) cy G a) := by
  by_cases ha : a < G.1
  · rw [gWd_get ha] at h
    exact ⟨ha, (Option.some.inj h).symm⟩
  · rw [gWd_none ha] at h
    cases h
theorem gWd_set {base : Nat} {st : Nat → Nat} {cy : Nat → ClassId} {G G' : gM} {a : Nat} {e : va_E} (h : a < G.1) (hn : G'.1 = G.1) (he : gE (gad base st) cy G' a = e) (ho : ∀ k, k ≠ a → gE (gad base st) cy G' k = gE (gad base st) cy G k) :
    (gWd base st cy G).set a (base + a, e) = gWd base st cy G' := by
  apply List.ext_getElem?
  intro i
  by_cases hi : i < G.1
  · rw [gWd_get (G := G') (by omega)]
    by_cases hia : i = a
    · subst hia
      rw [List.getElem?_set_self (by rw [gWd_len]; exact h), he]
    · rw [List.getElem?_set_ne (fun q => hia q.symm), gWd_get hi, ho i hia]
  · rw [gWd_none (G := G') (by omega), List.getElem?_eq_none_iff, List.length_set, gWd_len]
    omega
theorem gWd_push {base : Nat} {st : Nat → Nat} {cy : Nat → ClassId} {G G' : gM} {e : va_E} (hn : G'.1 = G.1 + 1) (he : gE (gad base st) cy G' G.1 = e) (ho : ∀ k, k < G.1 → gE (gad base st) cy G' k = gE (gad base st) cy G k) :
    gWd base st cy G ++ [(base + G.1, e)] = gWd base st cy G' := by
  apply List.ext_getElem?
  intro i
  by_cases hi : i < G.1
  · rw [gWd_get (G := G') (by omega), List.getElem?_append_left (by rw [gWd_len]; exact hi), gWd_get hi, ho i hi]
  · rw [List.getElem?_append_right (by rw [gWd_len]; omega), gWd_len]
    by_cases hj : i = G.1
    · subst hj
      rw [gWd_get (G := G') (by omega), he]
      simp
    · rw [gWd_none (G := G') (by omega), List.getElem?_eq_none_iff]
      simp
      omega
theorem gWd_D {base : Nat} {st : Nat → Nat} {cy : Nat → ClassId} {G : gM} : va_D (fun q => base ≤ q) (gWd base st cy G) := by
  refine ⟨fun i j p q hi hj hpq => ?_, fun k q hk => ?_⟩
  · obtain ⟨-, rfl⟩ := gWd_some hi
    obtain ⟨-, rfl⟩ := gWd_some hj
    dsimp only at hpq
    omega
  · obtain ⟨-, rfl⟩ := gWd_some hk
    exact Nat.le_add_right _ _
/-! what is changed -/
def gsetI (G : gM) (a k : Nat) (x : Int32) : gM := (G.1, G.2.1, va_up G.2.2.1 a (va_up (G.2.2.1 a) k x), G.2.2.2.1, G.2.2.2.2)
def gsetL (G : gM) (a k : Nat) (x : Int64) : gM := (G.1, G.2.1, G.2.2.1, va_up G.2.2.2.1 a (va_up (G.2.2.2.1 a) k x), G.2.2.2.2)
def gsetR (G : gM) (a k : Nat) (x : Nat) : gM := (G.1, G.2.1, G.2.2.1, G.2.2.2.1, va_up G.2.2.2.2 a (va_up (G.2.2.2.2 a) k (some x)))
def gsetW (G : gM) (a : Nat) (f : Nat → Int32) : gM := (G.1, G.2.1, va_up G.2.2.1 a f, G.2.2.2.1, G.2.2.2.2)
def gpush (G : gM) (kd : Nat × Nat) : gM := (G.1 + 1, va_up G.2.1 G.1 kd, va_up G.2.2.1 G.1 (fun _ => 0), va_up G.2.2.2.1 G.1 (fun _ => 0), va_up G.2.2.2.2 G.1 (fun _ => none))
/-- what holds of every memory that comes up: nothing beyond the cells that there are, and the four rows that nobody writes; bytes are bytes -/
def gI (sn : Nat → Nat) (sf : Nat → Nat → Int32) (G : gM) : Prop := G.1 ≤ 100000 ∧ (∀ a, G.1 ≤ a → (a < 100000 ∨ 100004 ≤ a) → G.2.1 a = (9, 0)) ∧ (∀ j, j < 4 → G.2.1 (100000 + j) = (8, sn j) ∧ G.2.2.1 (100000 + j) = sf j) ∧
  (∀ a j, (G.2.1 a).1 = 2 → fits .byte (.int (G.2.2.1 a j)) = true) ∧ (∀ a, a < G.1 → (G.2.1 a).1 ≤ 5) ∧ (∀ a, (G.2.1 a).1 = 0 → (G.2.1 a).2 < 12)
theorem gI.lt {sn : Nat → Nat} {sf : Nat → Nat → Int32} {G : gM} (h : gI sn sf G) {a : Nat} (hk : (G.2.1 a).1 ≤ 5) : a < G.1 := by
  obtain ⟨h1, h2, h3, -⟩ := h
  rcases Nat.lt_or_ge a G.1 with q | q
  · exact q
  · exfalso
    by_cases h4 : a < 100000 ∨ 100004 ≤ a
    · rw [h2 a q h4] at hk
      exact absurd hk (by decide)
    · have := (h3 (a - 100000) (by omega)).1
      rw [show 100000 + (a - 100000) = a by omega] at this
      rw [this] at hk
      exact absurd hk (by show ¬ (8 ≤ 5); decide)
theorem gI.st {sn : Nat → Nat} {sf : Nat → Nat → Int32} {G : gM} (h : gI sn sf G) {a : Nat} (hk : (G.2.1 a).1 = 8) : ∃ j, j < 4 ∧ a = 100000 + j ∧ (G.2.1 a).2 = sn j ∧ G.2.2.1 a = sf j := by
  obtain ⟨h1, h2, h3, h5, h6, -⟩ := h
  by_cases h4 : 100000 ≤ a ∧ a < 100004
  · refine ⟨a - 100000, by omega, by omega, ?_⟩
    have := h3 (a - 100000) (by omega)
    rw [show 100000 + (a - 100000) = a by omega] at this
    rw [this.1]
    exact ⟨rfl, this.2⟩
  · rcases Nat.lt_or_ge a G.1 with q | q
    · exact absurd (h6 a q) (by rw [hk]; decide)
    · rw [h2 a q (by omega)] at hk
      exact absurd hk (by decide)
theorem gI.setI {sn : Nat → Nat} {sf : Nat → Nat → Int32} {G : gM} {a k : Nat} {x : Int32} (h : gI sn sf G) (ha : a < G.1) (hb : (G.2.1 a).1 = 2 → fits .byte (.int x) = true) : gI sn sf (gsetI G a k x) := by
  obtain ⟨h1, h2, h3, h4, h5, h6⟩ := h
  refine ⟨h1, h2, fun j hj => ⟨(h3 j hj).1, ?_⟩, fun b j hb2 => ?_, h5, h6⟩
  · show va_up G.2.2.1 a _ (100000 + j) = _
    unfold va_up
    rw [if_neg (by omega)]
    exact (h3 j hj).2
  · show fits .byte (.int (va_up G.2.2.1 a (va_up (G.2.2.1 a) k x) b j)) = true
    unfold va_up
    by_cases e : b = a
    · subst e
      rw [if_pos rfl]
      by_cases e2 : j = k
      · rw [if_pos e2]; exact hb hb2
      · rw [if_neg e2]; exact h4 b j hb2
    · rw [if_neg e]; exact h4 b j hb2
theorem gI.setW {sn : Nat → Nat} {sf : Nat → Nat → Int32} {G : gM} {a : Nat} {f : Nat → Int32} (h : gI sn sf G) (ha : a < G.1) (hb : (G.2.1 a).1 = 2 → ∀ j, fits .byte (.int (f j)) = true) : gI sn sf (gsetW G a f) := by
  obtain ⟨h1, h2, h3, h4, h5, h6⟩ := h
  refine ⟨h1, h2, fun j hj => ⟨(h3 j hj).1, ?_⟩, fun b j hb2 => ?_, h5, h6⟩
  · show va_up G.2.2.1 a _ (100000 + j) = _
    unfold va_up
    rw [if_neg (by omega)]
    exact (h3 j hj).2
  · show fits .byte (.int (va_up G.2.2.1 a f b j)) = true
    unfold va_up
    by_cases e : b = a
    · subst e
      rw [if_pos rfl]; exact hb hb2 j
    · rw [if_neg e]; exact h4 b j hb2
theorem gI.setL {sn : Nat → Nat} {sf : Nat → Nat → Int32} {G : gM} {a k : Nat} {x : Int64} (h : gI sn sf G) : gI sn sf (gsetL G a k x) := h
theorem gI.setR {sn : Nat → Nat} {sf : Nat → Nat → Int32} {G : gM} {a k : Nat} {x : Nat} (h : gI sn sf G) : gI sn sf (gsetR G a k x) := h
theorem gI.push {sn : Nat → Nat} {sf : Nat → Nat → Int32} {G : gM} {kd : Nat × Nat} (h : gI sn sf G) (hk : kd.1 ≤ 5) (hc : kd.1 = 0 → kd.2 < 12) (hn : G.1 + 1 ≤ 100000) : gI sn sf (gpush G kd) := by
  obtain ⟨h1, h2, h3, h4, h5, h6⟩ := h
  refine ⟨hn, fun b hb1 hb2 => ?_, fun j hj => ⟨?_, ?_⟩, fun b j hb2 => ?_, fun b hb => ?_, fun b hb => ?_⟩
  · show va_up G.2.1 G.1 kd b = _
    have hb1 : G.1 + 1 ≤ b := hb1
    unfold va_up
    rw [if_neg (by omega)]
    exact h2 b (by omega) hb2
  · show va_up G.2.1 G.1 kd (100000 + j) = _
    unfold va_up
    rw [if_neg (by omega)]
    exact (h3 j hj).1
  · show va_up G.2.2.1 G.1 _ (100000 + j) = _
    unfold va_up
    rw [if_neg (by omega)]
    exact (h3 j hj).2
  · have hb2 : (va_up G.2.1 G.1 kd b).1 = 2 := hb2
    show fits .byte (.int (va_up G.2.2.1 G.1 (fun _ => 0) b j)) = true
    unfold va_up at hb2 ⊢
    by_cases e : b = G.1
    · rw [if_pos e]; rfl
    · rw [if_neg e] at hb2 ⊢
      exact h4 b j hb2
  · show (va_up G.2.1 G.1 kd b).1 ≤ 5
    have hb : b < G.1 + 1 := hb
    unfold va_up
    by_cases e : b = G.1
    · rw [if_pos e]; exact hk
    · rw [if_neg e]; exact h5 b (by omega)
  · have hb : (va_up G.2.1 G.1 kd b).1 = 0 := hb
    show (va_up G.2.1 G.1 kd b).2 < 12
    unfold va_up at hb ⊢
    by_cases e : b = G.1
    · rw [if_pos e] at hb ⊢; exact hc hb
    · rw [if_neg e] at hb ⊢; exact h6 b hb
