/-! ===== contracts of methods, calls ===== -/
def grm (id : Nat) : Room := { frames := gfr id, cells := gmc id, slots := gms id, locals := glo id }
abbrev gws (id : Nat) : List Cond := .code (gy id) (gb id) (gmx id) (grt id) :: gtb
def gPc (base : Nat) (st sn : Nat → Nat) (sf : Nat → Nat → Int32) (D : va_G) (cy : Nat → ClassId) (vs : List Value) (G : gM) : Array Value → State → Prop := fun v U => v = (vs.map (gsh (gad base st))).toArray ∧ gP base st D cy G U.heap ∧ gI sn sf G ∧ gSt base st sn sf D cy U U.heap
def gQc (base : Nat) (st sn : Nat → Nat) (sf : Nat → Nat → Int32) (D : va_G) (cy : Nat → ClassId) (r : gM × Option Value) : Array Value → State → Outcome → State → Prop := fun _ S o t => o = .returned (r.2.map (gsh (gad base st))) ∧ gP base st D cy r.1 t.heap ∧ gI sn sf r.1 ∧ va_F (fun q => base ≤ q) S t
def Mx (id : Nat) (vs : List Value) (G : gM) (r : gM × Option Value) : Prop :=
  ∀ (base : Nat) (st sn : Nat → Nat) (sf : Nat → Nat → Int32) (D : va_G) (cy : Nat → ClassId) (l : Launch), Met l (gy id) (gws id) (grm id) (gPc base st sn sf D cy vs G) (gQc base st sn sf D cy r) (gmc id) (gms id) (fun q => base ≤ q)
theorem gML_all : ∀ id, id < 369 → id ≠ 365 → id ≠ 366 → gMLk id = true := by
  intro id h h1 h2
  have go : ∀ (a n : Nat), (List.range' a n).all gMLk = true → a ≤ id → id < a + n → gMLk id = true := fun a n hh h3 h4 => List.all_eq_true.mp hh id (List.mem_range'_1.mpr ⟨h3, h4⟩)
  rcases (show id < 50 ∨ (50 ≤ id ∧ id < 100) ∨ (100 ≤ id ∧ id < 150) ∨ (150 ≤ id ∧ id < 200) ∨ (200 ≤ id ∧ id < 250) ∨ (250 ≤ id ∧ id < 300) ∨ (300 ≤ id ∧ id < 350) ∨ (350 ≤ id ∧ id < 365) ∨ (367 ≤ id ∧ id < 369) by omega) with h | h | h | h | h | h | h | h | h
  · exact go 0 50 gML_ok_0 (Nat.zero_le _) (by omega)
  · exact go 50 50 gML_ok_1 h.1 (by omega)
  · exact go 100 50 gML_ok_2 h.1 (by omega)
  · exact go 150 50 gML_ok_3 h.1 (by omega)
  · exact go 200 50 gML_ok_4 h.1 (by omega)
  · exact go 250 50 gML_ok_5 h.1 (by omega)
  · exact go 300 50 gML_ok_6 h.1 (by omega)
  · exact go 350 15 gML_ok_7 h.1 (by omega)
  · exact go 367 2 gML_ok_8 h.1 (by omega)
theorem gml {id : Nat} (h : gMLk id = true) : plainName (gy id).cls = true ∧ (gy id).cls = gcn (gown id) ∧ ((gy id).cls ≠ "java/lang/invoke/MethodHandle" ∧ (gy id).cls ≠ "java/lang/invoke/VarHandle") ∧ (gini id = true → (gy id).name = "<init>") := by
  simp only [gMLk, Bool.and_eq_true, decide_eq_true_eq] at h
  obtain ⟨⟨⟨h1, h2⟩, h3⟩, h4⟩ := h
  refine ⟨h1, h2, h3, fun h5 => ?_⟩
  rw [h5] at h4
  simpa using h4
theorem Mx_of {id : Nat} {vs : List Value} {G : gM} {r : gM × Option Value} (hm : gMLk id = true) (hlen : (lg_sl vs).length ≤ gmx id) (h : Sx id 0 (lv_args 0 vs) [] 0 0 G r) : Mx id vs G r := by
  intro base st sn sf D cy l
  obtain ⟨m1, m2, m3, m4⟩ := gml hm
  refine Met.ofW (cc := gb id) (maxL := gmx id) (ret := grt id) m1 rfl ?_
  intro p e s m args below meth c s₁ B hml hv
  obtain ⟨rfl, hP, hI, hSt⟩ := hv
  have hx := B.exec
  have hb := B.bytes
  have hr := B.returns
  have hts := atoms_spec (ws := gws id) B.pre
  have hown : s.vm.findClass (gy id).cls = some m.cls := findClass_of_methodNamed B.named
  rw [m2] at hown
  have hlocks := B.notSynchronized
  have hin : gini id = true → meth.name = "<init>" := fun q => (name_of_methodNamed B.named B.method).1.trans (m4 q)
  have hl := lv_entry (vs.map (gsh (gad base st))) (n := gmx id) (by rw [gls_lg]; exact hlen)
  rw [lg_entry_eq]
  rw [gls_args] at hl
  generalize (lg_sl (vs.map (gsh (gad base st))) ++ List.replicate (gmx id - (lg_sl (vs.map (gsh (gad base st)))).length) Slot.unset).toArray = ls at hl ⊢
  have hbs : base ≤ s.heap.size := by rw [hP.2]; exact Nat.le_add_right _ _
  refine h base st sn sf D cy p l e (headSpec (gws id) (grm id)).room s m _ below meth c s.heap [] ls _ ⟨hx, hb, hr, hml, hown, fun w hw => hts w (List.mem_cons_of_mem _ hw), hin, hlocks, ⟨Nat.le_refl _, Nat.le_refl _, Nat.le_refl _, Nat.le_refl _⟩, hSt, hbs⟩ hP hI va_S.rf rfl hl ?_
  intro H1 locs1 ls1 pc1 i sk1 hd hg hP1 hI1 hS1
  have hQ : ∀ (v : Option Value) (t : State), v = r.2.map (gsh (gad base st)) → t.heap = H1 → gQc base st sn sf D cy r ((vs.map (gsh (gad base st))).toArray) s (.returned v) t := fun v t e1 e2 => ⟨by rw [e1], by rw [e2]; exact hP1, hI1, hS1.F e2⟩
  unfold grv at hg
  split at hg
  · split at hg
    · rename_i hret
      have hg2 : r.2 = none := (Option.some.inj hg).symm
      exact W.vret hx hb (hr.trans hret) (fun t ht _ => hQ none t (by rw [hg2]; rfl) ht) hS1.2.2 hd hlocks
    · cases hg
  · rename_i v
    split at hg
    · rename_i hret
      have hg2 : r.2 = some (.int v) := (Option.some.inj hg).symm
      exact W.iret hx hb (hr.trans hret) (fun t ht _ => hQ (some (.int v)) t (by rw [hg2]; rfl) ht) hS1.2.2 hd hlocks
    · rename_i hret
      split at hg
      · rename_i hv1
        have hg2 : r.2 = some (.int v) := (Option.some.inj hg).symm
        exact W.zret hx hb (hr.trans hret) (by show Value.int (v &&& 1) = .int v; rw [hv1]) (fun t ht _ => hQ (some (.int v)) t (by rw [hg2]; rfl) ht) hS1.2.2 hd hlocks
      · cases hg
    · cases hg
  · rename_i v
    split at hg
    · rename_i hret
      have hg2 : r.2 = some (.long v) := (Option.some.inj hg).symm
      exact W.lret hx hb (hr.trans hret) (fun t ht _ => hQ (some (.long v)) t (by rw [hg2]; rfl) ht) hS1.2.2 hd hlocks
    · cases hg
  · rename_i a
    split at hg
    · rename_i n hret
      have hg2 : r.2 = some (.ref a) := (Option.some.inj hg).symm
      exact W.aret hx hb (hr.trans hret) (Or.inl ⟨n, rfl⟩) (Or.inr ⟨_, rfl⟩) (fun t ht _ => hQ (some (.ref (gad base st a))) t (by rw [hg2]; rfl) ht) hS1.2.2 hd hlocks
    · rename_i n hret
      have hg2 : r.2 = some (.ref a) := (Option.some.inj hg).symm
      exact W.aret hx hb (hr.trans hret) (Or.inr ⟨n, rfl⟩) (Or.inr ⟨_, rfl⟩) (fun t ht _ => hQ (some (.ref (gad base st a))) t (by rw [hg2]; rfl) ht) hS1.2.2 hd hlocks
    · cases hg
  · cases hg
