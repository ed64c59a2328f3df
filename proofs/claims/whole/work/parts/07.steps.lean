/-! ===== the judgement: from a place in a method, with these numbers, over this memory, it comes to that end ===== -/
def gsh (ad : Nat → Nat) (v : Value) : Value := match v with
  | .ref k => .ref (ad k)
  | .int x => .int x
  | .long x => .long x
  | .float x => .float x
  | .double x => .double x
  | .null => .null
  | .retAddr x => .retAddr x
theorem gsh_cat (ad : Nat → Nat) (v : Value) : (gsh ad v).category = v.category := by cases v <;> rfl
def gls (ad : Nat → Nat) (lo : List (Nat × Value)) : List (Nat × Value) := lo.map (fun q => (q.1, gsh ad q.2))
theorem gls_lg (ad : Nat → Nat) (vs : List Value) : (lg_sl (vs.map (gsh ad))).length = (lg_sl vs).length := by
  unfold lg_sl
  induction vs with
  | nil => rfl
  | cons v vs ih =>
    simp only [List.map_cons, List.flatMap_cons, List.length_append, ih, gsh_cat]
    by_cases h : v.category = 2 <;> simp [h]
theorem gls_args (ad : Nat → Nat) (vs : List Value) : ∀ i, lv_args i (vs.map (gsh ad)) = gls ad (lv_args i vs) := by
  induction vs with
  | nil => intro i; rfl
  | cons v vs ih =>
    intro i
    simp only [List.map_cons, lv_args, gls, gsh_cat]
    rw [ih]
    rfl
theorem gls_look {ad : Nat → Nat} {lo : List (Nat × Value)} {i : Nat} {v : Value} (h : lo.lookup i = some v) : (i, gsh ad v) ∈ gls ad lo := by
  induction lo with
  | nil => simp at h
  | cons q lo ih =>
    obtain ⟨j, w⟩ := q
    rw [List.lookup_cons] at h
    by_cases e : i = j
    · subst e
      simp at h
      subst h
      exact List.mem_cons_self
    · have e2 : (i == j) = false := by simpa using e
      rw [e2] at h
      exact List.mem_cons_of_mem _ (ih h)
theorem gls_at {ad : Nat → Nat} {ls : Array Slot} {n : Nat} {lo : List (Nat × Value)} {i : Nat} {v : Value} (hl : lv_has ls n (gls ad lo)) (h : lo.lookup i = some v) : ls[i]? = some (.val (gsh ad v)) := hl.2.2 (i, gsh ad v) (gls_look h)
/-- a value of one place is put down -/
def gst1 (i : Nat) (v : Value) (lo : List (Nat × Value)) : List (Nat × Value) := (i, v) :: lo.filter (fun q => !(q.1 == i) && !(q.1 + 1 == i && q.2.category == 2))
def gst2 (i : Nat) (v : Value) (lo : List (Nat × Value)) : List (Nat × Value) := (i, v) :: lo.filter (fun q => !(q.1 == i) && (!(q.1 == i + 1) && !(q.1 + 1 == i && q.2.category == 2)))
theorem gls_st1 (ad : Nat → Nat) (i : Nat) (v : Value) (lo : List (Nat × Value)) : (i, gsh ad v) :: (gls ad lo).filter (fun q => !(q.1 == i) && !(q.1 + 1 == i && q.2.category == 2)) = gls ad (gst1 i v lo) := by
  unfold gst1 gls
  rw [List.map_cons, List.filter_map]
  congr 3
  funext q
  simp [Function.comp, gsh_cat]
theorem gls_st2 (ad : Nat → Nat) (i : Nat) (v : Value) (lo : List (Nat × Value)) : (i, gsh ad v) :: (gls ad lo).filter (fun q => !(q.1 == i) && (!(q.1 == i + 1) && !(q.1 + 1 == i && q.2.category == 2))) = gls ad (gst2 i v lo) := by
  unfold gst2 gls
  rw [List.map_cons, List.filter_map]
  congr 3
  funext q
  simp [Function.comp, gsh_cat]
def gP (base : Nat) (st : Nat → Nat) (D : va_G) (cy : Nat → ClassId) (G : gM) (H : Heap) : Prop := va_P D vwCl (gWd base st cy G) H ∧ H.size = base + G.1
/-- the three makers that only the nest may call -/
def gEL : List (Nat × Nat) := [(11036, 180), (11043, 79), (6009, 173)]
def gSt (base : Nat) (st sn : Nat → Nat) (sf : Nat → Nat → Int32) (D : va_G) (cy : Nat → ClassId) (U : State) (H : Heap) : Prop :=
  va_K D vwCl (gtys cy) U ∧ (∀ j, j < 4 → va_T .int (st j) (sn j) (fun i => .int (sf j i)) (fun q => base ≤ q) U H) ∧ (∀ j, j < 3 → va_Z (gsta j).1 (gsta j).2 "[I" (.ref (st j)) (fun q => base ≤ q) U H) ∧ va_AO "CraftHouse$Bytes" U ∧ va_AO "CraftHouse$Store" U ∧
  (∀ e ∈ gEL, va_Nw (.methodLinkNest (gcn (e.1 / 1000)) (e.1 % 1000) (gy e.2) "CraftHouse") U)
theorem gSt.moved {base : Nat} {st sn : Nat → Nat} {sf : Nat → Nat → Int32} {D : va_G} {cy : Nat → ClassId} {u U : State} {H : Heap} (hW : u.WarmedH U.vm) (h : gSt base st sn sf D cy u H) : gSt base st sn sf D cy U H := by
  obtain ⟨h1, h2, h3, h4, h5, h6⟩ := h
  have hvm := hW.alike
  exact ⟨va_K.moved hvm h1, fun j hj => (h2 j hj).moved hvm, fun j hj => (h3 j hj).moved hvm, h4.moved hvm, h5.moved hvm, fun e he => va_Nw.warmM hW (h6 e he)⟩
theorem gSt.same {base : Nat} {st sn : Nat → Nat} {sf : Nat → Nat → Int32} {D : va_G} {cy : Nat → ClassId} {u U : State} {H : Heap} (hv : u.vm = U.vm) (h : gSt base st sn sf D cy u H) : gSt base st sn sf D cy U H := by
  obtain ⟨h1, h2, h3, h4, h5, h6⟩ := h
  have hvm : u.vm.Alike U.vm := hv ▸ Vm.Alike.refl u.vm
  exact ⟨va_K.moved hvm h1, fun j hj => (h2 j hj).moved hvm, fun j hj => (h3 j hj).moved hvm, h4.moved hvm, h5.moved hvm, fun e he => va_Nw.same rfl hv (h6 e he)⟩
theorem gSt.kept {base : Nat} {st sn : Nat → Nat} {sf : Nat → Nat → Int32} {D : va_G} {cy : Nat → ClassId} {U : State} {H H1 : Heap} (h : gSt base st sn sf D cy U H) (hq : ∀ a : Nat, a < H.size → ¬ base ≤ a → H1[a]? = H[a]?) : gSt base st sn sf D cy U H1 := by
  obtain ⟨h1, h2, h3, h4⟩ := h
  exact ⟨h1, fun j hj => (h2 j hj).kept hq, fun j hj => (h3 j hj).kept hq, h4⟩
def gCx (base : Nat) (st sn : Nat → Nat) (sf : Nat → Nat → Int32) (D : va_G) (cy : Nat → ClassId) (p : Program) (R : Room) (s : State) (m : MethodId) (args : Array Value) (meth : Method) (c : Code) (id : Nat) : Prop :=
  p.tables.exec = Jvm.exec ∧ c.code = gb id ∧ meth.sig.returnType = grt id ∧ c.maxLocals = gmx id ∧ s.vm.findClass (gcn (gown id)) = some m.cls ∧ (∀ w ∈ gtb, w.before args s = true) ∧ (gini id = true → meth.name = "<init>") ∧ meth.locks = false ∧
  (gfr id ≤ R.frames ∧ glo id ≤ R.locals ∧ gmc id ≤ R.cells ∧ gms id ≤ R.slots) ∧ gSt base st sn sf D cy s s.heap ∧ base ≤ s.heap.size
def grv (id : Nat) (i : Instr) (sk : List Value) : Option (Option Value) := match i, sk with
  | .return_, [] => match grt id with
    | none => some none
    | _ => none
  | .ireturn, [.int v] => match grt id with
    | some .int => some (some (.int v))
    | some .boolean => if v &&& 1 = v then some (some (.int v)) else none
    | _ => none
  | .lreturn, [.long v] => match grt id with
    | some .long => some (some (.long v))
    | _ => none
  | .areturn, [.ref a] => match grt id with
    | some (.object _) => some (some (.ref a))
    | some (.array _) => some (some (.ref a))
    | _ => none
  | _, _ => none
def Sx (id pc : Nat) (lo : List (Nat × Value)) (sk : List Value) (nc ns : Nat) (G : gM) (r : gM × Option Value) : Prop :=
  ∀ (base : Nat) (st sn : Nat → Nat) (sf : Nat → Nat → Int32) (D : va_G) (cy : Nat → ClassId) (p : Program) (l : Launch) (e : Env) (R : Room) (s : State) (m : MethodId) (args : Array Value) (below : List Frame) (meth : Method) (c : Code) (H : Heap) (locs : List Loc) (ls : Array Slot) (Q : State → Prop),
    gCx base st sn sf D cy p R s m args meth c id → gP base st D cy G H → gI sn sf G → va_S (fun q => base ≤ q) s.heap H locs → H.size = s.heap.size + nc → lv_has ls (gmx id) (gls (gad base st) lo) →
    (∀ (H1 : Heap) (locs1 : List Loc) (ls1 : Array Slot) (pc1 : Nat) (i : Instr) (sk1 : List Value), decode (gb id) pc1 = .ok (i, 1) → grv id i sk1 = some r.2 → gP base st D cy r.1 H1 → gI sn sf r.1 → va_S (fun q => base ≤ q) s.heap H1 locs1 →
      W p l e R s m args below meth c H1 locs1 (gmc id) (gms id) Q (F0 m pc1 ls1 (sk1.map (gsh (gad base st))))) →
    W p l e R s m args below meth c H locs nc ns Q (F0 m pc ls (sk.map (gsh (gad base st))))

theorem sx_iadd {id pc : Nat} {lo : List (Nat × Value)} {sk : List Value} {nc ns : Nat} {G : gM} {r : gM × Option Value} {x y : Int32} (hc : decode (gb id) pc = .ok (.iadd, 1))  (k : Sx id (pc + 1) lo (.int (x + y) :: sk) nc ns G r) : Sx id pc lo (.int y :: .int x :: sk) nc ns G r := by
  intro base st sn sf D cy p l e R s m args below meth c H locs ls Q C hP hI hS hZ hl hK
  have C2 := C
  obtain ⟨hx, hb, -⟩ := C2
  refine lv_iadd hx hb hc ?_
  exact k base st sn sf D cy p l e R s m args below meth c H locs ls Q C hP hI hS hZ hl hK
theorem sx_isub {id pc : Nat} {lo : List (Nat × Value)} {sk : List Value} {nc ns : Nat} {G : gM} {r : gM × Option Value} {x y : Int32} (hc : decode (gb id) pc = .ok (.isub, 1))  (k : Sx id (pc + 1) lo (.int (x - y) :: sk) nc ns G r) : Sx id pc lo (.int y :: .int x :: sk) nc ns G r := by
  intro base st sn sf D cy p l e R s m args below meth c H locs ls Q C hP hI hS hZ hl hK
  have C2 := C
  obtain ⟨hx, hb, -⟩ := C2
  refine lv_isub hx hb hc ?_
  exact k base st sn sf D cy p l e R s m args below meth c H locs ls Q C hP hI hS hZ hl hK
theorem sx_imul {id pc : Nat} {lo : List (Nat × Value)} {sk : List Value} {nc ns : Nat} {G : gM} {r : gM × Option Value} {x y : Int32} (hc : decode (gb id) pc = .ok (.imul, 1))  (k : Sx id (pc + 1) lo (.int (x * y) :: sk) nc ns G r) : Sx id pc lo (.int y :: .int x :: sk) nc ns G r := by
  intro base st sn sf D cy p l e R s m args below meth c H locs ls Q C hP hI hS hZ hl hK
  have C2 := C
  obtain ⟨hx, hb, -⟩ := C2
  refine lv_imul hx hb hc ?_
  exact k base st sn sf D cy p l e R s m args below meth c H locs ls Q C hP hI hS hZ hl hK
theorem sx_iand {id pc : Nat} {lo : List (Nat × Value)} {sk : List Value} {nc ns : Nat} {G : gM} {r : gM × Option Value} {x y : Int32} (hc : decode (gb id) pc = .ok (.iand, 1))  (k : Sx id (pc + 1) lo (.int (x &&& y) :: sk) nc ns G r) : Sx id pc lo (.int y :: .int x :: sk) nc ns G r := by
  intro base st sn sf D cy p l e R s m args below meth c H locs ls Q C hP hI hS hZ hl hK
  have C2 := C
  obtain ⟨hx, hb, -⟩ := C2
  refine lv_iand hx hb hc ?_
  exact k base st sn sf D cy p l e R s m args below meth c H locs ls Q C hP hI hS hZ hl hK
theorem sx_ior {id pc : Nat} {lo : List (Nat × Value)} {sk : List Value} {nc ns : Nat} {G : gM} {r : gM × Option Value} {x y : Int32} (hc : decode (gb id) pc = .ok (.ior, 1))  (k : Sx id (pc + 1) lo (.int (x ||| y) :: sk) nc ns G r) : Sx id pc lo (.int y :: .int x :: sk) nc ns G r := by
  intro base st sn sf D cy p l e R s m args below meth c H locs ls Q C hP hI hS hZ hl hK
  have C2 := C
  obtain ⟨hx, hb, -⟩ := C2
  refine lv_ior hx hb hc ?_
  exact k base st sn sf D cy p l e R s m args below meth c H locs ls Q C hP hI hS hZ hl hK
theorem sx_ixor {id pc : Nat} {lo : List (Nat × Value)} {sk : List Value} {nc ns : Nat} {G : gM} {r : gM × Option Value} {x y : Int32} (hc : decode (gb id) pc = .ok (.ixor, 1))  (k : Sx id (pc + 1) lo (.int (x ^^^ y) :: sk) nc ns G r) : Sx id pc lo (.int y :: .int x :: sk) nc ns G r := by
  intro base st sn sf D cy p l e R s m args below meth c H locs ls Q C hP hI hS hZ hl hK
  have C2 := C
  obtain ⟨hx, hb, -⟩ := C2
  refine lv_ixor hx hb hc ?_
  exact k base st sn sf D cy p l e R s m args below meth c H locs ls Q C hP hI hS hZ hl hK
theorem sx_ishl {id pc : Nat} {lo : List (Nat × Value)} {sk : List Value} {nc ns : Nat} {G : gM} {r : gM × Option Value} {x y : Int32} (hc : decode (gb id) pc = .ok (.ishl, 1))  (k : Sx id (pc + 1) lo (.int (x <<< (y &&& 31)) :: sk) nc ns G r) : Sx id pc lo (.int y :: .int x :: sk) nc ns G r := by
  intro base st sn sf D cy p l e R s m args below meth c H locs ls Q C hP hI hS hZ hl hK
  have C2 := C
  obtain ⟨hx, hb, -⟩ := C2
  refine lv_ishl hx hb hc ?_
  exact k base st sn sf D cy p l e R s m args below meth c H locs ls Q C hP hI hS hZ hl hK
theorem sx_ishr {id pc : Nat} {lo : List (Nat × Value)} {sk : List Value} {nc ns : Nat} {G : gM} {r : gM × Option Value} {x y : Int32} (hc : decode (gb id) pc = .ok (.ishr, 1))  (k : Sx id (pc + 1) lo (.int (x >>> (y &&& 31)) :: sk) nc ns G r) : Sx id pc lo (.int y :: .int x :: sk) nc ns G r := by
  intro base st sn sf D cy p l e R s m args below meth c H locs ls Q C hP hI hS hZ hl hK
  have C2 := C
  obtain ⟨hx, hb, -⟩ := C2
  refine lv_ishr hx hb hc ?_
  exact k base st sn sf D cy p l e R s m args below meth c H locs ls Q C hP hI hS hZ hl hK
theorem sx_idiv {id pc : Nat} {lo : List (Nat × Value)} {sk : List Value} {nc ns : Nat} {G : gM} {r : gM × Option Value} {x y : Int32} (hc : decode (gb id) pc = .ok (.idiv, 1)) (hne : ¬ y = 0) (k : Sx id (pc + 1) lo (.int (x / y) :: sk) nc ns G r) : Sx id pc lo (.int y :: .int x :: sk) nc ns G r := by
  intro base st sn sf D cy p l e R s m args below meth c H locs ls Q C hP hI hS hZ hl hK
  have C2 := C
  obtain ⟨hx, hb, -⟩ := C2
  refine lv_idiv hx hb hc hne ?_
  exact k base st sn sf D cy p l e R s m args below meth c H locs ls Q C hP hI hS hZ hl hK
theorem sx_irem {id pc : Nat} {lo : List (Nat × Value)} {sk : List Value} {nc ns : Nat} {G : gM} {r : gM × Option Value} {x y : Int32} (hc : decode (gb id) pc = .ok (.irem, 1)) (hne : ¬ y = 0) (k : Sx id (pc + 1) lo (.int (x - (x / y) * y) :: sk) nc ns G r) : Sx id pc lo (.int y :: .int x :: sk) nc ns G r := by
  intro base st sn sf D cy p l e R s m args below meth c H locs ls Q C hP hI hS hZ hl hK
  have C2 := C
  obtain ⟨hx, hb, -⟩ := C2
  refine lv_irem hx hb hc hne ?_
  exact k base st sn sf D cy p l e R s m args below meth c H locs ls Q C hP hI hS hZ hl hK
theorem sx_iushr {id pc : Nat} {lo : List (Nat × Value)} {sk : List Value} {nc ns : Nat} {G : gM} {r : gM × Option Value} {x y : Int32} (hc : decode (gb id) pc = .ok (.iushr, 1))  (k : Sx id (pc + 1) lo (.int (x.toUInt32 >>> (y.toUInt32 &&& Int32.toUInt32 31)).toInt32 :: sk) nc ns G r) : Sx id pc lo (.int y :: .int x :: sk) nc ns G r := by
  intro base st sn sf D cy p l e R s m args below meth c H locs ls Q C hP hI hS hZ hl hK
  have C2 := C
  obtain ⟨hx, hb, -⟩ := C2
  refine lv_iushr hx hb hc rfl ?_
  exact k base st sn sf D cy p l e R s m args below meth c H locs ls Q C hP hI hS hZ hl hK
theorem sx_ineg {id pc : Nat} {lo : List (Nat × Value)} {sk : List Value} {nc ns : Nat} {G : gM} {r : gM × Option Value} {x : Int32} (hc : decode (gb id) pc = .ok (.ineg, 1))  (k : Sx id (pc + 1) lo (.int (-x) :: sk) nc ns G r) : Sx id pc lo (.int x :: sk) nc ns G r := by
  intro base st sn sf D cy p l e R s m args below meth c H locs ls Q C hP hI hS hZ hl hK
  have C2 := C
  obtain ⟨hx, hb, -⟩ := C2
  refine lv_ineg hx hb hc ?_
  exact k base st sn sf D cy p l e R s m args below meth c H locs ls Q C hP hI hS hZ hl hK
theorem sx_i2b {id pc : Nat} {lo : List (Nat × Value)} {sk : List Value} {nc ns : Nat} {G : gM} {r : gM × Option Value} {x : Int32} (hc : decode (gb id) pc = .ok (.i2b, 1))  (k : Sx id (pc + 1) lo (.int x.toInt8.toInt32 :: sk) nc ns G r) : Sx id pc lo (.int x :: sk) nc ns G r := by
  intro base st sn sf D cy p l e R s m args below meth c H locs ls Q C hP hI hS hZ hl hK
  have C2 := C
  obtain ⟨hx, hb, -⟩ := C2
  refine lv_i2b hx hb hc rfl ?_
  exact k base st sn sf D cy p l e R s m args below meth c H locs ls Q C hP hI hS hZ hl hK
theorem sx_i2l {id pc : Nat} {lo : List (Nat × Value)} {sk : List Value} {nc ns : Nat} {G : gM} {r : gM × Option Value} {x : Int32} (hc : decode (gb id) pc = .ok (.i2l, 1))  (k : Sx id (pc + 1) lo (.long x.toInt64 :: sk) nc ns G r) : Sx id pc lo (.int x :: sk) nc ns G r := by
  intro base st sn sf D cy p l e R s m args below meth c H locs ls Q C hP hI hS hZ hl hK
  have C2 := C
  obtain ⟨hx, hb, -⟩ := C2
  refine lv_i2l hx hb hc rfl ?_
  exact k base st sn sf D cy p l e R s m args below meth c H locs ls Q C hP hI hS hZ hl hK
theorem sx_l2i {id pc : Nat} {lo : List (Nat × Value)} {sk : List Value} {nc ns : Nat} {G : gM} {r : gM × Option Value} {x : Int64} (hc : decode (gb id) pc = .ok (.l2i, 1))  (k : Sx id (pc + 1) lo (.int x.toInt32 :: sk) nc ns G r) : Sx id pc lo (.long x :: sk) nc ns G r := by
  intro base st sn sf D cy p l e R s m args below meth c H locs ls Q C hP hI hS hZ hl hK
  have C2 := C
  obtain ⟨hx, hb, -⟩ := C2
  refine lv_l2i hx hb hc rfl ?_
  exact k base st sn sf D cy p l e R s m args below meth c H locs ls Q C hP hI hS hZ hl hK
theorem sx_ladd {id pc : Nat} {lo : List (Nat × Value)} {sk : List Value} {nc ns : Nat} {G : gM} {r : gM × Option Value} {x y : Int64} (hc : decode (gb id) pc = .ok (.ladd, 1))  (k : Sx id (pc + 1) lo (.long (x + y) :: sk) nc ns G r) : Sx id pc lo (.long y :: .long x :: sk) nc ns G r := by
  intro base st sn sf D cy p l e R s m args below meth c H locs ls Q C hP hI hS hZ hl hK
  have C2 := C
  obtain ⟨hx, hb, -⟩ := C2
  refine lv_ladd hx hb hc ?_
  exact k base st sn sf D cy p l e R s m args below meth c H locs ls Q C hP hI hS hZ hl hK
theorem sx_land {id pc : Nat} {lo : List (Nat × Value)} {sk : List Value} {nc ns : Nat} {G : gM} {r : gM × Option Value} {x y : Int64} (hc : decode (gb id) pc = .ok (.land, 1))  (k : Sx id (pc + 1) lo (.long (x &&& y) :: sk) nc ns G r) : Sx id pc lo (.long y :: .long x :: sk) nc ns G r := by
  intro base st sn sf D cy p l e R s m args below meth c H locs ls Q C hP hI hS hZ hl hK
  have C2 := C
  obtain ⟨hx, hb, -⟩ := C2
  refine lv_land hx hb hc ?_
  exact k base st sn sf D cy p l e R s m args below meth c H locs ls Q C hP hI hS hZ hl hK
theorem sx_lor {id pc : Nat} {lo : List (Nat × Value)} {sk : List Value} {nc ns : Nat} {G : gM} {r : gM × Option Value} {x y : Int64} (hc : decode (gb id) pc = .ok (.lor, 1))  (k : Sx id (pc + 1) lo (.long (x ||| y) :: sk) nc ns G r) : Sx id pc lo (.long y :: .long x :: sk) nc ns G r := by
  intro base st sn sf D cy p l e R s m args below meth c H locs ls Q C hP hI hS hZ hl hK
  have C2 := C
  obtain ⟨hx, hb, -⟩ := C2
  refine lv_lor hx hb hc ?_
  exact k base st sn sf D cy p l e R s m args below meth c H locs ls Q C hP hI hS hZ hl hK
theorem sx_lxor {id pc : Nat} {lo : List (Nat × Value)} {sk : List Value} {nc ns : Nat} {G : gM} {r : gM × Option Value} {x y : Int64} (hc : decode (gb id) pc = .ok (.lxor, 1))  (k : Sx id (pc + 1) lo (.long (x ^^^ y) :: sk) nc ns G r) : Sx id pc lo (.long y :: .long x :: sk) nc ns G r := by
  intro base st sn sf D cy p l e R s m args below meth c H locs ls Q C hP hI hS hZ hl hK
  have C2 := C
  obtain ⟨hx, hb, -⟩ := C2
  refine lv_lxor hx hb hc ?_
  exact k base st sn sf D cy p l e R s m args below meth c H locs ls Q C hP hI hS hZ hl hK
theorem sx_lshl {id pc : Nat} {lo : List (Nat × Value)} {sk : List Value} {nc ns : Nat} {G : gM} {r : gM × Option Value} {x : Int64} {y : Int32} (hc : decode (gb id) pc = .ok (.lshl, 1))  (k : Sx id (pc + 1) lo (.long (x <<< (y.toInt64 &&& 63)) :: sk) nc ns G r) : Sx id pc lo (.int y :: .long x :: sk) nc ns G r := by
  intro base st sn sf D cy p l e R s m args below meth c H locs ls Q C hP hI hS hZ hl hK
  have C2 := C
  obtain ⟨hx, hb, -⟩ := C2
  refine lv_lshl hx hb hc rfl ?_
  exact k base st sn sf D cy p l e R s m args below meth c H locs ls Q C hP hI hS hZ hl hK
theorem sx_lushr {id pc : Nat} {lo : List (Nat × Value)} {sk : List Value} {nc ns : Nat} {G : gM} {r : gM × Option Value} {x : Int64} {y : Int32} (hc : decode (gb id) pc = .ok (.lushr, 1))  (k : Sx id (pc + 1) lo (.long (x.toUInt64 >>> (y.toInt64.toUInt64 &&& Int64.toUInt64 63)).toInt64 :: sk) nc ns G r) : Sx id pc lo (.int y :: .long x :: sk) nc ns G r := by
  intro base st sn sf D cy p l e R s m args below meth c H locs ls Q C hP hI hS hZ hl hK
  have C2 := C
  obtain ⟨hx, hb, -⟩ := C2
  refine lv_lushr hx hb hc rfl ?_
  exact k base st sn sf D cy p l e R s m args below meth c H locs ls Q C hP hI hS hZ hl hK
theorem sx_lcmp {id pc : Nat} {lo : List (Nat × Value)} {sk : List Value} {nc ns : Nat} {G : gM} {r : gM × Option Value} {x y : Int64} (hc : decode (gb id) pc = .ok (.lcmp, 1))  (k : Sx id (pc + 1) lo (.int (lg_cmp x y) :: sk) nc ns G r) : Sx id pc lo (.long y :: .long x :: sk) nc ns G r := by
  intro base st sn sf D cy p l e R s m args below meth c H locs ls Q C hP hI hS hZ hl hK
  have C2 := C
  obtain ⟨hx, hb, -⟩ := C2
  refine W.lcmp hx hb hc ?_
  exact k base st sn sf D cy p l e R s m args below meth c H locs ls Q C hP hI hS hZ hl hK
theorem sx_iconst {id pc : Nat} {lo : List (Nat × Value)} {sk : List Value} {nc ns : Nat} {G : gM} {r : gM × Option Value} {n : Int} {v : Int32} (hc : decode (gb id) pc = .ok (.iconst n, 1)) (hv : Int32.ofInt n = v) (k : Sx id (pc + 1) lo (.int v :: sk) nc ns G r) : Sx id pc lo (sk) nc ns G r := by
  intro base st sn sf D cy p l e R s m args below meth c H locs ls Q C hP hI hS hZ hl hK
  have C2 := C
  obtain ⟨hx, hb, -⟩ := C2
  refine lv_iconst hx hb hc hv ?_
  exact k base st sn sf D cy p l e R s m args below meth c H locs ls Q C hP hI hS hZ hl hK
theorem sx_bipush {id pc : Nat} {lo : List (Nat × Value)} {sk : List Value} {nc ns : Nat} {G : gM} {r : gM × Option Value} {n : Int} {v : Int32} (hc : decode (gb id) pc = .ok (.bipush n, 2)) (hv : (Int8.ofInt n).toInt32 = v) (k : Sx id (pc + 2) lo (.int v :: sk) nc ns G r) : Sx id pc lo (sk) nc ns G r := by
  intro base st sn sf D cy p l e R s m args below meth c H locs ls Q C hP hI hS hZ hl hK
  have C2 := C
  obtain ⟨hx, hb, -⟩ := C2
  refine lv_bipush hx hb hc hv ?_
  exact k base st sn sf D cy p l e R s m args below meth c H locs ls Q C hP hI hS hZ hl hK
theorem sx_sipush {id pc : Nat} {lo : List (Nat × Value)} {sk : List Value} {nc ns : Nat} {G : gM} {r : gM × Option Value} {n : Int} {v : Int32} (hc : decode (gb id) pc = .ok (.sipush n, 3)) (hv : (Int16.ofInt n).toInt32 = v) (k : Sx id (pc + 3) lo (.int v :: sk) nc ns G r) : Sx id pc lo (sk) nc ns G r := by
  intro base st sn sf D cy p l e R s m args below meth c H locs ls Q C hP hI hS hZ hl hK
  have C2 := C
  obtain ⟨hx, hb, -⟩ := C2
  refine lv_sipush hx hb hc hv ?_
  exact k base st sn sf D cy p l e R s m args below meth c H locs ls Q C hP hI hS hZ hl hK
theorem sx_lconst {id pc : Nat} {lo : List (Nat × Value)} {sk : List Value} {nc ns : Nat} {G : gM} {r : gM × Option Value} {n : Fin 2} {v : Int64} (hc : decode (gb id) pc = .ok (.lconst n, 1)) (hv : Int64.ofNat (n : Nat) = v) (k : Sx id (pc + 1) lo (.long v :: sk) nc ns G r) : Sx id pc lo (sk) nc ns G r := by
  intro base st sn sf D cy p l e R s m args below meth c H locs ls Q C hP hI hS hZ hl hK
  have C2 := C
  obtain ⟨hx, hb, -⟩ := C2
  refine lv_lconst hx hb hc hv ?_
  exact k base st sn sf D cy p l e R s m args below meth c H locs ls Q C hP hI hS hZ hl hK
theorem sx_dup {id pc : Nat} {lo : List (Nat × Value)} {sk : List Value} {nc ns : Nat} {G : gM} {r : gM × Option Value} {va : Value} (hc : decode (gb id) pc = .ok (.dup, 1)) (hva : va.category = 1) (k : Sx id (pc + 1) lo (va :: va :: sk) nc ns G r) : Sx id pc lo (va :: sk) nc ns G r := by
  intro base st sn sf D cy p l e R s m args below meth c H locs ls Q C hP hI hS hZ hl hK
  have C2 := C
  obtain ⟨hx, hb, -⟩ := C2
  refine lv_dup hx hb hc (by rw [gsh_cat]; exact hva) ?_
  exact k base st sn sf D cy p l e R s m args below meth c H locs ls Q C hP hI hS hZ hl hK
theorem sx_pop {id pc : Nat} {lo : List (Nat × Value)} {sk : List Value} {nc ns : Nat} {G : gM} {r : gM × Option Value} {va : Value} (hc : decode (gb id) pc = .ok (.pop, 1)) (hva : va.category = 1) (k : Sx id (pc + 1) lo (sk) nc ns G r) : Sx id pc lo (va :: sk) nc ns G r := by
  intro base st sn sf D cy p l e R s m args below meth c H locs ls Q C hP hI hS hZ hl hK
  have C2 := C
  obtain ⟨hx, hb, -⟩ := C2
  refine lv_pop hx hb hc (by rw [gsh_cat]; exact hva) ?_
  exact k base st sn sf D cy p l e R s m args below meth c H locs ls Q C hP hI hS hZ hl hK
theorem sx_dup2 {id pc : Nat} {lo : List (Nat × Value)} {sk : List Value} {nc ns : Nat} {G : gM} {r : gM × Option Value} {va vb : Value} (hc : decode (gb id) pc = .ok (.dup2, 1)) (hva : va.category = 1) (hvb : vb.category = 1) (k : Sx id (pc + 1) lo (va :: vb :: va :: vb :: sk) nc ns G r) : Sx id pc lo (va :: vb :: sk) nc ns G r := by
  intro base st sn sf D cy p l e R s m args below meth c H locs ls Q C hP hI hS hZ hl hK
  have C2 := C
  obtain ⟨hx, hb, -⟩ := C2
  refine lv_dup2_11 hx hb hc (by rw [gsh_cat]; exact hva) (by rw [gsh_cat]; exact hvb) ?_
  exact k base st sn sf D cy p l e R s m args below meth c H locs ls Q C hP hI hS hZ hl hK
theorem sx_iload {id pc : Nat} {lo : List (Nat × Value)} {sk : List Value} {nc ns : Nat} {G : gM} {r : gM × Option Value} {i : Nat} {x : Int32} (hc : decode (gb id) pc = .ok (.iload i, 2)) (hlk : lo.lookup i = some (.int x)) (k : Sx id (pc + 2) lo (.int x :: sk) nc ns G r) : Sx id pc lo (sk) nc ns G r := by
  intro base st sn sf D cy p l e R s m args below meth c H locs ls Q C hP hI hS hZ hl hK
  have C2 := C
  obtain ⟨hx, hb, -⟩ := C2
  refine lv_iload hx hb hc (gls_at hl hlk) ?_
  exact k base st sn sf D cy p l e R s m args below meth c H locs ls Q C hP hI hS hZ hl hK
theorem sx_iload_n {id pc : Nat} {lo : List (Nat × Value)} {sk : List Value} {nc ns : Nat} {G : gM} {r : gM × Option Value} {kk : Fin 4} {i : Nat} {x : Int32} (hc : decode (gb id) pc = .ok (.iload_n kk, 1)) (hi : (kk : Nat) = i) (hlk : lo.lookup i = some (.int x)) (k : Sx id (pc + 1) lo (.int x :: sk) nc ns G r) : Sx id pc lo (sk) nc ns G r := by
  intro base st sn sf D cy p l e R s m args below meth c H locs ls Q C hP hI hS hZ hl hK
  have C2 := C
  obtain ⟨hx, hb, -⟩ := C2
  refine lv_iload_n hx hb hc hi (gls_at hl hlk) ?_
  exact k base st sn sf D cy p l e R s m args below meth c H locs ls Q C hP hI hS hZ hl hK
theorem sx_lload {id pc : Nat} {lo : List (Nat × Value)} {sk : List Value} {nc ns : Nat} {G : gM} {r : gM × Option Value} {i : Nat} {x : Int64} (hc : decode (gb id) pc = .ok (.lload i, 2)) (hlk : lo.lookup i = some (.long x)) (k : Sx id (pc + 2) lo (.long x :: sk) nc ns G r) : Sx id pc lo (sk) nc ns G r := by
  intro base st sn sf D cy p l e R s m args below meth c H locs ls Q C hP hI hS hZ hl hK
  have C2 := C
  obtain ⟨hx, hb, -⟩ := C2
  refine lv_lload hx hb hc (gls_at hl hlk) ?_
  exact k base st sn sf D cy p l e R s m args below meth c H locs ls Q C hP hI hS hZ hl hK
theorem sx_lload_n {id pc : Nat} {lo : List (Nat × Value)} {sk : List Value} {nc ns : Nat} {G : gM} {r : gM × Option Value} {kk : Fin 4} {i : Nat} {x : Int64} (hc : decode (gb id) pc = .ok (.lload_n kk, 1)) (hi : (kk : Nat) = i) (hlk : lo.lookup i = some (.long x)) (k : Sx id (pc + 1) lo (.long x :: sk) nc ns G r) : Sx id pc lo (sk) nc ns G r := by
  intro base st sn sf D cy p l e R s m args below meth c H locs ls Q C hP hI hS hZ hl hK
  have C2 := C
  obtain ⟨hx, hb, -⟩ := C2
  refine lv_lload_n hx hb hc hi (gls_at hl hlk) ?_
  exact k base st sn sf D cy p l e R s m args below meth c H locs ls Q C hP hI hS hZ hl hK
theorem sx_aload {id pc : Nat} {lo : List (Nat × Value)} {sk : List Value} {nc ns : Nat} {G : gM} {r : gM × Option Value} {i : Nat} {x : Nat} (hc : decode (gb id) pc = .ok (.aload i, 2)) (hlk : lo.lookup i = some (.ref x)) (k : Sx id (pc + 2) lo (.ref x :: sk) nc ns G r) : Sx id pc lo (sk) nc ns G r := by
  intro base st sn sf D cy p l e R s m args below meth c H locs ls Q C hP hI hS hZ hl hK
  have C2 := C
  obtain ⟨hx, hb, -⟩ := C2
  refine lv_aload hx hb hc (gls_at hl hlk) ?_
  exact k base st sn sf D cy p l e R s m args below meth c H locs ls Q C hP hI hS hZ hl hK
theorem sx_aload_n {id pc : Nat} {lo : List (Nat × Value)} {sk : List Value} {nc ns : Nat} {G : gM} {r : gM × Option Value} {kk : Fin 4} {i : Nat} {x : Nat} (hc : decode (gb id) pc = .ok (.aload_n kk, 1)) (hi : (kk : Nat) = i) (hlk : lo.lookup i = some (.ref x)) (k : Sx id (pc + 1) lo (.ref x :: sk) nc ns G r) : Sx id pc lo (sk) nc ns G r := by
  intro base st sn sf D cy p l e R s m args below meth c H locs ls Q C hP hI hS hZ hl hK
  have C2 := C
  obtain ⟨hx, hb, -⟩ := C2
  refine lv_aload_n hx hb hc hi (gls_at hl hlk) ?_
  exact k base st sn sf D cy p l e R s m args below meth c H locs ls Q C hP hI hS hZ hl hK
theorem sx_istore {id pc : Nat} {lo : List (Nat × Value)} {sk : List Value} {nc ns : Nat} {G : gM} {r : gM × Option Value} {i : Nat} {x : Int32} (hc : decode (gb id) pc = .ok (.istore i, 2))  (hn : i < gmx id) (k : Sx id (pc + 2) (gst1 i (.int x) lo) sk nc ns G r) : Sx id pc lo (.int x :: sk) nc ns G r := by
  intro base st sn sf D cy p l e R s m args below meth c H locs ls Q C hP hI hS hZ hl hK
  have C2 := C
  obtain ⟨hx, hb, -⟩ := C2
  refine lv_istore hx hb hc hl hn (gls_st1 _ i (.int x) lo) (fun ls1 hl1 => ?_)
  exact k base st sn sf D cy p l e R s m args below meth c H locs ls1 Q C hP hI hS hZ hl1 hK
theorem sx_istore_n {id pc : Nat} {lo : List (Nat × Value)} {sk : List Value} {nc ns : Nat} {G : gM} {r : gM × Option Value} {kk : Fin 4} {i : Nat} {x : Int32} (hc : decode (gb id) pc = .ok (.istore_n kk, 1)) (hi : (kk : Nat) = i) (hn : i < gmx id) (k : Sx id (pc + 1) (gst1 i (.int x) lo) sk nc ns G r) : Sx id pc lo (.int x :: sk) nc ns G r := by
  intro base st sn sf D cy p l e R s m args below meth c H locs ls Q C hP hI hS hZ hl hK
  have C2 := C
  obtain ⟨hx, hb, -⟩ := C2
  refine lv_istore_n hx hb hc hi hl hn (gls_st1 _ i (.int x) lo) (fun ls1 hl1 => ?_)
  exact k base st sn sf D cy p l e R s m args below meth c H locs ls1 Q C hP hI hS hZ hl1 hK
theorem sx_lstore {id pc : Nat} {lo : List (Nat × Value)} {sk : List Value} {nc ns : Nat} {G : gM} {r : gM × Option Value} {i : Nat} {x : Int64} (hc : decode (gb id) pc = .ok (.lstore i, 2))  (hn : i + 1 < gmx id) (k : Sx id (pc + 2) (gst2 i (.long x) lo) sk nc ns G r) : Sx id pc lo (.long x :: sk) nc ns G r := by
  intro base st sn sf D cy p l e R s m args below meth c H locs ls Q C hP hI hS hZ hl hK
  have C2 := C
  obtain ⟨hx, hb, -⟩ := C2
  refine lv_lstore hx hb hc hl hn (gls_st2 _ i (.long x) lo) (fun ls1 hl1 => ?_)
  exact k base st sn sf D cy p l e R s m args below meth c H locs ls1 Q C hP hI hS hZ hl1 hK
theorem sx_lstore_n {id pc : Nat} {lo : List (Nat × Value)} {sk : List Value} {nc ns : Nat} {G : gM} {r : gM × Option Value} {kk : Fin 4} {i : Nat} {x : Int64} (hc : decode (gb id) pc = .ok (.lstore_n kk, 1)) (hi : (kk : Nat) = i) (hn : i + 1 < gmx id) (k : Sx id (pc + 1) (gst2 i (.long x) lo) sk nc ns G r) : Sx id pc lo (.long x :: sk) nc ns G r := by
  intro base st sn sf D cy p l e R s m args below meth c H locs ls Q C hP hI hS hZ hl hK
  have C2 := C
  obtain ⟨hx, hb, -⟩ := C2
  refine lv_lstore_n hx hb hc hi hl hn (gls_st2 _ i (.long x) lo) (fun ls1 hl1 => ?_)
  exact k base st sn sf D cy p l e R s m args below meth c H locs ls1 Q C hP hI hS hZ hl1 hK
theorem sx_astore {id pc : Nat} {lo : List (Nat × Value)} {sk : List Value} {nc ns : Nat} {G : gM} {r : gM × Option Value} {i : Nat} {x : Nat} (hc : decode (gb id) pc = .ok (.astore i, 2))  (hn : i < gmx id) (k : Sx id (pc + 2) (gst1 i (.ref x) lo) sk nc ns G r) : Sx id pc lo (.ref x :: sk) nc ns G r := by
  intro base st sn sf D cy p l e R s m args below meth c H locs ls Q C hP hI hS hZ hl hK
  have C2 := C
  obtain ⟨hx, hb, -⟩ := C2
  refine lv_astore hx hb hc hl hn (gls_st1 _ i (.ref x) lo) (fun ls1 hl1 => ?_)
  exact k base st sn sf D cy p l e R s m args below meth c H locs ls1 Q C hP hI hS hZ hl1 hK
theorem sx_astore_n {id pc : Nat} {lo : List (Nat × Value)} {sk : List Value} {nc ns : Nat} {G : gM} {r : gM × Option Value} {kk : Fin 4} {i : Nat} {x : Nat} (hc : decode (gb id) pc = .ok (.astore_n kk, 1)) (hi : (kk : Nat) = i) (hn : i < gmx id) (k : Sx id (pc + 1) (gst1 i (.ref x) lo) sk nc ns G r) : Sx id pc lo (.ref x :: sk) nc ns G r := by
  intro base st sn sf D cy p l e R s m args below meth c H locs ls Q C hP hI hS hZ hl hK
  have C2 := C
  obtain ⟨hx, hb, -⟩ := C2
  refine lv_astore_n hx hb hc hi hl hn (gls_st1 _ i (.ref x) lo) (fun ls1 hl1 => ?_)
  exact k base st sn sf D cy p l e R s m args below meth c H locs ls1 Q C hP hI hS hZ hl1 hK
theorem sx_iinc {id pc : Nat} {lo : List (Nat × Value)} {sk : List Value} {nc ns : Nat} {G : gM} {r : gM × Option Value} {i : Nat} {n : Int} {x v : Int32} (hc : decode (gb id) pc = .ok (.iinc i n, 3)) (hlk : lo.lookup i = some (.int x)) (hv : x + Int32.ofInt n = v) (hn : i < gmx id) (k : Sx id (pc + 3) (gst1 i (.int v) lo) sk nc ns G r) : Sx id pc lo sk nc ns G r := by
  intro base st sn sf D cy p l e R s m args below meth c H locs ls Q C hP hI hS hZ hl hK
  have C2 := C
  obtain ⟨hx, hb, -⟩ := C2
  obtain ⟨kk, hkk⟩ := List.getElem?_of_mem (gls_look (ad := gad base st) hlk)
  refine lv_iinc hx hb hc hl (k := kk) hkk hv hn (gls_st1 _ i (.int v) lo) (fun ls1 hl1 => ?_)
  exact k base st sn sf D cy p l e R s m args below meth c H locs ls1 Q C hP hI hS hZ hl1 hK
theorem sx_if_eq {id pc : Nat} {lo : List (Nat × Value)} {sk : List Value} {nc ns : Nat} {G : gM} {r : gM × Option Value} {x : Int32} {off : Int} {tgt : Nat} (hc : decode (gb id) pc = .ok (.ifCond .eq off, 3)) (ht : (pc : Int) + off = (tgt : Int)) (kt : x = 0 → Sx id tgt lo sk nc ns G r) (kf : ¬ x = 0 → Sx id (pc + 3) lo sk nc ns G r) : Sx id pc lo (.int x :: sk) nc ns G r := by
  intro base st sn sf D cy p l e R s m args below meth c H locs ls Q C hP hI hS hZ hl hK
  have C2 := C
  obtain ⟨hx, hb, -⟩ := C2
  exact lv_if_eq hx hb hc ht (fun q => kt q base st sn sf D cy p l e R s m args below meth c H locs ls Q C hP hI hS hZ hl hK) (fun q => kf q base st sn sf D cy p l e R s m args below meth c H locs ls Q C hP hI hS hZ hl hK)
theorem sx_if_ne {id pc : Nat} {lo : List (Nat × Value)} {sk : List Value} {nc ns : Nat} {G : gM} {r : gM × Option Value} {x : Int32} {off : Int} {tgt : Nat} (hc : decode (gb id) pc = .ok (.ifCond .ne off, 3)) (ht : (pc : Int) + off = (tgt : Int)) (kt : ¬ x = 0 → Sx id tgt lo sk nc ns G r) (kf : x = 0 → Sx id (pc + 3) lo sk nc ns G r) : Sx id pc lo (.int x :: sk) nc ns G r := by
  intro base st sn sf D cy p l e R s m args below meth c H locs ls Q C hP hI hS hZ hl hK
  have C2 := C
  obtain ⟨hx, hb, -⟩ := C2
  exact lv_if_ne hx hb hc ht (fun q => kt q base st sn sf D cy p l e R s m args below meth c H locs ls Q C hP hI hS hZ hl hK) (fun q => kf q base st sn sf D cy p l e R s m args below meth c H locs ls Q C hP hI hS hZ hl hK)
theorem sx_if_lt {id pc : Nat} {lo : List (Nat × Value)} {sk : List Value} {nc ns : Nat} {G : gM} {r : gM × Option Value} {x : Int32} {off : Int} {tgt : Nat} (hc : decode (gb id) pc = .ok (.ifCond .lt off, 3)) (ht : (pc : Int) + off = (tgt : Int)) (kt : x < 0 → Sx id tgt lo sk nc ns G r) (kf : ¬ x < 0 → Sx id (pc + 3) lo sk nc ns G r) : Sx id pc lo (.int x :: sk) nc ns G r := by
  intro base st sn sf D cy p l e R s m args below meth c H locs ls Q C hP hI hS hZ hl hK
  have C2 := C
  obtain ⟨hx, hb, -⟩ := C2
  exact lv_if_lt hx hb hc ht (fun q => kt q base st sn sf D cy p l e R s m args below meth c H locs ls Q C hP hI hS hZ hl hK) (fun q => kf q base st sn sf D cy p l e R s m args below meth c H locs ls Q C hP hI hS hZ hl hK)
theorem sx_if_ge {id pc : Nat} {lo : List (Nat × Value)} {sk : List Value} {nc ns : Nat} {G : gM} {r : gM × Option Value} {x : Int32} {off : Int} {tgt : Nat} (hc : decode (gb id) pc = .ok (.ifCond .ge off, 3)) (ht : (pc : Int) + off = (tgt : Int)) (kt : 0 ≤ x → Sx id tgt lo sk nc ns G r) (kf : ¬ 0 ≤ x → Sx id (pc + 3) lo sk nc ns G r) : Sx id pc lo (.int x :: sk) nc ns G r := by
  intro base st sn sf D cy p l e R s m args below meth c H locs ls Q C hP hI hS hZ hl hK
  have C2 := C
  obtain ⟨hx, hb, -⟩ := C2
  exact lv_if_ge hx hb hc ht (fun q => kt q base st sn sf D cy p l e R s m args below meth c H locs ls Q C hP hI hS hZ hl hK) (fun q => kf q base st sn sf D cy p l e R s m args below meth c H locs ls Q C hP hI hS hZ hl hK)
theorem sx_if_gt {id pc : Nat} {lo : List (Nat × Value)} {sk : List Value} {nc ns : Nat} {G : gM} {r : gM × Option Value} {x : Int32} {off : Int} {tgt : Nat} (hc : decode (gb id) pc = .ok (.ifCond .gt off, 3)) (ht : (pc : Int) + off = (tgt : Int)) (kt : 0 < x → Sx id tgt lo sk nc ns G r) (kf : ¬ 0 < x → Sx id (pc + 3) lo sk nc ns G r) : Sx id pc lo (.int x :: sk) nc ns G r := by
  intro base st sn sf D cy p l e R s m args below meth c H locs ls Q C hP hI hS hZ hl hK
  have C2 := C
  obtain ⟨hx, hb, -⟩ := C2
  exact lv_if_gt hx hb hc ht (fun q => kt q base st sn sf D cy p l e R s m args below meth c H locs ls Q C hP hI hS hZ hl hK) (fun q => kf q base st sn sf D cy p l e R s m args below meth c H locs ls Q C hP hI hS hZ hl hK)
theorem sx_if_le {id pc : Nat} {lo : List (Nat × Value)} {sk : List Value} {nc ns : Nat} {G : gM} {r : gM × Option Value} {x : Int32} {off : Int} {tgt : Nat} (hc : decode (gb id) pc = .ok (.ifCond .le off, 3)) (ht : (pc : Int) + off = (tgt : Int)) (kt : x ≤ 0 → Sx id tgt lo sk nc ns G r) (kf : ¬ x ≤ 0 → Sx id (pc + 3) lo sk nc ns G r) : Sx id pc lo (.int x :: sk) nc ns G r := by
  intro base st sn sf D cy p l e R s m args below meth c H locs ls Q C hP hI hS hZ hl hK
  have C2 := C
  obtain ⟨hx, hb, -⟩ := C2
  exact lv_if_le hx hb hc ht (fun q => kt q base st sn sf D cy p l e R s m args below meth c H locs ls Q C hP hI hS hZ hl hK) (fun q => kf q base st sn sf D cy p l e R s m args below meth c H locs ls Q C hP hI hS hZ hl hK)
theorem sx_icmp_eq {id pc : Nat} {lo : List (Nat × Value)} {sk : List Value} {nc ns : Nat} {G : gM} {r : gM × Option Value} {x y : Int32} {off : Int} {tgt : Nat} (hc : decode (gb id) pc = .ok (.if_icmp .eq off, 3)) (ht : (pc : Int) + off = (tgt : Int)) (kt : x = y → Sx id tgt lo sk nc ns G r) (kf : ¬ x = y → Sx id (pc + 3) lo sk nc ns G r) : Sx id pc lo (.int y :: .int x :: sk) nc ns G r := by
  intro base st sn sf D cy p l e R s m args below meth c H locs ls Q C hP hI hS hZ hl hK
  have C2 := C
  obtain ⟨hx, hb, -⟩ := C2
  exact lv_icmp_eq hx hb hc ht (fun q => kt q base st sn sf D cy p l e R s m args below meth c H locs ls Q C hP hI hS hZ hl hK) (fun q => kf q base st sn sf D cy p l e R s m args below meth c H locs ls Q C hP hI hS hZ hl hK)
theorem sx_icmp_ne {id pc : Nat} {lo : List (Nat × Value)} {sk : List Value} {nc ns : Nat} {G : gM} {r : gM × Option Value} {x y : Int32} {off : Int} {tgt : Nat} (hc : decode (gb id) pc = .ok (.if_icmp .ne off, 3)) (ht : (pc : Int) + off = (tgt : Int)) (kt : ¬ x = y → Sx id tgt lo sk nc ns G r) (kf : x = y → Sx id (pc + 3) lo sk nc ns G r) : Sx id pc lo (.int y :: .int x :: sk) nc ns G r := by
  intro base st sn sf D cy p l e R s m args below meth c H locs ls Q C hP hI hS hZ hl hK
  have C2 := C
  obtain ⟨hx, hb, -⟩ := C2
  exact lv_icmp_ne hx hb hc ht (fun q => kt q base st sn sf D cy p l e R s m args below meth c H locs ls Q C hP hI hS hZ hl hK) (fun q => kf q base st sn sf D cy p l e R s m args below meth c H locs ls Q C hP hI hS hZ hl hK)
theorem sx_icmp_lt {id pc : Nat} {lo : List (Nat × Value)} {sk : List Value} {nc ns : Nat} {G : gM} {r : gM × Option Value} {x y : Int32} {off : Int} {tgt : Nat} (hc : decode (gb id) pc = .ok (.if_icmp .lt off, 3)) (ht : (pc : Int) + off = (tgt : Int)) (kt : x < y → Sx id tgt lo sk nc ns G r) (kf : ¬ x < y → Sx id (pc + 3) lo sk nc ns G r) : Sx id pc lo (.int y :: .int x :: sk) nc ns G r := by
  intro base st sn sf D cy p l e R s m args below meth c H locs ls Q C hP hI hS hZ hl hK
  have C2 := C
  obtain ⟨hx, hb, -⟩ := C2
  exact lv_icmp_lt hx hb hc ht (fun q => kt q base st sn sf D cy p l e R s m args below meth c H locs ls Q C hP hI hS hZ hl hK) (fun q => kf q base st sn sf D cy p l e R s m args below meth c H locs ls Q C hP hI hS hZ hl hK)
theorem sx_icmp_ge {id pc : Nat} {lo : List (Nat × Value)} {sk : List Value} {nc ns : Nat} {G : gM} {r : gM × Option Value} {x y : Int32} {off : Int} {tgt : Nat} (hc : decode (gb id) pc = .ok (.if_icmp .ge off, 3)) (ht : (pc : Int) + off = (tgt : Int)) (kt : y ≤ x → Sx id tgt lo sk nc ns G r) (kf : ¬ y ≤ x → Sx id (pc + 3) lo sk nc ns G r) : Sx id pc lo (.int y :: .int x :: sk) nc ns G r := by
  intro base st sn sf D cy p l e R s m args below meth c H locs ls Q C hP hI hS hZ hl hK
  have C2 := C
  obtain ⟨hx, hb, -⟩ := C2
  exact lv_icmp_ge hx hb hc ht (fun q => kt q base st sn sf D cy p l e R s m args below meth c H locs ls Q C hP hI hS hZ hl hK) (fun q => kf q base st sn sf D cy p l e R s m args below meth c H locs ls Q C hP hI hS hZ hl hK)
theorem sx_icmp_gt {id pc : Nat} {lo : List (Nat × Value)} {sk : List Value} {nc ns : Nat} {G : gM} {r : gM × Option Value} {x y : Int32} {off : Int} {tgt : Nat} (hc : decode (gb id) pc = .ok (.if_icmp .gt off, 3)) (ht : (pc : Int) + off = (tgt : Int)) (kt : y < x → Sx id tgt lo sk nc ns G r) (kf : ¬ y < x → Sx id (pc + 3) lo sk nc ns G r) : Sx id pc lo (.int y :: .int x :: sk) nc ns G r := by
  intro base st sn sf D cy p l e R s m args below meth c H locs ls Q C hP hI hS hZ hl hK
  have C2 := C
  obtain ⟨hx, hb, -⟩ := C2
  exact lv_icmp_gt hx hb hc ht (fun q => kt q base st sn sf D cy p l e R s m args below meth c H locs ls Q C hP hI hS hZ hl hK) (fun q => kf q base st sn sf D cy p l e R s m args below meth c H locs ls Q C hP hI hS hZ hl hK)
theorem sx_icmp_le {id pc : Nat} {lo : List (Nat × Value)} {sk : List Value} {nc ns : Nat} {G : gM} {r : gM × Option Value} {x y : Int32} {off : Int} {tgt : Nat} (hc : decode (gb id) pc = .ok (.if_icmp .le off, 3)) (ht : (pc : Int) + off = (tgt : Int)) (kt : x ≤ y → Sx id tgt lo sk nc ns G r) (kf : ¬ x ≤ y → Sx id (pc + 3) lo sk nc ns G r) : Sx id pc lo (.int y :: .int x :: sk) nc ns G r := by
  intro base st sn sf D cy p l e R s m args below meth c H locs ls Q C hP hI hS hZ hl hK
  have C2 := C
  obtain ⟨hx, hb, -⟩ := C2
  exact lv_icmp_le hx hb hc ht (fun q => kt q base st sn sf D cy p l e R s m args below meth c H locs ls Q C hP hI hS hZ hl hK) (fun q => kf q base st sn sf D cy p l e R s m args below meth c H locs ls Q C hP hI hS hZ hl hK)
theorem sx_goto {id pc : Nat} {lo : List (Nat × Value)} {sk : List Value} {nc ns : Nat} {G : gM} {r : gM × Option Value} {off : Int} {tgt : Nat} (hc : decode (gb id) pc = .ok (.goto off, 3)) (ht : (pc : Int) + off = (tgt : Int)) (k : Sx id tgt lo sk nc ns G r) : Sx id pc lo sk nc ns G r := by
  intro base st sn sf D cy p l e R s m args below meth c H locs ls Q C hP hI hS hZ hl hK
  have C2 := C
  obtain ⟨hx, hb, -⟩ := C2
  exact lv_goto hx hb hc ht (k base st sn sf D cy p l e R s m args below meth c H locs ls Q C hP hI hS hZ hl hK)
theorem sx_tableIn {id pc : Nat} {lo : List (Nat × Value)} {sk : List Value} {nc ns : Nat} {G : gM} {r : gM × Option Value} {dflt lw hi : Int} {offs : Array Int} {len : Nat} {x : Int32} {off : Int} {tgt : Nat} (hc : decode (gb id) pc = .ok (.tableswitch dflt lw hi offs, len)) (h1 : ¬ x.toInt < lw) (h2 : ¬ hi < x.toInt) (ho : offs[(x.toInt - lw).toNat]? = some off) (ht : (pc : Int) + off = (tgt : Int)) (k : Sx id tgt lo sk nc ns G r) : Sx id pc lo (.int x :: sk) nc ns G r := by
  intro base st sn sf D cy p l e R s m args below meth c H locs ls Q C hP hI hS hZ hl hK
  have C2 := C
  obtain ⟨hx, hb, -⟩ := C2
  exact lv_tableIn hx hb hc h1 h2 ho ht (k base st sn sf D cy p l e R s m args below meth c H locs ls Q C hP hI hS hZ hl hK)
theorem sx_tableOut {id pc : Nat} {lo : List (Nat × Value)} {sk : List Value} {nc ns : Nat} {G : gM} {r : gM × Option Value} {dflt lw hi : Int} {offs : Array Int} {len : Nat} {x : Int32} {tgt : Nat} (hc : decode (gb id) pc = .ok (.tableswitch dflt lw hi offs, len)) (h : x.toInt < lw ∨ hi < x.toInt) (ht : (pc : Int) + dflt = (tgt : Int)) (k : Sx id tgt lo sk nc ns G r) : Sx id pc lo (.int x :: sk) nc ns G r := by
  intro base st sn sf D cy p l e R s m args below meth c H locs ls Q C hP hI hS hZ hl hK
  have C2 := C
  obtain ⟨hx, hb, -⟩ := C2
  exact lv_tableOut hx hb hc h ht (k base st sn sf D cy p l e R s m args below meth c H locs ls Q C hP hI hS hZ hl hK)
theorem sx_lookup {id pc : Nat} {lo : List (Nat × Value)} {sk : List Value} {nc ns : Nat} {G : gM} {r : gM × Option Value} {dflt : Int} {ps : Array (Int × Int)} {len : Nat} {x : Int32} {off : Int} {tgt : Nat} (hc : decode (gb id) pc = .ok (.lookupswitch dflt ps, len)) (hp : (ps.toList.zip (ps.toList.drop 1)).all (fun (a, next) => a.1 < next.1) = true) (ho : Op.lookupswitch.offset ps.toList dflt x.toInt = off) (ht : (pc : Int) + off = (tgt : Int)) (k : Sx id tgt lo sk nc ns G r) : Sx id pc lo (.int x :: sk) nc ns G r := by
  intro base st sn sf D cy p l e R s m args below meth c H locs ls Q C hP hI hS hZ hl hK
  have C2 := C
  obtain ⟨hx, hb, -⟩ := C2
  exact lv_lookup hx hb hc hp ho ht (k base st sn sf D cy p l e R s m args below meth c H locs ls Q C hP hI hS hZ hl hK)
theorem gKL_get {e : Nat × Value × Nat} (he : e ∈ gKL) : gKLk e = true := List.all_eq_true.mp gKL_ok e he
theorem sx_ldc {id pc : Nat} {lo : List (Nat × Value)} {sk : List Value} {nc ns : Nat} {G : gM} {r : gM × Option Value} {idx h : Nat} {v : Int32} (hc : decode (gb id) pc = .ok (.ldc idx, 2)) (he : (gown id * 1000 + idx, .int v, h) ∈ gKL) (hi : idx < 1000) (k : Sx id (pc + 2) lo (.int v :: sk) nc ns G r) : Sx id pc lo sk nc ns G r := by
  intro base st sn sf D cy p l e R s m args below meth c H locs ls Q C hP hI hS hZ hl hK
  have C2 := C
  obtain ⟨hx, hb, -, -, hown, hts, -⟩ := C2
  have h1 := gKL_get he
  simp only [gKLk] at h1
  rw [show (gown id * 1000 + idx) / 1000 = gown id by omega, show (gown id * 1000 + idx) % 1000 = idx by omega] at h1
  exact lv_ldc hx hb hown (hts _ (gwd_mem h1)) hc (k base st sn sf D cy p l e R s m args below meth c H locs ls Q C hP hI hS hZ hl hK)
theorem sx_ldc_w {id pc : Nat} {lo : List (Nat × Value)} {sk : List Value} {nc ns : Nat} {G : gM} {r : gM × Option Value} {idx h : Nat} {v : Int32} (hc : decode (gb id) pc = .ok (.ldc_w idx, 3)) (he : (gown id * 1000 + idx, .int v, h) ∈ gKL) (hi : idx < 1000) (k : Sx id (pc + 3) lo (.int v :: sk) nc ns G r) : Sx id pc lo sk nc ns G r := by
  intro base st sn sf D cy p l e R s m args below meth c H locs ls Q C hP hI hS hZ hl hK
  have C2 := C
  obtain ⟨hx, hb, -, -, hown, hts, -⟩ := C2
  have h1 := gKL_get he
  simp only [gKLk] at h1
  rw [show (gown id * 1000 + idx) / 1000 = gown id by omega, show (gown id * 1000 + idx) % 1000 = idx by omega] at h1
  exact lv_ldcw hx hb hown (hts _ (gwd_mem h1)) hc (k base st sn sf D cy p l e R s m args below meth c H locs ls Q C hP hI hS hZ hl hK)
theorem sx_ldc2 {id pc : Nat} {lo : List (Nat × Value)} {sk : List Value} {nc ns : Nat} {G : gM} {r : gM × Option Value} {idx h : Nat} {v : Int64} (hc : decode (gb id) pc = .ok (.ldc2_w idx, 3)) (he : (gown id * 1000 + idx, .long v, h) ∈ gKL) (hi : idx < 1000) (k : Sx id (pc + 3) lo (.long v :: sk) nc ns G r) : Sx id pc lo sk nc ns G r := by
  intro base st sn sf D cy p l e R s m args below meth c H locs ls Q C hP hI hS hZ hl hK
  have C2 := C
  obtain ⟨hx, hb, -, -, hown, hts, -⟩ := C2
  have h1 := gKL_get he
  simp only [gKLk] at h1
  rw [show (gown id * 1000 + idx) / 1000 = gown id by omega, show (gown id * 1000 + idx) % 1000 = idx by omega] at h1
  exact lv_ldc2 hx hb hown (hts _ (gwd_mem h1)) hc (k base st sn sf D cy p l e R s m args below meth c H locs ls Q C hP hI hS hZ hl hK)
theorem sx_ret {id pc : Nat} {lo : List (Nat × Value)} {sk : List Value} {nc ns : Nat} {G : gM} {v : Option Value} {i : Instr} (hc : decode (gb id) pc = .ok (i, 1)) (hv : grv id i sk = some v) (h1 : nc ≤ gmc id) (h2 : ns ≤ gms id) : Sx id pc lo sk nc ns G (G, v) := by
  intro base st sn sf D cy p l e R s m args below meth c H locs ls Q C hP hI hS hZ hl hK
  exact W.widen h1 h2 (hK H locs ls pc i sk hc hv hP hI hS)
/-- the same memory and numbers under other words -/
theorem sx_eq {id pc : Nat} {lo lo2 : List (Nat × Value)} {sk sk2 : List Value} {nc ns : Nat} {G G2 : gM} {r r2 : gM × Option Value} (h1 : lo = lo2) (h2 : sk = sk2) (h3 : G = G2) (h4 : r = r2) (k : Sx id pc lo2 sk2 nc ns G2 r2) : Sx id pc lo sk nc ns G r := by
  subst h1; subst h2; subst h3; subst h4; exact k
