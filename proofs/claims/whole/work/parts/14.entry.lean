def gtab0 : List Int32 := [0, 4129, 8258, 12387, 16516, 20645, 24774, 28903, 33032, 37161, 41290, 45419, 49548, 53677, 57806, 61935]
def gtab1 : List Int32 := [-1, 5, 6, 7, 8, -1, -1, 9, 10]
def gtab2 : List Int32 := [3, 1, 4, 3, 8, 1, 3, 3, 1, -1, 0, 0, 3, 5, 1, -1, 0, 0, 3, 6, 1, -1, 0, 0, 3, 27, 1, -1, 0, 0, 5, 5, 1, -1, 0, 0, 5, 6, 1, -1, 0, 0, 6, 2, 3, 2, 32, 1, 6, 5, 3, 2, 64, 0, 6, 9, 4, -1, 0, 0, 8, 1, 5, -1, 0, 0, 11, 1, 0, -1, 0, 0, 11, 2, 0, -1, 0, 0, 11, 3, 0, -1, 0, 0, 11, 4, 5, -2, 0, 0, 11, 5, 2, -1, 0, 0, 11, 15, 4, -1, 0, 0, 11, 16, 0, -1, 0, 0, 11, 20, 1, -1, 0, 0, 11, 21, 1, -1, 0, 0, 12, 1, 1, -1, 0, 0, 12, 2, 1, -1, 0, 0, 12, 5, 12, -1, 0, 0, 12, 6, 1, -1, 0, 0, 12, 13, 0, -1, 0, 0, 15, 1, 1, -1, 0, 0, 15, 2, 1, -1, 0, 0, 15, 3, 3, -1, 0, 0, 15, 9, 9, -1, 0, 0, 15, 11, 5, -1, 0, 0, 15, 12, 2, -1, 0, 0, 17, 1, 0, -1, 0, 0, 19, 1, 2, -2, 0, 0, 19, 2, 1, -1, 0, 0, 19, 4, 1, -1, 0, 0, 19, 5, 1, -1, 0, 0, 20, 1, 1, 0, 8, 1, 20, 3, 1, 0, 6, 5]
/-! THE CLAIM OUT OF ONE WALK OF THE LAW'S BODY. Your part is whole_start (and what it stands on); all else here is the same for every law, but numbers. -/
def R_law : String := "CraftHouseLaw"
def lw_P (b : Addr) (xs : List Int32) (args : Array Value) (s : State) : Prop := args = #[.ref b] ∧ s.IntsAt b xs ∧ xs.length ≤ 320 ∧ (Jvm.Cond.and given_1 narrow_1).before args s = true
def lw_Q (_ : Array Value) (s : State) (o : Outcome) (t : State) : Prop := o = .returned (some (.int 1)) ∧ Framed s o t [] 600000 7302250
def lw_Z (below : List Frame) (a : Array Value) (s : State) : State → Prop := fun t => ∃ o, t.status = .running ∧ Ended t below o ∧ lw_Q a s o t
/-- the law's own end, with 1 on the stack, nothing written that was there before, its room as the claim has it -/
theorem lw_ret {p : Program} {l : Launch} {e : Env} {s : State} {m : MethodId} {below : List Frame} {meth : Method} {c : Code} {b : Nat} (hx : p.tables.exec = Jvm.exec) (hb : c.code = code) (hr : meth.sig.returnType = ret) (hlocks : meth.locks = false) {pc : Nat} {H : Heap} {ls : Array Slot} (hdg : decode code pc = .ok (.ireturn, 1)) : W p l e room_1 s m #[Value.ref b] below meth c H [] 600000 7302250 (lw_Z below #[Value.ref b] s) (F0 m pc ls [.int 1]) := by
  intro T hT X
  obtain ⟨fs, hret, hrun, hended, hW, hframe⟩ := X.leave (v := some (.int 1)) (hlocks := hlocks) (fun h => by rw [hr] at h; cases h)
  have hmeth' : T.vm.method? m = some meth := X.method'
  refine ⟨T.setFrames fs, ?_, .returned (some (.int 1)), hrun, hended, rfl, ⟨_, rfl⟩, hW, hframe⟩
  jvm_step X.here [X.here.top, hx, hb, hdg, hmeth', hr, ret, narrow_b1]
  (try refine ⟨rfl, ?_⟩); (try refine ⟨rfl, ?_⟩)
  first | (intro acts; rw [hret _ acts rfl rfl rfl]) | rw [hret _ _ rfl rfl rfl]
  exact Steps.refl _
/-- what holds at the law's entry: the machine, the code, the tables' words (any of lw_tbl by 'hts w (by decide +kernel)'), the script of L ints xs at the cell b, what the Statement gives of the start (any of its parts by flat_of_before) -/
def lw_At (p : Program) (s : State) (m : MethodId) (meth : Method) (c : Code) (b L : Nat) (xs : Nat → Int32) : Prop :=
  p.tables.exec = Jvm.exec ∧ c.code = code ∧ meth.sig.returnType = ret ∧ c.maxLocals = 4 ∧ s.vm.findClass R_law = some m.cls ∧ (∀ w ∈ lw_tbl, w.before #[Value.ref b] s = true) ∧ va_X b L xs s s.heap ∧ b < s.heap.size ∧ meth.locks = false ∧ (Jvm.Cond.and given_1 narrow_1).before #[Value.ref b] s = true
/-! ===== the law from its entry, by the judgement for its own code ===== -/
def gsn (L : Nat) (j : Nat) : Nat := match j with | 0 => 16 | 1 => 9 | 2 => 228 | _ => L
def gsf (xs : Nat → Int32) (j : Nat) : Nat → Int32 := match j with | 0 => fun i => gtab0.getD i 0 | 1 => fun i => gtab1.getD i 0 | 2 => fun i => gtab2.getD i 0 | _ => xs
/-- the memory at the start: nothing but the rows that nobody writes -/
def gG0 (L : Nat) (xs : Nat → Int32) : gM := (0, fun a => if 100000 ≤ a ∧ a < 100004 then (8, gsn L (a - 100000)) else (9, 0), fun a => if 100000 ≤ a then gsf xs (a - 100000) else fun _ => 0, fun _ _ => 0, fun _ _ => none)
theorem gG0_I (L : Nat) (xs : Nat → Int32) : gI (gsn L) (gsf xs) (gG0 L xs) := by
  have hk : ∀ a, ((gG0 L xs).2.1 a).1 = 8 ∨ ((gG0 L xs).2.1 a).1 = 9 := by
    intro a
    show (if 100000 ≤ a ∧ a < 100004 then (8, gsn L (a - 100000)) else (9, 0)).1 = 8 ∨ (if 100000 ≤ a ∧ a < 100004 then (8, gsn L (a - 100000)) else (9, 0)).1 = 9
    split
    · exact Or.inl rfl
    · exact Or.inr rfl
  refine ⟨Nat.zero_le _, fun a _ h => ?_, fun j hj => ⟨?_, ?_⟩, fun a j h => ?_, fun a h => absurd h (Nat.not_lt_zero a), fun a h => ?_⟩
  · show (if 100000 ≤ a ∧ a < 100004 then (8, gsn L (a - 100000)) else (9, 0)) = _
    rw [if_neg (by omega)]
  · show (if 100000 ≤ 100000 + j ∧ 100000 + j < 100004 then (8, gsn L (100000 + j - 100000)) else (9, 0)) = _
    rw [if_pos (by omega), Nat.add_sub_cancel_left]
  · show (if 100000 ≤ 100000 + j then gsf xs (100000 + j - 100000) else fun _ => 0) = _
    rw [if_pos (by omega), Nat.add_sub_cancel_left]
  · rcases hk a with q | q <;> rw [q] at h <;> cases h
  · rcases hk a with q | q <;> rw [q] at h <;> cases h
abbrev gflat : List Cond := flatC (Jvm.Cond.and given_1 narrow_1)
theorem gel0 : (gflat.drop 7).take 16 = (List.range 16).map (fun j => Cond.eq (.elem (.static "CraftHouse$Bytes" "CHECK_OF_FOUR_BITS" "[I") (.int (Int32.ofNat j))) (.int (gtab0.getD j 0))) := by decide +kernel
theorem gel1 : (gflat.drop 257).take 9 = (List.range 9).map (fun j => Cond.eq (.elem (.static "CraftHouse$Ground" "TOLD" "[I") (.int (Int32.ofNat j))) (.int (gtab1.getD j 0))) := by decide +kernel
theorem gel2 : (gflat.drop 26).take 228 = (List.range 228).map (fun j => Cond.eq (.elem (.static "CraftHouse$Board" "SHAPES" "[I") (.int (Int32.ofNat j))) (.int (gtab2.getD j 0))) := by decide +kernel
theorem gel_mem {a n j : Nat} {f : Nat → Cond} (h : (gflat.drop a).take n = (List.range n).map f) (hj : j < n) : f j ∈ gflat := by
  have h1 : f j ∈ (gflat.drop a).take n := by rw [h]; exact List.mem_map.mpr ⟨j, List.mem_range.mpr hj, rfl⟩
  exact List.mem_of_mem_drop (List.mem_of_mem_take h1)
theorem gsh0 : gflat[5]? = some (Cond.arrayOf (.static "CraftHouse$Bytes" "CHECK_OF_FOUR_BITS" "[I") .int) ∧ gflat[255]? = some (Cond.arrayOf (.static "CraftHouse$Ground" "TOLD" "[I") .int) ∧ gflat[24]? = some (Cond.arrayOf (.static "CraftHouse$Board" "SHAPES" "[I") .int) := by decide +kernel
theorem gsh1 : gflat[6]? = some (Cond.eq (.length (.static "CraftHouse$Bytes" "CHECK_OF_FOUR_BITS" "[I")) (.int (Int32.ofNat 16))) ∧ gflat[256]? = some (Cond.eq (.length (.static "CraftHouse$Ground" "TOLD" "[I")) (.int (Int32.ofNat 9))) ∧ gflat[25]? = some (Cond.eq (.length (.static "CraftHouse$Board" "SHAPES" "[I")) (.int (Int32.ofNat 228))) := by decide +kernel
theorem gprim {s : State} {args : Array Value} {ty : FieldType} (h : (Cond.arrayClass ty).before args s = true) : ∃ cA : ClassId, ArrOfT s cA ty ∧ s.vm.findClass ("[" ++ ty.toString) = some cA := by
  obtain ⟨cA, kA, comp, h1, h2, h3⟩ := Cond.arrayClass_spec h
  exact ⟨cA, fun n z => ⟨fun k h => (by cases h), kA, h2, comp, h3⟩, h1⟩
theorem gover {s : State} {args : Array Value} {C : String} (h : (Cond.arrayOver (.object C)).before args s = true) : ∃ cA : ClassId, ArrOfT s cA (.object C) ∧ va_RA s cA (.object C) := by
  obtain ⟨comp, cA, kA, h1, h2, h3, h4, h5⟩ := Cond.arrayOver_spec h
  exact ⟨cA, fun n z => ⟨fun k h => (by cases h), kA, h3, comp, h4⟩, kA, comp, h3, h4, h1, h5⟩
set_option maxHeartbeats 4000000 in
theorem whole_of (hlaw : ∀ (xs : Nat → Int32) (L : Nat), L ≤ 320 → ∃ G' : gM, Sx 369 0 [(0, .ref 100003)] [] 0 0 (gG0 L xs) (G', some (.int 1))) {p : Program} {e : Env} {s : State} {m : MethodId} {below : List Frame} {meth : Method} {c : Code} (l : Launch) {b L : Nat} {xs : Nat → Int32} (hL : L ≤ 320) (C0 : lw_At p s m meth c b L xs) : W p l e room_1 s m #[Value.ref b] below meth c s.heap [] 0 0 (lw_Z below #[Value.ref b] s) (entryFrame m ([Value.ref b] : List Value).toArray 4) := by
  obtain ⟨hx, hb, hr, hml, hown, hts, hX, hbl, hlocks, hgv⟩ := C0
  obtain ⟨G', hG'⟩ := hlaw xs L hL
  have htg : ∀ w ∈ gtb, w.before #[Value.ref b] s = true := fun w hw => hts w (gtb_sub hw)
  have hfl := flat_of_before _ hgv
  have hA : ∀ a : Nat, a < s.heap.size → ¬ (fun q : Nat => s.heap.size ≤ q) a := fun a h => Nat.not_le.mpr h
  obtain ⟨t0, e0, T0⟩ := va_Tof (N := 16) (f := fun i => .int (gsf xs 0 i)) (A := fun q : Nat => s.heap.size ≤ q) (by decide) (hfl _ (List.mem_of_getElem? gsh0.1)) (va_eqt (hfl _ (List.mem_of_getElem? gsh1.1))) (fun j hj => va_eqt (hfl _ (gel_mem gel0 hj))) hA
  obtain ⟨t1, e1, T1⟩ := va_Tof (N := 9) (f := fun i => .int (gsf xs 1 i)) (A := fun q : Nat => s.heap.size ≤ q) (by decide) (hfl _ (List.mem_of_getElem? gsh0.2.1)) (va_eqt (hfl _ (List.mem_of_getElem? gsh1.2.1))) (fun j hj => va_eqt (hfl _ (gel_mem gel1 hj))) hA
  obtain ⟨t2, e2, T2⟩ := va_Tof (N := 228) (f := fun i => .int (gsf xs 2 i)) (A := fun q : Nat => s.heap.size ≤ q) (by decide) (hfl _ (List.mem_of_getElem? gsh0.2.2)) (va_eqt (hfl _ (List.mem_of_getElem? gsh1.2.2))) (fun j hj => va_eqt (hfl _ (gel_mem gel2 hj))) hA
  have T3 : va_T .int b L (fun i => .int (xs i)) (fun q : Nat => s.heap.size ≤ q) s s.heap := by
    obtain ⟨scr, h1, h2, h3, h4, h5⟩ := hX
    exact ⟨scr, h1, h2, h3, by omega, by rw [h4], h5, hA b hbl⟩
  have Z0 := va_Zref (A := fun q : Nat => s.heap.size ≤ q) (hts (.laysStatic "CraftHouse$Bytes" "CHECK_OF_FOUR_BITS" "[I") (List.mem_of_getElem? (i := 811) (by decide +kernel))) (hts (.initialized "CraftHouse$Bytes") (List.mem_of_getElem? (i := 181) (by decide +kernel))) e0 hA
  have Z1 := va_Zref (A := fun q : Nat => s.heap.size ≤ q) (hts (.laysStatic "CraftHouse$Ground" "TOLD" "[I") (List.mem_of_getElem? (i := 1266) (by decide +kernel))) (hts (.initialized "CraftHouse$Ground") (List.mem_of_getElem? (i := 185) (by decide +kernel))) e1 hA
  have Z2 := va_Zref (A := fun q : Nat => s.heap.size ≤ q) (hts (.laysStatic "CraftHouse$Board" "SHAPES" "[I") (List.mem_of_getElem? (i := 1001) (by decide +kernel))) (hts (.initialized "CraftHouse$Board") (List.mem_of_getElem? (i := 192) (by decide +kernel))) e2 hA
  obtain ⟨c1, i1, kn1⟩ := u_known (C := RX1) (T := TX1) (N := 14) (n := 14) htg gLW_1 (hts (.instantiable RX1 14) (List.mem_of_getElem? (i := 681) (by decide +kernel)))
  obtain ⟨c2, i2, kn2⟩ := u_known (C := RX2) (T := TX2) (N := 2) (n := 2) htg gLW_2 (hts (.instantiable RX2 2) (List.mem_of_getElem? (i := 206) (by decide +kernel)))
  obtain ⟨c3, i3, kn3⟩ := u_known (C := RX3) (T := TX3) (N := 13) (n := 13) htg gLW_3 (hts (.instantiable RX3 13) (List.mem_of_getElem? (i := 332) (by decide +kernel)))
  obtain ⟨c4, i4, kn4⟩ := u_known (C := RX4) (T := TX4) (N := 19) (n := 19) htg gLW_4 (hts (.instantiable RX4 19) (List.mem_of_getElem? (i := 496) (by decide +kernel)))
  obtain ⟨c5, i5, kn5⟩ := u_known (C := RX5) (T := TX5) (N := 3) (n := 3) htg gLW_5 (hts (.instantiable RX5 3) (List.mem_of_getElem? (i := 238) (by decide +kernel)))
  obtain ⟨c6, i6, kn6⟩ := u_known (C := RX6) (T := TX6) (N := 18) (n := 18) htg gLW_6 (hts (.instantiable RX6 18) (List.mem_of_getElem? (i := 570) (by decide +kernel)))
  obtain ⟨c7, i7, kn7⟩ := u_known (C := RX7) (T := TX7) (N := 19) (n := 19) htg gLW_7 (hts (.instantiable RX7 19) (List.mem_of_getElem? (i := 428) (by decide +kernel)))
  obtain ⟨c8, i8, kn8⟩ := u_known (C := RX8) (T := TX8) (N := 7) (n := 7) htg gLW_8 (hts (.instantiable RX8 7) (List.mem_of_getElem? (i := 340) (by decide +kernel)))
  obtain ⟨c9, i9, kn9⟩ := u_known (C := RX9) (T := TX9) (N := 6) (n := 6) htg gLW_9 (hts (.instantiable RX9 6) (List.mem_of_getElem? (i := 577) (by decide +kernel)))
  obtain ⟨c10, i10, kn10⟩ := u_known (C := RX10) (T := TX10) (N := 17) (n := 17) htg gLW_10 (hts (.instantiable RX10 17) (List.mem_of_getElem? (i := 258) (by decide +kernel)))
  obtain ⟨c11, i11, kn11⟩ := u_known (C := RX11) (T := TX11) (N := 10) (n := 10) htg gLW_11 (hts (.instantiable RX11 10) (List.mem_of_getElem? (i := 198) (by decide +kernel)))
  obtain ⟨c12, i12, kn12⟩ := u_known (C := RX12) (T := TX12) (N := 154) (n := 154) htg gLW_12 (hts (.instantiable RX12 154) (List.mem_of_getElem? (i := 1859) (by decide +kernel)))
  obtain ⟨dC, dI, hKc⟩ : ∃ (dC : Nat → ClassId) (dI : Nat → Nat → Nat), ∀ (k : Nat) (q : vw_C), vwCl[k]? = some q → u_Kn s q.1 q.2.1 q.2.2 (dC k) (dI k) := by
    refine ⟨fun k => match k with | 0 => c1 | 1 => c2 | 2 => c3 | 3 => c4 | 4 => c5 | 5 => c6 | 6 => c7 | 7 => c8 | 8 => c9 | 9 => c10 | 10 => c11 | _ => c12, fun k => match k with | 0 => i1 | 1 => i2 | 2 => i3 | 3 => i4 | 4 => i5 | 5 => i6 | 6 => i7 | 7 => i8 | 8 => i9 | 9 => i10 | 10 => i11 | _ => i12, ?_⟩
    intro k q hq
    match k, hq with
    | 0, hq => cases hq; exact kn1
    | 1, hq => cases hq; exact kn2
    | 2, hq => cases hq; exact kn3
    | 3, hq => cases hq; exact kn4
    | 4, hq => cases hq; exact kn5
    | 5, hq => cases hq; exact kn6
    | 6, hq => cases hq; exact kn7
    | 7, hq => cases hq; exact kn8
    | 8, hq => cases hq; exact kn9
    | 9, hq => cases hq; exact kn10
    | 10, hq => cases hq; exact kn11
    | 11, hq => cases hq; exact kn12
    | k + 12, hq => simp [vwCl] at hq
  obtain ⟨y0, a0, n0⟩ := gprim (hts (.arrayClass .int) (List.mem_of_getElem? (i := 255) (by decide +kernel)))
  obtain ⟨y1, a1, n1⟩ := gprim (hts (.arrayClass .byte) (List.mem_of_getElem? (i := 236) (by decide +kernel)))
  obtain ⟨y2, a2, n2⟩ := gprim (hts (.arrayClass .boolean) (List.mem_of_getElem? (i := 2767) (by decide +kernel)))
  have ob := hts (.arrayOver (.object "CraftHouse$Bytes")) (List.mem_of_getElem? (i := 614) (by decide +kernel))
  have os := hts (.arrayOver (.object "CraftHouse$Store")) (List.mem_of_getElem? (i := 576) (by decide +kernel))
  obtain ⟨y3, a3, n3⟩ := gover ob
  obtain ⟨y4, a4, n4⟩ := gover os
  have hK : va_K (dC, dI) vwCl (gtys (fun k => match k with | 0 => y0 | 1 => y1 | 2 => y2 | 3 => y3 | _ => y4)) s := by
    refine ⟨hKc, fun k q h => ?_⟩
    match k, h with
    | 0, h => cases h; exact ⟨a0, n0⟩
    | 1, h => cases h; exact ⟨a1, n1⟩
    | 2, h => cases h; exact ⟨a2, n2⟩
    | 3, h => cases h; exact ⟨a3, n3⟩
    | 4, h => cases h; exact ⟨a4, n4⟩
    | k + 5, h => simp [gtys] at h
  have hSt : gSt s.heap.size (fun j => match j with | 0 => t0 | 1 => t1 | 2 => t2 | _ => b) (gsn L) (gsf xs) (dC, dI) (fun k => match k with | 0 => y0 | 1 => y1 | 2 => y2 | 3 => y3 | _ => y4) s s.heap := by
    refine ⟨hK, fun j hj => ?_, fun j hj => ?_, va_AO.of ob, va_AO.of os, fun q hq => ?_⟩
    · match j, hj with
      | 0, _ => exact T0
      | 1, _ => exact T1
      | 2, _ => exact T2
      | 3, _ => exact T3
      | j + 4, h => exact absurd h (by omega)
    · match j, hj with
      | 0, _ => exact Z0
      | 1, _ => exact Z1
      | 2, _ => exact Z2
      | j + 3, h => exact absurd h (by omega)
    · simp only [gEL, List.mem_cons, List.not_mem_nil, or_false] at hq
      rcases hq with rfl | rfl | rfl
      · exact va_Nw.of rfl (hts _ (List.mem_of_getElem? (i := 259) (by decide +kernel)))
      · exact va_Nw.of rfl (hts _ (List.mem_of_getElem? (i := 333) (by decide +kernel)))
      · exact va_Nw.of rfl (hts _ (List.mem_of_getElem? (i := 578) (by decide +kernel)))
  have hl := lv_entry ([.ref b]) (n := 4) (Nat.le_of_ble_eq_true rfl)
  rw [lg_entry_eq]
  generalize (lg_sl ([.ref b]) ++ List.replicate (4 - (lg_sl ([.ref b])).length) Slot.unset).toArray = ls at hl ⊢
  refine hG' s.heap.size (fun j => match j with | 0 => t0 | 1 => t1 | 2 => t2 | _ => b) (gsn L) (gsf xs) (dC, dI) (fun k => match k with | 0 => y0 | 1 => y1 | 2 => y2 | 3 => y3 | _ => y4) p l e room_1 s m #[Value.ref b] below meth c s.heap [] ls _ ⟨hx, hb, hr, hml, hown, htg, (fun h => by cases h), hlocks, ⟨by decide +kernel, by decide +kernel, by decide +kernel, by decide +kernel⟩, hSt, Nat.le_refl _⟩ ⟨fun k q hk => ?_, rfl⟩ (gG0_I L xs) va_S.rf rfl hl ?_
  · have := (gWd_some hk).1
    exact absurd this (Nat.not_lt_zero k)
  · intro H1 locs1 ls1 pc1 i sk1 hd hg hP1 hI1 hS1
    have key : i = .ireturn ∧ sk1 = [.int 1] := by
      unfold grv at hg
      split at hg
      · rw [show grt 369 = some .boolean from rfl] at hg
        cases hg
      · rw [show grt 369 = some .boolean from rfl] at hg
        dsimp only at hg
        split at hg
        · have := Option.some.inj (Option.some.inj hg)
          cases this
          exact ⟨rfl, rfl⟩
        · cases hg
      · rw [show grt 369 = some .boolean from rfl] at hg
        cases hg
      · rw [show grt 369 = some .boolean from rfl] at hg
        cases hg
      · cases hg
    obtain ⟨k1, k2⟩ := key
    subst k1; subst k2
    refine va_forget (fun q hq => hS1.2.2 q hq) ?_
    refine W.widen (k := 600000) (n := 7302250) (by decide +kernel) (by decide +kernel) ?_
    exact lw_ret hx hb hr hlocks hd

