section gSize
variable {p : Program} {l : Launch} {e : Env} {R : Room} {s : State} {m : MethodId} {args : Array Value} {below : List Frame} {meth : Method} {c : Code} {H : Heap} {locs : List Loc} {cells slots : Nat} {Q : State → Prop}
theorem W_size {g : JFrame} (k : H.size ≤ s.heap.size + cells → W p l e R s m args below meth c H locs cells slots Q g) : W p l e R s m args below meth c H locs cells slots Q g := by
  intro T hT X
  have h := X.heapSize
  rw [hT] at h
  exact k h T hT X
end gSize
theorem gad_lt {base : Nat} {st : Nat → Nat} {k : Nat} (h : k < 100000) : gad base st k = base + k := if_pos h
theorem gad_st {base : Nat} {st : Nat → Nat} {j : Nat} : gad base st (100000 + j) = st j := by
  unfold gad
  rw [if_neg (by omega), Nat.add_sub_cancel_left]
theorem gS_self {A : Nat → Prop} {H0 H : Heap} {locs : List Loc} (h : va_S A H0 H locs) : va_S A H H locs := ⟨Nat.le_refl _, fun _ _ _ => rfl, h.2.2⟩
theorem gS_trans {A : Nat → Prop} {H0 H H1 : Heap} {locs locs1 : List Loc} (h : va_S A H0 H locs) (h1 : va_S A H H1 locs1) : va_S A H0 H1 locs1 :=
  ⟨Nat.le_trans h.1 h1.1, fun q a b => (h1.2.1 q (Nat.lt_of_lt_of_le a h.1) b).trans (h.2.1 q a b), h1.2.2⟩
def gvr (G : gM) (a k : Nat) (ty : FieldType) : Option Value := match ty with
  | .long => some (.long (G.2.2.2.1 a k))
  | .object _ => (G.2.2.2.2 a k).map .ref
  | .array _ => (G.2.2.2.2 a k).map .ref
  | _ => some (.int (G.2.2.1 a k))
theorem gvr_V {ad : Nat → Nat} {G : gM} {a k : Nat} {ty : FieldType} {v : Value} (h : gvr G a k ty = some v) : gV ad G a k ty = gsh ad v := by
  have key : ∀ {o : Option Nat}, o.map Value.ref = some v → va_rf (o.map ad) = gsh ad v := by
    intro o ho
    cases o with
    | none => cases ho
    | some b => cases ho; rfl
  unfold gvr at h
  unfold gV
  cases ty with
  | long => cases h; rfl
  | object n => exact key h
  | array n => exact key h
  | _ => cases h; rfl
theorem gFL_get {e : Nat × Nat × Nat × Nat} (he : e ∈ gFL) : gFLk e = true := List.all_eq_true.mp gFL_ok e he
theorem gE_obj {ad : Nat → Nat} {cy : Nat → ClassId} {G : gM} {a ci : Nat} (h : G.2.1 a = (0, ci)) : gE ad cy G a = .inr (ci, (List.range (gnf ci)).map (fun k => gV ad G a k (gty ci k))) := by
  unfold gE
  rw [h]
  rfl
theorem gE_arr {ad : Nat → Nat} {cy : Nat → ClassId} {G : gM} {a t n : Nat} (h : G.2.1 a = (t + 1, n)) (ht : t < 3) : gE ad cy G a = .inl (cy t, n, .inl (G.2.2.1 a)) := by
  unfold gE
  rw [h]
  rw [if_neg (by show ¬ t + 1 = 0; omega), if_pos (by show t + 1 ≤ 3; omega)]
  rfl
theorem gE_ref {ad : Nat → Nat} {cy : Nat → ClassId} {G : gM} {a t n : Nat} (h : G.2.1 a = (t + 4, n)) : gE ad cy G a = .inl (cy (t + 3), n, .inr (.inr (.inr (.inr (fun j => (G.2.2.2.2 a j).map ad))))) := by
  unfold gE
  rw [h]
  rw [if_neg (by show ¬ t + 4 = 0; omega), if_neg (by show ¬ t + 4 ≤ 3; omega)]
  rfl
/-- what the tables give of a field -/
theorem gF_facts {id idx ci k h : Nat} (he : (gown id * 1000 + idx, ci, k, h) ∈ gFL) (hi : idx < 1000) : Cond.fieldLink (gcn (gown id)) idx (gcl ci).1 ((gcl ci).2.1 k).2.1 ((gcl ci).2.1 k).2.2.1 ∈ gtb ∧ ((gcl ci).2.1 k).1 = (gcl ci).1 ∧ k < gnf ci ∧ ci < 12 := by
  have h1 := gFL_get he
  simp only [gFLk, Bool.and_eq_true, decide_eq_true_eq] at h1
  rw [show (gown id * 1000 + idx) / 1000 = gown id by omega, show (gown id * 1000 + idx) % 1000 = idx by omega] at h1
  exact ⟨gwd_mem h1.1.1.1, h1.1.1.2, h1.1.2, h1.2⟩
theorem sx_getfield {id pc : Nat} {lo : List (Nat × Value)} {sk : List Value} {nc ns : Nat} {G : gM} {r : gM × Option Value} {idx ci k h a : Nat} {v : Value} (hc : decode (gb id) pc = .ok (.getfield idx, 3)) (he : (gown id * 1000 + idx, ci, k, h) ∈ gFL) (hi : idx < 1000) (ha : G.2.1 a = (0, ci)) (hv : gvr G a k (gty ci k) = some v) (kk : Sx id (pc + 3) lo (v :: sk) nc ns G r) : Sx id pc lo (.ref a :: sk) nc ns G r := by
  intro base st sn sf D cy p l e R s m args below meth c H locs ls Q C hP hI hS hZ hl hK
  have C2 := C
  obtain ⟨hx, hb, -, -, hown, hts, -, -, -, hSt, -⟩ := C2
  obtain ⟨f1, f2, f3, f4⟩ := gF_facts he hi
  obtain ⟨c1, c2, c3, c4⟩ := gcls_ok ci f4
  have hal : a < G.1 := hI.lt (by rw [ha]; exact Nat.zero_le _)
  have hgl := hI.1
  show W p l e R s m args below meth c H locs nc ns Q (F0 m pc ls (.ref (gad base st a) :: sk.map (gsh (gad base st))))
  rw [gad_lt (by omega)]
  refine va_get (v := gsh (gad base st) v) hx hb hts c4 hown hSt.1 hP.1 a (by rw [gWd_get hal, gE_obj ha]) c1 k f3 (hts _ f1) (fun x hx => by rw [f2] at hx; exact hx) (by rw [List.getElem?_map, List.getElem?_range f3]; exact congrArg some (gvr_V hv)) hc ?_
  exact kk base st sn sf D cy p l e R s m args below meth c H locs ls Q C hP hI hS hZ hl hK
/-- behind a store: the world with the changed memory -/
theorem gP_set {base : Nat} {st : Nat → Nat} {D : va_G} {cy : Nat → ClassId} {G G' : gM} {H1 : Heap} {a : Nat} {e : va_E} (ha : a < G.1) (hn : G'.1 = G.1) (he : gE (gad base st) cy G' a = e) (ho : ∀ k, k ≠ a → gE (gad base st) cy G' k = gE (gad base st) cy G k) (hP : va_P D vwCl ((gWd base st cy G).set a (base + a, e)) H1) (hz : H1.size = base + G.1) : gP base st D cy G' H1 :=
  ⟨by rw [← gWd_set ha hn he ho]; exact hP, by rw [hn]; exact hz⟩
theorem gE_put {ad : Nat → Nat} {cy : Nat → ClassId} {G G' : gM} {a ci k : Nat} {v : Value} (ha : G'.2.1 a = (0, ci)) (hk : k < gnf ci) (h1 : gV ad G' a k (gty ci k) = v) (h2 : ∀ j, j ≠ k → gV ad G' a j (gty ci j) = gV ad G a j (gty ci j)) :
    gE ad cy G' a = .inr (ci, ((List.range (gnf ci)).map (fun k => gV ad G a k (gty ci k))).set k v) := by
  rw [gE_obj ha]
  congr 2
  apply List.ext_getElem?
  intro i
  by_cases hi : i < gnf ci
  · rw [List.getElem?_map, List.getElem?_range hi]
    by_cases hik : i = k
    · subst hik
      rw [List.getElem?_set_self (by simpa using hi), ← h1]
      rfl
    · rw [List.getElem?_set_ne (fun q => hik q.symm), List.getElem?_map, List.getElem?_range hi]
      exact congrArg some (h2 i hik)
  · rw [List.getElem?_eq_none_iff.mpr (by simp; omega), List.getElem?_eq_none_iff.mpr (by simp; omega)]
/-- a store into a field, whichever memory comes of it -/
theorem sx_putfield {id pc : Nat} {lo : List (Nat × Value)} {sk : List Value} {nc ns : Nat} {G : gM} {r : gM × Option Value} {G' : gM} {idx ci k h a : Nat} {v : Value} (hc : decode (gb id) pc = .ok (.putfield idx, 3)) (he : (gown id * 1000 + idx, ci, k, h) ∈ gFL) (hi : idx < 1000) (ha : G.2.1 a = (0, ci))
    (hf : ((gcl ci).2.1 k).2.2.2 = false ∨ (((gcl ci).2.1 k).2.2.2 = true ∧ gini id = true ∧ gcn (gown id) = (gcl ci).1))
    (hnf : ∀ ad : Nat → Nat, narrow (gty ci k) (gsh ad v) = gsh ad v ∧ fits (gty ci k) (gsh ad v) = true) (hn : G'.1 = G.1) (hk' : G'.2.1 = G.2.1) (h1 : ∀ ad : Nat → Nat, gV ad G' a k (gty ci k) = gsh ad v) (h2 : ∀ (ad : Nat → Nat) (j : Nat), j ≠ k → gV ad G' a j (gty ci j) = gV ad G a j (gty ci j))
    (ho : ∀ b, b ≠ a → G'.2.2.1 b = G.2.2.1 b ∧ G'.2.2.2.1 b = G.2.2.2.1 b ∧ G'.2.2.2.2 b = G.2.2.2.2 b) (hI' : ∀ sn sf, a < G.1 → gI sn sf G → gI sn sf G')
    (kk : Sx id (pc + 3) lo sk nc ns G' r) : Sx id pc lo (v :: .ref a :: sk) nc ns G r := by
  intro base st sn sf D cy p l e R s m args below meth c H locs ls Q C hP hI hS hZ hl hK
  have C2 := C
  obtain ⟨hx, hb, -, -, hown, hts, hin, -, -, hSt, -⟩ := C2
  obtain ⟨f1, f2, f3, f4⟩ := gF_facts he hi
  obtain ⟨c1, c2, c3, c4⟩ := gcls_ok ci f4
  have hal : a < G.1 := hI.lt (by rw [ha]; exact Nat.zero_le _)
  have hgl := hI.1
  show W p l e R s m args below meth c H locs nc ns Q (F0 m pc ls (gsh (gad base st) v :: .ref (gad base st a) :: sk.map (gsh (gad base st))))
  rw [gad_lt (base := base) (st := st) (k := a) (by omega)]
  have go : ∀ (H1 : Heap) (locs1 : List Loc), va_P D vwCl ((gWd base st cy G).set a (base + a, .inr (ci, ((List.range (gnf ci)).map (fun k => gV (gad base st) G a k (gty ci k))).set k (gsh (gad base st) v)))) H1 → va_S (fun q => base ≤ q) H H1 locs1 → W p l e R s m args below meth c H1 locs1 nc ns Q (F0 m (pc + 3) ls (sk.map (gsh (gad base st)))) := by
    intro H1 locs1 hP1 hS1
    refine W_size (fun hz => ?_)
    have hz1 : H1.size = H.size := by have := hS1.1; omega
    exact kk base st sn sf D cy p l e R s m args below meth c H1 locs1 ls Q C (gP_set hal hn (gE_put (by rw [hk']; exact ha) f3 (h1 _) (h2 _)) (fun b hb => gE_congr (by rw [hk']) (ho b hb).1 (ho b hb).2.1 (ho b hb).2.2) hP1 (by rw [hz1]; exact hP.2)) (hI' sn sf hal hI) (gS_trans hS hS1) (by rw [hz1]; exact hZ) hl hK
  rcases hf with hf | ⟨hf, hg, hon⟩
  · exact va_put hx hb hts c4 (gty ci) c2 c3 hown hSt.1 hP.1 gWd_D (gS_self hS) a (by rw [gWd_get hal, gE_obj ha]) c1 k f3 (hts _ f1) (fun x hx => by rw [f2] at hx; exact hx) hf (c2 k f3) (hnf _).1 (hnf _).2 (by simpa using f3) hc (fun H1 locs1 a1 a2 a3 => go H1 locs1 a1 a3)
  · exact va_putF hx hb hts c4 (gty ci) c2 c3 hown hSt.1 hP.1 gWd_D (gS_self hS) a (by rw [gWd_get hal, gE_obj ha]) c1 k f3 (hts _ f1) (fun x hx => by rw [f2] at hx; exact hx) hf (hin hg) (f2.trans hon.symm) (c2 k f3) (hnf _).1 (hnf _).2 (by simpa using f3) hc (fun H1 locs1 a1 a2 a3 => go H1 locs1 a1 a3)
theorem gup_s {α : Type} {f : Nat → α} {k : Nat} {v : α} : va_up f k v k = v := if_pos rfl
theorem gup_o {α : Type} {f : Nat → α} {k j : Nat} {v : α} (h : j ≠ k) : va_up f k v j = f j := if_neg h
theorem gV_int {ad : Nat → Nat} {G : gM} {a k : Nat} {ty : FieldType} (h : ty = .int ∨ ty = .boolean) : gV ad G a k ty = .int (G.2.2.1 a k) := by rcases h with rfl | rfl <;> rfl
theorem gV_same {ad : Nat → Nat} {G G' : gM} {a k : Nat} {ty : FieldType} (h1 : G'.2.2.1 a k = G.2.2.1 a k) (h2 : G'.2.2.2.1 a k = G.2.2.2.1 a k) (h3 : G'.2.2.2.2 a k = G.2.2.2.2 a k) : gV ad G' a k ty = gV ad G a k ty := by
  unfold gV
  rw [h1, h2, h3]
abbrev gFin (id ci k : Nat) : Prop := ((gcl ci).2.1 k).2.2.2 = false ∨ (((gcl ci).2.1 k).2.2.2 = true ∧ gini id = true ∧ gcn (gown id) = (gcl ci).1)
theorem sx_putI {id pc : Nat} {lo : List (Nat × Value)} {sk : List Value} {nc ns : Nat} {G : gM} {r : gM × Option Value} {idx ci k h a : Nat} {x : Int32} (hc : decode (gb id) pc = .ok (.putfield idx, 3)) (he : (gown id * 1000 + idx, ci, k, h) ∈ gFL) (hi : idx < 1000) (ha : G.2.1 a = (0, ci)) (hf : gFin id ci k)
    (hty : gty ci k = .int ∨ (gty ci k = .boolean ∧ (x = 0 ∨ x = 1))) (kk : Sx id (pc + 3) lo sk nc ns (gsetI G a k x) r) : Sx id pc lo (.int x :: .ref a :: sk) nc ns G r := by
  have hty2 : gty ci k = .int ∨ gty ci k = .boolean := hty.imp (fun h => h) (fun h => h.1)
  refine sx_putfield (G' := gsetI G a k x) (v := .int x) hc he hi ha hf (fun ad => ?_) rfl rfl (fun ad => ?_) (fun ad j hj => gV_same ?_ rfl rfl) (fun b hb => ⟨gup_o hb, rfl, rfl⟩) (fun sn sf hal h => h.setI hal (fun q => by rw [ha] at q; cases q)) kk
  · rcases hty with h | ⟨h, h0 | h0⟩ <;> rw [h]
    · exact ⟨rfl, rfl⟩
    · rw [h0]; exact ⟨rfl, rfl⟩
    · rw [h0]; exact ⟨rfl, rfl⟩
  · rw [gV_int hty2]
    show Value.int (va_up G.2.2.1 a (va_up (G.2.2.1 a) k x) a k) = .int x
    rw [gup_s, gup_s]
  · show va_up G.2.2.1 a (va_up (G.2.2.1 a) k x) a j = G.2.2.1 a j
    rw [gup_s, gup_o hj]
theorem sx_putL {id pc : Nat} {lo : List (Nat × Value)} {sk : List Value} {nc ns : Nat} {G : gM} {r : gM × Option Value} {idx ci k h a : Nat} {x : Int64} (hc : decode (gb id) pc = .ok (.putfield idx, 3)) (he : (gown id * 1000 + idx, ci, k, h) ∈ gFL) (hi : idx < 1000) (ha : G.2.1 a = (0, ci)) (hf : gFin id ci k)
    (hty : gty ci k = .long) (kk : Sx id (pc + 3) lo sk nc ns (gsetL G a k x) r) : Sx id pc lo (.long x :: .ref a :: sk) nc ns G r := by
  refine sx_putfield (G' := gsetL G a k x) (v := .long x) hc he hi ha hf (fun ad => ?_) rfl rfl (fun ad => ?_) (fun ad j hj => gV_same rfl ?_ rfl) (fun b hb => ⟨rfl, gup_o hb, rfl⟩) (fun sn sf hal h => h) kk
  · rw [hty]; exact ⟨rfl, rfl⟩
  · rw [hty]
    show Value.long (va_up G.2.2.2.1 a (va_up (G.2.2.2.1 a) k x) a k) = .long x
    rw [gup_s, gup_s]
  · show va_up G.2.2.2.1 a (va_up (G.2.2.2.1 a) k x) a j = G.2.2.2.1 a j
    rw [gup_s, gup_o hj]
theorem sx_putR {id pc : Nat} {lo : List (Nat × Value)} {sk : List Value} {nc ns : Nat} {G : gM} {r : gM × Option Value} {idx ci k h a b : Nat} (hc : decode (gb id) pc = .ok (.putfield idx, 3)) (he : (gown id * 1000 + idx, ci, k, h) ∈ gFL) (hi : idx < 1000) (ha : G.2.1 a = (0, ci)) (hf : gFin id ci k)
    (hty : (∃ n, gty ci k = .object n) ∨ ∃ n, gty ci k = .array n) (kk : Sx id (pc + 3) lo sk nc ns (gsetR G a k b) r) : Sx id pc lo (.ref b :: .ref a :: sk) nc ns G r := by
  refine sx_putfield (G' := gsetR G a k b) (v := .ref b) hc he hi ha hf (fun ad => ?_) rfl rfl (fun ad => ?_) (fun ad j hj => gV_same rfl rfl ?_) (fun b hb => ⟨rfl, rfl, gup_o hb⟩) (fun sn sf hal h => h) kk
  · rcases hty with ⟨n, h⟩ | ⟨n, h⟩ <;> rw [h] <;> exact ⟨rfl, rfl⟩
  · have e : va_up G.2.2.2.2 a (va_up (G.2.2.2.2 a) k (some b)) a k = some b := by rw [gup_s, gup_s]
    rcases hty with ⟨n, h⟩ | ⟨n, h⟩ <;> rw [h]
    · show va_rf ((va_up G.2.2.2.2 a (va_up (G.2.2.2.2 a) k (some b)) a k).map ad) = .ref (ad b)
      rw [e]; rfl
    · show va_rf ((va_up G.2.2.2.2 a (va_up (G.2.2.2.2 a) k (some b)) a k).map ad) = .ref (ad b)
      rw [e]; rfl
  · show va_up G.2.2.2.2 a (va_up (G.2.2.2.2 a) k (some b)) a j = G.2.2.2.2 a j
    rw [gup_s, gup_o hj]
theorem sx_getstatic {id pc : Nat} {lo : List (Nat × Value)} {sk : List Value} {nc ns : Nat} {G : gM} {r : gM × Option Value} {idx j h : Nat} (hc : decode (gb id) pc = .ok (.getstatic idx, 3)) (he : (gown id * 1000 + idx, j, h) ∈ gSL) (hi : idx < 1000) (kk : Sx id (pc + 3) lo (.ref (100000 + j) :: sk) nc ns G r) : Sx id pc lo sk nc ns G r := by
  intro base st sn sf D cy p l e R s m args below meth c H locs ls Q C hP hI hS hZ hl hK
  have C2 := C
  obtain ⟨hx, hb, -, -, hown, hts, -, -, -, hSt, -⟩ := C2
  have h1 := List.all_eq_true.mp gSL_ok _ he
  simp only [Bool.and_eq_true, decide_eq_true_eq] at h1
  rw [show (gown id * 1000 + idx) / 1000 = gown id by omega, show (gown id * 1000 + idx) % 1000 = idx by omega] at h1
  refine va_gets hx hb (hSt.2.2.1 j h1.2) hS hown (hts _ (gwd_mem h1.1)) (fun _ h => h) hc ?_
  rw [← gad_st (base := base) (st := st) (j := j)]
  exact kk base st sn sf D cy p l e R s m args below meth c H locs ls Q C hP hI hS hZ hl hK

