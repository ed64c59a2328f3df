theorem gCL_all {e : Nat × Nat × Nat × Nat × Nat × Nat × Nat × Nat × Nat} (he : e ∈ gCL) : gCLk e = true := by
  obtain ⟨i, hi⟩ := List.getElem?_of_mem he
  have hlt : i < 466 := by
    have h1 := (List.getElem?_eq_some_iff.mp hi).1
    have h2 : gCL.length = 466 := by decide +kernel
    omega
  have go : ∀ c, ((gCL.drop c).take 100).all gCLk = true → c ≤ i → i < c + 100 → gCLk e = true := by
    intro c h h1 h2
    refine List.all_eq_true.mp h e (List.mem_of_getElem? (i := i - c) ?_)
    rw [List.getElem?_take_of_lt (by omega), List.getElem?_drop, show c + (i - c) = i by omega]
    exact hi
  rcases (show i < 100 ∨ (100 ≤ i ∧ i < 200) ∨ (200 ≤ i ∧ i < 300) ∨ (300 ≤ i ∧ i < 400) ∨ (400 ≤ i ∧ i < 500) by omega) with h | h | h | h | h
  · exact go 0 gCL_ok_0 (Nat.zero_le _) (by omega)
  · exact go 100 gCL_ok_1 h.1 (by omega)
  · exact go 200 gCL_ok_2 h.1 (by omega)
  · exact go 300 gCL_ok_3 h.1 (by omega)
  · exact go 400 gCL_ok_4 h.1 (by omega)
theorem gin_of {ws : List Cond} (h : ∀ w ∈ ws, w ∈ gtb) : GoodIn gtb ws := fun w hw => ggood w (h w hw)
theorem gPc_blind {base : Nat} {st sn : Nat → Nat} {sf : Nat → Nat → Int32} {D : va_G} {cy : Nat → ClassId} {vs : List Value} {G : gM} : FrameBlind (gPc base st sn sf D cy vs G) := by
  intro a U g mk h
  obtain ⟨h1, h2, h3, h4⟩ := h
  exact ⟨h1, h2, h3, gSt.same (u := U) (U := U.calling g mk a) rfl h4⟩
theorem gPc_at {base : Nat} {st sn : Nat → Nat} {sf : Nat → Nat → Int32} {D : va_G} {cy : Nat → ClassId} {vs : List Value} {G : gM} {s : State} {H : Heap} {locs : List Loc} (hSt : gSt base st sn sf D cy s s.heap) (hS : va_S (fun q => base ≤ q) s.heap H locs) (hP : gP base st D cy G H) (hI : gI sn sf G) :
    ∀ U : State, U.heap = H → s.WarmedH U.vm → gPc base st sn sf D cy vs G ((vs.map (gsh (gad base st))).toArray) U := by
  intro U hU hW
  refine ⟨rfl, by rw [hU]; exact hP, hI, ?_⟩
  rw [hU]
  exact (hSt.moved hW).kept (fun a h1 h2 => hS.2.1 a h1 h2)
section gCont
variable {p : Program} {l : Launch} {e : Env} {R : Room} {s : State} {m : MethodId} {args : Array Value} {below : List Frame} {meth : Method} {c : Code} {H : Heap} {locs : List Loc} {Q : State → Prop}
theorem g_cont {base : Nat} {st sn : Nat → Nat} {sf : Nat → Nat → Int32} {D : va_G} {cy : Nat → ClassId} {nc ns mc ms pc : Nat} {ls : Array Slot} {st0 rest : List Value} {G1 : gM} {v : Option Value} {a : Array Value}
    (hr : va_Run p l e R s m args below meth c H locs nc ns mc ms (F0 m pc ls st0) rest (gQc base st sn sf D cy (G1, v) a) (fun q => base ≤ q)) (hS : va_S (fun q => base ≤ q) s.heap H locs)
    (kk : ∀ (H1 : Heap) (locs1 : List Loc), gP base st D cy G1 H1 → gI sn sf G1 → va_S (fun q => base ≤ q) s.heap H1 locs1 → W p l e R s m args below meth c H1 locs1 (nc + mc) (ns + ms) Q (F0 m (pc + 3) ls ((v.map (gsh (gad base st))).toList ++ rest))) : W p l e R s m args below meth c H locs nc ns Q (F0 m pc ls st0) := by
  intro T hT X
  obtain ⟨v', st₀, t, T', L, h0, X', hL, e1, e2, ⟨hv, hP1, hI1, hz, hk⟩, hst⟩ := hr T hT X
  cases hv
  rw [h0] at hz hk
  obtain ⟨t2, a1, b1⟩ := kk T'.heap (locs ++ L) (by rw [e1]; exact hP1) hI1
    ⟨Nat.le_trans hS.1 (by rw [e1]; exact hz), fun q h1 h2 => by rw [e1, hk q (Nat.lt_of_lt_of_le h1 hS.1) h2]; exact hS.2.1 q h1 h2, fun q hq => by
      rcases List.mem_append.mp hq with h | h
      · exact hS.2.2 q h
      · exact hL q h⟩ T' rfl X'
  exact ⟨t2, hst t2 a1, b1⟩
end gCont
theorem gcatsum (ad : Nat → Nat) (sk : List Value) : ((sk.map (gsh ad)).map fun v => v.category).sum = (sk.map fun v => v.category).sum := by
  rw [List.map_map]
  exact congrArg List.sum (List.map_congr_left (fun v _ => gsh_cat _ v))
/-- what a call asks of the room: frames, words, cells, slots -/
abbrev gRoom (id z nc ns : Nat) (sk : List Value) : Prop := gfr z + 1 ≤ gfr id ∧ 19 + gmx z + glo z ≤ glo id ∧ nc + gmc z ≤ gmc id ∧ ns + gms z ≤ gms id ∧ (sk.map fun v => v.category).sum ≤ 8
theorem sx_callS {id pc : Nat} {lo : List (Nat × Value)} {sk : List Value} {nc ns : Nat} {G : gM} {r : gM × Option Value} {idx z n ci h1 h2 h3 h4 : Nat} {vs : List Value} {G1 : gM} {v : Option Value} (hc : decode (gb id) pc = .ok (.invokestatic idx, 3)) (he : (gown id * 1000 + idx, 0, z, n, ci, h1, h2, h3, h4) ∈ gCL) (hi : idx < 1000) (hm : gMLk z = true) (hcw : .code (gy z) (gb z) (gmx z) (grt z) ∈ gtb) (hM : Mx z vs G (G1, v)) (hn : vs.length = n) (hz : G1.1 = G.1 + gmc z) (hr : gRoom id z nc ns sk)
    (kk : Sx id (pc + 3) lo (v.toList ++ sk) (nc + gmc z) (ns + gms z) G1 r) : Sx id pc lo (vs.reverse ++ sk) nc ns G r := by
  intro base st sn sf D cy p l e R s m args below meth c H locs ls Q C hP hI hS hZ hl hK
  have C2 := C
  obtain ⟨hx, hb, -, hml, hown, hts, -, -, hR, hSt, hbs⟩ := C2
  obtain ⟨m1, m2, m3, m4⟩ := gml hm
  have g1 := gCL_all he
  simp only [gCLk, Bool.and_eq_true, decide_eq_true_eq] at g1
  rw [show (gown id * 1000 + idx) / 1000 = gown id by omega, show (gown id * 1000 + idx) % 1000 = idx by omega] at g1
  obtain ⟨⟨⟨⟨w1, w2⟩, w3⟩, w4⟩, w5⟩ := g1
  obtain ⟨r1, r2, r3, r4, r5⟩ := hr
  have hws : ∀ w ∈ va_wsS (gcn (gown id)) idx (gy z) (gws z), w ∈ gtb := by
    intro w hw
    simp only [va_wsS, List.cons_append, List.nil_append, List.mem_cons] at hw
    rcases hw with rfl | rfl | rfl | rfl | hw
    · exact gwd_mem w1
    · exact gwd_mem w2
    · exact gwd_mem w3
    · exact hcw
    · exact hw
  have hrun := va_runS (l := l) (e := e) (R := R) (below := below) (meth := meth) (H := H) (locs := locs) (cells := nc) (slots := ns) (As := vs.map (gsh (gad base st))) (rest := sk.map (gsh (gad base st))) (g := F0 m pc ls ((vs.reverse ++ sk).map (gsh (gad base st)))) ⟨hx, hb, hml, hown, hts⟩ (hM base st sn sf D cy l) (va_cwS n hts (gin_of hws) rfl rfl rfl ⟨m3.1, m3.2, w4⟩ ⟨Nat.le_trans r1 hR.1, Nat.le_trans (by show 8 + (gmx z + 11) + glo z ≤ glo id; omega) hR.2.1⟩) ⟨gPc_blind, gPc_at hSt hS hP hI⟩ rfl (by rw [List.length_map]; exact hn) hl.1 (by rw [List.map_append, List.map_reverse]) (by show 2 * 0 + _ ≤ 8; rw [gcatsum]; omega) hc ⟨Nat.le_trans r3 hR.2.2.1, Nat.le_trans r4 hR.2.2.2⟩
  refine g_cont hrun hS (fun H1 locs1 hP1 hI1 hS1 => ?_)
  have k2 := kk base st sn sf D cy p l e R s m args below meth c H1 locs1 ls Q C hP1 hI1 hS1 (by rw [hP1.2]; have := hP.2; omega) hl hK
  rw [List.map_append] at k2
  cases v <;> exact k2
theorem sx_callV {id pc : Nat} {lo : List (Nat × Value)} {sk : List Value} {nc ns : Nat} {G : gM} {r : gM × Option Value} {idx z n ci h1 h2 h3 h4 b : Nat} {vs : List Value} {G1 : gM} {v : Option Value} (hc : decode (gb id) pc = .ok (.invokevirtual idx, 3)) (he : (gown id * 1000 + idx, 1, z, n, ci, h1, h2, h3, h4) ∈ gCL) (hi : idx < 1000) (hm : gMLk z = true) (hcw : .code (gy z) (gb z) (gmx z) (grt z) ∈ gtb) (hb0 : G.2.1 b = (0, ci)) (hM : Mx z (.ref b :: vs) G (G1, v)) (hn : vs.length = n) (hz : G1.1 = G.1 + gmc z) (hr : gRoom id z nc ns sk)
    (kk : Sx id (pc + 3) lo (v.toList ++ sk) (nc + gmc z) (ns + gms z) G1 r) : Sx id pc lo (vs.reverse ++ .ref b :: sk) nc ns G r := by
  intro base st sn sf D cy p l e R s m args below meth c H locs ls Q C hP hI hS hZ hl hK
  have C2 := C
  obtain ⟨hx, hb, -, hml, hown, hts, -, -, hR, hSt, hbs⟩ := C2
  obtain ⟨m1, m2, m3, m4⟩ := gml hm
  have g1 := gCL_all he
  simp only [gCLk, Bool.and_eq_true, decide_eq_true_eq] at g1
  rw [show (gown id * 1000 + idx) / 1000 = gown id by omega, show (gown id * 1000 + idx) % 1000 = idx by omega] at g1
  obtain ⟨⟨⟨⟨⟨⟨⟨w1, w2⟩, w6⟩, w7⟩, w8⟩, w3⟩, w4⟩, w5⟩ := g1
  obtain ⟨r1, r2, r3, r4, r5⟩ := hr
  obtain ⟨c1, c2, c3, c4⟩ := gcls_ok ci w8
  have hbl : b < G.1 := hI.lt (by rw [hb0]; exact Nat.zero_le _)
  have hgl := hI.1
  have hws : ∀ w ∈ wsV (gcn (gown id)) idx (gy z).cls (gy z) (gws z), w ∈ gtb := by
    intro w hw
    simp only [wsV, List.cons_append, List.nil_append, List.mem_cons] at hw
    rcases hw with rfl | rfl | rfl | rfl | rfl | hw
    · exact gwd_mem w1
    · exact gwd_mem w2
    · exact gwd_mem w6
    · exact gwd_mem w3
    · exact hcw
    · exact hw
  have hrecv := va_recv (a := base + b) (q0 := b) hSt.1 hP.1 c1 (by rw [gWd_get hbl, gE_obj hb0])
  rw [w7] at hrecv
  have hpc := gPc_at (vs := .ref b :: vs) hSt hS hP hI
  have hrun := va_runV (l := l) (e := e) (R := R) (below := below) (meth := meth) (H := H) (locs := locs) (cells := nc) (slots := ns) (b := base + b) (As := vs.map (gsh (gad base st))) (rest := sk.map (gsh (gad base st))) (g := F0 m pc ls ((vs.reverse ++ .ref b :: sk).map (gsh (gad base st)))) ⟨hx, hb, hml, hown, hts⟩ (hM base st sn sf D cy l) (cwV n hts (gin_of hws) rfl rfl rfl ⟨rfl, m3.1, m3.2, w4⟩ ⟨Nat.le_trans r1 hR.1, Nat.le_trans (by show 8 + (gmx z + 11) + glo z ≤ glo id; omega) hR.2.1⟩) ⟨gPc_blind, hrecv, fun U hU hW => by
      have h9 := hpc U hU hW
      rw [List.map_cons, show gsh (gad base st) (.ref b) = .ref (base + b) from congrArg Value.ref (gad_lt (by omega))] at h9
      exact h9⟩ rfl (by rw [List.length_map]; exact hn) hl.1 (by rw [List.map_append, List.map_reverse, List.map_cons, show gsh (gad base st) (.ref b) = .ref (base + b) from congrArg Value.ref (gad_lt (by omega))]) (by show 2 * 0 + _ ≤ 8; rw [gcatsum]; omega) hc ⟨Nat.le_trans r3 hR.2.2.1, Nat.le_trans r4 hR.2.2.2⟩
  refine g_cont hrun hS (fun H1 locs1 hP1 hI1 hS1 => ?_)
  have k2 := kk base st sn sf D cy p l e R s m args below meth c H1 locs1 ls Q C hP1 hI1 hS1 (by rw [hP1.2]; have := hP.2; omega) hl hK
  rw [List.map_append] at k2
  cases v <;> exact k2
theorem sx_callI {id pc : Nat} {lo : List (Nat × Value)} {sk : List Value} {nc ns : Nat} {G : gM} {r : gM × Option Value} {idx z n ci h1 h2 h3 h4 b : Nat} {vs : List Value} {G1 : gM} (hc : decode (gb id) pc = .ok (.invokespecial idx, 3)) (he : (gown id * 1000 + idx, 2, z, n, ci, h1, h2, h3, h4) ∈ gCL) (hi : idx < 1000) (hm : gMLk z = true) (hcw : .code (gy z) (gb z) (gmx z) (grt z) ∈ gtb) (hrt : grt z = none) (hbl : b < 100000) (hM : Mx z (.ref b :: vs) G (G1, none)) (hn : vs.length = n) (hz : G1.1 = G.1 + gmc z) (hr : gRoom id z nc ns sk)
    (kk : Sx id (pc + 3) lo sk (nc + gmc z) (ns + gms z) G1 r) : Sx id pc lo (vs.reverse ++ .ref b :: sk) nc ns G r := by
  intro base st sn sf D cy p l e R s m args below meth c H locs ls Q C hP hI hS hZ hl hK
  have C2 := C
  obtain ⟨hx, hb, -, hml, hown, hts, -, -, hR, hSt, hbs⟩ := C2
  obtain ⟨m1, m2, m3, m4⟩ := gml hm
  have g1 := gCL_all he
  simp only [gCLk, Bool.and_eq_true, decide_eq_true_eq] at g1
  rw [show (gown id * 1000 + idx) / 1000 = gown id by omega, show (gown id * 1000 + idx) % 1000 = idx by omega] at g1
  obtain ⟨⟨⟨⟨⟨w1, w2⟩, w6⟩, w3⟩, w4⟩, w5⟩ := g1
  obtain ⟨r1, r2, r3, r4, r5⟩ := hr
  have hMr := hM base st sn sf D cy l
  unfold gws at hMr
  rw [hrt] at hMr hcw
  have hws : ∀ w ∈ (.code (gy z) (gb z) (gmx z) none :: gtb : List Cond), w ∈ gtb := by
    intro w hw
    rcases List.mem_cons.mp hw with rfl | hw
    · exact hcw
    · exact hw
  have hpc := gPc_at (vs := .ref b :: vs) hSt hS hP hI
  have hrun := va_runI (l := l) (e := e) (R := R) (below := below) (meth := meth) (H := H) (locs := locs) (cells := nc) (slots := ns) (b := base + b) (As := vs.map (gsh (gad base st))) (rest := sk.map (gsh (gad base st))) (g := F0 m pc ls ((vs.reverse ++ .ref b :: sk).map (gsh (gad base st)))) ⟨hx, hb, hml, hown, hts⟩ hMr (cwI n hts (gin_of hws) rfl rfl rfl (hts _ (gwd_mem w3)) (hts _ (gwd_mem w1)) (hts _ (gwd_mem w2)) w6 ⟨m3.1, m3.2, w4⟩ ⟨Nat.le_trans r1 hR.1, Nat.le_trans (by show 8 + (gmx z + 11) + glo z ≤ glo id; omega) hR.2.1⟩) ⟨gPc_blind, fun U hU hW => by
      have h9 := hpc U hU hW
      rw [List.map_cons, show gsh (gad base st) (.ref b) = .ref (base + b) from congrArg Value.ref (gad_lt (by omega))] at h9
      exact h9⟩ rfl (by rw [List.length_map]; exact hn) hl.1 (by rw [List.map_append, List.map_reverse, List.map_cons, show gsh (gad base st) (.ref b) = .ref (base + b) from congrArg Value.ref (gad_lt (by omega))]) (by show 2 * 0 + _ ≤ 8; rw [gcatsum]; omega) hc ⟨Nat.le_trans r3 hR.2.2.1, Nat.le_trans r4 hR.2.2.2⟩
  refine g_cont hrun hS (fun H1 locs1 hP1 hI1 hS1 => ?_)
  exact kk base st sn sf D cy p l e R s m args below meth c H1 locs1 ls Q C hP1 hI1 hS1 (by rw [hP1.2]; have := hP.2; omega) hl hK
theorem sx_callN {id pc : Nat} {lo : List (Nat × Value)} {sk : List Value} {nc ns : Nat} {G : gM} {r : gM × Option Value} {idx z n ci h1 h2 h3 h4 b : Nat} {vs : List Value} {G1 : gM} (hc : decode (gb id) pc = .ok (.invokespecial idx, 3)) (he : (gown id * 1000 + idx, 3, z, n, ci, h1, h2, h3, h4) ∈ gCL) (hel : (gown id * 1000 + idx, z) ∈ gEL) (hi : idx < 1000) (hm : gMLk z = true) (hcw : .code (gy z) (gb z) (gmx z) (grt z) ∈ gtb) (hrt : grt z = none) (hbl : b < 100000) (hM : Mx z (.ref b :: vs) G (G1, none)) (hn : vs.length = n) (hz : G1.1 = G.1 + gmc z) (hr : gRoom id z nc ns sk)
    (kk : Sx id (pc + 3) lo sk (nc + gmc z) (ns + gms z) G1 r) : Sx id pc lo (vs.reverse ++ .ref b :: sk) nc ns G r := by
  intro base st sn sf D cy p l e R s m args below meth c H locs ls Q C hP hI hS hZ hl hK
  have C2 := C
  obtain ⟨hx, hb, -, hml, hown, hts, -, -, hR, hSt, hbs⟩ := C2
  obtain ⟨m1, m2, m3, m4⟩ := gml hm
  have g1 := gCL_all he
  simp only [gCLk, Bool.and_eq_true, decide_eq_true_eq] at g1
  obtain ⟨⟨⟨⟨w2, w6⟩, w3⟩, w4⟩, w5⟩ := g1
  have g2 := hSt.2.2.2.2.2 _ hel
  dsimp only at g2
  rw [show (gown id * 1000 + idx) / 1000 = gown id by omega, show (gown id * 1000 + idx) % 1000 = idx by omega] at g2
  obtain ⟨r1, r2, r3, r4, r5⟩ := hr
  have hMr := hM base st sn sf D cy l
  unfold gws at hMr
  rw [hrt] at hMr hcw
  have hws : ∀ w ∈ (.code (gy z) (gb z) (gmx z) none :: gtb : List Cond), w ∈ gtb := by
    intro w hw
    rcases List.mem_cons.mp hw with rfl | hw
    · exact hcw
    · exact hw
  have hpc := gPc_at (vs := .ref b :: vs) hSt hS hP hI
  have hrun := va_runIN (l := l) (e := e) (R := R) (below := below) (meth := meth) (H := H) (locs := locs) (cells := nc) (slots := ns) (b := base + b) (As := vs.map (gsh (gad base st))) (rest := sk.map (gsh (gad base st))) (g := F0 m pc ls ((vs.reverse ++ .ref b :: sk).map (gsh (gad base st)))) ⟨hx, hb, hml, hown, hts⟩ hMr ⟨va_cnB n hts (gin_of hws) rfl rfl rfl g2 (hts _ (gwd_mem w3)) ⟨m3.1, m3.2, w4⟩ ⟨Nat.le_trans r1 hR.1, Nat.le_trans (by show 8 + (gmx z + 11) + glo z ≤ glo id; omega) hR.2.1⟩, w6, hts _ (gwd_mem w2)⟩ ⟨gPc_blind, fun U hU hW => by
      have h9 := hpc U hU hW
      rw [List.map_cons, show gsh (gad base st) (.ref b) = .ref (base + b) from congrArg Value.ref (gad_lt (by omega))] at h9
      exact h9⟩ rfl (by rw [List.length_map]; exact hn) hl.1 (by rw [List.map_append, List.map_reverse, List.map_cons, show gsh (gad base st) (.ref b) = .ref (base + b) from congrArg Value.ref (gad_lt (by omega))]) (by show 2 * 0 + _ ≤ 8; rw [gcatsum]; omega) hc ⟨Nat.le_trans r3 hR.2.2.1, Nat.le_trans r4 hR.2.2.2⟩
  refine g_cont hrun hS (fun H1 locs1 hP1 hI1 hS1 => ?_)
  exact kk base st sn sf D cy p l e R s m args below meth c H1 locs1 ls Q C hP1 hI1 hS1 (by rw [hP1.2]; have := hP.2; omega) hl hK
