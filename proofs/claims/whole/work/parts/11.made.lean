def gtyOk (ty : FieldType) : Bool := match ty with
  | .int => true
  | .boolean => true
  | .long => true
  | .object _ => true
  | .array _ => true
  | _ => false
theorem gty_all : ∀ ci, ci < 12 → ∀ j, j < gnf ci → gtyOk (gty ci j) = true := by
  have h : (List.range 12).all (fun ci => (List.range (gnf ci)).all (fun j => gtyOk (gty ci j))) = true := by decide +kernel
  intro ci hci j hj
  exact List.all_eq_true.mp (List.all_eq_true.mp h ci (List.mem_range.mpr hci)) j (List.mem_range.mpr hj)
theorem gV_new {ad : Nat → Nat} {G : gM} {kd : Nat × Nat} {k : Nat} {ty : FieldType} (h : gtyOk ty = true) : defaultValue ty = gV ad (gpush G kd) G.1 k ty := by
  have e1 : (gpush G kd).2.2.1 G.1 k = 0 := by show va_up G.2.2.1 G.1 (fun _ => 0) G.1 k = 0; rw [gup_s]
  have e2 : (gpush G kd).2.2.2.1 G.1 k = 0 := by show va_up G.2.2.2.1 G.1 (fun _ => 0) G.1 k = 0; rw [gup_s]
  have e3 : (gpush G kd).2.2.2.2 G.1 k = none := by show va_up G.2.2.2.2 G.1 (fun _ => none) G.1 k = none; rw [gup_s]
  unfold gV
  cases ty <;> first | (rw [e1]; rfl) | (rw [e2]; rfl) | (rw [e3]; rfl) | (cases h)
theorem gnew_q {base : Nat} {st : Nat → Nat} {D : va_G} {cy : Nat → ClassId} {G : gM} {H1 : Heap} {q : Nat} {e : va_E} (hP1 : va_P D vwCl (gWd base st cy G ++ [(q, e)]) H1) (hD1 : va_D (fun q => base ≤ q) (gWd base st cy G ++ [(q, e)])) (hz : H1.size ≤ base + G.1 + 1) : q = base + G.1 ∧ H1.size = base + G.1 + 1 := by
  have hlast : (gWd base st cy G ++ [(q, e)])[G.1]? = some (q, e) := by
    rw [List.getElem?_append_right (by rw [gWd_len]; exact Nat.le_refl _), gWd_len]
    simp
  have h1 := hD1.2 _ _ hlast
  have h2 := (hP1 _ _ hlast).lt
  dsimp only at h1 h2
  have h3 : ¬ q - base < G.1 := by
    intro hlt
    have hk : (gWd base st cy G ++ [(q, e)])[q - base]? = some (base + (q - base), gE (gad base st) cy G (q - base)) := by
      rw [List.getElem?_append_left (by rw [gWd_len]; exact hlt), gWd_get hlt]
    have := hD1.1 _ _ _ _ hk hlast (by show base + (q - base) = q; omega)
    omega
  omega
theorem gP_push {base : Nat} {st : Nat → Nat} {D : va_G} {cy : Nat → ClassId} {G : gM} {kd : Nat × Nat} {H1 : Heap} {q : Nat} {e : va_E} (he : gE (gad base st) cy (gpush G kd) G.1 = e) (hP1 : va_P D vwCl (gWd base st cy G ++ [(q, e)]) H1) (hq : q = base + G.1) (hz : H1.size = base + G.1 + 1) : gP base st D cy (gpush G kd) H1 := by
  subst hq
  refine ⟨?_, hz⟩
  rw [← gWd_push (G := G) (G' := gpush G kd) rfl he (fun k hk => gE_congr ?_ ?_ ?_ ?_)]
  · exact hP1
  all_goals exact gup_o (Nat.ne_of_lt hk)
theorem sx_new {id pc : Nat} {lo : List (Nat × Value)} {sk : List Value} {nc ns : Nat} {G : gM} {r : gM × Option Value} {idx ci h1 h2 h3 : Nat} (hc : decode (gb id) pc = .ok (.new idx, 3)) (he : (gown id * 1000 + idx, ci, h1, h2, h3) ∈ gNL) (hi : idx < 1000) (hn : G.1 + 1 ≤ 100000) (hcn : nc + 1 ≤ gmc id) (hsn : ns + gnf ci ≤ gms id) (kk : Sx id (pc + 3) lo (.ref G.1 :: sk) (nc + 1) (ns + gnf ci) (gpush G (0, ci)) r) : Sx id pc lo sk nc ns G r := by
  intro base st sn sf D cy p l e R s m args below meth c H locs ls Q C hP hI hS hZ hl hK
  have C2 := C
  obtain ⟨hx, hb, -, -, hown, hts, -, -, hR, hSt, hbs⟩ := C2
  have g1 := List.all_eq_true.mp gNL_ok _ he
  simp only [gNLk, Bool.and_eq_true, decide_eq_true_eq] at g1
  rw [show (gown id * 1000 + idx) / 1000 = gown id by omega, show (gown id * 1000 + idx) % 1000 = idx by omega] at g1
  obtain ⟨⟨⟨w1, w2⟩, w3⟩, hci⟩ := g1
  obtain ⟨c1, c2, c3, c4⟩ := gcls_ok ci hci
  have hPz := hP.2
  refine va_new (ci := ci) (fs := (List.range (gnf ci)).map (fun k => gV (gad base st) (gpush G (0, ci)) G.1 k (gty ci k))) hx hb hts c4 (gty ci) c2 hown (hts _ (gwd_mem w1)) (hts _ (gwd_mem w2)) (hts _ (gwd_mem w3)) hSt.1 hP.1 gWd_D (gS_self hS) (fun q hq => by omega) c1 (fun j hj => ?_) (Nat.le_trans hcn hR.2.2.1) (Nat.le_trans hsn hR.2.2.2) hc (fun q H1 hP1 hD1 hS1 => W_size (fun hz => ?_))
  · have hj : j < gnf ci := hj
    rw [gV_new (ad := gad base st) (G := G) (kd := (0, ci)) (k := j) (gty_all ci hci j hj)]
    show _ = ((List.range (gnf ci)).map (fun k => gV (gad base st) (gpush G (0, ci)) G.1 k (gty ci k))).getD j .null
    rw [List.getD_eq_getElem?_getD, List.getElem?_map, List.getElem?_range hj]
    rfl
  · obtain ⟨q1, q2⟩ := gnew_q hP1 hD1 (by omega)
    have hg : gP base st D cy (gpush G (0, ci)) H1 := gP_push (gE_obj (by show va_up G.2.1 G.1 (0, ci) G.1 = _; rw [gup_s])) hP1 q1 q2
    subst q1
    rw [← gad_lt (base := base) (st := st) (k := G.1) (by omega)]
    exact kk base st sn sf D cy p l e R s m args below meth c H1 locs ls Q C hg (hI.push (Nat.zero_le _) (fun _ => hci) hn) (gS_trans hS hS1) (by omega) hl hK
theorem sx_newarr {id pc : Nat} {lo : List (Nat × Value)} {sk : List Value} {nc ns : Nat} {G : gM} {r : gM × Option Value} {t N : Nat} {ty : ArrayType} {n : Int32} (hc : decode (gb id) pc = .ok (.newarray ty, 2)) (ht : (ty = .int ∧ t = 0) ∨ (ty = .byte ∧ t = 1) ∨ (ty = .boolean ∧ t = 2)) (h0 : ¬ n < 0) (hN : n.toNatClampNeg = N) (hNb : N ≤ 100000) (hn : G.1 + 1 ≤ 100000) (hcn : nc + 1 ≤ gmc id) (hsn : ns + N ≤ gms id) (kk : Sx id (pc + 2) lo (.ref G.1 :: sk) (nc + 1) (ns + N) (gpush G (t + 1, N)) r) : Sx id pc lo (.int n :: sk) nc ns G r := by
  intro base st sn sf D cy p l e R s m args below meth c H locs ls Q C hP hI hS hZ hl hK
  have C2 := C
  obtain ⟨hx, hb, -, -, hown, hts, -, -, hR, hSt, hbs⟩ := C2
  have hPz := hP.2
  have ht3 : t < 3 := by rcases ht with ⟨-, h⟩ | ⟨-, h⟩ | ⟨-, h⟩ <;> omega
  have hw : (Cond.arrayClass (newarray.typeOf ty)).before args s = true := by
    rcases ht with ⟨h, -⟩ | ⟨h, -⟩ | ⟨h, -⟩ <;> subst h
    · exact hts _ (gwd_mem gRL_ok.1)
    · exact hts _ (gwd_mem gRL_ok.2.1)
    · exact hts _ (gwd_mem gRL_ok.2.2)
  have hcy : ∀ cA : ClassId, va_RA s cA (newarray.typeOf ty) → cA = cy t := by
    intro cA hA
    have h5 : ∀ (j : Nat) (x : ClassId × FieldType), (gtys cy)[j]? = some x → va_RA s x.1 x.2 := fun j x hx => (hSt.1.2 j x hx).2
    rcases ht with ⟨h, h7⟩ | ⟨h, h7⟩ | ⟨h, h7⟩ <;> subst h <;> subst h7
    · exact Option.some.inj (hA.symm.trans (h5 0 _ rfl))
    · exact Option.some.inj (hA.symm.trans (h5 1 _ rfl))
    · exact Option.some.inj (hA.symm.trans (h5 2 _ rfl))
  have hdv : defaultValue (newarray.typeOf ty) = .int 0 := by rcases ht with ⟨h, -⟩ | ⟨h, -⟩ | ⟨h, -⟩ <;> subst h <;> rfl
  have hcb : componentBytes (newarray.typeOf ty) ≤ 8 := by rcases ht with ⟨h, -⟩ | ⟨h, -⟩ | ⟨h, -⟩ <;> subst h <;> decide
  refine va_newa (a0 := (N, .inl (fun _ => 0))) hx hb hw rfl hSt.1 hP.1 gWd_D (gS_self hS) (fun q hq => by omega) (fun cA => by rw [vp_cell_i, hdv]) h0 hN ?_ (Nat.le_trans hcn hR.2.2.1) (Nat.le_trans hsn hR.2.2.2) hc (fun q cA H1 hK1 hP1 hD1 hS1 => W_size (fun hz => ?_))
  · have : N * componentBytes (newarray.typeOf ty) ≤ 100000 * 8 := Nat.mul_le_mul hNb hcb
    omega
  · obtain ⟨q1, q2⟩ := gnew_q hP1 hD1 (by omega)
    have hc5 := hcy cA (hK1.2 5 (cA, newarray.typeOf ty) rfl).2
    subst hc5
    have hk : (gpush G (t + 1, N)).2.1 G.1 = (t + 1, N) := by show va_up G.2.1 G.1 (t + 1, N) G.1 = _; rw [gup_s]
    have hg : gP base st D cy (gpush G (t + 1, N)) H1 := gP_push (by rw [gE_arr hk ht3]; show Sum.inl (cy t, N, Sum.inl (va_up G.2.2.1 G.1 (fun _ => 0) G.1)) = _; rw [gup_s]) hP1 q1 q2
    subst q1
    rw [← gad_lt (base := base) (st := st) (k := G.1) (by omega)]
    exact kk base st sn sf D cy p l e R s m args below meth c H1 locs ls Q C hg (hI.push (by show t + 1 ≤ 5; omega) (fun h => by cases h) hn) (gS_trans hS hS1) (by omega) hl hK
theorem sx_anew {id pc : Nat} {lo : List (Nat × Value)} {sk : List Value} {nc ns : Nat} {G : gM} {r : gM × Option Value} {idx t h1 h2 N : Nat} {n : Int32} (hc : decode (gb id) pc = .ok (.anewarray idx, 3)) (he : (gown id * 1000 + idx, t + 4, h1, h2) ∈ gAL) (hi : idx < 1000) (h0 : ¬ n < 0) (hN : n.toNatClampNeg = N) (hNb : N ≤ 100000) (hn : G.1 + 1 ≤ 100000) (hcn : nc + 1 ≤ gmc id) (hsn : ns + N ≤ gms id) (kk : Sx id (pc + 3) lo (.ref G.1 :: sk) (nc + 1) (ns + N) (gpush G (t + 4, N)) r) : Sx id pc lo (.int n :: sk) nc ns G r := by
  intro base st sn sf D cy p l e R s m args below meth c H locs ls Q C hP hI hS hZ hl hK
  have C2 := C
  obtain ⟨hx, hb, -, -, hown, hts, -, -, hR, hSt, hbs⟩ := C2
  have g1 := List.all_eq_true.mp gAL_ok _ he
  simp only [Bool.and_eq_true, decide_eq_true_eq] at g1
  rw [show (gown id * 1000 + idx) / 1000 = gown id by omega, show (gown id * 1000 + idx) % 1000 = idx by omega] at g1
  obtain ⟨w1, w2⟩ := g1
  have hPz := hP.2
  have go : ∀ (Cn : String), Cn = (if t + 4 = 4 then "CraftHouse$Bytes" else "CraftHouse$Store") → (gtys cy)[t + 3]? = some (cy (t + 3), .object Cn) → va_AO Cn s → W p l e R s m args below meth c H locs nc ns Q (F0 m pc ls (.int n :: sk.map (gsh (gad base st)))) := by
    intro Cn hCn hty hao
    rw [← hCn] at w1
    refine va_newq hx hb hown (hts _ (gwd_mem w1)) hao hSt.1 hP.1 gWd_D (gS_self hS) (fun q hq => by omega) h0 hN (by omega) (Nat.le_trans hcn hR.2.2.1) (Nat.le_trans hsn hR.2.2.2) hc (fun q cA H1 hK1 hP1 hD1 hS1 => W_size (fun hz => ?_))
    obtain ⟨q1, q2⟩ := gnew_q hP1 hD1 (by omega)
    have hc5 : cA = cy (t + 3) := by
      obtain ⟨_, _, -, -, -, r1⟩ := (hK1.2 5 (cA, .object Cn) rfl).2
      obtain ⟨_, _, -, -, -, r2⟩ := (hSt.1.2 _ _ hty).2
      exact Option.some.inj (r1.symm.trans r2)
    subst hc5
    have hk : (gpush G (t + 4, N)).2.1 G.1 = (t + 4, N) := by show va_up G.2.1 G.1 (t + 4, N) G.1 = _; rw [gup_s]
    have hg : gP base st D cy (gpush G (t + 4, N)) H1 := gP_push (by rw [gE_ref hk]; show Sum.inl (cy (t + 3), N, Sum.inr (Sum.inr (Sum.inr (Sum.inr (fun j => (va_up G.2.2.2.2 G.1 (fun _ => none) G.1 j).map (gad base st)))))) = _; rw [gup_s]; rfl) hP1 q1 q2
    subst q1
    rw [← gad_lt (base := base) (st := st) (k := G.1) (by omega)]
    exact kk base st sn sf D cy p l e R s m args below meth c H1 locs ls Q C hg (hI.push (by show t + 4 ≤ 5; omega) (fun h => by cases h) hn) (gS_trans hS hS1) (by omega) hl hK
  rcases (show t = 0 ∨ t = 1 by omega) with h | h <;> subst h
  · exact go "CraftHouse$Bytes" rfl rfl hSt.2.2.2.1
  · exact go "CraftHouse$Store" rfl rfl hSt.2.2.2.2.1
theorem sx_aastore {id pc : Nat} {lo : List (Nat × Value)} {sk : List Value} {nc ns : Nat} {G : gM} {r : gM × Option Value} {a b t n : Nat} {i : Int32} (hc : decode (gb id) pc = .ok (.aastore, 1)) (ht : t < 2) (ha : G.2.1 a = (t + 4, n)) (hb0 : G.2.1 b = (0, if t = 0 then 1 else 8)) (hin : vp_in i n) (kk : Sx id (pc + 1) lo sk nc ns (gsetR G a i.toNatClampNeg b) r) : Sx id pc lo (.ref b :: .int i :: .ref a :: sk) nc ns G r := by
  intro base st sn sf D cy p l e R s m args below meth c H locs ls Q C hP hI hS hZ hl hK
  have C2 := C
  obtain ⟨hx, hb, -, -, hown, hts, -, -, hR, hSt, hbs⟩ := C2
  show W p l e R s m args below meth c H locs nc ns Q (F0 m pc ls (.ref (gad base st b) :: .int i :: .ref (gad base st a) :: sk.map (gsh (gad base st))))
  have hal : a < G.1 := hI.lt (by rw [ha]; show t + 4 ≤ 5; omega)
  have hbl : b < G.1 := hI.lt (by rw [hb0]; exact Nat.zero_le _)
  have hgl := hI.1
  rw [gad_lt (k := a) (by omega), gad_lt (k := b) (by omega)]
  have go : ∀ (rr : vw_C) (ci : Nat), G.2.1 b = (0, ci) → vwCl[ci]? = some rr → (gtys cy)[t + 3]? = some (cy (t + 3), .object rr.1) → W p l e R s m args below meth c H locs nc ns Q (F0 m pc ls (.ref (base + b) :: .int i :: .ref (base + a) :: sk.map (gsh (gad base st)))) := by
    intro rr ci hb1 hcl hty
    refine va_astq hx hb hSt.1 hP.1 gWd_D (gS_self hS) a (t + 3) b ci (r := rr) (by rw [gWd_get hal, gE_ref ha]) hty (by rw [gWd_get hbl, gE_obj hb1]) hcl hin hc (fun H1 locs1 hP1 hD1 hS1 => W_size (fun hz => ?_))
    have hz1 : H1.size = H.size := by have := hS1.1; omega
    refine kk base st sn sf D cy p l e R s m args below meth c H1 locs1 ls Q C (gP_set (G := G) (G' := gsetR G a i.toNatClampNeg b) hal rfl ?_ (fun k hk => gE_congr rfl rfl rfl (gup_o hk)) hP1 (by rw [hz1]; exact hP.2)) hI (gS_trans hS hS1) (by rw [hz1]; exact hZ) hl hK
    rw [gE_ref (G := gsetR G a i.toNatClampNeg b) ha]
    congr 7
    funext j
    show (va_up G.2.2.2.2 a (va_up (G.2.2.2.2 a) i.toNatClampNeg (some b)) a j).map (gad base st) = _
    rw [gup_s]
    unfold va_up
    split
    · show some (gad base st b) = _
      rw [gad_lt (by omega)]
    · rfl
  rcases (show t = 0 ∨ t = 1 by omega) with h | h <;> subst h
  · exact go _ 1 hb0 rfl rfl
  · exact go _ 8 hb0 rfl rfl
