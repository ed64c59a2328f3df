theorem gtA {cy : Nat → ClassId} {t : Nat} (h : t < 3) : (gtys cy)[t]? = some (cy t, ([.int, .byte, .boolean] : List FieldType).getD t .int) := by
  match t, h with
  | 0, _ => rfl
  | 1, _ => rfl
  | 2, _ => rfl
  | n + 3, h => exact absurd h (by omega)
theorem gpair {x : Nat × Nat} {a b : Nat} (h1 : x.1 = a) (h2 : x.2 = b) : x = (a, b) := by
  cases x; simp_all
theorem sx_iaload {id pc : Nat} {lo : List (Nat × Value)} {sk : List Value} {nc ns : Nat} {G : gM} {r : gM × Option Value} {a n : Nat} {i : Int32} (hc : decode (gb id) pc = .ok (.iaload, 1)) (ha : G.2.1 a = (1, n) ∨ G.2.1 a = (8, n)) (hin : vp_in i n) (kk : Sx id (pc + 1) lo (.int (G.2.2.1 a i.toNatClampNeg) :: sk) nc ns G r) : Sx id pc lo (.int i :: .ref a :: sk) nc ns G r := by
  intro base st sn sf D cy p l e R s m args below meth c H locs ls Q C hP hI hS hZ hl hK
  have C2 := C
  obtain ⟨hx, hb, -, -, -, -, -, -, -, hSt, -⟩ := C2
  show W p l e R s m args below meth c H locs nc ns Q (F0 m pc ls (.int i :: .ref (gad base st a) :: sk.map (gsh (gad base st))))
  rcases ha with ha | ha
  · have hal : a < G.1 := hI.lt (by rw [ha]; exact Nat.le_of_ble_eq_true rfl)
    have hgl := hI.1
    rw [gad_lt (by omega)]
    exact va_iald hx hb hSt.1 hP.1 a 0 (by rw [gWd_get hal, gE_arr (t := 0) ha (by decide)]) rfl hin hc (kk base st sn sf D cy p l e R s m args below meth c H locs ls Q C hP hI hS hZ hl hK)
  · obtain ⟨j, hj, rfl, h1, h2⟩ := hI.st (by rw [ha])
    rw [ha] at h1
    rw [gad_st]
    have h1 : n = sn j := h1
    subst h1
    exact va_ti hx hb (hSt.2.1 j hj) hS hin (by rw [h2]; rfl) hc (kk base st sn sf D cy p l e R s m args below meth c H locs ls Q C hP hI hS hZ hl hK)
theorem sx_baload {id pc : Nat} {lo : List (Nat × Value)} {sk : List Value} {nc ns : Nat} {G : gM} {r : gM × Option Value} {a n : Nat} {i : Int32} (hc : decode (gb id) pc = .ok (.baload, 1)) (ha : G.2.1 a = (2, n) ∨ G.2.1 a = (3, n)) (hin : vp_in i n) (kk : Sx id (pc + 1) lo (.int (G.2.2.1 a i.toNatClampNeg) :: sk) nc ns G r) : Sx id pc lo (.int i :: .ref a :: sk) nc ns G r := by
  intro base st sn sf D cy p l e R s m args below meth c H locs ls Q C hP hI hS hZ hl hK
  have C2 := C
  obtain ⟨hx, hb, -, -, -, -, -, -, -, hSt, -⟩ := C2
  show W p l e R s m args below meth c H locs nc ns Q (F0 m pc ls (.int i :: .ref (gad base st a) :: sk.map (gsh (gad base st))))
  have hal : a < G.1 := hI.lt (by rcases ha with ha | ha <;> rw [ha] <;> exact Nat.le_of_ble_eq_true rfl)
  have hgl := hI.1
  rw [gad_lt (by omega)]
  rcases ha with ha | ha
  · exact va_bald hx hb hSt.1 hP.1 a 1 (by rw [gWd_get hal, gE_arr (t := 1) ha (by decide)]) rfl hin hc (kk base st sn sf D cy p l e R s m args below meth c H locs ls Q C hP hI hS hZ hl hK)
  · exact va_zald hx hb hSt.1 hP.1 a 2 (by rw [gWd_get hal, gE_arr (t := 2) ha (by decide)]) rfl hin hc (kk base st sn sf D cy p l e R s m args below meth c H locs ls Q C hP hI hS hZ hl hK)
theorem sx_alen {id pc : Nat} {lo : List (Nat × Value)} {sk : List Value} {nc ns : Nat} {G : gM} {r : gM × Option Value} {a t n : Nat} {v : Int32} (hc : decode (gb id) pc = .ok (.arraylength, 1)) (ha : (t < 3 ∧ G.2.1 a = (t + 1, n)) ∨ G.2.1 a = (8, n)) (hv : Int32.ofNat n = v) (kk : Sx id (pc + 1) lo (.int v :: sk) nc ns G r) : Sx id pc lo (.ref a :: sk) nc ns G r := by
  intro base st sn sf D cy p l e R s m args below meth c H locs ls Q C hP hI hS hZ hl hK
  have C2 := C
  obtain ⟨hx, hb, -, -, -, -, -, -, -, hSt, -⟩ := C2
  show W p l e R s m args below meth c H locs nc ns Q (F0 m pc ls (.ref (gad base st a) :: sk.map (gsh (gad base st))))
  rcases ha with ⟨ht, ha⟩ | ha
  · have hal : a < G.1 := hI.lt (by rw [ha]; show t + 1 ≤ 5; omega)
    have hgl := hI.1
    rw [gad_lt (by omega)]
    exact va_alen hx hb hSt.1 hP.1 a t (by rw [gWd_get hal, gE_arr (t := t) ha ht]) (gtA ht) hv hc (kk base st sn sf D cy p l e R s m args below meth c H locs ls Q C hP hI hS hZ hl hK)
  · obtain ⟨j, hj, rfl, h1, h2⟩ := hI.st (by rw [ha])
    rw [ha] at h1
    rw [gad_st]
    have h1 : n = sn j := h1
    subst h1
    exact va_tlen hx hb (hSt.2.1 j hj) hS hv hc (kk base st sn sf D cy p l e R s m args below meth c H locs ls Q C hP hI hS hZ hl hK)
theorem sx_alenR {id pc : Nat} {lo : List (Nat × Value)} {sk : List Value} {nc ns : Nat} {G : gM} {r : gM × Option Value} {a t n : Nat} {v : Int32} (hc : decode (gb id) pc = .ok (.arraylength, 1)) (ha : t < 2 ∧ G.2.1 a = (t + 4, n)) (hv : Int32.ofNat n = v) (kk : Sx id (pc + 1) lo (.int v :: sk) nc ns G r) : Sx id pc lo (.ref a :: sk) nc ns G r := by
  intro base st sn sf D cy p l e R s m args below meth c H locs ls Q C hP hI hS hZ hl hK
  have C2 := C
  obtain ⟨hx, hb, -, -, -, -, -, -, -, hSt, -⟩ := C2
  obtain ⟨ht, ha⟩ := ha
  show W p l e R s m args below meth c H locs nc ns Q (F0 m pc ls (.ref (gad base st a) :: sk.map (gsh (gad base st))))
  have hal : a < G.1 := hI.lt (by rw [ha]; show t + 4 ≤ 5; omega)
  have hgl := hI.1
  rw [gad_lt (by omega)]
  match t, ht, ha with
  | 0, _, ha => exact va_alen hx hb hSt.1 hP.1 a 3 (by rw [gWd_get hal, gE_ref ha]) rfl hv hc (kk base st sn sf D cy p l e R s m args below meth c H locs ls Q C hP hI hS hZ hl hK)
  | 1, _, ha => exact va_alen hx hb hSt.1 hP.1 a 4 (by rw [gWd_get hal, gE_ref ha]) rfl hv hc (kk base st sn sf D cy p l e R s m args below meth c H locs ls Q C hP hI hS hZ hl hK)
  | n + 2, h, _ => exact absurd h (by omega)
theorem sx_aaload {id pc : Nat} {lo : List (Nat × Value)} {sk : List Value} {nc ns : Nat} {G : gM} {r : gM × Option Value} {a t n b : Nat} {i : Int32} (hc : decode (gb id) pc = .ok (.aaload, 1)) (ht : t < 2) (ha : G.2.1 a = (t + 4, n)) (hin : vp_in i n) (hv : G.2.2.2.2 a i.toNatClampNeg = some b) (kk : Sx id (pc + 1) lo (.ref b :: sk) nc ns G r) : Sx id pc lo (.int i :: .ref a :: sk) nc ns G r := by
  intro base st sn sf D cy p l e R s m args below meth c H locs ls Q C hP hI hS hZ hl hK
  have C2 := C
  obtain ⟨hx, hb, -, -, -, -, -, -, -, hSt, -⟩ := C2
  show W p l e R s m args below meth c H locs nc ns Q (F0 m pc ls (.int i :: .ref (gad base st a) :: sk.map (gsh (gad base st))))
  have hal : a < G.1 := hI.lt (by rw [ha]; show t + 4 ≤ 5; omega)
  have hgl := hI.1
  have k2 := kk base st sn sf D cy p l e R s m args below meth c H locs ls Q C hP hI hS hZ hl hK
  have er : va_rf ((G.2.2.2.2 a i.toNatClampNeg).map (gad base st)) = .ref (gad base st b) := by rw [hv]; rfl
  have k3 : W p l e R s m args below meth c H locs nc ns Q (F0 m (pc + 1) ls (va_rf ((G.2.2.2.2 a i.toNatClampNeg).map (gad base st)) :: sk.map (gsh (gad base st)))) := by rw [er]; exact k2
  rw [gad_lt (k := a) (by omega)]
  match t, ht, ha with
  | 0, _, ha => exact va_aldq hx hb hSt.1 hP.1 a 3 (C := "CraftHouse$Bytes") (by rw [gWd_get hal, gE_ref ha]) rfl hin hc k3
  | 1, _, ha => exact va_aldq hx hb hSt.1 hP.1 a 4 (C := "CraftHouse$Store") (by rw [gWd_get hal, gE_ref ha]) rfl hin hc k3
  | n + 2, h, _ => exact absurd h (by omega)
/-- a row of ints, bytes, booleans gets new contents -/
theorem gP_row {base : Nat} {st : Nat → Nat} {D : va_G} {cy : Nat → ClassId} {G : gM} {H1 : Heap} {a t n : Nat} {f : Nat → Int32} (ha : G.2.1 a = (t + 1, n)) (ht : t < 3) (hal : a < G.1) (hP : va_P D vwCl ((gWd base st cy G).set a (base + a, .inl (cy t, n, .inl f))) H1) (hz : H1.size = base + G.1) : gP base st D cy (gsetW G a f) H1 := by
  refine gP_set (G := G) hal rfl ?_ (fun b hb => gE_congr rfl (gup_o hb) rfl rfl) hP hz
  rw [gE_arr (G := gsetW G a f) (t := t) ha ht]
  show Sum.inl (cy t, n, Sum.inl (va_up G.2.2.1 a f a)) = _
  rw [gup_s]
theorem sx_iastore {id pc : Nat} {lo : List (Nat × Value)} {sk : List Value} {nc ns : Nat} {G : gM} {r : gM × Option Value} {a n : Nat} {i x : Int32} (hc : decode (gb id) pc = .ok (.iastore, 1)) (ha : G.2.1 a = (1, n)) (hin : vp_in i n) (kk : Sx id (pc + 1) lo sk nc ns (gsetI G a i.toNatClampNeg x) r) : Sx id pc lo (.int x :: .int i :: .ref a :: sk) nc ns G r := by
  intro base st sn sf D cy p l e R s m args below meth c H locs ls Q C hP hI hS hZ hl hK
  have C2 := C
  obtain ⟨hx, hb, -, -, -, -, -, -, -, hSt, -⟩ := C2
  show W p l e R s m args below meth c H locs nc ns Q (F0 m pc ls (.int x :: .int i :: .ref (gad base st a) :: sk.map (gsh (gad base st))))
  have hal : a < G.1 := hI.lt (by rw [ha]; exact Nat.le_of_ble_eq_true rfl)
  have hgl := hI.1
  rw [gad_lt (by omega)]
  refine va_iast hx hb hSt.1 hP.1 gWd_D (gS_self hS) a 0 (by rw [gWd_get hal, gE_arr (t := 0) ha (by decide)]) rfl hin hc (fun H1 locs1 hP1 hD1 hS1 => W_size (fun hz => ?_))
  have hz1 : H1.size = H.size := by have := hS1.1; omega
  exact kk base st sn sf D cy p l e R s m args below meth c H1 locs1 ls Q C (gP_row (t := 0) ha (by decide) hal hP1 (by rw [hz1]; exact hP.2)) (hI.setI hal (fun q => by rw [ha] at q; cases q)) (gS_trans hS hS1) (by rw [hz1]; exact hZ) hl hK
theorem gnarB (x : Int32) : vp_nar .byte x = x.toInt8.toInt32 := rfl
theorem gnarZ (x : Int32) : vp_nar .boolean x = x &&& 1 := rfl
theorem sx_bastore {id pc : Nat} {lo : List (Nat × Value)} {sk : List Value} {nc ns : Nat} {G : gM} {r : gM × Option Value} {a n : Nat} {i x : Int32} (hc : decode (gb id) pc = .ok (.bastore, 1)) (ha : G.2.1 a = (2, n)) (hin : vp_in i n) (kk : Sx id (pc + 1) lo sk nc ns (gsetI G a i.toNatClampNeg x.toInt8.toInt32) r) : Sx id pc lo (.int x :: .int i :: .ref a :: sk) nc ns G r := by
  intro base st sn sf D cy p l e R s m args below meth c H locs ls Q C hP hI hS hZ hl hK
  have C2 := C
  obtain ⟨hx, hb, -, -, -, -, -, -, -, hSt, -⟩ := C2
  show W p l e R s m args below meth c H locs nc ns Q (F0 m pc ls (.int x :: .int i :: .ref (gad base st a) :: sk.map (gsh (gad base st))))
  have hal : a < G.1 := hI.lt (by rw [ha]; exact Nat.le_of_ble_eq_true rfl)
  have hgl := hI.1
  rw [gad_lt (by omega)]
  refine va_bast hx hb hSt.1 hP.1 gWd_D (gS_self hS) a 1 (by rw [gWd_get hal, gE_arr (t := 1) ha (by decide)]) rfl hin hc (fun H1 locs1 hP1 hD1 hS1 => W_size (fun hz => ?_))
  have hz1 : H1.size = H.size := by have := hS1.1; omega
  exact kk base st sn sf D cy p l e R s m args below meth c H1 locs1 ls Q C (gP_row (t := 1) ha (by decide) hal hP1 (by rw [hz1]; exact hP.2)) (hI.setI hal (fun q => pk_fb x)) (gS_trans hS hS1) (by rw [hz1]; exact hZ) hl hK
theorem sx_zastore {id pc : Nat} {lo : List (Nat × Value)} {sk : List Value} {nc ns : Nat} {G : gM} {r : gM × Option Value} {a n : Nat} {i x : Int32} (hc : decode (gb id) pc = .ok (.bastore, 1)) (ha : G.2.1 a = (3, n)) (hin : vp_in i n) (kk : Sx id (pc + 1) lo sk nc ns (gsetI G a i.toNatClampNeg (x &&& 1)) r) : Sx id pc lo (.int x :: .int i :: .ref a :: sk) nc ns G r := by
  intro base st sn sf D cy p l e R s m args below meth c H locs ls Q C hP hI hS hZ hl hK
  have C2 := C
  obtain ⟨hx, hb, -, -, -, -, -, -, -, hSt, -⟩ := C2
  show W p l e R s m args below meth c H locs nc ns Q (F0 m pc ls (.int x :: .int i :: .ref (gad base st a) :: sk.map (gsh (gad base st))))
  have hal : a < G.1 := hI.lt (by rw [ha]; exact Nat.le_of_ble_eq_true rfl)
  have hgl := hI.1
  rw [gad_lt (by omega)]
  refine va_zast hx hb hSt.1 hP.1 gWd_D (gS_self hS) a 2 (by rw [gWd_get hal, gE_arr (t := 2) ha (by decide)]) rfl hin hc (fun H1 locs1 hP1 hD1 hS1 => W_size (fun hz => ?_))
  have hz1 : H1.size = H.size := by have := hS1.1; omega
  exact kk base st sn sf D cy p l e R s m args below meth c H1 locs1 ls Q C (gP_row (t := 2) ha (by decide) hal hP1 (by rw [hz1]; exact hP.2)) (hI.setI hal (fun q => by rw [ha] at q; cases q)) (gS_trans hS hS1) (by rw [hz1]; exact hZ) hl hK
theorem sx_acopy {id pc : Nat} {lo : List (Nat × Value)} {sk : List Value} {nc ns : Nat} {G : gM} {r : gM × Option Value} {a b n0 n1 idx h : Nat} {sp dp n : Int32} (hc : decode (gb id) pc = .ok (.invokestatic idx, 3)) (he : (gown id * 1000 + idx, h) ∈ gPL) (hi : idx < 1000) (ha : G.2.1 a = (2, n0)) (hb0 : G.2.1 b = (2, n1)) (h1 : ¬ sp < 0) (h2 : ¬ dp < 0) (h3 : ¬ n < 0) (h4 : sp.toNatClampNeg + n.toNatClampNeg ≤ n0) (h5 : dp.toNatClampNeg + n.toNatClampNeg ≤ n1)
    (hr1 : 1 ≤ gfr id) (hr2 : (sk.map fun v => v.category).sum + 18 ≤ glo id) (kk : Sx id (pc + 3) lo sk nc ns (gsetW G b (va_cpy (G.2.2.1 a) (G.2.2.1 b) sp.toNatClampNeg dp.toNatClampNeg n.toNatClampNeg)) r) : Sx id pc lo (.int n :: .int dp :: .ref b :: .int sp :: .ref a :: sk) nc ns G r := by
  intro base st sn sf D cy p l e R s m args below meth c H locs ls Q C hP hI hS hZ hl hK
  have C2 := C
  obtain ⟨hx, hb, -, hml, hown, hts, -, -, hR, hSt, -⟩ := C2
  show W p l e R s m args below meth c H locs nc ns Q (F0 m pc ls (.int n :: .int dp :: .ref (gad base st b) :: .int sp :: .ref (gad base st a) :: sk.map (gsh (gad base st))))
  have hal : a < G.1 := hI.lt (by rw [ha]; exact Nat.le_of_ble_eq_true rfl)
  have hbl : b < G.1 := hI.lt (by rw [hb0]; exact Nat.le_of_ble_eq_true rfl)
  have hgl := hI.1
  rw [gad_lt (k := a) (by omega), gad_lt (k := b) (by omega)]
  have g1 := List.all_eq_true.mp gPL_ok.1 _ he
  dsimp only at g1
  rw [show (gown id * 1000 + idx) / 1000 = gown id by omega, show (gown id * 1000 + idx) % 1000 = idx by omega] at g1
  have hcat : ((sk.map (gsh (gad base st))).map fun v => v.category) = sk.map fun v => v.category := by
    rw [List.map_map]
    exact List.map_congr_left (fun v _ => gsh_cat _ v)
  refine va_copyi hx hb (by rw [hml]; exact hl.1.symm) hown (hts _ (gwd_mem g1)) (hts _ (gwd_mem gPL_ok.2.1)) (hts _ (gwd_mem gPL_ok.2.2.1)) (hts _ (gwd_mem gPL_ok.2.2.2)) hSt.1 hP.1 gWd_D (gS_self hS) a b 1 1 (ty := .byte) (by rw [gWd_get hal, gE_arr (t := 1) ha (by decide)]) (by rw [gWd_get hbl, gE_arr (t := 1) hb0 (by decide)]) rfl rfl rfl h1 h2 h3 h4 h5 (fun i _ => hI.2.2.2.1 a _ (by rw [ha])) (Nat.le_trans hr1 hR.1) ?_ hc (fun H1 locs1 hP1 hD1 hS1 => W_size (fun hz => ?_))
  · rw [hcat]
    show _ + (7 + 11) ≤ R.locals
    exact Nat.le_trans hr2 hR.2.1
  · have hz1 : H1.size = H.size := by have := hS1.1; omega
    refine kk base st sn sf D cy p l e R s m args below meth c H1 locs1 ls Q C (gP_row (t := 1) hb0 (by decide) hbl hP1 (by rw [hz1]; exact hP.2)) (hI.setW hbl (fun q j => ?_)) (gS_trans hS hS1) (by rw [hz1]; exact hZ) hl hK
    unfold va_cpy
    split
    · exact hI.2.2.2.1 a _ (by rw [ha])
    · exact hI.2.2.2.1 b _ (by rw [hb0])
theorem sx_max {id pc : Nat} {lo : List (Nat × Value)} {sk : List Value} {nc ns : Nat} {G : gM} {r : gM × Option Value} {idx h : Nat} {x y : Int32} (hc : decode (gb id) pc = .ok (.invokestatic idx, 3)) (he : (gown id * 1000 + idx, h) ∈ gXL) (hi : idx < 1000) (hr1 : 1 ≤ gfr id) (hr2 : (sk.map fun v => v.category).sum + 13 ≤ glo id) (hn1 : nc ≤ gmc id) (hn2 : ns ≤ gms id) (kk : Sx id (pc + 3) lo (.int (if x < y then y else x) :: sk) nc ns G r) : Sx id pc lo (.int y :: .int x :: sk) nc ns G r := by
  intro base st sn sf D cy p l e R s m args below meth c H locs ls Q C hP hI hS hZ hl hK
  have C2 := C
  obtain ⟨hx, hb, -, hml, hown, hts, -, -, hR, hSt, -⟩ := C2
  have g1 := List.all_eq_true.mp gmax_ok.1 _ he
  dsimp only at g1
  rw [show (gown id * 1000 + idx) / 1000 = gown id by omega, show (gown id * 1000 + idx) % 1000 = idx by omega] at g1
  have hcat : ((sk.map (gsh (gad base st))).map fun v => v.category) = sk.map fun v => v.category := by
    rw [List.map_map]
    exact List.map_congr_left (fun v _ => gsh_cat _ v)
  exact va_mmax hx hb (by rw [hml]; exact hl.1.symm) hown (hts _ (gwd_mem g1)) (hts _ (gwd_mem gmax_ok.2.1)) (hts _ (gwd_mem gmax_ok.2.2.1)) (hts _ (gwd_mem gmax_ok.2.2.2)) (Nat.le_trans hr1 hR.1) (by rw [hcat]; exact Nat.le_trans hr2 hR.2.1) (Nat.le_trans hn1 hR.2.2.1) (Nat.le_trans hn2 hR.2.2.2) hc (kk base st sn sf D cy p l e R s m args below meth c H locs ls Q C hP hI hS hZ hl hK)
theorem sx_min {id pc : Nat} {lo : List (Nat × Value)} {sk : List Value} {nc ns : Nat} {G : gM} {r : gM × Option Value} {idx h : Nat} {x y : Int32} (hc : decode (gb id) pc = .ok (.invokestatic idx, 3)) (he : (gown id * 1000 + idx, h) ∈ gYL) (hi : idx < 1000) (hr1 : 1 ≤ gfr id) (hr2 : (sk.map fun v => v.category).sum + 13 ≤ glo id) (hn1 : nc ≤ gmc id) (hn2 : ns ≤ gms id) (kk : Sx id (pc + 3) lo (.int (if y < x then y else x) :: sk) nc ns G r) : Sx id pc lo (.int y :: .int x :: sk) nc ns G r := by
  intro base st sn sf D cy p l e R s m args below meth c H locs ls Q C hP hI hS hZ hl hK
  have C2 := C
  obtain ⟨hx, hb, -, hml, hown, hts, -, -, hR, hSt, -⟩ := C2
  have g1 := List.all_eq_true.mp gmin_ok.1 _ he
  dsimp only at g1
  rw [show (gown id * 1000 + idx) / 1000 = gown id by omega, show (gown id * 1000 + idx) % 1000 = idx by omega] at g1
  have hcat : ((sk.map (gsh (gad base st))).map fun v => v.category) = sk.map fun v => v.category := by
    rw [List.map_map]
    exact List.map_congr_left (fun v _ => gsh_cat _ v)
  exact va_mmin hx hb (by rw [hml]; exact hl.1.symm) hown (hts _ (gwd_mem g1)) (hts _ (gwd_mem gmin_ok.2.1)) (hts _ (gwd_mem gmin_ok.2.2.1)) (hts _ (gwd_mem gmin_ok.2.2.2)) (Nat.le_trans hr1 hR.1) (by rw [hcat]; exact Nat.le_trans hr2 hR.2.1) (Nat.le_trans hn1 hR.2.2.1) (Nat.le_trans hn2 hR.2.2.2) hc (kk base st sn sf D cy p l e R s m args below meth c H locs ls Q C hP hI hS hZ hl hK)
theorem sx_objInit {id pc : Nat} {lo : List (Nat × Value)} {sk : List Value} {nc ns : Nat} {G : gM} {r : gM × Option Value} {idx h a : Nat} (hc : decode (gb id) pc = .ok (.invokespecial idx, 3)) (he : (gown id * 1000 + idx, h) ∈ gOL) (hi : idx < 1000) (hr1 : 1 ≤ gfr id) (hr2 : (sk.map fun v => v.category).sum + 12 ≤ glo id) (kk : Sx id (pc + 3) lo sk nc ns G r) : Sx id pc lo (.ref a :: sk) nc ns G r := by
  intro base st sn sf D cy p l e R s m args below meth c H locs ls Q C hP hI hS hZ hl hK
  have C2 := C
  obtain ⟨hx, hb, -, hml, hown, hts, -, -, hR, hSt, -⟩ := C2
  have g1 := List.all_eq_true.mp gOL_ok.1 _ he
  dsimp only at g1
  rw [show (gown id * 1000 + idx) / 1000 = gown id by omega, show (gown id * 1000 + idx) % 1000 = idx by omega] at g1
  have hcat : ((sk.map (gsh (gad base st))).map fun v => v.category) = sk.map fun v => v.category := by
    rw [List.map_map]
    exact List.map_congr_left (fun v _ => gsh_cat _ v)
  refine W.objInit hx hb hown (hts _ (gwd_mem g1)) (hts _ (gwd_mem gOL_ok.2.1)) (hts _ (gwd_mem gOL_ok.2.2)) rfl (by rw [hml]; exact hl.1) rfl hc (Nat.le_trans hr1 hR.1) ?_ ?_
  · rw [hcat]
    show 2 * 0 + _ + 12 ≤ R.locals
    have := Nat.le_trans hr2 hR.2.1
    omega
  · exact kk base st sn sf D cy p l e R s m args below meth c H locs ls Q C hP hI hS hZ hl hK
