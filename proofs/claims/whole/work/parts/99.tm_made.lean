/-! ===== the makers: rules for a memory of which n cells are made ===== -/
def pk0 (L n a : Nat) : Nat × Nat := if a < n then SK0 a else if a = 100000 then (8, 16) else if a = 100001 then (8, 9) else if a = 100002 then (8, 228) else if a = 100003 then (8, L) else (9, 0)
abbrev Rf : Type := Nat → Nat → Option Nat
def pm (L n : Nat) (R : Rf) (μ : Mem) : gM := (n, pk0 L n, μ.1, μ.2, R)
def wr (R : Rf) (a k b : Nat) : Rf := va_up R a (va_up (R a) k (some b))
def Zr (n : Nat) (R : Rf) (μ : Mem) : Prop := ∀ c, n ≤ c → c < 222 → μ.1 c = (fun _ => 0) ∧ μ.2 c = (fun _ => 0) ∧ R c = (fun _ => none)
theorem up_id {α : Type} {f : Nat → α} {k : Nat} {v : α} (h : f k = v) : va_up f k v = f := by
  funext j
  by_cases q : j = k
  · rw [q, gup_s, h]
  · rw [gup_o q]
theorem Zr.up {n m : Nat} {R : Rf} {μ : Mem} (h : Zr n R μ) (hm : n ≤ m) : Zr m R μ := fun c h1 h2 => h c (by omega) h2
theorem Zr.wr {n a k b : Nat} {R : Rf} {μ : Mem} (h : Zr n R μ) (ha : a < n) : Zr n (wr R a k b) μ := fun c h1 h2 => by
  obtain ⟨h3, h4, h5⟩ := h c h1 h2
  exact ⟨h3, h4, by show va_up R a (va_up (R a) k (some b)) c = _; rw [gup_o (by omega)]; exact h5⟩
theorem Zr.sI {n a k : Nat} {x : Int32} {R : Rf} {μ : Mem} (h : Zr n R μ) (ha : a < n) : Zr n R (setI μ a k x) := fun c h1 h2 => by
  obtain ⟨h3, h4, h5⟩ := h c h1 h2
  exact ⟨by show va_up μ.1 a (va_up (μ.1 a) k x) c = _; rw [gup_o (by omega)]; exact h3, h4, h5⟩
theorem pk0_at {L n a : Nat} (ha : a < n) : pk0 L n a = SK0 a := if_pos ha
theorem pm_push {L n : Nat} {R : Rf} {μ : Mem} {kd : Nat × Nat} (hz : Zr n R μ) (hn : n < 222) (hk : SK0 n = kd) : gpush (pm L n R μ) kd = pm L (n + 1) R μ := by
  obtain ⟨h1, h2, h3⟩ := hz n (Nat.le_refl _) hn
  have e1 : va_up (pk0 L n) n kd = pk0 L (n + 1) := by
    funext a
    by_cases q : a = n
    · rw [q, gup_s, pk0_at (by omega), hk]
    · rw [gup_o q]
      unfold pk0
      by_cases q2 : a < n
      · rw [if_pos q2, if_pos (by omega)]
      · rw [if_neg q2, if_neg (show ¬ a < n + 1 by omega)]
  show (n + 1, va_up (pk0 L n) n kd, va_up μ.1 n (fun _ => 0), va_up μ.2 n (fun _ => 0), va_up R n (fun _ => none)) = (n + 1, pk0 L (n + 1), μ.1, μ.2, R)
  rw [e1, up_id h1, up_id h2, up_id h3]
section
variable {id pc nc ns L n : Nat} {lo : List (Nat × Value)} {sk : List Value} {R : Rf} {μ : Mem} {r : gM × Option Value}
theorem p_new {idx ci h1 h2 h3 o g nc2 ns2 : Nat} (hc : decode (gb id) pc = .ok (.new idx, 3)) (ho : gown id = o) (he : (o * 1000 + idx, ci, h1, h2, h3) ∈ gNL) (hi : idx < 1000) (hz : Zr n R μ) (hn : n < 222) (hk : SK0 n = (0, ci)) (hg : gnf ci = g) (e1 : nc + 1 = nc2) (e2 : ns + g = ns2) (hcn : nc2 ≤ gmc id) (hsn : ns2 ≤ gms id) (kk : Zr (n + 1) R μ → Sx id (pc + 3) lo (.ref n :: sk) nc2 ns2 (pm L (n + 1) R μ) r) : Sx id pc lo sk nc ns (pm L n R μ) r := by
  subst hg; subst e1; subst e2
  refine sx_new hc (by rw [ho]; exact he) hi (show n + 1 ≤ 100000 by omega) hcn hsn ?_
  rw [pm_push hz hn hk]
  exact kk (hz.up (by omega))
theorem p_newarr {t N nc2 ns2 : Nat} {ty : ArrayType} {x : Int32} (hc : decode (gb id) pc = .ok (.newarray ty, 2)) (ht : (ty = .int ∧ t = 0) ∨ (ty = .byte ∧ t = 1) ∨ (ty = .boolean ∧ t = 2)) (h0 : ¬ x < 0) (hN : x.toNatClampNeg = N) (hNb : N ≤ 100000) (hz : Zr n R μ) (hn : n < 222) (hk : SK0 n = (t + 1, N)) (e1 : nc + 1 = nc2) (e2 : ns + N = ns2) (hcn : nc2 ≤ gmc id) (hsn : ns2 ≤ gms id) (kk : Zr (n + 1) R μ → Sx id (pc + 2) lo (.ref n :: sk) nc2 ns2 (pm L (n + 1) R μ) r) : Sx id pc lo (.int x :: sk) nc ns (pm L n R μ) r := by
  subst e1; subst e2
  refine sx_newarr hc ht h0 hN hNb (show n + 1 ≤ 100000 by omega) hcn hsn ?_
  rw [pm_push hz hn hk]
  exact kk (hz.up (by omega))
theorem p_anew {idx t h1 h2 N o nc2 ns2 : Nat} {x : Int32} (hc : decode (gb id) pc = .ok (.anewarray idx, 3)) (ho : gown id = o) (he : (o * 1000 + idx, t + 4, h1, h2) ∈ gAL) (hi : idx < 1000) (h0 : ¬ x < 0) (hN : x.toNatClampNeg = N) (hNb : N ≤ 100000) (hz : Zr n R μ) (hn : n < 222) (hk : SK0 n = (t + 4, N)) (e1 : nc + 1 = nc2) (e2 : ns + N = ns2) (hcn : nc2 ≤ gmc id) (hsn : ns2 ≤ gms id) (kk : Zr (n + 1) R μ → Sx id (pc + 3) lo (.ref n :: sk) nc2 ns2 (pm L (n + 1) R μ) r) : Sx id pc lo (.int x :: sk) nc ns (pm L n R μ) r := by
  subst e1; subst e2
  refine sx_anew hc (by rw [ho]; exact he) hi h0 hN hNb (show n + 1 ≤ 100000 by omega) hcn hsn ?_
  rw [pm_push hz hn hk]
  exact kk (hz.up (by omega))
theorem p_putI {idx ci k h a o : Nat} {x y : Int32} (hc : decode (gb id) pc = .ok (.putfield idx, 3)) (ho : gown id = o) (he : (o * 1000 + idx, ci, k, h) ∈ gFL) (hi : idx < 1000) (hz : Zr n R μ) (ha : a < n) (hk : SK0 a = (0, ci)) (hf : gFin id ci k) (hty : gty ci k = .int) (hx : x = y) (kk : Zr n R (setI μ a k y) → Sx id (pc + 3) lo sk nc ns (pm L n R (setI μ a k y)) r) : Sx id pc lo (.int x :: .ref a :: sk) nc ns (pm L n R μ) r := by
  subst hx
  exact sx_putI hc (by rw [ho]; exact he) hi (show pk0 L n a = (0, ci) by rw [pk0_at ha, hk]) hf (Or.inl hty) (kk (hz.sI ha))
theorem p_putR {idx ci k h a b o : Nat} (hc : decode (gb id) pc = .ok (.putfield idx, 3)) (ho : gown id = o) (he : (o * 1000 + idx, ci, k, h) ∈ gFL) (hi : idx < 1000) (hz : Zr n R μ) (ha : a < n) (hk : SK0 a = (0, ci)) (hf : gFin id ci k) (hty : (∃ n, gty ci k = .object n) ∨ ∃ n, gty ci k = .array n) (kk : Zr n (wr R a k b) μ → Sx id (pc + 3) lo sk nc ns (pm L n (wr R a k b) μ) r) : Sx id pc lo (.ref b :: .ref a :: sk) nc ns (pm L n R μ) r :=
  sx_putR hc (by rw [ho]; exact he) hi (show pk0 L n a = (0, ci) by rw [pk0_at ha, hk]) hf hty (kk (hz.wr ha))
theorem p_getR {idx ci k h a b o : Nat} (hc : decode (gb id) pc = .ok (.getfield idx, 3)) (ho : gown id = o) (he : (o * 1000 + idx, ci, k, h) ∈ gFL) (hi : idx < 1000) (ha : a < n) (hk : SK0 a = (0, ci)) (hty : (∃ n, gty ci k = .object n) ∨ ∃ n, gty ci k = .array n) (hr : R a k = some b) (kk : Sx id (pc + 3) lo (.ref b :: sk) nc ns (pm L n R μ) r) : Sx id pc lo (.ref a :: sk) nc ns (pm L n R μ) r :=
  sx_getfield hc (by rw [ho]; exact he) hi (show pk0 L n a = (0, ci) by rw [pk0_at ha, hk]) (by
    have e : (R a k).map Value.ref = some (.ref b) := by rw [hr]; rfl
    rcases hty with ⟨n, h⟩ | ⟨n, h⟩ <;> rw [h] <;> exact e) kk
theorem p_getI {idx ci k h a o : Nat} {x : Int32} (hc : decode (gb id) pc = .ok (.getfield idx, 3)) (ho : gown id = o) (he : (o * 1000 + idx, ci, k, h) ∈ gFL) (hi : idx < 1000) (ha : a < n) (hk : SK0 a = (0, ci)) (hty : gty ci k = .int) (hx : μ.1 a k = x) (kk : Sx id (pc + 3) lo (.int x :: sk) nc ns (pm L n R μ) r) : Sx id pc lo (.ref a :: sk) nc ns (pm L n R μ) r :=
  sx_getfield hc (by rw [ho]; exact he) hi (show pk0 L n a = (0, ci) by rw [pk0_at ha, hk]) (by rw [hty]; show some (Value.int (μ.1 a k)) = _; rw [hx]) kk
theorem p_aastore {a b t N k : Nat} {i : Int32} (hc : decode (gb id) pc = .ok (.aastore, 1)) (ht : t < 2) (hz : Zr n R μ) (ha : a < n) (hk : SK0 a = (t + 4, N)) (hb : b < n) (hkb : SK0 b = (0, if t = 0 then 1 else 8)) (hin : inb i N) (hi : i.toNatClampNeg = k) (kk : Zr n (wr R a k b) μ → Sx id (pc + 1) lo sk nc ns (pm L n (wr R a k b) μ) r) : Sx id pc lo (.ref b :: .int i :: .ref a :: sk) nc ns (pm L n R μ) r := by
  refine sx_aastore hc ht (show pk0 L n a = (t + 4, N) by rw [pk0_at ha, hk]) (show pk0 L n b = _ by rw [pk0_at hb, hkb]) (inb_vp hin) ?_
  rw [hi]
  exact kk (hz.wr ha)
theorem p_iastore {a N k : Nat} {i x y : Int32} (hc : decode (gb id) pc = .ok (.iastore, 1)) (hz : Zr n R μ) (ha : a < n) (hk : SK0 a = (1, N)) (hin : inb i N) (hi : i.toNatClampNeg = k) (hx : x = y) (kk : Zr n R (setI μ a k y) → Sx id (pc + 1) lo sk nc ns (pm L n R (setI μ a k y)) r) : Sx id pc lo (.int x :: .int i :: .ref a :: sk) nc ns (pm L n R μ) r := by
  subst hx
  refine sx_iastore hc (show pk0 L n a = (1, N) by rw [pk0_at ha, hk]) (inb_vp hin) ?_
  rw [hi]
  exact kk (hz.sI ha)
theorem p_bastore {a N k : Nat} {i x y : Int32} (hc : decode (gb id) pc = .ok (.bastore, 1)) (hz : Zr n R μ) (ha : a < n) (hk : SK0 a = (2, N)) (hin : inb i N) (hi : i.toNatClampNeg = k) (hx : x.toInt8.toInt32 = y) (kk : Zr n R (setI μ a k y) → Sx id (pc + 1) lo sk nc ns (pm L n R (setI μ a k y)) r) : Sx id pc lo (.int x :: .int i :: .ref a :: sk) nc ns (pm L n R μ) r := by
  subst hx
  refine sx_bastore hc (show pk0 L n a = (2, N) by rw [pk0_at ha, hk]) (inb_vp hin) ?_
  rw [hi]
  exact kk (hz.sI ha)
theorem p_iaload {a N k : Nat} {i x : Int32} (hc : decode (gb id) pc = .ok (.iaload, 1)) (ha : a < n) (hk : SK0 a = (1, N)) (hin : inb i N) (hi : i.toNatClampNeg = k) (hx : μ.1 a k = x) (kk : Sx id (pc + 1) lo (.int x :: sk) nc ns (pm L n R μ) r) : Sx id pc lo (.int i :: .ref a :: sk) nc ns (pm L n R μ) r := by
  refine sx_iaload (n := N) hc (Or.inl (show pk0 L n a = (1, N) by rw [pk0_at ha, hk])) (inb_vp hin) ?_
  rw [hi, show (pm L n R μ).2.2.1 a k = x from hx]
  exact kk
theorem p_alen {a t N : Nat} {x : Int32} (hc : decode (gb id) pc = .ok (.arraylength, 1)) (ht : t < 3) (ha : a < n) (hk : SK0 a = (t + 1, N)) (hx : Int32.ofNat N = x) (kk : Sx id (pc + 1) lo (.int x :: sk) nc ns (pm L n R μ) r) : Sx id pc lo (.ref a :: sk) nc ns (pm L n R μ) r :=
  sx_alen (t := t) hc (Or.inl ⟨ht, show pk0 L n a = (t + 1, N) by rw [pk0_at ha, hk]⟩) hx kk
theorem p_max {idx h o : Nat} {x y z : Int32} (hc : decode (gb id) pc = .ok (.invokestatic idx, 3)) (ho : gown id = o) (he : (o * 1000 + idx, h) ∈ gXL) (hi : idx < 1000) (hr1 : 1 ≤ gfr id) (hr2 : (sk.map fun v => v.category).sum + 13 ≤ glo id) (hn1 : nc ≤ gmc id) (hn2 : ns ≤ gms id) (hz : (if x < y then y else x) = z) (kk : Sx id (pc + 3) lo (.int z :: sk) nc ns (pm L n R μ) r) : Sx id pc lo (.int y :: .int x :: sk) nc ns (pm L n R μ) r := by
  subst hz
  exact sx_max hc (by rw [ho]; exact he) hi hr1 hr2 hn1 hn2 kk
theorem p_obj {idx h a o : Nat} (hc : decode (gb id) pc = .ok (.invokespecial idx, 3)) (ho : gown id = o) (he : (o * 1000 + idx, h) ∈ gOL) (hi : idx < 1000) (hr1 : 1 ≤ gfr id) (hr2 : (sk.map fun v => v.category).sum + 12 ≤ glo id) (kk : Sx id (pc + 3) lo sk nc ns (pm L n R μ) r) : Sx id pc lo (.ref a :: sk) nc ns (pm L n R μ) r :=
  sx_objInit hc (by rw [ho]; exact he) hi hr1 hr2 kk
theorem p_callI {idx z m ci h1 h2 h3 h4 b o n1 c1 s1 nc2 ns2 : Nat} {vs sk2 : List Value} {R1 : Rf} {μ1 : Mem} (hc : decode (gb id) pc = .ok (.invokespecial idx, 3)) (ho : gown id = o) (he : (o * 1000 + idx, 2, z, m, ci, h1, h2, h3, h4) ∈ gCL) (hi : idx < 1000) (hm : gMLk z = true) (hcw : .code (gy z) (gb z) (gmx z) (grt z) ∈ gtb) (hrt : grt z = none) (hb : b < 100000) (hM : Mx z (.ref b :: vs) (pm L n R μ) (pm L n1 R1 μ1, none)) (hn : vs.length = m) (hsk : sk2 = vs.reverse ++ .ref b :: sk) (e1 : gmc z = c1) (e2 : gms z = s1) (hz : n1 = n + c1) (hr : gRoom id z nc ns sk) (e3 : nc + c1 = nc2) (e4 : ns + s1 = ns2) (kk : Sx id (pc + 3) lo sk nc2 ns2 (pm L n1 R1 μ1) r) : Sx id pc lo sk2 nc ns (pm L n R μ) r := by
  subst hsk; subst e1; subst e2; subst e3; subst e4
  exact sx_callI hc (by rw [ho]; exact he) hi hm hcw hrt hb hM hn hz hr kk
theorem p_callN {idx z m ci h1 h2 h3 h4 b o n1 c1 s1 nc2 ns2 : Nat} {vs sk2 : List Value} {R1 : Rf} {μ1 : Mem} (hc : decode (gb id) pc = .ok (.invokespecial idx, 3)) (ho : gown id = o) (he : (o * 1000 + idx, 3, z, m, ci, h1, h2, h3, h4) ∈ gCL) (hel : (o * 1000 + idx, z) ∈ gEL) (hi : idx < 1000) (hm : gMLk z = true) (hcw : .code (gy z) (gb z) (gmx z) (grt z) ∈ gtb) (hrt : grt z = none) (hb : b < 100000) (hM : Mx z (.ref b :: vs) (pm L n R μ) (pm L n1 R1 μ1, none)) (hn : vs.length = m) (hsk : sk2 = vs.reverse ++ .ref b :: sk) (e1 : gmc z = c1) (e2 : gms z = s1) (hz : n1 = n + c1) (hr : gRoom id z nc ns sk) (e3 : nc + c1 = nc2) (e4 : ns + s1 = ns2) (kk : Sx id (pc + 3) lo sk nc2 ns2 (pm L n1 R1 μ1) r) : Sx id pc lo sk2 nc ns (pm L n R μ) r := by
  subst hsk; subst e1; subst e2; subst e3; subst e4
  exact sx_callN hc (by rw [ho]; exact he) (by rw [ho]; exact hel) hi hm hcw hrt hb hM hn hz hr kk
theorem p_callS {idx z m ci h1 h2 h3 h4 o n1 c1 s1 b nc2 ns2 : Nat} {vs sk2 : List Value} {R1 : Rf} {μ1 : Mem} (hc : decode (gb id) pc = .ok (.invokestatic idx, 3)) (ho : gown id = o) (he : (o * 1000 + idx, 0, z, m, ci, h1, h2, h3, h4) ∈ gCL) (hi : idx < 1000) (hm : gMLk z = true) (hcw : .code (gy z) (gb z) (gmx z) (grt z) ∈ gtb) (hM : Mx z vs (pm L n R μ) (pm L n1 R1 μ1, some (.ref b))) (hn : vs.length = m) (hsk : sk2 = vs.reverse ++ sk) (e1 : gmc z = c1) (e2 : gms z = s1) (hz : n1 = n + c1) (hr : gRoom id z nc ns sk) (e3 : nc + c1 = nc2) (e4 : ns + s1 = ns2) (kk : Sx id (pc + 3) lo (.ref b :: sk) nc2 ns2 (pm L n1 R1 μ1) r) : Sx id pc lo sk2 nc ns (pm L n R μ) r := by
  subst hsk; subst e1; subst e2; subst e3; subst e4
  exact sx_callS hc (by rw [ho]; exact he) hi hm hcw hM hn hz hr kk
theorem p_callV {idx z m ci h1 h2 h3 h4 o n1 c1 s1 b nc2 ns2 : Nat} {vs sk2 : List Value} {R1 : Rf} {μ1 : Mem} (hc : decode (gb id) pc = .ok (.invokevirtual idx, 3)) (ho : gown id = o) (he : (o * 1000 + idx, 1, z, m, ci, h1, h2, h3, h4) ∈ gCL) (hi : idx < 1000) (hm : gMLk z = true) (hcw : .code (gy z) (gb z) (gmx z) (grt z) ∈ gtb) (hb : b < n) (hkb : SK0 b = (0, ci)) (hM : Mx z (.ref b :: vs) (pm L n R μ) (pm L n1 R1 μ1, none)) (hn : vs.length = m) (hsk : sk2 = vs.reverse ++ .ref b :: sk) (e1 : gmc z = c1) (e2 : gms z = s1) (hz : n1 = n + c1) (hr : gRoom id z nc ns sk) (e3 : nc + c1 = nc2) (e4 : ns + s1 = ns2) (kk : Sx id (pc + 3) lo sk nc2 ns2 (pm L n1 R1 μ1) r) : Sx id pc lo sk2 nc ns (pm L n R μ) r := by
  subst hsk; subst e1; subst e2; subst e3; subst e4
  exact sx_callV hc (by rw [ho]; exact he) hi hm hcw (show pk0 L n b = (0, ci) by rw [pk0_at hb, hkb]) hM hn hz hr kk
theorem p_ret (hc : decode (gb id) pc = .ok (.return_, 1)) (hrt : grt id = none) (h1 : nc ≤ gmc id) (h2 : ns ≤ gms id) : Sx id pc lo [] nc ns (pm L n R μ) (pm L n R μ, none) :=
  sx_ret hc (by unfold grv; rw [hrt]) h1 h2
theorem y_istore {i : Nat} {x : Int32} {lo2 : List (Nat × Value)} {G : gM} (hc : decode (gb id) pc = .ok (.istore i, 2)) (hi : i < gmx id) (hlo : gst1 i (.int x) lo = lo2) (kk : Sx id (pc + 2) lo2 sk nc ns G r) : Sx id pc lo (.int x :: sk) nc ns G r := sx_istore hc hi (by rw [hlo]; exact kk)
theorem y_istore_n {q : Fin 4} {i : Nat} {x : Int32} {lo2 : List (Nat × Value)} {G : gM} (hc : decode (gb id) pc = .ok (.istore_n q, 1)) (hq : (q : Nat) = i) (hi : i < gmx id) (hlo : gst1 i (.int x) lo = lo2) (kk : Sx id (pc + 1) lo2 sk nc ns G r) : Sx id pc lo (.int x :: sk) nc ns G r := sx_istore_n hc hq hi (by rw [hlo]; exact kk)
theorem y_astore_n {q : Fin 4} {i x : Nat} {lo2 : List (Nat × Value)} {G : gM} (hc : decode (gb id) pc = .ok (.astore_n q, 1)) (hq : (q : Nat) = i) (hi : i < gmx id) (hlo : gst1 i (.ref x) lo = lo2) (kk : Sx id (pc + 1) lo2 sk nc ns G r) : Sx id pc lo (.ref x :: sk) nc ns G r := sx_astore_n hc hq hi (by rw [hlo]; exact kk)
theorem y_iinc {i : Nat} {n : Int} {x v : Int32} {lo2 : List (Nat × Value)} {G : gM} (hc : decode (gb id) pc = .ok (.iinc i n, 3)) (hlk : lo.lookup i = some (.int x)) (hv : x + Int32.ofInt n = v) (hn : i < gmx id) (hlo : gst1 i (.int v) lo = lo2) (kk : Sx id (pc + 3) lo2 sk nc ns G r) : Sx id pc lo sk nc ns G r := sx_iinc hc hlk hv hn (by rw [hlo]; exact kk)
end
