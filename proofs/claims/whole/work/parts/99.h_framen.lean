/-! a frame goes down: put together, the reference -/
theorem chan_M {μ : Mem} {f : Fw} {lv pd : List Pk} (hF : FwM μ f) (hI : FwI f) (hL : LvM μ 0 lv) (hP : LvM μ 1 pd) (hLI : ShI lv) (hPI : ShI pd) : f345 μ = c345_51 (nI (b2n (decide (chF f lv pd = 1)))) (nI (chF f lv pd)) μ := by
  have l0 := hLI.1
  have l1 := hPI.1
  have w0 := wants_M hF.1 hI.1 (by omega) hL.1 (by omega)
  have w1 := wants_M hF.2.1 hI.2.1 (by omega) hP.1 (by omega)
  have hst := hF.2.2.2.2
  have k0 : c345_28 (nI 0) μ = c345_51 (nI 0) (nI (if wnt (f.1 0) lv.length = true then 0 else 7)) μ := by
    unfold c345_28
    rw [i_0, if_pos rfl, w0, Option.bind_some]
    dsimp only
    cases wnt (f.1 0) lv.length
    · rw [b2n_f, if_pos rfl, if_neg (by decide), i_7]
    · rw [b2n_t, if_neg (by decide), if_pos rfl]
  have k1 : c345_28 (nI 1) μ = c345_51 (nI 1) (nI 1) μ := by
    unfold c345_28
    rw [if_neg (show ¬ nI 1 = (0 : Int32) by decide), i_1]
  unfold f345 c345_27 c345_23
  rw [i_1, i_0, w1, Option.bind_some]
  dsimp only
  rw [hst, w0]
  cases h1 : wnt (f.1 1) pd.length
  · rw [b2n_f, if_pos rfl, k0]
    cases h0 : wnt (f.1 0) lv.length
    · have hch : chF f lv pd = 7 := by
        unfold chF chW
        rw [h1, h0]
        rfl
      rw [hch, if_neg (by decide), decide_eq_false (by decide), b2n_f]
    · have hch : chF f lv pd = 0 := by
        unfold chF chW
        rw [h1, h0]
        rfl
      rw [hch, if_pos rfl, decide_eq_false (by decide), b2n_f]
  · rw [b2n_t, if_neg (by decide)]
    cases hs : f.2.2.2
    · have hch : chF f lv pd = 1 := by
        unfold chF chW
        rw [h1, hs]
        rfl
      rw [b2n_f, if_pos rfl, k1, hch, decide_eq_true rfl, b2n_t]
    · rw [b2n_t, if_neg (by decide), Option.bind_some]
      dsimp only
      cases h0 : wnt (f.1 0) lv.length
      · have hch : chF f lv pd = 1 := by
          unfold chF chW
          rw [h1, hs, h0]
          rfl
        rw [b2n_f, if_pos rfl, k1, hch, decide_eq_true rfl, b2n_t]
      · have hch : chF f lv pd = 0 := by
          unfold chF chW
          rw [h1, hs, h0]
          rfl
        rw [b2n_t, if_neg (by decide), k0, h0, hch, if_pos rfl, decide_eq_false (by decide), b2n_f]
abbrev FDq : Nat → Nat → Prop := fun c k => c = 129 ∧ (k = 86 ∨ k = 90 ∨ k = 139 ∨ k = 141) ∨ 165 ≤ c ∧ c ≤ 168 ∨ 208 ≤ c ∧ c ≤ 213 ∨ FM 1 c k
theorem frame_M {μ : Mem} {f : Fw} {lv pd : List Pk} {n : Nat} {g : Nat → Bool} {ns : List Nat} {y : Nat → Int32} (hF : FwM μ f) (hI : FwI f) (hL : LvM μ 0 lv) (hP : LvM μ 1 pd) (hLI : ShI lv) (hPI : ShI pd) (hl24 : lv.length ≤ 24) (hU : UmM μ y) (hY : YI y) (hns : Seg μ 158 0 ns) (hnl : ns.length = 64) (hm : Seg μ 214 0 [26, 207, 252, 29]) (hLi : LinM μ 1 n g) : wp (f345 μ) (fun m => FwM m (fwN f lv pd) ∧ LvM m 0 (lvN f lv pd) ∧ LvM m 1 (pdN f lv pd) ∧ LinM m 1 (dnL n g (frN f lv pd (bitsY y) (nt (y 0)) ns)).1 (dnL n g (frN f lv pd (bitsY y) (nt (y 0)) ns)).2 ∧ Fr FDq μ m) := by
  have g13 := gl_213
  have g8 := gl_208
  have g9 := gl_209
  have g10 := gl_210
  have ga := gl_166
  have gb := gl_168
  have hc := chF_c f lv pd
  obtain ⟨hctl, hfst⟩ := ctF_l hI hLI hPI
  rw [chan_M hF hI hL hP hLI hPI]
  generalize hst : decide (chF f lv pd = 1) = st
  unfold c345_51
  rw [show pfZ 129 141 (nI (b2n st)) μ = some (setI μ 129 141 (nI (b2n st))) by cases st <;> rfl, Option.bind_some]
  have f1 : Fr (fun c k => c = 129 ∧ k = 141) μ (setI μ 129 141 (nI (b2n st))) := Fr.sI ⟨rfl, rfl⟩
  have r1 : (setI μ 129 141 (nI (b2n st))).1 129 141 = nI (b2n st) := by rw [rdI, if_pos ⟨rfl, rfl⟩]
  generalize setI μ 129 141 (nI (b2n st)) = m1 at *
  have fin : ∀ m P kl, Seg m 213 6 (ctF f lv pd).2.2.2 → m.1 129 141 = nI (b2n st) → BgM m 0 ((fwN f lv pd).1 0) → BgM m 1 ((fwN f lv pd).1 1) → LvM m 0 (lvN f lv pd) → LvM m 1 (pdN f lv pd) → Fr P μ m → (∀ c k, P c k → c = 129 ∧ (k = 86 ∨ k = 90 ∨ k = 141) ∨ 165 ≤ c ∧ c ≤ 168 ∨ 208 ≤ c ∧ c ≤ 211 ∨ c = 213) → wp (b345_76 kl (nI (chF f lv pd)) (nI (ctF f lv pd).2.2.1) (nI 52) m) (fun m => FwM m (fwN f lv pd) ∧ LvM m 0 (lvN f lv pd) ∧ LvM m 1 (pdN f lv pd) ∧ LinM m 1 (dnL n g (frN f lv pd (bitsY y) (nt (y 0)) ns)).1 (dnL n g (frN f lv pd (bitsY y) (nt (y 0)) ns)).2 ∧ Fr FDq μ m) := by
    intro m P kl o1 o3 o4 o5 o6 o7 o8 hPc
    have o9 : Fr (fun c k => c = 129 ∧ (k = 86 ∨ k = 90 ∨ k = 141) ∨ 165 ≤ c ∧ c ≤ 168 ∨ 208 ≤ c ∧ c ≤ 211 ∨ c = 213) μ m := o8.mono hPc
    obtain ⟨hI2, hL2, hP2⟩ := fwN_I hI hLI hPI
    refine wp_mono (tail_M (own := f.2.2.1) o1 hctl hfst (by rw [o9.1 _ _ (by omega)]; exact hF.2.2.1) hI.2.2.1 (fun i hi => by rw [o9.1 _ _ (by omega)]; exact hF.2.2.2.1 i hi) (hI.2.2.2 _ (by omega)) hc (hU.fr o9 (fun k _ _ => by omega)) hY (hns.fr o9 (fun k => by omega)) hnl (hm.fr o9 (fun k => by omega)) (hLi.fr o9 (by omega) (fun k => by omega)) rfl) (fun m' ⟨p1, p2, p3, p4⟩ => ?_)
    refine ⟨⟨o4.fr hI2.1 p4 (fun a k _ => by omega), o5.fr hI2.2.1 p4 (fun a k _ => by omega), p1, p2, ?_⟩, o6.fr p4 (fun a k _ => by show ¬ _; have : lvl 0 = 86 := rfl; omega), o7.fr p4 (fun a k _ => by have : lvl 1 = 90 := rfl; omega), p3, o9.tr p4 (by intro c k h; omega) (by intro c k h; omega)⟩
    rw [p4.1 _ _ (by omega), o3, ← hst]
    rfl
  have lv0 : lvl 0 = 86 := rfl
  have lv1 : lvl 1 = 90 := rfl
  unfold c345_72
  by_cases e7 : chF f lv pd = 7
  · have hct : ctF f lv pd = (f.1 7, lv, 2046, List.replicate 52 85) := by unfold ctF; rw [if_pos e7]
    have hfw : (fwN f lv pd).1 = f.1 := by unfold fwN; rw [if_pos e7]
    have hlv : lvN f lv pd = lv := by unfold lvN; rw [if_neg (by omega)]
    have hpd : pdN f lv pd = pd := by unfold pdN; rw [if_neg (by omega)]
    rw [hct, hfw, hlv, hpd] at fin
    rw [hlv, hpd, if_pos (by rw [e7]; rfl), i_2046, i_0]
    unfold l345_76
    refine wp_for (fun i m => (nI (chF f lv pd), nI 2046, nI i, m)) (fun i m => Seg m 213 6 (List.replicate i 85) ∧ Fr (fun c _ => c = 213) m1 m) 52 (by omega) m1 _ rfl ⟨Seg.nil, Fr.rf⟩ (fun self i m hi ⟨x1, x2⟩ hk => ?_) (fun self m ⟨x1, x2⟩ => ?_)
    · unfold b345_76 c345_172
      rw [i_52, if_neg (fun z => by have := (nI_leI (by omega) (by omega)).mp z; omega), i_7, if_pos (by rw [e7]), i_6, nI_add, i_85, stA_N (by omega), Option.bind_some]
      dsimp only [nm]
      rw [i_1, nI_add]
      refine hk _ ⟨?_, x2.pI rfl⟩
      have := x1.sn (p := 6 + i) (b := 85) (by rw [List.length_replicate]) (by decide)
      rw [show List.replicate (i + 1) 85 = List.replicate i 85 ++ [85] from List.replicate_succ']
      exact this
    · have f2 : Fr (fun c k => c = 129 ∧ k = 141 ∨ c = 213) μ m := f1.tr x2 (by intro c k h; omega) (by intro c k h; omega)
      exact fin m _ _ x1 (by rw [x2.1 _ _ (by omega)]; exact r1) (hF.1.fr hI.1 f2 (fun a k _ => by omega)) (hF.2.1.fr hI.2.1 f2 (fun a k _ => by omega)) (hL.fr f2 (fun a k _ => by omega)) (hP.fr f2 (fun a k _ => by omega)) f2 (by intro c k h; omega)
  · have hc2 : chF f lv pd < 2 := by omega
    have hct : ctF f lv pd = flN (f.1 (chF f lv pd), if chF f lv pd = 1 then pd else lv, 2047, []) 52 := by unfold ctF; rw [if_neg e7]
    have hfw : (fwN f lv pd).1 = upL f.1 (chF f lv pd) (ctF f lv pd).1 := by unfold fwN; rw [if_neg e7]
    rw [i_7, if_neg (fun z => e7 ((nI_eq (by omega) (by omega)).mp z)), i_2047, i_0]
    have hlvc := lvl_c hc2
    have hsh : LvM m1 (chF f lv pd) (if chF f lv pd = 1 then pd else lv) := by
      by_cases z : chF f lv pd = 1
      · rw [if_pos z, z]
        exact hP.fr f1 (fun a k _ => by omega)
      · rw [if_neg z, show chF f lv pd = 0 by omega]
        exact hL.fr f1 (fun a k _ => by omega)
    have hshI : ShI (if chF f lv pd = 1 then pd else lv) := by
      split
      · exact hPI
      · exact hLI
    have hcap : (if chF f lv pd = 1 then pd else lv).length ≤ gln (166 + 2 * chF f lv pd) := by
      by_cases z : chF f lv pd = 1
      · rw [if_pos z, z]
        show _ ≤ gln 168
        have := hPI.1
        omega
      · rw [if_neg z, show chF f lv pd = 0 by omega]
        show _ ≤ gln 166
        omega
    have hFsI : FsI 0 (f.1 (chF f lv pd), if chF f lv pd = 1 then pd else lv, 2047, []) := ⟨hI.b hc2, hshI, Or.inl rfl, rfl⟩
    have hB1 : BgM m1 (chF f lv pd) (f.1 (chF f lv pd)) := (hF.b hc2).fr (hI.b hc2) f1 (fun a k _ => by omega)
    have main : ∀ (c : Nat) (s : Fs), c = chF f lv pd → s = (f.1 (chF f lv pd), if chF f lv pd = 1 then pd else lv, 2047, []) → wp (l345_76 gF (nI c, nI 2047, nI 0, m1)) (fun m => FwM m (fwN f lv pd) ∧ LvM m 0 (lvN f lv pd) ∧ LvM m 1 (pdN f lv pd) ∧ LinM m 1 (dnL n g (frN f lv pd (bitsY y) (nt (y 0)) ns)).1 (dnL n g (frN f lv pd (bitsY y) (nt (y 0)) ns)).2 ∧ Fr FDq μ m) := by
      intro c s ec es
      rw [← es] at hct hFsI
      have hcl : s.2.1.length ≤ gln (166 + 2 * c) := by rw [es, ec]; exact hcap
      have hc2' : c < 2 := by omega
      have hgl := lgl hc2'
      have hlvc2 := lvl_c hc2'
      unfold l345_76
      refine wp_for (fun i m => (nI c, nI (flN s i).2.2.1, nI i, m)) (fun i m => BgM m c (flN s i).1 ∧ LvM m c (flN s i).2.1 ∧ (flN s i).2.1.length ≤ gln (166 + 2 * c) ∧ Seg m 213 6 (flN s i).2.2.2 ∧ Fr (fun a k => FBm c a k ∨ FLv c a k ∨ a = 213) m1 m) 52 (by omega) m1 _ (by rw [es]; rfl) ⟨by rw [es, ec]; exact hB1, by rw [es, ec]; exact hsh, hcl, by rw [es]; exact Seg.nil, Fr.rf⟩ (fun self i m hi ⟨x1, x2, x3, x4, x5⟩ hk => ?_) (fun self m ⟨x1, x2, x3, x4, x5⟩ => ?_)
      · have hIi := flN_I hFsI i (by omega)
        obtain ⟨p1, p2⟩ := pbF_I hIi (by omega)
        have hk2 : ∀ m', BgM m' c (emN (pbF i (flN s i)) 1).1 → LvM m' c (pbF i (flN s i)).2.1 → (pbF i (flN s i)).2.1.length ≤ gln (166 + 2 * c) → Seg m' 213 6 (emN (pbF i (flN s i)) 1).2.2.2 → Fr (fun a k => FBm c a k ∨ FLv c a k ∨ a = 213) m1 m' → wp (self (nI c, nI (pbF i (flN s i)).2.2.1, nI (i + 1), m')) _ := fun m' a1 a2 a3 a4 a5 => hk m' ⟨a1, a2, a3, a4, a5⟩
        have put : ∀ m', BgM m' c (pbF i (flN s i)).1 → LvM m' c (pbF i (flN s i)).2.1 → (pbF i (flN s i)).2.1.length ≤ gln (166 + 2 * c) → Seg m' 213 6 (pbF i (flN s i)).2.2.2 → Fr (fun a k => FBm c a k ∨ FLv c a k ∨ a = 213) m1 m' → wp (c345_136 (fun v2 v3 v4 μ => self (v2, v3, v4, μ)) (nI c) (nI (pbF i (flN s i)).2.2.1) (nI i) m') (fun m => FwM m (fwN f lv pd) ∧ LvM m 0 (lvN f lv pd) ∧ LvM m 1 (pdN f lv pd) ∧ LinM m 1 (dnL n g (frN f lv pd (bitsY y) (nt (y 0)) ns)).1 (dnL n g (frN f lv pd (bitsY y) (nt (y 0)) ns)).2 ∧ Fr FDq μ m) := by
          intro m' b1 b2 b3 b4 b5
          generalize pbF i (flN s i) = S at *
          obtain ⟨⟨i1, i2⟩, i3, i4, i5⟩ := p1
          obtain ⟨z1, z2, z3, z4⟩ := b1
          have e8 := z2.1 S.1.2.1 p2
          have hb8 := getD_lt z2.2 S.1.2.1
          unfold c345_136 c345_172
          rw [ldA_N (by omega), Option.bind_some, z3, i_100, pk_mul, nI_add, ldA_N (by omega), Option.bind_some, e8, i_6, nI_add, stA_N (by omega), Option.bind_some, ldA_N (by omega), Option.bind_some, rdI, if_neg (by omega), z3, i_1, nI_add, stA_N (by omega), Option.bind_some]
          dsimp only [nm]
          rw [nI_add]
          have f3 : Fr (fun a k => a = 213 ∨ a = 210 ∧ k = c) m' (setI (setI m' 213 (6 + i) (nI (S.1.1.getD S.1.2.1 0))) 210 c (nI (S.1.2.1 + 1))) := (Fr.sI (by omega)).pI (by omega)
          have r3 : (setI (setI m' 213 (6 + i) (nI (S.1.1.getD S.1.2.1 0))) 210 c (nI (S.1.2.1 + 1))).1 210 c = nI (S.1.2.1 + 1) := by rw [rdI, if_pos ⟨rfl, rfl⟩]
          have s3 : Seg (setI (setI m' 213 (6 + i) (nI (S.1.1.getD S.1.2.1 0))) 210 c (nI (S.1.2.1 + 1))) 213 6 (S.2.2.2 ++ [S.1.1.getD S.1.2.1 0]) := (b4.sn (p := 6 + i) (by rw [i5]) hb8).fr (P := fun a _ => a = 210) (Fr.sI rfl) (fun k => by omega)
          generalize setI (setI m' 213 (6 + i) (nI (S.1.1.getD S.1.2.1 0))) 210 c (nI (S.1.2.1 + 1)) = m4 at *
          have htk : (S.1.1.drop S.1.2.1).take 1 = [S.1.1.getD S.1.2.1 0] := by
            rw [List.drop_eq_getElem_cons p2, List.getD_eq_getElem?_getD, List.getElem?_eq_getElem p2]
            rfl
          refine hk2 m4 ⟨by rw [f3.1 _ _ (by omega)]; exact z1, z2.fr f3 (fun k => by omega), r3, by rw [f3.1 _ _ (by omega)]; exact z4⟩ (b2.fr f3 (fun a k _ => by omega)) b3 ?_ (b5.tr f3 (fun _ _ q => q) (by intro c k h; omega))
          show Seg m4 213 6 (S.2.2.2 ++ (S.1.1.drop S.1.2.1).take 1)
          rw [htk]
          exact s3
        clear hk2 hk
        have hIb := hIi.1
        unfold b345_76 f342
        rw [i_52, if_neg (fun z => by have := (nI_leI (by omega) (by omega)).mp z; omega), i_7, if_neg (fun z => by have := (nI_eq (by omega) (by omega)).mp z; omega), ldA_N (by omega), Option.bind_some, ldA_N (by omega), Option.bind_some, x1.1, x1.2.2.1]
        have h1 := hIb.1
        have h2 := hIb.2
        by_cases q : (flN s i).1.2.1 = (flN s i).1.1.length
        · have hpb : pbF i (flN s i) = ((begP (flN s i).2.1 (52 - i)).1, (begP (flN s i).2.1 (52 - i)).2, if (flN s i).2.2.1 = 2047 then i else (flN s i).2.2.1, (flN s i).2.2.2) := by
            unfold pbF
            rw [if_pos q]
          rw [hpb] at put
          dsimp only at put
          rw [if_pos ((nI_leI (by omega) (by omega)).mpr (by omega)), i_0, rtZ_0, Option.bind_some]
          dsimp only
          rw [if_pos rfl, pk_sub (by omega)]
          refine wp_bind (beg_M (room := 52 - i) x1 hc2' x2 hIi.2.1 x3 (by omega)) (fun m2 ⟨c1, c2, c3⟩ => ?_)
          have hsub : (begP (flN s i).2.1 (52 - i)).2.length ≤ gln (166 + 2 * c) := by
            unfold begP
            by_cases z : (flN s i).2.1.length = 0
            · rw [if_pos z]; exact x3
            · rw [if_neg z]
              show ((flN s i).2.1.eraseIdx 0).length ≤ _
              rw [List.length_eraseIdx_of_lt (by omega)]
              omega
          have h21 := hIi.2.2.1
          have s2 := x4.fr c3 (fun k => by omega)
          have f2 : Fr (fun a k => FBm c a k ∨ FLv c a k ∨ a = 213) m1 m2 := x5.tr c3 (fun _ _ q => q) (by intro c k h; omega)
          unfold c345_135
          rw [i_2047]
          by_cases q2 : (flN s i).2.2.1 = 2047
          · rw [if_pos (by rw [q2])]
            rw [if_pos q2] at put
            exact put m2 c1 c2 hsub s2 f2
          · rw [if_neg (fun z => q2 ((nI_eq (by omega) (by omega)).mp z))]
            rw [if_neg q2] at put
            exact put m2 c1 c2 hsub s2 f2
        · rw [pbF_no q] at put
          rw [if_neg (fun z => by have := (nI_leI (by omega) (by omega)).mp z; omega), i_1, rtZ_1, Option.bind_some]
          dsimp only
          rw [if_neg (show ¬ nI 1 = (0 : Int32) by decide)]
          exact put m x1 x2 x3 x4 x5
      · rw [← hct] at x1 x2 x4 ⊢
        have f2 : Fr (fun a k => a = 129 ∧ k = 141 ∨ FBm c a k ∨ FLv c a k ∨ a = 213) μ m := f1.tr x5 (by intro c k h; omega) (by intro c k h; omega)
        have r2 : m.1 129 141 = nI (b2n st) := by rw [x5.1 _ _ (by omega)]; exact r1
        rcases hc with c0 | c1 | c7
        · have hlv : lvN f lv pd = (ctF f lv pd).2.1 := by unfold lvN; rw [if_pos c0]
          have hpd : pdN f lv pd = pd := by unfold pdN; rw [if_neg (by omega)]
          rw [hfw, hlv, hpd, c0, upL_s, upL_o (by decide)] at fin
          rw [hlv, hpd]
          rw [c0] at ec
          subst ec
          exact fin m _ _ x4 r2 x1 (hF.2.1.fr hI.2.1 f2 (fun a k _ => by omega)) x2 (hP.fr f2 (fun a k _ => by omega)) f2 (by intro c k h; omega)
        · have hlv : lvN f lv pd = lv := by unfold lvN; rw [if_neg (by omega)]
          have hpd : pdN f lv pd = (ctF f lv pd).2.1 := by unfold pdN; rw [if_pos c1]
          rw [hfw, hlv, hpd, c1, upL_s, upL_o (by decide)] at fin
          rw [hlv, hpd]
          rw [c1] at ec
          subst ec
          exact fin m _ _ x4 r2 (hF.1.fr hI.1 f2 (fun a k _ => by omega)) x1 (hL.fr f2 (fun a k _ => by omega)) x2 f2 (by intro c k h; omega)
        · exact absurd c7 e7
    exact main _ _ rfl rfl
