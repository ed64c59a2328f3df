/-! a frame goes down: put together, the class -/
abbrev Fw : Type := (Nat → Bg) × Nat × (Nat → Nat) × Bool
def FwC (μ : Mem) (f : Fw) : Prop := BgC μ 0 (f.1 0) ∧ BgC μ 1 (f.1 1) ∧ μ.1 57 15 = nI f.2.1 ∧ (∀ i, i < 8 → μ.1 96 i = nI (f.2.2.1 i)) ∧ μ.1 57 17 = nI (b2n f.2.2.2)
def FwI (f : Fw) : Prop := BgI (f.1 0) ∧ BgI (f.1 1) ∧ f.2.1 < 256 ∧ ∀ i, i < 8 → f.2.2.1 i < 256
def chF (f : Fw) (lv pd : List Pk) : Nat := chW (f.1 0) (f.1 1) lv.length pd.length f.2.2.2
def ctF (f : Fw) (lv pd : List Pk) : Fs := if chF f lv pd = 7 then (f.1 7, lv, 2046, List.replicate 52 85) else flN (f.1 (chF f lv pd), if chF f lv pd = 1 then pd else lv, 2047, []) 52
def hdF (f : Fw) (ch : Nat) : List Nat := [10, 177 + 2 * ch, f.2.1, f.2.2.1 ch]
def fwN (f : Fw) (lv pd : List Pk) : Fw := (if chF f lv pd = 7 then f.1 else upL f.1 (chF f lv pd) (ctF f lv pd).1, (f.2.1 + 1) % 256, upL f.2.2.1 (chF f lv pd) ((f.2.2.1 (chF f lv pd) + 1) % 256), decide (chF f lv pd = 1))
def lvN (f : Fw) (lv pd : List Pk) : List Pk := if chF f lv pd = 0 then (ctF f lv pd).2.1 else lv
def pdN (f : Fw) (lv pd : List Pk) : List Pk := if chF f lv pd = 1 then (ctF f lv pd).2.1 else pd
def frN (f : Fw) (lv pd : List Pk) (bits v : Nat) (ns : List Nat) : List Nat := mkF (frB (hdF f (chF f lv pd)) (ctF f lv pd).2.2.1 (ctF f lv pd).2.2.2 bits v) ns
theorem chF_c (f : Fw) (lv pd : List Pk) : chF f lv pd = 0 ∨ chF f lv pd = 1 ∨ chF f lv pd = 7 := chW_c _ _ _ _ _
theorem hd_lo : ∀ ch, ch = 0 ∨ ch = 1 ∨ ch = 7 → lowB (nI 2737 ||| jshl (nI ch) (nI 1)) 2 = [10, 177 + 2 * ch] := by
  intro ch h
  rcases h with rfl | rfl | rfl <;> decide +kernel
theorem FwI.b {f : Fw} {c : Nat} (h : FwI f) (hc : c < 2) : BgI (f.1 c) := by
  have : c = 0 ∨ c = 1 := by omega
  rcases this with rfl | rfl
  · exact h.1
  · exact h.2.1
theorem FwC.b {μ : Mem} {f : Fw} {c : Nat} (h : FwC μ f) (hc : c < 2) : BgC μ c (f.1 c) := by
  have : c = 0 ∨ c = 1 := by omega
  rcases this with rfl | rfl
  · exact h.1
  · exact h.2.1
theorem ctF_I {f : Fw} {lv pd : List Pk} (h : FwI f) (h0 : ShI lv) (h1 : ShI pd) (hne : chF f lv pd ≠ 7) : FsI 52 (ctF f lv pd) := by
  have hc := chF_c f lv pd
  unfold ctF
  rw [if_neg hne]
  refine flN_I ⟨h.b (by omega), ?_, Or.inl rfl, rfl⟩ 52 (Nat.le_refl _)
  show ShI (if chF f lv pd = 1 then pd else lv)
  split
  · exact h1
  · exact h0
theorem ctF_l {f : Fw} {lv pd : List Pk} (h : FwI f) (h0 : ShI lv) (h1 : ShI pd) : (ctF f lv pd).2.2.2.length = 52 ∧ (ctF f lv pd).2.2.1 < 2048 := by
  by_cases e : chF f lv pd = 7
  · unfold ctF
    rw [if_pos e]
    exact ⟨List.length_replicate, (by decide : 2046 < 2048)⟩
  · have := ctF_I h h0 h1 e
    exact ⟨this.2.2.2, by have := this.2.2.1; omega⟩
theorem fwN_I {f : Fw} {lv pd : List Pk} (h : FwI f) (h0 : ShI lv) (h1 : ShI pd) : FwI (fwN f lv pd) ∧ ShI (lvN f lv pd) ∧ ShI (pdN f lv pd) := by
  have hc := chF_c f lv pd
  have hm : (f.2.1 + 1) % 256 < 256 := Nat.mod_lt _ (by decide)
  have own : ∀ i, i < 8 → upL f.2.2.1 (chF f lv pd) ((f.2.2.1 (chF f lv pd) + 1) % 256) i < 256 := by
    intro i hi
    by_cases e : i = chF f lv pd
    · rw [e, upL_s]; exact Nat.mod_lt _ (by decide)
    · rw [upL_o e]; exact h.2.2.2 i hi
  by_cases e : chF f lv pd = 7
  · unfold fwN lvN pdN
    rw [if_pos e, if_neg (by omega), if_neg (by omega)]
    exact ⟨⟨h.1, h.2.1, hm, own⟩, h0, h1⟩
  · have hI := ctF_I h h0 h1 e
    refine ⟨⟨?_, ?_, hm, own⟩, ?_, ?_⟩
    · unfold fwN
      rw [if_neg e]
      show BgI (upL f.1 (chF f lv pd) (ctF f lv pd).1 0)
      by_cases z : 0 = chF f lv pd
      · rw [← z, upL_s]
        exact hI.1
      · rw [upL_o z]; exact h.1
    · unfold fwN
      rw [if_neg e]
      show BgI (upL f.1 (chF f lv pd) (ctF f lv pd).1 1)
      by_cases z : 1 = chF f lv pd
      · rw [← z, upL_s]
        exact hI.1
      · rw [upL_o z]; exact h.2.1
    · unfold lvN
      split
      · exact hI.2.1
      · exact h0
    · unfold pdN
      split
      · exact hI.2.1
      · exact h1
abbrev FDn : Nat → Nat → Prop := fun c k => c = 57 ∧ 15 ≤ k ∧ k ≤ 17 ∨ 90 ≤ c ∧ c ≤ 100 ∨ 7 ≤ c ∧ c ≤ 8 ∨ 75 ≤ c ∧ c ≤ 86
theorem frame_C {μ : Mem} {f : Fw} {lv pd : List Pk} {bits v n : Nat} {g : Nat → Bool} {ns : List Nat} (hF : FwC μ f) (hI : FwI f) (hL : Shf μ 75 lv) (hP : Shf μ 81 pd) (hLI : ShI lv) (hPI : ShI pd) (hT : Tb μ) (hns : SegB μ 27 0 ns) (hnl : ns.length = 64) (hl : LinC μ 7 64000 n g) (hbits : bits < 256) (hv : v < 256) : wp (f121 (nI bits) (nI v) μ) (fun m => FwC m (fwN f lv pd) ∧ Shf m 75 (lvN f lv pd) ∧ Shf m 81 (pdN f lv pd) ∧ LinC m 7 64000 (dnL n g (frN f lv pd bits v ns)).1 (dnL n g (frN f lv pd bits v ns)).2 ∧ Fr FDn μ m) := by
  have g98 : gln (97 + 1) = 64 := gl_98
  have g96 := gl_96
  have hc := chF_c f lv pd
  have ec : f122 μ = some (μ, nI (chF f lv pd)) := chan_C hF.1 hF.2.1 hI.1 hI.2.1 hL hP hF.2.2.2.2
  obtain ⟨hctl, hfst⟩ := ctF_l hI hLI hPI
  have key : ∀ s : Bool, s = decide (chF f lv pd = 1) → wp (c121_16 (nI bits) (nI v) (nI (chF f lv pd)) (nI (b2n s)) μ) (fun m => FwC m (fwN f lv pd) ∧ Shf m 75 (lvN f lv pd) ∧ Shf m 81 (pdN f lv pd) ∧ LinC m 7 64000 (dnL n g (frN f lv pd bits v ns)).1 (dnL n g (frN f lv pd bits v ns)).2 ∧ Fr FDn μ m) := by
    intro st hst
    unfold c121_16
    rw [show pfZ 57 17 (nI (b2n st)) μ = some (setI μ 57 17 (nI (b2n st))) by cases st <;> rfl, Option.bind_some]
    have f1 : Fr (fun c k => c = 57 ∧ k = 17) μ (setI μ 57 17 (nI (b2n st))) := Fr.sI ⟨rfl, rfl⟩
    have r1 : (setI μ 57 17 (nI (b2n st))).1 57 17 = nI (b2n st) := by rw [rdI, if_pos ⟨rfl, rfl⟩]
    generalize setI μ 57 17 (nI (b2n st)) = m1 at *
    refine wp_bind (cl_ok 97 m1) (fun m2 ⟨a1, a2⟩ => ?_)
    rw [i_2737, i_1]
    refine wp_bind (p2_ok _ a1 (by rw [g98]; decide)) (fun m3 ⟨b1, b2⟩ => ?_)
    rw [List.nil_append, hd_lo _ hc] at b1
    have f3 : Fr (fun c k => c = 57 ∧ k = 17 ∨ 97 ≤ c ∧ c ≤ 98) μ m3 := (f1.tr a2 (P := fun c k => c = 57 ∧ k = 17 ∨ 97 ≤ c ∧ c ≤ 98) (by intro c k h; omega) (by intro c k h; omega)).tr b2 (fun _ _ q => q) (by intro c k h; omega)
    have hal3 : m3.1 57 15 = nI f.2.1 := by rw [f3.1 _ _ (by omega)]; exact hF.2.2.1
    rw [hal3]
    refine wp_bind (pu_ok _ b1 (by rw [g98]; show 2 < 64; decide)) (fun m4 ⟨c1, c2⟩ => ?_)
    rw [byv_nI hI.2.2.1] at c1
    have f4 : Fr (fun c k => c = 57 ∧ k = 17 ∨ 97 ≤ c ∧ c ≤ 98) μ m4 := f3.tr c2 (fun _ _ q => q) (by intro c k h; omega)
    have how : m4.1 96 (chF f lv pd) = nI (f.2.2.1 (chF f lv pd)) := by rw [f4.1 _ _ (by omega)]; exact hF.2.2.2.1 _ (by omega)
    rw [i_7, an_7, Nat.mod_eq_of_lt (by omega), ldA_N (by omega), Option.bind_some, how]
    refine wp_bind (pu_ok _ c1 (by rw [g98]; show 3 < 64; decide)) (fun m5 ⟨d1, d2⟩ => ?_)
    rw [byv_nI (hI.2.2.2 _ (by omega))] at d1
    rw [i_0]
    refine wp_bind (p2_ok _ d1 (by rw [g98]; show 4 + 2 ≤ 64; decide)) (fun m6 ⟨n1, n2⟩ => ?_)
    rw [show lowB (nI 0) 2 = [0, 0] by decide +kernel] at n1
    change Byt m6 97 (hdF f (chF f lv pd) ++ [0, 0]) at n1
    have f6 : Fr (fun c k => c = 57 ∧ k = 17 ∨ 97 ≤ c ∧ c ≤ 98) μ m6 := (f4.tr d2 (fun _ _ q => q) (by intro c k h; omega)).tr n2 (fun _ _ q => q) (by intro c k h; omega)
    have r6 : m6.1 57 17 = nI (b2n st) := by rw [n2.1 _ _ (by omega), d2.1 _ _ (by omega), c2.1 _ _ (by omega), b2.1 _ _ (by omega), a2.1 _ _ (by omega)]; exact r1
    have fin : ∀ m P, Byt m 97 (hdF f (chF f lv pd) ++ [0, 0] ++ (ctF f lv pd).2.2.2) → m.1 57 16 = nI (ctF f lv pd).2.2.1 → m.1 57 17 = nI (b2n st) → BgC m 0 ((fwN f lv pd).1 0) → BgC m 1 ((fwN f lv pd).1 1) → Shf m 75 (lvN f lv pd) → Shf m 81 (pdN f lv pd) → Fr P μ m → (∀ c k, P c k → c = 57 ∧ 16 ≤ k ∧ k ≤ 17 ∨ 90 ≤ c ∧ c ≤ 95 ∨ 97 ≤ c ∧ c ≤ 98 ∨ 75 ≤ c ∧ c ≤ 86) → wp (c121_114 (nI bits) (nI v) (nI (chF f lv pd)) m) (fun m => FwC m (fwN f lv pd) ∧ Shf m 75 (lvN f lv pd) ∧ Shf m 81 (pdN f lv pd) ∧ LinC m 7 64000 (dnL n g (frN f lv pd bits v ns)).1 (dnL n g (frN f lv pd bits v ns)).2 ∧ Fr FDn μ m) := by
      intro m P o1 o2 o3 o4 o5 o6 o7 o8 hPc
      have o9 : Fr (fun c k => c = 57 ∧ 16 ≤ k ∧ k ≤ 17 ∨ 90 ≤ c ∧ c ≤ 95 ∨ 97 ≤ c ∧ c ≤ 98 ∨ 75 ≤ c ∧ c ≤ 86) μ m := o8.mono hPc
      refine wp_mono (tail_C (own := f.2.2.1) (hT.fr o9 (fun k => by omega)) o1 hctl o2 hfst hbits hv (by rw [o9.1 _ _ (by omega)]; exact hF.2.2.1) (fun i hi => by rw [o9.1 _ _ (by omega)]; exact hF.2.2.2.1 i hi) (show chF f lv pd < 8 by omega) ⟨fun i hi => by rw [o9.1 _ _ (by omega)]; exact hns.1 i hi, hns.2⟩ hnl (hl.fr o9 (fun k => by omega) (fun k => by omega))) (fun m' ⟨p1, p2, p3, p4⟩ => ?_)
      refine ⟨⟨o4.fr p4 (fun a k _ => by omega), o5.fr p4 (fun a k _ => by omega), p1, p2, ?_⟩, o6.fr p4 (fun c k _ _ => by omega), o7.fr p4 (fun c k _ _ => by omega), p3, o9.tr p4 (by intro c k h; omega) (by intro c k h; omega)⟩
      rw [p4.1 _ _ (by omega), o3, hst]
      rfl
    by_cases e7 : chF f lv pd = 7
    · have hct : ctF f lv pd = (f.1 7, lv, 2046, List.replicate 52 85) := by unfold ctF; rw [if_pos e7]
      have hfw : (fwN f lv pd).1 = f.1 := by unfold fwN; rw [if_pos e7]
      have hlv : lvN f lv pd = lv := by unfold lvN; rw [if_neg (by omega)]
      have hpd : pdN f lv pd = pd := by unfold pdN; rw [if_neg (by omega)]
      rw [hct, hfw, hlv, hpd] at fin
      rw [hlv, hpd]
      rw [if_pos (by rw [e7]), i_85, i_52]
      refine wp_bind (pm_ok _ 52 n1 (by rw [g98]; show 6 + 52 ≤ 64; decide) (by decide)) (fun m7 ⟨q1, q2⟩ => ?_)
      rw [byv_nI (by decide)] at q1
      refine wp_bind (wp_some rfl) (fun m8 hm8 => ?_)
      rw [i_2046] at hm8
      have f8 : Fr (fun c k => c = 57 ∧ k = 16) m7 m8 := by rw [← hm8]; exact Fr.sI ⟨rfl, rfl⟩
      have r8 : m8.1 57 16 = nI 2046 := by rw [← hm8, rdI, if_pos ⟨rfl, rfl⟩]
      clear hm8
      have f08 : Fr (fun c k => c = 57 ∧ 16 ≤ k ∧ k ≤ 17 ∨ 97 ≤ c ∧ c ≤ 98) μ m8 := ((f6.mono (P := fun c k => c = 57 ∧ 16 ≤ k ∧ k ≤ 17 ∨ 97 ≤ c ∧ c ≤ 98) (by intro c k h; omega)).tr q2 (fun _ _ q => q) (by intro c k h; omega)).tr f8 (fun _ _ q => q) (by intro c k h; omega)
      refine fin m8 _ (q1.fr f8 (by omega) (fun k => by omega)) r8 (by rw [f8.1 _ _ (by omega), q2.1 _ _ (by omega)]; exact r6) (hF.1.fr f08 (fun a k _ => by omega)) (hF.2.1.fr f08 (fun a k _ => by omega)) (hL.fr f08 (fun c k _ _ => by omega)) (hP.fr f08 (fun c k _ _ => by omega)) f08 (by intro c k h; omega)
    · have hc2 : chF f lv pd < 2 := by omega
      rw [if_neg (fun z => e7 ((nI_eq (by omega) (by omega)).mp z))]
      refine wp_bind (wp_some rfl) (fun m7 hm7 => ?_)
      rw [i_2047] at hm7
      have f7 : Fr (fun c k => c = 57 ∧ k = 16) m6 m7 := by rw [← hm7]; exact Fr.sI ⟨rfl, rfl⟩
      have r7 : m7.1 57 16 = nI 2047 := by rw [← hm7, rdI, if_pos ⟨rfl, rfl⟩]
      clear hm7
      have f07 : Fr (fun c k => c = 57 ∧ 16 ≤ k ∧ k ≤ 17 ∨ 97 ≤ c ∧ c ≤ 98) μ m7 := (f6.mono (P := fun c k => c = 57 ∧ 16 ≤ k ∧ k ≤ 17 ∨ 97 ≤ c ∧ c ≤ 98) (by intro c k h; omega)).tr f7 (fun _ _ q => q) (by intro c k h; omega)
      have hct : ctF f lv pd = flN (f.1 (chF f lv pd), if chF f lv pd = 1 then pd else lv, 2047, []) 52 := by unfold ctF; rw [if_neg e7]
      have hsh : Shf m7 (if chF f lv pd = 1 then 81 else 75) (if chF f lv pd = 1 then pd else lv) := by
        split
        · exact hP.fr f07 (fun c k _ _ => by omega)
        · exact hL.fr f07 (fun c k _ _ => by omega)
      have hshI : ShI (if chF f lv pd = 1 then pd else lv) := by
        split
        · exact hPI
        · exact hLI
      refine wp_bind (fill_D (c := chF f lv pd) (s := (f.1 (chF f lv pd), if chF f lv pd = 1 then pd else lv, 2047, [])) (hd := hdF f (chF f lv pd) ++ [0, 0]) ((hF.b hc2).fr f07 (fun a k _ => by omega)) hc2 rfl hsh ⟨hI.b hc2, hshI, Or.inl rfl, rfl⟩ r7 (by rw [List.append_nil]; exact n1.fr f7 (by omega) (fun k => by omega)) rfl) (fun m8 ⟨q1, q2, q3, q4, q5⟩ => ?_)
      rw [← hct] at q1 q2 q3 q4
      have hfw : (fwN f lv pd).1 = upL f.1 (chF f lv pd) (ctF f lv pd).1 := by unfold fwN; rw [if_neg e7]
      have r17 : m8.1 57 17 = nI (b2n st) := by
        rw [q5.1 _ _ (by split <;> omega), f7.1 _ _ (by omega)]; exact r6
      rcases hc with c0 | c1 | c7
      · have hlv : lvN f lv pd = (ctF f lv pd).2.1 := by unfold lvN; rw [if_pos c0]
        have hpd : pdN f lv pd = pd := by unfold pdN; rw [if_neg (by omega)]
        rw [hfw, hlv, hpd, c0, upL_s, upL_o (by decide)] at fin
        rw [hlv, hpd]
        rw [if_neg (by omega)] at q2 q5
        rw [c0] at q1 q4 q5 ⊢
        have f08 : Fr (fun c k => c = 57 ∧ 16 ≤ k ∧ k ≤ 17 ∨ 97 ≤ c ∧ c ≤ 98 ∨ FBg 0 c k ∨ FS 75 c k) μ m8 := f07.tr q5 (by intro c k h; omega) (by intro c k h; omega)
        exact fin m8 _ q4 q3 r17 q1 (hF.2.1.fr f08 (fun a k _ => by omega)) q2 (hP.fr f08 (fun c k _ _ => by omega)) f08 (by intro c k h; omega)
      · have hlv : lvN f lv pd = lv := by unfold lvN; rw [if_neg (by omega)]
        have hpd : pdN f lv pd = (ctF f lv pd).2.1 := by unfold pdN; rw [if_pos c1]
        rw [hfw, hlv, hpd, c1, upL_s, upL_o (by decide)] at fin
        rw [hlv, hpd]
        rw [if_pos c1] at q2 q5
        rw [c1] at q1 q4 q5 ⊢
        have f08 : Fr (fun c k => c = 57 ∧ 16 ≤ k ∧ k ≤ 17 ∨ 97 ≤ c ∧ c ≤ 98 ∨ FBg 1 c k ∨ FS 81 c k) μ m8 := f07.tr q5 (by intro c k h; omega) (by intro c k h; omega)
        exact fin m8 _ q4 q3 r17 (hF.1.fr f08 (fun a k _ => by omega)) q1 (hL.fr f08 (fun c k _ _ => by omega)) q2 f08 (by intro c k h; omega)
      · exact absurd c7 e7
  unfold f121
  rw [ec, Option.bind_some]
  dsimp only
  by_cases e1 : chF f lv pd = 1
  · rw [if_pos (by rw [e1]; rfl), i_1]
    exact key true (decide_eq_true e1).symm
  · rw [i_1, if_neg (fun z => e1 ((nI_eq (by omega) (by omega)).mp z)), i_0]
    exact key false (decide_eq_false e1).symm
