/-! requests are run: one, the reference -/
def SlR (μ : Mem) (j : Nat) (p : Pk) : Prop := μ.1 180 j = nI p.1.length ∧ p.1.length ≤ 64 ∧ Seg μ 179 (64 * j) p.1 ∧ μ.1 181 j = p.2.1
abbrev FSr (b : Nat) : Nat → Nat → Prop := fun c k => (c = 180 ∨ c = 181) ∧ k = b ∨ c = 179 ∧ 64 * b ≤ k ∧ k < 64 * b + 64
theorem SlR.fr {μ m : Mem} {j : Nat} {p : Pk} {P : Nat → Nat → Prop} (h : SlR μ j p) (ho : Fr P μ m) (h1 : ∀ c k, FSr j c k → ¬ P c k) : SlR m j p := by
  obtain ⟨a1, a2, a3, a4⟩ := h
  refine ⟨?_, a2, ⟨fun i hi => ?_, a3.2⟩, ?_⟩
  · rw [ho.1 _ _ (h1 _ _ (by omega))]; exact a1
  · rw [ho.1 _ _ (h1 _ _ (by omega))]; exact a3.1 i hi
  · rw [ho.1 _ _ (h1 _ _ (by omega))]; exact a4
theorem RqM.sl {μ : Mem} {rq : List Pk} (h : RqM μ rq) {j : Nat} (hj : j < rq.length) : SlR μ j (pk rq j) := by
  obtain ⟨a1, a2, a3⟩ := h.2.1 j (Nat.zero_le _) hj
  exact ⟨a1, a2, a3, h.2.2 j (Nat.zero_le _) hj⟩
theorem run1_M {μ : Mem} {b : Bw} (hK : KM μ b.1) (hKI : KI b.1) (hX : XM μ b.2) (hXI : XI b.2) (h0 : 0 < b.1.2.2.length) : wp (f319 μ) (fun m => KM m (runR b).1 ∧ XM m (runR b).2 ∧ KI (runR b).1 ∧ XI (runR b).2 ∧ m.1 129 21 = nI 0 ∧ Fr (fun c k => FRp c k ∨ c = 182 ∨ c = 129 ∧ (k = 106 ∨ k = 107)) μ m) := by
  have g1 := gl_179
  have g2 := gl_180
  have g3 := gl_181
  have g4 := gl_182
  obtain ⟨hP, ⟨dep, hd, ed⟩, em⟩ := hKI.2.2 0 h0
  have hI1 := rq1_I hKI h0
  have hl60 := hP.2.1
  have hl8 := hKI.2.1
  obtain ⟨s1, s2, s3, s4⟩ := hK.2.2.1.sl h0
  have hc := hK.2.2.1.1
  have hle : (b.1.2.2.eraseIdx 0).length = b.1.2.2.length - 1 := List.length_eraseIdx_of_lt h0
  rw [ed] at s4
  unfold runR
  rw [ed, nt_nI (by omega)]
  have hI2 := fun (hb : ∀ c, c ∈ (pk b.1.2.2 0).1 → c < 256) => runB_I (k := rq1 b.1) (x := b.2) (bs := (pk b.1.2.2 0).1) (dep := dep) hI1 hXI hb hP
  replace hI2 := hI2 s3.2
  generalize hbs : (pk b.1.2.2 0).1 = bs at *
  unfold f319
  rw [i_0, ldA_N (by omega), Option.bind_some, s1]
  refine wp_bind (wp_some rfl) (fun m1 hm1 => ?_)
  have f1 : Fr (fun c k => c = 129 ∧ k = 106) μ m1 := by rw [← hm1]; exact Fr.sI ⟨rfl, rfl⟩
  have c1 : m1.1 129 106 = nI bs.length := by rw [← hm1, rdI, if_pos ⟨rfl, rfl⟩]
  clear hm1
  rw [ldA_N (by omega), Option.bind_some, f1.1 _ _ (by omega), s4]
  refine wp_bind (wp_some rfl) (fun m2 hm2 => ?_)
  have f2 : Fr (fun c k => c = 129 ∧ k = 107) m1 m2 := by rw [← hm2]; exact Fr.sI ⟨rfl, rfl⟩
  have c2 : m2.1 129 107 = nI dep := by rw [← hm2, rdI, if_pos ⟨rfl, rfl⟩]
  clear hm2
  have c1' : m2.1 129 106 = nI bs.length := by rw [f2.1 _ _ (by omega)]; exact c1
  have f12 : Fr (fun c k => c = 129 ∧ (k = 106 ∨ k = 107)) μ m2 := f1.tr f2 (by intro c k h; omega) (by intro c k h; omega)
  rw [c1']
  refine wp_bind (move_M (q := 182) (d := 0) (s := 0) (s3.fr f12 (fun k => by omega)) rfl (by omega) (by omega) (by omega) (Or.inl (by omega))) (fun m3 ⟨a1, a2⟩ => ?_)
  have f3 : Fr (fun c k => c = 129 ∧ (k = 106 ∨ k = 107) ∨ c = 182) μ m3 := f12.tr a2 (by intro c k h; omega) (by intro c k h; omega)
  have hc3 : m3.1 129 104 = nI b.1.2.2.length := by rw [f3.1 _ _ (by omega)]; exact hc
  rw [hc3, i_1, pk_sub (by omega)]
  refine wp_bind (wp_some rfl) (fun m4 hm4 => ?_)
  have f4 : Fr (fun c k => c = 129 ∧ k = 104) m3 m4 := by rw [← hm4]; exact Fr.sI ⟨rfl, rfl⟩
  have c4 : m4.1 129 104 = nI (b.1.2.2.length - 1) := by rw [← hm4, rdI, if_pos ⟨rfl, rfl⟩]
  clear hm4
  have f04 : Fr (fun c k => c = 129 ∧ (k = 104 ∨ k = 106 ∨ k = 107) ∨ c = 182) μ m4 := f3.tr f4 (by intro c k h; omega) (by intro c k h; omega)
  have cur4 : CurM m4 bs dep := ⟨by rw [f4.1 _ _ (by omega), a2.1 _ _ (by omega)]; exact c1', by rw [f4.1 _ _ (by omega), a2.1 _ _ (by omega)]; exact c2, a1.fr f4 (fun k => by omega)⟩
  unfold l319_49
  refine wp_for (fun i m => (nI i, m)) (fun i m => (∀ j, j < i → SlR m j (pk b.1.2.2 (j + 1))) ∧ (∀ j, i ≤ j → j < b.1.2.2.length → SlR m j (pk b.1.2.2 j)) ∧ m.1 129 104 = nI (b.1.2.2.length - 1) ∧ Fr (fun c _ => 179 ≤ c ∧ c ≤ 181) m4 m) (b.1.2.2.length - 1) (by omega) m4 _ rfl ⟨fun j hj => absurd hj (Nat.not_lt_zero _), fun j _ hj => (hK.2.2.1.sl hj).fr f04 (fun c k _ => by omega), c4, Fr.rf⟩ (fun self i m hi ⟨x1, x2, x3, x4⟩ hk => ?_) (fun self m ⟨x1, x2, x3, x4⟩ => ?_)
  · obtain ⟨t1, t2, t3, t4⟩ := x2 (i + 1) (by omega) (by omega)
    unfold b319_49
    rw [x3, if_neg (fun z => by have := (nI_leI (by omega) (by omega)).mp z; omega), i_1, nI_add, ldA_N (by omega), Option.bind_some, t1, stA_N (by omega), Option.bind_some, ldA_N (by omega), Option.bind_some, rdI, if_neg (by omega), t4, stA_N (by omega), Option.bind_some]
    have f5 : Fr (fun c k => (c = 180 ∨ c = 181) ∧ k = i) m (setI (setI m 180 i (nI (pk b.1.2.2 (i + 1)).1.length)) 181 i (pk b.1.2.2 (i + 1)).2.1) := (Fr.sI (by omega)).pI (by omega)
    have r1 : (setI (setI m 180 i (nI (pk b.1.2.2 (i + 1)).1.length)) 181 i (pk b.1.2.2 (i + 1)).2.1).1 180 i = nI (pk b.1.2.2 (i + 1)).1.length := by rw [rdI, if_neg (by omega), rdI, if_pos ⟨rfl, rfl⟩]
    have r2 : (setI (setI m 180 i (nI (pk b.1.2.2 (i + 1)).1.length)) 181 i (pk b.1.2.2 (i + 1)).2.1).1 181 i = (pk b.1.2.2 (i + 1)).2.1 := by rw [rdI, if_pos ⟨rfl, rfl⟩]
    generalize setI (setI m 180 i (nI (pk b.1.2.2 (i + 1)).1.length)) 181 i (pk b.1.2.2 (i + 1)).2.1 = m5 at *
    rw [ldA_N (by omega), Option.bind_some, r1, i_64, pk_mul, pk_mul]
    refine wp_bind (move_M (q := 179) (d := 64 * i) (t3.fr f5 (fun k => by omega)) rfl (by omega) (by omega) (by omega) (Or.inr (by omega))) (fun m6 ⟨d1, d2⟩ => ?_)
    have f6 : Fr (FSr i) m m6 := f5.tr d2 (by intro c k h; omega) (by intro c k h; omega)
    dsimp only [nm]
    refine hk m6 ⟨fun j hj => ?_, fun j h1 h2 => (x2 j (by omega) h2).fr f6 (fun c k _ => by omega), by rw [f6.1 _ _ (by omega)]; exact x3, x4.tr f6 (fun _ _ q => q) (by intro c k h; omega)⟩
    by_cases e : j = i
    · subst e
      exact ⟨by rw [d2.1 _ _ (by omega)]; exact r1, t2, d1, by rw [d2.1 _ _ (by omega)]; exact r2⟩
    · exact (x1 j (by omega)).fr f6 (fun c k _ => by omega)
  · have f0 : Fr (fun c k => c = 129 ∧ (k = 104 ∨ k = 106 ∨ k = 107) ∨ c = 182 ∨ 179 ≤ c ∧ c ≤ 181) μ m := f04.tr x4 (by intro c k h; omega) (by intro c k h; omega)
    have rqm : RqM m (b.1.2.2.eraseIdx 0) := by
      refine ⟨by rw [hle]; exact x3, fun j _ hj => ?_, fun j _ hj => ?_⟩
      · rw [hle] at hj
        obtain ⟨z1, z2, z3, z4⟩ := x1 j (by omega)
        dsimp only
        rw [pk_era, if_neg (by omega)]
        exact ⟨z1, z2, z3⟩
      · rw [hle] at hj
        obtain ⟨z1, z2, z3, z4⟩ := x1 j (by omega)
        dsimp only
        rw [pk_era, if_neg (by omega)]
        exact z4
    have k5 : KM m (rq1 b.1) := ⟨hK.1.fr hKI.1 f0 (fun c k _ => by omega), hK.2.1.fr f0 (fun k => by omega), rqm, hK.2.2.2.fr f0 (by omega) (fun k => by omega)⟩
    refine wp_mono (runE_M k5 hI1 (hX.fr hXI f0 (fun c k _ => by omega)) hXI (cur4.fr x4 (by omega) (by omega) (fun k => by omega)) hP hd (by show _ = (b.1.2.2.eraseIdx 0).length; omega)) (fun m' ⟨o1, o2, o3, o4⟩ => ⟨o1, o2, hI2.1, hI2.2, o3, f0.tr o4 (by intro c k h; omega) (by intro c k h; omega)⟩)
