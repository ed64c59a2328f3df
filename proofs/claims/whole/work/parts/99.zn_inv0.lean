/-! ===== at the start ===== -/
theorem Byt_nil {μ : Mem} {a : Nat} (h : μ.1 a 1 = nI 0) : Byt μ a [] := ⟨h, Nat.zero_le _, (fun i hi => absurd hi (Nat.not_lt_zero _)), fun b hb => by cases hb⟩
theorem Shf_nil {μ : Mem} {a : Nat} (h5 : μ.1 a 5 = nI 0) (h6 : μ.1 a 6 = nI 0) (hg : gln (a + 3) = gln (a + 2) ∧ gln (a + 4) = gln (a + 2) ∧ gln (a + 5) = gln (a + 2) ∧ gln (a + 2) < 1000 ∧ gln (a + 1) < 10000) : Shf μ a [] := ⟨h5, h6, Nat.zero_le _, Nat.zero_le _, hg, (fun i hi => absurd hi (Nat.not_lt_zero _)), (fun i hi => absurd hi (Nat.not_lt_zero _)), fun i hi => absurd hi (Nat.not_lt_zero _)⟩
theorem gd_rep : ∀ {n i : Nat}, (List.replicate n 0).getD i 0 = 0 := by
  intro n i
  rw [List.getD_eq_getElem?_getD, List.getElem?_replicate]
  split <;> rfl
theorem bt_z : ∀ e, e < 32 → bt (nI 0) e = false := by decide +kernel
def wI0z (i : Nat) : Int32 := if i = 0 then nI 6 else if i = 3 then nI 1 else if i = 4 then nI 3 else if i = 5 then nI 8 else if i = 7 then nI 20 else nI 0
def wI0 : Wd := (wI0z, [], [], fun _ => (nI 0, nI 0, 0, 0), (fun _ => 0, fun _ _ => false))
def gI0 : Gw := ([], 0, nI 0, nI 0, none, fun _ _ => nI 0)
def jI0 : Jw := (fun _ => ([], none), nI 0)
def kI0 (i : Nat) : Int32 := if i = 3 ∨ i = 4 then -nI 2 else nI 0
def vI0 : Ey := ((wI0, gI0, jI0, kI0), (nI 0, nI 0), (false, nI 0), (false, 0, 0, []))
def sI0 : Sto := (fun _ => nI 0, [], [])
def yI0 (i : Nat) : Int32 := if i = 5 then nI 16 else nI 0
def dI0 : Dw := (((0, 0, [], nI 0, sI0, sI0), (fun _ => nI 0), []), yI0, nI 0)
def eI0 : Ew := (dI0, (false, 0, 0), (0, 0), [], nI 0, nI 0)
def xI0 : Xw := (List.replicate 1024 0, (fun _ _ => nI 0), (fun _ _ => nI 0), ((fun _ => false), []), (false, (fun _ => false), []), [])
def fI0 : Fw := ((fun _ => ([], 0, false)), 0, (fun _ => 0), false)
section
variable {xs : Nat → Int32}
theorem i_Tb : Tb (mF xs) := fun i => f_t (by omega)
theorem i_To : To (mF xs) := fun i => f_t (by omega)
theorem i_Ts : Ts (mF xs) := fun i => f_t (by omega)
theorem i_SC : SC (mF xs) wI0z := by
  intro i hi
  have cs : i = 0 ∨ i = 1 ∨ i = 2 ∨ i = 3 ∨ i = 4 ∨ i = 5 ∨ i = 6 ∨ i = 7 ∨ i = 8 ∨ i = 9 ∨ i = 10 := by omega
  rcases cs with rfl | rfl | rfl | rfl | rfl | rfl | rfl | rfl | rfl | rfl | rfl
  · exact f_B (Or.inl rfl) (fun μ => mB_v.1)
  · exact (f_z (by omega) (by omega))
  · exact (f_z (by omega) (by omega))
  · exact f_B (Or.inl rfl) (fun μ => mB_v.2.1)
  · exact f_B (Or.inl rfl) (fun μ => mB_v.2.2.1)
  · exact f_B (Or.inl rfl) (fun μ => mB_v.2.2.2.1)
  · exact (f_z (by omega) (by omega))
  · exact f_B (Or.inl rfl) (fun μ => mB_v.2.2.2.2.1)
  · exact (f_z (by omega) (by omega))
  · exact (f_z (by omega) (by omega))
  · exact (f_z (by omega) (by omega))
theorem i_SM : SM (mF xs) wI0z := by
  intro i hi
  have cs : i = 0 ∨ i = 1 ∨ i = 2 ∨ i = 3 ∨ i = 4 ∨ i = 5 ∨ i = 6 ∨ i = 7 ∨ i = 8 ∨ i = 9 ∨ i = 10 := by omega
  rcases cs with rfl | rfl | rfl | rfl | rfl | rfl | rfl | rfl | rfl | rfl | rfl
  · exact f_C (by decide) (fun μ => mC_v.2.1)
  · exact (f_z (by omega) (by omega))
  · exact (f_z (by omega) (by omega))
  · exact f_C (by decide) (fun μ => mC_v.2.2.1)
  · exact f_C (by decide) (fun μ => mC_v.2.2.2.1)
  · exact f_C (by decide) (fun μ => mC_v.2.2.2.2.1)
  · exact (f_z (by omega) (by omega))
  · exact f_C (by decide) (fun μ => mC_v.2.2.2.2.2.1)
  · exact (f_z (by omega) (by omega))
  · exact (f_z (by omega) (by omega))
  · exact (f_z (by omega) (by omega))
theorem i_LC : LC (mF xs) (fun _ => 0) (fun _ _ => false) := by
  intro l hl
  have cs : l = 0 ∨ l = 1 := by omega
  rcases cs with rfl | rfl
  · refine ⟨f_A (Or.inl rfl) (fun μ => mA_v.1), (f_z (by omega) (by omega)), by decide, gl_6, by decide, by decide, fun j hj => ?_⟩
    show bt ((mF xs).1 6 (j / 32)) (31 - j % 32) = (decide (j < 0) && false)
    rw [show (mF xs).1 6 (j / 32) = nI 0 from (f_z (by omega) (by omega)), bt_z _ (by omega), Bool.and_false]
  · refine ⟨f_A (Or.inr (Or.inl rfl)) (fun μ => mA_v.2.1), (f_z (by omega) (by omega)), by decide, gl_8, by decide, by decide, fun j hj => ?_⟩
    show bt ((mF xs).1 8 (j / 32)) (31 - j % 32) = (decide (j < 0) && false)
    rw [show (mF xs).1 8 (j / 32) = nI 0 from (f_z (by omega) (by omega)), bt_z _ (by omega), Bool.and_false]
theorem i_LM : LM (mF xs) (fun _ => 0) (fun _ _ => false) := fun l hl => ⟨(f_z (by omega) (by omega)), Nat.zero_le _, fun i hi => absurd hi (Nat.not_lt_zero _)⟩
theorem i_WC : WC (mF xs) 0 wI0 := ⟨i_Tb, i_SC, Shf_nil (f_z (by omega) (by omega)) (f_z (by omega) (by omega)) (by decide +kernel), Shf_nil (f_z (by omega) (by omega)) (f_z (by omega) (by omega)) (by decide +kernel), ⟨(f_z (by omega) (by omega)), by decide, fun i hi => ⟨(f_z (by omega) (by omega)), (f_z (by omega) (by omega)), (f_z (by omega) (by omega)), Nat.succ_pos _, Nat.succ_pos _⟩⟩, i_LC⟩
theorem i_WM : WM (mF xs) 0 wI0 := ⟨i_SM, ⟨(f_z (by omega) (by omega)), (fun i _ h2 => absurd h2 (Nat.not_lt_zero _)), (fun i _ h2 => absurd h2 (Nat.not_lt_zero _)), (fun i _ h2 => absurd h2 (Nat.not_lt_zero _))⟩, ⟨(f_z (by omega) (by omega)), (fun i _ h2 => absurd h2 (Nat.not_lt_zero _)), (fun i _ h2 => absurd h2 (Nat.not_lt_zero _))⟩, ⟨(f_z (by omega) (by omega)), by decide, fun i hi => ⟨(f_z (by omega) (by omega)), (f_z (by omega) (by omega)), (f_z (by omega) (by omega)), (f_z (by omega) (by omega)), Nat.succ_pos _, Nat.succ_pos _⟩⟩, i_LM⟩
theorem i_GC : GwC (mF xs) gI0 := ⟨Shf_nil (f_z (by omega) (by omega)) (f_z (by omega) (by omega)) (by decide +kernel), (f_z (by omega) (by omega)), (f_z (by omega) (by omega)), (f_z (by omega) (by omega)), f_A (by decide) (fun μ => mA_v.2.2.2), fun p hp k hk => f_z (by omega) (by omega)⟩
theorem i_GM : GwM (mF xs) gI0 := ⟨⟨(f_z (by omega) (by omega)), fun j hj => absurd hj (Nat.not_lt_zero _)⟩, (f_z (by omega) (by omega)), (f_z (by omega) (by omega)), f_C (by decide) (fun μ => mC_v.2.2.2.2.2.2.2.2.2.2.2.2.2.2), fun p hp k hk => f_z (by omega) (by omega)⟩
theorem i_JC : JC (mF xs) jI0 := by
  refine ⟨fun c hc => ?_, (f_z (by omega) (by omega))⟩
  have cs : c = 0 ∨ c = 1 := by omega
  rcases cs with rfl | rfl
  · exact ⟨Byt_nil (f_z (by omega) (by omega)), f_B (Or.inr rfl) (fun μ => mB_v.2.2.2.2.2.1)⟩
  · exact ⟨Byt_nil (f_z (by omega) (by omega)), f_B (Or.inr rfl) (fun μ => mB_v.2.2.2.2.2.2)⟩
theorem i_JM : JM (mF xs) jI0 := by
  refine ⟨fun c hc => ?_, (f_z (by omega) (by omega))⟩
  have cs : c = 0 ∨ c = 1 := by omega
  rcases cs with rfl | rfl
  · exact ⟨(f_z (by omega) (by omega)), Seg.nil, f_C (by decide) (fun μ => mC_v.2.2.2.2.2.2.2.2.1)⟩
  · exact ⟨(f_z (by omega) (by omega)), Seg.nil, f_C (by decide) (fun μ => mC_v.2.2.2.2.2.2.2.2.2.1)⟩
theorem i_KC : KnC (mF xs) kI0 := ⟨(f_z (by omega) (by omega)), (f_z (by omega) (by omega)), (f_z (by omega) (by omega)), fun h => absurd rfl h⟩
theorem i_KM : KnM (mF xs) kI0 := ⟨(f_z (by omega) (by omega)), (f_z (by omega) (by omega)), (f_z (by omega) (by omega)), f_C (by decide) (fun μ => mC_v.2.2.2.2.2.2.1), f_C (by decide) (fun μ => mC_v.2.2.2.2.2.2.2.1)⟩
theorem ns_C : ∀ i, i < 64 → (nI (nsF i)).toInt8.toInt32 = sb_b (nsL.getD i 0) := by decide +kernel
theorem ns_F : ∀ i, i < 64 → nsF i = nsL.getD i 0 := by decide +kernel
theorem ns_l : nsL.length = 64 := by decide
theorem i_n27 : SegB (mF xs) 27 0 nsL := by
  refine ⟨fun i hi => ?_, nsL_lt⟩
  rw [ns_l] at hi
  rw [Nat.zero_add, f_27 hi, ns_C i hi]
theorem i_n158 : Seg (mF xs) 158 0 nsL := by
  refine ⟨fun i hi => ?_, nsL_lt⟩
  rw [ns_l] at hi
  rw [Nat.zero_add, f_158 hi, ns_F i hi]
theorem i_EyC : EyC nsL (mF xs) 0 vI0 := ⟨⟨i_WC, i_To, i_GC, i_JC, i_KC⟩, i_n27, (f_z (by omega) (by omega)), (f_z (by omega) (by omega)), (f_z (by omega) (by omega)), (f_z (by omega) (by omega)), (f_z (by omega) (by omega)), (f_z (by omega) (by omega)), ⟨0, by decide, (f_z (by omega) (by omega)), rfl⟩, fun h => absurd h Bool.false_ne_true⟩
theorem i_EyM : EyM nsL (mF xs) 0 vI0 := ⟨⟨i_WM, i_GM, i_JM, i_KM⟩, i_n158, (f_z (by omega) (by omega)), (f_z (by omega) (by omega)), (f_z (by omega) (by omega)), (f_z (by omega) (by omega)), (f_z (by omega) (by omega)), (fun _ => ⟨(f_z (by omega) (by omega)), (f_z (by omega) (by omega))⟩), fun h => absurd h Bool.false_ne_true⟩
theorem i_StC {s : Nat} (hs : s < 2) : StC (mF xs) s sI0 := by
  have cs : s = 0 ∨ s = 1 := by omega
  rcases cs with rfl | rfl
  · exact ⟨⟨(f_z (by omega) (by omega)), by decide, (fun i hi => absurd hi (Nat.not_lt_zero _)), fun b hb => by cases hb⟩, ⟨(f_z (by omega) (by omega)), (f_z (by omega) (by omega)), (f_z (by omega) (by omega))⟩, Shf_nil (f_z (by omega) (by omega)) (f_z (by omega) (by omega)) (by decide +kernel)⟩
  · exact ⟨⟨(f_z (by omega) (by omega)), by decide, (fun i hi => absurd hi (Nat.not_lt_zero _)), fun b hb => by cases hb⟩, ⟨(f_z (by omega) (by omega)), (f_z (by omega) (by omega)), (f_z (by omega) (by omega))⟩, Shf_nil (f_z (by omega) (by omega)) (f_z (by omega) (by omega)) (by decide +kernel)⟩
theorem i_StM {s : Nat} (hs : s < 2) : StM (mF xs) s sI0 := ⟨⟨(f_z (by omega) (by omega)), by decide, (fun i hi => absurd hi (Nat.not_lt_zero _)), fun b hb => by cases hb⟩, ⟨(f_z (by omega) (by omega)), (f_z (by omega) (by omega)), (f_z (by omega) (by omega))⟩, ⟨(f_z (by omega) (by omega)), (f_z (by omega) (by omega))⟩, (fun i h1 h2 => absurd h2 (by show ¬ i < 90 * s + 0; omega)), fun i h1 h2 => absurd h2 (by show ¬ i < 90 * s + 0; omega)⟩
theorem i_UC : UmC (mF xs) yI0 := by
  intro i hi
  by_cases q : i = 5
  · subst q
    exact f_A (by decide) (fun μ => mA_v.2.2.1)
  · unfold yI0
    rw [if_neg q]
    exact f_z (by omega) (by omega)
theorem i_UM : UmM (mF xs) yI0 := by
  intro i hi
  by_cases q : i = 5
  · subst q
    exact f_C (by decide) (fun μ => mC_v.1)
  · unfold yI0
    rw [if_neg q]
    exact f_z (by omega) (by omega)
theorem i_DC : DC (mF xs) dI0 := ⟨⟨⟨i_Tb, (f_z (by omega) (by omega)), (f_z (by omega) (by omega)), Shf_nil (f_z (by omega) (by omega)) (f_z (by omega) (by omega)) (by decide +kernel), (f_z (by omega) (by omega)), i_StC (by decide), i_StC (by decide)⟩, ⟨(fun i hi _ _ => f_z (by omega) (by omega)), (f_z (by omega) (by omega)), (f_z (by omega) (by omega))⟩, Shf_nil (f_z (by omega) (by omega)) (f_z (by omega) (by omega)) (by decide +kernel), i_Ts, Byt_nil (f_z (by omega) (by omega))⟩, i_UC, (f_z (by omega) (by omega))⟩
theorem i_DM : DM (mF xs) dI0 := ⟨⟨⟨(f_z (by omega) (by omega)), (f_z (by omega) (by omega)), ⟨(f_z (by omega) (by omega)), (fun i _ h2 => absurd h2 (Nat.not_lt_zero _))⟩, (f_z (by omega) (by omega)), i_StM (by decide), i_StM (by decide)⟩, (fun i hi => f_z (by omega) (by omega)), ⟨(f_z (by omega) (by omega)), (fun i _ h2 => absurd h2 (Nat.not_lt_zero _)), (fun i _ h2 => absurd h2 (Nat.not_lt_zero _))⟩, ⟨(f_z (by omega) (by omega)), Seg.nil⟩⟩, i_UM, (f_z (by omega) (by omega))⟩
theorem i_EC : EC (mF xs) eI0 := ⟨i_DC, (f_z (by omega) (by omega)), (f_z (by omega) (by omega)), (f_z (by omega) (by omega)), ⟨0, by decide, by rw [(mF_fr xs).2]; rfl, rfl⟩, (f_z (by omega) (by omega)), Byt_nil (f_z (by omega) (by omega)), (f_z (by omega) (by omega)), (f_z (by omega) (by omega))⟩
theorem i_EM : EM (mF xs) eI0 := ⟨i_DM, (f_z (by omega) (by omega)), (f_z (by omega) (by omega)), (f_z (by omega) (by omega)), (fun j hj => absurd hj (Nat.not_lt_zero _)), (f_z (by omega) (by omega)), (f_z (by omega) (by omega)), Seg.nil, (fun h => absurd h Bool.false_ne_true), (f_z (by omega) (by omega)), (f_z (by omega) (by omega))⟩
theorem i_XC : XC (mF xs) xI0 := by
  refine ⟨⟨?_, by decide +kernel, fun i hi => ?_, fun b hb => ?_⟩, (fun s hs k hk => f_z (by omega) (by omega)), (fun s hs k hk => f_z (by omega) (by omega)), ⟨fun e he => ?_, Shf_nil (f_z (by omega) (by omega)) (f_z (by omega) (by omega)) (by decide +kernel)⟩, ⟨(f_z (by omega) (by omega)), fun e he => ?_, Shf_nil (f_z (by omega) (by omega)) (f_z (by omega) (by omega)) (by decide +kernel)⟩, Shf_nil (f_z (by omega) (by omega)) (f_z (by omega) (by omega)) (by decide +kernel)⟩
  · rw [f_127]
    exact congrArg nI List.length_replicate.symm
  · rw [show (mF xs).1 (127 + 1) i = 0 from f_128, show (xI0 : Xw).1 = List.replicate 1024 0 from rfl, gd_rep]
    rfl
  · rw [List.eq_of_mem_replicate hb]; decide
  · rw [show (mF xs).1 101 11 = nI 0 from (f_z (by omega) (by omega))]; exact bt_z e he
  · rw [show (mF xs).1 101 12 = nI 0 from (f_z (by omega) (by omega))]; exact bt_z e (by omega)
theorem i_XM : XM (mF xs) xI0 := ⟨⟨fun i hi => (by rw [show (xI0 : Xw).1 = List.replicate 1024 0 from rfl, gd_rep]; exact f_z (by omega) (by omega)), fun b hb => (by rw [List.eq_of_mem_replicate hb]; decide)⟩, (fun s hs => ⟨(fun k hk => f_z (by omega) (by omega)), fun i hi => f_z (by omega) (by omega)⟩), (fun s hs => ⟨(fun k hk => f_z (by omega) (by omega)), (f_z (by omega) (by omega))⟩), ⟨(fun e he => (f_z (by omega) (by omega))), (fun e he _ => (f_z (by omega) (by omega))), fun i e hi => absurd hi (Nat.not_lt_zero _)⟩, ⟨(f_z (by omega) (by omega)), (fun g hg => (f_z (by omega) (by omega))), (f_z (by omega) (by omega)), fun j hj => absurd hj (Nat.not_lt_zero _)⟩, ⟨(f_z (by omega) (by omega)), (fun i _ h2 => absurd h2 (Nat.not_lt_zero _))⟩⟩
theorem i_FC : FwC (mF xs) fI0 := ⟨⟨Byt_nil (f_z (by omega) (by omega)), (f_z (by omega) (by omega)), (f_z (by omega) (by omega))⟩, ⟨Byt_nil (f_z (by omega) (by omega)), (f_z (by omega) (by omega)), (f_z (by omega) (by omega))⟩, (f_z (by omega) (by omega)), (fun i hi => (f_z (by omega) (by omega))), (f_z (by omega) (by omega))⟩
theorem i_FM : FwM (mF xs) fI0 := ⟨⟨(f_z (by omega) (by omega)), Seg.nil, (f_z (by omega) (by omega)), (f_z (by omega) (by omega))⟩, ⟨(f_z (by omega) (by omega)), Seg.nil, (f_z (by omega) (by omega)), (f_z (by omega) (by omega))⟩, (f_z (by omega) (by omega)), (fun i hi => (f_z (by omega) (by omega))), (f_z (by omega) (by omega))⟩
theorem i_n214 : Seg (mF xs) 214 0 [26, 207, 252, 29] := by
  refine ⟨fun i hi => ?_, by decide⟩
  have hi4 : i < 4 := hi
  have cs : i = 0 ∨ i = 1 ∨ i = 2 ∨ i = 3 := by omega
  rcases cs with rfl | rfl | rfl | rfl
  · exact f_C (by decide) (fun μ => mC_v.2.2.2.2.2.2.2.2.2.2.1)
  · exact f_C (by decide) (fun μ => mC_v.2.2.2.2.2.2.2.2.2.2.2.1)
  · exact f_C (by decide) (fun μ => mC_v.2.2.2.2.2.2.2.2.2.2.2.2.1)
  · exact f_C (by decide) (fun μ => mC_v.2.2.2.2.2.2.2.2.2.2.2.2.2.1)
end
theorem i_WJ : WJ wI0 := ⟨⟨Pok_nil, Pok_nil, 0, 0, 8, by decide, by decide, by decide, rfl, rfl, rfl, rfl⟩, ⟨⟨0, by decide, rfl⟩, ⟨20, by decide, rfl⟩⟩, (fun _ => ⟨rfl, fun _ => rfl⟩), ⟨show nI 0 ≠ nI 5 by decide, show nI 0 ≠ nI 6 by decide⟩, show nI 6 ≠ nI 0 by decide⟩
theorem i_St : StI 0 sI0 := ⟨Or.inl rfl, Or.inl rfl, (show off [] 0 ≤ 1200 from Nat.zero_le _), (fun i hi => absurd hi (Nat.not_lt_zero _)), fun i j u v _ hj => absurd hj (Nat.not_lt_zero _)⟩
theorem i_EyI : EyI vI0 := ⟨⟨i_WJ, ⟨rfl, (fun i hi => absurd hi (Nat.not_lt_zero _)), (fun v h => by cases h), fun _ => Or.inl rfl⟩, fun c _ => ⟨bgI_0, fun v h => by cases h⟩⟩, show ¬ nI 0 < 0 by decide, (fun _ => ⟨Nat.zero_le _, by decide⟩), fun h => absurd h Bool.false_ne_true⟩
theorem i_EI : EI eI0 := ⟨⟨⟨⟨by decide, ⟨Nat.zero_le _, fun i hi => absurd hi (Nat.not_lt_zero _)⟩, i_St, i_St⟩, Nat.zero_le _, fun i hi => absurd hi (Nat.not_lt_zero _)⟩, ⟨0, by decide, rfl⟩, Or.inl rfl, Or.inl rfl, Or.inl rfl, ⟨0, by decide, rfl⟩, 16, by decide, by decide, rfl⟩, by decide, by decide, by decide, by decide, by decide, by decide, (fun b hb => by cases hb), fun _ => ⟨rfl, rfl⟩⟩
theorem i_XI : XI xI0 := by
  have n0 : nt (nI 0) = 0 := nt_nI (by decide)
  have e0 : nI 0 = nI (nt (nI 0)) := by rw [n0]
  exact ⟨List.length_replicate, (fun s hs => ⟨Or.inl rfl, Or.inl rfl, ⟨by show nt (nI 0) ≤ 8; omega, e0⟩, fun i hi => ⟨by show nt (nI 0) < 24; omega, e0⟩⟩), (fun s hs => ⟨⟨by show nt (nI 0) ≤ 5; omega, e0⟩, ⟨by show nt (nI 0) < 24; omega, e0⟩, ⟨by show nt (nI 0) < 256; omega, e0⟩, ⟨by show nt (nI 0) < 32; omega, e0⟩, by show nt (nI 0) < 256; omega, e0⟩), ⟨(fun i hi => absurd hi (Nat.not_lt_zero _)), fun i j hi => absurd hi (Nat.not_lt_zero _)⟩, ⟨Nat.zero_le _, fun i hi => absurd hi (Nat.not_lt_zero _)⟩, Nat.zero_le _, (fun i hi => absurd hi (Nat.not_lt_zero _)), (show off [] 0 ≤ 1200 from Nat.zero_le _)⟩
theorem i_FI : FwI fI0 := ⟨⟨Nat.zero_le _, by decide⟩, ⟨Nat.zero_le _, by decide⟩, by decide, fun i hi => Nat.succ_pos _⟩
theorem inv_0 (xs : Nat → Int32) : Inv 0 (mF xs) :=
  ⟨nsL, 0, [], [], vI0, eI0, xI0, fI0, ⟨Byt_nil (f_z (by omega) (by omega)), (fun h => absurd (show nI 6 = nI 5 from h) (by decide)), i_EyC, i_EC, i_XC, i_FC⟩, ⟨⟨(f_z (by omega) (by omega)), by decide, Seg.nil⟩, (fun h => absurd (show nI 6 = nI 5 from h) (by decide)), i_EyM, i_EM, i_XM, i_FM, i_n214⟩, ⟨i_EyI, i_EI, i_XI, i_FI, ns_l, nsL_lt, 16, by decide, by decide, by decide, rfl⟩, Nat.le_refl _, Nat.le_refl _, Nat.le_refl _, 0, Nat.le_refl _, rfl, fun _ => ⟨rfl, rfl⟩⟩
