/-! ===== the law's loop ===== -/
theorem ldS_N {L i : Nat} {μ : Mem} (h : i < L) (hL : L ≤ 320) : ldS L (nI i) μ = some (μ.1 100003 i) := by
  have h2 : (nI i).toNatClampNeg = i := nI_clamp (by omega)
  unfold ldS
  rw [if_pos ⟨nlt0 (by omega), by rw [h2]; exact h⟩, h2]
section
variable {L n : Nat} {μ : Mem} {K : Mem → Option (Mem × Int32)} {Q : Mem × Int32 → Prop} {i1 i2 i3 x1 x2 x3 : Int32}
theorem row0 {fC fM : Mem → Option (Mem × Int32)} (hR : Rw fC fM) (hn : n < 64) (hI : Inv n μ) (hK : ∀ m, Inv (n + 1) m → wp (K m) Q) : wp ((fC μ).bind fun r => (fM r.1).bind fun s => if r.2 = s.2 then K s.1 else rtZ (0 : Int32) s.1) Q := by
  refine wp_bind (hR n μ hn hI) (fun r ⟨_, h⟩ => ?_)
  refine wp_bind h (fun s ⟨e, h2⟩ => ?_)
  rw [if_pos e.symm]
  exact hK _ h2
theorem row1 {fC fM : Int32 → Mem → Option (Mem × Int32)} (hR : ∀ x, Rw (fC x) (fM x)) (hn : n < 64) (hI : Inv n μ) (e1 : ∀ m, Sc μ m → ldS L i1 m = some x1) (hK : ∀ m, Inv (n + 1) m → wp (K m) Q) : wp ((ldS L i1 μ).bind fun x => (fC x μ).bind fun r => (ldS L i1 r.1).bind fun y => (fM y r.1).bind fun s => if r.2 = s.2 then K s.1 else rtZ (0 : Int32) s.1) Q := by
  rw [e1 μ (fun _ => rfl), Option.bind_some]
  refine wp_bind (hR x1 n μ hn hI) (fun r ⟨hs, h⟩ => ?_)
  rw [e1 r.1 hs, Option.bind_some]
  refine wp_bind h (fun s ⟨e, h2⟩ => ?_)
  rw [if_pos e.symm]
  exact hK _ h2
theorem row2 {fC fM : Int32 → Int32 → Mem → Option (Mem × Int32)} (hR : ∀ x y, Rw (fC x y) (fM x y)) (hn : n < 64) (hI : Inv n μ) (e1 : ∀ m, Sc μ m → ldS L i1 m = some x1) (e2 : ∀ m, Sc μ m → ldS L i2 m = some x2) (hK : ∀ m, Inv (n + 1) m → wp (K m) Q) : wp ((ldS L i1 μ).bind fun x => (ldS L i2 μ).bind fun x' => (fC x x' μ).bind fun r => (ldS L i1 r.1).bind fun y => (ldS L i2 r.1).bind fun y' => (fM y y' r.1).bind fun s => if r.2 = s.2 then K s.1 else rtZ (0 : Int32) s.1) Q := by
  rw [e1 μ (fun _ => rfl), Option.bind_some, e2 μ (fun _ => rfl), Option.bind_some]
  refine wp_bind (hR x1 x2 n μ hn hI) (fun r ⟨hs, h⟩ => ?_)
  rw [e1 r.1 hs, Option.bind_some, e2 r.1 hs, Option.bind_some]
  refine wp_bind h (fun s ⟨e, h2⟩ => ?_)
  rw [if_pos e.symm]
  exact hK _ h2
theorem row3 {fC fM : Int32 → Int32 → Int32 → Mem → Option (Mem × Int32)} (hR : ∀ x y z, Rw (fC x y z) (fM x y z)) (hn : n < 64) (hI : Inv n μ) (e1 : ∀ m, Sc μ m → ldS L i1 m = some x1) (e2 : ∀ m, Sc μ m → ldS L i2 m = some x2) (e3 : ∀ m, Sc μ m → ldS L i3 m = some x3) (hK : ∀ m, Inv (n + 1) m → wp (K m) Q) : wp ((ldS L i1 μ).bind fun x => (ldS L i2 μ).bind fun x' => (ldS L i3 μ).bind fun x'' => (fC x x' x'' μ).bind fun r => (ldS L i1 r.1).bind fun y => (ldS L i2 r.1).bind fun y' => (ldS L i3 r.1).bind fun y'' => (fM y y' y'' r.1).bind fun s => if r.2 = s.2 then K s.1 else rtZ (0 : Int32) s.1) Q := by
  rw [e1 μ (fun _ => rfl), Option.bind_some, e2 μ (fun _ => rfl), Option.bind_some, e3 μ (fun _ => rfl), Option.bind_some]
  refine wp_bind (hR x1 x2 x3 n μ hn hI) (fun r ⟨hs, h⟩ => ?_)
  rw [e1 r.1 hs, Option.bind_some, e2 r.1 hs, Option.bind_some, e3 r.1 hs, Option.bind_some]
  refine wp_bind h (fun s ⟨e, h2⟩ => ?_)
  rw [if_pos e.symm]
  exact hK _ h2
end
theorem rowR {L n : Nat} {μ : Mem} {kl : Int32 → Mem → Option (Mem × Int32)} {v : Int32} {Q : Mem × Int32 → Prop} {x1 x2 x3 x4 : Int32} (hn : n < 64) (hI : Inv n μ) (e1 : ∀ m, Sc μ m → ldS L (v + 1) m = some x1) (e2 : ∀ m, Sc μ m → ldS L (v + 2) m = some x2) (e3 : ∀ m, Sc μ m → ldS L (v + 3) m = some x3) (e4 : ∀ m, Sc μ m → ldS L (v + 4) m = some x4) (hK : ∀ m, Inv (n + 1) m → wp (c369_1155 L kl v m) Q) : wp ((ldS L (v + 1) μ).bind fun x => (ldS L (v + 2) μ).bind fun x' => (ldS L (v + 3) μ).bind fun x'' => (ldS L (v + 4) μ).bind fun y => if y = 0 then c369_568 L kl v x x' x'' (0 : Int32) μ else c369_568 L kl v x x' x'' (1 : Int32) μ) Q := by
  rw [e1 μ (fun _ => rfl), Option.bind_some, e2 μ (fun _ => rfl), Option.bind_some, e3 μ (fun _ => rfl), Option.bind_some, e4 μ (fun _ => rfl), Option.bind_some]
  have key : ∀ b : Int32, (∀ r1 : Mem × Int32, (if x4 = 0 then c369_600 L kl v r1.2 x1 x2 x3 (0 : Int32) r1.1 else c369_600 L kl v r1.2 x1 x2 x3 (1 : Int32) r1.1) = c369_600 L kl v r1.2 x1 x2 x3 b r1.1) → wp (c369_568 L kl v x1 x2 x3 b μ) Q := by
    intro b hb
    unfold c369_568
    refine wp_bind (rw_request x1 x2 x3 b n μ hn hI) (fun r ⟨hs, h⟩ => ?_)
    rw [e1 r.1 hs, Option.bind_some, e2 r.1 hs, Option.bind_some, e3 r.1 hs, Option.bind_some, e4 r.1 hs, Option.bind_some, hb r]
    unfold c369_600
    refine wp_bind h (fun s ⟨e, h2⟩ => ?_)
    rw [if_pos e.symm]
    exact hK _ h2
  refine wp_if (fun z => key _ (fun r => if_pos z)) (fun z => key _ (fun r => if_neg z))
theorem law_b {L i : Nat} {μ : Mem} {kl : Int32 → Mem → Option (Mem × Int32)} {Q : Mem × Int32 → Prop} (hL : L ≤ 320) (hi : 5 * i + 5 ≤ L) (hI : Inv i μ) (hK : ∀ m, Inv (i + 1) m → wp (kl (nI (5 * (i + 1))) m) Q) : wp (b369_18 L kl (nI (5 * i)) μ) Q := by
  have hn : i < 64 := by omega
  have e0 : ldS L (nI (5 * i)) μ = some (μ.1 100003 (5 * i)) := ldS_N (by omega) hL
  have e1 : ∀ m, Sc μ m → ldS L (nI (5 * i) + (1 : Int32)) m = some (μ.1 100003 (5 * i + 1)) := fun m hs => by rw [i_1, nI_add, ldS_N (by omega) hL, hs]
  have e2 : ∀ m, Sc μ m → ldS L (nI (5 * i) + (2 : Int32)) m = some (μ.1 100003 (5 * i + 2)) := fun m hs => by rw [i_2, nI_add, ldS_N (by omega) hL, hs]
  have e3 : ∀ m, Sc μ m → ldS L (nI (5 * i) + (3 : Int32)) m = some (μ.1 100003 (5 * i + 3)) := fun m hs => by rw [i_3, nI_add, ldS_N (by omega) hL, hs]
  have e4 : ∀ m, Sc μ m → ldS L (nI (5 * i) + (4 : Int32)) m = some (μ.1 100003 (5 * i + 4)) := fun m hs => by rw [i_4, nI_add, ldS_N (by omega) hL, hs]
  have hk : ∀ m, Inv (i + 1) m → wp (c369_1155 L kl (nI (5 * i)) m) Q := fun m hm => by
    unfold c369_1155
    dsimp only [nm]
    rw [i_5, nI_add]
    exact hK m hm
  unfold b369_18
  rw [if_neg (show ¬ nI L - (5 : Int32) < nI (5 * i) from fun z => by
    rw [i_5, pk_sub (by omega)] at z
    have := (nI_ltI (by omega) (by omega)).mp z
    omega), e0, Option.bind_some]
  show wp (if μ.1 100003 (5 * i) &&& (63 : Int32) = (0 : Int32) then _ else _) Q
  generalize μ.1 100003 (5 * i) &&& (63 : Int32) = o
  refine wp_if (fun _ => row2 rw_feed hn hI e1 e2 hk) (fun _ => ?_)
  refine wp_if (fun _ => row1 rw_taped hn hI e1 hk) (fun _ => ?_)
  refine wp_if (fun _ => row0 rw_wipe hn hI hk) (fun _ => ?_)
  refine wp_if (fun _ => row0 rw_check hn hI hk) (fun _ => ?_)
  refine wp_if (fun _ => row1 rw_code hn hI e1 hk) (fun _ => ?_)
  refine wp_if (fun _ => row1 rw_bits hn hI e1 hk) (fun _ => ?_)
  refine wp_if (fun _ => row2 rw_bit hn hI e1 e2 hk) (fun _ => ?_)
  refine wp_if (fun _ => row2 rw_carry hn hI e1 e2 hk) (fun _ => ?_)
  refine wp_if (fun _ => row2 rw_turn hn hI e1 e2 hk) (fun _ => ?_)
  refine wp_if (fun _ => row2 rw_slip hn hI e1 e2 hk) (fun _ => ?_)
  refine wp_if (fun _ => row2 rw_lose hn hI e1 e2 hk) (fun _ => ?_)
  refine wp_if (fun _ => row1 rw_inject hn hI e1 hk) (fun _ => ?_)
  refine wp_if (fun _ => row3 rw_build hn hI e1 e2 e3 hk) (fun _ => ?_)
  refine wp_if (fun _ => rowR hn hI e1 e2 e3 e4 hk) (fun _ => ?_)
  refine wp_if (fun _ => row0 rw_requests hn hI hk) (fun _ => ?_)
  refine wp_if (fun _ => row2 rw_became hn hI e1 e2 hk) (fun _ => ?_)
  refine wp_if (fun _ => row2 rw_direct hn hI e1 e2 hk) (fun _ => ?_)
  refine wp_if (fun _ => row1 rw_machine hn hI e1 hk) (fun _ => ?_)
  refine wp_if (fun _ => row2 rw_ear hn hI e1 e2 hk) (fun _ => ?_)
  refine wp_if (fun _ => row1 rw_came hn hI e1 hk) (fun _ => ?_)
  refine wp_if (fun _ => row2 rw_archived hn hI e1 e2 hk) (fun _ => ?_)
  refine wp_if (fun _ => row2 rw_archByte hn hI e1 e2 hk) (fun _ => ?_)
  refine wp_if (fun _ => row2 rw_shown hn hI e1 e2 hk) (fun _ => ?_)
  refine wp_if (fun _ => row1 rw_tick hn hI e1 hk) (fun _ => ?_)
  refine wp_if (fun _ => row2 rw_sense hn hI e1 e2 hk) (fun _ => ?_)
  refine wp_if (fun _ => row1 rw_param hn hI e1 hk) (fun _ => ?_)
  refine wp_if (fun _ => row1 rw_memory hn hI e1 hk) (fun _ => ?_)
  refine wp_if (fun _ => row1 rw_craft hn hI e1 hk) (fun _ => ?_)
  refine wp_if (fun _ => row2 rw_structure hn hI e1 e2 hk) (fun _ => ?_)
  refine wp_if (fun _ => row2 rw_watch hn hI e1 e2 hk) (fun _ => ?_)
  refine wp_if (fun _ => row2 rw_event hn hI e1 e2 hk) (fun _ => ?_)
  refine wp_if (fun _ => row2 rw_entry hn hI e1 e2 hk) (fun _ => ?_)
  refine wp_if (fun _ => row2 rw_store hn hI e1 e2 hk) (fun _ => ?_)
  exact hk μ hI.up
theorem lt5 {L : Nat} (h : L < 5) : nI L - (5 : Int32) < nI 0 := by
  have : L = 0 ∨ L = 1 ∨ L = 2 ∨ L = 3 ∨ L = 4 := by omega
  rcases this with rfl | rfl | rfl | rfl | rfl <;> decide
theorem law_l {L : Nat} {μ : Mem} (hL : L ≤ 320) (hI : Inv 0 μ) : wp (l369_18 L gF (nI 0, μ)) (fun r => r.2 = nI 1) := by
  unfold l369_18
  refine wp_for (fun i m => (nI (5 * i), m)) (fun i m => Inv i m) (L / 5) (by omega) μ _ rfl hI (fun self i m hi x1 hk => ?_) (fun self m x1 => ?_)
  · exact law_b hL (by omega) x1 (fun m2 h2 => hk m2 h2)
  · dsimp only
    unfold b369_18
    rw [if_pos (show nI L - (5 : Int32) < nI (5 * (L / 5)) from by
      by_cases q : L < 5
      · rw [show 5 * (L / 5) = 0 by omega]; exact lt5 q
      · rw [i_5, pk_sub (by omega)]; exact (nI_ltI (by omega) (by omega)).mpr (by omega)), i_1, rtZ_1]
    exact wp_some rfl
