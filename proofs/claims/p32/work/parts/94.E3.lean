/-! What is sure, both sides. -/
def mark (S : Nat → Int32) (p : Nat) (x : Int32) : Nat → Int32 := fun t => if nb p t = true ∧ S t = nN then x else S t
def unkB (S : Nat → Int32) (p : Nat) : Nat := cntB p (fun u => decide (S u = nN))
def oneB (S : Nat → Int32) (p : Nat) : Nat := cntB p (fun u => decide (S u = nI 1))
def concl (H : Nat → Bool) (S : Nat → Int32) (p : Nat) : Bool × (Nat → Int32) := if unkB S p = 0 then (false, S) else if oneB S p = cntB p H then (true, mark S p (nI 0)) else if oneB S p + unkB S p = cntB p H then (true, mark S p (nI 1)) else (false, S)
def eqS (S S' : Nat → Int32) : Prop := ∀ t, t < 64 → S t = S' t
theorem cntB_congr {p : Nat} {P P' : Nat → Bool} (h : ∀ t, t < 64 → P t = P' t) : cntB p P = cntB p P' := cnt_congr (fun t ht => by rw [h t ht])
theorem concl_congr {H : Nat → Bool} {S S' : Nat → Int32} (h : eqS S S') (p : Nat) : (concl H S p).1 = (concl H S' p).1 ∧ eqS (concl H S p).2 (concl H S' p).2 := by
  have u : unkB S p = unkB S' p := cntB_congr (fun t ht => by rw [h t ht])
  have o : oneB S p = oneB S' p := cntB_congr (fun t ht => by rw [h t ht])
  have m : ∀ x, eqS (mark S p x) (mark S' p x) := fun x t ht => by unfold mark; rw [h t ht]
  unfold concl
  rw [u, o]
  split
  · exact ⟨rfl, h⟩
  · split
    · exact ⟨rfl, m _⟩
    · split
      · exact ⟨rfl, m _⟩
      · exact ⟨rfl, h⟩
theorem nb_mem {p t : Nat} (hp : p < 64) (ht : t < 64) : t ∈ nbL p 8 ↔ nb p t = true := by
  have h := List.isPerm_iff.mp (nb_perm ⟨p, hp⟩)
  rw [h.mem_iff, List.mem_filter, List.mem_range]
  exact ⟨fun q => q.2, fun q => ⟨ht, q⟩⟩
theorem C_mark {v : V_X4} {p : Nat} (hp : p < 64) {x : Int32} (hx : x ≠ nN) {Q : (Nat → Int32) → Prop} (hq : ∀ z, eqS z (mark (X4_sure v) p x) → Q z) : wp_X4_markUnknownBeside v (nI p) x Q := by
  unfold wp_X4_markUnknownBeside wp_X4_markUnknownBeside_2
  refine ⟨fun y z => ∃ i, y = nI i ∧ i ≤ 8 ∧ ∀ t, t < 64 → z t = if t ∈ nbL p i ∧ X4_sure v t = nN then x else X4_sure v t, fun y _ => 20 - y.toNatClampNeg, ⟨0, rfl, by omega, fun t ht => by simp [nbL]⟩, ?_⟩
  rintro _ z ⟨i, rfl, hi, hz⟩
  unfold wb_X4_markUnknownBeside_2
  simp (disch := omega) only [nI_lit, nN_eq, nI_clamp, nI_inI, nI_add, nI_leI]
  refine ⟨fun e => hq z (fun t ht => ?_), fun e => C_neighbour hp (by omega) ?_⟩
  · have : i = 8 := by omega
    subst this
    rw [hz t ht]
    unfold mark
    simp only [nb_mem hp ht]
  · cases h : nbO p i with
    | none =>
      refine ⟨fun _ => ⟨⟨i + 1, rfl, by omega, ?_⟩, by omega⟩, fun q => absurd rfl q⟩
      rw [nbL_s, h]
      simpa using hz
    | some u =>
      have hu := nbO_lt hp (by omega) h
      have ho : oI (some u) = nI u := rfl
      rw [ho]
      simp (disch := omega) only [nN_ne, nI_clamp, nI_inI]
      have hin : ∀ t, t ∈ nbL p (i + 1) ↔ t ∈ nbL p i ∨ t = u := fun t => by rw [nbL_s, h]; simp
      have hzu := hz u hu
      refine ⟨fun q => q.elim, fun _ => ⟨hu, fun e2 => ⟨⟨i + 1, rfl, by omega, fun t ht => ?_⟩, by omega⟩, fun e2 => ⟨⟨i + 1, rfl, by omega, fun t ht => ?_⟩, by omega⟩⟩⟩
      · by_cases c : t = u
        · subst c
          rw [upd_s]
          have : X4_sure v t = nN := by
            apply Classical.byContradiction
            intro q
            rw [if_neg (fun z => q z.2)] at hzu
            exact q (hzu.symm.trans e2)
          rw [if_pos ⟨(hin t).mpr (Or.inr rfl), this⟩]
        · rw [upd_n c, hz t ht]
          have : (t ∈ nbL p (i + 1)) = (t ∈ nbL p i) := propext ⟨fun q => ((hin t).mp q).resolve_right c, fun q => (hin t).mpr (Or.inl q)⟩
          simp only [this]
      · by_cases c : t = u
        · subst c
          by_cases c2 : X4_sure v t = nN
          · rw [if_pos ⟨(hin t).mpr (Or.inr rfl), c2⟩]
            by_cases c3 : t ∈ nbL p i
            · rw [hzu, if_pos ⟨c3, c2⟩]
            · rw [if_neg (fun z => c3 z.1)] at hzu
              exact absurd (hzu.trans c2) e2
          · rw [hzu, if_neg (fun z => c2 z.2), if_neg (fun z => c2 z.2)]
        · rw [hz t ht]
          have : (t ∈ nbL p (i + 1)) = (t ∈ nbL p i) := propext ⟨fun q => ((hin t).mp q).resolve_right c, fun q => (hin t).mpr (Or.inl q)⟩
          simp only [this]
theorem C_concludeAt {v : V_X4} {H : Nat → Bool} (hh : ∀ t, t < 64 → X4_hollow v t = bI (H t)) {p : Nat} (hp : p < 64) {Q : Int32 → (Nat → Int32) → Prop} (hq : ∀ z, eqS z (concl H (X4_sure v) p).2 → Q (bI (concl H (X4_sure v) p).1) z) : wp_X4_concludeAt v (nI p) Q := by
  have hH : cntB p (fun u => decide (X4_hollow v u = nI 1)) = cntB p H := cntB_congr (fun t ht => by rw [hh t ht]; cases H t <;> rfl)
  have u64 : unkB (X4_sure v) p ≤ 64 := cntB_le _ _
  have o64 : oneB (X4_sure v) p ≤ 64 := cntB_le _ _
  have h64 : cntB p H ≤ 64 := cntB_le _ _
  unfold wp_X4_concludeAt
  unfold concl at hq
  refine C_countBeside hp ?_
  rw [show cntB p (fun u => decide (X4_sure v u = -1)) = unkB (X4_sure v) p from rfl]
  simp (disch := omega) only [nI_lit, nI_eq]
  refine ⟨fun e => ?_, fun e => C_countBeside hp (C_countBeside hp ?_)⟩
  · rw [if_pos e] at hq
    exact hq _ (fun t _ => rfl)
  · rw [hH, show cntB p (fun u => decide (X4_sure v u = nI 1)) = oneB (X4_sure v) p from rfl]
    rw [if_neg e] at hq
    simp (disch := omega) only [nI_add, nI_eq]
    refine ⟨fun e2 => ?_, fun e2 => ⟨fun e3 => ?_, fun e3 => ?_⟩⟩
    · rw [if_pos e2] at hq
      exact C_mark hp (by decide) (fun z hz => hq z hz)
    · rw [if_neg e2, if_pos e3] at hq
      exact C_mark hp (by decide) (fun z hz => hq z hz)
    · rw [if_neg e2, if_neg e3] at hq
      exact hq _ (fun t _ => rfl)
