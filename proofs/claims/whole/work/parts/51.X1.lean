/-! A mole: its plan, its trail, its air, its steps. -/
theorem nN_clamp : nN.toNatClampNeg = 0 := by decide
abbrev Ml : Type := List Nat × List Nat × Nat × Int32
abbrev mPl (m : Ml) : List Nat := m.1
abbrev mTr (m : Ml) : List Nat := m.2.1
abbrev mAi (m : Ml) : Nat := m.2.2.1
abbrev mSt (m : Ml) : Int32 := m.2.2.2
def CMole (v : V_X1) (m : Ml) : Prop := seg (X1_directions v) 0 (mPl m) ∧ seg (X1_trail v) 0 (mTr m) ∧ X1_planned v = nI (mPl m).length ∧ X1_trailLength v = nI (mTr m).length ∧ X1_air v = nI (mAi m) ∧ X1_steps v = mSt m
/-- a mole's plan and trail have room in its rows -/
def fitM (m : Ml) : Prop := (mPl m).length ≤ 20 ∧ 1 ≤ (mTr m).length ∧ (mTr m).length ≤ 21
def lastOf (L : List Nat) : Nat := at0 L (L.length - 1)
theorem seg0 {f : Nat → Int32} {L : List Nat} (h : seg f 0 L) {k : Nat} (hk : k < L.length) : f k = nI (at0 L k) := by
  have := h k hk
  rwa [Nat.zero_add] at this
theorem C_X1_place {v : V_X1} {m : Ml} (h : CMole v m) (hf : fitM m) {Q : Int32 → Prop} (hq : Q (nI (lastOf (mTr m)))) : wp_X1_place v Q := by
  obtain ⟨h1, h2, h3, h4, h5, h6⟩ := h
  obtain ⟨f1, f2, f3⟩ := hf
  unfold wp_X1_place
  simp (disch := omega) only [h4, nI_lit, nN_eq, nI_add, pk_mul, pk_sub, nI_clamp, nI_leI, nI_ltI, nI_eq, nN_ne, nN_ne', nN_lt, nN_le, nN_nlt, nN_nle, nN_add, nN_in, nI_inI, nI_lt0, nN_clamp, bI_0, bI_1, true_implies, false_implies, not_true_eq_false, not_false_eq_true, true_and, and_true]
  refine ⟨by omega, ?_⟩
  rw [seg0 h2 (by omega)]
  exact hq
theorem C_X1_firstIndex {v : V_X1} {m : Ml} (h : CMole v m) (hf : fitM m) (hb : ∀ x ∈ mTr m, x < 64) {t : Nat} (ht : t < 64) {Q : Int32 → Prop} (hq : Q (ixI (mTr m) t)) : wp_X1_firstIndex v (nI t) Q := by
  obtain ⟨h1, h2, h3, h4, h5, h6⟩ := h
  obtain ⟨f1, f2, f3⟩ := hf
  unfold wp_X1_firstIndex wp_X1_firstIndex_2
  refine ⟨fun y => ∃ k, y = nI k ∧ k ≤ (mTr m).length ∧ ∀ j, j < k → at0 (mTr m) j ≠ t, fun y => 30 - y.toNatClampNeg, ⟨0, rfl, by omega, fun j hj => by omega⟩, ?_⟩
  rintro _ ⟨k, rfl, hk, hn⟩
  unfold wb_X1_firstIndex_2
  simp (disch := omega) only [h4, nI_lit, nN_eq, nI_add, pk_mul, pk_sub, nI_clamp, nI_leI, nI_ltI, nI_eq, nN_ne, nN_ne', nN_lt, nN_le, nN_nlt, nN_nle, nN_add, nN_in, nI_inI, nI_lt0, nN_clamp, bI_0, bI_1, true_implies, false_implies, not_true_eq_false, not_false_eq_true, true_and, and_true]
  refine ⟨fun h => ?_, fun h => ⟨by omega, ?_, ?_⟩⟩
  · have : ixI (mTr m) t = nN := ixI_none (fun j hj => hn j (by omega))
    rwa [this] at hq
  · rw [seg0 h2 (by omega)]
    have hx := hb _ (at0_mem (L := mTr m) (k := k) (by omega))
    simp (disch := omega) only [nI_lit, nN_eq, nI_add, pk_mul, pk_sub, nI_clamp, nI_leI, nI_ltI, nI_eq, nN_ne, nN_ne', nN_lt, nN_le, nN_nlt, nN_nle, nN_add, nN_in, nI_inI, nI_lt0, nN_clamp, bI_0, bI_1, true_implies, false_implies, not_true_eq_false, not_false_eq_true, true_and, and_true]
    intro e
    rwa [ixI_of (by omega) e hn] at hq
  · rw [seg0 h2 (by omega)]
    have hx := hb _ (at0_mem (L := mTr m) (k := k) (by omega))
    simp (disch := omega) only [nI_lit, nN_eq, nI_add, pk_mul, pk_sub, nI_clamp, nI_leI, nI_ltI, nI_eq, nN_ne, nN_ne', nN_lt, nN_le, nN_nlt, nN_nle, nN_add, nN_in, nI_inI, nI_lt0, nN_clamp, bI_0, bI_1, true_implies, false_implies, not_true_eq_false, not_false_eq_true, true_and, and_true]
    intro e
    exact ⟨⟨k + 1, rfl, by omega, fun j hj => by
      by_cases e2 : j = k
      · subst e2; exact e
      · exact hn j (by omega)⟩, by omega⟩
