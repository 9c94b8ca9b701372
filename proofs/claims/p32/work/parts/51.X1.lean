/-! A mole: its plan, its trail, its air, its steps. -/
theorem nN_clamp : nN.toNatClampNeg = 0 := by decide
abbrev Ml : Type := List Nat × List Nat × Nat × Int32
abbrev mPl (m : Ml) : List Nat := m.1
abbrev mTr (m : Ml) : List Nat := m.2.1
abbrev mAi (m : Ml) : Nat := m.2.2.1
abbrev mSt (m : Ml) : Int32 := m.2.2.2
def CMole (v : V_X1) (m : Ml) : Prop := seg (X1_directions v) 0 (mPl m) ∧ seg (X1_trail v) 0 (mTr m) ∧ X1_planned v = nI (mPl m).length ∧ X1_trailLength v = nI (mTr m).length ∧ X1_air v = nI (mAi m) ∧ X1_steps v = mSt m
/-- a mole's plan and trail have room in its rows -/
def fitM (m : Ml) : Prop := (mPl m).length ≤ 20 ∧ 1 ≤ (mTr m).length ∧ (mTr m).length ≤ 21
def lastOf (L : List Nat) : Nat := at0 L (L.length - 1)
theorem seg0 {f : Nat → Int32} {L : List Nat} (h : seg f 0 L) {k : Nat} (hk : k < L.length) : f k = nI (at0 L k) := by
  have := h k hk
  rwa [Nat.zero_add] at this
theorem C_X1_place {v : V_X1} {m : Ml} (h : CMole v m) (hf : fitM m) {Q : Int32 → Prop} (hq : Q (nI (lastOf (mTr m)))) : wp_X1_place v Q := by
  obtain ⟨h1, h2, h3, h4, h5, h6⟩ := h
  obtain ⟨f1, f2, f3⟩ := hf
  unfold wp_X1_place
  simp (disch := omega) only [h4, nI_lit, nN_eq, nI_add, pk_mul, pk_sub, nI_clamp, nI_leI, nI_ltI, nI_eq, nN_ne, nN_ne', nN_lt, nN_le, nN_nlt, nN_nle, nN_add, nN_in, nI_inI, nI_lt0, nN_clamp, bI_0, bI_1, true_implies, false_implies, not_true_eq_false, not_false_eq_true, true_and, and_true]
  refine ⟨by omega, ?_⟩
  rw [seg0 h2 (by omega)]
  exact hq
theorem C_X1_firstIndex {v : V_X1} {m : Ml} (h : CMole v m) (hf : fitM m) (hb : ∀ x ∈ mTr m, x < 64) {t : Nat} (ht : t < 64) {Q : Int32 → Prop} (hq : Q (ixI (mTr m) t)) : wp_X1_firstIndex v (nI t) Q := by
  obtain ⟨h1, h2, h3, h4, h5, h6⟩ := h
  obtain ⟨f1, f2, f3⟩ := hf
  unfold wp_X1_firstIndex wp_X1_firstIndex_2
  refine ⟨fun y => ∃ k, y = nI k ∧ k ≤ (mTr m).length ∧ ∀ j, j < k → at0 (mTr m) j ≠ t, fun y => 30 - y.toNatClampNeg, ⟨0, rfl, by omega, fun j hj => by omega⟩, ?_⟩
  rintro _ ⟨k, rfl, hk, hn⟩
  unfold wb_X1_firstIndex_2
  simp (disch := omega) only [h4, nI_lit, nN_eq, nI_add, pk_mul, pk_sub, nI_clamp, nI_leI, nI_ltI, nI_eq, nN_ne, nN_ne', nN_lt, nN_le, nN_nlt, nN_nle, nN_add, nN_in, nI_inI, nI_lt0, nN_clamp, bI_0, bI_1, true_implies, false_implies, not_true_eq_false, not_false_eq_true, true_and, and_true]
  refine ⟨fun h => ?_, fun h => ⟨by omega, ?_, ?_⟩⟩
  · have : ixI (mTr m) t = nN := ixI_none (fun j hj => hn j (by omega))
    rwa [this] at hq
  · rw [seg0 h2 (by omega)]
    have hx := hb _ (at0_mem (L := mTr m) (k := k) (by omega))
    simp (disch := omega) only [nI_lit, nN_eq, nI_add, pk_mul, pk_sub, nI_clamp, nI_leI, nI_ltI, nI_eq, nN_ne, nN_ne', nN_lt, nN_le, nN_nlt, nN_nle, nN_add, nN_in, nI_inI, nI_lt0, nN_clamp, bI_0, bI_1, true_implies, false_implies, not_true_eq_false, not_false_eq_true, true_and, and_true]
    intro e
    rwa [ixI_of (by omega) e hn] at hq
  · rw [seg0 h2 (by omega)]
    have hx := hb _ (at0_mem (L := mTr m) (k := k) (by omega))
    simp (disch := omega) only [nI_lit, nN_eq, nI_add, pk_mul, pk_sub, nI_clamp, nI_leI, nI_ltI, nI_eq, nN_ne, nN_ne', nN_lt, nN_le, nN_nlt, nN_nle, nN_add, nN_in, nI_inI, nI_lt0, nN_clamp, bI_0, bI_1, true_implies, false_implies, not_true_eq_false, not_false_eq_true, true_and, and_true]
    intro e
    exact ⟨⟨k + 1, rfl, by omega, fun j hj => by
      by_cases e2 : j = k
      · subst e2; exact e
      · exact hn j (by omega)⟩, by omega⟩
def numM (m : Ml) (x : Int32) : Int32 := if x = nI 0 then nI (lastOf (mTr m)) else if x = nI 1 then nI (mAi m) else if x = nI 2 then nI (mPl m).length else if x = nI 3 then (if mPl m = [] then nN else nI (at0 (mPl m) 0)) else if x = nI 4 then nI (at0 (mTr m) 0) else if x = nI 5 then nI (mTr m).length else mSt m
theorem C_X1_number {v : V_X1} {m : Ml} (h : CMole v m) (hf : fitM m) {x : Int32} {Q : Int32 → Prop} (hq : Q (numM m x)) : wp_X1_number v x Q := by
  have hh := h
  obtain ⟨h1, h2, h3, h4, h5, h6⟩ := h
  obtain ⟨f1, f2, f3⟩ := hf
  unfold wp_X1_number
  unfold numM at hq
  simp only [nI_lit] at hq ⊢
  refine ⟨fun e => ?_, fun n0 => ⟨fun e => ?_, fun n1 => ⟨fun e => ?_, fun n2 => ⟨fun e => ?_, fun n3 => ⟨fun e => ?_, fun n4 => ⟨fun e => ?_, fun n5 => ?_⟩⟩⟩⟩⟩⟩
  · rw [if_pos e] at hq; exact C_X1_place hh ⟨f1, f2, f3⟩ hq
  · rw [if_neg n0, if_pos e] at hq; rw [h5]; exact hq
  · rw [if_neg n0, if_neg n1, if_pos e] at hq; rw [h3]; exact hq
  · rw [if_neg n0, if_neg n1, if_neg n2, if_pos e] at hq
    simp (disch := omega) only [h3, nI_lit, nN_eq, nI_add, pk_mul, pk_sub, nI_clamp, nI_leI, nI_ltI, nI_eq, nN_ne, nN_ne', nN_lt, nN_le, nN_nlt, nN_nle, nN_add, nN_in, nI_inI, nI_lt0, nN_clamp, bI_0, bI_1, true_implies, false_implies, not_true_eq_false, not_false_eq_true, true_and, and_true]
    refine ⟨fun q => ?_, fun q => ⟨by omega, ?_⟩⟩
    · rw [if_pos (List.eq_nil_of_length_eq_zero (by omega))] at hq; exact hq
    · rw [if_neg (by intro z; rw [z] at q; simp at q)] at hq
      rw [seg0 h1 (by omega)]; exact hq
  · rw [if_neg n0, if_neg n1, if_neg n2, if_neg n3, if_pos e] at hq
    simp (disch := omega) only [nI_lit, nN_eq, nI_add, pk_mul, pk_sub, nI_clamp, nI_leI, nI_ltI, nI_eq, nN_ne, nN_ne', nN_lt, nN_le, nN_nlt, nN_nle, nN_add, nN_in, nI_inI, nI_lt0, nN_clamp, bI_0, bI_1, true_implies, false_implies, not_true_eq_false, not_false_eq_true, true_and, and_true]
    rw [seg0 h2 (by omega)]; exact ⟨by omega, hq⟩
  · rw [if_neg n0, if_neg n1, if_neg n2, if_neg n3, if_neg n4, if_pos e] at hq; rw [h4]; exact hq
  · rw [if_neg n0, if_neg n1, if_neg n2, if_neg n3, if_neg n4, if_neg n5] at hq; rw [h6]; exact hq
theorem C_X1_addDirection {v : V_X1} {m : Ml} (h : CMole v m) (hl : (mPl m).length < 20) {x : Nat} {Q : (Nat → Int32) → Int32 → Prop} (hq : ∀ d, seg d 0 (mPl m ++ [x]) → Q d (nI ((mPl m).length + 1))) : wp_X1_addDirection v (nI x) Q := by
  obtain ⟨h1, h2, h3, h4, h5, h6⟩ := h
  unfold wp_X1_addDirection
  simp (disch := omega) only [h3, nI_lit, nN_eq, nI_add, pk_mul, pk_sub, nI_clamp, nI_leI, nI_ltI, nI_eq, nN_ne, nN_ne', nN_lt, nN_le, nN_nlt, nN_nle, nN_add, nN_in, nI_inI, nI_lt0, nN_clamp, bI_0, bI_1, true_implies, false_implies, not_true_eq_false, not_false_eq_true, true_and, and_true]
  exact ⟨fun q => by omega, fun q => ⟨by omega, hq _ (seg_snoc h1 (by omega))⟩⟩
theorem C_X1_dropDirection {v : V_X1} {m : Ml} (h : CMole v m) (hl : (mPl m).length ≤ 20) {Q : (Nat → Int32) → Int32 → Prop} (hq : ∀ d, seg d 0 (mPl m).tail → Q d (nI ((mPl m).length - 1))) : wp_X1_dropDirection v Q := by
  obtain ⟨h1, h2, h3, h4, h5, h6⟩ := h
  unfold wp_X1_dropDirection wp_X1_dropDirection_2
  refine ⟨fun y d => ∃ k, y = nI k ∧ 1 ≤ k ∧ k ≤ 21 ∧ (∀ j, j + 1 < k → j + 1 < (mPl m).length → d j = nI (at0 (mPl m) (j + 1))) ∧ (∀ j, k ≤ j + 1 → j < (mPl m).length → d j = nI (at0 (mPl m) j)), fun y d => 30 - y.toNatClampNeg, ⟨1, rfl, by omega, by omega, fun j hj => by omega, fun j _ hj => seg0 h1 hj⟩, ?_⟩
  rintro _ d ⟨k, rfl, hk0, hk1, ha, hb⟩
  unfold wb_X1_dropDirection_2
  simp (disch := omega) only [h3, nI_lit, nN_eq, nI_add, pk_mul, pk_sub, nI_clamp, nI_leI, nI_ltI, nI_eq, nN_ne, nN_ne', nN_lt, nN_le, nN_nlt, nN_nle, nN_add, nN_in, nI_inI, nI_lt0, nN_clamp, bI_0, bI_1, true_implies, false_implies, not_true_eq_false, not_false_eq_true, true_and, and_true]
  refine ⟨fun q => ⟨fun q2 => ?_, fun q2 => ?_⟩, fun q => ⟨by omega, by omega, ⟨k + 1, rfl, by omega, by omega, ?_, ?_⟩, by omega⟩⟩
  · have e : (mPl m).length - 1 = 0 := by omega
    have := hq d (fun j hj => by simp at hj; omega)
    rwa [e] at this
  · rw [pk_sub (by omega)]
    exact hq d (fun j hj => by
      simp at hj
      rw [Nat.zero_add, ha j (by omega) (by omega), at0_tail])
  · intro j h5 h6
    by_cases e : j = k - 1
    · subst e
      rw [upd_s, hb k (by omega) (by omega)]
      congr 2; omega
    · rw [upd_n e, ha j (by omega) (by omega)]
  · intro j h5 h6
    rw [upd_n (by omega), hb j (by omega) (by omega)]
theorem C_X1_beginTrail {v : V_X1} {t : Nat} {Q : (Nat → Int32) → Int32 → Prop} (hq : ∀ d, seg d 0 [t] → Q d (nI 1)) : wp_X1_beginTrail v (nI t) Q := by
  unfold wp_X1_beginTrail
  simp (disch := omega) only [nI_lit, nN_eq, nI_add, pk_mul, pk_sub, nI_clamp, nI_leI, nI_ltI, nI_eq, nN_ne, nN_ne', nN_lt, nN_le, nN_nlt, nN_nle, nN_add, nN_in, nI_inI, nI_lt0, nN_clamp, bI_0, bI_1, true_implies, false_implies, not_true_eq_false, not_false_eq_true, true_and, and_true]
  exact ⟨by omega, hq _ seg_one⟩
theorem C_X1_go {v : V_X1} {m : Ml} (h : CMole v m) (hl : (mTr m).length < 21) {t : Nat} {Q : Int32 → (Nat → Int32) → Int32 → Prop} (hq : ∀ d, seg d 0 (mTr m ++ [t]) → Q (mSt m + 1) d (nI ((mTr m).length + 1))) : wp_X1_go v (nI t) Q := by
  obtain ⟨h1, h2, h3, h4, h5, h6⟩ := h
  unfold wp_X1_go wp_X1_go_29
  rw [h6]
  simp (disch := omega) only [h4, nI_lit, nI_add, nI_leI, pk_sub, nI_inI, nI_clamp]
  refine ⟨fun q => by omega, fun q => ⟨by omega, ?_⟩⟩
  exact hq _ (seg_snoc h2 (by omega))
theorem C_X1_dropBeforeLast {v : V_X1} {m : Ml} (h : CMole v m) (hf : fitM m) (hb : ∀ x ∈ mTr m, x < 64) {t : Nat} (ht : t ∈ mTr m) {Q : (Nat → Int32) → Int32 → Prop} (hq : ∀ d, seg d 0 (fromLast t (mTr m)) → Q d (nI (fromLast t (mTr m)).length)) : wp_X1_dropBeforeLast v (nI t) Q := by
  obtain ⟨h1, h2, h3, h4, h5, h6⟩ := h
  obtain ⟨f1, f2, f3⟩ := hf
  have ht64 := hb t ht
  have out : ∀ k, k < (mTr m).length → fromLast t (mTr m) = (mTr m).drop k → wp_X1_dropBeforeLast_27 v (nI t) (nI k) Q := by
    intro k hk e
    unfold wp_X1_dropBeforeLast_27 wp_X1_dropBeforeLast_39
    refine ⟨fun y d => ∃ i, y = nI i ∧ i + k ≤ (mTr m).length ∧ (∀ j, j < i → d j = nI (at0 (mTr m) (j + k))) ∧ (∀ j, i ≤ j → j < (mTr m).length → d j = nI (at0 (mTr m) j)), fun y d => 30 - y.toNatClampNeg, ⟨0, rfl, by omega, fun j hj => by omega, fun j _ hj => seg0 h2 hj⟩, ?_⟩
    rintro _ d ⟨i, rfl, hi, ha, hc⟩
    unfold wb_X1_dropBeforeLast_39
    simp (disch := omega) only [h4, nI_lit, nN_eq, nI_add, pk_mul, pk_sub, nI_clamp, nI_leI, nI_ltI, nI_eq, nN_ne, nN_ne', nN_lt, nN_le, nN_nlt, nN_nle, nN_add, nN_in, nI_inI, nI_lt0, nN_clamp, bI_0, bI_1, true_implies, false_implies, not_true_eq_false, not_false_eq_true, true_and, and_true]
    refine ⟨fun q => ?_, fun q => ⟨by omega, by omega, ⟨i + 1, rfl, by omega, ?_, ?_⟩, by omega⟩⟩
    · have := hq d (by
        rw [e]
        intro j hj
        simp at hj
        rw [Nat.zero_add, ha j (by omega), at0_drop, Nat.add_comm])
      rwa [e, List.length_drop] at this
    · intro j hj
      by_cases e2 : j = i
      · subst e2
        rw [upd_s, hc (j + k) (by omega) (by omega)]
      · rw [upd_n e2, ha j (by omega)]
    · intro j h5 h6
      rw [upd_n (by omega), hc j (by omega) (by omega)]
  unfold wp_X1_dropBeforeLast wp_X1_dropBeforeLast_7
  simp (disch := omega) only [h4, nI_lit, nN_eq, nI_add, pk_mul, pk_sub, nI_clamp, nI_leI, nI_ltI, nI_eq, nN_ne, nN_ne', nN_lt, nN_le, nN_nlt, nN_nle, nN_add, nN_in, nI_inI, nI_lt0, nN_clamp, bI_0, bI_1, true_implies, false_implies, not_true_eq_false, not_false_eq_true, true_and, and_true]
  refine ⟨fun y => ∃ k, y = nI k ∧ k < (mTr m).length ∧ ∀ j, k < j → j < (mTr m).length → at0 (mTr m) j ≠ t, fun y => y.toNatClampNeg, ⟨(mTr m).length - 1, rfl, by omega, fun j hj => by omega⟩, ?_⟩
  rintro _ ⟨k, rfl, hk, hn⟩
  unfold wb_X1_dropBeforeLast_7
  have hx := hb _ (at0_mem hk)
  simp (disch := omega) only [seg0 h2 hk, nI_lit, nN_eq, nI_add, pk_mul, pk_sub, nI_clamp, nI_leI, nI_ltI, nI_eq, nN_ne, nN_ne', nN_lt, nN_le, nN_nlt, nN_nle, nN_add, nN_in, nI_inI, nI_lt0, nN_clamp, bI_0, bI_1, true_implies, false_implies, not_true_eq_false, not_false_eq_true, true_and, and_true]
  refine ⟨fun q => ?_, fun q => ⟨by omega, fun e => ?_, fun e => ?_⟩⟩
  · refine out k hk (fromLast_of hk ?_ hn)
    obtain ⟨j, hj, e⟩ := at0_of_mem ht
    by_cases z : j = k
    · rw [← z]; exact e
    · exact absurd e (hn j (by omega) hj)
  · exact out k hk (fromLast_of hk e hn)
  · simp (disch := omega) only [nI_lit, nN_eq, nI_add, pk_mul, pk_sub, nI_clamp, nI_leI, nI_ltI, nI_eq, nN_ne, nN_ne', nN_lt, nN_le, nN_nlt, nN_nle, nN_add, nN_in, nI_inI, nI_lt0, nN_clamp, bI_0, bI_1, true_implies, false_implies, not_true_eq_false, not_false_eq_true, true_and, and_true]
    refine ⟨⟨k - 1, rfl, by omega, fun j hj hl => ?_⟩, by omega⟩
    by_cases z : j = k
    · rw [z]; exact e
    · exact hn j (by omega) hl
theorem C_X1_copyFrom {v w : V_X1} {m : Ml} (h : CMole w m) (hf : fitM m) {Q : Int32 → (Nat → Int32) → Int32 → Int32 → (Nat → Int32) → Int32 → Prop} (hq : ∀ d tr, seg d 0 (mPl m) → seg tr 0 (mTr m) → Q (nI (mAi m)) d (nI (mPl m).length) (mSt m) tr (nI (mTr m).length)) : wp_X1_copyFrom v w Q := by
  obtain ⟨h1, h2, h3, h4, h5, h6⟩ := h
  obtain ⟨f1, f2, f3⟩ := hf
  unfold wp_X1_copyFrom
  rw [h3, h4, h5, h6]
  simp (disch := omega) only [nI_lit, nI_clamp, nI_ltI]
  exact ⟨by omega, by omega, by omega, by omega, hq _ _ (seg_cpy h1 (Nat.le_refl _)) (seg_cpy h2 (Nat.le_refl _))⟩
