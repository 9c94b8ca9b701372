/-! Rows of tufts, one behind the other. -/
abbrev Tu : Type := List (List Nat)
def off (T : Tu) (i : Nat) : Nat := (T.take i).flatten.length
def row (T : Tu) (i : Nat) : List Nat := T[i]?.getD []
theorem off_0 (T : Tu) : off T 0 = 0 := rfl
theorem row_split {T : Tu} {i : Nat} (h : i < T.length) : T = T.take i ++ row T i :: T.drop (i + 1) := by
  have : row T i = T[i] := by simp [row, h]
  rw [this, List.getElem_cons_drop, List.take_append_drop]
theorem row_take {T : Tu} {i : Nat} (h : i < T.length) : T.take (i + 1) = T.take i ++ [row T i] := by
  have : row T i = T[i] := by simp [row, h]
  rw [this, List.take_append_getElem h]
theorem off_s {T : Tu} {i : Nat} (h : i < T.length) : off T (i + 1) = off T i + (row T i).length := by
  simp [off, row_take h]
theorem off_all {T : Tu} {i : Nat} (h : T.length ≤ i) : off T i = T.flatten.length := by
  simp [off, List.take_of_length_le h]
theorem off_le (T : Tu) (i : Nat) : off T i ≤ T.flatten.length := by
  have h := congrArg (fun l => l.flatten.length) (List.take_append_drop i T)
  rw [List.flatten_append, List.length_append] at h
  unfold off; omega
theorem off_row {T : Tu} {i : Nat} (h : i < T.length) : off T i + (row T i).length ≤ T.flatten.length := by
  rw [← off_s h]; exact off_le T (i + 1)
theorem row_mem {T : Tu} {i : Nat} (h : i < T.length) : row T i ∈ T := by simp [row, h]
theorem flat_split {T : Tu} {i : Nat} (h : i < T.length) : T.flatten = (T.take i).flatten ++ (row T i ++ (T.drop (i + 1)).flatten) := by
  conv => lhs; rw [row_split h]
  rw [List.flatten_append, List.flatten_cons]
theorem at0_row {T : Tu} {i p : Nat} (h : i < T.length) (hp : p < (row T i).length) : at0 T.flatten (off T i + p) = at0 (row T i) p := by
  rw [flat_split h, at0_r (by unfold off; omega), at0_l (by unfold off; omega)]
  congr 1; unfold off; omega
def CPart (v : V_X3) (T : Tu) (P : List Nat) : Prop := seg (X3_cells v) 0 (T.flatten ++ P) ∧ X3_used v = nI (T.flatten.length + P.length) ∧ X3_size v = nI T.length ∧ ∀ i, i < T.length → X3_ends v i = nI (off T (i + 1))
def CRows (v : V_X3) (T : Tu) : Prop := CPart v T []
def fitT (T : Tu) : Prop := T.flatten.length ≤ 1024 ∧ T.length ≤ 512
theorem CRows.parts {v : V_X3} {T : Tu} (h : CRows v T) : seg (X3_cells v) 0 T.flatten ∧ X3_used v = nI T.flatten.length ∧ X3_size v = nI T.length ∧ ∀ i, i < T.length → X3_ends v i = nI (off T (i + 1)) := by
  obtain ⟨h1, h2, h3, h4⟩ := h
  exact ⟨by simpa using h1, by simpa using h2, h3, h4⟩
theorem CRows.cell {v : V_X3} {T : Tu} (h : CRows v T) {i p : Nat} (hi : i < T.length) (hp : p < (row T i).length) : X3_cells v (off T i + p) = nI (at0 (row T i) p) := by
  have := off_row hi
  rw [seg0 h.parts.1 (by omega), at0_row hi hp]
theorem CRows.segr {v : V_X3} {T : Tu} (h : CRows v T) {i : Nat} (hi : i < T.length) : seg (X3_cells v) (off T i) (row T i) := fun p hp => h.cell hi hp
theorem CRows_nil {c e : Nat → Int32} {u s : Int32} (hu : u = nI 0) (hs : s = nI 0) : CRows (c, e, u, s) [] := ⟨seg_nil _ _, hu, hs, fun i h => absurd h (by simp)⟩
theorem C_X3_empty {v : V_X3} {Q : Int32 → Int32 → Prop} (hq : Q (nI 0) (nI 0)) : wp_X3_empty v Q := hq
theorem C_X3_copyFrom {v w : V_X3} {T : Tu} (h : CRows w T) (hf : fitT T) {Q : (Nat → Int32) → (Nat → Int32) → Int32 → Int32 → Prop} (hq : ∀ c e s u, CRows (c, e, u, s) T → Q c e s u) : wp_X3_copyFrom v w Q := by
  obtain ⟨h1, h2, h3, h4⟩ := h.parts
  obtain ⟨f1, f2⟩ := hf
  unfold wp_X3_copyFrom
  rw [h2, h3]
  simp (disch := omega) only [nI_lit, nI_clamp, nI_ltI]
  refine ⟨by omega, by omega, by omega, by omega, hq _ _ _ _ ⟨?_, ?_, rfl, fun i hi => ?_⟩⟩
  · rw [List.append_nil]; exact seg_cpy h1 (Nat.le_refl _)
  · simp
  · show va_cpy _ _ 0 0 _ i = _
    rw [pk_cpy_in (by omega) (by omega)]
    simpa using h4 i hi
theorem C_X3_from {v : V_X3} {T : Tu} (h : CRows v T) (hf : fitT T) {i : Nat} (hi : i ≤ T.length) {Q : Int32 → Prop} (hq : Q (nI (off T i))) : wp_X3_from v (nI i) Q := by
  obtain ⟨h1, h2, h3, h4⟩ := h.parts
  obtain ⟨f1, f2⟩ := hf
  unfold wp_X3_from
  rw [h3]
  simp (disch := omega) only [nI_lit, nI_leI, nI_ltI]
  refine ⟨fun q => ?_, fun q => ⟨fun q2 => by omega, fun q2 => ?_⟩⟩
  · have : i = 0 := by omega
    rw [this, off_0] at hq; exact hq
  · rw [pk_sub (by omega)]
    simp (disch := omega) only [nI_lit, nN_eq, nI_add, pk_mul, pk_sub, nI_clamp, nI_leI, nI_ltI, nI_eq, nN_ne, nN_ne', nN_lt, nN_le, nN_nlt, nN_nle, nN_add, nN_in, nI_inI, nI_lt0, nN_clamp, bI_0, bI_1, true_implies, false_implies, not_true_eq_false, not_false_eq_true, true_and, and_true]
    rw [h4 (i - 1) (by omega), show i - 1 + 1 = i by omega]
    exact ⟨by omega, hq⟩
theorem C_X3_to {v : V_X3} {T : Tu} (h : CRows v T) (hf : fitT T) {i : Nat} (hi : i < T.length) {Q : Int32 → Prop} (hq : Q (nI (off T (i + 1)))) : wp_X3_to v (nI i) Q := by
  obtain ⟨h1, h2, h3, h4⟩ := h.parts
  obtain ⟨f1, f2⟩ := hf
  unfold wp_X3_to
  rw [h3]
  simp (disch := omega) only [nI_lit, nN_eq, nI_add, pk_mul, pk_sub, nI_clamp, nI_leI, nI_ltI, nI_eq, nN_ne, nN_ne', nN_lt, nN_le, nN_nlt, nN_nle, nN_add, nN_in, nI_inI, nI_lt0, nN_clamp, bI_0, bI_1, true_implies, false_implies, not_true_eq_false, not_false_eq_true, true_and, and_true]
  rw [h4 i hi]
  exact ⟨fun q => by omega, fun _ => ⟨fun q => by omega, fun _ => ⟨by omega, hq⟩⟩⟩
/-- what stands at a place of a row; none, if it is not in it -/
def atI (L : List Nat) (x : Int32) : Int32 := if ¬ x < nI 0 ∧ ¬ nI L.length ≤ x then nI (at0 L x.toNatClampNeg) else nN
theorem C_X3_at {v : V_X3} {T : Tu} (h : CRows v T) (hf : fitT T) {i : Nat} (hi : i < T.length) {x : Int32} {Q : Int32 → Prop} (hq : Q (atI (row T i) x)) : wp_X3_at v (nI i) x Q := by
  unfold wp_X3_at
  have ho := off_row hi
  have hs := off_s hi
  have f1 := hf.1
  refine ⟨fun q => ?_, fun q => C_X3_to h hf hi (C_X3_from h hf (by omega) ?_)⟩
  · unfold atI at hq
    rw [if_neg (fun z => z.1 q)] at hq
    exact hq
  · rw [pk_sub (by omega), hs, Nat.add_sub_cancel_left]
    refine ⟨fun q2 => ?_, fun q2 => C_X3_from h hf (by omega) ?_⟩
    · unfold atI at hq
      rw [if_neg (fun z => z.2 q2)] at hq
      exact hq
    · obtain ⟨j, hj, rfl⟩ := nI_of q
      simp (disch := omega) only [nI_lit, nN_eq, nI_add, pk_mul, pk_sub, nI_clamp, nI_leI, nI_ltI, nI_eq, nN_ne, nN_ne', nN_lt, nN_le, nN_nlt, nN_nle, nN_add, nN_in, nI_inI, nI_lt0, nN_clamp, bI_0, bI_1, true_implies, false_implies, not_true_eq_false, not_false_eq_true, true_and, and_true] at q2
      unfold atI at hq
      rw [if_pos ⟨q, by simp (disch := omega) only [nI_lit, nN_eq, nI_add, pk_mul, pk_sub, nI_clamp, nI_leI, nI_ltI, nI_eq, nN_ne, nN_ne', nN_lt, nN_le, nN_nlt, nN_nle, nN_add, nN_in, nI_inI, nI_lt0, nN_clamp, bI_0, bI_1, true_implies, false_implies, not_true_eq_false, not_false_eq_true, true_and, and_true]; exact q2⟩] at hq
      simp (disch := omega) only [nI_lit, nN_eq, nI_add, pk_mul, pk_sub, nI_clamp, nI_leI, nI_ltI, nI_eq, nN_ne, nN_ne', nN_lt, nN_le, nN_nlt, nN_nle, nN_add, nN_in, nI_inI, nI_lt0, nN_clamp, bI_0, bI_1, true_implies, false_implies, not_true_eq_false, not_false_eq_true, true_and, and_true]
      simp (disch := omega) only [nI_lit, nN_eq, nI_add, pk_mul, pk_sub, nI_clamp, nI_leI, nI_ltI, nI_eq, nN_ne, nN_ne', nN_lt, nN_le, nN_nlt, nN_nle, nN_add, nN_in, nI_inI, nI_lt0, nN_clamp, bI_0, bI_1, true_implies, false_implies, not_true_eq_false, not_false_eq_true, true_and, and_true] at hq
      rw [h.cell hi (by omega)]
      exact ⟨by omega, hq⟩
theorem atI_in {L : List Nat} {k : Nat} (hL : L.length < 2 ^ 31) (h : k < L.length) : atI L (nI k) = nI (at0 L k) := by
  unfold atI
  rw [if_pos ⟨nI_nlt (Nat.zero_le _) (by omega), nI_ge h hL⟩, nI_clamp (by omega)]
theorem row_fit {T : Tu} (hf : fitT T) {i : Nat} (hi : i < T.length) : (row T i).length ≤ 1024 := by
  have := off_row hi
  have := hf.1
  omega
theorem C_X3_first {v : V_X3} {T : Tu} (h : CRows v T) (hf : fitT T) {i : Nat} (hi : i < T.length) (hr : row T i ≠ []) {Q : Int32 → Prop} (hq : Q (nI (at0 (row T i) 0))) : wp_X3_first v (nI i) Q := by
  unfold wp_X3_first
  have := row_fit hf hi
  have hp := List.length_pos_iff.mpr hr
  refine C_X3_at h hf hi ?_
  simp only [nI_lit]
  rw [atI_in (by omega) hp]; exact hq
theorem C_X3_last {v : V_X3} {T : Tu} (h : CRows v T) (hf : fitT T) {i : Nat} (hi : i < T.length) (hr : row T i ≠ []) {Q : Int32 → Prop} (hq : Q (nI (lastOf (row T i)))) : wp_X3_last v (nI i) Q := by
  unfold wp_X3_last
  have := row_fit hf hi
  have hp := List.length_pos_iff.mpr hr
  refine C_X3_to h hf hi (C_X3_from h hf (by omega) (C_X3_at h hf hi ?_))
  simp only [nI_lit]
  rw [off_s hi, pk_sub (by omega), Nat.add_sub_cancel_left, pk_sub (by omega), atI_in (by omega) (by omega)]; exact hq
def numT (L : List Nat) (x : Int32) : Int32 := if x = nI 0 then nI (at0 L 0) else if x = nI 1 then nI (lastOf L) else nI L.length
theorem C_X3_number {v : V_X3} {T : Tu} (h : CRows v T) (hf : fitT T) {i : Nat} (hi : i < T.length) (hr : row T i ≠ []) {x : Int32} {Q : Int32 → Prop} (hq : Q (numT (row T i) x)) : wp_X3_number v (nI i) x Q := by
  unfold wp_X3_number
  unfold numT at hq
  simp only [nI_lit] at hq ⊢
  refine ⟨fun e => ?_, fun n0 => ⟨fun e => ?_, fun n1 => ?_⟩⟩
  · rw [if_pos e] at hq; exact C_X3_first h hf hi hr hq
  · rw [if_neg n0, if_pos e] at hq; exact C_X3_last h hf hi hr hq
  · rw [if_neg n0, if_neg n1] at hq
    refine C_X3_to h hf hi (C_X3_from h hf (by omega) ?_)
    rw [off_s hi, pk_sub (by omega), Nat.add_sub_cancel_left]; exact hq
def ixO (o : Nat) (L : List Nat) (t : Nat) : Int32 := if t ∈ L then nI (o + L.idxOf t) else nN
theorem C_X3_firstIndex {v : V_X3} {T : Tu} (h : CRows v T) (hf : fitT T) {i : Nat} (hi : i < T.length) (hb : ∀ x ∈ row T i, x < 64) {t : Nat} (ht : t < 64) {Q : Int32 → Prop} (hq : Q (ixO (off T i) (row T i) t)) : wp_X3_firstIndex v (nI i) (nI t) Q := by
  unfold wp_X3_firstIndex wp_X3_firstIndex_13
  refine C_X3_to h hf hi (C_X3_from h hf (by omega) ?_)
  have ho := off_row hi
  have f1 := hf.1
  rw [off_s hi]
  refine ⟨fun y => ∃ k, y = nI (off T i + k) ∧ k ≤ (row T i).length ∧ ∀ j, j < k → at0 (row T i) j ≠ t, fun y => 2000 - y.toNatClampNeg, ⟨0, rfl, by omega, fun j hj => by omega⟩, ?_⟩
  rintro _ ⟨k, rfl, hk, hn⟩
  unfold wb_X3_firstIndex_13
  simp (disch := omega) only [nI_lit, nN_eq, nI_add, pk_mul, pk_sub, nI_clamp, nI_leI, nI_ltI, nI_eq, nN_ne, nN_ne', nN_lt, nN_le, nN_nlt, nN_nle, nN_add, nN_in, nI_inI, nI_lt0, nN_clamp, bI_0, bI_1, true_implies, false_implies, not_true_eq_false, not_false_eq_true, true_and, and_true]
  refine ⟨fun q => ?_, fun q => ⟨by omega, ?_, ?_⟩⟩
  · have : t ∉ row T i := idx_none (fun j hj => hn j (by omega))
    rw [ixO, if_neg this] at hq; exact hq
  · rw [h.cell hi (by omega)]
    have hx := hb _ (at0_mem (L := row T i) (k := k) (by omega))
    simp (disch := omega) only [nI_lit, nN_eq, nI_add, pk_mul, pk_sub, nI_clamp, nI_leI, nI_ltI, nI_eq, nN_ne, nN_ne', nN_lt, nN_le, nN_nlt, nN_nle, nN_add, nN_in, nI_inI, nI_lt0, nN_clamp, bI_0, bI_1, true_implies, false_implies, not_true_eq_false, not_false_eq_true, true_and, and_true]
    intro e
    obtain ⟨z1, z2⟩ := idx_of (by omega) e hn
    rw [ixO, if_pos z1, z2] at hq; exact hq
  · rw [h.cell hi (by omega)]
    have hx := hb _ (at0_mem (L := row T i) (k := k) (by omega))
    simp (disch := omega) only [nI_lit, nN_eq, nI_add, pk_mul, pk_sub, nI_clamp, nI_leI, nI_ltI, nI_eq, nN_ne, nN_ne', nN_lt, nN_le, nN_nlt, nN_nle, nN_add, nN_in, nI_inI, nI_lt0, nN_clamp, bI_0, bI_1, true_implies, false_implies, not_true_eq_false, not_false_eq_true, true_and, and_true]
    intro e
    exact ⟨⟨k + 1, rfl, by omega, fun j hj => by
      by_cases e2 : j = k
      · subst e2; exact e
      · exact hn j (by omega)⟩, by omega⟩
theorem C_X3_lastIndex {v : V_X3} {T : Tu} (h : CRows v T) (hf : fitT T) {i : Nat} (hi : i < T.length) (hb : ∀ x ∈ row T i, x < 64) {t : Nat} (ht : t ∈ row T i) {Q : Int32 → Prop} (hq : ∀ j, j < (row T i).length → fromLast t (row T i) = (row T i).drop j → Q (nI (off T i + j))) : wp_X3_lastIndex v (nI i) (nI t) Q := by
  unfold wp_X3_lastIndex wp_X3_lastIndex_15
  have ht64 := hb t ht
  refine C_X3_from h hf (by omega) (C_X3_to h hf hi ?_)
  have ho := off_row hi
  have f1 := hf.1
  have hp : 0 < (row T i).length := List.length_pos_iff.mpr (fun e => by rw [e] at ht; simp at ht)
  rw [off_s hi]
  simp only [nI_lit]
  rw [pk_sub (by omega)]
  refine ⟨fun y => ∃ k, y = nI (off T i + k) ∧ k < (row T i).length ∧ ∀ j, k < j → j < (row T i).length → at0 (row T i) j ≠ t, fun y => y.toNatClampNeg, ⟨(row T i).length - 1, by congr 1; omega, by omega, fun j hj => by omega⟩, ?_⟩
  rintro _ ⟨k, rfl, hk, hn⟩
  unfold wb_X3_lastIndex_15
  have hx := hb _ (at0_mem hk)
  rw [nI_clamp (by omega), h.cell hi hk]
  simp (disch := omega) only [nI_lit, nN_eq, nI_add, pk_mul, pk_sub, nI_clamp, nI_leI, nI_ltI, nI_eq, nN_ne, nN_ne', nN_lt, nN_le, nN_nlt, nN_nle, nN_add, nN_in, nI_inI, nI_lt0, nN_clamp, bI_0, bI_1, true_implies, false_implies, not_true_eq_false, not_false_eq_true, true_and, and_true]
  refine ⟨fun q => by omega, fun q => ⟨by omega, fun e => hq k hk (fromLast_of hk e hn), fun e => ?_⟩⟩
  have k0 : 0 < k := by
    rcases Nat.eq_zero_or_pos k with z | z
    · exfalso
      obtain ⟨j, hj, e3⟩ := at0_of_mem ht
      by_cases e4 : j = k
      · rw [e4] at e3; exact e e3
      · exact hn j (by omega) hj e3
    · exact z
  simp (disch := omega) only [nI_lit, nN_eq, nI_add, pk_mul, pk_sub, nI_clamp, nI_leI, nI_ltI, nI_eq, nN_ne, nN_ne', nN_lt, nN_le, nN_nlt, nN_nle, nN_add, nN_in, nI_inI, nI_lt0, nN_clamp, bI_0, bI_1, true_implies, false_implies, not_true_eq_false, not_false_eq_true, true_and, and_true]
  refine ⟨⟨k - 1, by congr 1; omega, by omega, fun j hj hl => ?_⟩, by omega⟩
  by_cases z : j = k
  · rw [z]; exact e
  · exact hn j (by omega) hl
/-- a row ends at a tuft -/
def endA (L : List Nat) (t : Nat) : Bool := at0 L 0 == t || lastOf L == t
def otherE (L : List Nat) (t : Nat) : Nat := if at0 L 0 = t then lastOf L else at0 L 0
theorem lastOf_mem {L : List Nat} (h : L ≠ []) : lastOf L ∈ L := at0_mem (by have := List.length_pos_iff.mpr h; omega)
theorem first_mem {L : List Nat} (h : L ≠ []) : at0 L 0 ∈ L := at0_mem (List.length_pos_iff.mpr h)
theorem C_X3_endsAt {v : V_X3} {T : Tu} (h : CRows v T) (hf : fitT T) {i : Nat} (hi : i < T.length) (hr : row T i ≠ []) (hb : ∀ x ∈ row T i, x < 64) {t : Nat} (ht : t < 64) {Q : Int32 → Prop} (hq : Q (bI (endA (row T i) t))) : wp_X3_endsAt v (nI i) (nI t) Q := by
  unfold wp_X3_endsAt
  have b1 := hb _ (first_mem hr)
  have b2 := hb _ (lastOf_mem hr)
  refine C_X3_first h hf hi hr ?_
  simp (disch := omega) only [nI_lit, nN_eq, nI_add, pk_mul, pk_sub, nI_clamp, nI_leI, nI_ltI, nI_eq, nN_ne, nN_ne', nN_lt, nN_le, nN_nlt, nN_nle, nN_add, nN_in, nI_inI, nI_lt0, nN_clamp, bI_0, bI_1, true_implies, false_implies, not_true_eq_false, not_false_eq_true, true_and, and_true]
  refine ⟨fun e => ?_, fun e => C_X3_last h hf hi hr ?_⟩
  · have : endA (row T i) t = true := by simp [endA, e]
    rw [this] at hq; exact hq
  · simp (disch := omega) only [nI_lit, nN_eq, nI_add, pk_mul, pk_sub, nI_clamp, nI_leI, nI_ltI, nI_eq, nN_ne, nN_ne', nN_lt, nN_le, nN_nlt, nN_nle, nN_add, nN_in, nI_inI, nI_lt0, nN_clamp, bI_0, bI_1, true_implies, false_implies, not_true_eq_false, not_false_eq_true, true_and, and_true]
    refine ⟨fun e2 => ?_, fun e2 => ?_⟩
    · have : endA (row T i) t = true := by simp [endA, e2]
      rw [this] at hq; exact hq
    · have : endA (row T i) t = false := by simp [endA, e, e2]
      rw [this] at hq; exact hq
theorem C_X3_otherEnd {v : V_X3} {T : Tu} (h : CRows v T) (hf : fitT T) {i : Nat} (hi : i < T.length) (hr : row T i ≠ []) (hb : ∀ x ∈ row T i, x < 64) {t : Nat} (ht : t < 64) {Q : Int32 → Prop} (hq : Q (nI (otherE (row T i) t))) : wp_X3_otherEnd v (nI i) (nI t) Q := by
  unfold wp_X3_otherEnd
  have b1 := hb _ (first_mem hr)
  refine C_X3_first h hf hi hr ?_
  unfold otherE at hq
  simp (disch := omega) only [nI_lit, nN_eq, nI_add, pk_mul, pk_sub, nI_clamp, nI_leI, nI_ltI, nI_eq, nN_ne, nN_ne', nN_lt, nN_le, nN_nlt, nN_nle, nN_add, nN_in, nI_inI, nI_lt0, nN_clamp, bI_0, bI_1, true_implies, false_implies, not_true_eq_false, not_false_eq_true, true_and, and_true]
  refine ⟨fun e => C_X3_last h hf hi hr ?_, fun e => C_X3_first h hf hi hr ?_⟩
  · rw [if_pos e] at hq; exact hq
  · rw [if_neg e] at hq; exact hq
theorem C_X3_endingAt {v : V_X3} {T : Tu} (h : CRows v T) (hf : fitT T) (hr : ∀ r ∈ T, r ≠ []) (hb : ∀ r ∈ T, ∀ x ∈ r, x < 64) {t : Nat} (ht : t < 64) {i : Nat} (hi : i ≤ T.length) {Q : Int32 → Prop} (hn : (∀ k, i ≤ k → k < T.length → endA (row T k) t = false) → Q nN) (hq : ∀ k, i ≤ k → k < T.length → (∀ j, i ≤ j → j < k → endA (row T j) t = false) → endA (row T k) t = true → Q (nI k)) : wp_X3_endingAt v (nI t) (nI i) Q := by
  unfold wp_X3_endingAt wp_X3_endingAt_2
  have f2 := hf.2
  refine ⟨fun y => ∃ k, y = nI k ∧ i ≤ k ∧ k ≤ T.length ∧ ∀ j, i ≤ j → j < k → endA (row T j) t = false, fun y => 2000 - y.toNatClampNeg, ⟨i, rfl, by omega, hi, fun j h1 h2 => by omega⟩, ?_⟩
  rintro _ ⟨k, rfl, h0, hk, hz⟩
  unfold wb_X3_endingAt_2
  simp (disch := omega) only [h.parts.2.2.1, nI_lit, nN_eq, nI_add, pk_mul, pk_sub, nI_clamp, nI_leI, nI_ltI, nI_eq, nN_ne, nN_ne', nN_lt, nN_le, nN_nlt, nN_nle, nN_add, nN_in, nI_inI, nI_lt0, nN_clamp, bI_0, bI_1, true_implies, false_implies, not_true_eq_false, not_false_eq_true, true_and, and_true]
  refine ⟨fun q => hn (fun j h1 h2 => hz j h1 (by omega)), fun q => C_X3_endsAt h hf (by omega) (hr _ (row_mem (by omega))) (hb _ (row_mem (by omega))) ht ?_⟩
  simp only [bI_0]
  refine ⟨fun e => ?_, fun e => hq k h0 (by omega) hz (by simpa using e)⟩
  exact ⟨⟨k + 1, rfl, by omega, by omega, fun j h1 h2 => by
    by_cases e2 : j = k
    · rw [e2]; exact e
    · exact hz j h1 (by omega)⟩, by omega⟩
theorem C_X3_put {v : V_X3} {T : Tu} {P : List Nat} (h : CPart v T P) (hf : T.flatten.length + P.length < 1024) {x : Nat} {Q : (Nat → Int32) → Int32 → Prop} (hq : ∀ c u, CPart (c, X3_ends v, u, X3_size v) T (P ++ [x]) → Q c u) : wp_X3_put v (nI x) Q := by
  obtain ⟨h1, h2, h3, h4⟩ := h
  unfold wp_X3_put
  rw [h2]
  simp (disch := omega) only [nI_lit, nN_eq, nI_add, pk_mul, pk_sub, nI_clamp, nI_leI, nI_ltI, nI_eq, nN_ne, nN_ne', nN_lt, nN_le, nN_nlt, nN_nle, nN_add, nN_in, nI_inI, nI_lt0, nN_clamp, bI_0, bI_1, true_implies, false_implies, not_true_eq_false, not_false_eq_true, true_and, and_true]
  refine ⟨fun q => by omega, fun q => ⟨by omega, hq _ _ ⟨?_, ?_, h3, h4⟩⟩⟩
  · rw [← List.append_assoc]
    exact seg_snoc h1 (by simp)
  · rw [List.length_append]; rfl
theorem off_app {T : Tu} {L : List Nat} {i : Nat} (h : i ≤ T.length) : off (T ++ [L]) i = off T i := by
  simp [off, List.take_append_of_le_length h]
theorem C_X3_close {v : V_X3} {T : Tu} {P : List Nat} (h : CPart v T P) (hf : T.length < 512) {Q : (Nat → Int32) → Int32 → Prop} (hq : ∀ e s, CRows (X3_cells v, e, X3_used v, s) (T ++ [P]) → Q e s) : wp_X3_close v Q := by
  obtain ⟨h1, h2, h3, h4⟩ := h
  unfold wp_X3_close
  rw [h3]
  simp (disch := omega) only [nI_lit, nN_eq, nI_add, pk_mul, pk_sub, nI_clamp, nI_leI, nI_ltI, nI_eq, nN_ne, nN_ne', nN_lt, nN_le, nN_nlt, nN_nle, nN_add, nN_in, nI_inI, nI_lt0, nN_clamp, bI_0, bI_1, true_implies, false_implies, not_true_eq_false, not_false_eq_true, true_and, and_true]
  refine ⟨fun q => by omega, fun q => ⟨by omega, hq _ _ ⟨?_, ?_, ?_, fun i hi => ?_⟩⟩⟩
  · simpa using h1
  · show X3_used v = _
    rw [h2]; simp
  · simp
  · simp at hi
    by_cases e : i = T.length
    · subst e
      show upd _ _ _ _ = _
      rw [upd_s, h2, off_all (by simp)]
      simp
    · show upd _ _ _ _ = _
      rw [upd_n e, off_app (by omega), h4 i (by omega)]
theorem C_X3_addRow {v : V_X3} {T : Tu} (h : CRows v T) {nw : Nat} {w : Nat → Int32} {a b : Nat} {L : List Nat} (hw : seg w a L) (hb : b = a + L.length) (hn : b ≤ nw) (hn2 : nw ≤ 1024) (hf1 : T.flatten.length + L.length ≤ 1024) (hf2 : T.length < 512) {Q : (Nat → Int32) → (Nat → Int32) → Int32 → Int32 → Prop} (hq : ∀ c e s u, CRows (c, e, u, s) (T ++ [L]) → Q c e s u) : wp_X3_addRow v nw w (nI a) (nI b) Q := by
  obtain ⟨h1, h2, h3, h4⟩ := h.parts
  unfold wp_X3_addRow
  rw [h2, h3, show Int32.ofNat nw = nI nw from rfl, pk_sub (a := b) (b := a) (by omega)]
  subst hb
  rw [Nat.add_sub_cancel_left]
  simp only [nI_lit]
  rw [pk_sub (by omega)]
  simp (disch := omega) only [nI_lit, nN_eq, nI_add, pk_mul, pk_sub, nI_clamp, nI_leI, nI_ltI, nI_eq, nN_ne, nN_ne', nN_lt, nN_le, nN_nlt, nN_nle, nN_add, nN_in, nI_inI, nI_lt0, nN_clamp, bI_0, bI_1, true_implies, false_implies, not_true_eq_false, not_false_eq_true, true_and, and_true]
  refine ⟨fun q => by omega, fun q => ⟨fun q => by omega, fun q => ⟨fun q => by omega, fun q => ⟨fun q => by omega, fun q => ⟨fun q => ⟨by omega, by omega, by omega, by omega, by omega, by omega, hq _ _ _ _ ⟨?_, ?_, ?_, fun i hi => ?_⟩⟩, fun q => by omega⟩⟩⟩⟩⟩
  · rw [List.flatten_append, List.append_nil]
    refine seg_app (seg_cpyO h1 (by omega)) ?_
    simp only [List.flatten_cons, List.flatten_nil, List.append_nil, Nat.zero_add]
    exact seg_cpy hw (Nat.le_refl _)
  · simp
  · simp
  · simp at hi
    by_cases e : i = T.length
    · subst e
      show upd _ _ _ _ = _
      rw [upd_s, off_all (by simp)]
      simp
    · show upd _ _ _ _ = _
      rw [upd_n e, off_app (by omega), h4 i (by omega)]
