/-! A lawn of the class: what its cells hold, its counts. -/
def va_s {α : Type} (f : Nat → α) (k : Nat) (v : α) : va_up f k v k = v := by simp [va_up]
abbrev Lw : Type := (Nat → Bool) × (Nat → Bool) × (Nat → Int32) × (Nat → Int32) × Tu × List Ml × Nat × Int32 × Int32 × Int32 × Int32 × Int32
abbrev lMn (a : Lw) : Nat → Bool := a.1
abbrev lOp (a : Lw) : Nat → Bool := a.2.1
abbrev lRt (a : Lw) : Nat → Int32 := a.2.2.1
abbrev lTp (a : Lw) : Nat → Int32 := a.2.2.2.1
abbrev lTu (a : Lw) : Tu := a.2.2.2.2.1
abbrev lMo (a : Lw) : List Ml := a.2.2.2.2.2.1
abbrev lAi (a : Lw) : Nat := a.2.2.2.2.2.2.1
abbrev lBt (a : Lw) : Int32 := a.2.2.2.2.2.2.2.1
abbrev lCa (a : Lw) : Int32 := a.2.2.2.2.2.2.2.2.1
abbrev lGn (a : Lw) : Int32 := a.2.2.2.2.2.2.2.2.2.1
abbrev lRi (a : Lw) : Int32 := a.2.2.2.2.2.2.2.2.2.2.1
abbrev lFa (a : Lw) : Int32 := a.2.2.2.2.2.2.2.2.2.2.2
def mlA (M : List Ml) (i : Nat) : Ml := M[i]?.getD ([], [], 0, 0)
theorem mlA_mem {M : List Ml} {i : Nat} (h : i < M.length) : mlA M i ∈ M := by simp [mlA, h]
theorem mlA_l {A B : List Ml} {k : Nat} (h : k < A.length) : mlA (A ++ B) k = mlA A k := by simp [mlA, List.getElem?_append, h]
theorem mlA_r {A B : List Ml} {k : Nat} (h : A.length ≤ k) : mlA (A ++ B) k = mlA B (k - A.length) := by
  have : ¬ k < A.length := by omega
  simp [mlA, List.getElem?_append, this]
def CMs (r : Nat → Nat) (mo : Nat → V_X1) (c : Int32) (M : List Ml) : Prop := c = nI M.length ∧ (∀ i, i < 4 → r i < 4) ∧ (∀ i j, i < 4 → j < 4 → r i = r j → i = j) ∧ ∀ i, i < M.length → CMole (mo (r i)) (mlA M i)
def CLawn (v : V_X0) (a : Lw) : Prop := (∀ t, t < 64 → X0_mounds v t = bI (lMn a t)) ∧ (∀ t, t < 64 → X0_opened v t = bI (lOp a t)) ∧ (∀ t, t < 64 → X0_roots v t = lRt a t) ∧ (∀ t, t < 64 → X0_traps v t = lTp a t) ∧ CRows (X0_tunnels v) (lTu a) ∧ CMs (X0_molesR v) (X0_moles v) (X0_moleCount v) (lMo a) ∧ X0_fullAir v = nI (lAi a) ∧ X0_beats v = lBt a ∧ X0_caught v = lCa a ∧ X0_gnawed v = lGn a ∧ X0_risen v = lRi a ∧ X0_fallen v = lFa a
def fitTu (T : Tu) : Prop := fitT T ∧ ∀ r ∈ T, r ≠ [] ∧ ∀ x ∈ r, x < 64
def okM (m : Ml) : Prop := fitM m ∧ (∀ x ∈ mTr m, x < 64) ∧ (∀ d ∈ mPl m, d < 4) ∧ mAi m ≤ 20
def fitMs (M : List Ml) : Prop := M.length ≤ 4 ∧ ∀ m ∈ M, okM m
def fitL (a : Lw) : Prop := fitTu (lTu a) ∧ fitMs (lMo a) ∧ lAi a ≤ 20
/-- how many of the first have something -/
def cnt (p : Nat → Bool) : Nat → Nat
  | 0 => 0
  | n + 1 => cnt p n + if p n then 1 else 0
theorem cnt_le (p : Nat → Bool) : ∀ n, cnt p n ≤ n
  | 0 => Nat.le_refl 0
  | n + 1 => by
    have := cnt_le p n
    unfold cnt
    split <;> omega
theorem cnt_t {p : Nat → Bool} {n : Nat} (h : p n = true) : cnt p (n + 1) = cnt p n + 1 := by simp [cnt, h]
theorem cnt_f {p : Nat → Bool} {n : Nat} (h : p n = false) : cnt p (n + 1) = cnt p n + 0 := by simp [cnt, h]
theorem cnt_congr {p q : Nat → Bool} : ∀ {n : Nat}, (∀ k, k < n → p k = q k) → cnt p n = cnt q n
  | 0, _ => rfl
  | n + 1, h => by
    unfold cnt
    rw [cnt_congr (fun k hk => h k (by omega)), h n (by omega)]
theorem C_X0_moundCount {v : V_X0} {a : Lw} (h : CLawn v a) {Q : Int32 → Prop} (hq : Q (nI (cnt (fun t => lMn a t) 64))) : wp_X0_moundCount v Q := by
  have hx := h.1
  unfold wp_X0_moundCount wp_X0_moundCount_4
  refine ⟨fun n y => ∃ k, y = nI k ∧ k ≤ 64 ∧ n = nI (cnt (fun t => lMn a t) k), fun n y => 70 - y.toNatClampNeg, ⟨0, rfl, by omega, rfl⟩, ?_⟩
  rintro _ _ ⟨k, rfl, hk, rfl⟩
  have hc := cnt_le (fun t => lMn a t) k
  unfold wb_X0_moundCount_4
  simp (disch := omega) only [nI_lit, nN_eq, nI_add, pk_mul, pk_sub, nI_clamp, nI_leI, nI_ltI, nI_eq, nN_ne, nN_ne', nN_lt, nN_le, nN_nlt, nN_nle, nN_add, nN_in, nI_inI, nI_lt0, nN_clamp, bI_0, bI_1, true_implies, false_implies, not_true_eq_false, not_false_eq_true, true_and, and_true]
  refine ⟨fun q => ?_, fun q => ⟨by omega, ?_, ?_⟩⟩
  · have : k = 64 := by omega
    subst this; exact hq
  · rw [hx k (by omega)]
    try simp (disch := omega) only [nI_lit, nN_eq, nI_add, pk_mul, pk_sub, nI_clamp, nI_leI, nI_ltI, nI_eq, nN_ne, nN_ne', nN_lt, nN_le, nN_nlt, nN_nle, nN_add, nN_in, nI_inI, nI_lt0, nN_clamp, bI_0, bI_1, true_implies, false_implies, not_true_eq_false, not_false_eq_true, true_and, and_true]
    intro e
    exact ⟨⟨k + 1, rfl, by omega, by rw [cnt_f]; simp [e]⟩, by omega⟩
  · rw [hx k (by omega)]
    try simp (disch := omega) only [nI_lit, nN_eq, nI_add, pk_mul, pk_sub, nI_clamp, nI_leI, nI_ltI, nI_eq, nN_ne, nN_ne', nN_lt, nN_le, nN_nlt, nN_nle, nN_add, nN_in, nI_inI, nI_lt0, nN_clamp, bI_0, bI_1, true_implies, false_implies, not_true_eq_false, not_false_eq_true, true_and, and_true]
    intro e
    exact ⟨⟨k + 1, rfl, by omega, by rw [cnt_t]; simpa using e⟩, by omega⟩
theorem C_X0_openedCount {v : V_X0} {a : Lw} (h : CLawn v a) {Q : Int32 → Prop} (hq : Q (nI (cnt (fun t => lOp a t) 64))) : wp_X0_openedCount v Q := by
  have hx := h.2.1
  unfold wp_X0_openedCount wp_X0_openedCount_4
  refine ⟨fun n y => ∃ k, y = nI k ∧ k ≤ 64 ∧ n = nI (cnt (fun t => lOp a t) k), fun n y => 70 - y.toNatClampNeg, ⟨0, rfl, by omega, rfl⟩, ?_⟩
  rintro _ _ ⟨k, rfl, hk, rfl⟩
  have hc := cnt_le (fun t => lOp a t) k
  unfold wb_X0_openedCount_4
  simp (disch := omega) only [nI_lit, nN_eq, nI_add, pk_mul, pk_sub, nI_clamp, nI_leI, nI_ltI, nI_eq, nN_ne, nN_ne', nN_lt, nN_le, nN_nlt, nN_nle, nN_add, nN_in, nI_inI, nI_lt0, nN_clamp, bI_0, bI_1, true_implies, false_implies, not_true_eq_false, not_false_eq_true, true_and, and_true]
  refine ⟨fun q => ?_, fun q => ⟨by omega, ?_, ?_⟩⟩
  · have : k = 64 := by omega
    subst this; exact hq
  · rw [hx k (by omega)]
    try simp (disch := omega) only [nI_lit, nN_eq, nI_add, pk_mul, pk_sub, nI_clamp, nI_leI, nI_ltI, nI_eq, nN_ne, nN_ne', nN_lt, nN_le, nN_nlt, nN_nle, nN_add, nN_in, nI_inI, nI_lt0, nN_clamp, bI_0, bI_1, true_implies, false_implies, not_true_eq_false, not_false_eq_true, true_and, and_true]
    intro e
    exact ⟨⟨k + 1, rfl, by omega, by rw [cnt_f]; simp [e]⟩, by omega⟩
  · rw [hx k (by omega)]
    try simp (disch := omega) only [nI_lit, nN_eq, nI_add, pk_mul, pk_sub, nI_clamp, nI_leI, nI_ltI, nI_eq, nN_ne, nN_ne', nN_lt, nN_le, nN_nlt, nN_nle, nN_add, nN_in, nI_inI, nI_lt0, nN_clamp, bI_0, bI_1, true_implies, false_implies, not_true_eq_false, not_false_eq_true, true_and, and_true]
    intro e
    exact ⟨⟨k + 1, rfl, by omega, by rw [cnt_t]; simpa using e⟩, by omega⟩
theorem C_X0_rootCount {v : V_X0} {a : Lw} (h : CLawn v a) {Q : Int32 → Prop} (hq : Q (nI (cnt (fun t => !decide (lRt a t ≤ nI 0)) 64))) : wp_X0_rootCount v Q := by
  have hx := h.2.2.1
  unfold wp_X0_rootCount wp_X0_rootCount_4
  refine ⟨fun n y => ∃ k, y = nI k ∧ k ≤ 64 ∧ n = nI (cnt (fun t => !decide (lRt a t ≤ nI 0)) k), fun n y => 70 - y.toNatClampNeg, ⟨0, rfl, by omega, rfl⟩, ?_⟩
  rintro _ _ ⟨k, rfl, hk, rfl⟩
  have hc := cnt_le (fun t => !decide (lRt a t ≤ nI 0)) k
  unfold wb_X0_rootCount_4
  simp (disch := omega) only [nI_lit, nN_eq, nI_add, pk_mul, pk_sub, nI_clamp, nI_leI, nI_ltI, nI_eq, nN_ne, nN_ne', nN_lt, nN_le, nN_nlt, nN_nle, nN_add, nN_in, nI_inI, nI_lt0, nN_clamp, bI_0, bI_1, true_implies, false_implies, not_true_eq_false, not_false_eq_true, true_and, and_true]
  refine ⟨fun q => ?_, fun q => ⟨by omega, ?_, ?_⟩⟩
  · have : k = 64 := by omega
    subst this; exact hq
  · rw [hx k (by omega)]
    try simp (disch := omega) only [nI_lit, nN_eq, nI_add, pk_mul, pk_sub, nI_clamp, nI_leI, nI_ltI, nI_eq, nN_ne, nN_ne', nN_lt, nN_le, nN_nlt, nN_nle, nN_add, nN_in, nI_inI, nI_lt0, nN_clamp, bI_0, bI_1, true_implies, false_implies, not_true_eq_false, not_false_eq_true, true_and, and_true]
    intro e
    exact ⟨⟨k + 1, rfl, by omega, by rw [cnt_f]; simp [e]⟩, by omega⟩
  · rw [hx k (by omega)]
    try simp (disch := omega) only [nI_lit, nN_eq, nI_add, pk_mul, pk_sub, nI_clamp, nI_leI, nI_ltI, nI_eq, nN_ne, nN_ne', nN_lt, nN_le, nN_nlt, nN_nle, nN_add, nN_in, nI_inI, nI_lt0, nN_clamp, bI_0, bI_1, true_implies, false_implies, not_true_eq_false, not_false_eq_true, true_and, and_true]
    intro e
    exact ⟨⟨k + 1, rfl, by omega, by rw [cnt_t]; simpa using e⟩, by omega⟩
theorem C_X0_trapCount {v : V_X0} {a : Lw} (h : CLawn v a) {Q : Int32 → Prop} (hq : Q (nI (cnt (fun t => !decide (lTp a t = nN)) 64))) : wp_X0_trapCount v Q := by
  have hx := h.2.2.2.1
  unfold wp_X0_trapCount wp_X0_trapCount_4
  refine ⟨fun n y => ∃ k, y = nI k ∧ k ≤ 64 ∧ n = nI (cnt (fun t => !decide (lTp a t = nN)) k), fun n y => 70 - y.toNatClampNeg, ⟨0, rfl, by omega, rfl⟩, ?_⟩
  rintro _ _ ⟨k, rfl, hk, rfl⟩
  have hc := cnt_le (fun t => !decide (lTp a t = nN)) k
  unfold wb_X0_trapCount_4
  simp (disch := omega) only [nI_lit, nN_eq, nI_add, pk_mul, pk_sub, nI_clamp, nI_leI, nI_ltI, nI_eq, nN_ne, nN_ne', nN_lt, nN_le, nN_nlt, nN_nle, nN_add, nN_in, nI_inI, nI_lt0, nN_clamp, bI_0, bI_1, true_implies, false_implies, not_true_eq_false, not_false_eq_true, true_and, and_true]
  refine ⟨fun q => ?_, fun q => ⟨by omega, ?_, ?_⟩⟩
  · have : k = 64 := by omega
    subst this; exact hq
  · rw [hx k (by omega)]
    try simp (disch := omega) only [nI_lit, nN_eq, nI_add, pk_mul, pk_sub, nI_clamp, nI_leI, nI_ltI, nI_eq, nN_ne, nN_ne', nN_lt, nN_le, nN_nlt, nN_nle, nN_add, nN_in, nI_inI, nI_lt0, nN_clamp, bI_0, bI_1, true_implies, false_implies, not_true_eq_false, not_false_eq_true, true_and, and_true]
    intro e
    exact ⟨⟨k + 1, rfl, by omega, by rw [cnt_f]; simp [e]⟩, by omega⟩
  · rw [hx k (by omega)]
    try simp (disch := omega) only [nI_lit, nN_eq, nI_add, pk_mul, pk_sub, nI_clamp, nI_leI, nI_ltI, nI_eq, nN_ne, nN_ne', nN_lt, nN_le, nN_nlt, nN_nle, nN_add, nN_in, nI_inI, nI_lt0, nN_clamp, bI_0, bI_1, true_implies, false_implies, not_true_eq_false, not_false_eq_true, true_and, and_true]
    intro e
    exact ⟨⟨k + 1, rfl, by omega, by rw [cnt_t]; simpa using e⟩, by omega⟩
theorem C_X0_lowestMound {v : V_X0} {a : Lw} (h : CLawn v a) {Q : Int32 → Prop} (hn : (∀ t, t < 64 → lMn a t = false) → Q nN) (hq : ∀ t, t < 64 → lMn a t = true → (∀ j, j < t → lMn a j = false) → Q (nI t)) : wp_X0_lowestMound v Q := by
  unfold wp_X0_lowestMound wp_X0_lowestMound_2
  refine ⟨fun y => ∃ k, y = nI k ∧ k ≤ 64 ∧ ∀ j, j < k → lMn a j = false, fun y => 70 - y.toNatClampNeg, ⟨0, rfl, by omega, fun j hj => by omega⟩, ?_⟩
  rintro _ ⟨k, rfl, hk, hz⟩
  unfold wb_X0_lowestMound_2
  simp (disch := omega) only [nI_lit, nN_eq, nI_add, pk_mul, pk_sub, nI_clamp, nI_leI, nI_ltI, nI_eq, nN_ne, nN_ne', nN_lt, nN_le, nN_nlt, nN_nle, nN_add, nN_in, nI_inI, nI_lt0, nN_clamp, bI_0, bI_1, true_implies, false_implies, not_true_eq_false, not_false_eq_true, true_and, and_true]
  refine ⟨fun q => hn (fun t ht => hz t (by omega)), fun q => ⟨by omega, ?_, ?_⟩⟩
  · rw [h.1 k (by omega)]
    simp (disch := omega) only [nI_lit, nN_eq, nI_add, pk_mul, pk_sub, nI_clamp, nI_leI, nI_ltI, nI_eq, nN_ne, nN_ne', nN_lt, nN_le, nN_nlt, nN_nle, nN_add, nN_in, nI_inI, nI_lt0, nN_clamp, bI_0, bI_1, true_implies, false_implies, not_true_eq_false, not_false_eq_true, true_and, and_true]
    intro e
    exact ⟨⟨k + 1, rfl, by omega, fun j hj => by
      by_cases e2 : j = k
      · rw [e2]; exact e
      · exact hz j (by omega)⟩, by omega⟩
  · rw [h.1 k (by omega)]
    simp (disch := omega) only [nI_lit, nN_eq, nI_add, pk_mul, pk_sub, nI_clamp, nI_leI, nI_ltI, nI_eq, nN_ne, nN_ne', nN_lt, nN_le, nN_nlt, nN_nle, nN_add, nN_in, nI_inI, nI_lt0, nN_clamp, bI_0, bI_1, true_implies, false_implies, not_true_eq_false, not_false_eq_true, true_and, and_true]
    intro e
    exact hq k (by omega) (by simpa using e) hz
theorem C_X0_molesAt {v : V_X0} {a : Lw} (h : CLawn v a) (hf : fitMs (lMo a)) {t : Nat} (ht : t < 64) {Q : Int32 → Prop} (hq : Q (nI (cnt (fun i => lastOf (mTr (mlA (lMo a) i)) == t) (lMo a).length))) : wp_X0_molesAt v (nI t) Q := by
  obtain ⟨h1, h2, h3, h4⟩ := h.2.2.2.2.2.1
  obtain ⟨f1, f2⟩ := hf
  unfold wp_X0_molesAt wp_X0_molesAt_4
  refine ⟨fun n y => ∃ k, y = nI k ∧ k ≤ (lMo a).length ∧ n = nI (cnt (fun i => lastOf (mTr (mlA (lMo a) i)) == t) k), fun n y => 70 - y.toNatClampNeg, ⟨0, rfl, by omega, rfl⟩, ?_⟩
  rintro _ _ ⟨k, rfl, hk, rfl⟩
  unfold wb_X0_molesAt_4
  simp (disch := omega) only [h1, nI_lit, nN_eq, nI_add, pk_mul, pk_sub, nI_clamp, nI_leI, nI_ltI, nI_eq, nN_ne, nN_ne', nN_lt, nN_le, nN_nlt, nN_nle, nN_add, nN_in, nI_inI, nI_lt0, nN_clamp, bI_0, bI_1, true_implies, false_implies, not_true_eq_false, not_false_eq_true, true_and, and_true]
  refine ⟨fun q => ?_, fun q => ⟨by omega, h2 k (by omega), ?_⟩⟩
  · have : k = (lMo a).length := by omega
    rw [this]; exact hq
  · obtain ⟨o1, o2, o3, o4⟩ := f2 _ (mlA_mem (M := lMo a) (i := k) (by omega))
    refine C_X1_place (h4 k (by omega)) o1 ?_
    have b := o2 _ (lastOf_mem (L := mTr (mlA (lMo a) k)) (by intro e; have := o1.2.1; rw [e] at this; simp at this))
    simp (disch := omega) only [nI_lit, nN_eq, nI_add, pk_mul, pk_sub, nI_clamp, nI_leI, nI_ltI, nI_eq, nN_ne, nN_ne', nN_lt, nN_le, nN_nlt, nN_nle, nN_add, nN_in, nI_inI, nI_lt0, nN_clamp, bI_0, bI_1, true_implies, false_implies, not_true_eq_false, not_false_eq_true, true_and, and_true]
    refine ⟨fun e => ⟨⟨k + 1, rfl, by omega, by rw [cnt_t]; simpa using e⟩, by omega⟩, fun e => ⟨⟨k + 1, rfl, by omega, by rw [cnt_f]; simpa using e⟩, by omega⟩⟩
theorem C_X0_trailBeginsAt {v : V_X0} {a : Lw} (h : CLawn v a) (hf : fitMs (lMo a)) {t : Nat} (ht : t < 64) {Q : Int32 → Prop} (hq : Q (bI ((lMo a).any (fun m => at0 (mTr m) 0 == t)))) : wp_X0_trailBeginsAt v (nI t) Q := by
  obtain ⟨h1, h2, h3, h4⟩ := h.2.2.2.2.2.1
  obtain ⟨f1, f2⟩ := hf
  unfold wp_X0_trailBeginsAt wp_X0_trailBeginsAt_2
  refine ⟨fun y => ∃ k, y = nI k ∧ k ≤ (lMo a).length ∧ ∀ i, i < k → at0 (mTr (mlA (lMo a) i)) 0 ≠ t, fun y => 70 - y.toNatClampNeg, ⟨0, rfl, by omega, fun i hi => by omega⟩, ?_⟩
  rintro _ ⟨k, rfl, hk, hz⟩
  unfold wb_X0_trailBeginsAt_2
  simp (disch := omega) only [h1, nI_lit, nN_eq, nI_add, pk_mul, pk_sub, nI_clamp, nI_leI, nI_ltI, nI_eq, nN_ne, nN_ne', nN_lt, nN_le, nN_nlt, nN_nle, nN_add, nN_in, nI_inI, nI_lt0, nN_clamp, bI_0, bI_1, true_implies, false_implies, not_true_eq_false, not_false_eq_true, true_and, and_true]
  refine ⟨fun q => ?_, fun q => ⟨by omega, h2 k (by omega), by omega, ?_, ?_⟩⟩
  · have : (lMo a).any (fun m => at0 (mTr m) 0 == t) = false := by
      rw [List.any_eq_false]
      intro m hm
      obtain ⟨i, hi, e⟩ := List.mem_iff_getElem.mp hm
      have := hz i (by omega)
      simp only [mlA, List.getElem?_eq_getElem hi, Option.getD_some, e] at this
      simpa using this
    rw [this] at hq; exact hq
  · obtain ⟨o1, o2, o3, o4⟩ := f2 _ (mlA_mem (M := lMo a) (i := k) (by omega))
    have hl := o1.2.1
    rw [seg0 (h4 k (by omega)).2.1 (by omega)]
    have b := o2 _ (at0_mem (L := mTr (mlA (lMo a) k)) (k := 0) (by omega))
    simp (disch := omega) only [nI_lit, nN_eq, nI_add, pk_mul, pk_sub, nI_clamp, nI_leI, nI_ltI, nI_eq, nN_ne, nN_ne', nN_lt, nN_le, nN_nlt, nN_nle, nN_add, nN_in, nI_inI, nI_lt0, nN_clamp, bI_0, bI_1, true_implies, false_implies, not_true_eq_false, not_false_eq_true, true_and, and_true]
    intro e
    have : (lMo a).any (fun m => at0 (mTr m) 0 == t) = true := by
      rw [List.any_eq_true]
      exact ⟨_, mlA_mem (M := lMo a) (i := k) (by omega), by simpa using e⟩
    rw [this] at hq; exact hq
  · obtain ⟨o1, o2, o3, o4⟩ := f2 _ (mlA_mem (M := lMo a) (i := k) (by omega))
    have hl := o1.2.1
    rw [seg0 (h4 k (by omega)).2.1 (by omega)]
    have b := o2 _ (at0_mem (L := mTr (mlA (lMo a) k)) (k := 0) (by omega))
    simp (disch := omega) only [nI_lit, nN_eq, nI_add, pk_mul, pk_sub, nI_clamp, nI_leI, nI_ltI, nI_eq, nN_ne, nN_ne', nN_lt, nN_le, nN_nlt, nN_nle, nN_add, nN_in, nI_inI, nI_lt0, nN_clamp, bI_0, bI_1, true_implies, false_implies, not_true_eq_false, not_false_eq_true, true_and, and_true]
    intro e
    exact ⟨⟨k + 1, rfl, by omega, fun j hj => by
      by_cases e2 : j = k
      · rw [e2]; exact e
      · exact hz j (by omega)⟩, by omega⟩
theorem C_X0_hasRoomInPlan {v : V_X0} {a : Lw} (h : CLawn v a) (hf : fitMs (lMo a)) {i : Nat} (hi : i < 4) {Q : Int32 → Prop} (hq : Q (bI (decide (i < (lMo a).length) && decide ((mPl (mlA (lMo a) i)).length < 20)))) : wp_X0_hasRoomInPlan v (nI i) Q := by
  obtain ⟨h1, h2, h3, h4⟩ := h.2.2.2.2.2.1
  obtain ⟨f1, f2⟩ := hf
  unfold wp_X0_hasRoomInPlan
  simp (disch := omega) only [h1, nI_lit, nN_eq, nI_add, pk_mul, pk_sub, nI_clamp, nI_leI, nI_ltI, nI_eq, nN_ne, nN_ne', nN_lt, nN_le, nN_nlt, nN_nle, nN_add, nN_in, nI_inI, nI_lt0, nN_clamp, bI_0, bI_1, true_implies, false_implies, not_true_eq_false, not_false_eq_true, true_and, and_true]
  refine ⟨fun q => by omega, fun _ => ⟨fun q => ?_, fun q => ⟨hi, h2 i hi, ?_, ?_⟩⟩⟩
  · have : (decide (i < (lMo a).length) && decide ((mPl (mlA (lMo a) i)).length < 20)) = false := by simp; omega
    rw [this] at hq; exact hq
  · have f3 := (f2 _ (mlA_mem (M := lMo a) (i := i) (by omega))).1.1
    rw [(h4 i (by omega)).2.2.1]
    simp (disch := omega) only [nI_lit, nN_eq, nI_add, pk_mul, pk_sub, nI_clamp, nI_leI, nI_ltI, nI_eq, nN_ne, nN_ne', nN_lt, nN_le, nN_nlt, nN_nle, nN_add, nN_in, nI_inI, nI_lt0, nN_clamp, bI_0, bI_1, true_implies, false_implies, not_true_eq_false, not_false_eq_true, true_and, and_true]
    intro e
    have : (decide (i < (lMo a).length) && decide ((mPl (mlA (lMo a) i)).length < 20)) = false := by simp; omega
    rw [this] at hq; exact hq
  · have f3 := (f2 _ (mlA_mem (M := lMo a) (i := i) (by omega))).1.1
    rw [(h4 i (by omega)).2.2.1]
    simp (disch := omega) only [nI_lit, nN_eq, nI_add, pk_mul, pk_sub, nI_clamp, nI_leI, nI_ltI, nI_eq, nN_ne, nN_ne', nN_lt, nN_le, nN_nlt, nN_nle, nN_add, nN_in, nI_inI, nI_lt0, nN_clamp, bI_0, bI_1, true_implies, false_implies, not_true_eq_false, not_false_eq_true, true_and, and_true]
    intro e
    have : (decide (i < (lMo a).length) && decide ((mPl (mlA (lMo a) i)).length < 20)) = true := by simp; omega
    rw [this] at hq; exact hq
theorem C_X0_hasPlans {v : V_X0} {a : Lw} (h : CLawn v a) (hf : fitMs (lMo a)) {Q : Int32 → Prop} (hq : Q (bI ((lMo a).any (fun m => !(mPl m).isEmpty)))) : wp_X0_hasPlans v Q := by
  obtain ⟨h1, h2, h3, h4⟩ := h.2.2.2.2.2.1
  obtain ⟨f1, f2⟩ := hf
  unfold wp_X0_hasPlans wp_X0_hasPlans_2
  refine ⟨fun y => ∃ k, y = nI k ∧ k ≤ (lMo a).length ∧ ∀ i, i < k → mPl (mlA (lMo a) i) = [], fun y => 70 - y.toNatClampNeg, ⟨0, rfl, by omega, fun i hi => by omega⟩, ?_⟩
  rintro _ ⟨k, rfl, hk, hz⟩
  unfold wb_X0_hasPlans_2
  simp (disch := omega) only [h1, nI_lit, nN_eq, nI_add, pk_mul, pk_sub, nI_clamp, nI_leI, nI_ltI, nI_eq, nN_ne, nN_ne', nN_lt, nN_le, nN_nlt, nN_nle, nN_add, nN_in, nI_inI, nI_lt0, nN_clamp, bI_0, bI_1, true_implies, false_implies, not_true_eq_false, not_false_eq_true, true_and, and_true]
  refine ⟨fun q => ?_, fun q => ⟨by omega, h2 k (by omega), ?_, ?_⟩⟩
  · have : (lMo a).any (fun m => !(mPl m).isEmpty) = false := by
      rw [List.any_eq_false]
      intro m hm
      obtain ⟨i, hi, e⟩ := List.mem_iff_getElem.mp hm
      have := hz i (by omega)
      simp only [mlA, List.getElem?_eq_getElem hi, Option.getD_some, e] at this
      simp [this]
    rw [this] at hq; exact hq
  · have f3 := (f2 _ (mlA_mem (M := lMo a) (i := k) (by omega))).1.1
    rw [(h4 k (by omega)).2.2.1]
    simp (disch := omega) only [nI_lit, nN_eq, nI_add, pk_mul, pk_sub, nI_clamp, nI_leI, nI_ltI, nI_eq, nN_ne, nN_ne', nN_lt, nN_le, nN_nlt, nN_nle, nN_add, nN_in, nI_inI, nI_lt0, nN_clamp, bI_0, bI_1, true_implies, false_implies, not_true_eq_false, not_false_eq_true, true_and, and_true]
    intro e
    exact ⟨⟨k + 1, rfl, by omega, fun j hj => by
      by_cases e2 : j = k
      · rw [e2]; exact List.eq_nil_of_length_eq_zero (by omega)
      · exact hz j (by omega)⟩, by omega⟩
  · have f3 := (f2 _ (mlA_mem (M := lMo a) (i := k) (by omega))).1.1
    rw [(h4 k (by omega)).2.2.1]
    simp (disch := omega) only [nI_lit, nN_eq, nI_add, pk_mul, pk_sub, nI_clamp, nI_leI, nI_ltI, nI_eq, nN_ne, nN_ne', nN_lt, nN_le, nN_nlt, nN_nle, nN_add, nN_in, nI_inI, nI_lt0, nN_clamp, bI_0, bI_1, true_implies, false_implies, not_true_eq_false, not_false_eq_true, true_and, and_true]
    intro e
    have : (lMo a).any (fun m => !(mPl m).isEmpty) = true := by
      rw [List.any_eq_true]
      refine ⟨_, mlA_mem (M := lMo a) (i := k) (by omega), ?_⟩
      cases z : mPl (mlA (lMo a) k) with
      | nil => rw [z] at e; simp at e
      | cons x r => rfl
    rw [this] at hq; exact hq
