/-! The reference's cells moved. -/
theorem sh_add {x a b : Nat} (h : b ≤ x + a) : nI x + (nI a - nI b) = nI (x + a - b) := by
  have : nI x + (nI a - nI b) = (nI x + nI a) - nI b := by grind
  rw [this, nI_add, pk_sub h]
theorem sh_sub {x a b : Nat} (h : a ≤ x + b) : nI x - (nI a - nI b) = nI (x + b - a) := by
  have : nI x - (nI a - nI b) = (nI x + nI b) - nI a := by grind
  rw [this, nI_add, pk_sub h]
theorem sh_le0 {a b : Nat} (ha : a < 2 ^ 30) (hb : b < 2 ^ 30) : nI a - nI b ≤ nI 0 ↔ a ≤ b := by
  rw [Int32.le_iff_toInt_le, pk_sub_toInt ha hb, nI_toInt (by omega)]; omega
theorem sh_ge0 {a b : Nat} (ha : a < 2 ^ 30) (hb : b < 2 ^ 30) : nI 0 ≤ nI a - nI b ↔ b ≤ a := by
  rw [Int32.le_iff_toInt_le, pk_sub_toInt ha hb, nI_toInt (by omega)]; omega
theorem sh_3 (a b c : Nat) : nI a - nI b - nI c = nI a - nI (b + c) := by
  rw [← nI_add]; grind
/-- nothing outside the cells has changed -/
def fr (s s' : Nat → Int32) : Prop := ∀ q, q < 448 → q ≠ 7 → s' q = s q
theorem fr_rf (s : Nat → Int32) : fr s s := fun _ _ _ => rfl
theorem fr_tr {s s' s'' : Nat → Int32} (h : fr s s') (h2 : fr s' s'') : fr s s'' := fun q a b => by rw [h2 q a b, h q a b]
theorem fr_upd {s s' : Nat → Int32} (h : fr s s') {i : Nat} (hi : 448 ≤ i ∨ i = 7) (x : Int32) : fr s (upd s' i x) := fun q a b => by rw [upd_n (by omega), h q a b]
theorem M_shiftsDown {v : V_X7} {L : List Nat} (h : MCells (X7_s v) L) (hl : L.length ≤ 1024) {c a b : Nat} (hab : a ≤ b) (hb : b < 2 ^ 20) (hd : b - a ≤ c) (hc : c ≤ L.length) {Q : (Nat → Int32) → Prop} (hq : ∀ s', MCells s' (L.take (c - (b - a)) ++ L.drop c) → fr (X7_s v) s' → Q s') : wp_X7_shifts v (nI c) (nI a - nI b) Q := by
  obtain ⟨h7, hs⟩ := h
  have last : ∀ z, z 7 = nI L.length → (∀ k, c ≤ k → k < L.length → z (448 + k - (b - a)) = X7_s v (448 + k)) → (∀ k, k < c - (b - a) → z (448 + k) = X7_s v (448 + k)) → fr (X7_s v) z → wp_X7_shifts_92 v (nI c) (nI a - nI b) z Q := by
    intro z z7 hz1 hz2 hz3
    unfold wp_X7_shifts_92
    simp (disch := omega) only [nI_lit, nI_clamp, nI_inI]
    rw [upd_s, z7, sh_add (by omega)]
    refine ⟨by omega, ?_⟩
    unfold wp_X7_shifts_111
    refine ⟨fun y z' => ∃ j, y = nI j ∧ L.length + a - b ≤ j ∧ j ≤ L.length ∧ z' 7 = nI (L.length + a - b) ∧ ∀ q, q < 448 + (L.length + a - b) → q ≠ 7 → z' q = z q, fun y _ => 2000 - y.toNatClampNeg, ⟨_, rfl, by omega, by omega, upd_s _ _ _, fun q h1 h2 => upd_n h2⟩, ?_⟩
    rintro _ z' ⟨j, rfl, hj1, hj2, w7, hw⟩
    unfold wb_X7_shifts_111
    simp (disch := omega) only [nI_lit, nI_clamp, nI_inI, nI_add, w7]
    rw [sh_sub (by omega), show L.length + a - b + b - a = L.length by omega]
    simp (disch := omega) only [nI_lit, nN_eq, nI_add, pk_mul, pk_sub, nI_clamp, nI_leI, nI_ltI, nI_eq, nN_ne, nN_ne', nN_lt, nN_le, nN_nlt, nN_nle, nN_add, nN_in, nI_inI, nI_lt0, nN_clamp, bI_0, bI_1, true_implies, false_implies, not_true_eq_false, not_false_eq_true, true_and, and_true]
    refine ⟨by omega, fun q => ?_, fun q => ⟨by omega, ⟨j + 1, rfl, by omega, by omega, by rw [upd_n (by omega)]; exact w7, fun q h1 h2 => by rw [upd_n (by omega)]; exact hw q h1 h2⟩, by omega⟩⟩
    refine hq z' ⟨?_, fun k hk => ?_⟩ (fun q h1 h2 => by rw [hw q (by omega) h2, hz3 q h1 h2])
    · rw [w7, List.length_append, List.length_take, List.length_drop]; congr 1; omega
    · rw [List.length_append, List.length_take, List.length_drop] at hk
      rw [hw (448 + k) (by omega) (by omega)]
      by_cases e : k < c - (b - a)
      · rw [at0_l (by rw [List.length_take]; omega), at0_take e, hz2 k e, hs k (by omega)]
      · rw [at0_r (by rw [List.length_take]; omega), at0_drop, List.length_take, show min (c - (b - a)) L.length = c - (b - a) by omega]
        have := hz1 (c + (k - (c - (b - a)))) (by omega) (by omega)
        rw [show 448 + (c + (k - (c - (b - a)))) - (b - a) = 448 + k by omega] at this
        rw [this, hs _ (by omega)]
  have mid : wp_X7_shifts_49 v (nI c) (nI a - nI b) (nI c) (X7_s v) Q := by
    unfold wp_X7_shifts_49
    refine ⟨fun y z => ∃ j, y = nI j ∧ c ≤ j ∧ j ≤ L.length ∧ z 7 = nI L.length ∧ (∀ k, c ≤ k → k < j → z (448 + k - (b - a)) = X7_s v (448 + k)) ∧ (∀ k, j ≤ k → k < L.length → z (448 + k) = X7_s v (448 + k)) ∧ (∀ k, k < c - (b - a) → z (448 + k) = X7_s v (448 + k)) ∧ fr (X7_s v) z, fun y _ => 2000 - y.toNatClampNeg, ⟨c, rfl, Nat.le_refl _, hc, h7, fun k h1 h2 => by omega, fun k _ _ => rfl, fun k _ => rfl, fr_rf _⟩, ?_⟩
    rintro _ z ⟨j, rfl, hj1, hj2, z7, hz1, hz2, hz3, hz4⟩
    unfold wb_X7_shifts_49
    simp (disch := omega) only [nI_lit, nI_clamp, nI_inI, nI_add, z7, nI_leI]
    rw [sh_ge0 (by omega) (by omega)]
    refine ⟨by omega, fun q => ?_, fun q => ⟨fun q2 => ?_, fun q2 => ?_⟩⟩
    · exact last z z7 (fun k k1 k2 => hz1 k k1 (by omega)) hz3 hz4
    · refine last z z7 (fun k k1 k2 => ?_) hz3 hz4
      by_cases e : k < j
      · exact hz1 k k1 e
      · rw [show 448 + k - (b - a) = 448 + k by omega]; exact hz2 k (by omega) k2
    · rw [sh_add (by omega)]
      simp (disch := omega) only [nI_clamp, nI_inI]
      refine ⟨by omega, by omega, ⟨j + 1, rfl, by omega, by omega, by rw [upd_n (by omega)]; exact z7, fun k k1 k2 => ?_, fun k k1 k2 => by rw [upd_n (by omega)]; exact hz2 k (by omega) k2, fun k k1 => by rw [upd_n (by omega)]; exact hz3 k k1, fr_upd hz4 (by omega) _⟩, by omega⟩
      by_cases e : k = j
      · subst e
        rw [show 448 + k + a - b = 448 + k - (b - a) by omega, upd_s]
        exact hz2 k (Nat.le_refl _) (by omega)
      · rw [upd_n (by omega)]; exact hz1 k k1 (by omega)
  unfold wp_X7_shifts wp_X7_shifts_10
  refine ⟨(nI_inI (a := 7) (by omega)).mpr (by omega), fun y z => z = X7_s v, fun _ _ => 0, rfl, ?_⟩
  rintro y _ rfl
  unfold wb_X7_shifts_10
  refine ⟨fun _ => mid, fun _ => ⟨fun _ => mid, fun q => absurd ((sh_le0 (by omega) (by omega)).mpr hab) q⟩⟩
theorem M_shiftsUp {v : V_X7} {n : Nat} (h7 : X7_s v 7 = nI n) {c d : Nat} (hl : n + d ≤ 1024) (hd : 0 < d) (hc : c ≤ n) {Q : (Nat → Int32) → Prop} (hq : ∀ s', s' 7 = nI (n + d) → (∀ q, q < 448 + c + d → q ≠ 7 → s' q = X7_s v q) → (∀ k, c ≤ k → k < n → s' (448 + k + d) = X7_s v (448 + k)) → Q s') : wp_X7_shifts v (nI c) (nI d) Q := by
  have last : ∀ z, z 7 = nI n → (∀ q, q < 448 + c + d → q ≠ 7 → z q = X7_s v q) → (∀ k, c ≤ k → k < n → z (448 + k + d) = X7_s v (448 + k)) → wp_X7_shifts_92 v (nI c) (nI d) z Q := by
    intro z z7 hz1 hz2
    unfold wp_X7_shifts_92
    simp (disch := omega) only [nI_lit, nI_clamp, nI_inI]
    rw [upd_s, z7, nI_add]
    refine ⟨by omega, ?_⟩
    unfold wp_X7_shifts_111
    refine ⟨fun y z' => y = nI (n + d) ∧ z' = upd z 7 (nI (n + d)), fun _ _ => 0, ⟨rfl, rfl⟩, ?_⟩
    rintro _ _ ⟨rfl, rfl⟩
    unfold wb_X7_shifts_111
    simp (disch := omega) only [nI_lit, nI_clamp, nI_inI]
    rw [upd_s, pk_sub (by omega), nI_leI (by omega) (by omega)]
    refine ⟨by omega, fun _ => hq _ (upd_s _ _ _) (fun q h1 h2 => by rw [upd_n h2]; exact hz1 q h1 h2) (fun k h1 h2 => by rw [upd_n (by omega)]; exact hz2 k h1 h2), fun q => by omega⟩
  have mid : ∀ z, z 7 = nI n → (∀ q, q < 448 + c + d → q ≠ 7 → z q = X7_s v q) → (∀ k, c ≤ k → k < n → z (448 + k + d) = X7_s v (448 + k)) → wp_X7_shifts_49 v (nI c) (nI d) (nI c) z Q := by
    intro z z7 hz1 hz2
    unfold wp_X7_shifts_49
    refine ⟨fun _ z' => z' = z, fun _ _ => 0, rfl, ?_⟩
    rintro y z2 e
    rw [e]
    unfold wb_X7_shifts_49
    exact ⟨(nI_inI (a := 7) (by omega)).mpr (by omega), fun _ => last z z7 hz1 hz2, fun _ => ⟨fun _ => last z z7 hz1 hz2, fun q => absurd (nI_pos' (by omega)) q⟩⟩
  unfold wp_X7_shifts wp_X7_shifts_10
  simp (disch := omega) only [nI_lit, nI_clamp, nI_inI, h7]
  rw [pI_of]
  refine ⟨by omega, fun y z => ∃ i, y = pI i ∧ c ≤ i ∧ i ≤ n ∧ z 7 = nI n ∧ (∀ q, q < 448 + i + d → q ≠ 7 → z q = X7_s v q) ∧ ∀ k, i ≤ k → k < n → z (448 + k + d) = X7_s v (448 + k), fun y _ => (y + nI 1).toNatClampNeg, ⟨n, rfl, hc, Nat.le_refl _, h7, fun q _ _ => rfl, fun k h1 h2 => by omega⟩, ?_⟩
  rintro _ z ⟨i, rfl, hi1, hi2, z7, hz1, hz2⟩
  unfold wb_X7_shifts_10
  rcases Nat.eq_zero_or_pos i with e0 | e0
  · subst e0
    have : c = 0 := by omega
    subst this
    rw [pI_0]
    exact ⟨fun _ => mid z z7 hz1 hz2, fun q => absurd ((nN_lt (by omega)).mpr trivial) q⟩
  · obtain ⟨k, rfl⟩ : ∃ k, i = k + 1 := ⟨i - 1, by omega⟩
    rw [pI_s]
    simp (disch := omega) only [nI_lit, nN_eq, nI_clamp, nI_inI, nI_add, nI_ltI, nI_leI]
    refine ⟨fun q => ?_, fun q => ⟨fun q2 => by omega, fun _ => ⟨by omega, by omega, ⟨k, by rw [pI_m1], by omega, by omega, by rw [upd_n (by omega)]; exact z7, fun q h1 h2 => by rw [upd_n (by omega)]; exact hz1 q (by omega) h2, fun j h1 h2 => ?_⟩, ?_⟩⟩⟩
    · have : c = k + 1 := by omega
      subst this
      exact mid z z7 hz1 hz2
    · by_cases e : j = k
      · subst e; rw [upd_s]; exact hz1 _ (by omega) (by omega)
      · rw [upd_n (by omega)]; exact hz2 j (by omega) h2
    · rw [pI_m1]
      show (pI k + nI 1).toNatClampNeg < _
      unfold pI
      split
      · rename_i z; subst z; decide
      · rw [nI_add, nI_clamp (by omega)]; omega
