/-! The reference: a mole is caught, takes a direction off, goes, tries, acts. -/
theorem M_isCaught {v : V_X7} {a : Lw} (h : MLawn (X7_s v) a) (hM : fitMP (lMo a)) {i : Nat} (hi : i < (lMo a).length) {Q : (Nat → Int32) → Prop} (hq : ∀ s', MLawn s' (caughtA a i) → Q s') : wp_X7_isCaught v (nI i) Q := by
  obtain ⟨hb, hc, hm⟩ := h
  have hl := hM.1
  have hlen : ((lMo a).eraseIdx i).length = (lMo a).length - 1 := List.length_eraseIdx_of_lt hi
  unfold wp_X7_isCaught
  simp (disch := omega) only [of_eq, nI_lit, nI_add, pk_mul, nI_clamp, nI_inI]
  rw [hm.1, pk_sub (by omega), upd_n (k := 1) (j := 2) (by omega), hb.2.1]
  refine ⟨by omega, by omega, ?_⟩
  generalize hs0 : upd (upd (X7_s v) 1 (nI ((lMo a).length - 1))) 2 (lCa a + nI 1) = s0
  have e1 : s0 1 = nI ((lMo a).length - 1) := by rw [← hs0, upd_n (by omega), upd_s]
  have e2 : s0 2 = lCa a + nI 1 := by rw [← hs0, upd_s]
  have e3 : ∀ q, q ≠ 1 → q ≠ 2 → s0 q = X7_s v q := fun q q1 q2 => by rw [← hs0, upd_n q2, upd_n q1]
  unfold wp_X7_isCaught_26
  refine ⟨fun y z => ∃ k, y = nI k ∧ 264 + 46 * i ≤ k ∧ k ≤ 264 + 46 * ((lMo a).length - 1) ∧ (∀ q, 264 + 46 * i ≤ q → q < k → z q = s0 (q + 46)) ∧ ∀ q, (q < 264 + 46 * i ∨ k ≤ q) → z q = s0 q, fun y _ => 2000 - y.toNatClampNeg, ⟨264 + 46 * i + 0, rfl, by omega, by omega, fun q q1 q2 => by omega, fun q _ => rfl⟩, ?_⟩
  rintro _ z ⟨k, rfl, hk1, hk2, hz1, hz2⟩
  have z1 : z 1 = nI ((lMo a).length - 1) := by rw [hz2 1 (by omega), e1]
  unfold wb_X7_isCaught_26
  simp (disch := omega) only [of_eq, nI_lit, nI_add, pk_mul, nI_clamp, nI_inI, z1, nI_leI]
  refine ⟨by omega, fun q => ?_, fun q => ⟨by omega, by omega, ⟨k + 1, rfl, by omega, by omega, fun j j1 j2 => ?_, fun j j1 => by rw [upd_n (by omega)]; exact hz2 j (by omega)⟩, by omega⟩⟩
  · have ek : k = 264 + 46 * ((lMo a).length - 1) := by omega
    subst ek
    unfold wp_X7_isCaught_63
    refine ⟨fun y w => ∃ j, y = nI j ∧ j ≤ 46 ∧ (∀ r, r < j → w (264 + 46 * ((lMo a).length - 1) + r) = nI 0) ∧ ∀ q, (q < 264 + 46 * ((lMo a).length - 1) ∨ 264 + 46 * ((lMo a).length - 1) + 46 ≤ q) → w q = z q, fun y _ => 70 - y.toNatClampNeg, ⟨0, rfl, by omega, fun r hr => by omega, fun q _ => rfl⟩, ?_⟩
    rintro _ w ⟨j, rfl, hj, hw1, hw2⟩
    have w1 : w 1 = nI ((lMo a).length - 1) := by rw [hw2 1 (by omega), z1]
    unfold wb_X7_isCaught_63
    simp (disch := omega) only [of_eq, nI_lit, nI_add, pk_mul, nI_clamp, nI_inI, w1, nI_leI]
    refine ⟨fun q => ?_, fun q => ⟨by omega, by omega, ⟨j + 1, rfl, by omega, fun r hr => ?_, fun q hq => by rw [upd_n (by omega)]; exact hw2 q hq⟩, by omega⟩⟩
    · have hlow : ∀ q, q < 264 → q ≠ 1 → q ≠ 2 → w q = X7_s v q := fun q q1 q2 q3 => by rw [hw2 q (by omega), hz2 q (by omega), e3 q q2 q3]
      have hhigh : ∀ q, 448 ≤ q → w q = X7_s v q := fun q q1 => by rw [hw2 q (by omega), hz2 q (by omega), e3 q (by omega) (by omega)]
      refine hq w ⟨?_, hc.of (hlow 7 (by omega) (by omega) (by omega)) hhigh, ?_, fun j hj => ?_, fun j hj hj4 => ?_⟩
      · obtain ⟨h0, h2, h3, h4, h5, h6, h8, h9, h10, h11⟩ := hb
        refine ⟨?_, ?_, ?_, ?_, ?_, ?_, fun t ht => ?_, fun t ht => ?_, fun t ht => ?_, fun t ht => ?_⟩
        · rw [hlow 0 (by omega) (by omega) (by omega), h0]; rfl
        · rw [hw2 2 (by omega), hz2 2 (by omega), e2]; rfl
        · rw [hlow 3 (by omega) (by omega) (by omega), h3]; rfl
        · rw [hlow 4 (by omega) (by omega) (by omega), h4]; rfl
        · rw [hlow 5 (by omega) (by omega) (by omega), h5]; rfl
        · rw [hlow 6 (by omega) (by omega) (by omega), h6]; rfl
        · rw [hlow _ (by omega) (by omega) (by omega), h8 t ht]; rfl
        · rw [hlow _ (by omega) (by omega) (by omega), h9 t ht]; rfl
        · rw [hlow _ (by omega) (by omega) (by omega), h10 t ht]; rfl
        · rw [hlow _ (by omega) (by omega) (by omega), h11 t ht]; rfl
      · rw [w1]
        show _ = nI ((lMo a).eraseIdx i).length
        rw [hlen]
      · have hj : j < ((lMo a).eraseIdx i).length := hj
        rw [hlen] at hj
        show MMole w j (mlA ((lMo a).eraseIdx i) j) (plM ((lMo a).eraseIdx i) j)
        have ep : plM ((lMo a).eraseIdx i) j = lastOf (mTr (mlA ((lMo a).eraseIdx i) j)) := rfl
        rw [ep, ml_erase (by omega)]
        by_cases e : j < i
        · rw [if_pos e]
          exact (hm.2.1 j (by omega)).of (hM.2 _ (mlA_mem (by omega))) (fun q q1 q2 => by rw [hw2 q (by omega), hz2 q (by omega), e3 q (by omega) (by omega)])
        · rw [if_neg e]
          have hsh : ∀ r, r < 46 → w (264 + 46 * j + r) = X7_s v (264 + 46 * (j + 1) + r) := fun r hr => by
            rw [hw2 _ (by omega), hz1 _ (by omega) (by omega), e3 _ (by omega) (by omega)]
            congr 1; omega
          obtain ⟨g1, g2, g3, g4, g5, g6, g7⟩ := hm.2.1 (j + 1) (by omega)
          obtain ⟨o1, o2, -⟩ := hM.2 _ (mlA_mem (M := lMo a) (i := j + 1) (by omega))
          refine ⟨?_, ?_, ?_, seg_of g4 (fun k hk => ?_), ?_, seg_of g6 (fun k hk => ?_), ?_⟩
          · rw [hsh 0 (by omega), g1]; rfl
          · rw [hsh 1 (by omega), g2]
          · rw [hsh 2 (by omega), g3]
          · rw [Nat.add_assoc, hsh (3 + k) (by omega), ← Nat.add_assoc]
          · rw [hsh 23 (by omega), g5]
          · rw [Nat.add_assoc, hsh (24 + k) (by omega), ← Nat.add_assoc]
          · rw [hsh 45 (by omega), g7]
      · have hj : ((lMo a).eraseIdx i).length ≤ j := hj
        rw [hlen] at hj
        by_cases e : j = (lMo a).length - 1
        · subst e
          exact ⟨hw1 2 (by omega), hw1 45 (by omega)⟩
        · have := hm.2.2 j (by omega) hj4
          rw [hw2 _ (by omega), hz2 _ (by omega), e3 _ (by omega) (by omega), hw2 _ (by omega), hz2 _ (by omega), e3 _ (by omega) (by omega)]
          exact this
    · by_cases e : r = j
      · subst e; rw [upd_s]
      · rw [upd_n (by omega)]; exact hw1 r (by omega)
  · by_cases e : j = k
    · subst e; rw [upd_s]; exact hz2 _ (by omega)
    · rw [upd_n e]; exact hz1 j j1 (by omega)
def dropD (m : Ml) : Ml := ((mPl m).tail, mTr m, mAi m, mSt m)
theorem M_takesOff {v : V_X7} {i : Nat} {m : Ml} {p : Nat} (h : MMole (X7_s v) i m p) (ok : okP m) (hi : i < 4) (hne : 0 < (mPl m).length) {Q : (Nat → Int32) → Prop} (hq : ∀ s', MMole s' i (dropD m) p → (∀ q, q < 264 + 46 * i + 2 ∨ 264 + 46 * i + 23 ≤ q → s' q = X7_s v q) → Q s') : wp_X7_takesOff v (nI i) Q := by
  have o1 := ok.1
  obtain ⟨g1, g2, g3, g4, g5, g6, g7⟩ := h
  have gp : ∀ k, k < (mPl m).length → X7_s v (264 + 46 * i + (3 + k)) = nI (at0 (mPl m) k) := fun k hk => by
    rw [← Nat.add_assoc]; exact g4 k hk
  unfold wp_X7_takesOff
  simp (disch := omega) only [of_eq, nI_lit, nI_add, pk_mul, nI_clamp, nI_inI]
  rw [g3, pk_sub (by omega)]
  refine ⟨by omega, ?_⟩
  unfold wp_X7_takesOff_16
  refine ⟨fun y z => ∃ j, y = nI j ∧ j + 1 ≤ (mPl m).length ∧ z (264 + 46 * i + 2) = nI ((mPl m).length - 1) ∧ (∀ k, k < j → z (264 + 46 * i + (3 + k)) = nI (at0 (mPl m) (k + 1))) ∧ (∀ k, j ≤ k → k < (mPl m).length → z (264 + 46 * i + (3 + k)) = nI (at0 (mPl m) k)) ∧ ∀ q, q < 264 + 46 * i + 2 ∨ 264 + 46 * i + 23 ≤ q → z q = X7_s v q, fun y _ => 70 - y.toNatClampNeg, ⟨0, rfl, by omega, upd_s _ _ _, fun k hk => by omega, fun k _ hk => by rw [upd_n (by omega)]; exact gp k hk, fun q hq => by rw [upd_n (by omega)]⟩, ?_⟩
  rintro _ z ⟨j, rfl, hj, z2, hz1, hz2, hz3⟩
  unfold wb_X7_takesOff_16
  simp (disch := omega) only [of_eq, nI_lit, nI_add, pk_mul, nI_clamp, nI_inI]
  rw [z2]
  simp (disch := omega) only [nI_add, nI_clamp, nI_inI, nI_leI]
  refine ⟨by omega, fun q => ⟨by omega, by omega, ?_⟩, fun q => ⟨by omega, by omega, ⟨j + 1, rfl, by omega, by rw [upd_n (by omega)]; exact z2, fun k hk => ?_, fun k k1 k2 => by rw [upd_n (by omega)]; exact hz2 k (by omega) k2, fun q hq => by rw [upd_n (by omega)]; exact hz3 q hq⟩, by omega⟩⟩
  · have ej : j = (mPl m).length - 1 := by omega
    refine hq _ ⟨?_, ?_, ?_, fun k hk => ?_, ?_, seg_of g6 (fun k hk => ?_), ?_⟩ (fun q hq => by rw [upd_n (by omega)]; exact hz3 q hq)
    · rw [upd_n (by omega), hz3 _ (by omega), g1]
    · rw [upd_n (by omega), hz3 _ (by omega), g2]; rfl
    · rw [upd_n (by omega), z2]
      show _ = nI (mPl m).tail.length
      rw [List.length_tail]
    · have hk : k < (mPl m).tail.length := hk
      rw [List.length_tail] at hk
      rw [upd_n (by omega), Nat.add_assoc, hz1 k (by omega)]
      show _ = nI (at0 (mPl m).tail k)
      rw [at0_tail]
    · rw [upd_n (by omega), hz3 _ (by omega), g5]; rfl
    · have hk : k < (mTr m).length := hk
      rw [upd_n (by omega), hz3 _ (by omega)]
    · rw [upd_n (by omega), hz3 _ (by omega), g7]; rfl
  · by_cases e : k = j
    · subst e
      rw [upd_s, show 264 + 46 * i + (3 + k + 1) = 264 + 46 * i + (3 + (k + 1)) by omega]
      exact hz2 _ (by omega) (by omega)
    · rw [upd_n (by omega)]; exact hz1 k (by omega)
