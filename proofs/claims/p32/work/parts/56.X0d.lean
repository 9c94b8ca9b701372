/-! Digging. -/
def withMo (a : Lw) (M : List Ml) : Lw := (lMn a, lOp a, lRt a, lTp a, lTu a, M, lAi a, lBt a, lCa a, lGn a, lRi a, lFa a)
def resetM (t : Nat) (m : Ml) : Ml := if t ∈ mTr m then (mPl m, [lastOf (mTr m)], mAi m, mSt m) else m
def fillM (x : Nat) (m : Ml) : Ml := (mPl m, mTr m, x, mSt m)
def fillAir (a : Lw) (i : Nat) : Lw := withMo a ((lMo a).set i (fillM (lAi a) (mlA (lMo a) i)))
def placeOf (a : Lw) (i : Nat) : Nat := lastOf (mTr (mlA (lMo a) i))
def redo (ls : Nat → Bool) : Nat → Lw → Lw
  | 0, a => a
  | k + 1, a => if ls k then fillAir (ensure (redo ls k a) (placeOf (redo ls k a) k)) k else redo ls k a
def lostBy (t : Nat) (a : Lw) (i : Nat) : Bool := decide (t ∈ mTr (mlA (lMo a) i))
def reset (a : Lw) (t : Nat) : Lw := withMo a ((lMo a).map (resetM t))
def dropTr (a : Lw) (t : Nat) : Lw := redo (lostBy t a) (lMo a).length (reset a t)
theorem redo_len (ls : Nat → Bool) (a : Lw) : ∀ k, (lMo (redo ls k a)).length = (lMo a).length
  | 0 => rfl
  | k + 1 => by
    unfold redo
    split
    · show ((lMo _).set k _).length = _
      rw [List.length_set, ensure_len, redo_len ls a k]
    · exact redo_len ls a k
theorem redo_air (ls : Nat → Bool) (a : Lw) : ∀ k, lAi (redo ls k a) = lAi a
  | 0 => rfl
  | k + 1 => by
    unfold redo
    split
    · show lAi (ensure _ _) = _
      rw [ensure_air, redo_air ls a k]
    · exact redo_air ls a k
theorem okM_ne {m : Ml} (h : okM m) : mTr m ≠ [] := fun e => by
  have := h.1.2.1
  rw [e] at this; simp at this
theorem place_lt {a : Lw} (hf : fitMs (lMo a)) {i : Nat} (hi : i < (lMo a).length) : placeOf a i < 64 := by
  have o := hf.2 _ (mlA_mem hi)
  exact o.2.1 _ (lastOf_mem (okM_ne o))
theorem C_X0_dropTrails {v : V_X0} {u : V_X3} {a : Lw} (h : CLawn v a) {t : Nat} (ht : t < 64) (hf0 : fitL a) (hf : ∀ k, k ≤ (lMo a).length → fitL (redo (lostBy t a) k (reset a t))) {Q : (Nat → Int32) → (Nat → Int32) → Int32 → Int32 → (Nat → V_X1) → (Nat → Int32) → Int32 → V_X3 → Prop} (hq : ∀ uc ue us uu mo mn ri tu, CLawn (mn, X0_opened v, X0_roots v, X0_traps v, tu, X0_molesR v, mo, X0_moleCount v, X0_fullAir v, X0_beats v, X0_caught v, X0_gnawed v, ri, X0_fallen v) (dropTr a t) → Q uc ue us uu mo mn ri tu) : wp_X0_dropTrails v u (nI t) Q := by
  have hh := h
  obtain ⟨h1, h2, h3, h4, h5, h6, h7, h8, h9, h10, h11, h12⟩ := h
  have hl := hf0.2.1.1
  unfold wp_X0_dropTrails wp_X0_dropTrails_2
  refine ⟨fun y mo => ∃ k, y = nI k ∧ k ≤ (lMo a).length ∧ CMs (X0_molesR v) mo (nI (lMo a).length) (mapTo k (resetM t) (lMo a)) ∧ ∀ i, i < k → X1_lost (mo (X0_molesR v i)) = bI (lostBy t a i), fun y mo => 70 - y.toNatClampNeg, ⟨0, rfl, by omega, by rw [mapTo_0, ← h6.1]; exact h6, fun i hi => by omega⟩, ?_⟩
  rintro _ mo ⟨k, rfl, hk, hc, hlost⟩
  unfold wb_X0_dropTrails_2
  rw [h6.1]
  simp (disch := omega) only [nI_lit, nN_eq, nI_add, pk_mul, pk_sub, nI_clamp, nI_leI, nI_ltI, nI_eq, nN_ne, nN_ne', nN_lt, nN_le, nN_nlt, nN_nle, nN_add, nN_in, nI_inI, nI_lt0, nN_clamp, bI_0, bI_1, true_implies, false_implies, not_true_eq_false, not_false_eq_true, true_and, and_true]
  refine ⟨fun q => ?_, fun q => ⟨by omega, h6.2.1 k (by omega), ?_⟩⟩
  · -- the second loop
    have ek : k = (lMo a).length := by omega
    subst ek
    rw [mapTo_all (Nat.le_refl _)] at hc
    unfold wp_X0_dropTrails_58
    refine ⟨fun y uc ue us uu mo mn ri tu => ∃ k, y = nI k ∧ k ≤ (lMo a).length ∧ CLawn (mn, X0_opened v, X0_roots v, X0_traps v, tu, X0_molesR v, mo, nI (lMo a).length, X0_fullAir v, X0_beats v, X0_caught v, X0_gnawed v, ri, X0_fallen v) (redo (lostBy t a) k (reset a t)) ∧ ∀ i, k ≤ i → i < (lMo a).length → X1_lost (mo (X0_molesR v i)) = bI (lostBy t a i), fun y _ _ _ _ _ _ _ _ => 70 - y.toNatClampNeg, ⟨0, rfl, by omega, ⟨h1, h2, h3, h4, h5, ?_, h7, h8, h9, h10, h11, h12⟩, fun i _ hi => hlost i hi⟩, ?_⟩
    · refine ⟨?_, hc.2.1, hc.2.2.1, hc.2.2.2⟩
      show nI (lMo a).length = nI ((lMo a).map (resetM t)).length
      rw [List.length_map]
    · rintro _ uc ue us uu mo mn ri tu ⟨k, rfl, hk, hL, hlo⟩
      unfold wb_X0_dropTrails_58
      have hlen : (lMo (redo (lostBy t a) k (reset a t))).length = (lMo a).length := by
        rw [redo_len]; exact List.length_map _
      rw [h6.1]
      simp (disch := omega) only [nI_lit, nN_eq, nI_add, pk_mul, pk_sub, nI_clamp, nI_leI, nI_ltI, nI_eq, nN_ne, nN_ne', nN_lt, nN_le, nN_nlt, nN_nle, nN_add, nN_in, nI_inI, nI_lt0, nN_clamp, bI_0, bI_1, true_implies, false_implies, not_true_eq_false, not_false_eq_true, true_and, and_true]
      refine ⟨fun q => ?_, fun q => ⟨by omega, h6.2.1 k (by omega), ?_⟩⟩
      · have ek : k = (lMo a).length := by omega
        subst ek
        exact hq _ _ _ _ _ _ _ _ (by rw [h6.1]; exact hL)
      · have hk2 : k < (lMo a).length := by omega
        have hfk := hf k hk
        have hfk1 := hf (k + 1) hk2
        have o := hfk.2.1.2 _ (mlA_mem (i := k) (by omega))
        rw [hlo k (Nat.le_refl _) hk2]
        simp only [bI_0]
        have hL' := hL
        obtain ⟨k1, k2, k3, k4, k5, k6, k7, k8, k9, k10, k11, k12⟩ := hL
        refine ⟨fun e => ⟨⟨k + 1, rfl, by omega, ?_, fun i hi hi2 => hlo i (by omega) hi2⟩, by omega⟩, fun e => ?_⟩
        · have er : redo (lostBy t a) (k + 1) (reset a t) = redo (lostBy t a) k (reset a t) := by
            rw [redo, if_neg (by rw [e]; decide)]
          rw [er]; exact hL'
        · have e : lostBy t a k = true := by simpa using e
          have er : redo (lostBy t a) (k + 1) (reset a t) = fillAir (ensure (redo (lostBy t a) k (reset a t)) (placeOf (redo (lostBy t a) k (reset a t)) k)) k := by
            rw [redo, if_pos e]
          have hs := k6.self (i := k) (by omega)
          have hs2 : CMole (X1_s6 (mo (X0_molesR v k)) (nI 0)) (mlA (lMo (redo (lostBy t a) k (reset a t))) k) := hs
          refine C_X1_place hs2 o.1 ?_
          have hpl := place_lt hfk.2.1 (i := k) (by omega)
          have hM4 : (lMo (redo (lostBy t a) k (reset a t))).length ≤ 4 := by omega
          have hset := k6.set hM4 (i := k) (by omega) hs2
          have hsame : (lMo (redo (lostBy t a) k (reset a t))).set k (mlA (lMo (redo (lostBy t a) k (reset a t))) k) = lMo (redo (lostBy t a) k (reset a t)) := by
            apply ml_list
            · simp
            · intro i hi
              rw [List.length_set] at hi
              rw [mlA_set hi]
              split
              · rename_i z; rw [z]
              · rfl
          rw [hsame] at hset
          rw [er] at hfk1
          refine C_X0_ensureMound (v := (mn, X0_opened v, X0_roots v, X0_traps v, tu, X0_molesR v, va_up mo (X0_molesR v k) (X1_s6 (mo (X0_molesR v k)) (nI 0)), nI (lMo a).length, X0_fullAir v, X0_beats v, X0_caught v, X0_gnawed v, ri, X0_fallen v)) (a := redo (lostBy t a) k (reset a t)) (t := placeOf (redo (lostBy t a) k (reset a t)) k) ⟨k1, k2, k3, k4, k5, hset, k7, k8, k9, k10, k11, k12⟩ hfk hpl ?_ ?_
          · intro z
            have : ensure (redo (lostBy t a) k (reset a t)) (placeOf (redo (lostBy t a) k (reset a t)) k) = comesUp (redo (lostBy t a) k (reset a t)) (placeOf (redo (lostBy t a) k (reset a t)) k) := by
              rw [ensure, if_neg (by rw [z]; decide)]
            rw [this] at hfk1
            exact hfk1.1.1
          · intro uc ue us uu mo2 mn ri tu hL2 hlo2
            refine ⟨⟨k + 1, rfl, by omega, ?_, fun i hi hi2 => ?_⟩, by omega⟩
            · rw [er]
              obtain ⟨q1, q2, q3, q4, q5, q6, q7, q8, q9, q10, q11, q12⟩ := hL2
              have hlen2 : (lMo (ensure (redo (lostBy t a) k (reset a t)) (placeOf (redo (lostBy t a) k (reset a t)) k))).length = (lMo a).length := by
                rw [ensure_len]; exact hlen
              have hs3 := q6.self (i := k) (by omega)
              obtain ⟨g1, g2, g3, g4, g5, g6⟩ := hs3
              exact ⟨q1, q2, q3, q4, q5, q6.set (by omega) (i := k) (by omega) ⟨g1, g2, g3, g4, q7, g6⟩, q7, q8, q9, q10, q11, q12⟩
            · have hne : X0_molesR v i ≠ X0_molesR v k := fun z => by
                have := h6.2.2.1 i k (by omega) (by omega) z; omega
              show X1_lost (va_up mo2 (X0_molesR v k) _ (X0_molesR v i)) = _
              rw [va_up_ne _ _ hne, hlo2]
              show X1_lost (va_up mo (X0_molesR v k) _ (X0_molesR v i)) = _
              rw [va_up_ne _ _ hne]
              exact hlo i (by omega) hi2
  · have hk2 : k < (lMo a).length := by omega
    have o := hf0.2.1.2 _ (mlA_mem hk2)
    have hM : (mapTo k (resetM t) (lMo a)).length ≤ 4 := by rw [mapTo_len]; omega
    have hk4 : k < (mapTo k (resetM t) (lMo a)).length := by rw [mapTo_len]; omega
    have hs := hc.self hk4
    rw [mapTo_at hk2] at hs
    have hlen := o.1.2.2
    have hrk := h6.2.1 k (by omega)
    have hother : ∀ w : V_X1, ∀ i, i < k → X1_lost (va_up mo (X0_molesR v k) w (X0_molesR v i)) = bI (lostBy t a i) := fun w i hi => by
      have hne : X0_molesR v i ≠ X0_molesR v k := fun z => by
        have := h6.2.2.1 i k (by omega) (by omega) z; omega
      rw [va_up_ne _ _ hne]; exact hlost i hi
    refine C_X1_firstIndex hs o.1 o.2.1 ht ?_
    rw [ixI_nN (by omega)]
    refine ⟨fun n => ?_, fun y => ?_⟩
    · unfold wp_X0_dropTrails_32
      simp only [va_up_self, nI_lit, nI_add]
      refine ⟨bz_0, hrk, hrk, fun _ => ⟨⟨k + 1, rfl, by omega, ?_, fun i hi => ?_⟩, by simp (disch := omega) only [nI_lit, nN_eq, nI_add, pk_mul, pk_sub, nI_clamp, nI_leI, nI_ltI, nI_eq, nN_ne, nN_ne', nN_lt, nN_le, nN_nlt, nN_nle, nN_add, nN_in, nI_inI, nI_lt0, nN_clamp, bI_0, bI_1, true_implies, false_implies, not_true_eq_false, not_false_eq_true, true_and, and_true]; omega⟩, fun q => absurd trivial q⟩
      · have e2 : resetM t (mlA (lMo a) k) = mlA (lMo a) k := if_neg n
        rw [← mapTo_set hk2, e2]
        exact hc.set hM hk4 hs
      · by_cases z : i = k
        · subst z; rw [va_up_self]
          have : lostBy t a i = false := by simp [lostBy, n]
          rw [this]; rfl
        · exact hother _ i (by omega)
    · have y : t ∈ mTr (mlA (lMo a) k) := Classical.byContradiction y
      unfold wp_X0_dropTrails_32
      simp only [va_up_self, nI_lit, nI_add]
      refine ⟨bz_1, hrk, hrk, fun q => absurd (show nI 1 = nI 0 from q) (by decide), fun _ => ?_⟩
      have hs2 : CMole (X1_s6 (mo (X0_molesR v k)) (nI 1)) (mlA (lMo a) k) := hs
      refine C_X1_place hs2 o.1 (C_X1_beginTrail (fun d hd => ⟨⟨k + 1, rfl, by omega, ?_, fun i hi => ?_⟩, by simp (disch := omega) only [nI_lit, nN_eq, nI_add, pk_mul, pk_sub, nI_clamp, nI_leI, nI_ltI, nI_eq, nN_ne, nN_ne', nN_lt, nN_le, nN_nlt, nN_nle, nN_add, nN_in, nI_inI, nI_lt0, nN_clamp, bI_0, bI_1, true_implies, false_implies, not_true_eq_false, not_false_eq_true, true_and, and_true]; omega⟩))
      · have e2 : resetM t (mlA (lMo a) k) = (mPl (mlA (lMo a) k), [lastOf (mTr (mlA (lMo a) k))], mAi (mlA (lMo a) k), mSt (mlA (lMo a) k)) := if_pos y
        rw [← mapTo_set hk2, e2, bx_uu]
        obtain ⟨g1, g2, g3, g4, g5, g6⟩ := hs
        exact hc.set hM hk4 ⟨g1, hd, g3, rfl, g5, g6⟩
      · rw [bx_uu]
        by_cases z : i = k
        · subst z; rw [va_up_self]
          have : lostBy t a i = true := by simp [lostBy, y]
          rw [this]; rfl
        · exact hother _ i (by omega)
