/-! The reference: digging. -/
def noTr (m : Ml) : Ml := (mPl m, [], mAi m, mSt m)
theorem noTr_no {x : Nat} {m : Ml} (h : x ∈ mTr (noTr m)) : False := List.not_mem_nil (show x ∈ ([] : List Nat) from h)
def hide (ls : Nat → Bool) (k : Nat) (M : List Ml) : List Ml := (List.range M.length).map (fun i => if k ≤ i ∧ ls i = true then noTr (mlA M i) else mlA M i)
theorem hide_len (ls : Nat → Bool) (k : Nat) (M : List Ml) : (hide ls k M).length = M.length := by simp [hide]
theorem hide_at {ls : Nat → Bool} {k : Nat} {M : List Ml} {i : Nat} (h : i < M.length) : mlA (hide ls k M) i = if k ≤ i ∧ ls i = true then noTr (mlA M i) else mlA M i := by
  unfold hide
  simp [mlA, h]
theorem hide_all {ls : Nat → Bool} {k : Nat} {M : List Ml} (h : M.length ≤ k) : hide ls k M = M := by
  apply ml_list (hide_len ls k M)
  intro i hi
  rw [hide_len] at hi
  rw [hide_at hi, if_neg (by omega)]
theorem hide_map {ls : Nat → Bool} {k : Nat} {M : List Ml} (t : Nat) : (hide ls k M).map (cutM t) = hide ls k (M.map (cutM t)) := by
  apply ml_list
  · rw [List.length_map, hide_len, hide_len, List.length_map]
  · intro i hi
    rw [List.length_map, hide_len] at hi
    rw [ml_map (by rw [hide_len]; exact hi), hide_at hi, hide_at (by rw [List.length_map]; exact hi), ml_map hi]
    split
    · have e1 : cutM t (noTr (mlA M i)) = noTr (mlA M i) := if_neg (fun z => noTr_no z.1)
      rw [e1]
      unfold cutM
      split <;> rfl
    · rfl
theorem fm_range (M : List Ml) (f : Ml → Tu) : M.flatMap f = (List.range M.length).flatMap (fun i => f (mlA M i)) := by
  have : M = (List.range M.length).map (mlA M) := by
    apply ml_list
    · simp
    · intro i hi
      simp [mlA, hi]
  conv => lhs; rw [this]
  rw [List.flatMap_map]
theorem fm_congr {f g : Nat → Tu} : ∀ {n : Nat}, (∀ i, i < n → f i = g i) → (List.range n).flatMap f = (List.range n).flatMap g
  | 0, _ => rfl
  | n + 1, h => by
    rw [List.range_succ, List.flatMap_append, List.flatMap_append, fm_congr (fun i hi => h i (by omega))]
    simp [h n (by omega)]
theorem hide_cuts {ls : Nat → Bool} {k : Nat} {M : List Ml} (t : Nat) (h : ∀ i, k ≤ i → i < M.length → ls i = true → (mTr (mlA M i)).length = 1) : (hide ls k M).flatMap (cutsOf t) = M.flatMap (cutsOf t) := by
  rw [fm_range, fm_range M, hide_len]
  apply fm_congr
  intro i hi
  rw [hide_at hi]
  split
  · rename_i z
    have e1 : cutsOf t (noTr (mlA M i)) = [] := if_neg (fun z => noTr_no z.1)
    rw [e1]
    have := h i z.1 hi z.2
    exact (if_neg (fun q => by
      have := List.idxOf_lt_length_iff.mpr q.1
      omega)).symm
  · rfl
theorem hide_P {ls : Nat → Bool} {k : Nat} {M : List Ml} (h : fitMP M) : fitMP (hide ls k M) := by
  refine ⟨by rw [hide_len]; exact h.1, fun m hm => ?_⟩
  obtain ⟨i, hi, rfl⟩ := List.mem_map.mp hm
  have hi := List.mem_range.mp hi
  obtain ⟨o1, o2, o3, o4, o5⟩ := h.2 _ (mlA_mem hi)
  split
  · exact ⟨o1, by show ([] : List Nat).length ≤ 21; simp, fun x hx => (noTr_no hx).elim, o4, o5⟩
  · exact ⟨o1, o2, o3, o4, o5⟩
theorem hide_step {ls : Nat → Bool} {k : Nat} {M : List Ml} (h : ls k = false ∨ M.length ≤ k) : hide ls k M = hide ls (k + 1) M := by
  apply ml_list
  · rw [hide_len, hide_len]
  · intro i hi
    rw [hide_len] at hi
    rw [hide_at hi, hide_at hi]
    by_cases e : i = k
    · subst e
      rcases h with h | h
      · rw [if_neg (fun z => by rw [h] at z; exact absurd z.2 (by decide)), if_neg (by omega)]
      · omega
    · by_cases e2 : k ≤ i ∧ ls i = true
      · rw [if_pos e2, if_pos ⟨by omega, e2.2⟩]
      · rw [if_neg e2, if_neg (fun z => e2 ⟨by omega, z.2⟩)]
theorem hide_set {ls : Nat → Bool} {k : Nat} {M : List Ml} {m : Ml} (hk : k < M.length) : (hide ls k M).set k m = hide ls (k + 1) (M.set k m) := by
  apply ml_list
  · rw [List.length_set, hide_len, hide_len, List.length_set]
  · intro i hi
    rw [List.length_set, hide_len] at hi
    rw [mlA_set (by rw [hide_len]; exact hi), hide_at hi, hide_at (by rw [List.length_set]; exact hi), mlA_set hi]
    by_cases e : k = i
    · subst e
      rw [if_pos rfl, if_neg (by omega), if_pos rfl]
    · rw [if_neg e, if_neg e]
      by_cases e2 : k ≤ i ∧ ls i = true
      · rw [if_pos e2, if_pos ⟨by omega, e2.2⟩]
      · rw [if_neg e2, if_neg (fun z => e2 ⟨by omega, z.2⟩)]
/-- the second part of digging: trails anew -/
theorem M_dropTrails {v : V_X7} {x1 : Int32} {y2 : Int32} {s1 : Nat → Int32} {a : Lw} {t : Nat} (ht : t < 64) (h : MLawn s1 a) (hf0 : fitL a) (hf : ∀ k, k ≤ (lMo a).length → fitL (redo (lostBy t a) k (reset a t))) (hsp : ∀ k, k < (lMo a).length → lostBy t a k = true → lMn (redo (lostBy t a) k (reset a t)) (placeOf (redo (lostBy t a) k (reset a t)) k) = false → splitOk (placeOf (redo (lostBy t a) k (reset a t)) k) (lTu (redo (lostBy t a) k (reset a t)))) (hone : ∀ k i, k ≤ i → i < (lMo a).length → lostBy t a i = true → (mTr (mlA (lMo (redo (lostBy t a) k (reset a t))) i)).length = 1) (hpl : ∀ k i, i < (lMo a).length → placeOf (redo (lostBy t a) k (reset a t)) i = placeOf a i) {Q : Int32 → (Nat → Int32) → Prop} (hq : ∀ s', MLawn s' (dropTr a t) → Q (s' 2 - y2) s') (hx1 : x1 = nI t) : wp_X7_dug_96 v x1 y2 (nI 0) s1 Q := by
  subst hx1
  have hl := hf0.2.1.1
  unfold wp_X7_dug_96
  refine ⟨fun y z => ∃ k, y = nI k ∧ k ≤ (lMo a).length ∧ MLawnP z (withMo a (mapTo k (fun m => if t ∈ mTr m then noTr m else m) (lMo a))) (plM (lMo a)), fun y _ => 70 - y.toNatClampNeg, ⟨0, rfl, Nat.zero_le _, by rw [mapTo_0]; exact h⟩, ?_⟩
  rintro _ z ⟨k, rfl, hk, hz⟩
  have hfz : fitMP (mapTo k (fun m => if t ∈ mTr m then noTr m else m) (lMo a)) := ⟨by rw [mapTo_len]; exact hl, mapTo_mem (fun m mm => by
    have o := hf0.2.1.P.2 m mm
    refine ⟨o, ?_⟩
    split
    · exact ⟨o.1, by show ([] : List Nat).length ≤ 21; simp, fun x hx => (noTr_no hx).elim, o.2.2.2⟩
    · exact o)⟩
  have z1 : z 1 = nI (lMo a).length := by
    have := hz.2.2.1
    rw [this]
    show nI (mapTo k _ (lMo a)).length = _
    rw [mapTo_len]
  unfold wb_X7_dug_96
  simp (disch := omega) only [of_eq, nI_lit, nN_eq, nI_add, pk_mul, nI_clamp, nI_inI, z1, nI_leI]
  refine ⟨by omega, fun q => ?_, fun q => ?_⟩
  · have ek : k = (lMo a).length := by omega
    subst ek
    have hN : mapTo (lMo a).length (fun m => if t ∈ mTr m then noTr m else m) (lMo a) = hide (lostBy t a) 0 (lMo (reset a t)) := by
      rw [mapTo_all (Nat.le_refl _)]
      apply ml_list
      · rw [List.length_map, hide_len]; exact (List.length_map _).symm
      · intro i hi
        rw [List.length_map] at hi
        rw [ml_map hi, hide_at (by show i < ((lMo a).map (resetM t)).length; rw [List.length_map]; exact hi)]
        show _ = if 0 ≤ i ∧ lostBy t a i = true then noTr (mlA ((lMo a).map (resetM t)) i) else mlA ((lMo a).map (resetM t)) i
        rw [ml_map hi]
        by_cases e : t ∈ mTr (mlA (lMo a) i)
        · have e2 : lostBy t a i = true := by simp [lostBy, e]
          rw [if_pos e, if_pos ⟨Nat.zero_le _, e2⟩]
          unfold resetM
          rw [if_pos e]; rfl
        · have e2 : lostBy t a i = false := by simp [lostBy, e]
          rw [if_neg e, if_neg (fun z => by rw [e2] at z; exact absurd z.2 (by decide))]
          unfold resetM
          rw [if_neg e]
    rw [hN] at hz
    unfold wp_X7_dug_156
    refine ⟨fun y z => ∃ k, y = nI k ∧ k ≤ (lMo a).length ∧ MLawnP z (withMo (redo (lostBy t a) k (reset a t)) (hide (lostBy t a) k (lMo (redo (lostBy t a) k (reset a t))))) (plM (lMo a)), fun y _ => 70 - y.toNatClampNeg, ⟨0, rfl, Nat.zero_le _, hz⟩, ?_⟩
    rintro _ z ⟨k, rfl, hk, hz⟩
    have hlen : (lMo (redo (lostBy t a) k (reset a t))).length = (lMo a).length := by
      rw [redo_len]; exact List.length_map _
    have z1 : z 1 = nI (lMo a).length := by
      have := hz.2.2.1
      rw [this]
      show nI (hide (lostBy t a) k (lMo (redo (lostBy t a) k (reset a t)))).length = _
      rw [hide_len, hlen]
    unfold wb_X7_dug_156
    simp (disch := omega) only [of_eq, nI_lit, nN_eq, nI_add, pk_mul, nI_clamp, nI_inI, z1, nI_leI]
    refine ⟨by omega, fun q => ⟨by omega, ?_⟩, fun q => ⟨by omega, ?_⟩⟩
    · have ek : k = (lMo a).length := by omega
      subst ek
      rw [hide_all (by omega)] at hz
      exact hq z ⟨hz.1, hz.2.1, hz.2.2.pl (fun i hi => hpl _ i (by
        have hi : i < (lMo (redo (lostBy t a) (lMo a).length (reset a t))).length := hi
        omega))⟩
    · have hk2 : k < (lMo a).length := by omega
      have hfk := hf k hk
      have hfk1 := hf (k + 1) hk2
      have ok := hfk.2.1.2 _ (mlA_mem (i := k) (by omega))
      have hkh : k < (hide (lostBy t a) k (lMo (redo (lostBy t a) k (reset a t)))).length := by rw [hide_len]; omega
      have hmo := hz.2.2.2.1 k hkh
      have hmo : MMole z k (mlA (hide (lostBy t a) k (lMo (redo (lostBy t a) k (reset a t)))) k) (plM (lMo a) k) := hmo
      rw [hide_at (by omega)] at hmo
      have hPh := hide_P (ls := lostBy t a) (k := k) hfk.2.1.P
      cases e : lostBy t a k with
      | false =>
        rw [if_neg (fun z => by rw [e] at z; exact absurd z.2 (by decide))] at hmo
        have h23 := hmo.2.2.2.2.1
        rw [h23]
        have hl1 := ok.1.2.1
        have hl2 := ok.1.2.2
        simp (disch := omega) only [nI_eq]
        refine ⟨fun q => by omega, fun _ => ⟨⟨k + 1, rfl, hk2, ?_⟩, by omega⟩⟩
        have er : redo (lostBy t a) (k + 1) (reset a t) = redo (lostBy t a) k (reset a t) := by
          rw [redo, if_neg (by rw [e]; decide)]
        rw [er, ← hide_step (Or.inl e)]
        exact hz
      | true =>
        rw [if_pos ⟨Nat.le_refl _, e⟩] at hmo
        have h23 : z (264 + 46 * k + 23) = nI 0 := hmo.2.2.2.2.1
        have h00 : z (264 + 46 * k + 0) = nI (placeOf a k) := hmo.1
        have hpk := hpl k k hk2
        have hp64 : placeOf a k < 64 := by
          rw [← hpk]; exact place_lt hfk.2.1 (by omega)
        have er : redo (lostBy t a) (k + 1) (reset a t) = fillAir (ensure (redo (lostBy t a) k (reset a t)) (placeOf a k)) k := by
          rw [redo, if_pos e, hpk]
        have hspk := hsp k hk2 e
        rw [hpk] at hspk
        rw [h23, h00]
        refine ⟨fun _ => ?_, fun q => (q (by trivial)).elim⟩
        -- behind the mound: the trail begun anew
        have fin : ∀ z2, MLawnP z2 (withMo (ensure (redo (lostBy t a) k (reset a t)) (placeOf a k)) (hide (lostBy t a) k (lMo (ensure (redo (lostBy t a) k (reset a t)) (placeOf a k))))) (plM (lMo a)) → wp_X7_dug_215 v (nI t) y2 (nI k) z (fun t0 t1 => (∃ k, t0 = nI k ∧ k ≤ (lMo a).length ∧ MLawnP t1 (withMo (redo (lostBy t a) k (reset a t)) (hide (lostBy t a) k (lMo (redo (lostBy t a) k (reset a t))))) (plM (lMo a))) ∧ 70 - t0.toNatClampNeg < 70 - k) z2 Q := by
          intro z2 hz2
          have hlen2 : (lMo (ensure (redo (lostBy t a) k (reset a t)) (placeOf a k))).length = (lMo a).length := by rw [ensure_len]; exact hlen
          have hk3 : k < (lMo (ensure (redo (lostBy t a) k (reset a t)) (placeOf a k))).length := by omega
          have hP2 := hide_P (ls := lostBy t a) (k := k) (ensure_P hfk.2.1.P (placeOf a k))
          have hkh2 : k < (hide (lostBy t a) k (lMo (ensure (redo (lostBy t a) k (reset a t)) (placeOf a k)))).length := by rw [hide_len]; exact hk3
          have hmo2 : MMole z2 k (mlA (hide (lostBy t a) k (lMo (ensure (redo (lostBy t a) k (reset a t)) (placeOf a k)))) k) (plM (lMo a) k) := hz2.2.2.2.1 k hkh2
          rw [hide_at hk3, if_pos ⟨Nat.le_refl _, e⟩] at hmo2
          unfold wp_X7_dug_215
          refine M_beginsTrail2 (v := X7_s0 v z2) (by omega) (fun s3 v23 v24 v1 hs3 => ?_)
          refine ⟨⟨k + 1, by simp only [nI_lit, nI_add], hk2, ?_⟩, by simp (disch := omega) only [nI_lit, nI_add, nI_clamp]; omega⟩
          rw [er]
          have hM3 : hide (lostBy t a) (k + 1) (lMo (fillAir (ensure (redo (lostBy t a) k (reset a t)) (placeOf a k)) k)) = (hide (lostBy t a) k (lMo (ensure (redo (lostBy t a) k (reset a t)) (placeOf a k)))).set k (fillM (lAi (ensure (redo (lostBy t a) k (reset a t)) (placeOf a k))) (mlA (lMo (ensure (redo (lostBy t a) k (reset a t)) (placeOf a k))) k)) := (hide_set hk3).symm
          -- its trail is its place alone
          have htr : mTr (mlA (lMo (ensure (redo (lostBy t a) k (reset a t)) (placeOf a k))) k) = [placeOf a k] := by
            have h1 := hone k k (Nat.le_refl _) hk2 e
            have h2 : mTr (mlA (lMo (redo (lostBy t a) k (reset a t))) k) = [placeOf a k] := by
              have hp := hpk
              unfold placeOf lastOf at hp
              rw [h1] at hp
              obtain ⟨x, hx⟩ := List.length_eq_one_iff.mp h1
              rw [hx, at0_0] at hp
              rw [hx, hp]; rfl
            unfold ensure
            split
            · exact h2
            · show mTr (mlA ((lMo _).map (cutM (placeOf a k))) k) = _
              rw [ml_map (by omega)]
              have : cutM (placeOf a k) (mlA (lMo (redo (lostBy t a) k (reset a t))) k) = mlA (lMo (redo (lostBy t a) k (reset a t))) k := if_neg (fun q => by
                have := List.idxOf_lt_length_iff.mpr q.1
                omega)
              rw [this, h2]
          refine ⟨hz2.1.of (fun q q1 q2 q3 => hs3 q (by omega) (by omega) (by omega)), hz2.2.1.of (hs3 7 (by omega) (by omega) (by omega)) (fun q hq => hs3 q (by omega) (by omega) (by omega)), ?_⟩
          show MMsP s3 (hide (lostBy t a) (k + 1) (lMo (fillAir (ensure (redo (lostBy t a) k (reset a t)) (placeOf a k)) k))) (plM (lMo a))
          rw [hM3]
          refine MMsP.set (pl := plM (lMo a)) hz2.2.2 hP2 hkh2 ?_ (fun _ _ => rfl) (hs3 1 (by omega) (by omega) (by omega)) (fun q q1 q2 q3 => hs3 q (by omega) (by omega) (by omega))
          obtain ⟨g1, g2, g3, g4, g5, g6, g7⟩ := hmo2
          have g3 : z2 (264 + 46 * k + 2) = nI (mPl (mlA (lMo (ensure (redo (lostBy t a) k (reset a t)) (placeOf a k))) k)).length := g3
          have g7 : z2 (264 + 46 * k + 45) = mSt (mlA (lMo (ensure (redo (lostBy t a) k (reset a t)) (placeOf a k))) k) := g7
          have o1 := ((ensure_P hfk.2.1.P (placeOf a k)).2 _ (mlA_mem hk3)).1
          refine ⟨?_, ?_, ?_, seg_of g4 (fun j hj => ?_), ?_, ?_, ?_⟩
          · rw [hs3 _ (by omega) (by omega) (by omega)]; exact g1
          · rw [v1]; exact hz2.1.2.2.2.2.2.1
          · rw [hs3 _ (by omega) (by omega) (by omega)]; exact g3
          · have hj : j < (mPl (mlA (lMo (ensure (redo (lostBy t a) k (reset a t)) (placeOf a k))) k)).length := hj
            exact hs3 _ (by omega) (by omega) (by omega)
          · rw [v23]
            show nI 1 = nI (mTr (mlA (lMo (ensure (redo (lostBy t a) k (reset a t)) (placeOf a k))) k)).length
            rw [htr]; rfl
          · show seg s3 _ (mTr (mlA (lMo (ensure (redo (lostBy t a) k (reset a t)) (placeOf a k))) k))
            rw [htr]
            refine seg_cons2 ?_
            rw [v24]; exact g1
          · rw [hs3 _ (by omega) (by omega) (by omega)]; exact g7
        have hb : MB z (redo (lostBy t a) k (reset a t)) := hz.1
        refine ⟨by omega, M_hasMound (v := X7_s0 v z) hb hp64 ?_⟩
        cases em : lMn (redo (lostBy t a) k (reset a t)) (placeOf a k) with
        | true =>
          have e2 : ensure (redo (lostBy t a) k (reset a t)) (placeOf a k) = redo (lostBy t a) k (reset a t) := by rw [ensure, if_pos em]
          rw [e2] at fin
          exact ⟨fun q => absurd q (by decide), fun _ => fin _ hz⟩
        | false =>
          have e2 : ensure (redo (lostBy t a) k (reset a t)) (placeOf a k) = comesUp (redo (lostBy t a) k (reset a t)) (placeOf a k) := by rw [ensure, if_neg (by rw [em]; decide)]
          refine ⟨fun _ => ⟨by omega, ?_⟩, fun q => absurd rfl q⟩
          have hfit : fitT (lTu (comesUp (redo (lostBy t a) k (reset a t)) (placeOf a k))) := by
            have : fitT (lTu (redo (lostBy t a) (k + 1) (reset a t))) := hfk1.1.1
            rw [er, e2] at this
            exact this
          have hcut := hide_cuts (ls := lostBy t a) (k := k) (M := lMo (redo (lostBy t a) k (reset a t))) (placeOf a k) (fun i h1 h2 h3 => hone k i h1 (by omega) h3)
          have heq : comesUp (withMo (redo (lostBy t a) k (reset a t)) (hide (lostBy t a) k (lMo (redo (lostBy t a) k (reset a t))))) (placeOf a k) = withMo (comesUp (redo (lostBy t a) k (reset a t)) (placeOf a k)) (hide (lostBy t a) k (lMo (comesUp (redo (lostBy t a) k (reset a t)) (placeOf a k)))) := by
            unfold comesUp
            show (va_up _ _ true, _, _, _, splitT _ _ ++ (hide (lostBy t a) k (lMo (redo (lostBy t a) k (reset a t)))).flatMap (cutsOf (placeOf a k)), (hide (lostBy t a) k (lMo (redo (lostBy t a) k (reset a t)))).map (cutM (placeOf a k)), _, _, _, _, _, _) = _
            rw [hcut, hide_map]; rfl
          refine M_comesUp (v := X7_s0 v z) hz hPh hp64 (hspk em) (by rw [heq]; exact hfit) (fun s' hs' => ?_)
          rw [heq] at hs'
          rw [e2] at fin
          exact fin s' hs'
  · have hk2 : k < (lMo a).length := by omega
    have ok := hf0.2.1.P.2 _ (mlA_mem hk2)
    have o2 := ok.2.1
    have hkm : k < (mapTo k (fun m => if t ∈ mTr m then noTr m else m) (lMo a)).length := by rw [mapTo_len]; exact hk2
    have hmo : MMole z k (mlA (mapTo k (fun m => if t ∈ mTr m then noTr m else m) (lMo a)) k) (plM (lMo a) k) := hz.2.2.2.1 k hkm
    rw [mapTo_at hk2] at hmo
    have put : ∀ x, (x = z (264 + 46 * k + 23) ∧ t ∉ mTr (mlA (lMo a) k)) ∨ (x = nI 0 ∧ t ∈ mTr (mlA (lMo a) k)) → MLawnP (upd z (264 + 46 * k + 23) x) (withMo a (mapTo (k + 1) (fun m => if t ∈ mTr m then noTr m else m) (lMo a))) (plM (lMo a)) := by
      intro x hx
      refine ⟨hz.1.of (fun q q1 q2 q3 => upd_n (by omega)), hz.2.1.of (upd_n (by omega)) (fun q hq => upd_n (by omega)), ?_⟩
      show MMsP _ (mapTo (k + 1) (fun m => if t ∈ mTr m then noTr m else m) (lMo a)) _
      rw [← mapTo_set hk2]
      refine MMsP.set (pl := plM (lMo a)) hz.2.2 hfz hkm ?_ (fun _ _ => rfl) (upd_n (by omega)) (fun q q1 q2 q3 => upd_n (by omega))
      have o1 := ok.1
      rcases hx with ⟨rfl, hn⟩ | ⟨rfl, hy⟩
      · rw [if_neg hn]
        refine hmo.of ok (fun q q1 q2 => ?_)
        by_cases w : q = 264 + 46 * k + 23
        · rw [w, upd_s]
        · exact upd_n w
      · rw [if_pos hy]
        obtain ⟨g1, g2, g3, g4, g5, g6, g7⟩ := hmo
        refine ⟨?_, ?_, ?_, seg_of g4 (fun j hj => ?_), upd_s _ _ _, seg_nil _ _, ?_⟩
        · rw [upd_n (by omega), g1]
        · rw [upd_n (by omega), g2]; rfl
        · rw [upd_n (by omega), g3]; rfl
        · have hj : j < (mPl (mlA (lMo a) k)).length := hj
          exact upd_n (by omega)
        · rw [upd_n (by omega), g7]; rfl
    refine M_inTrail (v := X7_s0 v z) hmo ok (by omega) ht ?_
    rw [ixI_nN (by omega)]
    refine ⟨fun n => ⟨by omega, by omega, ⟨k + 1, rfl, hk2, put _ (Or.inl ⟨rfl, n⟩)⟩, by omega⟩, fun y => ⟨by omega, ⟨k + 1, rfl, hk2, put _ (Or.inr ⟨rfl, Classical.byContradiction y⟩)⟩, by omega⟩⟩
