/-! Digging keeps what holds. -/
/-- a mole whose trail was lost: its place alone, perhaps without a mound -/
def lostM (m : Ml) : Prop := (mPl m).length ≤ 20 ∧ (∀ d ∈ mPl m, d < 4) ∧ (mTr m).length = 1 ∧ (∀ x ∈ mTr m, x < 64) ∧ mAi m ≤ 20
def GoodD (n : Nat) (ls : Nat → Bool) (k : Nat) (a : Lw) : Prop := (lMo a).length ≤ 4 ∧ (∀ i, i < (lMo a).length → 1 ≤ mAi (mlA (lMo a) i) ∧ if k ≤ i ∧ ls i = true then lostM (mlA (lMo a) i) else goodM (lMn a) (mlA (lMo a) i)) ∧ 2 ≤ lAi a ∧ lAi a ≤ 20 ∧ (∀ r ∈ lTu a, goodR (lMn a) r) ∧ ph (lTu a) + pm (lMo a) ≤ n
theorem lostM.ok {m : Ml} (h : lostM m) : okM m := ⟨⟨h.1, by have := h.2.2.1; omega, by have := h.2.2.1; omega⟩, h.2.2.2.1, h.2.1, h.2.2.2.2⟩
theorem GoodD.fit {n : Nat} {ls : Nat → Bool} {k : Nat} {a : Lw} (h : GoodD n ls k a) (hn : n ≤ 512) : fitL a := by
  obtain ⟨h1, h2, h3, h4, h5, h6⟩ := h
  refine ⟨⟨fit_ph (fun r hr => (h5 r hr).1) (by omega), fun r hr => ⟨fun e => ?_, (h5 r hr).2.1⟩⟩, ⟨h1, fun m hm => ?_⟩, h4⟩
  · have := (h5 r hr).1
    rw [e] at this; simp at this
  · obtain ⟨j, hj, rfl⟩ := mem_ml hm
    have := (h2 j hj).2
    split at this
    · exact this.ok
    · exact this.ok
theorem lost_cut {m : Ml} (h : (mTr m).length = 1) (t : Nat) : cutM t m = m ∧ cutsOf t m = [] := by
  have hn : ¬ (t ∈ mTr m ∧ (mTr m).idxOf t ≠ 0) := fun q => by
    have := List.idxOf_lt_length_iff.mpr q.1
    omega
  exact ⟨if_neg hn, if_neg hn⟩
theorem cuts_phD {mn : Nat → Bool} {t : Nat} (ht : mn t = false) : ∀ {M : List Ml}, (∀ m ∈ M, goodM mn m ∨ (mTr m).length = 1) → ph (M.flatMap (cutsOf t)) + pm (M.map (cutM t)) ≤ pm M
  | [], _ => Nat.le_refl _
  | m :: M, h => by
    have h1 := cuts_phD ht (M := M) (fun x hx => h x (List.mem_cons_of_mem _ hx))
    have h2 : ph (cutsOf t m) + wM (cutM t m) ≤ wM m := by
      rcases h m List.mem_cons_self with z | z
      · exact (goodM_cut ht z).2.2
      · rw [(lost_cut z t).1, (lost_cut z t).2, ph_nil]; omega
    rw [List.flatMap_cons, List.map_cons, ph_app, pm_cons, pm_cons]; omega
theorem ensureD {n : Nat} {ls : Nat → Bool} {k : Nat} {a : Lw} {t : Nat} (h : GoodD n ls k a) : GoodD n ls k (ensure a t) := by
  unfold ensure
  split
  · exact h
  · rename_i e
    have e : lMn a t = false := by simpa using e
    obtain ⟨h1, h2, h3, h4, h5, h6⟩ := h
    refine ⟨?_, fun i hi => ?_, h3, h4, fun r hr => ?_, ?_⟩
    · show ((lMo a).map (cutM t)).length ≤ 4
      rw [List.length_map]; exact h1
    · have hi : i < ((lMo a).map (cutM t)).length := hi
      rw [List.length_map] at hi
      show 1 ≤ mAi (mlA ((lMo a).map (cutM t)) i) ∧ if k ≤ i ∧ ls i = true then lostM (mlA ((lMo a).map (cutM t)) i) else goodM (va_up (lMn a) t true) (mlA ((lMo a).map (cutM t)) i)
      rw [ml_map hi, cutM_air]
      obtain ⟨a1, a2⟩ := h2 i hi
      refine ⟨a1, ?_⟩
      split
      · rename_i z
        rw [if_pos z] at a2
        rw [(lost_cut a2.2.2.1 t).1]; exact a2
      · rename_i z
        rw [if_neg z] at a2
        exact (goodM_cut e a2).1
    · have hr : r ∈ splitT t (lTu a) ++ (lMo a).flatMap (cutsOf t) := hr
      rcases List.mem_append.mp hr with z | z
      · exact split_good e h5 r z
      · obtain ⟨x, hx, z⟩ := List.mem_flatMap.mp z
        obtain ⟨j, hj, rfl⟩ := mem_ml hx
        have a2 := (h2 j hj).2
        split at a2
        · rw [(lost_cut a2.2.2.1 t).2] at z
          exact absurd z (by simp)
        · exact (goodM_cut e a2).2.1 r z
    · show ph (splitT t (lTu a) ++ (lMo a).flatMap (cutsOf t)) + pm ((lMo a).map (cutM t)) ≤ n
      rw [ph_app]
      have := split_ph t (lTu a)
      have := cuts_phD e (M := lMo a) (fun m hm => by
        obtain ⟨j, hj, rfl⟩ := mem_ml hm
        have a2 := (h2 j hj).2
        split at a2
        · exact Or.inr a2.2.2.1
        · exact Or.inl a2)
      omega
theorem ensureD_tr {n : Nat} {ls : Nat → Bool} {k i : Nat} {a : Lw} {t : Nat} (h : GoodD n ls k a) (hi : i < (lMo a).length) (hl : k ≤ i ∧ ls i = true) : mlA (lMo (ensure a t)) i = mlA (lMo a) i := by
  unfold ensure
  split
  · rfl
  · show mlA ((lMo a).map (cutM t)) i = _
    have a2 := (h.2.1 i hi).2
    rw [if_pos hl] at a2
    rw [ml_map hi, (lost_cut a2.2.2.1 t).1]
theorem single {L : List Nat} (h : L.length = 1) : L = [lastOf L] := by
  obtain ⟨x, hx⟩ := List.length_eq_one_iff.mp h
  rw [hx]; rfl
theorem redoD {n : Nat} {ls : Nat → Bool} {a : Lw} (h : GoodD n ls 0 a) : ∀ k, k ≤ (lMo a).length → GoodD n ls k (redo ls k a)
  | 0, _ => h
  | k + 1, hk => by
    have ih := redoD h k (by omega)
    have hlen := redo_len ls a k
    unfold redo
    cases e : ls k with
    | false =>
      rw [if_neg (by decide)]
      obtain ⟨h1, h2, h3, h4, h5, h6⟩ := ih
      refine ⟨h1, fun i hi => ?_, h3, h4, h5, h6⟩
      obtain ⟨a1, a2⟩ := h2 i hi
      refine ⟨a1, ?_⟩
      by_cases z : k + 1 ≤ i ∧ ls i = true
      · rw [if_pos z]; rw [if_pos ⟨by omega, z.2⟩] at a2; exact a2
      · rw [if_neg z]
        by_cases w : i = k
        · subst w
          rw [if_neg (fun q => by rw [e] at q; exact absurd q.2 (by decide))] at a2; exact a2
        · rw [if_neg (fun q => z ⟨by omega, q.2⟩)] at a2; exact a2
    | true =>
      rw [if_pos rfl]
      have hk2 : k < (lMo (redo ls k a)).length := by omega
      have g := ensureD (t := placeOf (redo ls k a) k) ih
      have htr := ensureD_tr (t := placeOf (redo ls k a) k) ih hk2 ⟨Nat.le_refl _, e⟩
      have hlen2 := ensure_len (redo ls k a) (placeOf (redo ls k a) k)
      have hmn := ensure_mn (redo ls k a) (placeOf (redo ls k a) k)
      obtain ⟨h1, h2, h3, h4, h5, h6⟩ := g
      have lk := (h2 k (by omega)).2
      rw [if_pos ⟨Nat.le_refl _, e⟩] at lk
      have hplace : mTr (mlA (lMo (ensure (redo ls k a) (placeOf (redo ls k a) k))) k) = [placeOf (redo ls k a) k] := by
        rw [htr] at lk ⊢
        exact single lk.2.2.1
      refine ⟨by show ((lMo _).set k _).length ≤ 4; rw [List.length_set]; exact h1, fun i hi => ?_, h3, h4, h5, ?_⟩
      · have hi : i < ((lMo (ensure (redo ls k a) (placeOf (redo ls k a) k))).set k (fillM (lAi (ensure (redo ls k a) (placeOf (redo ls k a) k))) (mlA (lMo (ensure (redo ls k a) (placeOf (redo ls k a) k))) k))).length := hi
        rw [List.length_set] at hi
        show 1 ≤ mAi (mlA ((lMo _).set k _) i) ∧ if k + 1 ≤ i ∧ ls i = true then lostM (mlA ((lMo _).set k _) i) else goodM _ (mlA ((lMo _).set k _) i)
        rw [mlA_set hi]
        by_cases w : k = i
        · subst w
          rw [if_pos rfl, if_neg (by omega)]
          refine ⟨by show 1 ≤ lAi _; omega, lk.1, lk.2.1, ?_, lk.2.2.2.1, ?_, ?_, ?_⟩
          · show mTr (mlA (lMo (ensure (redo ls k a) (placeOf (redo ls k a) k))) k) ≠ []
            rw [hplace]; simp
          · show (mTr (mlA (lMo (ensure (redo ls k a) (placeOf (redo ls k a) k))) k)).length + lAi _ ≤ 21
            rw [hplace]; show 1 + lAi _ ≤ 21; omega
          · show lMn (ensure (redo ls k a) (placeOf (redo ls k a) k)) (at0 (mTr (mlA (lMo (ensure (redo ls k a) (placeOf (redo ls k a) k))) k)) 0) = true
            rw [hplace, at0_0]; exact hmn
          · show ∀ x ∈ (mTr (mlA (lMo (ensure (redo ls k a) (placeOf (redo ls k a) k))) k)).tail, _
            rw [hplace]
            intro x hx
            exact absurd hx (by simp)
        · rw [if_neg w]
          obtain ⟨a1, a2⟩ := h2 i hi
          refine ⟨a1, ?_⟩
          by_cases z : k + 1 ≤ i ∧ ls i = true
          · rw [if_pos z]; rw [if_pos ⟨by omega, z.2⟩] at a2; exact a2
          · rw [if_neg z]; rw [if_neg (fun q => z ⟨by omega, q.2⟩)] at a2; exact a2
      · have := pm_set (M := lMo (ensure (redo ls k a) (placeOf (redo ls k a) k))) (i := k) (by omega) (fillM (lAi (ensure (redo ls k a) (placeOf (redo ls k a) k))) (mlA (lMo (ensure (redo ls k a) (placeOf (redo ls k a) k))) k))
        have e2 : wM (fillM (lAi (ensure (redo ls k a) (placeOf (redo ls k a) k))) (mlA (lMo (ensure (redo ls k a) (placeOf (redo ls k a) k))) k)) = wM (mlA (lMo (ensure (redo ls k a) (placeOf (redo ls k a) k))) k) := rfl
        show ph (lTu (ensure (redo ls k a) (placeOf (redo ls k a) k))) + pm ((lMo (ensure (redo ls k a) (placeOf (redo ls k a) k))).set k (fillM (lAi (ensure (redo ls k a) (placeOf (redo ls k a) k))) (mlA (lMo (ensure (redo ls k a) (placeOf (redo ls k a) k))) k))) ≤ n
        omega
theorem GoodD.all {n : Nat} {ls : Nat → Bool} {k : Nat} {a : Lw} (h : GoodD n ls k a) (hk : (lMo a).length ≤ k) : Good n a := by
  obtain ⟨h1, h2, h3, h4, h5, h6⟩ := h
  refine ⟨⟨h1, fun m hm => ?_, h3, h4, h5, h6⟩, fun m hm => ?_⟩
  · obtain ⟨j, hj, rfl⟩ := mem_ml hm
    have := (h2 j hj).2
    rw [if_neg (by omega)] at this
    exact this
  · obtain ⟨j, hj, rfl⟩ := mem_ml hm
    exact (h2 j hj).1
theorem redo_place {ls : Nat → Bool} {a : Lw} (hne : ∀ m ∈ lMo a, mTr m ≠ []) : ∀ k i, i < (lMo a).length → placeOf (redo ls k a) i = placeOf a i
  | 0, _, _ => rfl
  | k + 1, i, hi => by
    have ih := redo_place (ls := ls) hne k i hi
    have hlen := redo_len ls a k
    have step : ∀ t, lastOf (mTr (mlA (lMo (ensure (redo ls k a) t)) i)) = lastOf (mTr (mlA (lMo (redo ls k a)) i)) := by
      intro t
      unfold ensure
      split
      · rfl
      · show lastOf (mTr (mlA ((lMo _).map (cutM t)) i)) = _
        rw [ml_map (by omega), cutM_last]
    unfold redo
    split
    · show lastOf (mTr (mlA ((lMo (ensure (redo ls k a) (placeOf (redo ls k a) k))).set k _) i)) = _
      rw [mlA_set (by rw [ensure_len]; omega)]
      split
      · rename_i w
        subst w
        show lastOf (mTr (mlA (lMo (ensure (redo ls k a) (placeOf (redo ls k a) k))) k)) = _
        rw [step]; exact ih
      · rw [step]; exact ih
    · exact ih
theorem dropT_mem {t : Nat} {T : Tu} {r : List Nat} (h : r ∈ dropT t T) : r ∈ T ∧ t ∉ r := by
  have := List.mem_filter.mp h
  exact ⟨this.1, by simpa using this.2⟩
theorem dropT_ph (t : Nat) : ∀ T : Tu, ph (dropT t T) ≤ ph T
  | [] => Nat.le_refl _
  | r :: T => by
    have := dropT_ph t T
    unfold dropT at this ⊢
    rw [List.filter_cons, ph_cons]
    split
    · rw [ph_cons]; omega
    · omega
theorem up_keep {mn : Nat → Bool} {t x : Nat} {b : Bool} (h : mn x = b) (e : x ≠ t) (c : Bool) : va_up mn t c x = b := by rw [va_up_ne _ _ e]; exact h
theorem goodR_drop {mn : Nat → Bool} {t : Nat} {r : List Nat} (h : goodR mn r) (ht : t ∉ r) : goodR (va_up mn t false) r := by
  have hne : r ≠ [] := fun e => by have := h.1; rw [e] at this; simp at this
  refine ⟨h.1, h.2.1, up_keep h.2.2.1 (fun (e : at0 r 0 = t) => ht (by rw [← e]; exact first_mem hne)) _, up_keep h.2.2.2.1 (fun (e : lastOf r = t) => ht (by rw [← e]; exact lastOf_mem hne)) _, h.2.2.2.2⟩
theorem digD {n : Nat} {a : Lw} {t : Nat} (h : Good n a) : GoodD n (lostBy t (dropTun (digA a t) t)) 0 (reset (dropTun (digA a t) t) t) := by
  obtain ⟨⟨h1, h2, h3, h4, h5, h6⟩, ha⟩ := h
  have hmem : ∀ m ∈ lMo (dropTun (digA a t) t), m ∈ lMo a := fun m hm => (List.mem_filter.mp hm).1
  refine ⟨?_, fun i hi => ?_, h3, h4, fun r hr => ?_, ?_⟩
  · show (((lMo a).filter (notAt t)).map (resetM t)).length ≤ 4
    rw [List.length_map]
    exact Nat.le_trans (List.length_filter_le _ _) h1
  · have hi : i < (((lMo a).filter (notAt t)).map (resetM t)).length := hi
    rw [List.length_map] at hi
    show 1 ≤ mAi (mlA (((lMo a).filter (notAt t)).map (resetM t)) i) ∧ if 0 ≤ i ∧ lostBy t (dropTun (digA a t) t) i = true then lostM (mlA (((lMo a).filter (notAt t)).map (resetM t)) i) else goodM (va_up (lMn a) t false) (mlA (((lMo a).filter (notAt t)).map (resetM t)) i)
    rw [ml_map hi]
    have hm := hmem _ (mlA_mem (M := (lMo a).filter (notAt t)) (i := i) hi)
    obtain ⟨g1, g2, g3, g4, g5, g6, g7⟩ := h2 _ hm
    have ga := ha _ hm
    have gp := List.length_pos_iff.mpr g3
    have hl : lostBy t (dropTun (digA a t) t) i = decide (t ∈ mTr (mlA ((lMo a).filter (notAt t)) i)) := rfl
    rw [hl]
    by_cases e : t ∈ mTr (mlA ((lMo a).filter (notAt t)) i)
    · rw [if_pos ⟨Nat.zero_le _, by simpa using e⟩]
      unfold resetM
      rw [if_pos e]
      refine ⟨ga, g1, g2, rfl, fun x hx => ?_, by show mAi (mlA ((lMo a).filter (notAt t)) i) ≤ 20; omega⟩
      have hx : x ∈ [lastOf (mTr (mlA ((lMo a).filter (notAt t)) i))] := hx
      have : x = lastOf (mTr (mlA ((lMo a).filter (notAt t)) i)) := by simpa using hx
      rw [this]; exact g4 _ (lastOf_mem g3)
    · rw [if_neg (fun q => e (by simpa using q.2))]
      unfold resetM
      rw [if_neg e]
      exact ⟨ga, g1, g2, g3, g4, g5, up_keep g6 (fun (q : at0 (mTr (mlA ((lMo a).filter (notAt t)) i)) 0 = t) => e ((congrArg (· ∈ mTr (mlA ((lMo a).filter (notAt t)) i)) q).mp (first_mem g3))) _, fun x hx => up_keep (g7 x hx) (fun (q : x = t) => e ((congrArg (· ∈ mTr (mlA ((lMo a).filter (notAt t)) i)) q).mp (List.mem_of_mem_tail hx))) _⟩
  · have hr : r ∈ dropT t (lTu a) := hr
    obtain ⟨z1, z2⟩ := dropT_mem hr
    exact goodR_drop (h5 r z1) z2
  · have e1 := dropT_ph t (lTu a)
    have e2 := pm_map (f := resetM t) (fun m => by
      unfold resetM
      split
      · show (mPl m).length + (1 - 1) ≤ _
        unfold wM; omega
      · exact Nat.le_refl _) ((lMo a).filter (notAt t))
    have e3 := pm_filter (notAt t) (lMo a)
    show ph (dropT t (lTu a)) + pm (((lMo a).filter (notAt t)).map (resetM t)) ≤ n
    omega
theorem dug_good {n : Nat} {a : Lw} {t : Nat} (h : Good n a) : Good n (dug a t) := by
  have hl : (lMo (reset (dropTun (digA a t) t) t)).length = (lMo (dropTun (digA a t) t)).length := List.length_map _
  have := redoD (digD (t := t) h) (lMo (dropTun (digA a t) t)).length (by omega)
  exact this.all (by rw [redo_len]; omega)
/-- all that digging asks on the way -/
theorem dug_facts {n : Nat} {a : Lw} {t : Nat} (h : Good n a) (hn : n ≤ 512) :
    fitL (dropTun (digA a t) t) ∧ (∀ k, k ≤ (lMo (digA a t)).length → fitL (redo (lostBy t (dropTun (digA a t) t)) k (reset (dropTun (digA a t) t) t))) ∧ (∀ k, k < (lMo (digA a t)).length → lostBy t (dropTun (digA a t) t) k = true → lMn (redo (lostBy t (dropTun (digA a t) t)) k (reset (dropTun (digA a t) t) t)) (placeOf (redo (lostBy t (dropTun (digA a t) t)) k (reset (dropTun (digA a t) t) t)) k) = false → splitOk (placeOf (redo (lostBy t (dropTun (digA a t) t)) k (reset (dropTun (digA a t) t) t)) k) (lTu (redo (lostBy t (dropTun (digA a t) t)) k (reset (dropTun (digA a t) t) t)))) ∧ (∀ k i, k ≤ i → i < (lMo (digA a t)).length → lostBy t (dropTun (digA a t) t) i = true → (mTr (mlA (lMo (redo (lostBy t (dropTun (digA a t) t)) k (reset (dropTun (digA a t) t) t))) i)).length = 1) ∧ (∀ k i, i < (lMo (digA a t)).length → placeOf (redo (lostBy t (dropTun (digA a t) t)) k (reset (dropTun (digA a t) t) t)) i = placeOf (dropTun (digA a t) t) i) := by
  have hl : (lMo (reset (dropTun (digA a t) t) t)).length = (lMo (digA a t)).length := List.length_map _
  have hD := digD (t := t) h
  have hok : ∀ m ∈ (lMo a).filter (notAt t), okM m := fun m hm => (h.1.2.1 m (List.mem_filter.mp hm).1).ok
  refine ⟨?_, fun k hk => ?_, fun k hk e em => ?_, fun k i hki hi e => ?_, fun k i hi => ?_⟩
  · have hf := hD.fit hn
    refine ⟨hf.1, ⟨Nat.le_trans (List.length_filter_le _ _) h.1.1, hok⟩, hf.2.2⟩
  · exact (redoD hD k (by omega)).fit hn
  · have g := redoD hD k (by omega)
    have h6 := g.2.2.2.2.2
    exact split_ok em g.2.2.2.2.1 (by omega)
  · have g := redoD hD k (by omega)
    have := (g.2.1 i (by rw [redo_len]; omega)).2
    rw [if_pos ⟨hki, e⟩] at this
    exact this.2.2.1
  · have hi2 : i < (lMo (reset (dropTun (digA a t) t) t)).length := by omega
    rw [redo_place (a := reset (dropTun (digA a t) t) t) (fun m hm => by
      obtain ⟨x, hx, rfl⟩ := List.mem_map.mp hm
      unfold resetM
      split
      · show [lastOf (mTr x)] ≠ []; simp
      · exact okM_ne (hok x hx)) k i hi2]
    show lastOf (mTr (mlA (((lMo a).filter (notAt t)).map (resetM t)) i)) = lastOf (mTr (mlA ((lMo a).filter (notAt t)) i))
    rw [ml_map (M := (lMo a).filter (notAt t)) hi]
    unfold resetM
    split <;> rfl
