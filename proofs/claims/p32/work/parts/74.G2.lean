theorem fromLast_last {r : List Nat} (h : r ≠ []) : fromLast (lastOf r) r = [lastOf r] := by
  have hl := List.length_pos_iff.mpr h
  have := fromLast_of (L := r) (t := lastOf r) (k := r.length - 1) (by omega) rfl (fun j h1 h2 => by omega)
  rw [this]
  apply at0_ext
  · simp; omega
  · intro k hk
    rw [List.length_drop] at hk
    have : k = 0 := by omega
    subst this
    rw [at0_drop, at0_0]; rfl
theorem place_in {a : Lw} {i : Nat} (h : ∀ m ∈ lMo a, mTr m ≠ []) (hi : i < (lMo a).length) : placeOf a i ∈ mTr (mlA (lMo a) i) := lastOf_mem (h _ (mlA_mem hi))
/-- at its place there is a mound: then its trail is its place alone -/
theorem ensure_trail {n : Nat} {a : Lw} {i : Nat} (h : Good0 n a) (hi : i < (lMo a).length) : mTr (mlA (lMo (ensure a (placeOf a i))) i) = [placeOf a i] := by
  have g := h.2.1 _ (mlA_mem hi)
  obtain ⟨g1, g2, g3, g4, g5, g6, g7⟩ := g
  have hp := List.length_pos_iff.mpr g3
  unfold ensure
  split
  · rename_i e
    -- the last of more than one has no mound
    have : (mTr (mlA (lMo a) i)).length = 1 := by
      apply Classical.byContradiction
      intro q
      have hm : placeOf a i ∈ (mTr (mlA (lMo a) i)).tail := by
        unfold placeOf lastOf
        have e2 : at0 (mTr (mlA (lMo a) i)) ((mTr (mlA (lMo a) i)).length - 1) = at0 (mTr (mlA (lMo a) i)).tail ((mTr (mlA (lMo a) i)).length - 2) := by
          rw [at0_tail]; congr 1; omega
        rw [e2]
        exact at0_mem (by rw [List.length_tail]; omega)
      rw [g7 _ hm] at e
      exact absurd e (by decide)
    obtain ⟨x, hx⟩ := List.length_eq_one_iff.mp this
    unfold placeOf
    rw [hx]; rfl
  · rename_i e
    have e : lMn a (placeOf a i) = false := by simpa using e
    show mTr (mlA ((lMo a).map (cutM (placeOf a i))) i) = _
    rw [ml_map hi]
    have y : placeOf a i ∈ mTr (mlA (lMo a) i) := lastOf_mem g3
    have n0 := ne_mn g6 e
    have e2 : cutM (placeOf a i) (mlA (lMo a) i) = (mPl (mlA (lMo a) i), fromLast (placeOf a i) (mTr (mlA (lMo a) i)), mAi (mlA (lMo a) i), mSt (mlA (lMo a) i)) := if_pos ⟨y, idx_pos y n0⟩
    rw [e2]
    exact fromLast_last g3
theorem set_mem {M : List Ml} {i : Nat} {m x : Ml} (h : x ∈ M.set i m) : x ∈ M ∨ x = m := List.mem_or_eq_of_mem_set h
theorem fillAir_good {n : Nat} {a : Lw} {i : Nat} (h : Good0 n a) (hi : i < (lMo a).length) (ho : (mTr (mlA (lMo a) i)).length = 1) : Good0 n (fillAir a i) := by
  obtain ⟨h1, h2, h3, h4, h5, h6⟩ := h
  refine ⟨?_, fun m hm => ?_, h3, h4, h5, ?_⟩
  · show ((lMo a).set i _).length ≤ 4
    rw [List.length_set]; exact h1
  · rcases set_mem hm with z | z
    · exact h2 m z
    · subst z
      obtain ⟨g1, g2, g3, g4, g5, g6, g7⟩ := h2 _ (mlA_mem hi)
      refine ⟨g1, g2, g3, g4, ?_, g6, g7⟩
      show (mTr (mlA (lMo a) i)).length + lAi a ≤ 21
      omega
  · have := pm_set hi (fillM (lAi a) (mlA (lMo a) i))
    have e : wM (fillM (lAi a) (mlA (lMo a) i)) = wM (mlA (lMo a) i) := rfl
    show ph (lTu a) + pm ((lMo a).set i (fillM (lAi a) (mlA (lMo a) i))) ≤ n
    omega
theorem airEnd_good {n : Nat} {a : Lw} {i : Nat} (h : Good0 n a) (hi : i < (lMo a).length) (ha : ∀ j, j < (lMo a).length → j ≠ i → 1 ≤ mAi (mlA (lMo a) j)) : Good n (airEnd a i) := by
  have all : ∀ (b : Lw), (lMo b).length = (lMo a).length → (∀ j, j < (lMo a).length → 1 ≤ mAi (mlA (lMo b) j)) → ∀ m ∈ lMo b, 1 ≤ mAi m := by
    intro b hl hb m hm
    obtain ⟨j, hj, e⟩ := List.mem_iff_getElem.mp hm
    have := hb j (by omega)
    simp only [mlA, List.getElem?_eq_getElem hj, Option.getD_some, e] at this
    exact this
  unfold airEnd
  split
  · have hg := ensure_good (t := placeOf a i) h
    have hlen := ensure_len a (placeOf a i)
    refine ⟨fillAir_good hg (by omega) (by rw [ensure_trail h hi]; rfl), all _ (by show ((lMo _).set i _).length = _; rw [List.length_set, hlen]) (fun j hj => ?_)⟩
    show 1 ≤ mAi (mlA ((lMo (ensure a (placeOf a i))).set i _) j)
    rw [mlA_set (by omega)]
    split
    · show 1 ≤ lAi (ensure a (placeOf a i))
      rw [ensure_air]
      have := h.2.2.1; omega
    · rename_i q
      rw [ensure_airs hj]
      exact ha j hj (fun z => q z.symm)
  · rename_i e
    refine ⟨h, all a rfl (fun j hj => ?_)⟩
    by_cases z : j = i
    · subst z; omega
    · exact ha j hj z
theorem mem_ml {M : List Ml} {m : Ml} (h : m ∈ M) : ∃ j, j < M.length ∧ mlA M j = m := by
  obtain ⟨j, hj, e⟩ := List.mem_iff_getElem.mp h
  exact ⟨j, hj, by simp [mlA, hj, e]⟩
theorem Good.at {n : Nat} {a : Lw} (h : Good n a) {i : Nat} (hi : i < (lMo a).length) : goodM (lMn a) (mlA (lMo a) i) ∧ 1 ≤ mAi (mlA (lMo a) i) := ⟨h.1.2.1 _ (mlA_mem hi), h.2 _ (mlA_mem hi)⟩
theorem tail_app {L : List Nat} (h : L ≠ []) (x : Nat) : (L ++ [x]).tail = L.tail ++ [x] := by
  cases L with
  | nil => exact absurd rfl h
  | cons a r => rfl
theorem at0_app0 {L : List Nat} (h : L ≠ []) (x : Nat) : at0 (L ++ [x]) 0 = at0 L 0 := at0_l (List.length_pos_iff.mpr h)
theorem act_good {n : Nat} {a : Lw} {i : Nat} (h : Good n a) (hi : i < (lMo a).length) : Good n (act a i).2 := by
  have hg := h
  obtain ⟨⟨h1, h2, h3, h4, h5, h6⟩, ha⟩ := h
  obtain ⟨⟨g1, g2, g3, g4, g5, g6, g7⟩, ga⟩ := hg.at hi
  have tp := List.length_pos_iff.mpr g3
  unfold act
  split
  · exact hg
  · rename_i hne
    have pp := List.length_pos_iff.mpr hne
    have tl : ∀ d ∈ (mPl (mlA (lMo a) i)).tail, d < 4 := fun d hd => g2 d (List.mem_of_mem_tail hd)
    have tlen : (mPl (mlA (lMo a) i)).tail.length = (mPl (mlA (lMo a) i)).length - 1 := List.length_tail
    cases hst : stp (placeOf a i) (at0 (mPl (mlA (lMo a) i)) 0) with
    | none =>
      show Good n (withMo a ((lMo a).set i ((mPl (mlA (lMo a) i)).tail, mTr (mlA (lMo a) i), mAi (mlA (lMo a) i), mSt (mlA (lMo a) i))))
      refine ⟨⟨by show ((lMo a).set i _).length ≤ 4; rw [List.length_set]; exact h1, fun m hm => ?_, h3, h4, h5, ?_⟩, fun m hm => ?_⟩
      · rcases set_mem hm with z | z
        · exact h2 m z
        · subst z
          exact ⟨by show (mPl (mlA (lMo a) i)).tail.length ≤ 20; omega, tl, g3, g4, g5, g6, g7⟩
      · have := pm_set hi ((mPl (mlA (lMo a) i)).tail, mTr (mlA (lMo a) i), mAi (mlA (lMo a) i), mSt (mlA (lMo a) i))
        have e1 : wM ((mPl (mlA (lMo a) i)).tail, mTr (mlA (lMo a) i), mAi (mlA (lMo a) i), mSt (mlA (lMo a) i)) = (mPl (mlA (lMo a) i)).tail.length + ((mTr (mlA (lMo a) i)).length - 1) := rfl
        have e2 : wM (mlA (lMo a) i) = (mPl (mlA (lMo a) i)).length + ((mTr (mlA (lMo a) i)).length - 1) := rfl
        show ph (lTu a) + pm ((lMo a).set i _) ≤ n
        omega
      · rcases set_mem hm with z | z
        · exact ha m z
        · subst z; exact ga
    | some p =>
      have hp64 : p < 64 := stp_lt (g4 _ (lastOf_mem g3)) hst
      show Good n (actTo a i (mPl (mlA (lMo a) i)).tail p).2
      have hlw : (lMo (went a i (mPl (mlA (lMo a) i)).tail p)).length = (lMo a).length := List.length_set
      have hmw : ∀ j, j < (lMo a).length → mlA (lMo (went a i (mPl (mlA (lMo a) i)).tail p)) j = if i = j then goM (mlA (lMo a) i) (mPl (mlA (lMo a) i)).tail p else mlA (lMo a) j := fun j hj => by
        show mlA ((lMo a).set i _) j = _
        rw [mlA_set hj]
      have hwm : wM (goM (mlA (lMo a) i) (mPl (mlA (lMo a) i)).tail p) = wM (mlA (lMo a) i) := by
        show (mPl (mlA (lMo a) i)).tail.length + ((mTr (mlA (lMo a) i) ++ [p]).length - 1) = (mPl (mlA (lMo a) i)).length + ((mTr (mlA (lMo a) i)).length - 1)
        rw [tlen]; simp; omega
      have hps := pm_set hi (goM (mlA (lMo a) i) (mPl (mlA (lMo a) i)).tail p)
      unfold actTo
      split
      · split
        · -- caught
          show Good n (caughtA (went a i (mPl (mlA (lMo a) i)).tail p) i)
          have hmem : ∀ m ∈ ((lMo a).set i (goM (mlA (lMo a) i) (mPl (mlA (lMo a) i)).tail p)).eraseIdx i, m ∈ lMo a := by
            intro m hm
            have e : ((lMo a).set i (goM (mlA (lMo a) i) (mPl (mlA (lMo a) i)).tail p)).eraseIdx i = (lMo a).eraseIdx i := by
              rw [List.eraseIdx_eq_take_drop_succ, List.eraseIdx_eq_take_drop_succ, List.take_set_of_le (Nat.le_refl _), List.drop_set_of_lt (by omega)]
            rw [e] at hm
            exact List.mem_of_mem_eraseIdx hm
          have hpe := pm_erase (M := (lMo a).set i (goM (mlA (lMo a) i) (mPl (mlA (lMo a) i)).tail p)) (i := i) (by rw [List.length_set]; exact hi)
          refine ⟨⟨?_, fun m hm => h2 m (hmem m hm), h3, h4, h5, ?_⟩, fun m hm => ha m (hmem m hm)⟩
          · show (((lMo a).set i _).eraseIdx i).length ≤ 4
            have := List.length_eraseIdx_le ((lMo a).set i (goM (mlA (lMo a) i) (mPl (mlA (lMo a) i)).tail p)) i
            rw [List.length_set] at this
            omega
          · show ph (lTu a) + pm (((lMo a).set i _).eraseIdx i) ≤ n
            omega
        · split
          · -- a trail ends at a mound
            rename_i em
            show Good n (finish (went a i (mPl (mlA (lMo a) i)).tail p) i)
            have hmi := hmw i hi
            rw [if_pos rfl] at hmi
            have hT : mTr (goM (mlA (lMo a) i) (mPl (mlA (lMo a) i)).tail p) = mTr (mlA (lMo a) i) ++ [p] := rfl
            have hlast : lastOf (mTr (goM (mlA (lMo a) i) (mPl (mlA (lMo a) i)).tail p)) = p := lastOf_snoc _ _
            have hcut : ∀ r ∈ cutsOf p (goM (mlA (lMo a) i) (mPl (mlA (lMo a) i)).tail p), goodR (lMn a) r ∧ r.length - 1 = (mTr (mlA (lMo a) i)).length := by
              intro r hr
              unfold cutsOf at hr
              split at hr
              · rename_i y
                have e : r = upTo p (mTr (goM (mlA (lMo a) i) (mPl (mlA (lMo a) i)).tail p)) := by simpa using hr
                have e : r = upTo p (mTr (mlA (lMo a) i) ++ [p]) := e
                have y2 : (mTr (mlA (lMo a) i) ++ [p]).idxOf p ≠ 0 := y.2
                have ym : p ∈ mTr (mlA (lMo a) i) ++ [p] := y.1
                -- it was not on its trail before
                have hnot : p ∉ mTr (mlA (lMo a) i) := by
                  intro q
                  by_cases e0 : at0 (mTr (mlA (lMo a) i)) 0 = p
                  · apply y2
                    have := idx_of (L := mTr (mlA (lMo a) i) ++ [p]) (t := p) (k := 0) (by simp) (by rw [at0_app0 g3]; exact e0) (fun j hj => by omega)
                    exact this.2
                  · have : p ∈ (mTr (mlA (lMo a) i)).tail := by
                      cases hL : mTr (mlA (lMo a) i) with
                      | nil => exact absurd hL g3
                      | cons b r =>
                        rw [hL] at q e0
                        rcases List.mem_cons.mp q with z | z
                        · exact absurd z.symm (by rw [at0_0] at e0; exact e0)
                        · exact z
                    rw [g7 p this] at em
                    exact absurd em (by decide)
                have hix : (mTr (mlA (lMo a) i) ++ [p]).idxOf p = (mTr (mlA (lMo a) i)).length := by
                  have := idx_of (L := mTr (mlA (lMo a) i) ++ [p]) (t := p) (k := (mTr (mlA (lMo a) i)).length) (by simp) (by rw [at0_r (Nat.le_refl _), Nat.sub_self, at0_0]) (fun j hj e => hnot (by
                    rw [at0_l hj] at e
                    rw [← e]; exact at0_mem hj))
                  exact this.2
                have hul := upTo_len ym
                subst e
                refine ⟨⟨by rw [hul, hix]; omega, fun x hx => ?_, ?_, ?_, ?_⟩, by rw [hul, hix]; omega⟩
                · rcases List.mem_append.mp (upTo_mem x hx) with z | z
                  · exact g4 x z
                  · have : x = p := by simpa using z
                    omega
                · rw [upTo_first, at0_app0 g3]; exact g6
                · rw [upTo_last ym]; exact em
                · rw [upTo_first, upTo_last ym, at0_app0 g3]
                  intro e
                  exact hnot (by rw [← e]; exact at0_mem tp)
              · exact absurd hr (by simp)
            have hph : ph (cutsOf p (goM (mlA (lMo a) i) (mPl (mlA (lMo a) i)).tail p)) ≤ (mTr (mlA (lMo a) i)).length := by
              unfold cutsOf
              split
              · rename_i y
                have := (hcut (upTo p (mTr (goM (mlA (lMo a) i) (mPl (mlA (lMo a) i)).tail p))) (by
                  unfold cutsOf
                  rw [if_pos y]; exact List.mem_cons_self)).2
                rw [ph_cons, ph_nil]; omega
              · rw [ph_nil]; omega
            refine ⟨⟨?_, fun m hm => ?_, h3, h4, fun r hr => ?_, ?_⟩, fun m hm => ?_⟩
            · show (((lMo a).set i _).set i _).length ≤ 4
              rw [List.length_set, List.length_set]; exact h1
            · rcases set_mem hm with z | z
              · rcases set_mem z with z2 | z2
                · exact h2 m z2
                · -- the mole itself is the one that was set anew
                  obtain ⟨j, hj, e⟩ := mem_ml hm
                  have hj : j < (((lMo a).set i (goM (mlA (lMo a) i) (mPl (mlA (lMo a) i)).tail p)).set i (mPl (mlA (lMo (went a i (mPl (mlA (lMo a) i)).tail p)) i), [lastOf (mTr (mlA (lMo (went a i (mPl (mlA (lMo a) i)).tail p)) i))], lAi a, mSt (mlA (lMo (went a i (mPl (mlA (lMo a) i)).tail p)) i))).length := hj
                  rw [List.length_set, List.length_set] at hj
                  have e : mlA (((lMo a).set i (goM (mlA (lMo a) i) (mPl (mlA (lMo a) i)).tail p)).set i (mPl (mlA (lMo (went a i (mPl (mlA (lMo a) i)).tail p)) i), [lastOf (mTr (mlA (lMo (went a i (mPl (mlA (lMo a) i)).tail p)) i))], lAi a, mSt (mlA (lMo (went a i (mPl (mlA (lMo a) i)).tail p)) i))) j = m := e
                  rw [mlA_set (by rw [List.length_set]; exact hj), mlA_set hj, hmi, hlast] at e
                  by_cases w : i = j
                  · rw [if_pos w] at e
                    subst e
                    refine ⟨by show (mPl (mlA (lMo a) i)).tail.length ≤ 20; omega, tl, by show [p] ≠ []; simp, fun x hx => ?_, by show 1 + lAi a ≤ 21; omega, em, fun x hx => (List.not_mem_nil (show x ∈ ([] : List Nat) from hx)).elim⟩
                    have hx : x ∈ [p] := hx
                    have : x = p := by simpa using hx
                    omega
                  · rw [if_neg w, if_neg w] at e
                    subst e
                    exact h2 _ (mlA_mem hj)
              · subst z
                rw [hmi, hlast]
                refine ⟨by show (mPl (mlA (lMo a) i)).tail.length ≤ 20; omega, tl, by show [p] ≠ []; simp, fun x hx => ?_, by show 1 + lAi a ≤ 21; omega, em, fun x hx => (List.not_mem_nil (show x ∈ ([] : List Nat) from hx)).elim⟩
                have hx : x ∈ [p] := hx
                have : x = p := by simpa using hx
                omega
            · have hr : r ∈ lTu a ++ cutsOf (lastOf (mTr (mlA (lMo (went a i (mPl (mlA (lMo a) i)).tail p)) i))) (mlA (lMo (went a i (mPl (mlA (lMo a) i)).tail p)) i) := hr
              rw [hmi, hlast] at hr
              rcases List.mem_append.mp hr with z | z
              · exact h5 r z
              · exact (hcut r z).1
            · have e1 := pm_set (M := (lMo a).set i (goM (mlA (lMo a) i) (mPl (mlA (lMo a) i)).tail p)) (i := i) (by rw [List.length_set]; exact hi) (mPl (mlA (lMo (went a i (mPl (mlA (lMo a) i)).tail p)) i), [lastOf (mTr (mlA (lMo (went a i (mPl (mlA (lMo a) i)).tail p)) i))], lAi a, mSt (mlA (lMo (went a i (mPl (mlA (lMo a) i)).tail p)) i))
              have e2 : mlA ((lMo a).set i (goM (mlA (lMo a) i) (mPl (mlA (lMo a) i)).tail p)) i = goM (mlA (lMo a) i) (mPl (mlA (lMo a) i)).tail p := hmi
              have e3 : wM (mPl (mlA (lMo (went a i (mPl (mlA (lMo a) i)).tail p)) i), [lastOf (mTr (mlA (lMo (went a i (mPl (mlA (lMo a) i)).tail p)) i))], lAi a, mSt (mlA (lMo (went a i (mPl (mlA (lMo a) i)).tail p)) i)) = (mPl (mlA (lMo a) i)).tail.length := by
                rw [hmi]; show (mPl (mlA (lMo a) i)).tail.length + (1 - 1) = _; omega
              have e4 : wM (goM (mlA (lMo a) i) (mPl (mlA (lMo a) i)).tail p) = (mPl (mlA (lMo a) i)).tail.length + (mTr (mlA (lMo a) i)).length := by
                show (mPl (mlA (lMo a) i)).tail.length + ((mTr (mlA (lMo a) i) ++ [p]).length - 1) = _
                simp
              rw [e2, e3] at e1
              show ph (lTu a ++ cutsOf (lastOf (mTr (mlA (lMo (went a i (mPl (mlA (lMo a) i)).tail p)) i))) (mlA (lMo (went a i (mPl (mlA (lMo a) i)).tail p)) i)) + pm (((lMo a).set i (goM (mlA (lMo a) i) (mPl (mlA (lMo a) i)).tail p)).set i (mPl (mlA (lMo (went a i (mPl (mlA (lMo a) i)).tail p)) i), [lastOf (mTr (mlA (lMo (went a i (mPl (mlA (lMo a) i)).tail p)) i))], lAi a, mSt (mlA (lMo (went a i (mPl (mlA (lMo a) i)).tail p)) i))) ≤ n
              rw [hmi, hlast, ph_app]
              rw [hmi, hlast] at e1
              omega
            · obtain ⟨j, hj, e⟩ := mem_ml hm
              have hj : j < (((lMo a).set i (goM (mlA (lMo a) i) (mPl (mlA (lMo a) i)).tail p)).set i (mPl (mlA (lMo (went a i (mPl (mlA (lMo a) i)).tail p)) i), [lastOf (mTr (mlA (lMo (went a i (mPl (mlA (lMo a) i)).tail p)) i))], lAi a, mSt (mlA (lMo (went a i (mPl (mlA (lMo a) i)).tail p)) i))).length := hj
              rw [List.length_set, List.length_set] at hj
              have e : mlA (((lMo a).set i (goM (mlA (lMo a) i) (mPl (mlA (lMo a) i)).tail p)).set i (mPl (mlA (lMo (went a i (mPl (mlA (lMo a) i)).tail p)) i), [lastOf (mTr (mlA (lMo (went a i (mPl (mlA (lMo a) i)).tail p)) i))], lAi a, mSt (mlA (lMo (went a i (mPl (mlA (lMo a) i)).tail p)) i))) j = m := e
              rw [mlA_set (by rw [List.length_set]; exact hj), mlA_set hj] at e
              by_cases w : i = j
              · rw [if_pos w] at e
                subst e
                show 1 ≤ lAi a; omega
              · rw [if_neg w, if_neg w] at e
                subst e
                exact ha _ (mlA_mem hj)
          · -- it goes on
            rename_i em
            have em : lMn a p = false := by simpa using em
            show Good n (airEnd (went a i (mPl (mlA (lMo a) i)).tail p) i)
            refine airEnd_good ⟨by rw [hlw]; exact h1, fun m hm => ?_, h3, h4, h5, ?_⟩ (by rw [hlw]; exact hi) (fun j hj hji => ?_)
            · rcases set_mem hm with z | z
              · exact h2 m z
              · subst z
                refine ⟨by show (mPl (mlA (lMo a) i)).tail.length ≤ 20; omega, tl, by show mTr (mlA (lMo a) i) ++ [p] ≠ []; simp, fun x hx => ?_, ?_, ?_, fun x hx => ?_⟩
                · rcases List.mem_append.mp hx with z | z
                  · exact g4 x z
                  · have : x = p := by simpa using z
                    omega
                · show (mTr (mlA (lMo a) i) ++ [p]).length + (mAi (mlA (lMo a) i) - 1) ≤ 21
                  simp; omega
                · show lMn a (at0 (mTr (mlA (lMo a) i) ++ [p]) 0) = true
                  rw [at0_app0 g3]; exact g6
                · have hx : x ∈ (mTr (mlA (lMo a) i) ++ [p]).tail := hx
                  rw [tail_app g3] at hx
                  rcases List.mem_append.mp hx with z | z
                  · exact g7 x z
                  · have : x = p := by simpa using z
                    rw [this]; exact em
            · show ph (lTu a) + pm ((lMo a).set i _) ≤ n
              omega
            · rw [hlw] at hj
              rw [hmw j hj, if_neg (fun z => hji z.symm)]
              exact ha _ (mlA_mem hj)
      · -- it gnaws
        show Good n (airEnd (gnaw a i p) i)
        have hlg : (lMo (gnaw a i p)).length = (lMo a).length := List.length_set
        refine airEnd_good ⟨by rw [hlg]; exact h1, fun m hm => ?_, h3, h4, h5, ?_⟩ (by rw [hlg]; exact hi) (fun j hj hji => ?_)
        · rcases set_mem hm with z | z
          · exact h2 m z
          · subst z
            exact ⟨g1, g2, g3, g4, by show (mTr (mlA (lMo a) i)).length + (mAi (mlA (lMo a) i) - 1) ≤ 21; omega, g6, g7⟩
        · have := pm_set hi (mPl (mlA (lMo a) i), mTr (mlA (lMo a) i), mAi (mlA (lMo a) i) - 1, mSt (mlA (lMo a) i))
          have e1 : wM (mPl (mlA (lMo a) i), mTr (mlA (lMo a) i), mAi (mlA (lMo a) i) - 1, mSt (mlA (lMo a) i)) = wM (mlA (lMo a) i) := rfl
          show ph (lTu a) + pm ((lMo a).set i _) ≤ n
          omega
        · rw [hlg] at hj
          show 1 ≤ mAi (mlA ((lMo a).set i _) j)
          rw [mlA_set hj, if_neg (fun z => hji z.symm)]
          exact ha _ (mlA_mem hj)
theorem act_ok {n : Nat} {a : Lw} {i : Nat} (h : Good n a) (hn : n ≤ 512) (hi : i < (lMo a).length) : actOk a i := by
  intro hne p hp
  have h6 := h.1.2.2.2.2.2
  exact ⟨fun _ _ em _ => split_ok em h.1.2.2.2.2.1 (by omega), fun _ _ em => split_ok em h.1.2.2.2.2.1 (by omega)⟩
theorem tick_good {n : Nat} {a : Lw} (h : Good n a) : Good n (tick a) ∧ Good n (tick0 a) := ⟨⟨h.1, h.2⟩, ⟨h.1, h.2⟩⟩
theorem moves_good {n : Nat} : ∀ (k i : Nat) {a : Lw}, Good n a → Good n (moves k i a)
  | 0, _, _, h => h
  | k + 1, i, a, h => by
    by_cases e : i < (lMo a).length
    · rw [moves_in e]; exact moves_good k _ (act_good h e)
    · rw [moves_out e]; exact h
theorem beat_good {n : Nat} {a : Lw} (h : Good n a) : Good n (beatA a) := moves_good _ _ (tick_good h).1
