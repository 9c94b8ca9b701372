/-! What digging, beats and looks have to do with each other. -/
theorem ensure_same (a : Lw) (t : Nat) : lOp (ensure a t) = lOp a ∧ lRt (ensure a t) = lRt a ∧ lTp (ensure a t) = lTp a ∧ lFa (ensure a t) = lFa a ∧ lCa (ensure a t) = lCa a := by
  unfold ensure
  split
  · exact ⟨rfl, rfl, rfl, rfl, rfl⟩
  · exact ⟨rfl, rfl, rfl, rfl, rfl⟩
theorem redo_same (ls : Nat → Bool) (a : Lw) : ∀ k, lOp (redo ls k a) = lOp a ∧ lRt (redo ls k a) = lRt a ∧ lTp (redo ls k a) = lTp a ∧ lFa (redo ls k a) = lFa a ∧ lCa (redo ls k a) = lCa a
  | 0 => ⟨rfl, rfl, rfl, rfl, rfl⟩
  | k + 1 => by
    obtain ⟨h1, h2, h3, h4, h5⟩ := redo_same ls a k
    unfold redo
    split
    · obtain ⟨e1, e2, e3, e4, e5⟩ := ensure_same (redo ls k a) (placeOf (redo ls k a) k)
      exact ⟨e1.trans h1, e2.trans h2, e3.trans h3, e4.trans h4, e5.trans h5⟩
    · exact ⟨h1, h2, h3, h4, h5⟩
theorem dug_op (a : Lw) (t : Nat) : lOp (dug a t) t = true := by
  have := (redo_same (lostBy t (dropTun (digA a t) t)) (reset (dropTun (digA a t) t) t) (lMo (dropTun (digA a t) t)).length).1
  show lOp (redo _ _ _) t = true
  rw [this]; exact va_up_self _ _ _
theorem dug_rt (a : Lw) (t : Nat) : lRt (dug a t) t = nI 0 := by
  have := (redo_same (lostBy t (dropTun (digA a t) t)) (reset (dropTun (digA a t) t) t) (lMo (dropTun (digA a t) t)).length).2.1
  show lRt (redo _ _ _) t = nI 0
  rw [this]; exact upd_s _ _ _
theorem dug_tp (a : Lw) (t : Nat) : lTp (dug a t) t = nN := by
  have := (redo_same (lostBy t (dropTun (digA a t) t)) (reset (dropTun (digA a t) t) t) (lMo (dropTun (digA a t) t)).length).2.2.1
  show lTp (redo _ _ _) t = nN
  rw [this]; exact upd_s _ _ _
theorem i_sub_self (x y : Int32) : x + y - x = y := by rw [Int32.add_comm, Int32.add_sub_cancel]
theorem crN_len (t : Nat) : ∀ T : Tu, (dropT t T).length + crN T t = T.length
  | [] => rfl
  | r :: T => by
    have ih := crN_len t T
    unfold dropT crN at ih ⊢
    by_cases e : t ∈ r
    · rw [List.filter_cons_of_neg (by simp [e]), List.countP_cons_of_pos (by simp [e]), List.length_cons]; omega
    · rw [List.filter_cons_of_pos (by simp [e]), List.countP_cons_of_neg (by simp [e]), List.length_cons, List.length_cons]; omega
theorem dug_fal (a : Lw) (t : Nat) : lFa (dug a t) - lFa a = nI (crN (lTu a) t) := by
  have := (redo_same (lostBy t (dropTun (digA a t) t)) (reset (dropTun (digA a t) t) t) (lMo (dropTun (digA a t) t)).length).2.2.2.1
  show lFa (redo _ _ _) - _ = _
  rw [this]
  show lFa a + nI ((lTu a).length - (dropT t (lTu a)).length) - lFa a = _
  rw [i_sub_self]
  congr 1
  have := crN_len t (lTu a)
  omega
theorem dug_len (a : Lw) (t : Nat) : (lMo (dug a t)).length = ((lMo a).filter (notAt t)).length := by
  show (lMo (redo _ _ _)).length = _
  rw [redo_len]
  exact List.length_map _
theorem at_cnt {M : List Ml} (t : Nat) : ∀ n, n ≤ M.length → cnt (fun i => lastOf (mTr (mlA M i)) == t) n + ((M.take n).filter (notAt t)).length = n
  | 0, _ => by simp [cnt]
  | n + 1, h => by
    have ih := at_cnt (M := M) t n (by omega)
    rw [ml_take (by omega), List.filter_append, List.length_append]
    cases e : (lastOf (mTr (mlA M n)) == t) with
    | true =>
      rw [cnt_t (p := fun i => lastOf (mTr (mlA M i)) == t) e, List.filter_cons_of_neg (by simp [notAt, e])]
      simp; omega
    | false =>
      rw [cnt_f (p := fun i => lastOf (mTr (mlA M i)) == t) e, List.filter_cons_of_pos (by simp [notAt, e])]
      simp; omega
theorem at_all (M : List Ml) (t : Nat) : M.length - (M.filter (notAt t)).length = cnt (fun i => lastOf (mTr (mlA M i)) == t) M.length := by
  have := at_cnt (M := M) t M.length (Nat.le_refl _)
  rw [List.take_length] at this
  omega
theorem splitT_len (t : Nat) : ∀ T : Tu, T.length ≤ (splitT t T).length
  | [] => Nat.le_refl _
  | r :: T => by
    have ih := splitT_len t T
    have e : splitT t (r :: T) = splitR t r ++ splitT t T := rfl
    rw [e, List.length_append, List.length_cons]
    have : 1 ≤ (splitR t r).length := by
      unfold splitR
      split <;> simp
    omega
theorem ensure_tlen (a : Lw) (t : Nat) : (lTu a).length ≤ (lTu (ensure a t)).length := by
  unfold ensure
  split
  · exact Nat.le_refl _
  · show _ ≤ (splitT t (lTu a) ++ (lMo a).flatMap (cutsOf t)).length
    have := splitT_len t (lTu a)
    rw [List.length_append]; omega
theorem redo_tlen (ls : Nat → Bool) (a : Lw) : ∀ k, (lTu a).length ≤ (lTu (redo ls k a)).length
  | 0 => Nat.le_refl _
  | k + 1 => by
    have ih := redo_tlen ls a k
    unfold redo
    split
    · have := ensure_tlen (redo ls k a) (placeOf (redo ls k a) k)
      show _ ≤ (lTu (ensure (redo ls k a) (placeOf (redo ls k a) k))).length
      omega
    · exact ih
theorem dug_tlen (a : Lw) (t : Nat) : (lTu a).length ≤ (lTu (dug a t)).length + crN (lTu a) t := by
  have h := redo_tlen (lostBy t (dropTun (digA a t) t)) (reset (dropTun (digA a t) t) t) (lMo (dropTun (digA a t) t)).length
  have h : (dropT t (lTu a)).length ≤ (lTu (dug a t)).length := h
  have := crN_len t (lTu a)
  omega
/-- nothing of a lawn comes to a tuft -/
def noT (t : Nat) (a : Lw) : Prop := lMn a t = false ∧ (∀ r ∈ lTu a, t ∉ r) ∧ ∀ m ∈ lMo a, t ∉ mTr m
theorem ensure_no {a : Lw} {t x : Nat} (e : t ≠ x) (h : noT t a) : noT t (ensure a x) := by
  unfold ensure
  split
  · exact h
  · refine ⟨?_, fun r hr => ?_, fun m hm => ?_⟩
    · show va_up (lMn a) x true t = false
      rw [va_up_ne _ _ e]; exact h.1
    · have hr : r ∈ splitT x (lTu a) ++ (lMo a).flatMap (cutsOf x) := hr
      rcases List.mem_append.mp hr with z | z
      · obtain ⟨y, hy, z⟩ := List.mem_flatMap.mp z
        have g := h.2.1 y hy
        unfold splitR at z
        split at z
        · rename_i w
          rcases List.mem_cons.mp z with q | q
          · subst q; exact fun q => g (upTo_mem t q)
          · have q : r = fromLast x y := by simpa using q
            subst q; exact fun q => g (fromLast_mem w t q)
        · have q : r = y := by simpa using z
          subst q; exact g
      · obtain ⟨y, hy, z⟩ := List.mem_flatMap.mp z
        have g := h.2.2 y hy
        unfold cutsOf at z
        split at z
        · have q : r = upTo x (mTr y) := by simpa using z
          subst q; exact fun q => g (upTo_mem t q)
        · exact absurd z (by simp)
    · have hm : m ∈ (lMo a).map (cutM x) := hm
      obtain ⟨y, hy, rfl⟩ := List.mem_map.mp hm
      have g := h.2.2 y hy
      unfold cutM
      split
      · rename_i w
        exact fun q => g (fromLast_mem w.1 t q)
      · exact g
theorem fillAir_no {a : Lw} {t i : Nat} (hi : i < (lMo a).length) (h : noT t a) : noT t (fillAir a i) := ⟨h.1, h.2.1, fun m hm => by
  rcases set_mem hm with z | z
  · exact h.2.2 m z
  · subst z; exact (h.2.2 (mlA (lMo a) i) (mlA_mem hi) : t ∉ mTr (mlA (lMo a) i))⟩
theorem redo_no {ls : Nat → Bool} {a : Lw} {t : Nat} (hne : ∀ m ∈ lMo a, mTr m ≠ []) (hp : ∀ i, i < (lMo a).length → placeOf a i ≠ t) (h : noT t a) : ∀ k, k ≤ (lMo a).length → noT t (redo ls k a)
  | 0, _ => h
  | k + 1, hk => by
    have ih := redo_no (ls := ls) hne hp h k (by omega)
    have hlen := redo_len ls a k
    unfold redo
    split
    · refine fillAir_no (by rw [ensure_len]; omega) (ensure_no (fun e => ?_) ih)
      rw [redo_place hne k k (by omega)] at e
      exact hp k (by omega) e.symm
    · exact ih
theorem dug_no {n : Nat} {a : Lw} {t : Nat} (hg : Good n a) : noT t (dug a t) := by
  have hmem : ∀ m ∈ (lMo a).filter (notAt t), m ∈ lMo a ∧ lastOf (mTr m) ≠ t := fun m hm => by
    obtain ⟨z1, z2⟩ := List.mem_filter.mp hm
    exact ⟨z1, by simpa [notAt] using z2⟩
  have hl : (lMo (reset (dropTun (digA a t) t) t)).length = (lMo (dropTun (digA a t) t)).length := List.length_map _
  have hl2 : (lMo (dropTun (digA a t) t)).length = ((lMo a).filter (notAt t)).length := rfl
  refine redo_no (fun m hm => ?_) (fun i hi => ?_) ⟨va_up_self _ _ _, fun r hr => ?_, fun m hm => ?_⟩ _ (by omega)
  · obtain ⟨x, hx, rfl⟩ := List.mem_map.mp hm
    unfold resetM
    split
    · show [lastOf (mTr x)] ≠ []; simp
    · exact (hg.1.2.1 x (hmem x hx).1).2.2.1
  · have e : mlA (lMo (reset (dropTun (digA a t) t) t)) i = resetM t (mlA ((lMo a).filter (notAt t)) i) := ml_map (by omega)
    have hm := (hmem _ (mlA_mem (M := (lMo a).filter (notAt t)) (i := i) (by omega))).2
    unfold placeOf
    rw [e]
    unfold resetM
    split
    · exact hm
    · exact hm
  · have hr : r ∈ dropT t (lTu a) := hr
    exact (dropT_mem hr).2
  · obtain ⟨x, hx, rfl⟩ := List.mem_map.mp hm
    unfold resetM
    split
    · show t ∉ [lastOf (mTr x)]
      intro q
      have : t = lastOf (mTr x) := by simpa using q
      exact (hmem x hx).2 this.symm
    · rename_i q
      exact q
theorem no_hol {a : Lw} {t : Nat} (h : noT t a) : hol a t = false := by
  unfold hol
  have h1 : inT (lTu a) t = false := by
    unfold inT
    rw [List.any_eq_false]
    intro r hr
    simpa using h.2.1 r hr
  have h2 : inM (lMo a) t = false := by
    unfold inM
    rw [List.any_eq_false]
    intro m hm
    simpa using h.2.2 m hm
  rw [h1, h2]; rfl
theorem hol_row {a : Lw} {t : Nat} {r : List Nat} (hr : r ∈ lTu a) (h : t ∈ r) : hol a t = true := by
  unfold hol
  have : inT (lTu a) t = true := List.any_eq_true.mpr ⟨r, hr, by simpa using h⟩
  rw [this]; rfl
theorem hol_mole {a : Lw} {t : Nat} {m : Ml} (hm : m ∈ lMo a) (h : t ∈ mTr m) : hol a t = true := by
  unfold hol
  have : inM (lMo a) t = true := List.any_eq_true.mpr ⟨m, hm, by simpa using h⟩
  rw [this, Bool.or_true]
/-! How many were caught, over beats. -/
def sumC (a : Lw) : Int32 := lCa a + nI (lMo a).length
theorem ensure_sumC (a : Lw) (t : Nat) : sumC (ensure a t) = sumC a := by
  unfold sumC
  rw [ensure_len, (ensure_same a t).2.2.2.2]
theorem airEnd_sumC (a : Lw) (i : Nat) : sumC (airEnd a i) = sumC a := by
  unfold airEnd
  split
  · rw [← ensure_sumC a (placeOf a i)]
    show lCa (ensure a (placeOf a i)) + nI ((lMo (ensure a (placeOf a i))).set i _).length = _
    rw [List.length_set]; rfl
  · rfl
theorem act_sumC {a : Lw} {i : Nat} (hi : i < (lMo a).length) : sumC (act a i).2 = sumC a := by
  unfold act
  split
  · rfl
  · cases hst : stp (placeOf a i) (at0 (mPl (mlA (lMo a) i)) 0) with
    | none =>
      show lCa a + nI ((lMo a).set i _).length = _
      rw [List.length_set]; rfl
    | some p =>
      show sumC (actTo a i (mPl (mlA (lMo a) i)).tail p).2 = _
      have hw : sumC (went a i (mPl (mlA (lMo a) i)).tail p) = sumC a := by
        show lCa a + nI ((lMo a).set i _).length = _
        rw [List.length_set]; rfl
      unfold actTo
      split
      · split
        · show lCa a + 1 + nI (((lMo a).set i _).eraseIdx i).length = lCa a + nI (lMo a).length
          rw [List.length_eraseIdx_of_lt (by rw [List.length_set]; exact hi), List.length_set, Int32.add_assoc]
          congr 1
          rw [show (1 : Int32) = nI 1 from rfl, nI_add]
          congr 1; omega
        · split
          · show lCa a + nI (((lMo a).set i _).set i _).length = _
            rw [List.length_set, List.length_set]; rfl
          · show sumC (airEnd (went a i (mPl (mlA (lMo a) i)).tail p) i) = _
            rw [airEnd_sumC, hw]
      · show sumC (airEnd (gnaw a i p) i) = _
        rw [airEnd_sumC]
        show lCa a + nI ((lMo a).set i _).length = _
        rw [List.length_set]; rfl
theorem moves_sumC : ∀ (k i : Nat) (a : Lw), sumC (moves k i a) = sumC a
  | 0, _, _ => rfl
  | k + 1, i, a => by
    by_cases e : i < (lMo a).length
    · rw [moves_in e, moves_sumC k, act_sumC e]
    · rw [moves_out e]
theorem beatN_sumC (a : Lw) : ∀ k, sumC (beatN k a) = sumC a
  | 0 => rfl
  | k + 1 => by
    rw [← beatN_sumC a k]
    show sumC (moves _ 0 (tick (beatN k a))) = _
    rw [moves_sumC]; rfl
theorem i_swap {x y p q : Int32} (h : x + p = y + q) : p = q - (x - y) := by
  have e1 : x - y + y = x := Int32.sub_add_cancel x y
  have e2 : y + (x - y + p) = y + q := by rw [← Int32.add_assoc, Int32.add_comm y (x - y), e1, h]
  have e3 : x - y + p = q := by rw [← i_sub_self y (x - y + p), e2, i_sub_self]
  rw [← e3, i_sub_self]
theorem beatN_moles (a : Lw) (k : Nat) : nI (lMo (beatN k a)).length = nI (lMo a).length - (lCa (beatN k a) - lCa a) := i_swap (beatN_sumC a k)
