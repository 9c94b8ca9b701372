/-! What holds of every lawn: where mounds are, how long trails are, how many steps there are in all. -/
def ph (T : Tu) : Nat := (T.map (fun r => r.length - 1)).sum
def wM (m : Ml) : Nat := (mPl m).length + ((mTr m).length - 1)
def pm (M : List Ml) : Nat := (M.map wM).sum
theorem ph_app (A B : Tu) : ph (A ++ B) = ph A + ph B := by simp [ph]
theorem ph_cons (r : List Nat) (B : Tu) : ph (r :: B) = (r.length - 1) + ph B := by simp [ph]
theorem ph_nil : ph [] = 0 := rfl
theorem pm_app (A B : List Ml) : pm (A ++ B) = pm A + pm B := by simp [pm]
theorem pm_cons (m : Ml) (B : List Ml) : pm (m :: B) = wM m + pm B := by simp [pm]
theorem ml_split2 {M : List Ml} {i : Nat} (h : i < M.length) : M = M.take i ++ mlA M i :: M.drop (i + 1) := by
  conv => lhs; rw [← List.take_append_drop i M, ml_split h]
theorem pm_at {M : List Ml} {i : Nat} (h : i < M.length) : pm M = pm (M.take i) + (wM (mlA M i) + pm (M.drop (i + 1))) := by
  conv => lhs; rw [ml_split2 h]
  rw [pm_app, pm_cons]
theorem pm_set {M : List Ml} {i : Nat} (h : i < M.length) (m : Ml) : pm (M.set i m) + wM (mlA M i) = pm M + wM m := by
  rw [pm_at h, List.set_eq_take_append_cons_drop, if_pos h, pm_app, pm_cons]; omega
theorem pm_erase {M : List Ml} {i : Nat} (h : i < M.length) : pm (M.eraseIdx i) + wM (mlA M i) = pm M := by
  rw [pm_at h, List.eraseIdx_eq_take_drop_succ, pm_app]; omega
theorem pm_filter (p : Ml → Bool) : ∀ M : List Ml, pm (M.filter p) ≤ pm M
  | [] => Nat.le_refl _
  | m :: M => by
    have := pm_filter p M
    rw [List.filter_cons, pm_cons]
    split
    · rw [pm_cons]; omega
    · omega
theorem pm_map {f : Ml → Ml} (h : ∀ m, wM (f m) ≤ wM m) : ∀ M : List Ml, pm (M.map f) ≤ pm M
  | [] => Nat.le_refl _
  | m :: M => by
    have := pm_map h M
    have := h m
    rw [List.map_cons, pm_cons, pm_cons]; omega
theorem ph_len : ∀ {T : Tu}, (∀ r ∈ T, 2 ≤ r.length) → T.length ≤ ph T ∧ T.flatten.length = ph T + T.length
  | [], _ => ⟨Nat.le_refl _, rfl⟩
  | r :: T, h => by
    obtain ⟨h1, h2⟩ := ph_len (T := T) (fun x hx => h x (List.mem_cons_of_mem _ hx))
    have := h r List.mem_cons_self
    rw [ph_cons, List.flatten_cons, List.length_append, List.length_cons]
    omega
theorem fit_ph {T : Tu} (h : ∀ r ∈ T, 2 ≤ r.length) (hp : ph T ≤ 512) : fitT T := by
  obtain ⟨h1, h2⟩ := ph_len h
  exact ⟨by omega, by omega⟩
theorem at0_lt_mem {L : List Nat} {k : Nat} (h : k < L.length) : at0 L k ∈ L := at0_mem h
def goodR (mn : Nat → Bool) (r : List Nat) : Prop := 2 ≤ r.length ∧ (∀ x ∈ r, x < 64) ∧ mn (at0 r 0) = true ∧ mn (lastOf r) = true ∧ at0 r 0 ≠ lastOf r
def goodM (mn : Nat → Bool) (m : Ml) : Prop := (mPl m).length ≤ 20 ∧ (∀ d ∈ mPl m, d < 4) ∧ mTr m ≠ [] ∧ (∀ x ∈ mTr m, x < 64) ∧ (mTr m).length + mAi m ≤ 21 ∧ mn (at0 (mTr m) 0) = true ∧ ∀ x ∈ (mTr m).tail, mn x = false
def Good0 (n : Nat) (a : Lw) : Prop := (lMo a).length ≤ 4 ∧ (∀ m ∈ lMo a, goodM (lMn a) m) ∧ 2 ≤ lAi a ∧ lAi a ≤ 20 ∧ (∀ r ∈ lTu a, goodR (lMn a) r) ∧ ph (lTu a) + pm (lMo a) ≤ n
def Good (n : Nat) (a : Lw) : Prop := Good0 n a ∧ ∀ m ∈ lMo a, 1 ≤ mAi m
theorem goodM.ok {mn : Nat → Bool} {m : Ml} (h : goodM mn m) : okM m := by
  obtain ⟨h1, h2, h3, h4, h5, h6, h7⟩ := h
  have := List.length_pos_iff.mpr h3
  exact ⟨⟨h1, by omega, by omega⟩, h4, h2, by omega⟩
theorem Good0.T {n : Nat} {a : Lw} (h : Good0 n a) (hn : n ≤ 512) : okT (lTu a) := by
  obtain ⟨h1, h2, h3, h4, h5, h6⟩ := h
  refine ⟨fun r hr => ⟨?_, (h5 r hr).2.1⟩, fit_ph (fun r hr => (h5 r hr).1) (by omega)⟩
  intro e
  have := (h5 r hr).1
  rw [e] at this; simp at this
theorem Good0.fit {n : Nat} {a : Lw} (h : Good0 n a) (hn : n ≤ 512) : fitL a := ⟨⟨(h.T hn).2, (h.T hn).1⟩, ⟨h.1, fun m hm => (h.2.1 m hm).ok⟩, h.2.2.2.1⟩
theorem Good.air {n : Nat} {a : Lw} (h : Good n a) : airOk a := fun i hi _ => ⟨h.2 _ (mlA_mem hi), (h.1.2.1 _ (mlA_mem hi)).2.2.2.2.1⟩
theorem idx_at0 {L : List Nat} {t : Nat} (h : t ∈ L) : at0 L (L.idxOf t) = t := by
  have := List.idxOf_lt_length_iff.mpr h
  simp [at0, this]
theorem fromLast_ix : ∀ {t : Nat} {r : List Nat}, t ∈ r → ∃ l, l < r.length ∧ at0 r l = t ∧ fromLast t r = r.drop l ∧ r.idxOf t ≤ l ∧ t ∉ (r.drop (l + 1))
  | t, [], h => by simp at h
  | t, x :: r, h => by
    by_cases e : t ∈ r
    · obtain ⟨l, h1, h2, h3, h4, h5⟩ := fromLast_ix e
      refine ⟨l + 1, by simpa using h1, by rw [at0_s]; exact h2, ?_, ?_, h5⟩
      · rw [fromLast, if_pos e, h3]; rfl
      · by_cases e2 : x = t
        · subst e2; simp
        · have hb : (x == t) = false := by simpa using e2
          simp [List.idxOf_cons, hb]; exact h4
    · have ex : t = x := by
        rcases List.mem_cons.mp h with z | z
        · exact z
        · exact absurd z e
      refine ⟨0, by simp, by rw [at0_0, ex], ?_, ?_, e⟩
      · rw [fromLast, if_neg e]; rfl
      · subst ex; simp
theorem fromLast_first {t : Nat} {r : List Nat} (h : t ∈ r) : at0 (fromLast t r) 0 = t := by
  obtain ⟨l, h1, h2, h3, -⟩ := fromLast_ix h
  rw [h3, at0_drop]; exact h2
theorem fromLast_tail {t : Nat} {r : List Nat} (h : t ∈ r) : ∀ x ∈ (fromLast t r).tail, x ∈ r.tail ∧ x ≠ t := by
  obtain ⟨l, h1, h2, h3, h4, h5⟩ := fromLast_ix h
  intro x hx
  rw [h3, List.tail_drop] at hx
  refine ⟨?_, fun e => h5 (e ▸ hx)⟩
  rw [← List.drop_one]
  rw [show l + 1 = 1 + l by omega, ← List.drop_drop] at hx
  exact List.mem_of_mem_drop hx
theorem fromLast_mem {t : Nat} {r : List Nat} (h : t ∈ r) : ∀ x ∈ fromLast t r, x ∈ r := by
  obtain ⟨l, h1, h2, h3, -⟩ := fromLast_ix h
  intro x hx
  rw [h3] at hx
  exact List.mem_of_mem_drop hx
theorem fromLast_len {t : Nat} {r : List Nat} (h : t ∈ r) : (fromLast t r).length + r.idxOf t ≤ r.length := by
  obtain ⟨l, h1, h2, h3, h4, -⟩ := fromLast_ix h
  rw [h3, List.length_drop]; omega
theorem fromLast_two {t : Nat} {r : List Nat} (h : t ∈ r) (hl : lastOf r ≠ t) : 2 ≤ (fromLast t r).length := by
  obtain ⟨l, h1, h2, h3, h4, h5⟩ := fromLast_ix h
  rw [h3, List.length_drop]
  have : l ≠ r.length - 1 := fun e => hl (by unfold lastOf; rw [← e]; exact h2)
  omega
theorem upTo_first {t : Nat} {r : List Nat} : at0 (upTo t r) 0 = at0 r 0 := at0_take (by omega)
theorem upTo_last {t : Nat} {r : List Nat} (h : t ∈ r) : lastOf (upTo t r) = t := by
  unfold lastOf
  rw [upTo_len h, Nat.add_sub_cancel, upTo, at0_take (by omega), idx_at0 h]
theorem upTo_mem {t : Nat} {r : List Nat} : ∀ x ∈ upTo t r, x ∈ r := fun x hx => List.mem_of_mem_take hx
theorem idx_pos {t : Nat} {r : List Nat} (h : t ∈ r) (h0 : at0 r 0 ≠ t) : r.idxOf t ≠ 0 := fun e => h0 (by
  have := idx_at0 h
  rwa [e] at this)
theorem up_true {mn : Nat → Bool} {t x : Nat} (h : mn x = true) : va_up mn t true x = true := by
  by_cases e : x = t
  · subst e; exact va_up_self _ _ _
  · rw [va_up_ne _ _ e]; exact h
theorem up_false {mn : Nat → Bool} {t x : Nat} (h : mn x = false) (e : x ≠ t) : va_up mn t true x = false := by
  rw [va_up_ne _ _ e]; exact h
theorem ne_mn {mn : Nat → Bool} {t x : Nat} (h : mn x = true) (ht : mn t = false) : x ≠ t := fun e => by rw [e, ht] at h; exact absurd h (by decide)
theorem goodR_up {mn : Nat → Bool} {r : List Nat} {t : Nat} (h : goodR mn r) : goodR (va_up mn t true) r := ⟨h.1, h.2.1, up_true h.2.2.1, up_true h.2.2.2.1, h.2.2.2.2⟩
theorem split_good {mn : Nat → Bool} {T : Tu} {t : Nat} (ht : mn t = false) (h : ∀ r ∈ T, goodR mn r) : ∀ r ∈ splitT t T, goodR (va_up mn t true) r := by
  intro r hr
  obtain ⟨x, hx, hr⟩ := List.mem_flatMap.mp hr
  have g := h x hx
  unfold splitR at hr
  split at hr
  · rename_i y
    have n0 := ne_mn g.2.2.1 ht
    have n1 := ne_mn g.2.2.2.1 ht
    rcases List.mem_cons.mp hr with e | hr
    · subst e
      refine ⟨?_, fun z hz => g.2.1 z (upTo_mem z hz), ?_, ?_, ?_⟩
      · have := idx_pos y n0
        rw [upTo_len y]; omega
      · rw [upTo_first]; exact up_true g.2.2.1
      · rw [upTo_last y]; exact va_up_self _ _ _
      · rw [upTo_first, upTo_last y]; exact n0
    · have e : r = fromLast t x := by simpa using hr
      subst e
      refine ⟨fromLast_two y n1, fun z hz => g.2.1 z (fromLast_mem y z hz), ?_, ?_, ?_⟩
      · rw [fromLast_first y]; exact va_up_self _ _ _
      · rw [(fromLast_ne y).2]; exact up_true g.2.2.2.1
      · rw [fromLast_first y, (fromLast_ne y).2]; exact fun e => n1 e.symm
  · have e : r = x := by simpa using hr
    subst e
    exact goodR_up g
theorem split_ph (t : Nat) : ∀ T : Tu, ph (splitT t T) ≤ ph T
  | [] => Nat.le_refl _
  | r :: T => by
    have := split_ph t T
    have e : splitT t (r :: T) = splitR t r ++ splitT t T := rfl
    rw [e, ph_app, ph_cons]
    have : ph (splitR t r) ≤ r.length - 1 := by
      unfold splitR
      split
      · rename_i y
        have h1 := fromLast_len y
        have h2 := List.length_pos_iff.mpr (fromLast_ne y).1
        rw [ph_cons, ph_cons, ph_nil, upTo_len y]; omega
      · rw [ph_cons, ph_nil]; omega
    omega
theorem split_ok {mn : Nat → Bool} {T : Tu} {t : Nat} (ht : mn t = false) (h : ∀ r ∈ T, goodR mn r) (hp : ph T ≤ 512) : splitOk t T := by
  refine ⟨fun r hr => ⟨?_, (h r hr).2.1, ne_mn (h r hr).2.2.2.1 ht⟩, fun k hk => fit_ph (fun r hr => ?_) ?_⟩
  · intro e
    have := (h r hr).1
    rw [e] at this; simp at this
  · rcases List.mem_append.mp hr with z | z
    · exact (split_good ht (fun x hx => h x (List.mem_of_mem_take hx)) r z).1
    · exact (h r (List.mem_of_mem_drop z)).1
  · rw [ph_app]
    have h1 := split_ph t (T.take k)
    have h2 := congrArg ph (List.take_append_drop k T)
    rw [ph_app] at h2
    omega
theorem goodM_cut {mn : Nat → Bool} {m : Ml} {t : Nat} (ht : mn t = false) (h : goodM mn m) : goodM (va_up mn t true) (cutM t m) ∧ (∀ r ∈ cutsOf t m, goodR (va_up mn t true) r) ∧ ph (cutsOf t m) + wM (cutM t m) ≤ wM m := by
  obtain ⟨h1, h2, h3, h4, h5, h6, h7⟩ := h
  have n0 := ne_mn h6 ht
  by_cases y : t ∈ mTr m
  · have hi := idx_pos y n0
    have e1 : cutsOf t m = [upTo t (mTr m)] := if_pos ⟨y, hi⟩
    have e2 : cutM t m = (mPl m, fromLast t (mTr m), mAi m, mSt m) := if_pos ⟨y, hi⟩
    have hl := fromLast_len y
    have hp := List.length_pos_iff.mpr (fromLast_ne y).1
    rw [e1, e2]
    refine ⟨⟨h1, h2, (fromLast_ne y).1, fun x hx => h4 x (fromLast_mem y x hx), ?_, ?_, fun x hx => ?_⟩, fun r hr => ?_, ?_⟩
    · show (fromLast t (mTr m)).length + mAi m ≤ 21; omega
    · show va_up mn t true (at0 (fromLast t (mTr m)) 0) = true
      rw [fromLast_first y]; exact va_up_self _ _ _
    · obtain ⟨z1, z2⟩ := fromLast_tail y x hx
      exact up_false (h7 x z1) z2
    · have e : r = upTo t (mTr m) := by simpa using hr
      subst e
      refine ⟨by rw [upTo_len y]; omega, fun x hx => h4 x (upTo_mem x hx), ?_, ?_, ?_⟩
      · rw [upTo_first]; exact up_true h6
      · rw [upTo_last y]; exact va_up_self _ _ _
      · rw [upTo_first, upTo_last y]; exact n0
    · rw [ph_cons, ph_nil, upTo_len y]
      show _ + ((mPl m).length + ((fromLast t (mTr m)).length - 1)) ≤ (mPl m).length + ((mTr m).length - 1)
      omega
  · have e1 : cutsOf t m = [] := if_neg (fun q => y q.1)
    have e2 : cutM t m = m := if_neg (fun q => y q.1)
    rw [e1, e2]
    refine ⟨⟨h1, h2, h3, h4, h5, up_true h6, fun x hx => up_false (h7 x hx) (fun e => y (e ▸ List.mem_of_mem_tail hx))⟩, fun r hr => absurd hr (by simp), by rw [ph_nil]; omega⟩
theorem cuts_ph {mn : Nat → Bool} {t : Nat} (ht : mn t = false) : ∀ {M : List Ml}, (∀ m ∈ M, goodM mn m) → ph (M.flatMap (cutsOf t)) + pm (M.map (cutM t)) ≤ pm M
  | [], _ => Nat.le_refl _
  | m :: M, h => by
    have h1 := cuts_ph ht (M := M) (fun x hx => h x (List.mem_cons_of_mem _ hx))
    have h2 := (goodM_cut ht (h m List.mem_cons_self)).2.2
    rw [List.flatMap_cons, List.map_cons, ph_app, pm_cons, pm_cons]; omega
theorem comesUp_good {n : Nat} {a : Lw} {t : Nat} (h : Good0 n a) (ht : lMn a t = false) : Good0 n (comesUp a t) := by
  obtain ⟨h1, h2, h3, h4, h5, h6⟩ := h
  refine ⟨?_, fun m hm => ?_, h3, h4, fun r hr => ?_, ?_⟩
  · show ((lMo a).map (cutM t)).length ≤ 4
    rw [List.length_map]; exact h1
  · have hm : m ∈ (lMo a).map (cutM t) := hm
    obtain ⟨x, hx, rfl⟩ := List.mem_map.mp hm
    exact (goodM_cut ht (h2 x hx)).1
  · have hr : r ∈ splitT t (lTu a) ++ (lMo a).flatMap (cutsOf t) := hr
    rcases List.mem_append.mp hr with z | z
    · exact split_good ht h5 r z
    · obtain ⟨x, hx, z⟩ := List.mem_flatMap.mp z
      exact (goodM_cut ht (h2 x hx)).2.1 r z
  · show ph (splitT t (lTu a) ++ (lMo a).flatMap (cutsOf t)) + pm ((lMo a).map (cutM t)) ≤ n
    rw [ph_app]
    have := split_ph t (lTu a)
    have := cuts_ph ht h2
    omega
theorem cutM_air (t : Nat) (m : Ml) : mAi (cutM t m) = mAi m := by
  unfold cutM; split <;> rfl
theorem ensure_good {n : Nat} {a : Lw} {t : Nat} (h : Good0 n a) : Good0 n (ensure a t) := by
  unfold ensure
  split
  · exact h
  · rename_i e
    exact comesUp_good h (by simpa using e)
theorem ensure_airs {a : Lw} {t i : Nat} (hi : i < (lMo a).length) : mAi (mlA (lMo (ensure a t)) i) = mAi (mlA (lMo a) i) := by
  unfold ensure
  split
  · rfl
  · show mAi (mlA ((lMo a).map (cutM t)) i) = _
    rw [ml_map hi, cutM_air]
theorem ensure_mn (a : Lw) (t : Nat) : lMn (ensure a t) t = true := by
  unfold ensure
  split
  · assumption
  · exact va_up_self _ _ _
theorem ensure_mn2 {a : Lw} {t x : Nat} (h : lMn a x = true) : lMn (ensure a t) x = true := by
  unfold ensure
  split
  · exact h
  · exact up_true h
