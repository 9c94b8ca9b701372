theorem nextE_spec (T : Tu) (t : Nat) : ∀ n i, i + n = T.length → (∀ k, i ≤ k → k < nextE T t i → endA (row T k) t = false) ∧ (nextE T t i < T.length → endA (row T (nextE T t i)) t = true)
  | 0, i, h => by
    have h1 := nextE_none (T := T) (t := t) (i := i) (by omega) (fun j h1 h2 => by omega)
    rw [h1]
    exact ⟨fun k h1 h2 => by omega, fun q => by omega⟩
  | n + 1, i, h => by
    have hi : i < T.length := by omega
    have ih := nextE_spec T t n (i + 1) (by omega)
    rw [nextE_s hi]
    cases e : endA (row T i) t with
    | true =>
      rw [if_pos rfl]
      exact ⟨fun k h1 h2 => by omega, fun _ => e⟩
    | false =>
      simp only [Bool.false_eq_true, if_false]
      refine ⟨fun k h1 h2 => ?_, ih.2⟩
      by_cases z : k = i
      · rw [z]; exact e
      · exact ih.1 k (by omega) h2
theorem nextE_sp {T : Tu} {t i : Nat} (h : i ≤ T.length) : (∀ k, i ≤ k → k < nextE T t i → endA (row T k) t = false) ∧ (nextE T t i < T.length → endA (row T (nextE T t i)) t = true) := nextE_spec T t (T.length - i) i (by omega)
theorem row_of_mem {T : Tu} {r : List Nat} (h : r ∈ T) : ∃ k, k < T.length ∧ row T k = r := by
  obtain ⟨k, hk, e⟩ := List.mem_iff_getElem.mp h
  exact ⟨k, hk, by simp [row, hk, e]⟩
theorem build_mem {f : Nat → Tu} {n : Nat} {r : List Nat} (h : r ∈ build n f) : ∃ k, k < n ∧ r ∈ f k := by
  obtain ⟨k, hk, hr⟩ := List.mem_flatMap.mp h
  exact ⟨k, List.mem_range.mp hk, hr⟩
/-- what joining asks, told by places -/
theorem rakeB_facts {T : Tu} {t : Nat} (h : rakeB T t = true) : ∃ i j, nextE T t 0 = i ∧ nextE T t (i + 1) = j ∧ i < j ∧ j < T.length ∧ endA (row T i) t = true ∧ endA (row T j) t = true ∧ (∀ k, k < T.length → k ≠ i → k ≠ j → endA (row T k) t = false) ∧ otherE (row T i) t ≠ otherE (row T j) t := by
  unfold rakeB at h
  simp only [Bool.and_eq_true, decide_eq_true_eq] at h
  obtain ⟨h1, h2, h3, h4⟩ := h
  have s0 := nextE_sp (T := T) (t := t) (i := 0) (Nat.zero_le _)
  have s1 := nextE_sp (T := T) (t := t) (i := nextE T t 0 + 1) h1
  have s2 := nextE_sp (T := T) (t := t) (i := nextE T t (nextE T t 0 + 1) + 1) h2
  have g1 := nextE_ge T t (nextE T t 0 + 1)
  refine ⟨_, _, rfl, rfl, by omega, h2, s0.2 h1, s1.2 h2, fun k hk k1 k2 => ?_, h4⟩
  by_cases a1 : k < nextE T t 0
  · exact s0.1 k (Nat.zero_le _) a1
  · by_cases a2 : k < nextE T t (nextE T t 0 + 1)
    · exact s1.1 k (by omega) a2
    · exact s2.1 k (by omega) (by omega)
theorem dirL_mem {b : Bool} {L : List Nat} {x : Nat} (h : x ∈ dirL b L) : x ∈ L := by
  unfold dirL at h
  split at h
  · exact h
  · exact List.mem_reverse.mp h
theorem first_rev {L : List Nat} (h : L ≠ []) : at0 L.reverse 0 = lastOf L := by
  have := List.length_pos_iff.mpr h
  rw [at0_rev this]; rfl
theorem last_rev {L : List Nat} (h : L ≠ []) : lastOf L.reverse = at0 L 0 := by
  have := List.length_pos_iff.mpr h
  unfold lastOf
  rw [List.length_reverse, at0_rev (by omega)]
  congr 1; omega
theorem lastOf_app {A B : List Nat} (h : B ≠ []) : lastOf (A ++ B) = lastOf B := by
  have := List.length_pos_iff.mpr h
  unfold lastOf
  rw [at0_r (by rw [List.length_append]; omega)]
  congr 1; rw [List.length_append]; omega
theorem lastOf_tail {L : List Nat} (h : 2 ≤ L.length) : lastOf L.tail = lastOf L := by
  unfold lastOf
  rw [at0_tail, List.length_tail]
  congr 1; omega
theorem endA_or {L : List Nat} {t : Nat} (h : endA L t = true) : at0 L 0 = t ∨ lastOf L = t := by
  simpa [endA] using h
theorem endA_no {L : List Nat} {t : Nat} (h : endA L t = false) : at0 L 0 ≠ t ∧ lastOf L ≠ t := by
  simpa [endA] using h
/-- two tunnels put together at a mound that goes -/
theorem join_good {mn : Nat → Bool} {t : Nat} {r1 r2 : List Nat} (g1 : goodR mn r1) (g2 : goodR mn r2) (e1 : endA r1 t = true) (e2 : endA r2 t = true) (ho : otherE r1 t ≠ otherE r2 t) : goodR (va_up mn t false) (joinR t r1 r2) ∧ (joinR t r1 r2).length - 1 = (r1.length - 1) + (r2.length - 1) := by
  have n1 : r1 ≠ [] := fun e => by have := g1.1; rw [e] at this; simp at this
  have n2 : r2 ≠ [] := fun e => by have := g2.1; rw [e] at this; simp at this
  have hl : (joinR t r1 r2).length = r1.length + (r2.length - 1) := by
    unfold joinR
    rw [List.length_append, dirL_len, List.length_tail, dirL_len]
  have l1 := g1.1
  have l2 := g2.1
  have hf : at0 (joinR t r1 r2) 0 = otherE r1 t := by
    unfold joinR
    rw [at0_l (by rw [dirL_len]; omega)]
    unfold otherE
    by_cases z : lastOf r1 = t
    · rw [show (lastOf r1 == t) = true by simpa using z, dirL_t, if_neg (fun q => g1.2.2.2.2 (q.trans z.symm))]
    · rw [show (lastOf r1 == t) = false by simpa using z, dirL_f, first_rev n1]
      rw [if_pos ((endA_or e1).resolve_right z)]
  have ht2 : (dirL (at0 r2 0 == t) r2).tail ≠ [] := fun e => by
    have := congrArg List.length e
    rw [List.length_tail, dirL_len] at this
    simp at this; omega
  have hlast : lastOf (joinR t r1 r2) = otherE r2 t := by
    unfold joinR
    rw [lastOf_app ht2, lastOf_tail (by rw [dirL_len]; exact l2)]
    unfold otherE
    by_cases z : at0 r2 0 = t
    · rw [show (at0 r2 0 == t) = true by simpa using z, dirL_t, if_pos z]
    · rw [show (at0 r2 0 == t) = false by simpa using z, dirL_f, last_rev n2, if_neg z]
  have oth : ∀ r, goodR mn r → endA r t = true → mn (otherE r t) = true ∧ otherE r t ≠ t := by
    intro r g e
    unfold otherE
    split
    · rename_i z
      exact ⟨g.2.2.2.1, fun q => g.2.2.2.2 (z.trans q.symm)⟩
    · rename_i z
      exact ⟨g.2.2.1, z⟩
  have o1 := oth r1 g1 e1
  have o2 := oth r2 g2 e2
  refine ⟨⟨by omega, fun x hx => ?_, ?_, ?_, ?_⟩, by omega⟩
  · unfold joinR at hx
    rcases List.mem_append.mp hx with z | z
    · exact g1.2.1 x (dirL_mem z)
    · exact g2.2.1 x (dirL_mem (List.mem_of_mem_tail z))
  · rw [hf]; exact up_keep o1.1 o1.2 _
  · rw [hlast]; exact up_keep o2.1 o2.2 _
  · rw [hf, hlast]; exact ho
theorem ph_split2 {T : Tu} {i j : Nat} (hj : j < T.length) (hij : i < j) : ph T = ph (T.take i) + ((row T i).length - 1) + ph ((T.drop (i + 1)).take (j - i - 1)) + ((row T j).length - 1) + ph (T.drop (j + 1)) := by
  conv => lhs; rw [split2 hj hij]
  rw [ph_app, ph_cons, ph_app, ph_cons]; omega
theorem raked_good {n : Nat} {a : Lw} {t : Nat} (h : Good n a) (hb : ∀ m ∈ lMo a, at0 (mTr m) 0 ≠ t) : Good n (raked a t) := by
  obtain ⟨⟨h1, h2, h3, h4, h5, h6⟩, ha⟩ := h
  have hM : ∀ m ∈ lMo a, lMn a t = true → goodM (va_up (lMn a) t false) m := fun m hm em => by
    obtain ⟨g1, g2, g3, g4, g5, g6, g7⟩ := h2 m hm
    refine ⟨g1, g2, g3, g4, g5, up_keep g6 (hb m hm) _, fun x hx => ?_⟩
    by_cases e : x = t
    · rw [e]; exact va_up_self _ _ _
    · exact up_keep (g7 x hx) e _
  have hM2 : ∀ m ∈ lMo a, goodM (va_up (lMn a) t false) m := fun m hm => by
    obtain ⟨g1, g2, g3, g4, g5, g6, g7⟩ := h2 m hm
    refine ⟨g1, g2, g3, g4, g5, up_keep g6 (hb m hm) _, fun x hx => ?_⟩
    by_cases e : x = t
    · rw [e]; exact va_up_self _ _ _
    · exact up_keep (g7 x hx) e _
  unfold raked
  split
  · rename_i hB
    obtain ⟨i, j, e1, e2, hij, hj, ea1, ea2, hoth, hne⟩ := rakeB_facts hB
    rw [e1, e2]
    have gi := h5 _ (row_mem (T := lTu a) (i := i) (by omega))
    have gj := h5 _ (row_mem hj)
    obtain ⟨jg, jl⟩ := join_good gi gj ea1 ea2 hne
    refine ⟨⟨h1, hM2, h3, h4, fun r hr => ?_, ?_⟩, ha⟩
    · have hr : r ∈ joinT (lTu a) i j t := hr
      obtain ⟨k, hk, hr⟩ := build_mem hr
      unfold joinF at hr
      split at hr
      · have : r = joinR t (row (lTu a) i) (row (lTu a) j) := by simpa using hr
        rw [this]; exact jg
      · split at hr
        · exact absurd hr (by simp)
        · rename_i k1 k2
          have : r = row (lTu a) k := by simpa using hr
          rw [this]
          have g := h5 _ (row_mem hk)
          obtain ⟨z1, z2⟩ := endA_no (hoth k hk k1 k2)
          exact ⟨g.1, g.2.1, up_keep g.2.2.1 z1 _, up_keep g.2.2.2.1 z2 _, g.2.2.2.2⟩
    · have hp := ph_split2 hj hij
      show ph (joinT (lTu a) i j t) + pm (lMo a) ≤ n
      rw [joinT_eq hj hij, ph_app, ph_cons, ph_app]
      omega
  · refine ⟨⟨h1, hM2, h3, h4, fun r hr => ?_, ?_⟩, ha⟩
    · have hr : r ∈ dropT t (lTu a) := hr
      obtain ⟨z1, z2⟩ := dropT_mem hr
      exact goodR_drop (h5 r z1) z2
    · have := dropT_ph t (lTu a)
      show ph (dropT t (lTu a)) + pm (lMo a) ≤ n
      omega
theorem welcome_good {n : Nat} {a : Lw} {t : Nat} (h : Good n a) (hl : (lMo a).length < 4) (ht : t < 64) : Good n (welcome a t) := by
  have hg := ensure_good (t := t) h.1
  have hlen := ensure_len a t
  have hair := ensure_air a t
  obtain ⟨h1, h2, h3, h4, h5, h6⟩ := hg
  have hai : ∀ m ∈ lMo (ensure a t), 1 ≤ mAi m := fun m hm => by
    obtain ⟨j, hj, rfl⟩ := mem_ml hm
    rw [ensure_airs (by omega)]
    exact h.2 _ (mlA_mem (by omega))
  refine ⟨⟨by show (lMo (ensure a t) ++ [([], [t], lAi a, 0)]).length ≤ 4; rw [List.length_append, hlen]; simp; omega, fun m hm => ?_, h3, h4, h5, ?_⟩, fun m hm => ?_⟩
  · rcases List.mem_append.mp hm with z | z
    · exact h2 m z
    · have : m = ([], [t], lAi a, 0) := by simpa using z
      subst this
      refine ⟨by show ([] : List Nat).length ≤ 20; simp, fun d hd => (List.not_mem_nil (show d ∈ ([] : List Nat) from hd)).elim, by show [t] ≠ []; simp, fun x hx => ?_, by show 1 + lAi a ≤ 21; omega, ensure_mn a t, fun x hx => (List.not_mem_nil (show x ∈ ([] : List Nat) from hx)).elim⟩
      have hx : x ∈ [t] := hx
      have : x = t := by simpa using hx
      omega
  · show ph (lTu (ensure a t)) + pm (lMo (ensure a t) ++ [([], [t], lAi a, 0)]) ≤ n
    rw [pm_app, pm_cons]
    have e1 : wM ([], [t], lAi a, 0) = 0 := rfl
    have e2 : pm [] = 0 := rfl
    omega
  · rcases List.mem_append.mp hm with z | z
    · exact hai m z
    · have : m = ([], [t], lAi a, 0) := by simpa using z
      subst this
      show 1 ≤ lAi a
      omega
def addDir (a : Lw) (i d : Nat) : Lw := withMo a ((lMo a).set i (mPl (mlA (lMo a) i) ++ [d], mTr (mlA (lMo a) i), mAi (mlA (lMo a) i), mSt (mlA (lMo a) i)))
theorem addDir_good {n : Nat} {a : Lw} {i d : Nat} (h : Good n a) (hi : i < (lMo a).length) (hd : d < 4) (hl : (mPl (mlA (lMo a) i)).length < 20) : Good (n + 1) (addDir a i d) := by
  obtain ⟨⟨h1, h2, h3, h4, h5, h6⟩, ha⟩ := h
  obtain ⟨g1, g2, g3, g4, g5, g6, g7⟩ := h2 _ (mlA_mem hi)
  refine ⟨⟨by show ((lMo a).set i _).length ≤ 4; rw [List.length_set]; exact h1, fun m hm => ?_, h3, h4, h5, ?_⟩, fun m hm => ?_⟩
  · rcases set_mem hm with z | z
    · exact h2 m z
    · subst z
      refine ⟨by show (mPl (mlA (lMo a) i) ++ [d]).length ≤ 20; simp; omega, fun x hx => ?_, g3, g4, g5, g6, g7⟩
      have hx : x ∈ mPl (mlA (lMo a) i) ++ [d] := hx
      rcases List.mem_append.mp hx with z | z
      · exact g2 x z
      · have : x = d := by simpa using z
        omega
  · have := pm_set hi (mPl (mlA (lMo a) i) ++ [d], mTr (mlA (lMo a) i), mAi (mlA (lMo a) i), mSt (mlA (lMo a) i))
    have e1 : wM (mPl (mlA (lMo a) i) ++ [d], mTr (mlA (lMo a) i), mAi (mlA (lMo a) i), mSt (mlA (lMo a) i)) = wM (mlA (lMo a) i) + 1 := by
      show (mPl (mlA (lMo a) i) ++ [d]).length + ((mTr (mlA (lMo a) i)).length - 1) = (mPl (mlA (lMo a) i)).length + ((mTr (mlA (lMo a) i)).length - 1) + 1
      rw [List.length_append, List.length_singleton]; omega
    show ph (lTu a) + pm ((lMo a).set i _) ≤ n + 1
    omega
  · rcases set_mem hm with z | z
    · exact ha m z
    · subst z; show 1 ≤ mAi (mlA (lMo a) i); exact ha _ (mlA_mem hi)
def restA (a : Lw) (i : Nat) : Lw := withMo a ((lMo a).set i ([], mTr (mlA (lMo a) i), mAi (mlA (lMo a) i), mSt (mlA (lMo a) i)))
theorem restA_good {n : Nat} {a : Lw} {i : Nat} (h : Good n a) (hi : i < (lMo a).length) : Good n (restA a i) := by
  obtain ⟨⟨h1, h2, h3, h4, h5, h6⟩, ha⟩ := h
  obtain ⟨g1, g2, g3, g4, g5, g6, g7⟩ := h2 _ (mlA_mem hi)
  refine ⟨⟨by show ((lMo a).set i _).length ≤ 4; rw [List.length_set]; exact h1, fun m hm => ?_, h3, h4, h5, ?_⟩, fun m hm => ?_⟩
  · rcases set_mem hm with z | z
    · exact h2 m z
    · subst z
      exact ⟨by show ([] : List Nat).length ≤ 20; simp, fun x hx => (List.not_mem_nil (show x ∈ ([] : List Nat) from hx)).elim, g3, g4, g5, g6, g7⟩
  · have := pm_set hi ([], mTr (mlA (lMo a) i), mAi (mlA (lMo a) i), mSt (mlA (lMo a) i))
    have e1 : wM ([], mTr (mlA (lMo a) i), mAi (mlA (lMo a) i), mSt (mlA (lMo a) i)) ≤ wM (mlA (lMo a) i) := by
      show 0 + _ ≤ _
      unfold wM
      show 0 + ((mTr (mlA (lMo a) i)).length - 1) ≤ _
      omega
    show ph (lTu a) + pm ((lMo a).set i _) ≤ n
    omega
  · rcases set_mem hm with z | z
    · exact ha m z
    · subst z; show 1 ≤ mAi (mlA (lMo a) i); exact ha _ (mlA_mem hi)
def setAirA (a : Lw) (x : Nat) : Lw := (lMn a, lOp a, lRt a, lTp a, lTu a, (lMo a).map (capA x), x, lBt a, lCa a, lGn a, lRi a, lFa a)
theorem setAir_good {n : Nat} {a : Lw} {x : Nat} (h : Good n a) (h2 : 2 ≤ x) (h20 : x ≤ 20) : Good n (setAirA a x) := by
  obtain ⟨⟨h1, hm, h3, h4, h5, h6⟩, ha⟩ := h
  refine ⟨⟨by show ((lMo a).map (capA x)).length ≤ 4; rw [List.length_map]; exact h1, fun m hx => ?_, h2, h20, h5, ?_⟩, fun m hx => ?_⟩
  · obtain ⟨y, hy, rfl⟩ := List.mem_map.mp hx
    obtain ⟨g1, g2, g3, g4, g5, g6, g7⟩ := hm y hy
    refine ⟨g1, g2, g3, g4, ?_, g6, g7⟩
    show (mTr y).length + min (mAi y) x ≤ 21
    omega
  · have := pm_map (f := capA x) (fun m => Nat.le_refl _) (lMo a)
    show ph (lTu a) + pm ((lMo a).map (capA x)) ≤ n
    omega
  · obtain ⟨y, hy, rfl⟩ := List.mem_map.mp hx
    have := ha y hy
    show 1 ≤ min (mAi y) x
    omega
theorem good_mono {n k : Nat} {a : Lw} (h : Good n a) (hk : n ≤ k) : Good k a := by
  obtain ⟨⟨h1, h2, h3, h4, h5, h6⟩, ha⟩ := h
  exact ⟨⟨h1, h2, h3, h4, h5, by omega⟩, ha⟩
def rootA (a : Lw) (t : Nat) (x : Int32) : Lw := (lMn a, lOp a, upd (lRt a) t x, lTp a, lTu a, lMo a, lAi a, lBt a, lCa a, lGn a, lRi a, lFa a)
def trapA (a : Lw) (t : Nat) (x : Int32) : Lw := (lMn a, lOp a, lRt a, upd (lTp a) t x, lTu a, lMo a, lAi a, lBt a, lCa a, lGn a, lRi a, lFa a)
theorem root_good {n : Nat} {a : Lw} (h : Good n a) (t : Nat) (x : Int32) : Good n (rootA a t x) ∧ Good n (trapA a t x) := ⟨⟨h.1, h.2⟩, ⟨h.1, h.2⟩⟩
