/-! Tunnels and trails are ways from tuft to tuft beside it; a tunnel has mounds at its ends alone; no mole has more air than there is. -/
def adjB (x y : Nat) : Prop := (x / 8 = y / 8 ∧ (x = y + 1 ∨ y = x + 1)) ∨ (x % 8 = y % 8 ∧ (x = y + 8 ∨ y = x + 8))
theorem adjB_comm {x y : Nat} (h : adjB x y) : adjB y x := by
  unfold adjB at h ⊢; omega
theorem stp_adj {p d x : Nat} (h : stp p d = some x) : adjB p x := by
  unfold stp at h
  unfold adjB
  repeat' split at h
  all_goals first
    | (cases h; done)
    | (have := Option.some.inj h; omega)
def chn (L : List Nat) : Prop := ∀ i, i + 1 < L.length → adjB (at0 L i) (at0 L (i + 1))
theorem chn_one (x : Nat) : chn [x] := fun i h => by simp at h
theorem chn_take {L : List Nat} {n : Nat} (h : chn L) : chn (L.take n) := fun i hi => by
  rw [List.length_take] at hi
  rw [at0_take (by omega), at0_take (by omega)]
  exact h i (by omega)
theorem chn_drop {L : List Nat} {n : Nat} (h : chn L) : chn (L.drop n) := fun i hi => by
  rw [List.length_drop] at hi
  rw [at0_drop, at0_drop]
  exact h (n + i) (by omega)
theorem chn_rev {L : List Nat} (h : chn L) : chn L.reverse := fun i hi => by
  rw [List.length_reverse] at hi
  rw [at0_rev (by omega), at0_rev (by omega)]
  have := h (L.length - 1 - (i + 1)) (by omega)
  rw [show L.length - 1 - (i + 1) + 1 = L.length - 1 - i by omega] at this
  exact adjB_comm this
theorem chn_app {A B : List Nat} (hA : chn A) (hB : chn B) (ha : A ≠ []) (e : adjB (lastOf A) (at0 B 0)) : chn (A ++ B) := fun i hi => by
  have hp := List.length_pos_iff.mpr ha
  rw [List.length_append] at hi
  by_cases c : i + 1 < A.length
  · rw [at0_l (by omega), at0_l c]; exact hA i c
  · by_cases c2 : i < A.length
    · have hi2 : i = A.length - 1 := by omega
      rw [at0_l c2, at0_r (by omega), show i + 1 - A.length = 0 by omega, hi2]
      exact e
    · rw [at0_r (by omega), at0_r (by omega), show i + 1 - A.length = i - A.length + 1 by omega]
      exact hB _ (by omega)
theorem chn_snoc {L : List Nat} {x : Nat} (h : chn L) (hL : L ≠ []) (hx : adjB (lastOf L) x) : chn (L ++ [x]) := chn_app h (chn_one x) hL (by rw [at0_0]; exact hx)
theorem at0_in_tail {L : List Nat} {i : Nat} (h0 : 0 < i) (h : i < L.length) : at0 L i ∈ L.tail := by
  have e : at0 L i = at0 L.tail (i - 1) := by rw [at0_tail]; congr 1; omega
  rw [e]
  exact at0_mem (by rw [List.length_tail]; omega)
theorem at0_before {t : Nat} : ∀ {L : List Nat} {i : Nat}, i < L.idxOf t → i < L.length → at0 L i ≠ t
  | [], i, _, h2 => by simp at h2
  | x :: L, i, h, h2 => by
    by_cases e : x = t
    · subst e; simp at h
    · have hb : (x == t) = false := by simpa using e
      cases i with
      | zero => rw [at0_0]; exact e
      | succ i =>
        rw [at0_s]
        exact at0_before (by simp [List.idxOf_cons, hb] at h; exact h) (by simpa using h2)
def okR (mn : Nat → Bool) (r : List Nat) : Prop := chn r ∧ ∀ i, 0 < i → i + 1 < r.length → mn (at0 r i) = false
theorem okR_upTo {mn : Nat → Bool} {t : Nat} {r : List Nat} (y : t ∈ r) (hc : chn r) (hi : ∀ i, 0 < i → i < r.idxOf t → mn (at0 r i) = false) : okR (va_up mn t true) (upTo t r) := ⟨chn_take hc, fun i h0 h1 => by
  rw [upTo_len y] at h1
  have hl := List.idxOf_lt_length_iff.mpr y
  rw [show at0 (upTo t r) i = at0 r i from at0_take (by omega)]
  exact up_false (hi i h0 (by omega)) (at0_before (by omega) (by omega))⟩
theorem okR_from {mn : Nat → Bool} {t : Nat} {r : List Nat} (y : t ∈ r) (h : okR mn r) : okR (va_up mn t true) (fromLast t r) := by
  obtain ⟨l, h1, h2, h3, h4, h5⟩ := fromLast_ix y
  rw [h3]
  refine ⟨chn_drop h.1, fun i h0 hi => ?_⟩
  rw [List.length_drop] at hi
  rw [at0_drop]
  refine up_false (h.2 (l + i) (by omega) (by omega)) (fun e => h5 ?_)
  have e2 : at0 (r.drop (l + 1)) (i - 1) = t := by rw [at0_drop, ← e]; congr 1; omega
  rw [← e2]
  exact at0_mem (by rw [List.length_drop]; omega)
theorem okR_up {mn : Nat → Bool} {t : Nat} {r : List Nat} (y : t ∉ r) (h : okR mn r) : okR (va_up mn t true) r := ⟨h.1, fun i h0 hi => up_false (h.2 i h0 hi) (fun e => y (by rw [← e]; exact at0_mem (by omega)))⟩
theorem splitK {mn : Nat → Bool} {T : Tu} {t : Nat} (h : ∀ r ∈ T, okR mn r) : ∀ r ∈ splitT t T, okR (va_up mn t true) r := by
  intro r hr
  obtain ⟨x, hx, hr⟩ := List.mem_flatMap.mp hr
  have g := h x hx
  unfold splitR at hr
  split at hr
  · rename_i y
    have hl := List.idxOf_lt_length_iff.mpr y
    rcases List.mem_cons.mp hr with e | hr
    · subst e
      exact okR_upTo y g.1 (fun i h0 h1 => g.2 i h0 (by omega))
    · have e : r = fromLast t x := by simpa using hr
      subst e
      exact okR_from y g
  · rename_i y
    have e : r = x := by simpa using hr
    subst e
    exact okR_up y g
def okM2 (F : Nat) (m : Ml) : Prop := chn (mTr m) ∧ mAi m ≤ F
def Good2 (a : Lw) : Prop := (∀ r ∈ lTu a, okR (lMn a) r) ∧ ∀ m ∈ lMo a, okM2 (lAi a) m
def tails (a : Lw) : Prop := ∀ m ∈ lMo a, ∀ x ∈ (mTr m).tail, lMn a x = false
theorem Good0.tails {n : Nat} {a : Lw} (h : Good0 n a) : tails a := fun m hm => (h.2.1 m hm).2.2.2.2.2.2
theorem GoodD.tails {n : Nat} {ls : Nat → Bool} {k : Nat} {a : Lw} (h : GoodD n ls k a) : tails a := fun m hm x hx => by
  obtain ⟨j, hj, rfl⟩ := mem_ml hm
  have := (h.2.1 j hj).2
  split at this
  · have e := single this.2.2.1
    rw [e] at hx
    exact absurd hx (by simp)
  · exact this.2.2.2.2.2.2 x hx
theorem ensure2 {a : Lw} {t : Nat} (hT : tails a) (h : Good2 a) : Good2 (ensure a t) := by
  unfold ensure
  split
  · exact h
  · refine ⟨fun r hr => ?_, fun m hm => ?_⟩
    · have hr : r ∈ splitT t (lTu a) ++ (lMo a).flatMap (cutsOf t) := hr
      rcases List.mem_append.mp hr with z | z
      · exact splitK h.1 r z
      · obtain ⟨x, hx, z⟩ := List.mem_flatMap.mp z
        unfold cutsOf at z
        split at z
        · rename_i y
          have e : r = upTo t (mTr x) := by simpa using z
          rw [e]
          have hl := List.idxOf_lt_length_iff.mpr y.1
          exact okR_upTo y.1 (h.2 x hx).1 (fun i h0 h1 => hT x hx _ (at0_in_tail h0 (by omega)))
        · exact absurd z (by simp)
    · have hm : m ∈ (lMo a).map (cutM t) := hm
      obtain ⟨x, hx, rfl⟩ := List.mem_map.mp hm
      refine ⟨?_, by rw [cutM_air]; exact (h.2 x hx).2⟩
      unfold cutM
      split
      · rename_i y
        obtain ⟨l, h1, h2, h3, h4, h5⟩ := fromLast_ix y.1
        show chn (fromLast t (mTr x))
        rw [h3]; exact chn_drop (h.2 x hx).1
      · exact (h.2 x hx).1
theorem fillAir2 {a : Lw} {i : Nat} (hi : i < (lMo a).length) (h : Good2 a) : Good2 (fillAir a i) := ⟨h.1, fun m hm => by
  rcases set_mem hm with z | z
  · exact h.2 m z
  · subst z; exact ⟨(h.2 _ (mlA_mem hi)).1, Nat.le_refl _⟩⟩
theorem airEnd2 {a : Lw} {i : Nat} (hi : i < (lMo a).length) (hT : tails a) (h : Good2 a) : Good2 (airEnd a i) := by
  unfold airEnd
  split
  · exact fillAir2 (by rw [ensure_len]; exact hi) (ensure2 hT h)
  · exact h
theorem act2 {n : Nat} {a : Lw} {i : Nat} (hg : Good n a) (h : Good2 a) (hi : i < (lMo a).length) : Good2 (act a i).2 := by
  have hT := hg.1.tails
  obtain ⟨⟨g1, g2, g3, g4, g5, g6, g7⟩, ga⟩ := hg.at hi
  have k := h.2 _ (mlA_mem hi)
  unfold act
  split
  · exact h
  · cases hst : stp (placeOf a i) (at0 (mPl (mlA (lMo a) i)) 0) with
    | none =>
      show Good2 (withMo a ((lMo a).set i ((mPl (mlA (lMo a) i)).tail, mTr (mlA (lMo a) i), mAi (mlA (lMo a) i), mSt (mlA (lMo a) i))))
      exact ⟨h.1, fun m hm => by
        rcases set_mem hm with z | z
        · exact h.2 m z
        · subst z; exact k⟩
    | some p =>
      have hc : chn (mTr (mlA (lMo a) i) ++ [p]) := chn_snoc k.1 g3 (stp_adj hst)
      show Good2 (actTo a i (mPl (mlA (lMo a) i)).tail p).2
      have hw : Good2 (went a i (mPl (mlA (lMo a) i)).tail p) := ⟨h.1, fun m hm => by
        rcases set_mem hm with z | z
        · exact h.2 m z
        · subst z; exact ⟨hc, Nat.le_trans (Nat.sub_le _ _) k.2⟩⟩
      have hlw : (lMo (went a i (mPl (mlA (lMo a) i)).tail p)).length = (lMo a).length := List.length_set
      unfold actTo
      split
      · split
        · show Good2 (caughtA (went a i (mPl (mlA (lMo a) i)).tail p) i)
          exact ⟨hw.1, fun m hm => hw.2 m (List.mem_of_mem_eraseIdx hm)⟩
        · split
          · rename_i em
            show Good2 (finish (went a i (mPl (mlA (lMo a) i)).tail p) i)
            have hmi : mlA (lMo (went a i (mPl (mlA (lMo a) i)).tail p)) i = goM (mlA (lMo a) i) (mPl (mlA (lMo a) i)).tail p := by
              show mlA ((lMo a).set i _) i = _
              rw [mlA_set hi, if_pos rfl]
            have hlast : lastOf (mTr (goM (mlA (lMo a) i) (mPl (mlA (lMo a) i)).tail p)) = p := lastOf_snoc _ _
            refine ⟨fun r hr => ?_, fun m hm => ?_⟩
            · have hr : r ∈ lTu a ++ cutsOf (lastOf (mTr (mlA (lMo (went a i (mPl (mlA (lMo a) i)).tail p)) i))) (mlA (lMo (went a i (mPl (mlA (lMo a) i)).tail p)) i) := hr
              rw [hmi, hlast] at hr
              rcases List.mem_append.mp hr with z | z
              · exact h.1 r z
              · unfold cutsOf at z
                split at z
                · rename_i y
                  have e : r = upTo p (mTr (goM (mlA (lMo a) i) (mPl (mlA (lMo a) i)).tail p)) := by simpa using z
                  have e : r = upTo p (mTr (mlA (lMo a) i) ++ [p]) := e
                  have ym : p ∈ mTr (mlA (lMo a) i) ++ [p] := y.1
                  have hl := List.idxOf_lt_length_iff.mpr ym
                  rw [List.length_append, List.length_singleton] at hl
                  rw [e]
                  refine ⟨chn_take hc, fun j h0 h1 => ?_⟩
                  rw [upTo_len ym] at h1
                  rw [show at0 (upTo p (mTr (mlA (lMo a) i) ++ [p])) j = at0 (mTr (mlA (lMo a) i) ++ [p]) j from at0_take (by omega), at0_l (by omega)]
                  exact g7 _ (at0_in_tail h0 (by omega))
                · exact absurd z (by simp)
            · rcases set_mem hm with z | z
              · exact hw.2 m z
              · subst z; exact ⟨chn_one _, Nat.le_refl _⟩
          · rename_i em
            have em : lMn a p = false := by simpa using em
            show Good2 (airEnd (went a i (mPl (mlA (lMo a) i)).tail p) i)
            refine airEnd2 (by rw [hlw]; exact hi) (fun m hm x hx => ?_) hw
            rcases set_mem hm with z | z
            · exact hT m z x hx
            · subst z
              have hx : x ∈ (mTr (mlA (lMo a) i) ++ [p]).tail := hx
              rw [tail_app g3] at hx
              rcases List.mem_append.mp hx with z | z
              · exact g7 x z
              · have : x = p := by simpa using z
                rw [this]; exact em
      · show Good2 (airEnd (gnaw a i p) i)
        have hlg : (lMo (gnaw a i p)).length = (lMo a).length := List.length_set
        refine airEnd2 (by rw [hlg]; exact hi) (fun m hm x hx => ?_) ⟨h.1, fun m hm => ?_⟩
        · rcases set_mem hm with z | z
          · exact hT m z x hx
          · subst z; exact g7 x hx
        · rcases set_mem hm with z | z
          · exact h.2 m z
          · subst z; exact ⟨k.1, Nat.le_trans (Nat.sub_le _ _) k.2⟩
theorem moves2 {n : Nat} : ∀ (k i : Nat) {a : Lw}, Good n a → Good2 a → Good2 (moves k i a)
  | 0, _, _, _, h => h
  | k + 1, i, a, hg, h => by
    by_cases e : i < (lMo a).length
    · rw [moves_in e]; exact moves2 k _ (act_good hg e) (act2 hg h e)
    · rw [moves_out e]; exact h
theorem beat2 {n : Nat} {a : Lw} (hg : Good n a) (h : Good2 a) : Good2 (beatA a) := moves2 (a := tick a) _ _ (tick_good hg).1 ⟨h.1, h.2⟩
theorem beatN2 {n : Nat} {a : Lw} (hg : Good n a) (h : Good2 a) : ∀ k, Good2 (beatN k a)
  | 0 => h
  | k + 1 => beat2 (beatN_good hg k) (beatN2 hg h k)
theorem welcome2 {n : Nat} {a : Lw} {t : Nat} (hg : Good n a) (h : Good2 a) : Good2 (welcome a t) := by
  have he := ensure2 (t := t) hg.1.tails h
  refine ⟨he.1, fun m hm => ?_⟩
  rcases List.mem_append.mp hm with z | z
  · exact he.2 m z
  · have : m = ([], [t], lAi a, 0) := by simpa using z
    subst this
    refine ⟨chn_one t, ?_⟩
    show lAi a ≤ lAi (ensure a t)
    rw [ensure_air]; exact Nat.le_refl _
theorem addDir2 {a : Lw} {i d : Nat} (h : Good2 a) (hi : i < (lMo a).length) : Good2 (addDir a i d) := ⟨h.1, fun m hm => by
  rcases set_mem hm with z | z
  · exact h.2 m z
  · subst z; exact (h.2 (mlA (lMo a) i) (mlA_mem hi) : okM2 (lAi a) (mlA (lMo a) i))⟩
theorem restA2 {a : Lw} {i : Nat} (h : Good2 a) (hi : i < (lMo a).length) : Good2 (restA a i) := ⟨h.1, fun m hm => by
  rcases set_mem hm with z | z
  · exact h.2 m z
  · subst z; exact (h.2 (mlA (lMo a) i) (mlA_mem hi) : okM2 (lAi a) (mlA (lMo a) i))⟩
theorem setAir2 {a : Lw} (x : Nat) (h : Good2 a) : Good2 (setAirA a x) := ⟨h.1, fun m hm => by
  have hm : m ∈ (lMo a).map (capA x) := hm
  obtain ⟨y, hy, rfl⟩ := List.mem_map.mp hm
  exact ⟨(h.2 y hy).1, Nat.min_le_right _ _⟩⟩
theorem root2 {a : Lw} (t : Nat) (x : Int32) (h : Good2 a) : Good2 (rootA a t x) ∧ Good2 (trapA a t x) := ⟨⟨h.1, h.2⟩, ⟨h.1, h.2⟩⟩
theorem redo2 {n : Nat} {ls : Nat → Bool} {a : Lw} (hD : GoodD n ls 0 a) (h : Good2 a) : ∀ k, k ≤ (lMo a).length → Good2 (redo ls k a)
  | 0, _ => h
  | k + 1, hk => by
    have ih := redo2 hD h k (by omega)
    have hlen := redo_len ls a k
    unfold redo
    cases e : ls k with
    | false => rw [if_neg (by decide)]; exact ih
    | true =>
      rw [if_pos rfl]
      exact fillAir2 (by rw [ensure_len]; omega) (ensure2 (redoD hD k (by omega)).tails ih)
theorem down_false {mn : Nat → Bool} {t x : Nat} (h : mn x = false) : va_up mn t false x = false := by
  by_cases e : x = t
  · rw [e]; exact va_up_self _ _ _
  · rw [va_up_ne _ _ e]; exact h
theorem okR_down {mn : Nat → Bool} {t : Nat} {r : List Nat} (h : okR mn r) : okR (va_up mn t false) r := ⟨h.1, fun i h0 hi => down_false (h.2 i h0 hi)⟩
theorem dug2 {n : Nat} {a : Lw} {t : Nat} (hg : Good n a) (h : Good2 a) : Good2 (dug a t) := by
  have hl : (lMo (reset (dropTun (digA a t) t) t)).length = (lMo (dropTun (digA a t) t)).length := List.length_map _
  refine redo2 (digD (t := t) hg) ⟨fun r hr => ?_, fun m hm => ?_⟩ (lMo (dropTun (digA a t) t)).length (by omega)
  · have hr : r ∈ dropT t (lTu a) := hr
    exact okR_down (h.1 r (dropT_mem hr).1)
  · have hm : m ∈ ((lMo a).filter (notAt t)).map (resetM t) := hm
    obtain ⟨x, hx, rfl⟩ := List.mem_map.mp hm
    have k := h.2 x (List.mem_filter.mp hx).1
    unfold resetM
    split
    · exact ⟨chn_one _, k.2⟩
    · exact k
theorem okR_rev {mn : Nat → Bool} {r : List Nat} (h : okR mn r) : okR mn r.reverse := ⟨chn_rev h.1, fun i h0 hi => by
  rw [List.length_reverse] at hi
  rw [at0_rev (by omega)]
  exact h.2 _ (by omega) (by omega)⟩
theorem dirL_ok {mn : Nat → Bool} {r : List Nat} (b : Bool) (h : okR mn r) : okR mn (dirL b r) := by
  cases b
  · exact okR_rev h
  · exact h
theorem dirL_last {r : List Nat} {t : Nat} (hn : r ≠ []) (e : endA r t = true) : lastOf (dirL (lastOf r == t) r) = t := by
  by_cases z : lastOf r = t
  · rw [show (lastOf r == t) = true by simpa using z, dirL_t]; exact z
  · rw [show (lastOf r == t) = false by simpa using z, dirL_f, last_rev hn]
    exact (endA_or e).resolve_right z
theorem dirL_first {r : List Nat} {t : Nat} (hn : r ≠ []) (e : endA r t = true) : at0 (dirL (at0 r 0 == t) r) 0 = t := by
  by_cases z : at0 r 0 = t
  · rw [show (at0 r 0 == t) = true by simpa using z, dirL_t]; exact z
  · rw [show (at0 r 0 == t) = false by simpa using z, dirL_f, first_rev hn]
    exact (endA_or e).resolve_left z
theorem join2 {mn : Nat → Bool} {t : Nat} {r1 r2 : List Nat} (g1 : okR mn r1) (g2 : okR mn r2) (l1 : 2 ≤ r1.length) (l2 : 2 ≤ r2.length) (e1 : endA r1 t = true) (e2 : endA r2 t = true) : okR (va_up mn t false) (joinR t r1 r2) := by
  have n1 : r1 ≠ [] := fun e => by rw [e] at l1; simp at l1
  have n2 : r2 ≠ [] := fun e => by rw [e] at l2; simp at l2
  have k1 := dirL_ok (lastOf r1 == t) g1
  have k2 := dirL_ok (at0 r2 0 == t) g2
  have a1 := dirL_last n1 e1
  have a2 := dirL_first n2 e2
  have m1 := dirL_len (lastOf r1 == t) r1
  have m2 := dirL_len (at0 r2 0 == t) r2
  unfold joinR
  generalize dirL (lastOf r1 == t) r1 = D1 at *
  generalize dirL (at0 r2 0 == t) r2 = D2 at *
  have nD1 : D1 ≠ [] := fun e => by rw [e] at m1; simp at m1; omega
  have ht : D2.tail = D2.drop 1 := (List.drop_one).symm
  refine ⟨chn_app k1.1 (by rw [ht]; exact chn_drop k2.1) nD1 ?_, fun i h0 hi => ?_⟩
  · rw [a1, at0_tail, ← a2]
    exact k2.1 0 (by omega)
  · rw [List.length_append, List.length_tail] at hi
    by_cases c : i + 1 < D1.length
    · rw [at0_l (by omega)]; exact down_false (k1.2 i h0 c)
    · by_cases c2 : i < D1.length
      · rw [at0_l c2]
        have : at0 D1 i = t := by rw [← a1]; unfold lastOf; congr 1; omega
        rw [this]; exact va_up_self _ _ _
      · rw [at0_r (by omega), at0_tail]
        exact down_false (k2.2 _ (by omega) (by omega))
theorem raked2 {n : Nat} {a : Lw} {t : Nat} (hg : Good n a) (h : Good2 a) : Good2 (raked a t) := by
  have h5 := hg.1.2.2.2.2.1
  unfold raked
  split
  · rename_i hB
    obtain ⟨i, j, e1, e2, hij, hj, ea1, ea2, hoth, hne⟩ := rakeB_facts hB
    rw [e1, e2]
    refine ⟨fun r hr => ?_, h.2⟩
    have hr : r ∈ joinT (lTu a) i j t := hr
    obtain ⟨k, hk, hr⟩ := build_mem hr
    unfold joinF at hr
    split at hr
    · have : r = joinR t (row (lTu a) i) (row (lTu a) j) := by simpa using hr
      rw [this]
      have mi := row_mem (T := lTu a) (i := i) (by omega)
      have mj := row_mem hj
      exact join2 (h.1 _ mi) (h.1 _ mj) (h5 _ mi).1 (h5 _ mj).1 ea1 ea2
    · split at hr
      · exact absurd hr (by simp)
      · have : r = row (lTu a) k := by simpa using hr
        rw [this]
        exact okR_down (h.1 _ (row_mem hk))
  · refine ⟨fun r hr => ?_, h.2⟩
    have hr : r ∈ dropT t (lTu a) := hr
    exact okR_down (h.1 r (dropT_mem hr).1)
