/-! Counting; what is sure; groups and ways; the next mound; the best dig. -/
theorem cnt_s (p : Nat → Bool) (n : Nat) : cnt p (n + 1) = cnt p n + (if p n = true then 1 else 0) := rfl
theorem cnt_mono {p q : Nat → Bool} : ∀ n, (∀ t, t < n → p t = true → q t = true) → cnt p n ≤ cnt q n
  | 0, _ => Nat.le_refl _
  | n + 1, h => by
    have ih := cnt_mono n (fun t ht => h t (by omega))
    rw [cnt_s, cnt_s]
    cases e : p n with
    | true => rw [h n (by omega) e, if_pos rfl]; omega
    | false => rw [if_neg (show ¬ false = true by decide)]; split <;> omega
theorem cnt_lt {p q : Nat → Bool} {y : Nat} (hp : p y = false) (hq : q y = true) : ∀ n, (∀ t, t < n → p t = true → q t = true) → y < n → cnt p n < cnt q n
  | 0, _, hy => absurd hy (Nat.not_lt_zero _)
  | n + 1, h, hy => by
    by_cases e : y = n
    · subst e
      have := cnt_mono y (fun t ht => h t (by omega))
      rw [cnt_s, cnt_s, hp, hq, if_neg (show ¬ false = true by decide), if_pos rfl]; omega
    · have ih := cnt_lt hp hq n (fun t ht => h t (by omega)) (by omega)
      rw [cnt_s, cnt_s]
      cases e2 : p n with
      | true => rw [h n (by omega) e2, if_pos rfl]; omega
      | false => rw [if_neg (show ¬ false = true by decide)]; split <;> omega
theorem cnt_add {p q : Nat → Bool} : ∀ n, (∀ t, t < n → p t = true → q t = false) → cnt p n + cnt q n = cnt (fun t => p t || q t) n
  | 0, _ => rfl
  | n + 1, h => by
    have ih := cnt_add n (fun t ht => h t (by omega))
    show cnt p n + (if p n = true then 1 else 0) + (cnt q n + (if q n = true then 1 else 0)) = cnt (fun t => p t || q t) n + (if (p n || q n) = true then 1 else 0)
    cases e : p n with
    | true => rw [h n (by omega) e, Bool.or_false, if_pos rfl, if_neg (show ¬ false = true by decide)]; omega
    | false => rw [Bool.false_or, if_neg (show ¬ false = true by decide)]; omega
theorem bI_nN (b : Bool) : bI b ≠ nN := by cases b <;> decide
def inS (H : Nat → Bool) (S : Nat → Int32) : Prop := ∀ t, t < 64 → S t = nN ∨ S t = bI (H t)
theorem mark_sound {H : Nat → Bool} {S : Nat → Int32} {p : Nat} {x : Int32} (hS : inS H S) (h : ∀ t, t < 64 → nb p t = true → S t = nN → x = bI (H t)) : inS H (mark S p x) ∧ ∀ t, S t ≠ nN → mark S p x t = S t := by
  refine ⟨fun t ht => ?_, fun t hn => ?_⟩
  · unfold mark
    split
    · rename_i z
      exact Or.inr (h t ht z.1 z.2)
    · exact hS t ht
  · unfold mark
    rw [if_neg (fun z => hn z.2)]
theorem concl_sound {H : Nat → Bool} {S : Nat → Int32} (hS : inS H S) (p : Nat) : inS H (concl H S p).2 ∧ ∀ t, S t ≠ nN → (concl H S p).2 t = S t := by
  have one : ∀ u, u < 64 → S u = nI 1 → H u = true := fun u hu e => by
    rcases hS u hu with z | z
    · rw [z] at e; exact absurd e (by decide)
    · rw [z] at e; exact (bI_1 _).mp e
  have d1 : nN ≠ nI 1 := by decide
  unfold concl
  split
  · exact ⟨hS, fun _ _ => rfl⟩
  · split
    · rename_i e
      refine mark_sound hS (fun t ht hn e1 => ?_)
      cases c : H t with
      | false => rfl
      | true =>
        have := cnt_lt (p := fun u => nb p u && decide (S u = nI 1)) (q := fun u => nb p u && H u) (y := t) (by show (nb p t && decide (S t = nI 1)) = false; rw [e1, decide_eq_false d1, Bool.and_false]) (by show (nb p t && H t) = true; rw [hn, c]; rfl) 64 (fun u hu z => by
          have z : (nb p u && decide (S u = nI 1)) = true := z
          show (nb p u && H u) = true
          rw [Bool.and_eq_true] at z
          rw [z.1, one u hu (of_decide_eq_true z.2)]; rfl) ht
        have e : cnt (fun u => nb p u && decide (S u = nI 1)) 64 = cnt (fun u => nb p u && H u) 64 := e
        omega
    · split
      · rename_i e
        refine mark_sound hS (fun t ht hn e1 => ?_)
        cases c : H t with
        | true => rfl
        | false =>
          have h2 := cnt_add (p := fun u => nb p u && decide (S u = nI 1)) (q := fun u => nb p u && decide (S u = nN)) 64 (fun u hu z => by
            have z : (nb p u && decide (S u = nI 1)) = true := z
            show (nb p u && decide (S u = nN)) = false
            rw [Bool.and_eq_true] at z
            rw [of_decide_eq_true z.2, decide_eq_false (fun q => d1 q.symm), Bool.and_false])
          have h3 := cnt_lt (p := fun u => nb p u && H u) (q := fun u => (nb p u && decide (S u = nI 1)) || (nb p u && decide (S u = nN))) (y := t) (by show (nb p t && H t) = false; rw [c, Bool.and_false]) (by show ((nb p t && decide (S t = nI 1)) || (nb p t && decide (S t = nN))) = true; rw [hn, e1]; rfl) 64 (fun u hu z => by
            have z : (nb p u && H u) = true := z
            show ((nb p u && decide (S u = nI 1)) || (nb p u && decide (S u = nN))) = true
            rw [Bool.and_eq_true] at z
            rw [z.1]
            rcases hS u hu with w | w
            · rw [w]; rfl
            · rw [w, z.2]; rfl) ht
          have e : cnt (fun u => nb p u && decide (S u = nI 1)) 64 + cnt (fun u => nb p u && decide (S u = nN)) 64 = cnt (fun u => nb p u && H u) 64 := e
          omega
      · exact ⟨hS, fun _ _ => rfl⟩
theorem sw_sound {H op : Nat → Bool} {S : Nat → Int32} (hS : inS H S) : ∀ k, inS H (sw H op k S).2 ∧ ∀ t, S t ≠ nN → (sw H op k S).2 t = S t
  | 0 => ⟨hS, fun _ _ => rfl⟩
  | k + 1 => by
    obtain ⟨i1, i2⟩ := sw_sound (op := op) hS k
    unfold sw
    split
    · obtain ⟨c1, c2⟩ := concl_sound i1 k
      refine ⟨c1, fun t hn => ?_⟩
      have e := i2 t hn
      exact (c2 t (by rw [e]; exact hn)).trans e
    · exact ⟨i1, i2⟩
theorem fix_sound {H op : Nat → Bool} : ∀ (n : Nat) {S : Nat → Int32}, inS H S → inS H (fix H op n S) ∧ ∀ t, S t ≠ nN → fix H op n S t = S t
  | 0, _, hS => ⟨hS, fun _ _ => rfl⟩
  | n + 1, S, hS => by
    unfold fix
    split
    · obtain ⟨s1, s2⟩ := sw_sound (op := op) hS 64
      obtain ⟨f1, f2⟩ := fix_sound (H := H) (op := op) n s1
      refine ⟨f1, fun t hn => ?_⟩
      have e := s2 t hn
      exact (f2 t (by rw [e]; exact hn)).trans e
    · exact ⟨hS, fun _ _ => rfl⟩
theorem sure_facts {a : Lw} {t : Nat} (ht : t < 64) : (sureA a t = nN ∨ sureA a t = bI (hol a t)) ∧ (lOp a t = true → sureA a t = bI (hol a t)) := by
  have h0 : inS (hol a) (S0 a) := fun t _ => by
    unfold S0
    split
    · exact Or.inr rfl
    · exact Or.inl rfl
  obtain ⟨f1, f2⟩ := fix_sound (op := lOp a) 65 h0
  refine ⟨f1 t ht, fun e => ?_⟩
  have e0 : S0 a t = bI (hol a t) := if_pos e
  exact (f2 t (by rw [e0]; exact bI_nN _)).trans e0
theorem sure_open {a : Lw} {t : Nat} (ht : t < 64) (h : sureA a t = nN) : lOp a t = false := by
  cases e : lOp a t with
  | false => rfl
  | true =>
    have := (sure_facts ht).2 e
    rw [h] at this
    exact absurd this.symm (bI_nN _)
/-! Groups and ways. -/
theorem grp_le (a : Lw) : grpN a ≤ cnt (fun t => lMn a t) 64 := cnt_mono 64 (fun t _ h => by
  have h := (Bool.and_eq_true _ _).mp h
  exact h.1)
theorem grp_none {n : Nat} {a : Lw} (g : Good n a) (hn : n ≤ 512) (h : lTu a = []) : grpN a = cnt (fun t => lMn a t) 64 := cnt_congr (fun t ht => by
  have d := dist_ok (g.1.fit hn).1 t (lMn a t)
  have key : ∀ u, u < t → dist (lTu a) t (lMn a t) u = 1000 := fun u hu => by
    apply Classical.byContradiction
    intro z
    rcases d.end (by omega) z with ⟨e, -⟩ | ⟨j, x, hj⟩
    · omega
    · have := hj.1; rw [h] at this; simp at this
  show (lMn a t && decide (∀ u, u < t → dist (lTu a) t (lMn a t) u = 1000)) = lMn a t
  rw [decide_eq_true key, Bool.and_true])
theorem row0 {T : Tu} (h : T ≠ []) : 0 < T.length := List.length_pos_iff.mpr h
theorem grp_some {n : Nat} {a : Lw} (g : Good n a) (hn : n ≤ 512) (h : lTu a ≠ []) : grpN a < cnt (fun t => lMn a t) 64 := by
  have hf := (g.1.fit hn).1
  have h0 := row0 h
  obtain ⟨r1, r2, r3, r4, r5⟩ := g.1.2.2.2.2.1 _ (row_mem h0)
  have hne : row (lTu a) 0 ≠ [] := fun e => by rw [e] at r1; simp at r1
  have b1 := r2 _ (first_mem hne)
  have b2 := r2 _ (lastOf_mem hne)
  have key : ∀ x y, x < 64 → y < 64 → x < y → lMn a y = true → Adj (lTu a) 0 y x → grpN a < cnt (fun t => lMn a t) 64 := by
    intro x y hx hy hxy hm hj
    refine cnt_lt (y := y) ?_ hm 64 (fun t _ z => ((Bool.and_eq_true _ _).mp z).1) hy
    have d := dist_ok hf y (lMn a y)
    have d0 := d.2.1 hm
    have d1 := d.2.2.1 0 y x hj
    have : decide (∀ u, u < y → dist (lTu a) y (lMn a y) u = 1000) = false := decide_eq_false (fun z => by
      have := z x hxy
      omega)
    show (lMn a y && decide (∀ u, u < y → dist (lTu a) y (lMn a y) u = 1000)) = false
    rw [this, Bool.and_false]
  by_cases c : at0 (row (lTu a) 0) 0 < lastOf (row (lTu a) 0)
  · exact key _ _ b1 b2 c r4 ⟨h0, Or.inr ⟨rfl, rfl⟩⟩
  · exact key _ _ b2 b1 (by omega) r3 ⟨h0, Or.inl ⟨rfl, rfl⟩⟩
theorem way_row {n : Nat} {a : Lw} (g : Good n a) (hn : n ≤ 512) {i : Nat} (hi : i < (lTu a).length) : dist (lTu a) (at0 (row (lTu a) i) 0) (lMn a (at0 (row (lTu a) i) 0)) (lastOf (row (lTu a) i)) = 1 := by
  have hf := (g.1.fit hn).1
  obtain ⟨r1, r2, r3, r4, r5⟩ := g.1.2.2.2.2.1 _ (row_mem hi)
  have hne : row (lTu a) i ≠ [] := fun e => by rw [e] at r1; simp at r1
  have b2 := r2 _ (lastOf_mem hne)
  have d := dist_ok hf (at0 (row (lTu a) i) 0) (lMn a (at0 (row (lTu a) i) 0))
  have d0 := d.2.1 r3
  have d1 := d.2.2.1 i _ _ ⟨hi, Or.inl ⟨rfl, rfl⟩⟩
  have d1 : dist (lTu a) (at0 (row (lTu a) i) 0) (lMn a (at0 (row (lTu a) i) 0)) (lastOf (row (lTu a) i)) ≤ dist (lTu a) (at0 (row (lTu a) i) 0) (lMn a (at0 (row (lTu a) i) 0)) (at0 (row (lTu a) i) 0) + 1 := d1
  rcases d.2.2.2 _ b2 (by omega) with ⟨e, -⟩ | ⟨j, u, hj, e⟩
  · exact absurd e.symm r5
  · omega
theorem way_comm {n : Nat} {a : Lw} (g : Good n a) (hn : n ≤ 512) {s t : Nat} (hs : s < 64) (ht : t < 64) : dist (lTu a) s (lMn a s) t = dist (lTu a) t (lMn a t) s := by
  have hf := (g.1.fit hn).1
  have ds := dist_ok hf s (lMn a s)
  have dt := dist_ok hf t (lMn a t)
  cases es : lMn a s with
  | true =>
    cases et : lMn a t with
    | true => exact dist_comm hf hs ht
    | false =>
      have e1 := far_bare g ht ds et
      rw [es] at e1
      rw [e1]
      rw [et] at dt
      exact (IsD.far hf dt _ s hs rfl).symm
  | false =>
    have e1 := far_bare g hs dt es
    rw [e1]
    rw [es] at ds
    exact IsD.far hf ds _ t ht rfl
theorem way_le {n : Nat} {a : Lw} (g : Good n a) (hn : n ≤ 512) {s t : Nat} (ht : t < 64) : dist (lTu a) s (lMn a s) t ≤ 1000 := (dist_ok (g.1.fit hn).1 s (lMn a s)).1 t ht
theorem cD_nN2 {k : Nat} (h : k ≤ 1000) : cD k = nN ↔ k = 1000 := by
  unfold cD
  by_cases e : k = 1000
  · rw [if_pos e]; exact ⟨fun _ => e, fun _ => rfl⟩
  · rw [if_neg e]; exact ⟨fun z => absurd z (fun q => (nN_ne (by omega)).mp q), fun z => absurd z e⟩
/-! The next mound. -/
theorem beatN_add (a : Lw) (j : Nat) : ∀ k, beatN k (beatN j a) = beatN (j + k) a
  | 0 => rfl
  | k + 1 => by
    show beatA (beatN k (beatN j a)) = beatA (beatN (j + k) a)
    rw [beatN_add a j k]
theorem nm_spec {a : Lw} : ∀ (f y : Nat), lRi (beatN y a) = lRi a → nm a f y = nN ∨ ∃ n, y < n ∧ n ≤ y + f ∧ nm a f y = nI n ∧ lRi (beatN n a) ≠ lRi a ∧ ∀ j, y ≤ j → j < n → lRi (beatN j a) = lRi a
  | 0, _, _ => Or.inl rfl
  | f + 1, y, h => by
    unfold nm
    split
    · rename_i e
      rcases nm_spec f (y + 1) e with z | ⟨n, n1, n2, n3, n4, n5⟩
      · exact Or.inl z
      · refine Or.inr ⟨n, by omega, by omega, n3, n4, fun j j1 j2 => ?_⟩
        by_cases c : j = y
        · rw [c]; exact h
        · exact n5 j (by omega) j2
    · rename_i e
      refine Or.inr ⟨y + 1, by omega, by omega, rfl, e, fun j j1 j2 => ?_⟩
      rw [show j = y by omega]; exact h
theorem nm_one {a : Lw} (h : lRi (beatN 1 a) ≠ lRi a) : nm a 100 0 = nI 1 := if_neg h
theorem ri_up {n : Nat} {a : Lw} (g : Good n a) {k : Nat} (hk : k ≤ 30) (h : lRi (beatN k a) ≠ lRi a) : ∃ d, 0 < d ∧ d < 2 ^ 20 ∧ lRi (beatN k a) - lRi a = nI d := by
  obtain ⟨d, hd, e⟩ := beatN_up g k
  refine ⟨d, ?_, by omega, by rw [e, i_sub_self]⟩
  apply Classical.byContradiction
  intro z
  have : d = 0 := by omega
  subst this
  rw [show nI 0 = 0 from rfl, Int32.add_zero] at e
  exact h e
/-! The best dig. -/
theorem bst_spec {a : Lw} : ∀ k, (bst a k).1 = nN ∨ ∃ t, t < k ∧ (bst a k).1 = nI t ∧ lOp a t = false ∧ 0 < crN (lTu a) t
  | 0 => Or.inl rfl
  | k + 1 => by
    unfold bst
    split
    · rename_i e
      exact Or.inr ⟨k, by omega, rfl, e.1, by omega⟩
    · rcases bst_spec (a := a) k with z | ⟨t, t1, t2⟩
      · exact Or.inl z
      · exact Or.inr ⟨t, by omega, t2⟩
theorem share_eq : ∀ c : Fin 65, Op.cmpValue (FP.dcmp (shareF c.1) (shareF c.1)) .l = 0 := by decide +kernel
theorem step_tab : ∀ x : Fin 64, ∀ y : Fin 64, ((x.1 / 8 = y.1 / 8 ∧ (x.1 = y.1 + 1 ∨ y.1 = x.1 + 1)) ∨ (x.1 % 8 = y.1 % 8 ∧ (x.1 = y.1 + 8 ∨ y.1 = x.1 + 8))) → (((((nI x.1 / 8) - (nI y.1 / 8)) * ((nI x.1 / 8) - (nI y.1 / 8))) + (((nI x.1 - nI x.1 / 8 * 8) - (nI y.1 - nI y.1 / 8 * 8)) * ((nI x.1 - nI x.1 / 8 * 8) - (nI y.1 - nI y.1 / 8 * 8)))) : Int32) = 1 := by decide +kernel
theorem L_isStep {x y : Nat} (hx : x < 64) (hy : y < 64) (h : adjB x y) {Q : Int32 → Prop} (hq : Q 1) : wp_L_isStep (nI x) (nI y) Q := by
  unfold wp_L_isStep
  have e := step_tab ⟨x, hx⟩ ⟨y, hy⟩ h
  exact ⟨fun _ => hq, fun q => absurd e q⟩
/-! A number of some bits, brought below a bound. -/
def lowF (x : Int32) (n : Nat) : Nat := ((x &&& 2147483647).toNatClampNeg) % n
theorem lowF_lt (x : Int32) {n : Nat} (h : 0 < n) : lowF x n < n := Nat.mod_lt _ h
theorem L_low {x : Int32} {n : Nat} (h0 : 0 < n) (hn : n < 2 ^ 31) {Q : Int32 → Prop} (hq : Q (nI (lowF x n))) : wp_L_low x (nI n) Q := by
  unfold wp_L_low
  obtain ⟨j, hj, e⟩ := pk_andE x (m := 2147483647) 31 (by decide)
  have ej : lowF x n = j % n := by unfold lowF; rw [e, nI_clamp hj]
  rw [ej] at hq
  refine ⟨?_, ?_⟩
  · simp (disch := omega) only [nI_lit, nI_eq]; omega
  · rw [e, pk_rem hj h0 hn]; exact hq
theorem i_add_sub (x z : Int32) : x + (z - x) = z := by rw [Int32.add_comm, Int32.sub_add_cancel]
theorem i_sub_sub (x z : Int32) : x - (x - z) = z := by
  have e : x - z + z = x := Int32.sub_add_cancel x z
  have e2 : x = x - z + z := e.symm
  calc x - (x - z) = (x - z + z) - (x - z) := by rw [e]
    _ = z := i_sub_self _ _
/-! What the law asks of a lawn that was changed. -/
theorem welcome_at (a : Lw) (t : Nat) : mlA (lMo (welcome a t)) (lMo a).length = ([], [t], lAi a, 0) := by
  show mlA (lMo (ensure a t) ++ [([], [t], lAi a, 0)]) (lMo a).length = _
  rw [mlA_r (by rw [ensure_len]; exact Nat.le_refl _), ensure_len, Nat.sub_self]; rfl
theorem welcome_len (a : Lw) (t : Nat) : (lMo (welcome a t)).length = (lMo a).length + 1 := by
  show (lMo (ensure a t) ++ [([], [t], lAi a, 0)]).length = _
  rw [List.length_append, ensure_len]; rfl
theorem addDir_at {a : Lw} {i d : Nat} (hi : i < (lMo a).length) : (mPl (mlA (lMo (addDir a i d)) i)).length = (mPl (mlA (lMo a) i)).length + 1 := by
  show (mPl (mlA ((lMo a).set i _) i)).length = _
  rw [mlA_set hi, if_pos rfl]
  show (mPl (mlA (lMo a) i) ++ [d]).length = _
  rw [List.length_append]; rfl
theorem trap_more {a : Lw} {t y : Nat} (ht : t < 64) (hy : y ≤ 20) (h : lTp a t = nN) : trapsOf (trapA a t (nI y)) = trapsOf a + 1 := by
  unfold trapsOf
  rw [cnt_up (p := fun u => !decide (lTp a u = nN)) (q := fun u => !decide (lTp (trapA a t (nI y)) u = nN)) (y := t) (by show (!decide (lTp a t = nN)) = false; rw [decide_eq_true h]; rfl) (by
    show (!decide (upd (lTp a) t (nI y) t = nN)) = true
    rw [upd_s, decide_eq_false (fun z => (nN_ne (by omega)).mp z)]; rfl) (fun u hu => by
    show (!decide (upd (lTp a) t (nI y) u = nN)) = !decide (lTp a u = nN)
    rw [upd_n hu]) 64, if_pos ht]
theorem set_self {t : Nat} {mn : Nat → Bool} (hm : mn t = true) {r : List Nat} (g : goodR mn r) (k : okR mn r) (h : t ∈ r) : endA r t = true := by
  obtain ⟨i, hi, e⟩ := at0_of_mem h
  unfold endA
  by_cases c0 : i = 0
  · rw [c0] at e; rw [e]; simp
  · by_cases c1 : i + 1 < r.length
    · have := k.2 i (by omega) c1
      rw [e, hm] at this
      exact absurd this (by decide)
    · have : lastOf r = t := by rw [← e]; unfold lastOf; congr 1; omega
      rw [this]; simp
theorem end_mem {r : List Nat} {t : Nat} (hn : r ≠ []) (h : endA r t = true) : t ∈ r := by
  rcases endA_or h with z | z
  · rw [← z]; exact first_mem hn
  · rw [← z]; exact lastOf_mem hn
theorem crN_app (A B : Tu) (t : Nat) : crN (A ++ B) t = crN A t + crN B t := List.countP_append
theorem crN_0 {A : Tu} {t : Nat} (h : ∀ r ∈ A, t ∉ r) : crN A t = 0 := List.countP_eq_zero.mpr (fun r hr => by simpa using h r hr)
theorem crN_in {r : List Nat} {B : Tu} {t : Nat} (h : t ∈ r) : crN (r :: B) t = crN B t + 1 := List.countP_cons_of_pos (by simpa using h)
theorem mem_take_row {T : Tu} {i : Nat} {r : List Nat} (h : r ∈ T.take i) : ∃ k, k < i ∧ k < T.length ∧ row T k = r := by
  obtain ⟨k, hk, e⟩ := List.mem_iff_getElem.mp h
  rw [List.length_take] at hk
  refine ⟨k, by omega, by omega, ?_⟩
  rw [← e]; simp [row, show k < T.length by omega]
theorem mem_drop_row {T : Tu} {i : Nat} {r : List Nat} (h : r ∈ T.drop i) : ∃ k, i ≤ k ∧ k < T.length ∧ row T k = r := by
  obtain ⟨k, hk, e⟩ := List.mem_iff_getElem.mp h
  rw [List.length_drop] at hk
  refine ⟨i + k, by omega, by omega, ?_⟩
  rw [← e]; simp [row, show i + k < T.length by omega]
theorem mem_mid_row {T : Tu} {i j : Nat} {r : List Nat} (h : r ∈ (T.drop (i + 1)).take (j - i - 1)) : ∃ k, i < k ∧ k < j ∧ k < T.length ∧ row T k = r := by
  obtain ⟨k, hk, e⟩ := List.mem_iff_getElem.mp h
  rw [List.length_take, List.length_drop] at hk
  refine ⟨i + 1 + k, by omega, by omega, by omega, ?_⟩
  rw [← e]; simp [row, show i + 1 + k < T.length by omega]
theorem raked_mn (a : Lw) (t : Nat) : lMn (raked a t) = va_up (lMn a) t false := by
  unfold raked
  split <;> rfl
theorem raked_cnt {a : Lw} {t : Nat} (ht : t < 64) (hm : lMn a t = true) : cnt (fun u => lMn (raked a t) u) 64 + 1 = cnt (fun u => lMn a u) 64 := by
  rw [raked_mn]
  rw [cnt_up (p := fun u => va_up (lMn a) t false u) (q := fun u => lMn a u) (y := t) (va_up_self _ _ _) hm (fun u hu => (va_up_ne _ _ hu).symm) 64, if_pos ht]
theorem rake_no {a : Lw} {t : Nat} (hB : ¬ rakeB (lTu a) t = true) : (lTu (raked a t)).length + crN (lTu a) t = (lTu a).length := by
  have e : lTu (raked a t) = dropT t (lTu a) := by
    unfold raked
    rw [if_neg hB]; rfl
  rw [e]; exact crN_len t (lTu a)
theorem rake_yes {n : Nat} {a : Lw} {t : Nat} (g : Good n a) (k2 : Good2 a) (hm : lMn a t = true) (hB : rakeB (lTu a) t = true) : crN (lTu a) t = 2 ∧ crN (lTu (raked a t)) t = 1 ∧ (lTu (raked a t)).length + 1 = (lTu a).length := by
  obtain ⟨i, j, e1, e2, hij, hj, ea1, ea2, hoth, hne⟩ := rakeB_facts hB
  have h5 := g.1.2.2.2.2.1
  have ne : ∀ r ∈ lTu a, r ≠ [] := fun r hr e => by
    have := (h5 r hr).1
    rw [e] at this; simp at this
  have mi := row_mem (T := lTu a) (i := i) (by omega)
  have mj := row_mem hj
  have hi1 : t ∈ row (lTu a) i := end_mem (ne _ mi) ea1
  have hj1 : t ∈ row (lTu a) j := end_mem (ne _ mj) ea2
  have noK : ∀ k, k < (lTu a).length → k ≠ i → k ≠ j → t ∉ row (lTu a) k := fun k hk k1 k3 z => by
    have := set_self hm (h5 _ (row_mem hk)) (k2.1 _ (row_mem hk)) z
    rw [hoth k hk k1 k3] at this
    exact absurd this (by decide)
  have z1 : crN ((lTu a).take i) t = 0 := crN_0 (fun r hr => by
    obtain ⟨k, q1, q2, q3⟩ := mem_take_row hr
    rw [← q3]; exact noK k q2 (by omega) (by omega))
  have z2 : crN (((lTu a).drop (i + 1)).take (j - i - 1)) t = 0 := crN_0 (fun r hr => by
    obtain ⟨k, q1, q2, q3, q4⟩ := mem_mid_row hr
    rw [← q4]; exact noK k q3 (by omega) (by omega))
  have z3 : crN ((lTu a).drop (j + 1)) t = 0 := crN_0 (fun r hr => by
    obtain ⟨k, q1, q2, q3⟩ := mem_drop_row hr
    rw [← q3]; exact noK k q2 (by omega) (by omega))
  have hjoin : t ∈ joinR t (row (lTu a) i) (row (lTu a) j) := by
    have nd : dirL (lastOf (row (lTu a) i) == t) (row (lTu a) i) ≠ [] := fun e => by
      have := dirL_len (lastOf (row (lTu a) i) == t) (row (lTu a) i)
      rw [e] at this
      exact ne _ mi (List.length_eq_zero_iff.mp this.symm)
    have hl := lastOf_mem nd
    rw [dirL_last (ne _ mi) ea1] at hl
    exact List.mem_append_left _ hl
  have er : lTu (raked a t) = joinT (lTu a) i j t := by
    unfold raked
    rw [if_pos hB]
    show joinT (lTu a) (nextE (lTu a) t 0) (nextE (lTu a) t (nextE (lTu a) t 0 + 1)) t = _
    rw [e1, e2]
  have ej := joinT_eq (t := t) hj hij
  have c1 : crN (lTu a) t = crN ((lTu a).take i ++ row (lTu a) i :: (((lTu a).drop (i + 1)).take (j - i - 1) ++ row (lTu a) j :: (lTu a).drop (j + 1))) t := congrArg (fun T => crN T t) (split2 hj hij)
  have c2 : (lTu a).length = ((lTu a).take i ++ row (lTu a) i :: (((lTu a).drop (i + 1)).take (j - i - 1) ++ row (lTu a) j :: (lTu a).drop (j + 1))).length := congrArg List.length (split2 hj hij)
  refine ⟨?_, ?_, ?_⟩
  · rw [c1, crN_app, crN_in hi1, crN_app, crN_in hj1, z1, z2, z3]
  · rw [er, ej, crN_app, crN_in hjoin, crN_app, z1, z2, z3]
  · rw [er, ej]
    rw [List.length_append, List.length_cons, List.length_append, List.length_cons] at c2
    rw [List.length_append, List.length_cons, List.length_append]
    omega
