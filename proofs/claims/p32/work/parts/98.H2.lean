/-! How many mounds can have risen; a dig's fallen tunnels; ways there and back. -/
def RB (k : Nat) (a : Lw) : Prop := ∃ m, m ≤ 200 * k ∧ lRi a = nI m
def RBW (k : Nat) (w : Wd) : Prop := RB k (wCur w) ∧ (∀ a, wSnap w = some a → RB k a) ∧ ∀ a ∈ wHist w, RB k a
theorem RB.mono {k j : Nat} {a : Lw} (h : RB k a) (hj : k ≤ j) : RB j a := h.elim fun m z => ⟨m, by omega, z.2⟩
theorem RB.up {k : Nat} {a b : Lw} (h : RB k a) (hu : upR 200 a b) : RB (k + 1) b := by
  obtain ⟨m, hm, e⟩ := h
  obtain ⟨d, hd, e2⟩ := hu
  exact ⟨m + d, by omega, by rw [e2, e, nI_add]⟩
theorem upR_same {a b : Lw} (h : lRi b = lRi a) : upR 200 a b := ⟨0, by omega, by rw [h, show nI 0 = 0 from rfl, Int32.add_zero]⟩
theorem RBW.mono {k j : Nat} {w : Wd} (h : RBW k w) (hj : k ≤ j) : RBW j w := ⟨h.1.mono hj, fun a ha => (h.2.1 a ha).mono hj, fun a ha => (h.2.2 a ha).mono hj⟩
theorem RBW.push {k : Nat} {w : Wd} (h : RBW k w) : ∀ a ∈ pushH (wHist w) (wCur w), RB k a := by
  intro a ha
  rcases List.mem_append.mp ha with z | z
  · split at z
    · exact h.2.2 a z
    · exact h.2.2 a (List.mem_of_mem_tail z)
  · have : a = wCur w := by simpa using z
    rw [this]; exact h.1
theorem RBW.next {k : Nat} {w : Wd} {a : Lw} (h : RBW k w) (ha : RB (k + 1) a) : RBW (k + 1) (next w a) := ⟨ha, fun b hb => (h.2.1 b hb).mono (by omega), fun b hb => (h.push b hb).mono (by omega)⟩
theorem beatN_up {n : Nat} {a : Lw} (g : Good n a) : ∀ k, upR (4 * k) a (beatN k a)
  | 0 => upR_0 a
  | k + 1 => ((beatN_up g k).trans (beat_up (beatN_good g k).1.1)).mono (by omega)
theorem redo_up (ls : Nat → Bool) (a : Lw) : ∀ k, upR k a (redo ls k a)
  | 0 => upR_0 a
  | k + 1 => by
    unfold redo
    split
    · obtain ⟨d, hd, e⟩ := (redo_up ls a k).trans (ensure_up (redo ls k a) (placeOf (redo ls k a) k))
      exact ⟨d, hd, e⟩
    · exact (redo_up ls a k).mono (by omega)
theorem dug_up {n : Nat} {a : Lw} (g : Good n a) (t : Nat) : upR 4 a (dug a t) := by
  obtain ⟨d, hd, e⟩ := redo_up (lostBy t (dropTun (digA a t) t)) (reset (dropTun (digA a t) t) t) (lMo (dropTun (digA a t) t)).length
  refine ⟨d, ?_, e⟩
  have : (lMo (dropTun (digA a t) t)).length ≤ (lMo a).length := List.length_filter_le _ _
  have := g.1.1
  omega
theorem redo_fa (ls : Nat → Bool) (a : Lw) : ∀ k, lFa (redo ls k a) = lFa a
  | 0 => rfl
  | k + 1 => by
    unfold redo
    split
    · show lFa (ensure _ _) = _
      have : ∀ (b : Lw) (t : Nat), lFa (ensure b t) = lFa b := fun b t => by unfold ensure; split <;> rfl
      rw [this, redo_fa ls a k]
    · exact redo_fa ls a k
theorem dropT_crN (T : Tu) (t : Nat) : T.length - (dropT t T).length = crN T t := by
  have key : (dropT t T).length + crN T t = T.length := by
    unfold dropT crN
    induction T with
    | nil => rfl
    | cons r T ih =>
      by_cases c : t ∈ r
      · rw [List.filter_cons_of_neg (by simp [c]), List.countP_cons_of_pos (by simp [c]), List.length_cons]
        omega
      · rw [List.filter_cons_of_pos (by simp [c]), List.countP_cons_of_neg (by simp [c]), List.length_cons, List.length_cons]
        omega
  omega
theorem dug_fa (a : Lw) (t : Nat) : lFa (dug a t) - lFa a = nI (crN (lTu a) t) := by
  have : lFa (dug a t) = lFa a + nI ((lTu a).length - (dropT t (lTu a)).length) := redo_fa _ _ _
  rw [this, dropT_crN, Int32.add_comm, Int32.add_sub_cancel]
theorem dist_beside {T : Tu} (hf : fitTu T) {j t u : Nat} (ha : Adj T j t u) : ∀ k x, x < 64 → dist T u true x = k → dist T t true x ≤ k + 1 := by
  have dt := dist_ok hf t true
  have du := dist_ok hf u true
  have t0 := dt.2.1 rfl
  intro k
  induction k using Nat.strongRecOn with
  | _ k ih =>
    intro x hx e
    by_cases h : dist T u true x = 1000
    · have := dt.1 x hx; omega
    · rcases du.2.2.2 x hx h with ⟨rfl, -⟩ | ⟨i, y, hi, hy⟩
      · have := dt.2.2.1 _ _ _ ha; omega
      · have := ih (dist T u true y) (by omega) y (hi.lt hf).2 rfl
        have := dt.2.2.1 _ _ _ hi.symm
        omega
theorem dist_back {T : Tu} (hf : fitTu T) {s : Nat} (hs : s < 64) : ∀ k t, t < 64 → dist T s true t = k → dist T t true s ≤ k := by
  intro k
  induction k using Nat.strongRecOn with
  | _ k ih =>
    intro t ht e
    have ds := dist_ok hf s true
    have dt := dist_ok hf t true
    by_cases h : dist T s true t = 1000
    · have := dt.1 s hs; omega
    · rcases ds.2.2.2 t ht h with ⟨rfl, -⟩ | ⟨j, u, hj, hu⟩
      · have := dt.2.1 rfl; omega
      · have := ih (dist T s true u) (by omega) u (hj.lt hf).2 rfl
        have := dist_beside hf hj _ s hs rfl
        omega
theorem dist_comm {T : Tu} (hf : fitTu T) {s t : Nat} (hs : s < 64) (ht : t < 64) : dist T s true t = dist T t true s :=
  Nat.le_antisymm (dist_back hf ht _ s hs rfl) (dist_back hf hs _ t ht rfl)
