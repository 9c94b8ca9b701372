/-! The bound on risen mounds lasts through every call. -/
theorem rbw_mole {k : Nat} {w : Wd} {p : Int32} (h : RBW k w) : RBW (k + 1) (o_mole w p).2.2 := by
  unfold o_mole
  cases e : ix 64 p with
  | none => exact h.mono (by omega)
  | some t =>
    show RBW (k + 1) (if _ then bad 2 w else _ : Out).2.2
    split
    · exact h.mono (by omega)
    · refine h.next (h.1.up ?_)
      obtain ⟨d, hd, e⟩ := ensure_up (wCur w) t
      exact ⟨d, by omega, e⟩
theorem rbw_plan {k : Nat} {w : Wd} {p d : Int32} (h : RBW k w) : RBW (k + 1) (o_plan w p d).2.2 := by
  unfold o_plan
  cases e : ix (lMo (wCur w)).length p with
  | none => exact h.mono (by omega)
  | some i =>
    show RBW (k + 1) (match rg 0 3 d with | none => bad 2 w | some x => if 20 ≤ (mPl (mlA (lMo (wCur w)) i)).length then bad 3 w else (0, nI ((mPl (mlA (lMo (wCur w)) i)).length + 1), next w (addDir (wCur w) i x)) : Out).2.2
    cases e2 : rg 0 3 d with
    | none => exact h.mono (by omega)
    | some x =>
      show RBW (k + 1) (if 20 ≤ (mPl (mlA (lMo (wCur w)) i)).length then bad 3 w else (0, nI ((mPl (mlA (lMo (wCur w)) i)).length + 1), next w (addDir (wCur w) i x)) : Out).2.2
      split
      · exact h.mono (by omega)
      · exact h.next (h.1.up (upR_same rfl))
theorem rbw_rest {k : Nat} {w : Wd} {p : Int32} (h : RBW k w) : RBW (k + 1) (o_rest w p).2.2 := by
  unfold o_rest
  cases e : ix (lMo (wCur w)).length p with
  | none => exact h.mono (by omega)
  | some i => exact h.next (h.1.up (upR_same rfl))
theorem rbw_pass {k n : Nat} {w : Wd} {p : Int32} (h : RBW k w) (g : Good n (wCur w)) : RBW (k + 1) (o_pass w p).2.2 := by
  unfold o_pass
  cases e : rg 1 30 p with
  | none => exact h.mono (by omega)
  | some x =>
    have hx := rg_some (by omega) (by omega) e
    exact h.next (h.1.up ((beatN_up g x).mono (by omega)))
theorem rbw_root {k : Nat} {w : Wd} {p x : Int32} (h : RBW k w) : RBW (k + 1) (o_root w p x).2.2 := by
  unfold o_root
  cases e : ix 64 p with
  | none => exact h.mono (by omega)
  | some t =>
    show RBW (k + 1) (match rg 0 9 x with | none => bad 2 w | some _ => _ : Out).2.2
    cases e2 : rg 0 9 x with
    | none => exact h.mono (by omega)
    | some _ => exact h.next (h.1.up (upR_same rfl))
theorem rbw_trap {k : Nat} {w : Wd} {p x : Int32} (h : RBW k w) : RBW (k + 1) (o_trap w p x).2.2 := by
  unfold o_trap
  cases e : ix 64 p with
  | none => exact h.mono (by omega)
  | some t =>
    show RBW (k + 1) (match rg 0 20 x with | none => bad 2 w | some _ => if lTp (wCur w) t = nN then (0, nI (trapsOf (trapA (wCur w) t x)), next w (trapA (wCur w) t x)) else bad 3 w : Out).2.2
    cases e2 : rg 0 20 x with
    | none => exact h.mono (by omega)
    | some _ =>
      show RBW (k + 1) (if lTp (wCur w) t = nN then (0, nI (trapsOf (trapA (wCur w) t x)), next w (trapA (wCur w) t x)) else bad 3 w : Out).2.2
      split
      · exact h.next (h.1.up (upR_same rfl))
      · exact h.mono (by omega)
theorem rbw_dig {k n : Nat} {w : Wd} {p : Int32} (h : RBW k w) (g : Good n (wCur w)) : RBW (k + 1) (o_dig w p).2.2 := by
  unfold o_dig
  cases e : ix 64 p with
  | none => exact h.mono (by omega)
  | some t => exact h.next (h.1.up ((dug_up g t).mono (by omega)))
theorem raked_ri (a : Lw) (t : Nat) : lRi (raked a t) = lRi a := by unfold raked; split <;> rfl
theorem rbw_rake {k : Nat} {w : Wd} {p : Int32} (h : RBW k w) : RBW (k + 1) (o_rake w p).2.2 := by
  unfold o_rake
  cases e : ix 64 p with
  | none => exact h.mono (by omega)
  | some t =>
    show RBW (k + 1) (if _ then bad 2 w else _ : Out).2.2
    split
    · exact h.mono (by omega)
    · exact h.next (h.1.up (upR_same (raked_ri _ _)))
theorem rbw_set {k : Nat} {w : Wd} {p : Int32} (h : RBW k w) : RBW (k + 1) (o_set w p).2.2 := by
  unfold o_set
  cases e : rg 2 20 p with
  | none => exact h.mono (by omega)
  | some x => exact h.next (h.1.up (upR_same rfl))
theorem rbw_undo {k : Nat} {w : Wd} (h : RBW k w) : RBW (k + 1) (o_undo w).2.2 := by
  unfold o_undo
  split
  · exact h.mono (by omega)
  · rename_i z
    have h2 := h.mono (j := k + 1) (by omega)
    exact ⟨h2.2.2 _ (hAt_mem (by omega)), h2.2.1, fun b hb => h2.2.2 b ((List.dropLast_sublist _).mem hb)⟩
theorem rbw_keep {k : Nat} {w : Wd} (h : RBW k w) : RBW (k + 1) (o_keep w).2.2 := by
  have h2 := h.mono (j := k + 1) (by omega)
  exact ⟨h2.1, fun a ha => by cases ha; exact h2.1, h2.2.2⟩
theorem rbw_restore {k : Nat} {w : Wd} (h : RBW k w) : RBW (k + 1) (o_restore w).2.2 := by
  unfold o_restore
  cases e : wSnap w with
  | none => exact h.mono (by omega)
  | some a => exact h.next ((h.2.1 a e).mono (by omega))
theorem rbw_append {k : Nat} {w : Wd} {p : Int32} (h : RBW k w) : RBW (k + 1) (o_append w p).2.2 := by
  unfold o_append
  cases e : rg 33 126 p with
  | none => exact h.mono (by omega)
  | some c =>
    show RBW (k + 1) (if _ then bad 2 w else _ : Out).2.2
    split
    · exact h.mono (by omega)
    · exact h.mono (w := w) (by omega)
theorem rbw_clear {k : Nat} {w : Wd} (h : RBW k w) : RBW (k + 1) (o_clear w).2.2 := h.mono (w := w) (by omega)
theorem pAt_ri (a : Lw) (b : List Nat) : ∀ k, lRi (pAt a b k).1 = lRi a
  | 0 => rfl
  | k + 1 => by
    rw [← pAt_ri a b k]
    show lRi (pstep (pAt a b k) (at0 b k)).1 = _
    unfold pstep
    split
    · rfl
    · split
      · split <;> rfl
      · rfl
theorem rbw_plans {k : Nat} {w : Wd} (h : RBW k w) : RBW (k + 1) (o_plans w).2.2 := by
  unfold o_plans
  split
  · exact (h.next (h.1.up (upR_same (pAt_ri _ _ _))) : RBW (k + 1) (next w (pAt (wCur w) (wBuf w) (wBuf w).length).1))
  · exact h.mono (by omega)
theorem RBW.small {k : Nat} {w : Wd} (h : RBW k w) (hk : k ≤ 512) : ∃ m, m ≤ 2 ^ 20 ∧ lRi (wCur w) = nI m := by
  obtain ⟨m, hm, e⟩ := h.1
  exact ⟨m, by omega, e⟩
