/-! The invariant of a whole state lasts through every call. -/
def Bud (k : Nat) (w : Wd) : Prop := ∃ n, GoodW n w ∧ n + (wBuf w).length ≤ k
theorem Bud.up {k j : Nat} {w : Wd} (h : Bud k w) (hj : k ≤ j) : Bud j w := h.elim fun n h => ⟨n, h.1, by omega⟩
theorem next_gw {n m : Nat} {w : Wd} {a : Lw} (g : GoodW n w) (hm : n ≤ m) (hm2 : m + (wBuf w).length ≤ 512) (ha : Good m a) : GoodW m (next w a) :=
  ⟨ha, fun b hb => good_mono (g.2.1 b hb) hm, fun b hb => good_mono (good_push g b hb) hm, hm2, g.2.2.2.2⟩
theorem next_bud {k : Nat} {w : Wd} {a : Lw} (h : Bud k w) (hk : k < 512) (ha : ∀ n, GoodW n w → Good (n + 1) a) : Bud (k + 1) (next w a) := by
  obtain ⟨n, g, hn⟩ := h
  exact ⟨n + 1, next_gw g (by omega) (by omega) (ha n g), by show n + 1 + (wBuf w).length ≤ _; omega⟩
theorem next_bud0 {k : Nat} {w : Wd} {a : Lw} (h : Bud k w) (hk : k < 512) (ha : ∀ n, GoodW n w → Good n a) : Bud (k + 1) (next w a) := next_bud h hk (fun n g => good_mono (ha n g) (by omega))
theorem rg_some {lo hi j : Nat} {p : Int32} (hl : lo < 2 ^ 30) (hh : hi < 2 ^ 30) (h : rg lo hi p = some j) : lo ≤ j ∧ j ≤ hi ∧ p = nI j := by
  have no : ∀ {P : Prop}, rg lo hi p = none → P := fun e => by rw [h] at e; cases e
  have := C_range (p := p) (A := lo ≤ j ∧ j ≤ hi ∧ p = nI j) (B := lo ≤ j ∧ j ≤ hi ∧ p = nI j) (C := lo ≤ j ∧ j ≤ hi ∧ p = nI j) hl hh no no (fun k k1 k2 kp e => by rw [h] at e; cases e; exact ⟨k1, k2, kp⟩)
  by_cases c1 : p < nI lo
  · exact this.1 c1
  · by_cases c2 : p ≤ nI hi
    · exact (this.2 c1).1 c2
    · exact (this.2 c1).2 c2
theorem ix_some {n j : Nat} {p : Int32} (hn : n < 2 ^ 31) (h : ix n p = some j) : j < n ∧ p = nI j := by
  unfold ix at h
  split at h
  · cases h
  · rename_i e
    split at h
    · cases h
    · rename_i e2
      obtain ⟨k, hk, rfl⟩ := nI_of e
      rw [nI_clamp hk] at h
      cases h
      exact ⟨by rw [nI_leI hn hk] at e2; omega, rfl⟩
theorem bud_mole {k : Nat} {w : Wd} {p : Int32} (h : Bud k w) (hk : k < 512) : Bud (k + 1) (o_mole w p).2.2 := by
  unfold o_mole
  cases e : ix 64 p with
  | none => exact h.up (by omega)
  | some t =>
    show Bud (k + 1) (if _ then bad 2 w else _ : Out).2.2
    split
    · exact h.up (by omega)
    · rename_i z
      exact next_bud0 h hk (fun n g => welcome_good g.1 (by omega) (ix_some (by omega) e).1)
theorem bud_plan {k : Nat} {w : Wd} {p d : Int32} (h : Bud k w) (hk : k < 512) : Bud (k + 1) (o_plan w p d).2.2 := by
  unfold o_plan
  cases e : ix (lMo (wCur w)).length p with
  | none => exact h.up (by omega)
  | some i =>
    show Bud (k + 1) (match rg 0 3 d with | none => bad 2 w | some x => if 20 ≤ (mPl (mlA (lMo (wCur w)) i)).length then bad 3 w else (0, nI ((mPl (mlA (lMo (wCur w)) i)).length + 1), next w (addDir (wCur w) i x)) : Out).2.2
    cases e2 : rg 0 3 d with
    | none => exact h.up (by omega)
    | some x =>
      show Bud (k + 1) (if 20 ≤ (mPl (mlA (lMo (wCur w)) i)).length then bad 3 w else (0, nI ((mPl (mlA (lMo (wCur w)) i)).length + 1), next w (addDir (wCur w) i x)) : Out).2.2
      split
      · exact h.up (by omega)
      · rename_i z
        have hx := rg_some (by omega) (by omega) e2
        refine next_bud h hk (fun n g => ?_)
        have hl := g.1.1.1
        exact addDir_good g.1 (ix_some (by omega) e).1 (by omega) (by omega)
theorem bud_rest {k : Nat} {w : Wd} {p : Int32} (h : Bud k w) (hk : k < 512) : Bud (k + 1) (o_rest w p).2.2 := by
  unfold o_rest
  cases e : ix (lMo (wCur w)).length p with
  | none => exact h.up (by omega)
  | some i =>
    refine next_bud0 h hk (fun n g => ?_)
    have hl := g.1.1.1
    exact restA_good g.1 (ix_some (by omega) e).1
theorem bud_pass {k : Nat} {w : Wd} {p : Int32} (h : Bud k w) (hk : k < 512) : Bud (k + 1) (o_pass w p).2.2 := by
  unfold o_pass
  cases e : rg 1 30 p with
  | none => exact h.up (by omega)
  | some x => exact next_bud0 h hk (fun n g => beatN_good g.1 x)
theorem bud_root {k : Nat} {w : Wd} {p x : Int32} (h : Bud k w) (hk : k < 512) : Bud (k + 1) (o_root w p x).2.2 := by
  unfold o_root
  cases e : ix 64 p with
  | none => exact h.up (by omega)
  | some t =>
    show Bud (k + 1) (match rg 0 9 x with | none => bad 2 w | some _ => _ : Out).2.2
    cases e2 : rg 0 9 x with
    | none => exact h.up (by omega)
    | some _ => exact next_bud0 h hk (fun n g => (root_good g.1 t x).1)
theorem bud_trap {k : Nat} {w : Wd} {p x : Int32} (h : Bud k w) (hk : k < 512) : Bud (k + 1) (o_trap w p x).2.2 := by
  unfold o_trap
  cases e : ix 64 p with
  | none => exact h.up (by omega)
  | some t =>
    show Bud (k + 1) (match rg 0 20 x with | none => bad 2 w | some _ => if lTp (wCur w) t = nN then (0, nI (trapsOf (trapA (wCur w) t x)), next w (trapA (wCur w) t x)) else bad 3 w : Out).2.2
    cases e2 : rg 0 20 x with
    | none => exact h.up (by omega)
    | some _ =>
      show Bud (k + 1) (if lTp (wCur w) t = nN then (0, nI (trapsOf (trapA (wCur w) t x)), next w (trapA (wCur w) t x)) else bad 3 w : Out).2.2
      split
      · exact next_bud0 h hk (fun n g => (root_good g.1 t x).2)
      · exact h.up (by omega)
theorem bud_dig {k : Nat} {w : Wd} {p : Int32} (h : Bud k w) (hk : k < 512) : Bud (k + 1) (o_dig w p).2.2 := by
  unfold o_dig
  cases e : ix 64 p with
  | none => exact h.up (by omega)
  | some t => exact next_bud0 h hk (fun n g => dug_good g.1)
theorem bud_rake {k : Nat} {w : Wd} {p : Int32} (h : Bud k w) (hk : k < 512) : Bud (k + 1) (o_rake w p).2.2 := by
  unfold o_rake
  cases e : ix 64 p with
  | none => exact h.up (by omega)
  | some t =>
    show Bud (k + 1) (if _ then bad 2 w else _ : Out).2.2
    split
    · exact h.up (by omega)
    · rename_i z
      refine next_bud0 h hk (fun n g => raked_good g.1 (fun m hm q => z (Or.inr ?_)))
      rw [List.any_eq_true]
      exact ⟨m, hm, by simpa using q⟩
theorem bud_set {k : Nat} {w : Wd} {p : Int32} (h : Bud k w) (hk : k < 512) : Bud (k + 1) (o_set w p).2.2 := by
  unfold o_set
  cases e : rg 2 20 p with
  | none => exact h.up (by omega)
  | some x =>
    have hx := rg_some (by omega) (by omega) e
    exact next_bud0 h hk (fun n g => setAir_good g.1 hx.1 hx.2.1)
theorem bud_undo {k : Nat} {w : Wd} (h : Bud k w) (hk : k < 512) : Bud (k + 1) (o_undo w).2.2 := by
  unfold o_undo
  split
  · exact h.up (by omega)
  · rename_i z
    obtain ⟨n, g, hn⟩ := h
    exact ⟨n, ⟨g.2.2.1 _ (hAt_mem (by omega)), g.2.1, fun b hb => g.2.2.1 b ((List.dropLast_sublist _).mem hb), g.2.2.2⟩, by show n + (wBuf w).length ≤ _; omega⟩
theorem bud_keep {k : Nat} {w : Wd} (h : Bud k w) : Bud (k + 1) (o_keep w).2.2 := by
  obtain ⟨n, g, hn⟩ := h
  exact ⟨n, ⟨g.1, fun a ha => by cases ha; exact g.1, g.2.2⟩, by show n + (wBuf w).length ≤ _; omega⟩
theorem bud_restore {k : Nat} {w : Wd} (h : Bud k w) (hk : k < 512) : Bud (k + 1) (o_restore w).2.2 := by
  unfold o_restore
  cases e : wSnap w with
  | none => exact h.up (by omega)
  | some a => exact next_bud0 h hk (fun n g => g.2.1 a e)
theorem bud_append {k : Nat} {w : Wd} {p : Int32} (h : Bud k w) (hk : k < 512) : Bud (k + 1) (o_append w p).2.2 := by
  unfold o_append
  cases e : rg 33 126 p with
  | none => exact h.up (by omega)
  | some c =>
    show Bud (k + 1) (if _ then bad 2 w else _ : Out).2.2
    split
    · exact h.up (by omega)
    · rename_i z
      obtain ⟨n, g, hn⟩ := h
      have hl : (wBuf w ++ [c]).length = (wBuf w).length + 1 := by rw [List.length_append]; rfl
      exact ⟨n, ⟨g.1, g.2.1, g.2.2.1, by show n + (wBuf w ++ [c]).length ≤ 512; omega, by show (wBuf w ++ [c]).length ≤ 60; omega⟩, by show n + (wBuf w ++ [c]).length ≤ _; omega⟩
theorem bud_clear {k : Nat} {w : Wd} (h : Bud k w) : Bud (k + 1) (o_clear w).2.2 := by
  obtain ⟨n, g, hn⟩ := h
  exact ⟨n, ⟨g.1, g.2.1, g.2.2.1, by show n + 0 ≤ 512; have := g.2.2.2.1; omega, by show 0 ≤ 60; omega⟩, by show n + 0 ≤ _; omega⟩
theorem bud_plans {k : Nat} {w : Wd} (h : Bud k w) : Bud (k + 1) (o_plans w).2.2 := by
  unfold o_plans
  split
  · obtain ⟨n, g, hn⟩ := h
    have ha := (pAt_facts (b := wBuf w) g.1 (wBuf w).length).1
    exact ⟨n + (wBuf w).length, ⟨ha, fun b hb => good_mono (g.2.1 b hb) (by omega), fun b hb => good_mono (good_push g b hb) (by omega), g.2.2.2.1, by show 0 ≤ 60; omega⟩, by show n + (wBuf w).length + 0 ≤ _; omega⟩
  · exact h.up (by omega)
