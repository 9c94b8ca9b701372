/-! The class's methods over a state, as the law calls them: none throws. -/
def Good2W (w : Wd) : Prop := Good2 (wCur w) ∧ (∀ a, wSnap w = some a → Good2 a) ∧ ∀ a ∈ wHist w, Good2 a
def IW (k : Nat) (w : Wd) : Prop := Bud k w ∧ RBW k w ∧ Good2W w
theorem IW.good {k : Nat} {w : Wd} (h : IW k w) : ∃ n, GoodW n w := h.1.elim fun n z => ⟨n, z.1⟩
theorem IW.up {k j : Nat} {w : Wd} (h : IW k w) (hj : k ≤ j) : IW j w := ⟨h.1.up hj, h.2.1.mono hj, h.2.2⟩
theorem IW.cur {k : Nat} {w : Wd} (h : IW k w) : ∃ n, n ≤ 512 ∧ Good n (wCur w) := h.1.elim fun n z => ⟨n, by have := z.1.2.2.2.1; omega, z.1.1⟩
theorem push2 {w : Wd} (h : Good2W w) : ∀ a ∈ pushH (wHist w) (wCur w), Good2 a := by
  intro a ha
  rcases List.mem_append.mp ha with z | z
  · split at z
    · exact h.2.2 a z
    · exact h.2.2 a (List.mem_of_mem_tail z)
  · have : a = wCur w := by simpa using z
    rw [this]; exact h.1
theorem g2_next {w : Wd} {a : Lw} (h : Good2W w) (ha : Good2 a) : Good2W (next w a) := ⟨ha, h.2.1, push2 h⟩
theorem O_mole {v : V_X6} {w : Wd} {k : Nat} (h : CW v w) (g : IW k w) (hk : k < 512) {t : Nat} (ht : t < 64) {p : Int32} (ep : p = nI t)  (hl : (lMo (wCur w)).length < 4) (hr : lRt (wCur w) t ≤ nI 0) {Q : Int32 → V_X6 → Prop} (hq : ∀ v', CW v' (next w (welcome (wCur w) t)) → IW (k + 1) (next w (welcome (wCur w) t)) → Q (nI (lMo (wCur w)).length) v') : wo_X6_mole v p Q := by
  obtain ⟨n, gw⟩ := g.good
  subst ep
  have e : o_mole w (nI t) = (0, nI (lMo (wCur w)).length, next w (welcome (wCur w) t)) := by
    unfold o_mole
    rw [ix_in ht (by omega)]
    exact if_neg (fun z => z.elim (fun z => by omega) (fun z => z hr))
  have i1 : Bud (k + 1) (o_mole w (nI t)).2.2 := bud_mole g.1 hk
  have i2 : RBW (k + 1) (o_mole w (nI t)).2.2 := rbw_mole g.2.1
  rw [e] at i1 i2
  unfold wo_X6_mole
  refine C_mole h gw (fun L sa sc sr sp _ hc => ?_) (fun z => ?_) (fun z => ?_)
  · rw [e] at hc ⊢; exact hq _ hc ⟨i1, i2, g2_next g.2.2 (welcome2 gw.1 g.2.2.1)⟩
  · rw [e] at z; exact absurd (show (0 : Nat) = 1 from z) (by decide)
  · rw [e] at z; exact absurd (show (0 : Nat) = 2 from z) (by decide)
theorem O_plan {v : V_X6} {w : Wd} {k : Nat} (h : CW v w) (g : IW k w) (hk : k < 512) {i : Nat} {d : Nat} (hi : i < (lMo (wCur w)).length) (hd : d < 4) (hl : (mPl (mlA (lMo (wCur w)) i)).length < 20) {p : Int32} (ep : p = nI i) {x : Int32} (ex : x = nI d)  {Q : Int32 → V_X6 → Prop} (hq : ∀ v', CW v' (next w (addDir (wCur w) i d)) → IW (k + 1) (next w (addDir (wCur w) i d)) → Q (nI ((mPl (mlA (lMo (wCur w)) i)).length + 1)) v') : wo_X6_plan v p x Q := by
  obtain ⟨n, gw⟩ := g.good
  subst ep
  subst ex
  have e : o_plan w (nI i) (nI d) = (0, nI ((mPl (mlA (lMo (wCur w)) i)).length + 1), next w (addDir (wCur w) i d)) := by
    unfold o_plan
    have h4 := gw.1.1.1
    rw [ix_in hi (by omega)]
    show (match rg 0 3 (nI d) with | none => bad 2 w | some k => if 20 ≤ (mPl (mlA (lMo (wCur w)) i)).length then bad 3 w else (0, nI ((mPl (mlA (lMo (wCur w)) i)).length + 1), next w (addDir (wCur w) i k)) : Out) = _
    rw [rg_in (Nat.zero_le _) (by omega) (by omega)]
    exact if_neg (by omega)
  have i1 : Bud (k + 1) (o_plan w (nI i) (nI d)).2.2 := bud_plan g.1 hk
  have i2 : RBW (k + 1) (o_plan w (nI i) (nI d)).2.2 := rbw_plan g.2.1
  rw [e] at i1 i2
  unfold wo_X6_plan
  refine C_plan h gw (fun L sa sc sr _ hc => ?_) (fun z => ?_) (fun z => ?_) (fun z => ?_)
  · rw [e] at hc ⊢; exact hq _ hc ⟨i1, i2, g2_next g.2.2 (addDir2 g.2.2.1 hi)⟩
  · rw [e] at z; exact absurd (show (0 : Nat) = 1 from z) (by decide)
  · rw [e] at z; exact absurd (show (0 : Nat) = 2 from z) (by decide)
  · rw [e] at z; exact absurd (show (0 : Nat) = 3 from z) (by decide)
theorem O_rest {v : V_X6} {w : Wd} {k : Nat} (h : CW v w) (g : IW k w) (hk : k < 512) {i : Nat} (hi : i < (lMo (wCur w)).length) {p : Int32} (ep : p = nI i)  {Q : Int32 → V_X6 → Prop} (hq : ∀ v', CW v' (next w (restA (wCur w) i)) → IW (k + 1) (next w (restA (wCur w) i)) → Q (nI (mPl (mlA (lMo (wCur w)) i)).length) v') : wo_X6_rest v p Q := by
  obtain ⟨n, gw⟩ := g.good
  subst ep
  have e : o_rest w (nI i) = (0, nI (mPl (mlA (lMo (wCur w)) i)).length, next w (restA (wCur w) i)) := by
    unfold o_rest
    have h4 := gw.1.1.1
    rw [ix_in hi (by omega)]
  have i1 : Bud (k + 1) (o_rest w (nI i)).2.2 := bud_rest g.1 hk
  have i2 : RBW (k + 1) (o_rest w (nI i)).2.2 := rbw_rest g.2.1
  rw [e] at i1 i2
  unfold wo_X6_rest
  refine C_rest h gw (fun L sa sc sr _ hc => ?_) (fun z => ?_)
  · rw [e] at hc ⊢; exact hq _ hc ⟨i1, i2, g2_next g.2.2 (restA2 g.2.2.1 hi)⟩
  · rw [e] at z; exact absurd (show (0 : Nat) = 1 from z) (by decide)
theorem O_pass {v : V_X6} {w : Wd} {k : Nat} (h : CW v w) (g : IW k w) (hk : k < 512) {b : Nat} (hb : 1 ≤ b) (hb2 : b ≤ 30) {p : Int32} (ep : p = nI b)  {Q : Int32 → V_X6 → Prop} (hq : ∀ v', CW v' (next w (beatN b (wCur w))) → IW (k + 1) (next w (beatN b (wCur w))) → Q (lRi (beatN b (wCur w)) - lRi (wCur w)) v') : wo_X6_pass v p Q := by
  obtain ⟨n, gw⟩ := g.good
  subst ep
  have e : o_pass w (nI b) = (0, lRi (beatN b (wCur w)) - lRi (wCur w), next w (beatN b (wCur w))) := by
    unfold o_pass
    rw [rg_in hb hb2 (by omega)]
  have i1 : Bud (k + 1) (o_pass w (nI b)).2.2 := bud_pass g.1 hk
  have i2 : RBW (k + 1) (o_pass w (nI b)).2.2 := rbw_pass g.2.1 gw.1
  rw [e] at i1 i2
  unfold wo_X6_pass
  refine C_pass h gw (fun L sa sc sr sp _ hc => ?_) (fun z => ?_)
  · rw [e] at hc ⊢; exact hq _ hc ⟨i1, i2, g2_next g.2.2 (beatN2 gw.1 g.2.2.1 b)⟩
  · rw [e] at z; exact absurd (show (0 : Nat) = 1 from z) (by decide)
theorem O_root {v : V_X6} {w : Wd} {k : Nat} (h : CW v w) (g : IW k w) (hk : k < 512) {t : Nat} {y : Nat} (ht : t < 64) (hy : y ≤ 9) {p : Int32} (ep : p = nI t) {x : Int32} (ex : x = nI y)  {Q : Int32 → V_X6 → Prop} (hq : ∀ v', CW v' (next w (rootA (wCur w) t (nI y))) → IW (k + 1) (next w (rootA (wCur w) t (nI y))) → Q (lRt (wCur w) t) v') : wo_X6_root v p x Q := by
  obtain ⟨n, gw⟩ := g.good
  subst ep
  subst ex
  have e : o_root w (nI t) (nI y) = (0, lRt (wCur w) t, next w (rootA (wCur w) t (nI y))) := by
    unfold o_root
    rw [ix_in ht (by omega)]
    show (match rg 0 9 (nI y) with | none => bad 2 w | some _ => (0, lRt (wCur w) t, next w (rootA (wCur w) t (nI y))) : Out) = _
    rw [rg_in (Nat.zero_le _) hy (by omega)]
  have i1 : Bud (k + 1) (o_root w (nI t) (nI y)).2.2 := bud_root g.1 hk
  have i2 : RBW (k + 1) (o_root w (nI t) (nI y)).2.2 := rbw_root g.2.1
  rw [e] at i1 i2
  unfold wo_X6_root
  refine C_root h gw (fun L sa sc sr _ hc => ?_) (fun z => ?_) (fun z => ?_)
  · rw [e] at hc ⊢; exact hq _ hc ⟨i1, i2, g2_next g.2.2 (root2 t (nI y) g.2.2.1).1⟩
  · rw [e] at z; exact absurd (show (0 : Nat) = 1 from z) (by decide)
  · rw [e] at z; exact absurd (show (0 : Nat) = 2 from z) (by decide)
theorem O_trap {v : V_X6} {w : Wd} {k : Nat} (h : CW v w) (g : IW k w) (hk : k < 512) {t : Nat} {y : Nat} (ht : t < 64) (hy : y ≤ 20) (hn : lTp (wCur w) t = nN) {p : Int32} (ep : p = nI t) {x : Int32} (ex : x = nI y)  {Q : Int32 → V_X6 → Prop} (hq : ∀ v', CW v' (next w (trapA (wCur w) t (nI y))) → IW (k + 1) (next w (trapA (wCur w) t (nI y))) → Q (nI (trapsOf (trapA (wCur w) t (nI y)))) v') : wo_X6_trap v p x Q := by
  obtain ⟨n, gw⟩ := g.good
  subst ep
  subst ex
  have e : o_trap w (nI t) (nI y) = (0, nI (trapsOf (trapA (wCur w) t (nI y))), next w (trapA (wCur w) t (nI y))) := by
    unfold o_trap
    rw [ix_in ht (by omega)]
    show (match rg 0 20 (nI y) with | none => bad 2 w | some _ => if lTp (wCur w) t = nN then (0, nI (trapsOf (trapA (wCur w) t (nI y))), next w (trapA (wCur w) t (nI y))) else bad 3 w : Out) = _
    rw [rg_in (Nat.zero_le _) hy (by omega)]
    exact if_pos hn
  have i1 : Bud (k + 1) (o_trap w (nI t) (nI y)).2.2 := bud_trap g.1 hk
  have i2 : RBW (k + 1) (o_trap w (nI t) (nI y)).2.2 := rbw_trap g.2.1
  rw [e] at i1 i2
  unfold wo_X6_trap
  refine C_trap h gw (fun L sa sc sr _ hc => ?_) (fun z => ?_) (fun z => ?_) (fun z => ?_)
  · rw [e] at hc ⊢; exact hq _ hc ⟨i1, i2, g2_next g.2.2 (root2 t (nI y) g.2.2.1).2⟩
  · rw [e] at z; exact absurd (show (0 : Nat) = 1 from z) (by decide)
  · rw [e] at z; exact absurd (show (0 : Nat) = 2 from z) (by decide)
  · rw [e] at z; exact absurd (show (0 : Nat) = 3 from z) (by decide)
theorem O_dig {v : V_X6} {w : Wd} {k : Nat} (h : CW v w) (g : IW k w) (hk : k < 512) {t : Nat} (ht : t < 64) {p : Int32} (ep : p = nI t)  {Q : Int32 → V_X6 → Prop} (hq : ∀ v', CW v' (next w (dug (wCur w) t)) → IW (k + 1) (next w (dug (wCur w) t)) → Q (nI ((lMo (wCur w)).length - ((lMo (wCur w)).filter (notAt t)).length)) v') : wo_X6_dig v p Q := by
  obtain ⟨n, gw⟩ := g.good
  subst ep
  have e : o_dig w (nI t) = (0, nI ((lMo (wCur w)).length - ((lMo (wCur w)).filter (notAt t)).length), next w (dug (wCur w) t)) := by
    unfold o_dig
    rw [ix_in ht (by omega)]
  have i1 : Bud (k + 1) (o_dig w (nI t)).2.2 := bud_dig g.1 hk
  have i2 : RBW (k + 1) (o_dig w (nI t)).2.2 := rbw_dig g.2.1 gw.1
  rw [e] at i1 i2
  unfold wo_X6_dig
  refine C_dig h gw (fun L sa sc sr sp _ hc => ?_) (fun z => ?_)
  · rw [e] at hc ⊢; exact hq _ hc ⟨i1, i2, g2_next g.2.2 (dug2 gw.1 g.2.2.1)⟩
  · rw [e] at z; exact absurd (show (0 : Nat) = 1 from z) (by decide)
theorem O_rake {v : V_X6} {w : Wd} {k : Nat} (h : CW v w) (g : IW k w) (hk : k < 512) {t : Nat} (ht : t < 64) {p : Int32} (ep : p = nI t)  (hm : lMn (wCur w) t = true) (hb : ∀ m ∈ (lMo (wCur w)), at0 (mTr m) 0 ≠ t) {Q : Int32 → V_X6 → Prop} (hq : ∀ v', CW v' (next w (raked (wCur w) t)) → IW (k + 1) (next w (raked (wCur w) t)) → Q (nI (lTu (wCur w)).length - nI (lTu (raked (wCur w) t)).length) v') : wo_X6_rake v p Q := by
  obtain ⟨n, gw⟩ := g.good
  subst ep
  have e : o_rake w (nI t) = (0, nI (lTu (wCur w)).length - nI (lTu (raked (wCur w) t)).length, next w (raked (wCur w) t)) := by
    unfold o_rake
    rw [ix_in ht (by omega)]
    refine if_neg (fun z => z.elim (fun z => ?_) (fun z => ?_))
    · rw [hm] at z; exact absurd z (by decide)
    · obtain ⟨m, m1, m2⟩ := List.any_eq_true.mp z
      exact hb m m1 (by simpa using m2)
  have i1 : Bud (k + 1) (o_rake w (nI t)).2.2 := bud_rake g.1 hk
  have i2 : RBW (k + 1) (o_rake w (nI t)).2.2 := rbw_rake g.2.1
  rw [e] at i1 i2
  unfold wo_X6_rake
  refine C_rake h gw (fun L sa sc sr sp _ hc => ?_) (fun z => ?_) (fun z => ?_)
  · rw [e] at hc ⊢; exact hq _ hc ⟨i1, i2, g2_next g.2.2 (raked2 gw.1 g.2.2.1)⟩
  · rw [e] at z; exact absurd (show (0 : Nat) = 1 from z) (by decide)
  · rw [e] at z; exact absurd (show (0 : Nat) = 2 from z) (by decide)
theorem O_set {v : V_X6} {w : Wd} {k : Nat} (h : CW v w) (g : IW k w) (hk : k < 512) {y : Nat} (h2 : 2 ≤ y) (h20 : y ≤ 20) {p : Int32} (ep : p = nI y)  {Q : Int32 → V_X6 → Prop} (hq : ∀ v', CW v' (next w (setAirA (wCur w) y)) → IW (k + 1) (next w (setAirA (wCur w) y)) → Q (nI (lAi (wCur w))) v') : wo_X6_set v p Q := by
  obtain ⟨n, gw⟩ := g.good
  subst ep
  have e : o_set w (nI y) = (0, nI (lAi (wCur w)), next w (setAirA (wCur w) y)) := by
    unfold o_set
    rw [rg_in h2 h20 (by omega)]
  have i1 : Bud (k + 1) (o_set w (nI y)).2.2 := bud_set g.1 hk
  have i2 : RBW (k + 1) (o_set w (nI y)).2.2 := rbw_set g.2.1
  rw [e] at i1 i2
  unfold wo_X6_set
  refine C_set h gw (fun L sa sc sr _ hc => ?_) (fun z => ?_)
  · rw [e] at hc ⊢; exact hq _ hc ⟨i1, i2, g2_next g.2.2 (setAir2 y g.2.2.1)⟩
  · rw [e] at z; exact absurd (show (0 : Nat) = 1 from z) (by decide)
theorem O_undo {v : V_X6} {w : Wd} {k : Nat} (h : CW v w) (g : IW k w) (hk : k < 512) (hl : (wHist w).length ≠ 0) {Q : Int32 → V_X6 → Prop} (hq : ∀ v', CW v' (hAt (wHist w) ((wHist w).length - 1), wSnap w, (wHist w).dropLast, wBuf w) → IW (k + 1) (hAt (wHist w) ((wHist w).length - 1), wSnap w, (wHist w).dropLast, wBuf w) → Q (nI ((wHist w).length - 1)) v') : wo_X6_undo v Q := by
  obtain ⟨n, gw⟩ := g.good
  have e : o_undo w = (0, nI ((wHist w).length - 1), (hAt (wHist w) ((wHist w).length - 1), wSnap w, (wHist w).dropLast, wBuf w)) := by
    unfold o_undo
    exact if_neg hl
  have i1 := bud_undo g.1 hk
  have i2 := rbw_undo g.2.1
  rw [e] at i1 i2
  unfold wo_X6_undo
  refine C_undo h gw (fun L sc _ hc => ?_) (fun z => ?_)
  · rw [e] at hc ⊢
    exact hq _ hc ⟨i1, i2, g.2.2.2.2 _ (hAt_mem (by omega)), g.2.2.2.1, fun b hb => g.2.2.2.2 b ((List.dropLast_sublist _).mem hb)⟩
  · rw [e] at z; exact absurd (show (0 : Nat) = 1 from z) (by decide)
theorem O_keep {v : V_X6} {w : Wd} {k : Nat} (h : CW v w) (g : IW k w) {Q : Int32 → V_X6 → Prop} (hq : ∀ v', CW v' (wCur w, some (wCur w), wHist w, wBuf w) → IW (k + 1) (wCur w, some (wCur w), wHist w, wBuf w) → Q (nI (lTu (wCur w)).length) v') : wo_X6_keep v Q := by
  obtain ⟨n, gw⟩ := g.good
  have i1 : Bud (k + 1) (wCur w, some (wCur w), wHist w, wBuf w) := bud_keep g.1
  have i2 : RBW (k + 1) (wCur w, some (wCur w), wHist w, wBuf w) := rbw_keep g.2.1
  unfold wo_X6_keep
  exact C_keep h gw (fun L hc => hq _ hc ⟨i1, i2, g.2.2.1, fun a ha => by cases ha; exact g.2.2.1, g.2.2.2.2⟩)
theorem O_restore {v : V_X6} {w : Wd} {k : Nat} (h : CW v w) (g : IW k w) (hk : k < 512) {a : Lw} (hs : wSnap w = some a) {Q : Int32 → V_X6 → Prop} (hq : ∀ v', CW v' (next w a) → IW (k + 1) (next w a) → Q (nI (lTu a).length) v') : wo_X6_restore v Q := by
  obtain ⟨n, gw⟩ := g.good
  have e : o_restore w = (0, nI (lTu a).length, next w a) := by
    unfold o_restore
    rw [hs]
  have i1 := bud_restore g.1 hk
  have i2 := rbw_restore g.2.1
  rw [e] at i1 i2
  unfold wo_X6_restore
  refine C_restore h gw (fun L sa sc sr _ hc => ?_) (fun z => ?_)
  · rw [e] at hc ⊢
    exact hq _ hc ⟨i1, i2, g2_next g.2.2 (g.2.2.2.1 a hs)⟩
  · rw [e] at z; exact absurd (show (0 : Nat) = 1 from z) (by decide)
theorem O_count {v : V_X6} {w : Wd} {k : Nat} (h : CW v w) (g : IW k w) {x : Int32} (j : Nat) (hj : j ≤ 14) (ex : x = nI j) {Q : Int32 → V_X6 → Prop} (hq : ∀ v', CW v' w → Q (numC w (nI j)) v') : wo_X6_count v x Q := by
  obtain ⟨n, gw⟩ := g.good
  subst ex
  have e : o_count w (nI j) = (0, numC w (nI j)) := by
    unfold o_count
    rw [rg_in (Nat.zero_le _) hj (by omega)]
  unfold wo_X6_count
  refine C_count h gw (fun P s _ => ?_) (fun z => ?_)
  · rw [e]; exact hq _ h
  · rw [e] at z; exact absurd (show (0 : Nat) = 1 from z) (by decide)
theorem O_tuft {v : V_X6} {w : Wd} {k : Nat} (h : CW v w) (g : IW k w) {p x : Int32} {t : Nat} (j : Nat) (ht : t < 64) (hj : j ≤ 8) (ep : p = nI t) (ex : x = nI j) {Q : Int32 → V_X6 → Prop} (hq : ∀ v', CW v' w → Q (numU (wCur w) t (nI j)) v') : wo_X6_tuft v p x Q := by
  obtain ⟨n, gw⟩ := g.good
  subst ep
  subst ex
  have e : o_tuft w (nI t) (nI j) = (0, numU (wCur w) t (nI j)) := by
    unfold o_tuft
    rw [ix_in ht (by omega)]
    show (match rg 0 8 (nI j) with | none => (2, 0) | some _ => (0, numU (wCur w) t (nI j)) : Nat × Int32) = _
    rw [rg_in (Nat.zero_le _) hj (by omega)]
  unfold wo_X6_tuft
  refine C_tuft h gw (fun s _ => ?_) (fun z => ?_) (fun z => ?_)
  · rw [e]; exact hq _ h
  · rw [e] at z; exact absurd (show (0 : Nat) = 1 from z) (by decide)
  · rw [e] at z; exact absurd (show (0 : Nat) = 2 from z) (by decide)
theorem O_moleOf {v : V_X6} {w : Wd} {k : Nat} (h : CW v w) (g : IW k w) {p x : Int32} {i : Nat} (j : Nat) (hi : i < (lMo (wCur w)).length) (hj : j ≤ 6) (ep : p = nI i) (ex : x = nI j) {Q : Int32 → Prop} (hq : Q (numM (mlA (lMo (wCur w)) i) (nI j))) : wo_X6_moleOf v p x Q := by
  obtain ⟨n, gw⟩ := g.good
  subst ep
  subst ex
  have e : o_moleOf w (nI i) (nI j) = (0, numM (mlA (lMo (wCur w)) i) (nI j)) := by
    unfold o_moleOf
    have h4 := gw.1.1.1
    rw [ix_in hi (by omega)]
    show (match rg 0 6 (nI j) with | none => (2, 0) | some _ => (0, numM (mlA (lMo (wCur w)) i) (nI j)) : Nat × Int32) = _
    rw [rg_in (Nat.zero_le _) hj (by omega)]
  unfold wo_X6_moleOf
  refine C_moleOf h gw (fun  _ => ?_) (fun z => ?_) (fun z => ?_)
  · rw [e]; exact hq
  · rw [e] at z; exact absurd (show (0 : Nat) = 1 from z) (by decide)
  · rw [e] at z; exact absurd (show (0 : Nat) = 2 from z) (by decide)
theorem O_tunnel {v : V_X6} {w : Wd} {k : Nat} (h : CW v w) (g : IW k w) {p x : Int32} {i : Nat} (j : Nat) (hi : i < (lTu (wCur w)).length) (hj : j ≤ 2) (ep : p = nI i) (ex : x = nI j) {Q : Int32 → Prop} (hq : Q (numT (row (lTu (wCur w)) i) (nI j))) : wo_X6_tunnel v p x Q := by
  obtain ⟨n, gw⟩ := g.good
  subst ep
  subst ex
  have e : o_tunnel w (nI i) (nI j) = (0, numT (row (lTu (wCur w)) i) (nI j)) := by
    unfold o_tunnel
    have h4 := (gw.1.1.fit (by have := gw.2.2.2.1; omega)).1.1.2
    rw [ix_in hi (by omega)]
    show (match rg 0 2 (nI j) with | none => (2, 0) | some _ => (0, numT (row (lTu (wCur w)) i) (nI j)) : Nat × Int32) = _
    rw [rg_in (Nat.zero_le _) hj (by omega)]
  unfold wo_X6_tunnel
  refine C_tunnel h gw (fun  _ => ?_) (fun z => ?_) (fun z => ?_)
  · rw [e]; exact hq
  · rw [e] at z; exact absurd (show (0 : Nat) = 1 from z) (by decide)
  · rw [e] at z; exact absurd (show (0 : Nat) = 2 from z) (by decide)
theorem O_cell {v : V_X6} {w : Wd} {k : Nat} (h : CW v w) (g : IW k w) {p x : Int32} {i : Nat} (j : Nat) (hi : i < (lTu (wCur w)).length) (hj : j < 2 ^ 31) (ep : p = nI i) (ex : x = nI j) {Q : Int32 → Prop} (hq : Q (atI (row (lTu (wCur w)) i) (nI j))) : wo_X6_cell v p x Q := by
  obtain ⟨n, gw⟩ := g.good
  subst ep
  subst ex
  have e : o_cell w (nI i) (nI j) = (0, atI (row (lTu (wCur w)) i) (nI j)) := by
    unfold o_cell
    have h4 := (gw.1.1.fit (by have := gw.2.2.2.1; omega)).1.1.2
    rw [ix_in hi (by omega)]
    exact if_pos (nI_le (Nat.zero_le _) hj)
  unfold wo_X6_cell
  refine C_cell h gw (fun  _ => ?_) (fun z => ?_) (fun z => ?_)
  · rw [e]; exact hq
  · rw [e] at z; exact absurd (show (0 : Nat) = 1 from z) (by decide)
  · rw [e] at z; exact absurd (show (0 : Nat) = 2 from z) (by decide)
theorem O_fewest {v : V_X6} {w : Wd} {k : Nat} (h : CW v w) (g : IW k w) {p x : Int32} {s t : Nat} (hs : s < 64) (ht : t < 64) (ep : p = nI s) (ex : x = nI t) {Q : Int32 → V_X6 → Prop} (hq : ∀ v', CW v' w → Q (cD (wayOf w s t)) v') : wo_X6_fewest v p x Q := by
  obtain ⟨n, gw⟩ := g.good
  subst ep
  subst ex
  have e : o_fewest w (nI s) (nI t) = (0, cD (wayOf w s t)) := by
    unfold o_fewest
    rw [ix_in hs (by omega)]
    show (match ix 64 (nI t) with | none => (1, 0) | some t => (0, cD (wayOf w s t)) : Nat × Int32) = _
    rw [ix_in ht (by omega)]
  unfold wo_X6_fewest
  refine C_fewest h gw (fun P _ => ?_) (fun z => ?_)
  · rw [e]; exact hq _ h
  · rw [e] at z; exact absurd (show (0 : Nat) = 1 from z) (by decide)
theorem O_joined {v : V_X6} {w : Wd} {k : Nat} (h : CW v w) (g : IW k w) {p x : Int32} {s t : Nat} (hs : s < 64) (ht : t < 64) (ep : p = nI s) (ex : x = nI t) {Q : Int32 → V_X6 → Prop} (hq : ∀ v', CW v' w → Q (bI (decide (wayOf w s t ≠ 1000))) v') : wo_X6_joined v p x Q := by
  obtain ⟨n, gw⟩ := g.good
  subst ep
  subst ex
  have e : o_joined w (nI s) (nI t) = (0, bI (decide (wayOf w s t ≠ 1000))) := by
    unfold o_joined
    rw [ix_in hs (by omega)]
    show (match ix 64 (nI t) with | none => (1, 0) | some t => (0, bI (decide (wayOf w s t ≠ 1000))) : Nat × Int32) = _
    rw [ix_in ht (by omega)]
  unfold wo_X6_joined
  refine C_joined h gw (fun P _ => ?_) (fun z => ?_)
  · rw [e]; exact hq _ h
  · rw [e] at z; exact absurd (show (0 : Nat) = 1 from z) (by decide)
theorem O_ifDug {v : V_X6} {w : Wd} {k : Nat} (h : CW v w) (g : IW k w) {p x : Int32} {t : Nat} (j : Nat) (ht : t < 64) (hj : j ≤ 2) (ep : p = nI t) (ex : x = nI j) {Q : Int32 → V_X6 → Prop} (hq : ∀ v', CW v' w → Q (if nI j = nI 0 then lFa (dug (wCur w) t) - lFa (wCur w) else if nI j = nI 1 then nI ((lMo (wCur w)).length - ((lMo (wCur w)).filter (notAt t)).length) else nI (cnt (fun u => hol (dug (wCur w) t) u) 64)) v') : wo_X6_ifDug v p x Q := by
  obtain ⟨n, gw⟩ := g.good
  subst ep
  subst ex
  have e : o_ifDug w (nI t) (nI j) = (0, if nI j = nI 0 then lFa (dug (wCur w) t) - lFa (wCur w) else if nI j = nI 1 then nI ((lMo (wCur w)).length - ((lMo (wCur w)).filter (notAt t)).length) else nI (cnt (fun u => hol (dug (wCur w) t) u) 64)) := by
    unfold o_ifDug
    rw [ix_in ht (by omega)]
    show (match rg 0 2 (nI j) with | none => (2, 0) | some _ => (0, if nI j = nI 0 then lFa (dug (wCur w) t) - lFa (wCur w) else if nI j = nI 1 then nI ((lMo (wCur w)).length - ((lMo (wCur w)).filter (notAt t)).length) else nI (cnt (fun u => hol (dug (wCur w) t) u) 64)) : Nat × Int32) = _
    rw [rg_in (Nat.zero_le _) hj (by omega)]
  unfold wo_X6_ifDug
  refine C_ifDug h gw (fun sp s tr hp _ => ?_) (fun z => ?_) (fun z => ?_)
  · rw [e]; exact hq _ ⟨h.1, h.2.1, hp, h.2.2.2⟩
  · rw [e] at z; exact absurd (show (0 : Nat) = 1 from z) (by decide)
  · rw [e] at z; exact absurd (show (0 : Nat) = 2 from z) (by decide)
theorem O_ifPassed {v : V_X6} {w : Wd} {k : Nat} (h : CW v w) (g : IW k w) {p x : Int32} {b : Nat} (j : Nat) (hb : 1 ≤ b) (hb2 : b ≤ 30) (hj : j ≤ 2) (ep : p = nI b) (ex : x = nI j) {Q : Int32 → V_X6 → Prop} (hq : ∀ v', CW v' w → Q (if nI j = nI 0 then lRi (beatN b (wCur w)) - lRi (wCur w) else if nI j = nI 1 then nI (lTu (beatN b (wCur w))).length else lCa (beatN b (wCur w)) - lCa (wCur w)) v') : wo_X6_ifPassed v p x Q := by
  obtain ⟨n, gw⟩ := g.good
  subst ep
  subst ex
  have e : o_ifPassed w (nI b) (nI j) = (0, if nI j = nI 0 then lRi (beatN b (wCur w)) - lRi (wCur w) else if nI j = nI 1 then nI (lTu (beatN b (wCur w))).length else lCa (beatN b (wCur w)) - lCa (wCur w)) := by
    unfold o_ifPassed
    rw [rg_in hb hb2 (by omega)]
    show (match rg 0 2 (nI j) with | none => (1, 0) | some _ => (0, if nI j = nI 0 then lRi (beatN b (wCur w)) - lRi (wCur w) else if nI j = nI 1 then nI (lTu (beatN b (wCur w))).length else lCa (beatN b (wCur w)) - lCa (wCur w)) : Nat × Int32) = _
    rw [rg_in (Nat.zero_le _) hj (by omega)]
  unfold wo_X6_ifPassed
  refine C_ifPassed h gw (fun sp tr hp _ => ?_) (fun z => ?_)
  · rw [e]; exact hq _ ⟨h.1, h.2.1, hp, h.2.2.2⟩
  · rw [e] at z; exact absurd (show (0 : Nat) = 1 from z) (by decide)
theorem O_nextMound {v : V_X6} {w : Wd} {k : Nat} (h : CW v w) (g : IW k w) (hk : k ≤ 512) {Q : Int32 → V_X6 → Prop} (hq : ∀ v', CW v' w → Q (nm (wCur w) 100 0) v') : wo_X6_nextMound v Q := by
  obtain ⟨n, gw⟩ := g.good
  unfold wo_X6_nextMound
  exact C_nextMound h gw (g.2.1.small hk) (fun sp tr hp => hq _ ⟨h.1, h.2.1, hp, h.2.2.2⟩)
theorem O_bestDig {v : V_X6} {w : Wd} {k : Nat} (h : CW v w) (g : IW k w) {Q : Int32 → V_X6 → Prop} (hq : ∀ v', CW v' w → Q (bst (wCur w) 64).1 v') : wo_X6_bestDig v Q := by
  obtain ⟨n, gw⟩ := g.good
  unfold wo_X6_bestDig
  exact C_bestDig h gw (fun s => hq _ h)
theorem O_hollowShare {v : V_X6} {w : Wd} {k : Nat} (h : CW v w) (g : IW k w) {Q : UInt64 → V_X6 → Prop} (hq : ∀ v', CW v' w → Q (shareF (cnt (fun t => hol (wCur w) t) 64)) v') : wo_X6_hollowShare v Q := by
  obtain ⟨n, gw⟩ := g.good
  unfold wo_X6_hollowShare
  exact C_hollowShare h gw (fun s => hq _ h)
theorem numC_1 (w : Wd) : numC w (nI 1) = nI (lMo (wCur w)).length := by unfold numC; rw [if_neg (by decide), if_pos rfl]
theorem numC_3 (w : Wd) : numC w (nI 3) = nI (cnt (fun t => lMn (wCur w) t) 64) := by unfold numC; rw [if_neg (by decide), if_neg (by decide), if_neg (by decide), if_pos rfl]
theorem numC_4 (w : Wd) : numC w (nI 4) = nI (lTu (wCur w)).length := by unfold numC; rw [if_neg (by decide), if_neg (by decide), if_neg (by decide), if_neg (by decide), if_pos rfl]
theorem numC_5 (w : Wd) : numC w (nI 5) = nI (cnt (fun t => hol (wCur w) t) 64) := by unfold numC; rw [if_neg (by decide), if_neg (by decide), if_neg (by decide), if_neg (by decide), if_neg (by decide), if_pos rfl]
theorem numC_7 (w : Wd) : numC w (nI 7) = nI (trapsOf (wCur w)) := by unfold numC; rw [if_neg (by decide), if_neg (by decide), if_neg (by decide), if_neg (by decide), if_neg (by decide), if_neg (by decide), if_neg (by decide), if_pos rfl]
theorem numC_10 (w : Wd) : numC w (nI 10) = lRi (wCur w) := by unfold numC; rw [if_neg (by decide), if_neg (by decide), if_neg (by decide), if_neg (by decide), if_neg (by decide), if_neg (by decide), if_neg (by decide), if_neg (by decide), if_neg (by decide), if_neg (by decide), if_pos rfl]
theorem numC_12 (w : Wd) : numC w (nI 12) = nI (grpN (wCur w)) := by unfold numC; rw [if_neg (by decide), if_neg (by decide), if_neg (by decide), if_neg (by decide), if_neg (by decide), if_neg (by decide), if_neg (by decide), if_neg (by decide), if_neg (by decide), if_neg (by decide), if_neg (by decide), if_neg (by decide), if_pos rfl]
theorem numC_13 (w : Wd) : numC w (nI 13) = nI (lAi (wCur w)) := by unfold numC; rw [if_neg (by decide), if_neg (by decide), if_neg (by decide), if_neg (by decide), if_neg (by decide), if_neg (by decide), if_neg (by decide), if_neg (by decide), if_neg (by decide), if_neg (by decide), if_neg (by decide), if_neg (by decide), if_neg (by decide), if_pos rfl]
theorem numC_14 (w : Wd) : numC w (nI 14) = nI (wHist w).length := by unfold numC; rw [if_neg (by decide), if_neg (by decide), if_neg (by decide), if_neg (by decide), if_neg (by decide), if_neg (by decide), if_neg (by decide), if_neg (by decide), if_neg (by decide), if_neg (by decide), if_neg (by decide), if_neg (by decide), if_neg (by decide), if_neg (by decide)]
theorem numU_0 (a : Lw) (t : Nat) : numU a t (nI 0) = bI (lMn a t) := by unfold numU; rw [if_pos rfl]
theorem numU_1 (a : Lw) (t : Nat) : numU a t (nI 1) = lRt a t := by unfold numU; rw [if_neg (by decide), if_pos rfl]
theorem numU_2 (a : Lw) (t : Nat) : numU a t (nI 2) = lTp a t := by unfold numU; rw [if_neg (by decide), if_neg (by decide), if_pos rfl]
theorem numU_3 (a : Lw) (t : Nat) : numU a t (nI 3) = bI (hol a t) := by unfold numU; rw [if_neg (by decide), if_neg (by decide), if_neg (by decide), if_pos rfl]
theorem numU_4 (a : Lw) (t : Nat) : numU a t (nI 4) = nI (cntB t (hol a)) := by unfold numU; rw [if_neg (by decide), if_neg (by decide), if_neg (by decide), if_neg (by decide), if_pos rfl]
theorem numU_5 (a : Lw) (t : Nat) : numU a t (nI 5) = bI (lOp a t) := by unfold numU; rw [if_neg (by decide), if_neg (by decide), if_neg (by decide), if_neg (by decide), if_neg (by decide), if_pos rfl]
theorem numU_6 (a : Lw) (t : Nat) : numU a t (nI 6) = sureA a t := by unfold numU; rw [if_neg (by decide), if_neg (by decide), if_neg (by decide), if_neg (by decide), if_neg (by decide), if_neg (by decide), if_pos rfl]
theorem numU_7 (a : Lw) (t : Nat) : numU a t (nI 7) = nI (crN (lTu a) t) := by unfold numU; rw [if_neg (by decide), if_neg (by decide), if_neg (by decide), if_neg (by decide), if_neg (by decide), if_neg (by decide), if_neg (by decide), if_pos rfl]
theorem numU_8 (a : Lw) (t : Nat) : numU a t (nI 8) = nI (cnt (fun i => lastOf (mTr (mlA (lMo a) i)) == t) (lMo a).length) := by unfold numU; rw [if_neg (by decide), if_neg (by decide), if_neg (by decide), if_neg (by decide), if_neg (by decide), if_neg (by decide), if_neg (by decide), if_neg (by decide)]
theorem numM_0 (m : Ml) : numM m (nI 0) = nI (lastOf (mTr m)) := by unfold numM; rw [if_pos rfl]
theorem numM_1 (m : Ml) : numM m (nI 1) = nI (mAi m) := by unfold numM; rw [if_neg (by decide), if_pos rfl]
theorem numM_2 (m : Ml) : numM m (nI 2) = nI (mPl m).length := by unfold numM; rw [if_neg (by decide), if_neg (by decide), if_pos rfl]
theorem numM_3 (m : Ml) : numM m (nI 3) = if mPl m = [] then nN else nI (at0 (mPl m) 0) := by unfold numM; rw [if_neg (by decide), if_neg (by decide), if_neg (by decide), if_pos rfl]
theorem numM_4 (m : Ml) : numM m (nI 4) = nI (at0 (mTr m) 0) := by unfold numM; rw [if_neg (by decide), if_neg (by decide), if_neg (by decide), if_neg (by decide), if_pos rfl]
theorem numM_5 (m : Ml) : numM m (nI 5) = nI (mTr m).length := by unfold numM; rw [if_neg (by decide), if_neg (by decide), if_neg (by decide), if_neg (by decide), if_neg (by decide), if_pos rfl]
