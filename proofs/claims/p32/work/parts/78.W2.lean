/-! What the calls that change something do: told once for both sides; the class. -/
def eI : String := "java/lang/IndexOutOfBoundsException"
def eA : String := "java/lang/IllegalArgumentException"
def eS : String := "java/lang/IllegalStateException"
/-- a number as a place among n; none, if it is none -/
def ix (n : Nat) (p : Int32) : Option Nat := if p < nI 0 then none else if nI n ≤ p then none else some p.toNatClampNeg
def rg (lo hi : Nat) (p : Int32) : Option Nat := if p < nI lo then none else if nI hi < p then none else some p.toNatClampNeg
theorem ix_in {n j : Nat} (h : j < n) (hn : n < 2 ^ 31) : ix n (nI j) = some j := by
  unfold ix
  rw [if_neg (nI_nlt (Nat.zero_le _) (by omega)), if_neg (nI_ge h hn), nI_clamp (by omega)]
theorem rg_in {lo hi j : Nat} (h1 : lo ≤ j) (h2 : j ≤ hi) (hn : hi < 2 ^ 31) : rg lo hi (nI j) = some j := by
  unfold rg
  rw [if_neg (nI_nlt h1 (by omega)), if_neg (nI_nlt h2 hn), nI_clamp (by omega)]
abbrev Out : Type := Nat × Int32 × Wd
def bad (k : Nat) (w : Wd) : Out := (k, 0, w)
def next (w : Wd) (a : Lw) : Wd := (a, wSnap w, pushH (wHist w) (wCur w), wBuf w)
theorem C_checkTuft {v : V_X6} {p : Int32} {A : Prop} {QX : String → Prop} (h0 : ix 64 p = none → QX eI) (h1 : ∀ j, j < 64 → p = nI j → ix 64 p = some j → A) : wp_X6_checkTuft v p A QX := by
  unfold wp_X6_checkTuft
  refine ⟨fun e => h0 ?_, fun e => ⟨fun e2 => ?_, fun e2 => h0 ?_⟩⟩
  · unfold ix; rw [if_pos (show p < nI 0 from e)]
  · obtain ⟨j, hj, rfl⟩ := nI_of e
    have hj2 : j < 64 := (nI_ltI (b := 64) hj (by omega)).mp e2
    exact h1 j hj2 rfl (ix_in hj2 (by omega))
  · obtain ⟨j, hj, rfl⟩ := nI_of e
    have hj2 : ¬ j < 64 := fun q => e2 ((nI_ltI (b := 64) hj (by omega)).mpr q)
    unfold ix; rw [if_neg (show ¬ nI j < nI 0 from e), if_pos (nI_le (by omega) hj)]
theorem C_checkMole {v : V_X6} {p : Int32} {A : Prop} {QX : String → Prop} {n : Nat} (hn : X0_moleCount (X6_lawn v) = nI n) (h4 : n ≤ 4) (h0 : ix n p = none → QX eI) (h1 : ∀ j, j < n → p = nI j → ix n p = some j → A) : wp_X6_checkMole v p A QX := by
  unfold wp_X6_checkMole
  rw [hn]
  refine ⟨fun e => h0 ?_, fun e => ⟨fun e2 => ?_, fun e2 => h0 ?_⟩⟩
  · unfold ix; rw [if_pos (show p < nI 0 from e)]
  · obtain ⟨j, hj, rfl⟩ := nI_of e
    have hj2 : j < n := (nI_ltI hj (by omega)).mp e2
    exact h1 j hj2 rfl (ix_in hj2 (by omega))
  · obtain ⟨j, hj, rfl⟩ := nI_of e
    have hj2 : ¬ j < n := fun q => e2 ((nI_ltI hj (by omega)).mpr q)
    unfold ix; rw [if_neg (show ¬ nI j < nI 0 from e), if_pos (nI_le (by omega) hj)]
theorem C_checkTunnel {v : V_X6} {p : Int32} {A : Prop} {QX : String → Prop} {n : Nat} (hn : X3_size (X0_tunnels (X6_lawn v)) = nI n) (h4 : n ≤ 512) (h0 : ix n p = none → QX eI) (h1 : ∀ j, j < n → p = nI j → ix n p = some j → A) : wp_X6_checkTunnel v p A QX := by
  unfold wp_X6_checkTunnel
  rw [hn]
  refine ⟨fun e => h0 ?_, fun e => ⟨fun e2 => ?_, fun e2 => h0 ?_⟩⟩
  · unfold ix; rw [if_pos (show p < nI 0 from e)]
  · obtain ⟨j, hj, rfl⟩ := nI_of e
    have hj2 : j < n := (nI_ltI hj (by omega)).mp e2
    exact h1 j hj2 rfl (ix_in hj2 (by omega))
  · obtain ⟨j, hj, rfl⟩ := nI_of e
    have hj2 : ¬ j < n := fun q => e2 ((nI_ltI hj (by omega)).mpr q)
    unfold ix; rw [if_neg (show ¬ nI j < nI 0 from e), if_pos (nI_le (by omega) hj)]
/-- a test of a range, as the class makes it -/
theorem C_range {p : Int32} {A B C : Prop} {lo hi : Nat} (hl : lo < 2 ^ 30) (hh : hi < 2 ^ 30) (h0 : rg lo hi p = none → A) (h2 : rg lo hi p = none → C) (h1 : ∀ j, lo ≤ j → j ≤ hi → p = nI j → rg lo hi p = some j → B) : (p < nI lo → A) ∧ (¬ p < nI lo → ((p ≤ nI hi → B) ∧ (¬ p ≤ nI hi → C))) := by
  refine ⟨fun e => h0 ?_, fun e => ⟨fun e2 => ?_, fun e2 => h2 ?_⟩⟩
  · unfold rg; rw [if_pos e]
  · have e0 : ¬ p < 0 := fun q => e (by
      rw [Int32.lt_iff_toInt_lt] at q ⊢
      rw [nI_toInt (by omega)]
      have : (0 : Int32).toInt = 0 := by decide
      omega)
    obtain ⟨j, hj, rfl⟩ := nI_of e0
    have j1 : lo ≤ j := by
      apply Classical.byContradiction
      intro q
      exact e ((nI_ltI hj (by omega)).mpr (by omega))
    have j2 : j ≤ hi := (nI_leI hj (by omega)).mp e2
    exact h1 j j1 j2 rfl (rg_in j1 j2 (by omega))
  · have e3 : nI hi < p := by
      rw [Int32.lt_iff_toInt_lt]
      rw [Int32.le_iff_toInt_le] at e2
      omega
    unfold rg; rw [if_neg e, if_pos e3]
theorem C_checkBeats {v : V_X6} {p : Int32} {A : Prop} {QX : String → Prop} (h0 : rg 1 30 p = none → QX eA) (h1 : ∀ j, 1 ≤ j → j ≤ 30 → p = nI j → rg 1 30 p = some j → A) : wp_X6_checkBeats v p A QX := C_range (lo := 1) (hi := 30) (by omega) (by omega) h0 h0 h1
theorem C_checkWhat {v : V_X6} {p : Int32} {n : Nat} (hn : n < 100) {A : Prop} {QX : String → Prop} (h0 : rg 0 n p = none → QX eA) (h1 : ∀ j, j ≤ n → p = nI j → rg 0 n p = some j → A) : wp_X6_checkWhat v p (nI n) A QX := C_range (lo := 0) (hi := n) (by omega) (by omega) h0 h0 (fun j _ h => h1 j h)
def o_mole (w : Wd) (p : Int32) : Out := match ix 64 p with
  | none => bad 1 w
  | some t => if 4 ≤ (lMo (wCur w)).length ∨ ¬ lRt (wCur w) t ≤ nI 0 then bad 2 w else (0, nI (lMo (wCur w)).length, next w (welcome (wCur w) t))
def o_plan (w : Wd) (p d : Int32) : Out := match ix (lMo (wCur w)).length p with
  | none => bad 1 w
  | some i => match rg 0 3 d with
    | none => bad 2 w
    | some k => if 20 ≤ (mPl (mlA (lMo (wCur w)) i)).length then bad 3 w else (0, nI ((mPl (mlA (lMo (wCur w)) i)).length + 1), next w (addDir (wCur w) i k))
def o_rest (w : Wd) (p : Int32) : Out := match ix (lMo (wCur w)).length p with
  | none => bad 1 w
  | some i => (0, nI (mPl (mlA (lMo (wCur w)) i)).length, next w (restA (wCur w) i))
def beatN : Nat → Lw → Lw
  | 0, a => a
  | k + 1, a => beatA (beatN k a)
def o_pass (w : Wd) (p : Int32) : Out := match rg 1 30 p with
  | none => bad 1 w
  | some k => (0, lRi (beatN k (wCur w)) - lRi (wCur w), next w (beatN k (wCur w)))
def o_root (w : Wd) (p x : Int32) : Out := match ix 64 p with
  | none => bad 1 w
  | some t => match rg 0 9 x with
    | none => bad 2 w
    | some _ => (0, lRt (wCur w) t, next w (rootA (wCur w) t x))
def trapsOf (a : Lw) : Nat := cnt (fun t => !decide (lTp a t = nN)) 64
def o_trap (w : Wd) (p x : Int32) : Out := match ix 64 p with
  | none => bad 1 w
  | some t => match rg 0 20 x with
    | none => bad 2 w
    | some _ => if lTp (wCur w) t = nN then (0, nI (trapsOf (trapA (wCur w) t x)), next w (trapA (wCur w) t x)) else bad 3 w
def o_dig (w : Wd) (p : Int32) : Out := match ix 64 p with
  | none => bad 1 w
  | some t => (0, nI ((lMo (wCur w)).length - ((lMo (wCur w)).filter (notAt t)).length), next w (dug (wCur w) t))
def o_rake (w : Wd) (p : Int32) : Out := match ix 64 p with
  | none => bad 1 w
  | some t => if lMn (wCur w) t = false ∨ (lMo (wCur w)).any (fun m => at0 (mTr m) 0 == t) = true then bad 2 w else (0, nI (lTu (wCur w)).length - nI (lTu (raked (wCur w) t)).length, next w (raked (wCur w) t))
def o_set (w : Wd) (p : Int32) : Out := match rg 2 20 p with
  | none => bad 1 w
  | some x => (0, nI (lAi (wCur w)), next w (setAirA (wCur w) x))
def o_undo (w : Wd) : Out := if (wHist w).length = 0 then bad 1 w else (0, nI ((wHist w).length - 1), (hAt (wHist w) ((wHist w).length - 1), wSnap w, (wHist w).dropLast, wBuf w))
def o_keep (w : Wd) : Out := (0, nI (lTu (wCur w)).length, (wCur w, some (wCur w), wHist w, wBuf w))
def o_restore (w : Wd) : Out := match wSnap w with
  | none => bad 1 w
  | some a => (0, nI (lTu a).length, next w a)
def o_append (w : Wd) (p : Int32) : Out := match rg 33 126 p with
  | none => bad 1 w
  | some c => if 60 ≤ (wBuf w).length then bad 2 w else (0, nI ((wBuf w).length + 1), (wCur w, wSnap w, wHist w, wBuf w ++ [c]))
def o_clear (w : Wd) : Out := (0, nI (wBuf w).length, (wCur w, wSnap w, wHist w, []))
/-- what a call of the class that changes the lawn leaves -/
def tup (v : V_X6) (L : V_X0) (sa : Nat → V_X0) (sc : Int32) (sr : Nat → Nat) (sp : V_X3) : V_X6 := (L, X6_snapshot v, X6_trial v, sr, sa, X6_text v, X6_survey v, X6_paths v, X6_snapshotTaken v, sc, sp)
theorem CW_next {v : V_X6} {w : Wd} (h : CW v w) {L : V_X0} {a : Lw} (hL : CLawn L a) {sa : Nat → V_X0} {sc : Int32} {sr : Nat → Nat} {sp : V_X3} (hh : CHist sr sa sc (pushH (wHist w) (wCur w))) : CW (tup v L sa sc sr sp) (next w a) := ⟨hL, h.2.1, h.2.2.1, h.2.2.2.1, h.2.2.2.2.1, hh, h.2.2.2.2.2.2⟩
theorem C_mole {v : V_X6} {w : Wd} {n : Nat} (h : CW v w) (g : GoodW n w) {p : Int32} {Q : Int32 → V_X0 → (Nat → V_X0) → Int32 → (Nat → Nat) → V_X3 → Prop} {QX : String → Prop} (hq : ∀ L sa sc sr sp, (o_mole w p).1 = 0 → CW (tup v L sa sc sr sp) (o_mole w p).2.2 → Q (o_mole w p).2.1 L sa sc sr sp) (h1 : (o_mole w p).1 = 1 → QX eI) (h2 : (o_mole w p).1 = 2 → QX eS) : wp_X6_mole v p Q QX := by
  have hn : n ≤ 512 := by have := g.2.2.2.1; omega
  have hc := h.1
  have hmc : X0_moleCount (X6_lawn v) = nI (lMo (wCur w)).length := hc.2.2.2.2.2.1.1
  have hl4 := g.1.1.1
  unfold wp_X6_mole
  refine C_checkTuft (fun e => h1 (by unfold o_mole; rw [e]; rfl)) (fun t ht hp e => ?_)
  subst hp
  have eo : o_mole w (nI t) = if 4 ≤ (lMo (wCur w)).length ∨ ¬ lRt (wCur w) t ≤ nI 0 then bad 2 w else (0, nI (lMo (wCur w)).length, next w (welcome (wCur w) t)) := by unfold o_mole; rw [e]
  rw [hmc]
  simp (disch := omega) only [nI_lit, nI_clamp, nI_inI, nI_leI]
  rw [hc.2.2.1 t ht]
  refine ⟨fun e4 => h2 (by rw [eo, if_pos (Or.inl e4)]; rfl), fun e4 => ⟨ht, fun er => ?_, fun er => h2 (by rw [eo, if_pos (Or.inr er)]; rfl)⟩⟩
  have eo2 : o_mole w (nI t) = (0, nI (lMo (wCur w)).length, next w (welcome (wCur w) t)) := by rw [eo, if_neg (fun q => q.elim e4 (fun z => z er))]
  rw [eo2] at hq
  refine C_saveState h g (fun sa sc sr hh => C_X0_welcome hc (g.1.1.fit hn) (by omega) ht (fun em => ?_) (fun uc ue us uu mc mo mn ri tu hL => hq _ _ _ _ _ rfl (CW_next h hL hh)))
  exact ((comesUp_good g.1.1 em).T hn).2
theorem C_plan {v : V_X6} {w : Wd} {n : Nat} (h : CW v w) (g : GoodW n w) {p d : Int32} {Q : Int32 → V_X0 → (Nat → V_X0) → Int32 → (Nat → Nat) → Prop} {QX : String → Prop} (hq : ∀ L sa sc sr, (o_plan w p d).1 = 0 → CW (tup v L sa sc sr (X6_spareR v)) (o_plan w p d).2.2 → Q (o_plan w p d).2.1 L sa sc sr) (h1 : (o_plan w p d).1 = 1 → QX eI) (h2 : (o_plan w p d).1 = 2 → QX eA) (h3 : (o_plan w p d).1 = 3 → QX eS) : wp_X6_plan v p d Q QX := by
  have hn : n ≤ 512 := by have := g.2.2.2.1; omega
  have hc := h.1
  have hmc : X0_moleCount (X6_lawn v) = nI (lMo (wCur w)).length := hc.2.2.2.2.2.1.1
  have hl4 := g.1.1.1
  unfold wp_X6_plan
  refine C_checkMole hmc hl4 (fun e => h1 (by unfold o_plan; rw [e]; rfl)) (fun i hi hp e => ?_)
  subst hp
  have bad2 : rg 0 3 d = none → (o_plan w (nI i) d).1 = 2 := fun e2 => by unfold o_plan; rw [e]; show (match rg 0 3 d with | none => bad 2 w | some k => _).1 = 2; rw [e2]; rfl
  refine C_range (lo := 0) (hi := 3) (by omega) (by omega) (fun e2 => h2 (bad2 e2)) (fun e2 => h2 (bad2 e2)) (fun k _ hk hd e2 => ?_)
  subst hd
  have eo : o_plan w (nI i) (nI k) = if 20 ≤ (mPl (mlA (lMo (wCur w)) i)).length then bad 3 w else (0, nI ((mPl (mlA (lMo (wCur w)) i)).length + 1), next w (addDir (wCur w) i k)) := by
    unfold o_plan; rw [e]; show (match rg 0 3 (nI k) with | none => bad 2 w | some k => _) = _; rw [e2]
  have hs := hc.2.2.2.2.2.1.self hi
  have ok := (g.1.1.2.1 _ (mlA_mem hi)).ok
  have f20 := ok.1.1
  simp (disch := omega) only [nI_lit, nI_clamp, nI_inI]
  refine ⟨by omega, hc.2.2.2.2.2.1.2.1 i (by omega), ?_⟩
  rw [hs.2.2.1]
  simp (disch := omega) only [nI_ltI]
  refine ⟨fun e4 => ?_, fun e4 => h3 (by rw [eo, if_pos (by omega)]; rfl)⟩
  have eo2 : o_plan w (nI i) (nI k) = (0, nI ((mPl (mlA (lMo (wCur w)) i)).length + 1), next w (addDir (wCur w) i k)) := by rw [eo, if_neg (by omega)]
  rw [eo2] at hq
  refine C_saveState h g (fun sa sc sr hh => C_X1_addDirection hs e4 (fun d hd => hq _ _ _ _ rfl (CW_next h ?_ hh)))
  obtain ⟨k1, k2, k3, k4, k5, k6, k7⟩ := hc
  obtain ⟨g1, g2, g3, g4, g5, g6⟩ := hs
  exact ⟨k1, k2, k3, k4, k5, k6.set hl4 hi ⟨hd, g2, by show nI _ = nI (mPl (mlA (lMo (wCur w)) i) ++ [k]).length; rw [List.length_append]; rfl, g4, g5, g6⟩, k7⟩
theorem C_rest {v : V_X6} {w : Wd} {n : Nat} (h : CW v w) (g : GoodW n w) {p : Int32} {Q : Int32 → V_X0 → (Nat → V_X0) → Int32 → (Nat → Nat) → Prop} {QX : String → Prop} (hq : ∀ L sa sc sr, (o_rest w p).1 = 0 → CW (tup v L sa sc sr (X6_spareR v)) (o_rest w p).2.2 → Q (o_rest w p).2.1 L sa sc sr) (h1 : (o_rest w p).1 = 1 → QX eI) : wp_X6_rest v p Q QX := by
  have hc := h.1
  have hmc : X0_moleCount (X6_lawn v) = nI (lMo (wCur w)).length := hc.2.2.2.2.2.1.1
  have hl4 := g.1.1.1
  unfold wp_X6_rest
  refine C_checkMole hmc hl4 (fun e => h1 (by unfold o_rest; rw [e]; rfl)) (fun i hi hp e => ?_)
  subst hp
  have eo : o_rest w (nI i) = (0, nI (mPl (mlA (lMo (wCur w)) i)).length, next w (restA (wCur w) i)) := by unfold o_rest; rw [e]
  rw [eo] at hq
  have hs := hc.2.2.2.2.2.1.self hi
  refine C_saveState h g (fun sa sc sr hh => ?_)
  simp (disch := omega) only [nI_lit, nI_clamp, nI_inI]
  refine ⟨by omega, hc.2.2.2.2.2.1.2.1 i (by omega), ?_⟩
  rw [hs.2.2.1]
  refine hq _ _ _ _ rfl (CW_next h ?_ hh)
  obtain ⟨k1, k2, k3, k4, k5, k6, k7⟩ := hc
  obtain ⟨g1, g2, g3, g4, g5, g6⟩ := hs
  exact ⟨k1, k2, k3, k4, k5, k6.set hl4 hi ⟨seg_nil _ _, g2, rfl, g4, g5, g6⟩, k7⟩
theorem beatN_good {n : Nat} {a : Lw} (h : Good n a) : ∀ k, Good n (beatN k a)
  | 0 => h
  | k + 1 => beat_good (beatN_good h k)
/-- what a beat of the class asks and gives, over lawns that are good -/
theorem C_beat {x : V_X0} {u : V_X3} {a : Lw} {n : Nat} (h : CLawn x a) (g : Good n a) (hn : n ≤ 512) {Q : (Nat → Int32) → (Nat → Int32) → Int32 → Int32 → Int32 → Int32 → Int32 → Int32 → (Nat → V_X1) → (Nat → Nat) → (Nat → Int32) → Int32 → (Nat → Int32) → (Nat → Int32) → V_X3 → Prop} (hq : ∀ uc ue us uu bt ca gn mc mo mr mn ri rt tp tu, CLawn (mn, X0_opened x, rt, tp, tu, mr, mo, mc, X0_fullAir x, bt, ca, gn, ri, X0_fallen x) (beatA a) → Q uc ue us uu bt ca gn mc mo mr mn ri rt tp tu) : wp_X0_beat x u Q :=
  C_X0_beat (Good n) (fun b hb => ⟨hb.1.fit hn, hb.air⟩) (fun b i hb hi => act_good hb hi) h (tick_good g).1 hq
theorem C_pass {v : V_X6} {w : Wd} {n : Nat} (h : CW v w) (g : GoodW n w) {p : Int32} {Q : Int32 → V_X0 → (Nat → V_X0) → Int32 → (Nat → Nat) → V_X3 → Prop} {QX : String → Prop} (hq : ∀ L sa sc sr sp, (o_pass w p).1 = 0 → CW (tup v L sa sc sr sp) (o_pass w p).2.2 → Q (o_pass w p).2.1 L sa sc sr sp) (h1 : (o_pass w p).1 = 1 → QX eA) : wp_X6_pass v p Q QX := by
  have hn : n ≤ 512 := by have := g.2.2.2.1; omega
  have hc := h.1
  unfold wp_X6_pass
  refine C_checkBeats (fun e => h1 (by unfold o_pass; rw [e]; rfl)) (fun k hk1 hk30 hp e => ?_)
  subst hp
  have eo : o_pass w (nI k) = (0, lRi (beatN k (wCur w)) - lRi (wCur w), next w (beatN k (wCur w))) := by unfold o_pass; rw [e]
  rw [eo] at hq
  refine C_saveState h g (fun sa sc sr hh => ?_)
  unfold wp_X6_pass_19
  refine ⟨fun y L sp => ∃ j, y = nI j ∧ j ≤ k ∧ CLawn L (beatN j (wCur w)), fun y _ _ => 70 - y.toNatClampNeg, ⟨0, rfl, by omega, hc⟩, ?_⟩
  rintro _ L sp ⟨j, rfl, hj, hL⟩
  unfold wb_X6_pass_19
  simp (disch := omega) only [nI_lit, nI_add, nI_clamp, nI_leI]
  refine ⟨fun q => ?_, fun q => ?_⟩
  · have ej : j = k := by omega
    subst ej
    have e1 : X0_risen L = lRi (beatN j (wCur w)) := hL.2.2.2.2.2.2.2.2.2.2.1
    have e2 : X0_risen (X6_lawn v) = lRi (wCur w) := hc.2.2.2.2.2.2.2.2.2.2.1
    rw [e1, e2]
    exact hq _ _ _ _ _ rfl (CW_next h hL hh)
  · exact C_beat hL (beatN_good g.1 j) hn (fun uc ue us uu bt ca gn mc mo mr mn ri rt tp tu hL2 => ⟨⟨j + 1, rfl, by omega, hL2⟩, by omega⟩)
theorem C_root {v : V_X6} {w : Wd} {n : Nat} (h : CW v w) (g : GoodW n w) {p x : Int32} {Q : Int32 → V_X0 → (Nat → V_X0) → Int32 → (Nat → Nat) → Prop} {QX : String → Prop} (hq : ∀ L sa sc sr, (o_root w p x).1 = 0 → CW (tup v L sa sc sr (X6_spareR v)) (o_root w p x).2.2 → Q (o_root w p x).2.1 L sa sc sr) (h1 : (o_root w p x).1 = 1 → QX eI) (h2 : (o_root w p x).1 = 2 → QX eA) : wp_X6_root v p x Q QX := by
  have hc := h.1
  unfold wp_X6_root
  refine C_checkTuft (fun e => h1 (by unfold o_root; rw [e]; rfl)) (fun t ht hp e => ?_)
  subst hp
  have bad2 : rg 0 9 x = none → (o_root w (nI t) x).1 = 2 := fun e2 => by unfold o_root; rw [e]; show (match rg 0 9 x with | none => bad 2 w | some k => _).1 = 2; rw [e2]; rfl
  refine C_range (lo := 0) (hi := 9) (by omega) (by omega) (fun e2 => h2 (bad2 e2)) (fun e2 => h2 (bad2 e2)) (fun k _ hk hd e2 => ?_)
  have eo : o_root w (nI t) x = (0, lRt (wCur w) t, next w (rootA (wCur w) t x)) := by
    unfold o_root; rw [e]; show (match rg 0 9 x with | none => bad 2 w | some k => _) = _; rw [e2]
  rw [eo] at hq
  refine C_saveState h g (fun sa sc sr hh => ?_)
  simp (disch := omega) only [nI_lit, nI_clamp, nI_inI]
  obtain ⟨k1, k2, k3, k4, k5, k6, k7⟩ := hc
  rw [k3 t ht]
  have hL : CLawn (X0_s2 (X6_lawn v) (upd (X0_roots (X6_lawn v)) t x)) (rootA (wCur w) t x) := ⟨k1, k2, upE k3 t x, k4, k5, k6, k7⟩
  exact ⟨ht, hq _ _ _ _ rfl (CW_next h hL hh)⟩
theorem C_trap {v : V_X6} {w : Wd} {n : Nat} (h : CW v w) (g : GoodW n w) {p x : Int32} {Q : Int32 → V_X0 → (Nat → V_X0) → Int32 → (Nat → Nat) → Prop} {QX : String → Prop} (hq : ∀ L sa sc sr, (o_trap w p x).1 = 0 → CW (tup v L sa sc sr (X6_spareR v)) (o_trap w p x).2.2 → Q (o_trap w p x).2.1 L sa sc sr) (h1 : (o_trap w p x).1 = 1 → QX eI) (h2 : (o_trap w p x).1 = 2 → QX eA) (h3 : (o_trap w p x).1 = 3 → QX eS) : wp_X6_trap v p x Q QX := by
  have hc := h.1
  unfold wp_X6_trap
  refine C_checkTuft (fun e => h1 (by unfold o_trap; rw [e]; rfl)) (fun t ht hp e => ?_)
  subst hp
  have bad2 : rg 0 20 x = none → (o_trap w (nI t) x).1 = 2 := fun e2 => by unfold o_trap; rw [e]; show (match rg 0 20 x with | none => bad 2 w | some k => _).1 = 2; rw [e2]; rfl
  refine C_range (lo := 0) (hi := 20) (by omega) (by omega) (fun e2 => h2 (bad2 e2)) (fun e2 => h2 (bad2 e2)) (fun k _ hk hd e2 => ?_)
  have eo : o_trap w (nI t) x = if lTp (wCur w) t = nN then (0, nI (trapsOf (trapA (wCur w) t x)), next w (trapA (wCur w) t x)) else bad 3 w := by
    unfold o_trap; rw [e]; show (match rg 0 20 x with | none => bad 2 w | some k => _) = _; rw [e2]
  simp (disch := omega) only [nI_lit, nN_eq, nI_clamp, nI_inI]
  obtain ⟨k1, k2, k3, k4, k5, k6, k7⟩ := hc
  rw [k4 t ht]
  refine ⟨ht, fun et => ?_, fun et => h3 (by rw [eo, if_neg et]; rfl)⟩
  have eo2 : o_trap w (nI t) x = (0, nI (trapsOf (trapA (wCur w) t x)), next w (trapA (wCur w) t x)) := by rw [eo, if_pos et]
  rw [eo2] at hq
  have hL : CLawn (X0_s3 (X6_lawn v) (upd (X0_traps (X6_lawn v)) t x)) (trapA (wCur w) t x) := ⟨k1, k2, k3, upE k4 t x, k5, k6, k7⟩
  exact C_saveState h g (fun sa sc sr hh => C_X0_trapCount hL (hq _ _ _ _ rfl (CW_next h hL hh)))
theorem C_dig {v : V_X6} {w : Wd} {n : Nat} (h : CW v w) (g : GoodW n w) {p : Int32} {Q : Int32 → V_X0 → (Nat → V_X0) → Int32 → (Nat → Nat) → V_X3 → Prop} {QX : String → Prop} (hq : ∀ L sa sc sr sp, (o_dig w p).1 = 0 → CW (tup v L sa sc sr sp) (o_dig w p).2.2 → Q (o_dig w p).2.1 L sa sc sr sp) (h1 : (o_dig w p).1 = 1 → QX eI) : wp_X6_dig v p Q QX := by
  have hn : n ≤ 512 := by have := g.2.2.2.1; omega
  have hc := h.1
  unfold wp_X6_dig
  refine C_checkTuft (fun e => h1 (by unfold o_dig; rw [e]; rfl)) (fun t ht hp e => ?_)
  subst hp
  have eo : o_dig w (nI t) = (0, nI ((lMo (wCur w)).length - ((lMo (wCur w)).filter (notAt t)).length), next w (dug (wCur w) t)) := by unfold o_dig; rw [e]
  rw [eo] at hq
  obtain ⟨d1, d2, -⟩ := dug_facts (t := t) g.1 hn
  exact C_saveState h g (fun sa sc sr hh => C_X0_digUp hc (g.1.1.fit hn) ht d1 d2 (fun uc ue us uu ca fa mc mo mr mn op ri rt tp tu hL => hq _ _ _ _ _ rfl (CW_next h hL hh)))
theorem C_rake {v : V_X6} {w : Wd} {n : Nat} (h : CW v w) (g : GoodW n w) {p : Int32} {Q : Int32 → V_X0 → (Nat → V_X0) → Int32 → (Nat → Nat) → V_X3 → Prop} {QX : String → Prop} (hq : ∀ L sa sc sr sp, (o_rake w p).1 = 0 → CW (tup v L sa sc sr sp) (o_rake w p).2.2 → Q (o_rake w p).2.1 L sa sc sr sp) (h1 : (o_rake w p).1 = 1 → QX eI) (h2 : (o_rake w p).1 = 2 → QX eS) : wp_X6_rake v p Q QX := by
  have hn : n ≤ 512 := by have := g.2.2.2.1; omega
  have hc := h.1
  unfold wp_X6_rake
  refine C_checkTuft (fun e => h1 (by unfold o_rake; rw [e]; rfl)) (fun t ht hp e => ?_)
  subst hp
  have eo : o_rake w (nI t) = if lMn (wCur w) t = false ∨ (lMo (wCur w)).any (fun m => at0 (mTr m) 0 == t) = true then bad 2 w else (0, nI (lTu (wCur w)).length - nI (lTu (raked (wCur w) t)).length, next w (raked (wCur w) t)) := by unfold o_rake; rw [e]
  simp (disch := omega) only [nI_lit, nI_clamp, nI_inI]
  rw [hc.1 t ht]
  simp only [bI_0]
  refine ⟨ht, fun em => h2 (by rw [eo, if_pos (Or.inl em)]; rfl), fun em => C_X0_trailBeginsAt hc (g.1.1.fit hn).2.1 ht ?_⟩
  rw [bI_0]
  refine ⟨fun eb => ?_, fun eb => h2 (by rw [eo, if_pos (Or.inr (by simpa using eb))]; rfl)⟩
  have eo2 : o_rake w (nI t) = (0, nI (lTu (wCur w)).length - nI (lTu (raked (wCur w) t)).length, next w (raked (wCur w) t)) := by
    rw [eo, if_neg (fun q => q.elim em (fun z => by rw [eb] at z; exact absurd z (by decide)))]
  rw [eo2] at hq
  have hbeg : ∀ m ∈ lMo (wCur w), at0 (mTr m) 0 ≠ t := fun m hm q => by
    rw [List.any_eq_false] at eb
    exact eb m hm (by simpa using q)
  have hg := raked_good g.1 hbeg
  refine C_saveState h g (fun sa sc sr hh => C_X0_rakeOff hc (g.1.1.fit hn) ht (fun hB => ?_) (fun uc ue us uu fa mn tu hL => hq _ _ _ _ _ rfl (CW_next h hL hh)))
  have := (hg.1.T hn).2
  unfold raked at this
  rw [if_pos hB] at this
  exact this
theorem C_set {v : V_X6} {w : Wd} {n : Nat} (h : CW v w) (g : GoodW n w) {p : Int32} {Q : Int32 → V_X0 → (Nat → V_X0) → Int32 → (Nat → Nat) → Prop} {QX : String → Prop} (hq : ∀ L sa sc sr, (o_set w p).1 = 0 → CW (tup v L sa sc sr (X6_spareR v)) (o_set w p).2.2 → Q (o_set w p).2.1 L sa sc sr) (h1 : (o_set w p).1 = 1 → QX eA) : wp_X6_set v p Q QX := by
  have hn : n ≤ 512 := by have := g.2.2.2.1; omega
  have hc := h.1
  unfold wp_X6_set
  have bad2 : rg 2 20 p = none → (o_set w p).1 = 1 := fun e2 => by unfold o_set; rw [e2]; rfl
  refine C_range (lo := 2) (hi := 20) (by omega) (by omega) (fun e2 => h1 (bad2 e2)) (fun e2 => h1 (bad2 e2)) (fun x hx2 hx20 hp e => ?_)
  subst hp
  have eo : o_set w (nI x) = (0, nI (lAi (wCur w)), next w (setAirA (wCur w) x)) := by unfold o_set; rw [e]
  rw [eo] at hq
  refine C_saveState h g (fun sa sc sr hh => C_X0_setFullAir hc (g.1.1.fit hn).2.1 hx20 (fun mo hmo => ?_))
  obtain ⟨k1, k2, k3, k4, k5, k6, k7, k8⟩ := hc
  rw [k7]
  have hL : CLawn (X0_s8 (X0_s6 (X6_lawn v) mo) (nI x)) (setAirA (wCur w) x) := ⟨k1, k2, k3, k4, k5, ⟨by show X0_moleCount (X6_lawn v) = nI ((lMo (wCur w)).map (capA x)).length; rw [k6.1, List.length_map], hmo.2⟩, rfl, k8⟩
  exact hq _ _ _ _ rfl (CW_next h hL hh)
theorem C_undo {v : V_X6} {w : Wd} {n : Nat} (h : CW v w) (g : GoodW n w) {Q : Int32 → V_X0 → Int32 → Prop} {QX : String → Prop} (hq : ∀ L sc, (o_undo w).1 = 0 → CW (tup v L (X6_saved v) sc (X6_savedR v) (X6_spareR v)) (o_undo w).2.2 → Q (o_undo w).2.1 L sc) (h1 : (o_undo w).1 = 1 → QX eS) : wp_X6_undo v Q QX := by
  have hn : n ≤ 512 := by have := g.2.2.2.1; omega
  have hw := h
  obtain ⟨hc, p1, p2, t1, t2, ⟨s1, s2, s3, s4, s5, s6⟩, tx⟩ := h
  unfold wp_X6_undo
  rw [s1]
  simp (disch := omega) only [nI_lit, nI_ltI]
  refine ⟨fun e => ?_, fun e => h1 (by unfold o_undo; rw [if_pos (by omega)]; rfl)⟩
  have eo : o_undo w = (0, nI ((wHist w).length - 1), (hAt (wHist w) ((wHist w).length - 1), wSnap w, (wHist w).dropLast, wBuf w)) := by unfold o_undo; rw [if_neg (by omega)]
  rw [eo] at hq
  rw [pk_sub (by omega)]
  simp (disch := omega) only [nI_clamp, nI_inI]
  have hm := hAt_mem (A := wHist w) (k := (wHist w).length - 1) (by omega)
  refine ⟨by omega, s3 _ (by omega), C_X0_copyFrom (s6 _ (by omega)) ((g.2.2.1 _ hm).1.fit hn) hc.perm (fun bt ca fa ai gn mc mo mn op ri rt tp tu hL => hq _ _ rfl ⟨hL, p1, p2, t1, t2, ⟨?_, ?_, s3, s4, s5, fun i hi => ?_⟩, tx⟩)⟩
  · show nI _ = nI (wHist w).dropLast.length
    rw [List.length_dropLast]
  · show (wHist w).dropLast.length ≤ 6
    rw [List.length_dropLast]; omega
  · have hi : i < (wHist w).dropLast.length := hi
    rw [List.length_dropLast] at hi
    have : hAt (wHist w).dropLast i = hAt (wHist w) i := by
      unfold hAt
      rw [List.getElem?_dropLast, if_pos hi]
    show CLawn _ (hAt (wHist w).dropLast i)
    rw [this]; exact s6 i (by omega)
theorem C_keep {v : V_X6} {w : Wd} {n : Nat} (h : CW v w) (g : GoodW n w) {Q : Int32 → V_X0 → Int32 → Prop} (hq : ∀ L, CW (X6_lawn v, L, X6_trial v, X6_savedR v, X6_saved v, X6_text v, X6_survey v, X6_paths v, 1, X6_savedCount v, X6_spareR v) (o_keep w).2.2 → Q (o_keep w).2.1 L 1) : wp_X6_keep v Q := by
  have hn : n ≤ 512 := by have := g.2.2.2.1; omega
  obtain ⟨hc, p1, p2, t1, t2, hh, tx⟩ := h
  unfold wp_X6_keep
  refine C_X0_copyFrom hc (g.1.1.fit hn) p1 (fun bt ca fa ai gn mc mo mn op ri rt tp tu hL => ?_)
  rw [hc.2.2.2.2.1.parts.2.2.1]
  exact hq _ ⟨hc, hL.perm, p2, rfl, fun a ha => by
    have : wCur w = a := Option.some.inj ha
    exact this ▸ hL, hh, tx⟩
theorem C_restore {v : V_X6} {w : Wd} {n : Nat} (h : CW v w) (g : GoodW n w) {Q : Int32 → V_X0 → (Nat → V_X0) → Int32 → (Nat → Nat) → Prop} {QX : String → Prop} (hq : ∀ L sa sc sr, (o_restore w).1 = 0 → CW (tup v L sa sc sr (X6_spareR v)) (o_restore w).2.2 → Q (o_restore w).2.1 L sa sc sr) (h1 : (o_restore w).1 = 1 → QX eS) : wp_X6_restore v Q QX := by
  have hn : n ≤ 512 := by have := g.2.2.2.1; omega
  have hw := h
  obtain ⟨hc, p1, p2, t1, t2, hh, tx⟩ := h
  unfold wp_X6_restore
  rw [t1]
  cases e : wSnap w with
  | none =>
    refine ⟨fun _ => h1 (by unfold o_restore; rw [e]; rfl), fun q => absurd rfl q⟩
  | some a =>
    have eo : o_restore w = (0, nI (lTu a).length, next w a) := by unfold o_restore; rw [e]
    rw [eo] at hq
    refine ⟨fun q => absurd (show nI 1 = nI 0 from q) (by decide), fun _ => C_saveState hw g (fun sa sc sr hh => C_X0_copyFrom (t2 a e) ((g.2.1 a e).1.fit hn) hc.perm (fun bt ca fa ai gn mc mo mn op ri rt tp tu hL => ?_))⟩
    have es : X3_size tu = nI (lTu a).length := hL.2.2.2.2.1.parts.2.2.1
    rw [es]
    exact hq _ _ _ _ rfl (CW_next hw hL hh)
theorem C_append {v : V_X6} {w : Wd} (h : CW v w) {p : Int32} {Q : Int32 → V_X5 → Prop} {QX : String → Prop} (hq : ∀ tx, (o_append w p).1 = 0 → CW (X6_lawn v, X6_snapshot v, X6_trial v, X6_savedR v, X6_saved v, tx, X6_survey v, X6_paths v, X6_snapshotTaken v, X6_savedCount v, X6_spareR v) (o_append w p).2.2 → Q (o_append w p).2.1 tx) (h1 : (o_append w p).1 = 1 → QX eA) (h2 : (o_append w p).1 = 2 → QX eS) : wp_X6_append v p Q QX := by
  obtain ⟨hc, p1, p2, t1, t2, hh, ⟨x1, x2, x3, x4⟩⟩ := h
  unfold wp_X6_append
  have bad2 : rg 33 126 p = none → (o_append w p).1 = 1 := fun e2 => by unfold o_append; rw [e2]; rfl
  refine C_range (lo := 33) (hi := 126) (by omega) (by omega) (fun e2 => h1 (bad2 e2)) (fun e2 => h1 (bad2 e2)) (fun c c1 c2 hp e => ?_)
  subst hp
  have eo : o_append w (nI c) = if 60 ≤ (wBuf w).length then bad 2 w else (0, nI ((wBuf w).length + 1), (wCur w, wSnap w, wHist w, wBuf w ++ [c])) := by unfold o_append; rw [e]
  rw [x2]
  simp (disch := omega) only [nI_lit, nI_ltI]
  refine ⟨fun e4 => ?_, fun e4 => h2 (by rw [eo, if_pos (by omega)]; rfl)⟩
  rw [if_neg (by omega)] at eo
  rw [eo] at hq
  unfold wp_X5_put
  rw [x2]
  simp (disch := omega) only [nI_lit, nI_leI, nI_clamp, nI_inI, nI_add]
  refine ⟨fun q => by omega, fun _ => ⟨by omega, hq _ rfl ⟨hc, p1, p2, t1, t2, hh, seg_snoc x1 (by omega), ?_, ?_, fun y hy => ?_⟩⟩⟩
  · show nI _ = nI (wBuf w ++ [c]).length
    rw [List.length_append]; rfl
  · show (wBuf w ++ [c]).length ≤ 60
    rw [List.length_append]; simp; omega
  · rcases List.mem_append.mp hy with z | z
    · exact x4 y z
    · have : y = c := by simpa using z
      omega
theorem C_clear {v : V_X6} {w : Wd} (h : CW v w) {Q : Int32 → V_X5 → Prop} (hq : ∀ tx, CW (X6_lawn v, X6_snapshot v, X6_trial v, X6_savedR v, X6_saved v, tx, X6_survey v, X6_paths v, X6_snapshotTaken v, X6_savedCount v, X6_spareR v) (o_clear w).2.2 → Q (o_clear w).2.1 tx) : wp_X6_clearBuffer v Q := by
  obtain ⟨hc, p1, p2, t1, t2, hh, ⟨x1, x2, x3, x4⟩⟩ := h
  unfold wp_X6_clearBuffer
  rw [x2]
  exact hq _ ⟨hc, p1, p2, t1, t2, hh, seg_nil _ _, rfl, by show ([] : List Nat).length ≤ 60; simp, fun y hy => (List.not_mem_nil (show y ∈ ([] : List Nat) from hy)).elim⟩
