/-! Sweeps until nothing more is sure. -/
def unkN (S : Nat → Int32) : Nat := cnt (fun t => decide (S t = nN)) 64
theorem unkN_congr {S S' : Nat → Int32} (h : eqS S S') : unkN S = unkN S' := cnt_congr (fun t ht => by rw [h t ht])
theorem cnt_pos {p : Nat → Bool} : ∀ n, cnt p n ≠ 0 → ∃ t, t < n ∧ p t = true
  | 0, h => absurd rfl h
  | n + 1, h => by
    cases c : p n with
    | true => exact ⟨n, by omega, c⟩
    | false =>
      rw [cnt_f c] at h
      obtain ⟨t, ht, q⟩ := cnt_pos n (by omega)
      exact ⟨t, by omega, q⟩
theorem mark_unk {S : Nat → Int32} {p : Nat} {x : Int32} (hx : x ≠ nN) (h : unkB S p ≠ 0) : unkN (mark S p x) + 1 ≤ unkN S := by
  obtain ⟨t, ht, q⟩ := cnt_pos 64 h
  simp only [Bool.and_eq_true, decide_eq_true_eq] at q
  have hm : mark S p x t = x := by unfold mark; rw [if_pos q]
  have := cnt_more (p := fun t => decide (mark S p x t = nN)) (q := fun t => decide (S t = nN)) (y := t) (fun u hu => ?_) (by show decide (mark S p x t = nN) = false; rw [hm]; exact decide_eq_false hx) (decide_eq_true q.2) 64
  · rw [if_pos ht] at this
    exact this
  · simp only [decide_eq_true_eq] at hu ⊢
    unfold mark at hu
    split at hu
    · rename_i z; exact z.2
    · exact hu
theorem concl_unk {H : Nat → Bool} {S : Nat → Int32} {p : Nat} : ((concl H S p).1 = true → unkN (concl H S p).2 + 1 ≤ unkN S) ∧ ((concl H S p).1 = false → (concl H S p).2 = S) := by
  unfold concl
  split
  · exact ⟨fun q => (by cases q), fun _ => rfl⟩
  · rename_i e
    split
    · exact ⟨fun _ => mark_unk (by decide) e, fun q => (by cases q)⟩
    · split
      · exact ⟨fun _ => mark_unk (by decide) e, fun q => (by cases q)⟩
      · exact ⟨fun q => (by cases q), fun _ => rfl⟩
def sw (H op : Nat → Bool) : Nat → (Nat → Int32) → Bool × (Nat → Int32)
  | 0, S => (false, S)
  | k + 1, S => if op k then ((sw H op k S).1 || (concl H (sw H op k S).2 k).1, (concl H (sw H op k S).2 k).2) else sw H op k S
theorem sw_unk {H op : Nat → Bool} {S : Nat → Int32} : ∀ k, ((sw H op k S).1 = true → unkN (sw H op k S).2 + 1 ≤ unkN S) ∧ ((sw H op k S).1 = false → (sw H op k S).2 = S)
  | 0 => ⟨fun q => (by cases q), fun _ => rfl⟩
  | k + 1 => by
    obtain ⟨i1, i2⟩ := sw_unk (H := H) (op := op) (S := S) k
    obtain ⟨c1, c2⟩ := concl_unk (H := H) (S := (sw H op k S).2) (p := k)
    unfold sw
    split
    · refine ⟨fun q => ?_, fun q => ?_⟩
      · cases e1 : (sw H op k S).1 with
        | true =>
          have := i1 e1
          cases e2 : (concl H (sw H op k S).2 k).1 with
          | true => have := c1 e2; show unkN (concl H (sw H op k S).2 k).2 + 1 ≤ _; omega
          | false => have := c2 e2; show unkN (concl H (sw H op k S).2 k).2 + 1 ≤ _; rw [this]; omega
        | false =>
          cases e2 : (concl H (sw H op k S).2 k).1 with
          | true =>
            have := c1 e2
            have h2 := i2 e1
            show unkN (concl H (sw H op k S).2 k).2 + 1 ≤ _
            have h3 := congrArg unkN h2
            omega
          | false => rw [e1, e2] at q; cases q
      · cases e1 : (sw H op k S).1 with
        | true => rw [e1] at q; cases q
        | false =>
          cases e2 : (concl H (sw H op k S).2 k).1 with
          | true => rw [e1, e2] at q; cases q
          | false => exact (c2 e2).trans (i2 e1)
    · exact ⟨i1, i2⟩
def fix (H op : Nat → Bool) : Nat → (Nat → Int32) → Nat → Int32
  | 0, S => S
  | n + 1, S => if (sw H op 64 S).1 then fix H op n (sw H op 64 S).2 else S
def S0 (a : Lw) : Nat → Int32 := fun t => if lOp a t then bI (hol a t) else nN
def sureA (a : Lw) : Nat → Int32 := fix (hol a) (lOp a) 65 (S0 a)
/-- where the sweeps stand -/
def SI (a : Lw) (z : Nat → Int32) (f : Int32) (r : Nat) : Prop := ∃ S, eqS z S ∧ ((f = nI 1 ∧ r ≤ 64 ∧ unkN S + r ≤ 64 ∧ fix (hol a) (lOp a) (65 - r) S = sureA a) ∨ (f = nI 0 ∧ S = sureA a))
theorem SI_start {a : Lw} {z : Nat → Int32} (h : eqS z (S0 a)) : SI a z (nI 1) 0 := ⟨_, h, Or.inl ⟨rfl, by omega, cnt_le _ _, rfl⟩⟩
theorem SI_step {a : Lw} {S z : Nat → Int32} {r : Nat} (hr : r ≤ 64) (hu : unkN S + r ≤ 64) (hfx : fix (hol a) (lOp a) (65 - r) S = sureA a) (h : eqS z (sw (hol a) (lOp a) 64 S).2) : SI a z (bI (sw (hol a) (lOp a) 64 S).1) (r + 1) := by
  have su := sw_unk (H := hol a) (op := lOp a) (S := S) 64
  rw [show 65 - r = (64 - r) + 1 by omega] at hfx
  unfold fix at hfx
  cases e : (sw (hol a) (lOp a) 64 S).1 with
  | true =>
    rw [e, if_pos rfl] at hfx
    have := su.1 e
    exact ⟨_, h, Or.inl ⟨rfl, by omega, by omega, by rw [show 65 - (r + 1) = 64 - r by omega]; exact hfx⟩⟩
  | false =>
    rw [e] at hfx
    have h2 := su.2 e
    refine ⟨_, h, Or.inr ⟨rfl, ?_⟩⟩
    rw [h2]
    exact hfx
theorem C_findSure {v : V_X4} {x : V_X0} {a : Lw} (h : CLawn x a) (hh : ∀ t, t < 64 → X4_hollow v t = bI (hol a t)) {Q : (Nat → Int32) → Prop} (hq : ∀ z, eqS z (sureA a) → Q z) : wp_X4_findSure v x Q := by
  unfold wp_X4_findSure wp_X4_findSure_2
  refine ⟨fun y z => ∃ k, y = nI k ∧ k ≤ 64 ∧ ∀ t, t < k → z t = S0 a t, fun y _ => 100 - y.toNatClampNeg, ⟨0, rfl, by omega, fun t ht => by omega⟩, ?_⟩
  rintro _ z ⟨k, rfl, hk, hz⟩
  unfold wb_X4_findSure_2
  simp (disch := omega) only [nI_lit, nN_eq, nI_clamp, nI_inI, nI_add, nI_leI]
  refine ⟨fun e => ?_, fun e => ⟨by omega, ?_⟩⟩
  rotate_left
  · have put : ∀ y, y = S0 a k → ∀ t, t < k + 1 → upd z k y t = S0 a t := fun y hy t ht => by
      by_cases c : t = k
      · subst c; rw [upd_s, hy]
      · rw [upd_n c]; exact hz t (by omega)
    rw [h.2.1 k (by omega), hh k (by omega), bI_0]
    refine ⟨fun e2 => ⟨⟨k + 1, rfl, by omega, put _ (by unfold S0; rw [e2]; rfl)⟩, by omega⟩, fun e2 => ⟨⟨k + 1, rfl, by omega, put _ (by unfold S0; rw [if_pos (by simpa using e2)])⟩, by omega⟩⟩
  have hz64 : eqS z (S0 a) := fun t ht => hz t (by omega)
  unfold wp_X4_findSure_43
  refine ⟨fun y2 y3 z => ∃ r, y3 = nI r ∧ SI a z y2 r, fun y2 y3 z => if y2 = nI 0 then 0 else unkN z + 1, ⟨0, rfl, SI_start hz64⟩, ?_⟩
  rintro _ _ z ⟨r, rfl, S, hS, ⟨rfl, hr, hu, hfx⟩ | ⟨rfl, rfl⟩⟩
  rotate_left
  · exact ⟨fun _ => hq z hS, fun q => absurd rfl q⟩
  unfold wb_X4_findSure_43
  refine ⟨fun q => absurd q (by decide), fun _ => ⟨fun e => ?_, fun e => ?_⟩⟩
  · simp (disch := omega) only [nI_lit, nI_ltI] at e
    omega
  have su := sw_unk (H := hol a) (op := lOp a) (S := S) 64
  unfold wp_X4_findSure_58
  refine ⟨fun y2 y4 z => ∃ k, y4 = nI k ∧ k ≤ 64 ∧ y2 = bI (sw (hol a) (lOp a) k S).1 ∧ eqS z (sw (hol a) (lOp a) k S).2, fun _ y4 _ => 100 - y4.toNatClampNeg, ⟨0, rfl, by omega, rfl, hS⟩, ?_⟩
  rintro _ _ z2 ⟨k, rfl, hk, rfl, hz2⟩
  unfold wb_X4_findSure_58
  simp (disch := omega) only [nI_lit, nI_clamp, nI_inI, nI_add, nI_leI]
  refine ⟨fun e2 => ?_, fun e2 => ⟨by omega, ?_⟩⟩
  · have : k = 64 := by omega
    subst this
    refine ⟨⟨r + 1, rfl, SI_step hr hu hfx hz2⟩, ?_⟩
    show (if _ then 0 else _) < (if nI 1 = nI 0 then 0 else _)
    rw [if_neg (show ¬ nI 1 = nI 0 by decide), unkN_congr hz2, unkN_congr hS]
    cases c : (sw (hol a) (lOp a) 64 S).1 with
    | true => have := su.1 c; rw [if_neg (show ¬ bI true = nI 0 by decide)]; omega
    | false => rw [if_pos (show bI false = nI 0 from rfl)]; omega
  · rw [h.2.1 k (by omega), bI_0]
    have st : sw (hol a) (lOp a) (k + 1) S = if lOp a k then ((sw (hol a) (lOp a) k S).1 || (concl (hol a) (sw (hol a) (lOp a) k S).2 k).1, (concl (hol a) (sw (hol a) (lOp a) k S).2 k).2) else sw (hol a) (lOp a) k S := rfl
    refine ⟨fun e3 => ⟨⟨k + 1, rfl, by omega, ?_⟩, by omega⟩, fun e3 => C_concludeAt (v := X4_s2 v z2) hh (by omega) (fun z3 hz3 => ?_)⟩
    · rw [st, e3]; exact ⟨rfl, hz2⟩
    · have e4 : lOp a k = true := by simpa using e3
      rw [e4, if_pos rfl] at st
      obtain ⟨cc1, cc2⟩ := concl_congr (H := hol a) hz2 k
      have hz4 : eqS z3 (sw (hol a) (lOp a) (k + 1) S).2 := fun t ht => by rw [st]; exact (hz3 t ht).trans (cc2 t ht)
      rw [show (concl (hol a) (X4_sure (X4_s2 v z2)) k).1 = (concl (hol a) z2 k).1 from rfl, cc1]
      cases c : (concl (hol a) (sw (hol a) (lOp a) k S).2 k).1 with
      | true => exact ⟨fun q => absurd q (by decide), fun _ => ⟨⟨k + 1, rfl, by omega, by rw [st, c, Bool.or_true]; rfl, hz4⟩, by omega⟩⟩
      | false => exact ⟨fun _ => ⟨⟨k + 1, rfl, by omega, by rw [st, c, Bool.or_false], hz4⟩, by omega⟩, fun q => absurd rfl q⟩
