/-! The buffer: what it says, where it is wrong. -/
def dirOf (c : Nat) : Option Nat := if c = 110 then some 0 else if c = 101 then some 1 else if c = 115 then some 2 else if c = 119 then some 3 else none
def due (d c : Nat) : Option Nat := if d = 0 then (if 48 ≤ c ∧ c ≤ 51 then some 1 else none) else if d = 1 then (if c = 58 then some 2 else none) else if d = 2 then (if (dirOf c).isSome then some 3 else none) else (if c = 59 then some 0 else if (dirOf c).isSome then some 3 else none)
theorem due_lt {d c e : Nat} (h : due d c = some e) : e < 4 := by
  unfold due at h
  split at h
  · split at h
    · injection h; omega
    · cases h
  · split at h
    · split at h
      · injection h; omega
      · cases h
    · split at h
      · split at h
        · injection h; omega
        · cases h
      · split at h
        · injection h; omega
        · split at h
          · injection h; omega
          · cases h
/-- what is due behind the first characters; none behind an error -/
def dueAt (b : List Nat) : Nat → Option Nat
  | 0 => some 0
  | k + 1 => match dueAt b k with
    | none => none
    | some d => due d (at0 b k)
theorem dueAt_s {b : List Nat} {k d : Nat} (h : dueAt b k = some d) : dueAt b (k + 1) = due d (at0 b k) := by
  unfold dueAt; rw [h]
theorem dueAt_no {b : List Nat} {k : Nat} (h : dueAt b k = none) : dueAt b (k + 1) = none := by
  unfold dueAt; rw [h]
theorem dueAt_lt {b : List Nat} : ∀ {k d : Nat}, dueAt b k = some d → d < 4
  | 0, d, h => by
    have : some 0 = some d := h
    injection this; omega
  | k + 1, d, h => by
    unfold dueAt at h
    split at h
    · cases h
    · exact due_lt h
theorem C_dirOf {c : Nat} (hc : c < 200) {Q : Int32 → Prop} (hq : Q (oI (dirOf c))) : wp_X5_directionOf (nI c) Q := by
  unfold wp_X5_directionOf
  unfold dirOf at hq
  simp (disch := omega) only [nI_lit, nN_eq, nI_eq]
  refine ⟨fun e => ?_, fun e => ⟨fun e2 => ?_, fun e2 => ⟨fun e3 => ?_, fun e3 => ⟨fun e4 => ?_, fun e4 => ?_⟩⟩⟩⟩
  · rw [if_neg (by omega), if_pos e] at hq; exact hq
  · rw [if_pos e2] at hq; exact hq
  · rw [if_neg e2, if_neg e, if_pos e3] at hq; exact hq
  · rw [if_neg e2, if_neg e, if_neg e3, if_pos e4] at hq; exact hq
  · rw [if_neg e2, if_neg e, if_neg e3, if_neg e4] at hq; exact hq
theorem M_dirOf {c : Nat} (hc : c < 200) {Q : Int32 → Prop} (hq : Q (oI (dirOf c))) : wp_X7_directionOf (nI c) Q := by
  unfold wp_X7_directionOf
  unfold dirOf at hq
  simp (disch := omega) only [nI_lit, nN_eq, nI_eq]
  refine ⟨fun e => ?_, fun e => ⟨fun e2 => ?_, fun e2 => ⟨fun e3 => ?_, fun e3 => ⟨fun e4 => ?_, fun e4 => ?_⟩⟩⟩⟩
  · rw [if_pos e] at hq; exact hq
  · rw [if_neg e, if_pos e2] at hq; exact hq
  · rw [if_neg e, if_neg e2, if_pos e3] at hq; exact hq
  · rw [if_neg e, if_neg e2, if_neg e3, if_pos e4] at hq; exact hq
  · rw [if_neg e, if_neg e2, if_neg e3, if_neg e4] at hq; exact hq
theorem dirOf_lt {c d : Nat} (h : dirOf c = some d) : d < 4 ∧ c ≠ 58 ∧ c ≠ 59 ∧ ¬ (48 ≤ c ∧ c ≤ 51) := by
  unfold dirOf at h
  split at h
  · injection h; omega
  · split at h
    · injection h; omega
    · split at h
      · injection h; omega
      · split at h
        · injection h; omega
        · cases h
theorem oI_none {x : Option Nat} (h : ∀ d, x = some d → d < 2 ^ 31) : oI x = nN ↔ x = none := by
  cases x with
  | none => exact ⟨fun _ => rfl, fun _ => rfl⟩
  | some d => exact ⟨fun q => ((nN_ne (h d rfl)).mp q).elim, fun q => by cases q⟩
theorem oI_dir (c : Nat) : oI (dirOf c) = nN ↔ dirOf c = none := oI_none (fun d h => by have := (dirOf_lt h).1; omega)
theorem C_due {d c : Nat} (hd : d < 4) (hc : c < 200) {Q : Int32 → Prop} (hq : Q (oI (due d c))) : wp_X5_dueBehind (nI d) (nI c) Q := by
  unfold wp_X5_dueBehind
  unfold due at hq
  simp (disch := omega) only [nI_lit, nN_eq, nI_eq, nI_ltI]
  refine ⟨fun e => ⟨fun e2 => ?_, fun e2 => ⟨fun e3 => ?_, fun e3 => ?_⟩⟩, fun e => ⟨fun e1 => ⟨fun e2 => ?_, fun e2 => ?_⟩, fun e1 => ⟨fun e2 => C_dirOf hc ?_, fun e2 => ⟨fun e3 => ?_, fun e3 => C_dirOf hc ?_⟩⟩⟩⟩
  · rw [if_pos e, if_neg (by omega)] at hq; exact hq
  · rw [if_pos e, if_neg (by omega)] at hq; exact hq
  · rw [if_pos e, if_pos (by omega)] at hq; exact hq
  · rw [if_neg e, if_pos e1, if_pos e2] at hq; exact hq
  · rw [if_neg e, if_pos e1, if_neg e2] at hq; exact hq
  · rw [if_neg e, if_neg e1, if_pos e2] at hq
    rw [oI_dir]
    cases h : dirOf c with
    | none => rw [h] at hq; exact ⟨fun _ => hq, fun q => absurd rfl q⟩
    | some x => rw [h] at hq; exact ⟨fun q => (by cases q), fun _ => hq⟩
  · rw [if_neg e, if_neg e1, if_neg e2, if_pos e3] at hq; exact hq
  · rw [if_neg e, if_neg e1, if_neg e2, if_neg e3] at hq
    rw [oI_dir]
    cases h : dirOf c with
    | none => rw [h] at hq; exact ⟨fun _ => hq, fun q => absurd rfl q⟩
    | some x => rw [h] at hq; exact ⟨fun q => (by cases q), fun _ => hq⟩
/-- the place of the first error: behind it none is due -/
def errAt (b : List Nat) : Nat := (List.range b.length).findIdx (fun k => (dueAt b (k + 1)).isNone)
theorem errAt_at {b : List Nat} {k : Nat} (hk : k < b.length) (h1 : (dueAt b k).isSome) (h2 : dueAt b (k + 1) = none) : errAt b = k := by
  have mono : ∀ j, j ≤ k → (dueAt b j).isSome := by
    intro j hj
    have : ∀ n, n ≤ k → (dueAt b (k - n)).isSome := by
      intro n
      induction n with
      | zero => intro _; exact h1
      | succ n ih =>
        intro hn
        have := ih (by omega)
        rw [show k - n = (k - (n + 1)) + 1 by omega] at this
        cases h : dueAt b (k - (n + 1)) with
        | none => rw [dueAt_no h] at this; exact absurd this (by decide)
        | some d => rfl
    have := this (k - j) (by omega)
    rwa [show k - (k - j) = j by omega] at this
  unfold errAt
  rw [List.findIdx_eq (by simpa using hk)]
  constructor
  · simp [h2]
  · intro j hj
    have := mono (j + 1) (by omega)
    simp only [List.getElem_range]
    cases h : dueAt b (j + 1) with
    | none => rw [h] at this; exact absurd this (by decide)
    | some d => rfl
theorem errAt_end {b : List Nat} (h : (dueAt b b.length).isSome) : errAt b = b.length := by
  have mono : ∀ n, n ≤ b.length → (dueAt b (b.length - n)).isSome := by
    intro n
    induction n with
    | zero => intro _; exact h
    | succ n ih =>
      intro hn
      have := ih (by omega)
      rw [show b.length - n = (b.length - (n + 1)) + 1 by omega] at this
      cases h : dueAt b (b.length - (n + 1)) with
      | none => rw [dueAt_no h] at this; exact absurd this (by decide)
      | some d => rfl
  have e : (List.range b.length).findIdx (fun k => (dueAt b (k + 1)).isNone) = (List.range b.length).length := by
    rw [List.findIdx_eq_length]
    intro k hk
    have hk := List.mem_range.mp hk
    have := mono (b.length - (k + 1)) (by omega)
    rw [show b.length - (b.length - (k + 1)) = k + 1 by omega] at this
    cases h : dueAt b (k + 1) with
    | none => rw [h] at this; exact absurd this (by decide)
    | some d => rfl
  unfold errAt
  rw [e, List.length_range]
theorem C_firstFault {x : V_X5} {b : List Nat} (h : CText x b) {Q : Int32 → Prop} (hq : Q (nI (errAt b))) : wp_X5_firstFault x Q := by
  obtain ⟨x1, x2, x3, x4⟩ := h
  unfold wp_X5_firstFault wp_X5_firstFault_4
  refine ⟨fun d y => ∃ k e, y = nI k ∧ d = nI e ∧ k ≤ b.length ∧ dueAt b k = some e, fun _ y => 70 - y.toNatClampNeg, ⟨0, 0, rfl, rfl, Nat.zero_le _, rfl⟩, ?_⟩
  rintro _ _ ⟨k, e, rfl, rfl, hk, he⟩
  have he4 := dueAt_lt he
  unfold wb_X5_firstFault_4
  rw [x2]
  simp (disch := omega) only [nI_lit, nN_eq, nI_add, nI_clamp, nI_inI, nI_leI]
  refine ⟨fun q => ?_, fun q => ⟨by omega, ?_⟩⟩
  · have ek : k = b.length := by omega
    subst ek
    rw [errAt_end (by rw [he]; rfl)] at hq; exact hq
  · have hk2 : k < b.length := by omega
    rw [seg0 x1 hk2]
    have hc := x4 _ (at0_mem hk2)
    refine C_due he4 (by omega) ?_
    have hs := dueAt_s he
    rw [oI_none (fun d h => by have := due_lt h; omega)]
    refine ⟨fun q2 => ?_, fun q2 => ?_⟩
    · rw [errAt_at hk2 (by rw [he]; rfl) (by rw [hs]; exact q2)] at hq; exact hq
    · obtain ⟨f, hf⟩ := Option.ne_none_iff_exists'.mp q2
      rw [hf]
      exact ⟨⟨k + 1, f, rfl, rfl, hk2, by rw [hs]; exact hf⟩, by omega⟩
def complete (b : List Nat) : Bool := dueAt b b.length == some 3
theorem dueAt_none {b : List Nat} {k : Nat} (h : dueAt b k = none) : ∀ n, dueAt b (k + n) = none
  | 0 => h
  | n + 1 => by
    have := dueAt_none h n
    show dueAt b (k + n + 1) = none
    unfold dueAt; rw [this]
theorem C_isComplete {x : V_X5} {b : List Nat} (h : CText x b) {Q : Int32 → Prop} (hq : Q (bI (complete b))) : wp_X5_isComplete x Q := by
  obtain ⟨x1, x2, x3, x4⟩ := h
  unfold wp_X5_isComplete wp_X5_isComplete_4
  have fin : ∀ e, (∀ d, e = some d → d < 4) → (dueAt b b.length = e) → wp_X5_isComplete_34 x (oI e) Q := by
    intro e h4 he
    unfold wp_X5_isComplete_34
    unfold complete at hq
    rw [he] at hq
    cases e with
    | none =>
      refine ⟨fun q => ?_, fun _ => hq⟩
      exact absurd q (by decide)
    | some d =>
      have := h4 d rfl
      show (nI d = nI 3 → _) ∧ (¬ nI d = nI 3 → _)
      rw [nI_eq (by omega) (by omega)]
      refine ⟨fun q => ?_, fun q => ?_⟩
      · subst q; exact hq
      · have : (some d == some 3) = false := by simpa using q
        rw [this] at hq; exact hq
  refine ⟨fun d y => ∃ k, y = nI k ∧ d = oI (dueAt b k) ∧ k ≤ b.length, fun _ y => 70 - y.toNatClampNeg, ⟨0, rfl, rfl, Nat.zero_le _⟩, ?_⟩
  rintro _ _ ⟨k, rfl, rfl, hk⟩
  have h4 : ∀ d, dueAt b k = some d → d < 4 := fun d hd => dueAt_lt hd
  unfold wb_X5_isComplete_4
  rw [x2]
  simp (disch := omega) only [nI_lit, nN_eq, nI_add, nI_clamp, nI_inI, nI_leI]
  rw [oI_none (fun d h => by have := h4 d h; omega)]
  refine ⟨fun q => ?_, fun q => ⟨fun q2 => ?_, fun q2 => ⟨by omega, ?_⟩⟩⟩
  · have ek : k = b.length := by omega
    subst ek
    exact fin _ h4 rfl
  · rw [q2]
    have := dueAt_none q2 (b.length - k)
    rw [show k + (b.length - k) = b.length by omega] at this
    exact fin none (fun d hd => by cases hd) this
  · have hk2 : k < b.length := by omega
    obtain ⟨f, hf⟩ := Option.ne_none_iff_exists'.mp q2
    rw [hf, seg0 x1 hk2]
    have hc := x4 _ (at0_mem hk2)
    refine C_due (h4 f hf) (by omega) ⟨⟨k + 1, rfl, by rw [dueAt_s hf], hk2⟩, by omega⟩
/-- the plans that the first characters put: the lawn, the mole that is told of, how many directions -/
abbrev Pst : Type := Lw × Option Nat × Nat
def pstep (s : Pst) (c : Nat) : Pst := if 48 ≤ c ∧ c ≤ 51 then (s.1, some (c - 48), s.2.2) else match dirOf c, s.2.1 with
  | some d, some m => if m < (lMo s.1).length ∧ (mPl (mlA (lMo s.1) m)).length < 20 then (addDir s.1 m d, some m, s.2.2 + 1) else s
  | _, _ => s
def pAt (a : Lw) (b : List Nat) : Nat → Pst
  | 0 => (a, none, 0)
  | k + 1 => pstep (pAt a b k) (at0 b k)
theorem addDir_len (a : Lw) (i d : Nat) : (lMo (addDir a i d)).length = (lMo a).length := List.length_set
theorem pstep_facts {n : Nat} {s : Pst} {c : Nat} (h : Good n s.1) (hm : ∀ m, s.2.1 = some m → m < 4) : Good (n + 1) (pstep s c).1 ∧ (∀ m, (pstep s c).2.1 = some m → m < 4) ∧ (pstep s c).2.2 ≤ s.2.2 + 1 := by
  unfold pstep
  split
  · refine ⟨good_mono h (by omega), fun m hm => ?_, Nat.le_succ _⟩
    have : some (c - 48) = some m := hm
    injection this; omega
  · split
    · rename_i d m hd hm2
      split
      · rename_i hc
        refine ⟨addDir_good h hc.1 (dirOf_lt hd).1 hc.2, fun x hx => ?_, Nat.le_refl _⟩
        have : some m = some x := hx
        injection this with e
        rw [← e]; exact hm m hm2
      · exact ⟨good_mono h (by omega), hm, Nat.le_succ _⟩
    · exact ⟨good_mono h (by omega), hm, Nat.le_succ _⟩
theorem pAt_facts {n : Nat} {a : Lw} {b : List Nat} (h : Good n a) : ∀ k, Good (n + k) (pAt a b k).1 ∧ (∀ m, (pAt a b k).2.1 = some m → m < 4) ∧ (pAt a b k).2.2 ≤ k
  | 0 => ⟨h, fun m hm => (by cases hm), Nat.le_refl _⟩
  | k + 1 => by
    obtain ⟨h1, h2, h3⟩ := pAt_facts (b := b) h k
    obtain ⟨g1, g2, g3⟩ := pstep_facts (c := at0 b k) h1 h2
    refine ⟨g1, g2, ?_⟩
    show (pstep (pAt a b k) (at0 b k)).2.2 ≤ k + 1
    omega
def o_plans (w : Wd) : Out := if complete (wBuf w) then (0, nI (pAt (wCur w) (wBuf w) (wBuf w).length).2.2, ((pAt (wCur w) (wBuf w) (wBuf w).length).1, wSnap w, pushH (wHist w) (wCur w), [])) else bad 1 w
theorem C_plans {v : V_X6} {w : Wd} {n : Nat} (h : CW v w) (g : GoodW n w) {Q : Int32 → V_X0 → (Nat → V_X0) → Int32 → (Nat → Nat) → V_X5 → Prop} {QX : String → Prop} (hq : ∀ L sa sc sr tx, (o_plans w).1 = 0 → CW (L, X6_snapshot v, X6_trial v, sr, sa, tx, X6_survey v, X6_paths v, X6_snapshotTaken v, sc, X6_spareR v) (o_plans w).2.2 → Q (o_plans w).2.1 L sa sc sr tx) (h1 : (o_plans w).1 = 1 → QX eA) : wp_X6_plans v Q QX := by
  have hw := h
  obtain ⟨hc, p1, p2, t1, t2, hh, ⟨x1, x2, x3, x4⟩⟩ := h
  unfold wp_X6_plans
  refine C_isComplete ⟨x1, x2, x3, x4⟩ ?_
  cases ec : complete (wBuf w) with
  | false => exact ⟨fun _ => h1 (by unfold o_plans; rw [ec]; rfl), fun q => absurd rfl q⟩
  | true =>
    have eo : o_plans w = (0, nI (pAt (wCur w) (wBuf w) (wBuf w).length).2.2, ((pAt (wCur w) (wBuf w) (wBuf w).length).1, wSnap w, pushH (wHist w) (wCur w), [])) := by unfold o_plans; rw [ec]; rfl
    rw [eo] at hq
    refine ⟨fun q => absurd q (by decide), fun _ => C_saveState hw g (fun sa sc sr hsc => ?_)⟩
    unfold wp_X6_plans_30
    refine ⟨fun y1 y2 y3 L => ∃ k, y3 = nI k ∧ k ≤ (wBuf w).length ∧ y1 = nI (pAt (wCur w) (wBuf w) k).2.2 ∧ y2 = oI (pAt (wCur w) (wBuf w) k).2.1 ∧ CLawn L (pAt (wCur w) (wBuf w) k).1, fun _ _ y3 _ => 70 - y3.toNatClampNeg, ⟨0, rfl, Nat.zero_le _, rfl, rfl, hc⟩, ?_⟩
    rintro _ _ _ L ⟨k, rfl, hk, rfl, rfl, hL⟩
    obtain ⟨gk, gm, gc⟩ := pAt_facts (b := wBuf w) g.1 k
    have hn : n + k ≤ 512 := by have := g.2.2.2.1; omega
    unfold wb_X6_plans_30
    rw [x2]
    simp (disch := omega) only [nI_lit, nN_eq, nI_add, nI_clamp, nI_inI, nI_leI]
    refine ⟨fun q => ?_, fun q => ⟨by omega, ?_⟩⟩
    · have ek : k = (wBuf w).length := by omega
      subst ek
      refine hq _ _ _ _ _ rfl ⟨hL, p1, p2, t1, t2, hsc, seg_nil _ _, rfl, by show ([] : List Nat).length ≤ 60; simp, fun y hy => (List.not_mem_nil (show y ∈ ([] : List Nat) from hy)).elim⟩
    · have hk2 : k < (wBuf w).length := by omega
      rw [seg0 x1 hk2]
      have hch := x4 _ (at0_mem hk2)
      have es : pAt (wCur w) (wBuf w) (k + 1) = pstep (pAt (wCur w) (wBuf w) k) (at0 (wBuf w) k) := rfl
      refine C_dirOf (by omega) ?_
      simp (disch := omega) only [nI_ltI]
      -- no digit
      have nodig : ¬ (48 ≤ at0 (wBuf w) k ∧ at0 (wBuf w) k ≤ 51) → wp_X6_plans_99 v sa sc sr (nI (pAt (wCur w) (wBuf w) k).2.2) (oI (pAt (wCur w) (wBuf w) k).2.1) (nI k) L (fun y1 y2 y3 L => (∃ k, y3 = nI k ∧ k ≤ (wBuf w).length ∧ y1 = nI (pAt (wCur w) (wBuf w) k).2.2 ∧ y2 = oI (pAt (wCur w) (wBuf w) k).2.1 ∧ CLawn L (pAt (wCur w) (wBuf w) k).1) ∧ 70 - y3.toNatClampNeg < 70 - k) (oI (pAt (wCur w) (wBuf w) k).2.1) (oI (dirOf (at0 (wBuf w) k))) Q QX := by
        intro nd
        have hstay : pstep (pAt (wCur w) (wBuf w) k) (at0 (wBuf w) k) = pAt (wCur w) (wBuf w) k → (∃ k_1, nI k + 1 = nI k_1 ∧ k_1 ≤ (wBuf w).length ∧ nI (pAt (wCur w) (wBuf w) k).2.2 = nI (pAt (wCur w) (wBuf w) k_1).2.2 ∧ oI (pAt (wCur w) (wBuf w) k).2.1 = oI (pAt (wCur w) (wBuf w) k_1).2.1 ∧ CLawn L (pAt (wCur w) (wBuf w) k_1).1) ∧ 70 - (nI k + 1).toNatClampNeg < 70 - k := by
          intro e
          rw [← es] at e
          refine ⟨⟨k + 1, by simp only [nI_lit, nI_add], hk2, by rw [e], by rw [e], by rw [e]; exact hL⟩, by simp (disch := omega) only [nI_lit, nI_add, nI_clamp]; omega⟩
        unfold wp_X6_plans_99
        rw [show (-1 : Int32) = nN from rfl, oI_dir]
        cases hd : dirOf (at0 (wBuf w) k) with
        | none =>
          refine ⟨fun _ => hstay ?_, fun q => absurd rfl q⟩
          unfold pstep; rw [if_neg nd, hd]
        | some d =>
          have hd4 := (dirOf_lt hd).1
          refine ⟨fun q => (by cases q), fun _ => ?_⟩
          cases hm : (pAt (wCur w) (wBuf w) k).2.1 with
          | none =>
            unfold wp_X0_hasRoomInPlan
            refine ⟨fun _ => ⟨fun _ => ?_, fun q => absurd rfl q⟩, fun q => absurd (show nN < 0 by decide) q⟩
            have := hstay (by unfold pstep; rw [if_neg nd, hd, hm])
            rw [hm] at this
            exact this
          | some m =>
            have hm4 := gm m hm
            refine C_X0_hasRoomInPlan hL (gk.1.fit hn).2.1 hm4 ?_
            by_cases hr : m < (lMo (pAt (wCur w) (wBuf w) k).1).length ∧ (mPl (mlA (lMo (pAt (wCur w) (wBuf w) k).1) m)).length < 20
            · have e1 : (decide (m < (lMo (pAt (wCur w) (wBuf w) k).1).length) && decide ((mPl (mlA (lMo (pAt (wCur w) (wBuf w) k).1) m)).length < 20)) = true := by simp [hr]
              rw [e1]
              have ep : pstep (pAt (wCur w) (wBuf w) k) (at0 (wBuf w) k) = (addDir (pAt (wCur w) (wBuf w) k).1 m d, some m, (pAt (wCur w) (wBuf w) k).2.2 + 1) := by
                unfold pstep; rw [if_neg nd, hd, hm]; exact if_pos hr
              refine ⟨fun q => absurd q (by decide), fun _ => ?_⟩
              rw [show oI (some m) = nI m from rfl]
              simp (disch := omega) only [nI_clamp, nI_inI]
              have hs := hL.2.2.2.2.2.1.self hr.1
              refine ⟨hm4, hL.2.2.2.2.2.1.2.1 m hm4, C_X1_addDirection hs hr.2 (fun dd hdd => ?_)⟩
              refine ⟨⟨k + 1, by simp only [nI_lit, nI_add], hk2, ?_, ?_, ?_⟩, by simp (disch := omega) only [nI_lit, nI_add, nI_clamp]; omega⟩
              · rw [es, ep]; simp only [nI_lit, nI_add]
              · rw [es, ep]; rfl
              · rw [es, ep]
                obtain ⟨k1, k2, k3, k4, k5, k6, k7⟩ := hL
                obtain ⟨g1, g2, g3, g4, g5, g6⟩ := hs
                exact ⟨k1, k2, k3, k4, k5, k6.set (gk.1.1) hr.1 ⟨hdd, g2, by show nI _ = nI (mPl (mlA (lMo (pAt (wCur w) (wBuf w) k).1) m) ++ [d]).length; rw [List.length_append]; rfl, g4, g5, g6⟩, k7⟩
            · have e1 : (decide (m < (lMo (pAt (wCur w) (wBuf w) k).1).length) && decide ((mPl (mlA (lMo (pAt (wCur w) (wBuf w) k).1) m)).length < 20)) = false := by
                simp only [Bool.and_eq_false_iff, decide_eq_false_iff_not]
                by_cases z : m < (lMo (pAt (wCur w) (wBuf w) k).1).length
                · exact Or.inr (fun y => hr ⟨z, y⟩)
                · exact Or.inl z
              rw [e1]
              refine ⟨fun _ => ?_, fun q => absurd rfl q⟩
              have := hstay (by unfold pstep; rw [if_neg nd, hd, hm]; exact if_neg hr)
              rw [hm] at this
              exact this
      refine ⟨fun e => nodig (by omega), fun e => ⟨fun e2 => nodig (by omega), fun e2 => ?_⟩⟩
      have ep : pstep (pAt (wCur w) (wBuf w) k) (at0 (wBuf w) k) = ((pAt (wCur w) (wBuf w) k).1, some (at0 (wBuf w) k - 48), (pAt (wCur w) (wBuf w) k).2.2) := by
        unfold pstep; rw [if_pos (by omega)]
      refine ⟨⟨k + 1, rfl, hk2, ?_, ?_, ?_⟩, by omega⟩
      · rw [es, ep]
      · rw [es, ep, pk_sub (by omega)]; rfl
      · rw [es, ep]; exact hL
theorem C_firstError {v : V_X6} {w : Wd} (h : CW v w) {Q : Int32 → Prop} (hq : Q (nI (errAt (wBuf w)))) : wp_X6_firstError v Q := C_firstFault h.2.2.2.2.2.2 hq
