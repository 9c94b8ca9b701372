/-! nextMound: beats until one raises a mound, both sides. -/
def upR (d : Nat) (a b : Lw) : Prop := ∃ k, k ≤ d ∧ lRi b = lRi a + nI k
theorem upR_0 (a : Lw) : upR 0 a a := ⟨0, Nat.le_refl _, by rw [show nI 0 = 0 from rfl, Int32.add_zero]⟩
theorem upR.trans {d e : Nat} {a b c : Lw} (h : upR d a b) (h2 : upR e b c) : upR (d + e) a c := by
  obtain ⟨k, hk, e1⟩ := h
  obtain ⟨j, hj, e2⟩ := h2
  exact ⟨k + j, by omega, by rw [e2, e1, Int32.add_assoc, nI_add]⟩
theorem upR.mono {d e : Nat} {a b : Lw} (h : upR d a b) (he : d ≤ e) : upR e a b := h.elim fun k z => ⟨k, by omega, z.2⟩
theorem ensure_up (a : Lw) (t : Nat) : upR 1 a (ensure a t) := by
  unfold ensure
  split
  · exact (upR_0 a).mono (by omega)
  · exact ⟨1, Nat.le_refl _, rfl⟩
theorem airEnd_up {a b : Lw} (h : lRi b = lRi a) (i : Nat) : upR 1 a (airEnd b i) := by
  have h0 : upR 0 a b := ⟨0, Nat.le_refl _, by rw [h, show nI 0 = 0 from rfl, Int32.add_zero]⟩
  unfold airEnd
  split
  · obtain ⟨k, hk, e⟩ := h0.trans (ensure_up b (placeOf b i))
    exact ⟨k, by omega, e⟩
  · exact h0.mono (by omega)
theorem act_up (a : Lw) (i : Nat) : upR 1 a (act a i).2 := by
  have same : ∀ b : Lw, lRi b = lRi a → upR 1 a b := fun b h => ⟨0, by omega, by rw [h, show nI 0 = 0 from rfl, Int32.add_zero]⟩
  unfold act
  split
  · exact (upR_0 a).mono (by omega)
  · unfold actBy
    split
    · exact same _ rfl
    · unfold actTo
      split
      · split
        · exact same _ rfl
        · split
          · exact same _ rfl
          · show upR 1 a (airEnd (went a i _ _) i)
            exact airEnd_up (b := went a i _ _) rfl i
      · show upR 1 a (airEnd (gnaw a i _) i)
        exact airEnd_up (b := gnaw a i _) rfl i
theorem moves_up : ∀ (k i : Nat) (a : Lw), upR k a (moves k i a)
  | 0, _, a => upR_0 a
  | k + 1, i, a => by
    by_cases h : i < (lMo a).length
    · rw [moves_in h]
      exact ((act_up a i).trans (moves_up k _ _)).mono (by omega)
    · rw [moves_out h]
      exact (upR_0 a).mono (by omega)
theorem beat_up {a : Lw} (h : (lMo a).length ≤ 4) : upR 4 a (beatA a) := by
  obtain ⟨k, hk, e⟩ := moves_up (lMo a).length 0 (tick a)
  exact ⟨k, by omega, e⟩
def idle (a : Lw) : Prop := ∀ i, i < (lMo a).length → mPl (mlA (lMo a) i) = []
theorem idle_moves {a : Lw} (h : idle a) : ∀ (k i : Nat), moves k i a = a
  | 0, _ => rfl
  | k + 1, i => by
    by_cases c : i < (lMo a).length
    · have e : act a i = (true, a) := by unfold act; rw [if_pos (h i c)]
      rw [moves_in c, e]
      exact idle_moves h k _
    · exact moves_out c _
theorem idle_beat {a : Lw} (h : idle a) : idle (beatA a) ∧ lRi (beatA a) = lRi a := by
  have e : beatA a = tick a := idle_moves (a := tick a) h _ _
  rw [e]
  exact ⟨h, rfl⟩
def nm (a : Lw) : Nat → Nat → Int32
  | 0, _ => nN
  | f + 1, y => if lRi (beatN (y + 1) a) = lRi a then nm a f (y + 1) else nI (y + 1)
theorem nm_idle {a : Lw} : ∀ (f y : Nat), idle (beatN y a) → lRi (beatN y a) = lRi a → nm a f y = nN
  | 0, _, _, _ => rfl
  | f + 1, y, h, e => by
    have b := idle_beat h
    unfold nm
    rw [if_pos (show lRi (beatN (y + 1) a) = lRi a from b.2.trans e)]
    exact nm_idle f (y + 1) b.1 (b.2.trans e)
theorem C_nextMound {v : V_X6} {w : Wd} {n : Nat} (h : CW v w) (g : GoodW n w) (hr : ∃ m, m ≤ 2 ^ 20 ∧ lRi (wCur w) = nI m) {Q : Int32 → V_X3 → V_X0 → Prop} (hq : ∀ sp tr, permL tr → Q (nm (wCur w) 100 0) sp tr) : wp_X6_nextMound v Q := by
  have hn : n ≤ 512 := by have := g.2.2.2.1; omega
  have hft := g.1.1.fit hn
  have hc := h.1
  have hri : X0_risen (X6_lawn v) = lRi (wCur w) := hc.2.2.2.2.2.2.2.2.2.2.1
  obtain ⟨m, hm, em⟩ := hr
  unfold wp_X6_nextMound wp_X6_beatsToMound
  refine C_X0_copyFrom hc hft h.2.2.1 (fun bt ca fa ai gn mc mo mn op ri rt tp tu hL0 => ?_)
  unfold wp_X6_beatsToMound_13
  refine ⟨fun y sp L => ∃ j, y = nI (j + 1) ∧ j ≤ 100 ∧ CLawn L (beatN j (wCur w)) ∧ lRi (beatN j (wCur w)) = lRi (wCur w) ∧ nm (wCur w) (100 - j) j = nm (wCur w) 100 0, fun y _ _ => 200 - y.toNatClampNeg, ⟨0, rfl, by omega, hL0, rfl, rfl⟩, ?_⟩
  rintro _ sp L ⟨j, rfl, hj, hL, er, en⟩
  have gj := beatN_good g.1 j
  unfold wb_X6_beatsToMound_13
  simp (disch := omega) only [nI_lit, nN_eq, nI_add, nI_clamp, nI_ltI]
  refine ⟨fun q => ?_, fun q => C_X0_hasPlans hL (gj.1.fit hn).2.1 ?_⟩
  · have : j = 100 := by omega
    subst this
    rw [← en] at hq
    exact hq _ _ hL.perm
  · have enm : nm (wCur w) (100 - j) j = if lRi (beatN (j + 1) (wCur w)) = lRi (wCur w) then nm (wCur w) (100 - (j + 1)) (j + 1) else nI (j + 1) := by
      rw [show 100 - j = (100 - (j + 1)) + 1 by omega]; rfl
    rw [bI_0]
    refine ⟨fun q2 => ?_, fun q2 => C_beat hL gj hn (fun uc ue us uu bt ca gn mc mo mr mn ri rt tp tu hL2 => ?_)⟩
    · have hi : idle (beatN j (wCur w)) := fun i hi => by
        rw [List.any_eq_false] at q2
        have := q2 _ (mlA_mem hi)
        simpa using this
      have := nm_idle (100 - j) j hi er
      rw [← en, this] at hq
      exact hq _ _ hL.perm
    · have e1 : ri = lRi (beatN (j + 1) (wCur w)) := hL2.2.2.2.2.2.2.2.2.2.2.1
      obtain ⟨d, hd, ed⟩ := beat_up gj.1.1
      have ed2 : lRi (beatN (j + 1) (wCur w)) = nI (m + d) := by
        rw [show beatN (j + 1) (wCur w) = beatA (beatN j (wCur w)) from rfl, ed, er, em, nI_add]
      have hle : ri ≤ X0_risen (X6_lawn v) ↔ m + d ≤ m := by
        rw [e1, hri, ed2, em]
        simp (disch := omega) only [nI_leI]
      rw [ed2, em] at enm
      refine ⟨fun q3 => ?_, fun q3 => ?_⟩
      · have q3 := hle.mp q3
        have d0 : d = 0 := by omega
        subst d0
        rw [Nat.add_zero, if_pos rfl] at enm
        refine ⟨⟨j + 1, rfl, by omega, hL2, by rw [ed2, em, Nat.add_zero], by rw [← enm]; exact en⟩, by omega⟩
      · rw [if_neg (fun z => q3 (hle.mpr (by have := (nI_eq (by omega) (by omega)).mp z; omega)))] at enm
        rw [← en, enm] at hq
        exact hq _ _ hL2.perm
theorem M_nextMound {v : V_X7} {w : Wd} {n : Nat} (h : MW v w) (g : GoodW n w) {Q : Int32 → (Nat → Int32) → (Nat → Int32) → Int32 → Prop} (hq : ∀ za zs, MLawn zs (wCur w) → Q (nm (wCur w) 100 0) za zs 0) : wp_X7_nextMound v Q := by
  have hn : n ≤ 512 := by have := g.2.2.2.1; omega
  have hft := g.1.1.fit hn
  unfold wp_X7_nextMound wp_X7_whenMound
  refine M_putAside (v := X7_s8 v 0) (fun za hza => ?_)
  unfold wp_X7_whenMound_8
  refine ⟨fun y1 y2 s => ∃ j, y1 = nI j ∧ j ≤ 100 ∧ MLawn s (beatN j (wCur w)) ∧ ((y2 = nI 0 ∧ lRi (beatN j (wCur w)) = lRi (wCur w) ∧ nm (wCur w) (100 - j) j = nm (wCur w) 100 0) ∨ ∃ d, 1 ≤ d ∧ d ≤ 4 ∧ y2 = nI d ∧ nI j = nm (wCur w) 100 0), fun y1 _ _ => 200 - y1.toNatClampNeg, ⟨0, rfl, by omega, h.1, Or.inl ⟨rfl, rfl, rfl⟩⟩, ?_⟩
  rintro _ y2 s ⟨j, rfl, hj, hs, hcase⟩
  have gj := beatN_good g.1 j
  have w30 : ∀ r, (y2 ≤ nI 0 → r = nN) → (¬ y2 ≤ nI 0 → r = nI j) → r = nm (wCur w) 100 0 → wp_X7_whenMound_30 (X7_s8 v 0) (nI j) y2 za s (fun r6 z6_v_aside z6_v_s => Q r6 z6_v_aside z6_v_s 0) := by
    intro r r1 r2 r3
    rw [← r3] at hq
    unfold wp_X7_whenMound_30
    refine M_putBack (fun z hz => ?_)
    have hz2 := h.1.of hft (fun q hq => (hz q hq).trans (hza q hq))
    simp only [nI_lit, nN_eq]
    exact ⟨fun c => by rw [← r1 c]; exact hq _ _ hz2, fun c => by rw [← r2 c]; exact hq _ _ hz2⟩
  unfold wb_X7_whenMound_8
  simp (disch := omega) only [nI_lit, nI_add, nI_clamp, nI_leI]
  rcases hcase with ⟨rfl, er, en⟩ | ⟨d, d1, d4, rfl, en⟩
  · refine ⟨fun q => w30 nN (fun _ => rfl) (fun z => absurd (by decide) z) ?_, fun q => ⟨fun _ => ?_, fun z => absurd rfl z⟩⟩
    · have : j = 100 := by omega
      subst this
      exact en
    · refine M_beats (v := X7_s1 (X7_s0 (X7_s8 v 0) s) za) (k := 1) hs gj hn (by omega) (fun s2 hs2 => ?_)
      have hs2 : MLawn s2 (beatN (j + 1) (wCur w)) := hs2
      obtain ⟨d, hd, ed⟩ := beat_up gj.1.1
      have ed2 : lRi (beatN (j + 1) (wCur w)) = lRi (wCur w) + nI d := by
        rw [show beatN (j + 1) (wCur w) = beatA (beatN j (wCur w)) from rfl, ed, er]
      have e20 : lRi (beatN 1 (beatN j (wCur w))) - lRi (beatN j (wCur w)) = nI d := by
        rw [show beatN 1 (beatN j (wCur w)) = beatN (j + 1) (wCur w) from rfl, ed2, er, Int32.add_comm, Int32.add_sub_cancel]
      have enm : nm (wCur w) (100 - j) j = if lRi (beatN (j + 1) (wCur w)) = lRi (wCur w) then nm (wCur w) (100 - (j + 1)) (j + 1) else nI (j + 1) := by
        rw [show 100 - j = (100 - (j + 1)) + 1 by omega]; rfl
      rw [e20]
      refine ⟨⟨j + 1, rfl, by omega, hs2, ?_⟩, by omega⟩
      by_cases d0 : d = 0
      · subst d0
        have e0 : lRi (beatN (j + 1) (wCur w)) = lRi (wCur w) := by rw [ed2, show nI 0 = 0 from rfl, Int32.add_zero]
        rw [if_pos e0] at enm
        exact Or.inl ⟨rfl, e0, by rw [← enm]; exact en⟩
      · have e0 : ¬ lRi (beatN (j + 1) (wCur w)) = lRi (wCur w) := fun z => by
          rw [ed2] at z
          have : nI d = nI 0 := by
            have := congrArg (fun x => x - lRi (wCur w)) z
            simp only [Int32.sub_self] at this
            rw [Int32.add_comm, Int32.add_sub_cancel] at this
            exact this
          exact d0 ((nI_eq (by omega) (by omega)).mp this)
        rw [if_neg e0] at enm
        exact Or.inr ⟨d, by omega, hd, rfl, by rw [← enm]; exact en⟩
  · have nle : ¬ nI d ≤ nI 0 := by simp (disch := omega) only [nI_leI]; omega
    have ne : ¬ nI d = nI 0 := fun z => by have := (nI_eq (by omega) (by omega)).mp z; omega
    exact ⟨fun q => w30 (nI j) (fun z => absurd z nle) (fun _ => rfl) en, fun q => ⟨fun z => absurd z ne, fun _ => w30 (nI j) (fun z => absurd z nle) (fun _ => rfl) en⟩⟩
