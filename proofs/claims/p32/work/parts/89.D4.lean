/-! joined, fewest: both sides. -/
theorem far_bare {n : Nat} {a : Lw} (g : Good n a) {s t : Nat} (ht : t < 64) (hd : IsD (lTu a) s (lMn a s) (dist (lTu a) s (lMn a s))) (hm : lMn a t = false) : dist (lTu a) s (lMn a s) t = 1000 := by
  apply Classical.byContradiction
  intro h
  rcases hd.end ht h with ⟨rfl, o⟩ | ⟨j, u, hj, hc⟩
  · rw [hm] at o; cases o
  · have gr := g.1.2.2.2.2.1 _ (row_mem hj)
    rcases hc with ⟨rfl, -⟩ | ⟨-, rfl⟩
    · have := gr.2.2.1; rw [show at0 (row (lTu a) j) 0 = fa (lTu a) j from rfl, hm] at this; cases this
    · have := gr.2.2.2.1; rw [show lastOf (row (lTu a) j) = la (lTu a) j from rfl, hm] at this; cases this
noncomputable def wayOf (w : Wd) (s t : Nat) : Nat := dist (lTu (wCur w)) s (lMn (wCur w) s) t
noncomputable def o_fewest (w : Wd) (p x : Int32) : Nat × Int32 := match ix 64 p with
  | none => (1, 0)
  | some s => match ix 64 x with
    | none => (1, 0)
    | some t => (0, cD (wayOf w s t))
noncomputable def o_joined (w : Wd) (p x : Int32) : Nat × Int32 := match ix 64 p with
  | none => (1, 0)
  | some s => match ix 64 x with
    | none => (1, 0)
    | some t => (0, bI (decide (wayOf w s t ≠ 1000)))
theorem C_fewest {v : V_X6} {w : Wd} {n : Nat} (h : CW v w) (g : GoodW n w) {p x : Int32} {Q : Int32 → V_X2 → Prop} {QX : String → Prop} (hq : ∀ P, (o_fewest w p x).1 = 0 → Q (o_fewest w p x).2 P) (h1 : (o_fewest w p x).1 = 1 → QX eI) : wp_X6_fewest v p x Q QX := by
  have hn : n ≤ 512 := by have := g.2.2.2.1; omega
  have hf := (g.1.1.fit hn).1
  unfold wp_X6_fewest
  refine C_checkTuft (fun e => h1 (by unfold o_fewest; rw [e])) (fun s hs hp e => ?_)
  subst hp
  refine C_checkTuft (fun e2 => h1 (by unfold o_fewest; rw [e]; simp only []; rw [e2])) (fun t ht hx e2 => ?_)
  subst hx
  have eo : o_fewest w (nI s) (nI t) = (0, cD (wayOf w s t)) := by unfold o_fewest; rw [e]; simp only []; rw [e2]
  rw [eo] at hq
  refine C_measure h.1 hf hs (fun d hd _ => ?_)
  simp (disch := omega) only [nI_clamp, nI_inI]
  rw [hd t ht]
  exact ⟨ht, hq _ rfl⟩
theorem C_joined {v : V_X6} {w : Wd} {n : Nat} (h : CW v w) (g : GoodW n w) {p x : Int32} {Q : Int32 → V_X2 → Prop} {QX : String → Prop} (hq : ∀ P, (o_joined w p x).1 = 0 → Q (o_joined w p x).2 P) (h1 : (o_joined w p x).1 = 1 → QX eI) : wp_X6_joined v p x Q QX := by
  have hn : n ≤ 512 := by have := g.2.2.2.1; omega
  have hf := (g.1.1.fit hn).1
  unfold wp_X6_joined
  refine C_checkTuft (fun e => h1 (by unfold o_joined; rw [e])) (fun s hs hp e => ?_)
  subst hp
  refine C_checkTuft (fun e2 => h1 (by unfold o_joined; rw [e]; simp only []; rw [e2])) (fun t ht hx e2 => ?_)
  subst hx
  have eo : o_joined w (nI s) (nI t) = (0, bI (decide (wayOf w s t ≠ 1000))) := by unfold o_joined; rw [e]; simp only []; rw [e2]
  rw [eo] at hq
  refine C_measure h.1 hf hs (fun d hd hD => ?_)
  simp (disch := omega) only [nI_clamp, nI_inI, nI_lit, nN_eq]
  rw [hd t ht, cD_nN (hD.1 t ht)]
  refine ⟨ht, fun q => ?_, fun q => ?_⟩
  · have := hq (X2_s0 (X6_paths v) d) rfl
    rw [show decide (wayOf w s t ≠ 1000) = false from decide_eq_false (fun z => z q)] at this
    exact this
  · have := hq (X2_s0 (X6_paths v) d) rfl
    rw [show decide (wayOf w s t ≠ 1000) = true from decide_eq_true q] at this
    exact this
theorem M_fewestTo {v : V_X7} {a : Lw} {n : Nat} (h : MLawn (X7_s v) a) (g : Good n a) (hn : n ≤ 512) {s t : Nat} (hs : s < 64) (ht : t < 64) {Q : Int32 → (Nat → Int32) → Prop} (hq : ∀ d, dist (lTu a) s (lMn a s) t ≤ 1000 → Q (cD (dist (lTu a) s (lMn a s) t)) d) : wp_X7_fewestTo v (nI s) (nI t) Q := by
  have hf := (g.1.fit hn).1
  unfold wp_X7_fewestTo
  refine M_layAway h hf hs (fun d hd hD => M_hasMound (v := X7_s14 v d) h.1 ht ?_)
  have b := hD.1 t ht
  simp only [bI_0, show (0 : Int32) = nI 0 from rfl]
  refine ⟨fun e => ?_, fun e => ?_⟩
  · have := hq d b
    rw [far_bare g ht hD e] at this
    exact this
  · simp (disch := omega) only [nI_clamp, nI_inI, nI_lit, nN_eq]
    rw [hd t ht]
    simp (disch := omega) only [nI_leI]
    refine ⟨ht, fun q => ?_, fun q => ?_⟩
    · have := hq d b
      unfold cD at this
      rw [if_pos (by omega)] at this
      exact this
    · have := hq d b
      unfold cD at this
      rw [if_neg (by omega)] at this
      exact this
theorem M_fewest {v : V_X7} {w : Wd} {n : Nat} (h : MW v w) (g : GoodW n w) {p x : Int32} {Q : Int32 → (Nat → Int32) → Int32 → Prop} (hq : ∀ b d, ((o_fewest w p x).1 = 0 → b = (o_fewest w p x).2) → Q b d (nI (o_fewest w p x).1)) : wp_X7_fewest v p x Q := by
  have hn : n ≤ 512 := by have := g.2.2.2.1; omega
  have bad1 : o_fewest w p x = (1, 0) → wp_X7_fewest_20 v p x (nI 1) Q := by
    intro eo
    rw [eo] at hq
    unfold wp_X7_fewest_20
    exact M_holdsK (k := 1) (by omega) (by omega) ⟨fun _ => hq _ _ (fun q => absurd (show 1 = 0 from q) (by decide)), fun q => absurd rfl q⟩
  unfold wp_X7_fewest wp_X7_fewest_19
  refine M_isTuft (fun e => ⟨fun _ => bad1 (by unfold o_fewest; rw [e]), fun q => absurd rfl q⟩) (fun s hs hp e => ⟨fun q => absurd q (by decide), fun _ => ?_⟩)
  subst hp
  refine M_isTuft (fun e2 => ⟨fun _ => bad1 (by unfold o_fewest; rw [e]; simp only []; rw [e2]), fun q => absurd rfl q⟩) (fun t ht hx e2 => ⟨fun q => absurd q (by decide), fun _ => ?_⟩)
  subst hx
  have eo : o_fewest w (nI s) (nI t) = (0, cD (wayOf w s t)) := by unfold o_fewest; rw [e]; simp only []; rw [e2]
  rw [eo] at hq
  unfold wp_X7_fewest_20
  exact M_holds0 ⟨fun q => absurd q (by decide), fun _ => M_fewestTo (v := X7_s8 v (nI 0)) h.1 g.1 hn hs ht (fun d _ => hq _ d (fun _ => rfl))⟩
theorem M_joined {v : V_X7} {w : Wd} {n : Nat} (h : MW v w) (g : GoodW n w) {p x : Int32} {Q : Int32 → (Nat → Int32) → Int32 → Prop} (hq : ∀ b d, ((o_joined w p x).1 = 0 → b = (o_joined w p x).2) → Q b d (nI (o_joined w p x).1)) : wp_X7_joined v p x Q := by
  have hn : n ≤ 512 := by have := g.2.2.2.1; omega
  have bad1 : o_joined w p x = (1, 0) → wp_X7_joined_20 v p x (nI 1) Q := by
    intro eo
    rw [eo] at hq
    unfold wp_X7_joined_20
    exact M_holdsK (k := 1) (by omega) (by omega) ⟨fun _ => hq _ _ (fun q => absurd (show 1 = 0 from q) (by decide)), fun q => absurd rfl q⟩
  unfold wp_X7_joined wp_X7_joined_19
  refine M_isTuft (fun e => ⟨fun _ => bad1 (by unfold o_joined; rw [e]), fun q => absurd rfl q⟩) (fun s hs hp e => ⟨fun q => absurd q (by decide), fun _ => ?_⟩)
  subst hp
  refine M_isTuft (fun e2 => ⟨fun _ => bad1 (by unfold o_joined; rw [e]; simp only []; rw [e2]), fun q => absurd rfl q⟩) (fun t ht hx e2 => ⟨fun q => absurd q (by decide), fun _ => ?_⟩)
  subst hx
  have eo : o_joined w (nI s) (nI t) = (0, bI (decide (wayOf w s t ≠ 1000))) := by unfold o_joined; rw [e]; simp only []; rw [e2]
  rw [eo] at hq
  unfold wp_X7_joined_20
  refine M_holds0 ⟨fun q => absurd q (by decide), fun _ => M_fewestTo (v := X7_s8 v (nI 0)) h.1 g.1 hn hs ht (fun d hd => ?_)⟩
  simp only [nI_lit, nN_eq]
  rw [cD_nN hd]
  refine ⟨fun q => hq _ d (fun _ => ?_), fun q => hq _ d (fun _ => ?_)⟩
  · show nI 0 = bI (decide (wayOf w s t ≠ 1000))
    rw [show decide (wayOf w s t ≠ 1000) = false from decide_eq_false (fun z => z q)]; rfl
  · show nI 1 = bI (decide (wayOf w s t ≠ 1000))
    rw [show decide (wayOf w s t ≠ 1000) = true from decide_eq_true q]; rfl
