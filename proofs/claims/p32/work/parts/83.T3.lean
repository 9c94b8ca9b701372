theorem complete_end {b : List Nat} (h : complete b = true) : errAt b = b.length := by
  refine errAt_end ?_
  unfold complete at h
  cases e : dueAt b b.length with
  | none => rw [e] at h; cases h
  | some d => rfl
theorem M_firstError {v : V_X7} {w : Wd} {n : Nat} (h : MW v w) (g : GoodW n w) (hb : ∀ c ∈ wBuf w, c < 200) {Q : Int32 → Int32 → Int32 → (Nat → Int32) → Int32 → Prop} (hq : ∀ wr ps, Q (nI (errAt (wBuf w))) wr ps (X7_s v) 0) : wp_X7_firstError v Q := by
  obtain ⟨hc, m1, m2, hh, ⟨x1, x2⟩⟩ := h
  unfold wp_X7_firstError
  refine M_reads (v := X7_s8 v 0) (a := wCur w) (b := wBuf w) (n0 := n) false x2 x1 g.2.2.2.2 hb hc g.1 g.2.2.2.1 (fun hc r s st => ⟨fun _ => ?_, fun q => absurd rfl q⟩) (fun hc r s k st => ⟨fun q => absurd (show nI 1 = nI 0 from q) (by decide), fun _ => ?_⟩)
  · obtain ⟨rfl, -⟩ := st
    rw [x2, ← complete_end hc]
    exact hq _ _
  · obtain ⟨rfl, -⟩ := st
    exact hq _ _
theorem M_plans {v : V_X7} {w : Wd} {n : Nat} (h : MW v w) (g : GoodW n w) (hb : ∀ c ∈ wBuf w, c < 200) {Q : Int32 → Int32 → Int32 → Int32 → (Nat → Int32) → (Nat → Int32) → Int32 → Int32 → Prop} (hq : ∀ b wr ln ps s sa sc, ((o_plans w).1 = 0 → b = (o_plans w).2.1) → MW (s, X7_aside v, X7_kept v, X7_isKept v, sa, sc, X7_text v, ln, nI (o_plans w).1, X7_joint v, ps, wr, X7_isHollow v, X7_sure v, X7_away v, X7_digested v) (o_plans w).2.2 → Q b wr ln ps s sa sc (nI (o_plans w).1)) : wp_X7_plans v Q := by
  have hw := h
  obtain ⟨hc, m1, m2, hh, ⟨x1, x2⟩⟩ := h
  unfold wp_X7_plans
  refine M_reads (v := v) (a := wCur w) (b := wBuf w) (n0 := n) false x2 x1 g.2.2.2.2 hb hc g.1 g.2.2.2.1 (fun hcm r s st => ⟨fun _ => ?_, fun q => absurd rfl q⟩) (fun hcm r s k st => ⟨fun q => absurd (show nI 1 = nI 0 from q) (by decide), fun _ => ?_⟩)
  · obtain ⟨rfl, -⟩ := st
    have eo : o_plans w = (0, nI (pAt (wCur w) (wBuf w) (wBuf w).length).2.2, ((pAt (wCur w) (wBuf w) (wBuf w).length).1, wSnap w, pushH (wHist w) (wCur w), [])) := by unfold o_plans; rw [hcm]; rfl
    rw [eo] at hq
    unfold wp_X7_plans_19
    refine M_holds0 ⟨fun q => absurd q (by decide), fun _ => ?_⟩
    refine M_save (v := (X7_s v, X7_aside v, X7_kept v, X7_isKept v, X7_saved v, X7_savedMany v, X7_text v, X7_length v, nI 0, X7_joint v, nI (wBuf w).length, nI 0, X7_isHollow v, X7_sure v, X7_away v, X7_digested v)) (w := w) (n := n) hc hh g (fun sa sc hs => ?_)
    refine M_reads (v := (X7_s v, X7_aside v, X7_kept v, X7_isKept v, sa, sc, X7_text v, X7_length v, nI 0, X7_joint v, nI (wBuf w).length, nI 0, X7_isHollow v, X7_sure v, X7_away v, X7_digested v)) (a := wCur w) (b := wBuf w) (n0 := n) true x2 x1 g.2.2.2.2 hb hc g.1 g.2.2.2.1 (fun _ r s st => ?_) (fun hcm2 => absurd (hcm.symm.trans hcm2) (by decide))
    obtain ⟨hL, rfl⟩ : MLawn s (pAt (wCur w) (wBuf w) (wBuf w).length).1 ∧ r = _ := st
    exact hq _ _ 0 _ _ _ _ (fun _ => rfl) ⟨hL, m1, m2, hs, seg_nil _ _, rfl⟩
  · obtain ⟨rfl, -⟩ := st
    have eo : o_plans w = bad 1 w := by unfold o_plans; rw [hcm]; rfl
    rw [eo] at hq
    unfold wp_X7_plans_19
    exact M_holdsK (k := 1) (by omega) (by omega) ⟨fun _ => hq _ _ _ _ _ _ _ (fun q => absurd (show 1 = 0 from q) (by decide)) ⟨hc, m1, m2, hh, x1, x2⟩, fun q => absurd rfl q⟩
