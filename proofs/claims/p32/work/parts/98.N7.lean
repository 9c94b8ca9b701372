/-! What would be is tried, and undone. -/
theorem hAt_push (H : List Lw) (a : Lw) : hAt (pushH H a) ((pushH H a).length - 1) = a := by
  unfold pushH
  rw [List.length_append, List.length_singleton, Nat.add_sub_cancel]
  exact hAt_r
theorem push_ne (H : List Lw) (a : Lw) : (pushH H a).length ≠ 0 := by
  unfold pushH
  rw [List.length_append, List.length_singleton]; omega
theorem last2 {H : List Lw} {a b : Lw} : (pushH (pushH H a) b).dropLast.length ≠ 0 ∧ hAt (pushH (pushH H a) b).dropLast ((pushH (pushH H a) b).dropLast.length - 1) = a := by
  have e : (pushH (pushH H a) b).dropLast = if (pushH H a).length < 6 then pushH H a else (pushH H a).tail := by
    show ((if (pushH H a).length < 6 then pushH H a else (pushH H a).tail) ++ [b]).dropLast = _
    exact List.dropLast_concat
  rw [e]
  split
  · exact ⟨push_ne H a, hAt_push H a⟩
  · rename_i c
    obtain ⟨B, hB⟩ : ∃ B : List Lw, pushH H a = B ++ [a] := ⟨_, rfl⟩
    rw [hB] at c ⊢
    rw [List.length_append, List.length_singleton] at c
    cases B with
    | nil => simp at c
    | cons x B =>
      show (B ++ [a]).length ≠ 0 ∧ hAt (B ++ [a]) ((B ++ [a]).length - 1) = a
      rw [List.length_append, List.length_singleton, Nat.add_sub_cancel]
      exact ⟨by omega, hAt_r⟩
theorem IW.h6 {v : V_X6} {w : Wd} (h : CW v w) : (wHist w).length ≤ 6 := h.2.2.2.2.2.1.2.1
theorem nI_ge0 {a : Nat} (h : a < 2 ^ 31) : ¬ nI a < 0 := nI_nlt (Nat.zero_le _) h
/-- a change is undone: the lawn is as before -/
theorem O_undone {v : V_X6} {w : Wd} {a : Lw} {k : Nat} (h : CW v (next w a)) (g : IW k (next w a)) (hk : k < 512) {Q : Int32 → V_X6 → Prop} (hq : ∀ r v' w', ¬ r < 0 → CW v' w' → IW (k + 1) w' → wCur w' = wCur w → Q r v') : wo_X6_undo v Q := by
  have h6 := IW.h6 h
  refine O_undo h g hk (push_ne _ _) (fun v1 h1 g1 => hq _ _ _ (nI_ge0 (by omega)) h1 g1 ?_)
  exact hAt_push _ _
set_option maxHeartbeats 1000000 in
theorem L_tries {v : V_X6} {w : Wd} {k : Nat} (h : CW v w) (g : IW k w) (hk : k + 11 ≤ 512) {x : Int32} {Q : Int32 → V_X6 → Prop} (hq : ∀ v' w', CW v' w' → IW (k + 11) w' → Q 1 v') : wp_L_tries v x Q := by
  obtain ⟨n, hn, gc⟩ := g.cur
  have b4 := gc.1.1
  have e278 : ∀ (z : V_X6) (w1 : Wd) (u : Nat), CW z w1 → IW (k + 6) w1 → wCur w1 = wCur w → u < 64 → wp_L_tries_278 v x (nI (lTu (wCur w)).length) (nI u) z 1 Q := by
    intro z w1 u hz gz ew hu
    obtain ⟨n1, hn1, gc1⟩ := gz.cur
    have bm := gc1.1.1
    unfold wp_L_tries_278
    refine ⟨fun q => absurd q (by decide), fun _ => ?_⟩
    refine O_keep hz gz (fun v1 h1 g1 => ?_)
    refine ⟨fun _ => ?_, fun q => absurd (by rw [ew]) q⟩
    refine O_dig h1 g1 (by omega) hu rfl (fun v2 h2 g2 => ?_)
    refine ⟨fun q => absurd q (nI_ge0 (by show (lMo (wCur w1)).length - _ < 2 ^ 31; omega)), fun _ => ?_⟩
    refine O_restore h2 g2 (by omega) (a := wCur w1) rfl (fun v3 h3 g3 => ?_)
    refine ⟨fun _ => ?_, fun q => absurd (by rw [ew]) q⟩
    have h6 := IW.h6 h3
    refine O_undo h3 g3 (by omega) (push_ne _ _) (fun v4 h4 g4 => ?_)
    refine ⟨fun q => absurd q (nI_ge0 (by omega)), fun _ => ?_⟩
    have h7 := IW.h6 h4
    have l2 := last2 (H := wHist w1) (a := wCur w1) (b := dug (wCur w1) u)
    refine O_undo h4 g4 (by omega) l2.1 (fun v5 h5 g5 => ?_)
    refine ⟨fun q => absurd q (nI_ge0 (by omega)), fun _ => ?_⟩
    refine O_count h5 g5 4 (by decide) rfl (fun v6 h6 => ?_)
    rw [numC_4]
    exact ⟨fun _ => hq _ _ h6 (g5.up (by omega)), fun q => absurd (congrArg (fun a : Lw => nI (lTu a).length) (l2.2.trans ew)) q⟩
  have e200 : ∀ (z : V_X6) (w1 : Wd), CW z w1 → IW (k + 6) w1 → wCur w1 = wCur w → wp_L_tries_200 v x (nI (lTu (wCur w)).length) 1 z Q := by
    intro z w1 hz gz ew
    obtain ⟨n1, hn1, gc1⟩ := gz.cur
    unfold wp_L_tries_200
    refine L_low (n := 64) (by decide) (by decide) ?_
    refine L_low (n := 64) (by decide) (by decide) ?_
    have ba := lowF_lt (x >>> (4 &&& 31)) (n := 64) (by decide)
    have bb := lowF_lt (x >>> (10 &&& 31)) (n := 64) (by decide)
    generalize lowF (x >>> (4 &&& 31)) 64 = s at ba ⊢
    generalize lowF (x >>> (10 &&& 31)) 64 = t at bb ⊢
    have wl : wayOf w1 s t ≤ 1000 := way_le gc1 hn1 bb
    have wc : wayOf w1 t s = wayOf w1 s t := (way_comm gc1 hn1 ba bb).symm
    refine ⟨fun q => absurd q (by decide), fun _ => ?_⟩
    refine O_fewest hz gz ba bb rfl rfl (fun v1 h1 => ?_)
    refine O_fewest h1 gz bb ba rfl rfl (fun v2 h2 => ?_)
    rw [wc]
    refine ⟨fun _ => ?_, fun q => absurd rfl q⟩
    refine O_joined h2 gz ba bb rfl rfl (fun v3 h3 => ?_)
    refine O_fewest h3 gz ba bb rfl rfl (fun v4 h4 => ?_)
    refine ⟨fun e => ?_, fun e => ?_⟩
    · have e := (cD_nN2 wl).mp e
      unfold wp_L_tries_270
      refine ⟨fun _ => e278 _ _ _ h4 gz ew ba, fun q => absurd ?_ q⟩
      rw [e]; rfl
    · have e : wayOf w1 s t ≠ 1000 := fun q => e ((cD_nN2 wl).mpr q)
      unfold wp_L_tries_270
      refine ⟨fun _ => e278 _ _ _ h4 gz ew ba, fun q => absurd ?_ q⟩
      rw [decide_eq_true e]; rfl
  have sp := nm_spec (a := wCur w) 100 0 rfl
  have e159 : ∀ (z : V_X6) (w1 : Wd), CW z w1 → IW (k + 4) w1 → wCur w1 = wCur w → wp_L_tries_159 v x (nI (lTu (wCur w)).length) 1 (nm (wCur w) 100 0) z Q := by
    intro z w1 hz gz ew
    unfold wp_L_tries_159
    refine ⟨fun q => absurd q (by decide), fun _ => ?_⟩
    rcases sp with e | ⟨m, m1, m2, e, m4, m5⟩
    · rw [e]
      exact ⟨fun _ => e200 _ _ hz (gz.up (by omega)) ew, fun q => absurd (show nN < 1 by decide) q⟩
    · rw [e]
      refine ⟨fun q => absurd ((nI_ltI (b := 1) (by omega) (by omega)).mp q) (by omega), fun _ => ⟨fun _ => e200 _ _ hz (gz.up (by omega)) ew, fun q => ?_⟩⟩
      have m30 : m ≤ 30 := by
        apply Classical.byContradiction
        intro z
        exact q ((nI_ltI (a := 30) (by omega) (by omega)).mpr (by omega))
      refine O_pass hz gz (by omega) (b := m) (by omega) m30 rfl (fun v1 h1 g1 => ?_)
      obtain ⟨d, d0, d20, ed⟩ := ri_up gc m30 m4
      rw [ew, ed]
      refine ⟨fun q => absurd ((nI_leI (b := 0) (by omega) (by omega)).mp q) (by omega), fun _ => ?_⟩
      refine O_undone h1 g1 (by omega) (fun r2 v2 w2 hr2 h2 g2 e2 => ?_)
      refine ⟨fun q => absurd q hr2, fun _ => ?_⟩
      unfold wp_L_tries_198
      exact e200 _ _ h2 g2 (e2.trans ew)
  have e100 : ∀ (z : V_X6) (w1 : Wd), CW z w1 → IW (k + 2) w1 → wCur w1 = wCur w → wp_L_tries_100 v x (nI (lTu (wCur w)).length) z 1 Q := by
    intro z w1 hz gz ew
    unfold wp_L_tries_100
    refine O_nextMound hz gz (by omega) (fun v1 h1 => ?_)
    rw [ew]
    have to159 := e159 v1 w1 h1 (gz.up (by omega)) ew
    refine ⟨fun q => absurd q (by decide), fun _ => ⟨fun _ => to159, fun c1 => ⟨fun _ => to159, fun c31 => ?_⟩⟩⟩
    rcases sp with e | ⟨m, m1, m2, e, m4, m5⟩
    · rw [e] at c1
      exact absurd (show nN ≤ 1 by decide) c1
    have to159 : ∀ (z : V_X6) (w1 : Wd), CW z w1 → IW (k + 4) w1 → wCur w1 = wCur w → wp_L_tries_159 v x (nI (lTu (wCur w)).length) 1 (nI m) z Q := by
      intro z w1 hz gz ew
      have := e159 z w1 hz gz ew
      rwa [e] at this
    rw [e] at c1 c31 ⊢
    have m1 : 1 < m := by
      apply Classical.byContradiction
      intro z
      exact c1 ((nI_leI (b := 1) (by omega) (by omega)).mpr (by omega))
    have m31 : m ≤ 31 := by
      apply Classical.byContradiction
      intro z
      exact c31 ((nI_ltI (a := 31) (by omega) (by omega)).mpr (by omega))
    have e1 : (nI m - 1 : Int32) = nI (m - 1) := by
      show nI m - nI 1 = _
      exact pk_sub (by omega)
    rw [e1]
    have s0 := m5 (m - 1) (by omega) (by omega)
    refine O_pass h1 gz (by omega) (b := m - 1) (by omega) (by omega) rfl (fun v2 h2 g2 => ?_)
    rw [ew, s0]
    refine ⟨fun _ => ?_, fun q => absurd (Int32.sub_self _) q⟩
    refine O_nextMound h2 g2 (by omega) (fun v3 h3 => ?_)
    have e3 : nm (wCur (next w1 (beatN (m - 1) (wCur w)))) 100 0 = nI 1 := by
      refine nm_one ?_
      show lRi (beatN 1 (beatN (m - 1) (wCur w))) ≠ lRi (beatN (m - 1) (wCur w))
      rw [beatN_add, show m - 1 + 1 = m by omega, s0]
      exact m4
    rw [ew] at h3 g2 ⊢
    rw [e3]
    refine ⟨fun _ => ?_, fun q => absurd rfl q⟩
    refine O_undone h3 g2 (by omega) (fun r4 v4 w4 hr4 h4 g4 e4 => ?_)
    refine ⟨fun q => absurd q hr4, fun _ => ?_⟩
    unfold wp_L_tries_157
    exact to159 _ _ h4 g4 (e4.trans ew)
  unfold wp_L_tries
  refine L_low (n := 12) (by decide) (by decide) ?_
  have br := lowF_lt x (n := 12) (by decide)
  generalize lowF x 12 = r at br ⊢
  have en : (1 + nI r : Int32) = nI (1 + r) := by rw [← nI_add]; rfl
  rw [en]
  refine O_ifPassed h g (b := 1 + r) 0 (by omega) (by omega) (by decide) rfl rfl (fun v1 h1 => ?_)
  rw [if_pos rfl]
  refine O_ifPassed h1 g (b := 1 + r) 1 (by omega) (by omega) (by decide) rfl rfl (fun v2 h2 => ?_)
  rw [if_neg (by decide), if_pos rfl]
  refine O_ifPassed h2 g (b := 1 + r) 2 (by omega) (by omega) (by decide) rfl rfl (fun v3 h3 => ?_)
  rw [if_neg (by decide), if_neg (by decide)]
  refine O_count h3 g 1 (by decide) rfl (fun v4 h4 => ?_)
  rw [numC_1]
  refine O_count h4 g 4 (by decide) rfl (fun v5 h5 => ?_)
  rw [numC_4]
  refine O_pass h5 g (by omega) (b := 1 + r) (by omega) (by omega) rfl (fun v6 h6 g6 => ?_)
  refine ⟨fun _ => ?_, fun q => absurd rfl q⟩
  refine O_count h6 g6 4 (by decide) rfl (fun v7 h7 => ?_)
  rw [numC_4]
  refine ⟨fun _ => ?_, fun q => absurd rfl q⟩
  refine O_count h7 g6 1 (by decide) rfl (fun v8 h8 => ?_)
  rw [numC_1]
  refine ⟨fun _ => ?_, fun q => absurd (beatN_moles _ _) q⟩
  refine O_undone h8 g6 (by omega) (fun r9 v9 w9 hr9 h9 g9 e9 => ?_)
  refine ⟨fun q => absurd q hr9, fun _ => ?_⟩
  refine O_count h9 g9 4 (by decide) rfl (fun v10 h10 => ?_)
  rw [numC_4, e9]
  exact ⟨fun _ => e100 _ _ h10 g9 e9, fun q => absurd rfl q⟩
