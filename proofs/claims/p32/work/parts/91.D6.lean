theorem RI.ex {T : Tu} {s : Nat} {ok : Bool} (hf : fitTu T) : ∀ n A, tot A 64 = n → RI T s ok A → ∃ B, IsD T s ok B := by
  intro n
  induction n using Nat.strongRecOn with
  | _ n ih =>
    intro A e h
    by_cases hb : ∃ j x y, Adj T j x y ∧ A x + 1 < A y
    · obtain ⟨j, x, y, hj, hc⟩ := hb
      exact ih _ (by rw [← e]; exact rlx_tot (hj.lt hf).2 hc) _ rfl (h.relax hf hj)
    · have no : ∀ j x y, Adj T j x y → A y ≤ A x + 1 := fun j x y hj => by
        apply Classical.byContradiction
        intro z
        exact hb ⟨j, x, y, hj, by omega⟩
      exact ⟨A, h.fix (fun j hj => ⟨no j _ _ ⟨hj, Or.inr ⟨rfl, rfl⟩⟩, no j _ _ ⟨hj, Or.inl ⟨rfl, rfl⟩⟩⟩)⟩
theorem dist_ok {T : Tu} (hf : fitTu T) (s : Nat) (ok : Bool) : IsD T s ok (dist T s ok) := (RI.ex hf _ _ rfl (RI_start T s ok)).elim (fun _ h => dist_is h)
theorem all_s {P : Nat → Prop} [DecidablePred P] (j : Nat) : decide (∀ u, u < j + 1 → P u) = (decide (∀ u, u < j → P u) && decide (P j)) := by
  rw [← Bool.decide_and]
  refine decide_eq_decide.mpr ⟨fun h => ⟨fun u hu => h u (by omega), h j (by omega)⟩, fun h u hu => ?_⟩
  by_cases e : u = j
  · subst e; exact h.2
  · exact h.1 u (by omega)
theorem C_uniteGroups {v : V_X2} {G : Nat → Nat} {p q : Nat} (hG : ∀ t, t < 64 → X2_group v t = nI (G t)) (h64 : ∀ t, t < 64 → G t < 64) (hp : p < 64) (hq64 : q < 64) {Q : (Nat → Int32) → Prop} (hq : ∀ z, (∀ t, t < 64 → z t = nI (mergeG G p q t)) → Q z) : wp_X2_uniteGroups v (nI p) (nI q) Q := by
  unfold wp_X2_uniteGroups wp_X2_uniteGroups_2
  refine ⟨fun y z => ∃ k, y = nI k ∧ k ≤ 64 ∧ (∀ t, t < k → z t = nI (mergeG G p q t)) ∧ ∀ t, k ≤ t → t < 64 → z t = nI (G t), fun y _ => 100 - y.toNatClampNeg, ⟨0, rfl, by omega, fun t ht => by omega, fun t _ ht => hG t ht⟩, ?_⟩
  rintro _ z ⟨k, rfl, hk, z1, z2⟩
  unfold wb_X2_uniteGroups_2
  simp (disch := omega) only [nI_lit, nI_clamp, nI_inI, nI_add, nI_leI]
  refine ⟨fun e => hq z (fun t ht => z1 t (by omega)), fun e => ⟨by omega, ?_⟩⟩
  have g64 := h64 k (by omega)
  rw [z2 k (Nat.le_refl _) (by omega)]
  simp (disch := omega) only [nI_eq]
  refine ⟨fun e2 => ⟨⟨k + 1, rfl, by omega, fun t ht => ?_, fun t h1 h2 => ?_⟩, by omega⟩, fun e2 => ⟨⟨k + 1, rfl, by omega, fun t ht => ?_, fun t h1 h2 => z2 t (by omega) h2⟩, by omega⟩⟩
  · by_cases c : t = k
    · subst c; rw [upd_s]; unfold mergeG; rw [if_pos e2]
    · rw [upd_n c]; exact z1 t (by omega)
  · rw [upd_n (by omega)]; exact z2 t (by omega) h2
  · by_cases c : t = k
    · subst c; rw [z2 t (Nat.le_refl _) (by omega)]; unfold mergeG; rw [if_neg e2]
    · exact z1 t (by omega)
theorem C_groupCount {v : V_X2} {x : V_X0} {a : Lw} {n : Nat} (h : CLawn x a) (g : Good n a) (hn : n ≤ 512) {Q : Int32 → (Nat → Int32) → Prop} (hq : ∀ z, Q (nI (grpN a)) z) : wp_X2_groupCount v x Q := by
  have hf := (g.1.fit hn).1
  have hT : CRows (X0_tunnels x) (lTu a) := h.2.2.2.2.1
  have hsz := hT.parts.2.2.1
  have hlen := hf.1.2
  have hm : ∀ j, j < (lTu a).length → lMn a (fa (lTu a) j) = true ∧ lMn a (la (lTu a) j) = true := fun j hj => by
    have gr := g.1.2.2.2.2.1 _ (row_mem hj)
    exact ⟨gr.2.2.1, gr.2.2.2.1⟩
  unfold wp_X2_groupCount wp_X2_groupCount_2
  refine ⟨fun y z => ∃ k, y = nI k ∧ k ≤ 64 ∧ ∀ t, t < k → z t = nI t, fun y _ => 100 - y.toNatClampNeg, ⟨0, rfl, by omega, fun t ht => by omega⟩, ?_⟩
  rintro _ z ⟨k, rfl, hk, hz⟩
  unfold wb_X2_groupCount_2
  simp (disch := omega) only [nI_lit, nI_clamp, nI_inI, nI_add, nI_leI]
  refine ⟨fun e => ?_, fun e => ⟨by omega, ⟨k + 1, rfl, by omega, fun t ht => ?_⟩, by omega⟩⟩
  rotate_left
  · by_cases c : t = k
    · subst c; exact upd_s _ _ _
    · rw [upd_n c]; exact hz t (by omega)
  refine C_X0_moundCount h ?_
  unfold wp_X2_groupCount_28
  refine ⟨fun y2 y3 z => ∃ i m G, i ≤ (lTu a).length ∧ y3 = nI i ∧ y2 = nI m ∧ (∀ t, t < 64 → z t = nI (G t)) ∧ UI (lTu a) (lMn a) i G m, fun _ y3 _ => 600 - y3.toNatClampNeg, ⟨0, _, _, Nat.zero_le _, rfl, rfl, fun t ht => hz t (by omega), UI_start _ _⟩, ?_⟩
  rintro _ _ z ⟨i, m, G, hi, rfl, rfl, hz, hU⟩
  unfold wb_X2_groupCount_28
  rw [hsz]
  simp (disch := omega) only [nI_leI]
  refine ⟨fun e => ?_, fun e => ?_⟩
  · have ei : i = (lTu a).length := by omega
    subst ei
    rw [UI_end hf hU (fun t _ => dist_ok hf t _)]
    exact hq z
  · have hi2 : i < (lTu a).length := by omega
    have hrow := hf.2 _ (row_mem hi2)
    have l1 : fa (lTu a) i < 64 := hrow.2 _ (first_mem hrow.1)
    have l2 : la (lTu a) i < 64 := hrow.2 _ (lastOf_mem hrow.1)
    refine C_X3_first hT hf.1 hi2 hrow.1 (C_X3_last hT hf.1 hi2 hrow.1 (C_isTuftP l1 ⟨fun q => absurd q (by decide), fun _ => C_isTuftP l2 ⟨fun q => absurd q (by decide), fun _ => ?_⟩⟩))
    rw [show nI (at0 (row (lTu a) i) 0) = nI (fa (lTu a) i) from rfl, show nI (lastOf (row (lTu a) i)) = nI (la (lTu a) i) from rfl]
    have g1 := hU.1 _ l1
    have g2 := hU.1 _ l2
    have mes : ∀ {x : Int32}, x = nI i + 1 → 600 - x.toNatClampNeg < 600 - (nI i).toNatClampNeg := fun e => by
      rw [e]; simp (disch := omega) only [nI_lit, nI_add, nI_clamp]; omega
    refine ⟨by simp (disch := omega) only [nI_inI]; exact l1, by simp (disch := omega) only [nI_inI]; exact l2, ?_⟩
    rw [nI_clamp (by omega), nI_clamp (by omega), hz _ l1, hz _ l2]
    have hm64 : m ≤ 64 := by rw [hU.2.2.2.1]; exact cnt_le _ _
    refine ⟨fun e2 => ⟨⟨i + 1, m, G, hi2, by simp only [nI_lit, nI_add], rfl, hz, UI_same hU ((nI_eq (by omega) (by omega)).mp e2)⟩, mes rfl⟩, fun e2 => ?_⟩
    have e3 : G (fa (lTu a) i) ≠ G (la (lTu a) i) := fun q => e2 (by rw [q])
    obtain ⟨k1, hU2⟩ := UI_merge hf hm hU hi2 e3
    refine C_uniteGroups (v := X2_s1 v z) hz hU.1 g1 g2 (fun z2 hz2 => ⟨⟨i + 1, m - 1, _, hi2, by simp only [nI_lit, nI_add], ?_, hz2, hU2⟩, mes rfl⟩)
    exact nN_add (by omega)
theorem M_groups {v : V_X7} {a : Lw} {n : Nat} (h : MLawn (X7_s v) a) (g : Good n a) (hn : n ≤ 512) {Q : Int32 → (Nat → Int32) → Prop} (hq : ∀ z, Q (nI (grpN a)) z) : wp_X7_groups v Q := by
  have hf := (g.1.fit hn).1
  unfold wp_X7_groups wp_X7_groups_4
  refine ⟨fun y1 y2 _ => ∃ k, y2 = nI k ∧ k ≤ 64 ∧ y1 = nI (cnt (fun t => lMn a t && decide (∀ u, u < t → dist (lTu a) t (lMn a t) u = 1000)) k), fun _ y2 _ => 100 - y2.toNatClampNeg, ⟨0, rfl, by omega, rfl⟩, ?_⟩
  rintro _ _ z ⟨k, rfl, hk, rfl⟩
  unfold wb_X7_groups_4
  have kc := cnt_le (fun t => lMn a t && decide (∀ u, u < t → dist (lTu a) t (lMn a t) u = 1000)) k
  simp (disch := omega) only [nI_lit, nI_leI]
  refine ⟨fun e => ?_, fun e => ?_⟩
  · have : k = 64 := by omega
    subst this
    exact hq z
  · refine M_layAway (v := X7_s14 v z) h hf (by omega) (fun d hd hD => M_hasMound (v := X7_s14 v d) h.1 (by omega) ?_)
    unfold wp_X7_groups_24
    refine ⟨fun y3 y4 => ∃ j, y4 = nI j ∧ j ≤ k ∧ y3 = bI (lMn a k && decide (∀ u, u < j → dist (lTu a) k (lMn a k) u = 1000)), fun _ y4 => 100 - y4.toNatClampNeg, ⟨0, rfl, by omega, by simp⟩, ?_⟩
    rintro _ _ ⟨j, rfl, hj, rfl⟩
    unfold wb_X7_groups_24
    have dj := hD.1 j
    simp (disch := omega) only [nI_lit, nI_leI, nI_clamp, nI_inI, nI_add, bI_0]
    have stp : ∀ b : Bool, cnt (fun t => lMn a t && decide (∀ u, u < t → dist (lTu a) t (lMn a t) u = 1000)) (k + 1) = cnt (fun t => lMn a t && decide (∀ u, u < t → dist (lTu a) t (lMn a t) u = 1000)) k + if (lMn a k && decide (∀ u, u < k → dist (lTu a) k (lMn a k) u = 1000)) then 1 else 0 := fun _ => rfl
    refine ⟨fun e2 => ?_, fun e2 => ?_⟩
    · have : j = k := by omega
      subst this
      refine ⟨fun e3 => ⟨⟨j + 1, rfl, by omega, ?_⟩, by omega⟩, fun e3 => ⟨⟨j + 1, rfl, by omega, ?_⟩, by omega⟩⟩
      · rw [stp true, e3]; rfl
      · rw [stp true, if_pos (by simpa using e3)]
    · refine ⟨fun e3 => ⟨⟨j + 1, rfl, by omega, ?_⟩, by omega⟩, fun e3 => ⟨by omega, ?_⟩⟩
      · rw [all_s, ← Bool.and_assoc, e3]; rfl
      · rw [hd j (by omega)]
        have dj := dj (by omega)
        simp (disch := omega) only [nI_eq]
        refine ⟨fun e4 => ⟨⟨j + 1, rfl, by omega, ?_⟩, by omega⟩, fun e4 => ⟨⟨j + 1, rfl, by omega, ?_⟩, by omega⟩⟩
        · rw [all_s, ← Bool.and_assoc, show (lMn a k && decide (∀ u, u < j → dist (lTu a) k (lMn a k) u = 1000)) = true by simpa using e3, Bool.true_and, decide_eq_true e4]; rfl
        · rw [all_s, ← Bool.and_assoc, decide_eq_false e4, Bool.and_false]; rfl
