/-! The reference's survey: sure tufts, counts. -/
theorem M_laySure {v : V_X7} {a : Lw} {n : Nat} (h : MLawn (X7_s v) a) (g : Good n a) (hn : n ≤ 512) {Q : (Nat → Int32) → (Nat → Int32) → Prop} (hq : ∀ zh zu, (∀ t, t < 64 → zh t = bI (hol a t)) → eqS zu (sureA a) → Q zh zu) : wp_X7_laySure v Q := by
  unfold wp_X7_laySure
  refine M_layHollow h g hn (fun zh hh => ?_)
  have hop : ∀ t, t < 64 → X7_s v (200 + t) = bI (lOp a t) := h.1.2.2.2.2.2.2.2.2.2
  unfold wp_X7_laySure_6
  refine ⟨fun y z => ∃ k, y = nI k ∧ k ≤ 64 ∧ ∀ t, t < k → z t = S0 a t, fun y _ => 100 - y.toNatClampNeg, ⟨0, rfl, by omega, fun t ht => by omega⟩, ?_⟩
  rintro _ z ⟨k, rfl, hk, hz⟩
  unfold wb_X7_laySure_6
  simp (disch := omega) only [nI_lit, nN_eq, nI_clamp, nI_inI, nI_add, nI_leI]
  refine ⟨fun e => ?_, fun e => ⟨by omega, ?_⟩⟩
  rotate_left
  · have put : ∀ y, y = S0 a k → (∃ j, nI (k + 1) = nI j ∧ j ≤ 64 ∧ ∀ t, t < j → upd z k y t = S0 a t) := fun y hy => ⟨k + 1, rfl, by omega, fun t ht => by
      by_cases c : t = k
      · subst c; rw [upd_s, hy]
      · rw [upd_n c]; exact hz t (by omega)⟩
    rw [hop k (by omega), hh k (by omega), bI_0, bI_0]
    refine ⟨fun e2 => ⟨by omega, put _ (by unfold S0; rw [e2]; rfl), by omega⟩, fun e2 => ⟨by omega, fun e3 => ⟨put _ (by unfold S0; rw [if_pos (by simpa using e2), e3]; rfl), by omega⟩, fun e3 => ⟨put _ (by unfold S0; rw [if_pos (by simpa using e2), show hol a k = true by simpa using e3]; rfl), by omega⟩⟩⟩
  have hz64 : eqS z (S0 a) := fun t ht => hz t (by omega)
  unfold wp_X7_laySure_57
  refine ⟨fun y2 z => ∃ r, SI a z y2 r, fun y2 z => if y2 = nI 0 then 0 else unkN z + 1, ⟨0, SI_start hz64⟩, ?_⟩
  rintro _ z ⟨r, S, hS, ⟨rfl, hr, hu, hfx⟩ | ⟨rfl, rfl⟩⟩
  rotate_left
  · exact ⟨fun _ => hq zh z hh hS, fun q => absurd rfl q⟩
  unfold wb_X7_laySure_57
  refine ⟨fun q => absurd q (by decide), fun _ => ?_⟩
  have su := sw_unk (H := hol a) (op := lOp a) (S := S) 64
  unfold wp_X7_laySure_65
  refine ⟨fun y2 y4 z => ∃ k, y4 = nI k ∧ k ≤ 64 ∧ y2 = bI (sw (hol a) (lOp a) k S).1 ∧ eqS z (sw (hol a) (lOp a) k S).2, fun _ y4 _ => 100 - y4.toNatClampNeg, ⟨0, rfl, by omega, rfl, hS⟩, ?_⟩
  rintro _ _ z2 ⟨k, rfl, hk, rfl, hz2⟩
  unfold wb_X7_laySure_65
  simp (disch := omega) only [nI_lit, nI_clamp, nI_inI, nI_add, nI_leI]
  refine ⟨fun e2 => ?_, fun e2 => ⟨by omega, ?_⟩⟩
  · have : k = 64 := by omega
    subst this
    refine ⟨⟨r + 1, SI_step hr hu hfx hz2⟩, ?_⟩
    show (if _ then 0 else _) < (if nI 1 = nI 0 then 0 else _)
    rw [if_neg (show ¬ nI 1 = nI 0 by decide), unkN_congr hz2, unkN_congr hS]
    cases c : (sw (hol a) (lOp a) 64 S).1 with
    | true => have := su.1 c; rw [if_neg (show ¬ bI true = nI 0 by decide)]; omega
    | false => rw [if_pos (show bI false = nI 0 from rfl)]; omega
  · rw [hop k (by omega)]
    have st : sw (hol a) (lOp a) (k + 1) S = if lOp a k then ((sw (hol a) (lOp a) k S).1 || (concl (hol a) (sw (hol a) (lOp a) k S).2 k).1, (concl (hol a) (sw (hol a) (lOp a) k S).2 k).2) else sw (hol a) (lOp a) k S := rfl
    have w98 : ∀ (c : Bool) (z3 : Nat → Int32), sw (hol a) (lOp a) (k + 1) S = ((sw (hol a) (lOp a) k S).1 || c, (sw (hol a) (lOp a) (k + 1) S).2) → eqS z3 (sw (hol a) (lOp a) (k + 1) S).2 → ∀ (B : Int32 → Int32 → (Nat → Int32) → Prop), (B (bI (sw (hol a) (lOp a) (k + 1) S).1) (nI (k + 1)) z3) → wp_X7_laySure_98 v zh (nI 1) z (fun t0 t1 => (∃ r, SI a t1 t0 r) ∧ (if t0 = nI 0 then 0 else unkN t1 + 1) < (if nI 1 = nI 0 then 0 else unkN z + 1)) (bI (sw (hol a) (lOp a) k S).1) (nI k) z2 B z3 (bI c) Q := by
      intro c z3 h1 h2 B hB
      rw [h1] at hB
      unfold wp_X7_laySure_98
      simp (disch := omega) only [nI_lit, nI_add]
      cases c1 : (sw (hol a) (lOp a) k S).1 with
      | true => rw [c1] at hB; exact ⟨fun q => absurd q (by decide), fun _ => hB⟩
      | false =>
        rw [c1] at hB
        cases c with
        | true => exact ⟨fun _ => ⟨fun q => absurd q (by decide), fun _ => hB⟩, fun q => absurd rfl q⟩
        | false => exact ⟨fun _ => ⟨fun _ => hB, fun q => absurd rfl q⟩, fun q => absurd rfl q⟩
    cases op : lOp a k with
    | false =>
      rw [op] at st
      refine ⟨fun q => absurd q (by decide), fun _ => ?_⟩
      unfold wp_X7_laySure_97
      refine w98 false z2 ?_ (by rw [st]; exact hz2) _ ⟨⟨k + 1, rfl, by omega, rfl, by rw [st]; exact hz2⟩, ?_⟩
      · rw [Bool.or_false, st]; rfl
      · rw [nI_clamp (by omega)]; omega
    | true =>
      rw [op, if_pos rfl] at st
      refine ⟨fun _ => M_finds (v := X7_s13 (X7_s12 v zh) z2) hh (by omega) (fun z3 hz3 => ?_), fun q => absurd rfl q⟩
      obtain ⟨cc1, cc2⟩ := concl_congr (H := hol a) hz2 k
      have hz4 : eqS z3 (sw (hol a) (lOp a) (k + 1) S).2 := fun t ht => by rw [st]; exact (hz3 t ht).trans (cc2 t ht)
      rw [show (concl (hol a) (X7_sure (X7_s13 (X7_s12 v zh) z2)) k).1 = (concl (hol a) z2 k).1 from rfl, cc1]
      cases c : (concl (hol a) (sw (hol a) (lOp a) k S).2 k).1 with
      | true =>
        refine ⟨fun q => absurd q (by decide), fun _ => w98 true z3 (by rw [st, c]) hz4 _ ⟨⟨k + 1, rfl, by omega, rfl, hz4⟩, ?_⟩⟩
        rw [nI_clamp (by omega)]; omega
      | false =>
        unfold wp_X7_laySure_97
        refine ⟨fun _ => w98 false z3 (by rw [st, c]) hz4 _ ⟨⟨k + 1, rfl, by omega, rfl, hz4⟩, ?_⟩, fun q => absurd rfl q⟩
        rw [nI_clamp (by omega)]; omega
theorem M_tunnelsWith {v : V_X7} {T : Tu} (h : MCells (X7_s v) (enc T)) (hf : fitTu T) {t : Nat} (ht : t < 64) {Q : Int32 → Prop} (hq : Q (nI (crN T t))) : wp_X7_tunnelsWith v (nI t) Q := by
  have hok : okT T := ⟨hf.2, hf.1⟩
  have hel : (enc T).length ≤ 1024 := by rw [enc_len]; exact hf.1.1
  have hlen := hf.1.2
  unfold wp_X7_tunnelsWith wp_X7_tunnelsWith_4
  refine ⟨fun y2 y3 => ∃ i, i ≤ T.length ∧ y3 = nI (off T i) ∧ y2 = nI (crN (T.take i) t), fun _ y3 => 2000 - y3.toNatClampNeg, ⟨0, Nat.zero_le _, rfl, rfl⟩, ?_⟩
  rintro _ _ ⟨i, hi, rfl, rfl⟩
  unfold wb_X7_tunnelsWith_4
  have ho := off_le T i
  rw [← enc_len] at ho
  simp (disch := omega) only [nI_lit, nI_clamp, nI_inI]
  rw [h.1]
  simp (disch := omega) only [nI_leI]
  refine ⟨by omega, fun e => ?_, fun e => ?_⟩
  · have ei : i = T.length := by
      apply Classical.byContradiction
      intro q
      have := off_lt hok (k := i) (by omega)
      omega
    subst ei
    rw [List.take_length]
    exact hq
  · have hi2 : i < T.length := by
      apply Classical.byContradiction
      intro q
      rw [off_all (by omega), ← enc_len] at e
      omega
    have pos := List.length_pos_iff.mpr (hf.2 _ (row_mem hi2)).1
    have os := off_s hi2
    have os2 := off_row hi2
    rw [← enc_len] at os2
    have w37 : ∀ c : Nat, crN (T.take (i + 1)) t = crN (T.take i) t + c → wp_X7_tunnelsWith_37 v (nI t) (nI (crN (T.take i) t)) (nI (off T i)) (fun t0 t1 => (∃ i, i ≤ T.length ∧ t1 = nI (off T i) ∧ t0 = nI (crN (T.take i) t)) ∧ 2000 - t1.toNatClampNeg < 2000 - off T i) (nI c) (nI (crN (T.take i) t)) Q := by
      intro c hc
      unfold wp_X7_tunnelsWith_37
      refine M_end h hok hi2 ?_
      simp (disch := omega) only [nI_lit, nI_add, nI_clamp]
      refine ⟨⟨i + 1, hi2, by congr 1; omega, by rw [hc]⟩, by omega⟩
    refine M_end h hok hi2 (M_find h hel (pc_enc hf.2 hi2) ht ?_)
    unfold ixO
    simp only [nN_eq]
    by_cases c : t ∈ row T i
    · rw [if_pos c]
      have hix := List.idxOf_lt_length_iff.mpr c
      simp (disch := omega) only [nN_ne]
      exact ⟨fun q => q.elim, fun _ => w37 1 (by rw [crN_take hi2, if_pos c])⟩
    · rw [if_neg c]
      exact ⟨fun _ => w37 0 (by rw [crN_take hi2, if_neg c]), fun q => absurd rfl q⟩
