theorem M_beginsTrailAt {v : V_X7} {M : List Ml} (h : MMs (X7_s v) M) (hM : fitMs M) {t : Nat} (ht : t < 64) {Q : Int32 → Prop} (hq : Q (bI (M.any (fun m => at0 (mTr m) 0 == t)))) : wp_X7_beginsTrailAt v (nI t) Q := by
  have h4 := hM.1
  unfold wp_X7_beginsTrailAt wp_X7_beginsTrailAt_4
  refine ⟨fun b y => ∃ k c, y = nI k ∧ b = bI c ∧ k ≤ M.length ∧ (c = true ↔ ∃ i, i < k ∧ at0 (mTr (mlA M i)) 0 = t), fun b y => 70 - y.toNatClampNeg, ⟨0, false, rfl, rfl, Nat.zero_le _, ⟨fun q => absurd q (by decide), fun ⟨i, hi, _⟩ => by omega⟩⟩, ?_⟩
  rintro _ _ ⟨k, c, rfl, rfl, hk, hc⟩
  unfold wb_X7_beginsTrailAt_4
  simp (disch := omega) only [of_eq, nI_lit, nI_add, pk_mul, nI_clamp, nI_inI, h.1, nI_leI]
  refine ⟨by omega, fun q => ⟨bI_bz _, ?_⟩, fun q => ?_⟩
  · have ek : k = M.length := by omega
    subst ek
    have e : M.any (fun m => at0 (mTr m) 0 == t) = c := by
      cases c with
      | true =>
        obtain ⟨i, hi, e⟩ := hc.mp rfl
        rw [List.any_eq_true]
        exact ⟨_, mlA_mem hi, by simpa using e⟩
      | false =>
        rw [List.any_eq_false]
        intro m hm q
        obtain ⟨j, hj, rfl⟩ := mem_ml hm
        exact absurd (hc.mpr ⟨j, hj, by simpa using q⟩) (by decide)
    rw [e] at hq; exact hq
  · have hk2 : k < M.length := by omega
    have o := hM.2 _ (mlA_mem hk2)
    have o1 := o.1.2.1
    have hx := o.2.1 _ (at0_mem (L := mTr (mlA M k)) (k := 0) (by omega))
    have htr : X7_s v (264 + 46 * k + 24) = nI (at0 (mTr (mlA M k)) 0) := (h.2.1 k hk2).2.2.2.2.2.1 0 (by omega)
    cases c with
    | true =>
      refine ⟨fun q => absurd q (by decide), fun _ => ⟨⟨k + 1, true, rfl, rfl, hk2, ⟨fun _ => ?_, fun _ => rfl⟩⟩, by omega⟩⟩
      obtain ⟨i, hi, e⟩ := hc.mp rfl
      exact ⟨i, by omega, e⟩
    | false =>
      refine ⟨fun _ => ⟨by omega, ?_⟩, fun q => absurd rfl q⟩
      rw [htr]
      simp (disch := omega) only [nI_eq]
      refine ⟨fun e => ⟨⟨k + 1, true, rfl, rfl, hk2, ⟨fun _ => ⟨k, by omega, e⟩, fun _ => rfl⟩⟩, by omega⟩, fun e => ⟨⟨k + 1, false, rfl, rfl, hk2, ⟨fun q => absurd q (by decide), fun ⟨i, hi, e2⟩ => ?_⟩⟩, by omega⟩⟩
      by_cases z : i = k
      · rw [z] at e2; exact absurd e2 e
      · exact absurd (hc.mpr ⟨i, by omega, e2⟩) (by decide)
theorem rakeB_iff {T : Tu} {t : Nat} : rakeB T t = true ↔ cntE T t 0 = 2 ∧ otherE (row T (nextE T t 0)) t ≠ otherE (row T (nextE T t (nextE T t 0 + 1))) t := by
  have c0 := cntE_n (T := T) (t := t) (i := 0) (Nat.zero_le _)
  unfold rakeB
  simp only [Bool.and_eq_true, decide_eq_true_eq]
  by_cases h0 : nextE T t 0 < T.length
  · rw [if_pos h0] at c0
    have c1 := cntE_n (T := T) (t := t) (i := nextE T t 0 + 1) h0
    by_cases h1 : nextE T t (nextE T t 0 + 1) < T.length
    · rw [if_pos h1] at c1
      have c2 := cntE_n (T := T) (t := t) (i := nextE T t (nextE T t 0 + 1) + 1) h1
      have le := nextE_le T t (i := nextE T t (nextE T t 0 + 1) + 1) h1
      by_cases h2 : nextE T t (nextE T t (nextE T t 0 + 1) + 1) < T.length
      · rw [if_pos h2] at c2
        exact ⟨fun q => by omega, fun q => by omega⟩
      · rw [if_neg h2] at c2
        exact ⟨fun q => ⟨by omega, q.2.2.2⟩, fun q => ⟨h0, h1, by omega, q.2⟩⟩
    · rw [if_neg h1] at c1
      exact ⟨fun q => absurd q.2.1 h1, fun q => by omega⟩
  · rw [if_neg h0] at c0
    exact ⟨fun q => absurd q.1 h0, fun q => by omega⟩
theorem M_rake {v : V_X7} {w : Wd} {n : Nat} (h : MW v w) (g : GoodW n w) {p : Int32} {Q : Int32 → (Nat → Int32) → (Nat → Int32) → (Nat → Int32) → Int32 → Int32 → Prop} (hq : ∀ b jo s sa sc, ((o_rake w p).1 = 0 → b = (o_rake w p).2.1) → MW (tupM v s sa sc (nI (o_rake w p).1) jo) (o_rake w p).2.2 → Q b jo s sa sc (nI (o_rake w p).1)) : wp_X7_rake v p Q := by
  have hn : n ≤ 512 := by have := g.2.2.2.1; omega
  have hw := h
  obtain ⟨hc, -, -, hh, -⟩ := h
  have hf := g.1.1.fit hn
  have hT := g.1.1.T hn
  have badk : ∀ k, 0 < k → k < 9 → o_rake w p = bad k w → wp_X7_rake_33 v p (nI k) Q := by
    intro k k0 k9 eo
    rw [eo] at hq
    unfold wp_X7_rake_33
    exact M_holdsK k0 k9 ⟨fun _ => hq _ _ _ _ _ (fun q => absurd (show k = 0 from q) (by omega)) (MW_same hw), fun q => absurd rfl q⟩
  unfold wp_X7_rake
  refine M_isTuft (fun e => ?_) (fun t ht hp e => ?_)
  · exact ⟨fun _ => badk 1 (by omega) (by omega) (by unfold o_rake; rw [e]), fun q => absurd rfl q⟩
  · have eo : o_rake w p = if lMn (wCur w) t = false ∨ (lMo (wCur w)).any (fun m => at0 (mTr m) 0 == t) = true then bad 2 w else (0, nI (lTu (wCur w)).length - nI (lTu (raked (wCur w) t)).length, next w (raked (wCur w) t)) := by unfold o_rake; rw [e]
    subst hp
    refine ⟨fun q => absurd q (by decide), fun _ => M_hasMound hc.1 ht ?_⟩
    cases em : lMn (wCur w) t with
    | false => exact ⟨fun _ => badk 2 (by omega) (by omega) (by rw [eo, if_pos (Or.inl em)]), fun q => absurd rfl q⟩
    | true =>
      refine ⟨fun q => absurd q (by decide), fun _ => M_beginsTrailAt hc.2.2 hf.2.1 ht ?_⟩
      cases eb : (lMo (wCur w)).any (fun m => at0 (mTr m) 0 == t) with
      | true => exact ⟨fun q => absurd q (by decide), fun _ => badk 2 (by omega) (by omega) (by rw [eo, if_pos (Or.inr eb)])⟩
      | false =>
        rw [if_neg (fun q => q.elim (fun z => by rw [em] at z; exact absurd z (by decide)) (fun z => by rw [eb] at z; exact absurd z (by decide)))] at eo
        rw [eo] at hq
        refine ⟨fun _ => ?_, fun q => absurd rfl q⟩
        unfold wp_X7_rake_33
        refine M_holds0 ⟨fun q => absurd q (by decide), fun _ => M_save (v := X7_s8 v (nI 0)) (w := w) hc hh g (fun sa sc hsc => ?_)⟩
        simp (disch := omega) only [nI_lit, nN_eq, nI_add, nI_clamp, nI_inI]
        have hz : MLawn (upd (X7_s v) (8 + t) (nI 0)) (unMound (wCur w) t) := ⟨MB_mn hc.1 ht, hc.2.1.of (upd_n (by omega)) (fun q hq => upd_n (by omega)), hc.2.2.of hf.2.1.P (upd_n (by omega)) (fun q q1 q2 => upd_n (by omega))⟩
        generalize upd (X7_s v) (8 + t) (nI 0) = s1 at hz
        refine ⟨by omega, ?_⟩
        have hcs : MCells s1 (enc (lTu (wCur w))) := hz.2.1
        -- the fall
        have drop : rakeB (lTu (wCur w)) t = false → wp_X7_rake_117 v (nI t) (X7_joint v) s1 sa sc (nI 0) Q := by
          intro hB
          have er : raked (wCur w) t = dropTun (unMound (wCur w) t) t := by rw [raked, if_neg (by rw [hB]; decide)]
          rw [er] at hq
          unfold wp_X7_rake_117
          refine M_fallsIn (v := tupM v s1 sa sc (nI 0) (X7_joint v)) hcs ht hT.1 hT.2 (fun s' hs' hf' h5' => hq _ _ _ _ _ (fun _ => ?_) (MW_next hw ?_ hsc))
          · have := dropT_len t (lTu (wCur w))
            show nI _ = nI (lTu (wCur w)).length - nI (dropT t (lTu (wCur w))).length
            rw [pk_sub this]
          · have hf' : ∀ q, q < 448 → q ≠ 7 → q ≠ 5 → s' q = s1 q := hf'
            have h5' : s' 5 = s1 5 + nI ((lTu (wCur w)).length - (dropT t (lTu (wCur w))).length) := h5'
            refine ⟨?_, hs', hz.2.2.of hf.2.1.P (hf' 1 (by omega) (by omega) (by omega)) (fun q q1 q2 => hf' q q2 (by omega) (by omega))⟩
            obtain ⟨h0, h2, h3, h4, h5, h6, h8, h9, h10, h11⟩ := hz.1
            refine ⟨?_, ?_, ?_, ?_, ?_, ?_, fun j hj => ?_, fun j hj => ?_, fun j hj => ?_, fun j hj => ?_⟩
            · rw [hf' 0 (by omega) (by omega) (by omega), h0]; rfl
            · rw [hf' 2 (by omega) (by omega) (by omega), h2]; rfl
            · rw [hf' 3 (by omega) (by omega) (by omega), h3]; rfl
            · rw [hf' 4 (by omega) (by omega) (by omega), h4]; rfl
            · rw [h5', h5]; rfl
            · rw [hf' 6 (by omega) (by omega) (by omega), h6]; rfl
            · rw [hf' _ (by omega) (by omega) (by omega), h8 j hj]; rfl
            · rw [hf' _ (by omega) (by omega) (by omega), h9 j hj]; rfl
            · rw [hf' _ (by omega) (by omega) (by omega), h10 j hj]; rfl
            · rw [hf' _ (by omega) (by omega) (by omega), h11 j hj]; rfl
        have hcnt : cntE (lTu (wCur w)) t 0 ≤ (lTu (wCur w)).length := by
          unfold cntE
          exact List.countP_le_length
        have htl := hT.2.2
        -- what comes of one and other
        have fin : ∀ y k, (cntE (lTu (wCur w)) t 0 = 2 → y = nI (off (lTu (wCur w)) (nextE (lTu (wCur w)) t 0)) ∧ k = nI (off (lTu (wCur w)) (nextE (lTu (wCur w)) t (nextE (lTu (wCur w)) t 0 + 1))) ∧ nextE (lTu (wCur w)) t 0 < nextE (lTu (wCur w)) t (nextE (lTu (wCur w)) t 0 + 1) ∧ nextE (lTu (wCur w)) t (nextE (lTu (wCur w)) t 0 + 1) < (lTu (wCur w)).length) → wp_X7_rake_83 v (nI t) y s1 sa sc (nI 0) k Q := by
          intro y k hyk
          unfold wp_X7_rake_83
          refine M_endingAt (v := tupM v s1 sa sc (nI 0) (X7_joint v)) hcs hT ht ?_
          simp (disch := omega) only [nI_lit, nI_eq]
          refine ⟨fun e2 => ?_, fun e2 => drop ?_⟩
          · obtain ⟨rfl, rfl, hij, hj⟩ := hyk e2
            have hi : nextE (lTu (wCur w)) t 0 < (lTu (wCur w)).length := by omega
            refine M_otherEnd (v := tupM v s1 sa sc (nI 0) (X7_joint v)) hcs hT hi ht (M_otherEnd (v := tupM v s1 sa sc (nI 0) (X7_joint v)) hcs hT hj ht ?_)
            have r1 := hT.1 _ (row_mem hi)
            have r2 := hT.1 _ (row_mem hj)
            have o1 := otherE_lt r1.1 r1.2 t
            have o2 := otherE_lt r2.1 r2.2 t
            simp (disch := omega) only [nI_eq]
            refine ⟨fun e3 => drop ?_, fun e3 => ?_⟩
            · cases hB : rakeB (lTu (wCur w)) t with
              | false => rfl
              | true => exact absurd e3 (rakeB_iff.mp hB).2
            · have hB : rakeB (lTu (wCur w)) t = true := rakeB_iff.mpr ⟨e2, e3⟩
              have er : raked (wCur w) t = withTu (unMound (wCur w) t) (joinT (lTu (wCur w)) (nextE (lTu (wCur w)) t 0) (nextE (lTu (wCur w)) t (nextE (lTu (wCur w)) t 0 + 1)) t) := by rw [raked, if_pos hB]
              rw [er] at hq
              have gr := (g.1.1.2.2.2.2.1 _ (row_mem hj)).1
              refine M_joins (v := tupM v s1 sa sc (nI 0) (X7_joint v)) hcs hT hj hij ht gr (fun jo s' hs' hf' => hq _ _ _ _ _ (fun _ => ?_) (MW_next (a := withTu (unMound (wCur w) t) (joinT (lTu (wCur w)) (nextE (lTu (wCur w)) t 0) (nextE (lTu (wCur w)) t (nextE (lTu (wCur w)) t 0 + 1)) t)) hw ⟨hz.1.of (fun q q1 q2 q3 => hf' q (by omega) q3), hs', hz.2.2.of hf.2.1.P (hf' 1 (by omega) (by omega)) (fun q q1 q2 => hf' q q2 (by omega))⟩ hsc))
              show nI 1 = nI (lTu (wCur w)).length - nI (joinT (lTu (wCur w)) (nextE (lTu (wCur w)) t 0) (nextE (lTu (wCur w)) t (nextE (lTu (wCur w)) t 0 + 1)) t).length
              rw [joinT_len hj hij, pk_sub (by omega)]
              congr 1; omega
          · cases hB : rakeB (lTu (wCur w)) t with
            | false => rfl
            | true => exact absurd (rakeB_iff.mp hB).1 e2
        have hfl : (enc (lTu (wCur w))).length ≤ 1024 := by rw [enc_len]; exact hT.2.1
        refine M_nextEnding (v := tupM v s1 sa sc (nI 0) (X7_joint v)) (i := 0) hcs hT ht (Nat.zero_le _) ?_
        have c0 := cntE_n (T := lTu (wCur w)) (t := t) (i := 0) (Nat.zero_le _)
        by_cases h0 : nextE (lTu (wCur w)) t 0 < (lTu (wCur w)).length
        · rw [if_pos h0] at c0
          have hv : nxI (lTu (wCur w)) t 0 = nI (off (lTu (wCur w)) (nextE (lTu (wCur w)) t 0)) := by rw [nxI, if_pos h0]
          have hol := off_lt hT h0
          rw [hv]
          refine ⟨fun q => ((nN_ne (by omega)).mp q).elim, fun _ => M_end (v := tupM v s1 sa sc (nI 0) (X7_joint v)) hcs hT h0 ?_⟩
          have pos := List.length_pos_iff.mpr (hT.1 _ (row_mem h0)).1
          have e1 : nI (off (lTu (wCur w)) (nextE (lTu (wCur w)) t 0) + (row (lTu (wCur w)) (nextE (lTu (wCur w)) t 0)).length - 1) + nI 1 = nI (off (lTu (wCur w)) (nextE (lTu (wCur w)) t 0 + 1)) := by
            rw [off_s h0, nI_add]; congr 1; omega
          rw [e1]
          refine M_nextEnding (v := tupM v s1 sa sc (nI 0) (X7_joint v)) hcs hT ht h0 (fin _ _ (fun ec => ?_))
          have c1 := cntE_n (T := lTu (wCur w)) (t := t) (i := nextE (lTu (wCur w)) t 0 + 1) h0
          have h1 : nextE (lTu (wCur w)) t (nextE (lTu (wCur w)) t 0 + 1) < (lTu (wCur w)).length := by
            apply Classical.byContradiction
            intro z
            rw [if_neg z] at c1
            omega
          have ge := nextE_ge (lTu (wCur w)) t (nextE (lTu (wCur w)) t 0 + 1)
          exact ⟨rfl, by rw [nxI, if_pos h1], by omega, h1⟩
        · rw [if_neg h0] at c0
          have hv : nxI (lTu (wCur w)) t 0 = nN := by rw [nxI, if_neg h0]
          rw [hv]
          exact ⟨fun _ => fin _ _ (fun ec => by omega), fun q => absurd rfl q⟩
theorem M_set {v : V_X7} {w : Wd} {n : Nat} (h : MW v w) (g : GoodW n w) {p : Int32} {Q : Int32 → (Nat → Int32) → (Nat → Int32) → Int32 → Int32 → Prop} (hq : ∀ b s sa sc, ((o_set w p).1 = 0 → b = (o_set w p).2.1) → MW (tupM v s sa sc (nI (o_set w p).1) (X7_joint v)) (o_set w p).2.2 → Q b s sa sc (nI (o_set w p).1)) : wp_X7_set v p Q := by
  have hn : n ≤ 512 := by have := g.2.2.2.1; omega
  have hw := h
  obtain ⟨hc, -, -, hh, -⟩ := h
  have hf := g.1.1.fit hn
  have hl4 := g.1.1.1
  unfold wp_X7_set
  refine M_range (lo := 2) (hi := 20) (by omega) (by omega) (fun e => ?_) (fun x x2 x20 hp e => ?_)
  · have eo : o_set w p = bad 1 w := by unfold o_set; rw [e]
    rw [eo] at hq
    refine ⟨fun _ => ?_, fun q => absurd rfl q⟩
    unfold wp_X7_set_16
    exact M_holdsK (k := 1) (by omega) (by omega) ⟨fun _ => hq _ _ _ _ (fun q => absurd (show 1 = 0 from q) (by decide)) (MW_same hw), fun q => absurd rfl q⟩
  · subst hp
    have eo : o_set w (nI x) = (0, nI (lAi (wCur w)), next w (setAirA (wCur w) x)) := by unfold o_set; rw [e]
    rw [eo] at hq
    refine ⟨fun q => absurd q (by decide), fun _ => ?_⟩
    unfold wp_X7_set_16
    refine M_holds0 ⟨fun q => absurd q (by decide), fun _ => ?_⟩
    simp only [nI_lit]
    refine M_lays (v := X7_s8 v (nI 0)) (w := w) hc hh g (by omega) (fun sa sc hsc => ?_)
    have h6 : X7_s (X7_s8 v (nI 0)) 6 = nI (lAi (wCur w)) := hc.1.2.2.2.2.2.1
    rw [h6]
    have hM := hf.2.1.P
    unfold wp_X7_set_34
    refine ⟨fun y z => ∃ k, y = nI k ∧ k ≤ (lMo (wCur w)).length ∧ MMsP z (mapTo k (capA x) (lMo (wCur w))) (plM (lMo (wCur w))) ∧ z 6 = nI x ∧ ∀ q, (q < 264 ∨ 448 ≤ q) → q ≠ 6 → z q = X7_s v q, fun y _ => 70 - y.toNatClampNeg, ⟨0, rfl, Nat.zero_le _, by rw [mapTo_0]; exact hc.2.2.of hM (upd_n (by omega)) (fun q q1 q2 => upd_n (by omega)), upd_s _ _ _, fun q q1 q2 => upd_n q2⟩, ?_⟩
    rintro _ z ⟨k, rfl, hk, hm, z6, hz⟩
    have z1 : z 1 = nI (lMo (wCur w)).length := by rw [hm.1, mapTo_len]
    have hcap : ∀ m ∈ lMo (wCur w), okP m ∧ okP (capA x m) := fun m mm => by
      have o := hM.2 m mm
      refine ⟨o, o.1, o.2.1, o.2.2.1, o.2.2.2.1, ?_⟩
      show min (mAi m) x ≤ 20
      omega
    have hfz : fitMP (mapTo k (capA x) (lMo (wCur w))) := ⟨by rw [mapTo_len]; exact hl4, mapTo_mem hcap⟩
    unfold wb_X7_set_34
    simp (disch := omega) only [of_eq, nI_lit, nI_add, pk_mul, nI_clamp, nI_inI, z1, nI_leI]
    refine ⟨by omega, fun q => ?_, fun q => ?_⟩
    · have ek : k = (lMo (wCur w)).length := by omega
      subst ek
      rw [mapTo_all (Nat.le_refl _)] at hm
      refine hq _ _ _ _ (fun _ => rfl) (MW_next (a := setAirA (wCur w) x) hw ⟨?_, hc.2.1.of (hz 7 (by omega) (by omega)) (fun q q1 => hz q (by omega) (by omega)), hm.pl (fun i hi => ?_)⟩ hsc)
      · obtain ⟨h0, h2, h3, h4, h5, h6, h8, h9, h10, h11⟩ := hc.1
        refine ⟨?_, ?_, ?_, ?_, ?_, z6, fun j hj => ?_, fun j hj => ?_, fun j hj => ?_, fun j hj => ?_⟩
        · rw [hz 0 (by omega) (by omega), h0]; rfl
        · rw [hz 2 (by omega) (by omega), h2]; rfl
        · rw [hz 3 (by omega) (by omega), h3]; rfl
        · rw [hz 4 (by omega) (by omega), h4]; rfl
        · rw [hz 5 (by omega) (by omega), h5]; rfl
        · rw [hz _ (by omega) (by omega), h8 j hj]; rfl
        · rw [hz _ (by omega) (by omega), h9 j hj]; rfl
        · rw [hz _ (by omega) (by omega), h10 j hj]; rfl
        · rw [hz _ (by omega) (by omega), h11 j hj]; rfl
      · have hi : i < ((lMo (wCur w)).map (capA x)).length := hi
        rw [List.length_map] at hi
        show lastOf (mTr (mlA ((lMo (wCur w)).map (capA x)) i)) = plM (lMo (wCur w)) i
        rw [ml_map hi]; rfl
    · have hk2 : k < (lMo (wCur w)).length := by omega
      have hkm : k < (mapTo k (capA x) (lMo (wCur w))).length := by rw [mapTo_len]; exact hk2
      have hmo := hm.2.1 k hkm
      rw [mapTo_at hk2] at hmo
      have ok := hM.2 _ (mlA_mem hk2)
      have o5 := ok.2.2.2.2
      have put : ∀ y, y = nI (min (mAi (mlA (lMo (wCur w)) k)) x) → MMsP (upd z (264 + 46 * k + 1) y) (mapTo (k + 1) (capA x) (lMo (wCur w))) (plM (lMo (wCur w))) ∧ upd z (264 + 46 * k + 1) y 6 = nI x ∧ ∀ q, (q < 264 ∨ 448 ≤ q) → q ≠ 6 → upd z (264 + 46 * k + 1) y q = X7_s v q := by
        intro y hy
        refine ⟨?_, by rw [upd_n (by omega)]; exact z6, fun q q1 q2 => by rw [upd_n (by omega)]; exact hz q q1 q2⟩
        rw [← mapTo_set hk2]
        refine MMsP.set (pl := plM (lMo (wCur w))) hm hfz hkm ?_ (fun _ _ => rfl) (upd_n (by omega)) (fun q q1 q2 q3 => upd_n (by omega))
        obtain ⟨g1, g2, g3, g4, g5, g6, g7⟩ := hmo
        have ok1 := ok.1
        have ok2 := ok.2.1
        refine ⟨?_, ?_, ?_, seg_of g4 (fun j hj => ?_), ?_, seg_of g6 (fun j hj => ?_), ?_⟩
        · rw [upd_n (by omega), g1]
        · rw [upd_s, hy]; rfl
        · rw [upd_n (by omega), g3]; rfl
        · have hj : j < (mPl (mlA (lMo (wCur w)) k)).length := hj
          exact upd_n (by omega)
        · rw [upd_n (by omega), g5]; rfl
        · have hj : j < (mTr (mlA (lMo (wCur w)) k)).length := hj
          exact upd_n (by omega)
        · rw [upd_n (by omega), g7]; rfl
      rw [hmo.2.1]
      simp (disch := omega) only [nI_leI]
      refine ⟨by omega, fun e5 => ⟨by omega, by omega, ⟨k + 1, rfl, hk2, put _ (by congr 1; omega)⟩, by omega⟩, fun e5 => ⟨by omega, ⟨k + 1, rfl, hk2, put _ (by congr 1; omega)⟩, by omega⟩⟩
theorem M_undo {v : V_X7} {w : Wd} {n : Nat} (h : MW v w) (g : GoodW n w) {Q : Int32 → (Nat → Int32) → Int32 → Int32 → Prop} (hq : ∀ b s sc, ((o_undo w).1 = 0 → b = (o_undo w).2.1) → MW (tupM v s (X7_saved v) sc (nI (o_undo w).1) (X7_joint v)) (o_undo w).2.2 → Q b s sc (nI (o_undo w).1)) : wp_X7_undo v Q := by
  have hn : n ≤ 512 := by have := g.2.2.2.1; omega
  have hw := h
  obtain ⟨hc, m1, m2, ⟨s1, s2, s3⟩, m3⟩ := h
  unfold wp_X7_undo
  rw [s1]
  simp (disch := omega) only [nI_lit, nI_leI]
  refine ⟨fun e => ?_, fun e => ?_⟩
  · have eo : o_undo w = bad 1 w := by unfold o_undo; rw [if_pos (by omega)]
    rw [eo] at hq
    unfold wp_X7_undo_13
    exact M_holdsK (k := 1) (by omega) (by omega) ⟨fun _ => hq _ _ _ (fun q => absurd (show 1 = 0 from q) (by decide)) (MW_same hw), fun q => absurd rfl q⟩
  · have eo : o_undo w = (0, nI ((wHist w).length - 1), (hAt (wHist w) ((wHist w).length - 1), wSnap w, (wHist w).dropLast, wBuf w)) := by unfold o_undo; rw [if_neg (by omega)]
    rw [eo] at hq
    unfold wp_X7_undo_13
    refine M_holds0 ⟨fun q => absurd q (by decide), fun _ => ?_⟩
    rw [s1]
    simp only [nI_lit]
    rw [pk_sub (by omega)]
    have hm := hAt_mem (A := wHist w) (k := (wHist w).length - 1) (by omega)
    have hf := (g.2.2.1 _ hm).1.fit hn
    unfold wp_X7_undo_33
    refine ⟨fun y z => ∃ k, y = nI k ∧ k ≤ 1472 ∧ ∀ q, q < k → z q = X7_saved v (1472 * ((wHist w).length - 1) + q), fun y _ => 2000 - y.toNatClampNeg, ⟨0, rfl, by omega, fun q hq => by omega⟩, ?_⟩
    rintro _ z ⟨k, rfl, hk, z1⟩
    unfold wb_X7_undo_33
    simp (disch := omega) only [nI_lit, nI_add, pk_mul, nI_clamp, nI_inI, nI_leI]
    refine ⟨fun q => hq _ _ _ (fun _ => rfl) ⟨(s3 _ (by omega)).of hf (fun q q1 => z1 q (by omega)), m1, m2, ⟨?_, ?_, fun i hi => ?_⟩, m3⟩, fun q => ⟨by omega, by omega, ⟨k + 1, rfl, by omega, fun j hj => ?_⟩, by omega⟩⟩
    · show nI _ = nI (wHist w).dropLast.length
      rw [List.length_dropLast]
    · show (wHist w).dropLast.length ≤ 6
      rw [List.length_dropLast]; omega
    · have hi : i < (wHist w).dropLast.length := hi
      rw [List.length_dropLast] at hi
      have : hAt (wHist w).dropLast i = hAt (wHist w) i := by
        unfold hAt
        rw [List.getElem?_dropLast, if_pos hi]
      show MLawn _ (hAt (wHist w).dropLast i)
      rw [this]; exact s3 i (by omega)
    · by_cases w : j = k
      · subst w; rw [upd_s]
      · rw [upd_n (by omega)]; exact z1 j (by omega)
theorem M_keep {v : V_X7} {w : Wd} {n : Nat} (h : MW v w) (g : GoodW n w) {Q : Int32 → Int32 → (Nat → Int32) → Int32 → Prop} (hq : ∀ kp, MW (X7_s v, X7_aside v, kp, 1, X7_saved v, X7_savedMany v, X7_text v, X7_length v, 0, X7_joint v, X7_position v, X7_isWrong v, X7_isHollow v, X7_sure v, X7_away v, X7_digested v) (o_keep w).2.2 → Q (o_keep w).2.1 1 kp 0) : wp_X7_keep v Q := by
  have hn : n ≤ 512 := by have := g.2.2.2.1; omega
  obtain ⟨hc, m1, m2, hh, m3⟩ := h
  have hf := g.1.1.fit hn
  have hT := g.1.1.T hn
  unfold wp_X7_keep wp_X7_keep_7
  refine ⟨fun y z => ∃ k, y = nI k ∧ k ≤ 1472 ∧ ∀ q, q < k → z q = X7_s v q, fun y _ => 2000 - y.toNatClampNeg, ⟨0, rfl, by omega, fun q hq => by omega⟩, ?_⟩
  rintro _ z ⟨k, rfl, hk, z1⟩
  unfold wb_X7_keep_7
  refine ⟨fun q => ?_, fun q => ?_⟩
  · have ek : k = 1472 := by
      have := (nI_leI (a := 1472) (b := k) (by omega) (by omega)).mp q
      omega
    subst ek
    exact M_tunnels (v := (X7_s v, X7_aside v, z, 1, X7_saved v, X7_savedMany v, X7_text v, X7_length v, 0, X7_joint v, X7_position v, X7_isWrong v, X7_isHollow v, X7_sure v, X7_away v, X7_digested v)) hc.2.1 hT.1 hT.2 (hq z ⟨hc, rfl, fun a ha => by
      have : wCur w = a := Option.some.inj ha
      exact this ▸ hc.of hf (fun q q1 => z1 q q1), hh, m3⟩)
  · have q : ¬ 1472 ≤ k := fun z => q ((nI_leI (a := 1472) (b := k) (by omega) (by omega)).mpr z)
    simp (disch := omega) only [nI_lit, nI_add, nI_clamp, nI_inI]
    refine ⟨by omega, ⟨k + 1, rfl, by omega, fun j hj => ?_⟩, by omega⟩
    by_cases w : j = k
    · subst w; rw [upd_s]
    · rw [upd_n (by omega)]; exact z1 j (by omega)
theorem M_restore {v : V_X7} {w : Wd} {n : Nat} (h : MW v w) (g : GoodW n w) {Q : Int32 → (Nat → Int32) → (Nat → Int32) → Int32 → Int32 → Prop} (hq : ∀ b s sa sc, ((o_restore w).1 = 0 → b = (o_restore w).2.1) → MW (tupM v s sa sc (nI (o_restore w).1) (X7_joint v)) (o_restore w).2.2 → Q b s sa sc (nI (o_restore w).1)) : wp_X7_restore v Q := by
  have hn : n ≤ 512 := by have := g.2.2.2.1; omega
  have hw := h
  obtain ⟨hc, m1, m2, hh, m3⟩ := h
  unfold wp_X7_restore
  rw [m1]
  cases e : wSnap w with
  | none =>
    have eo : o_restore w = bad 1 w := by unfold o_restore; rw [e]
    rw [eo] at hq
    refine ⟨fun _ => ?_, fun q => absurd rfl q⟩
    unfold wp_X7_restore_13
    exact M_holdsK (k := 1) (by omega) (by omega) ⟨fun _ => hq _ _ _ _ (fun q => absurd (show 1 = 0 from q) (by decide)) (MW_same hw), fun q => absurd rfl q⟩
  | some a =>
    have eo : o_restore w = (0, nI (lTu a).length, next w a) := by unfold o_restore; rw [e]
    rw [eo] at hq
    have ga := g.2.1 a e
    have hf := ga.1.fit hn
    have hT := ga.1.T hn
    refine ⟨fun q => absurd (show nI 1 = nI 0 from q) (by decide), fun _ => ?_⟩
    unfold wp_X7_restore_13
    refine M_holds0 ⟨fun q => absurd q (by decide), fun _ => M_save (v := X7_s8 v (nI 0)) (w := w) hc hh g (fun sa sc hsc => ?_)⟩
    unfold wp_X7_restore_27
    refine ⟨fun y z => ∃ k, y = nI k ∧ k ≤ 1472 ∧ ∀ q, q < k → z q = X7_kept v q, fun y _ => 2000 - y.toNatClampNeg, ⟨0, rfl, by omega, fun q hq => by omega⟩, ?_⟩
    rintro _ z ⟨k, rfl, hk, z1⟩
    unfold wb_X7_restore_27
    refine ⟨fun q => ?_, fun q => ?_⟩
    · have ek : k = 1472 := by
        have := (nI_leI (a := 1472) (b := k) (by omega) (by omega)).mp q
        omega
      subst ek
      have hz : MLawn z a := (m2 a e).of hf (fun q q1 => z1 q q1)
      exact M_tunnels (v := tupM v z sa sc (nI 0) (X7_joint v)) hz.2.1 hT.1 hT.2 (hq _ _ _ _ (fun _ => rfl) (MW_next hw hz hsc))
    · have q : ¬ 1472 ≤ k := fun z => q ((nI_leI (a := 1472) (b := k) (by omega) (by omega)).mpr z)
      simp (disch := omega) only [nI_lit, nI_add, nI_clamp, nI_inI]
      refine ⟨by omega, ⟨k + 1, rfl, by omega, fun j hj => ?_⟩, by omega⟩
      by_cases w : j = k
      · subst w; rw [upd_s]
      · rw [upd_n (by omega)]; exact z1 j (by omega)
theorem M_append {v : V_X7} {w : Wd} {n : Nat} (h : MW v w) (g : GoodW n w) {p : Int32} {Q : Int32 → Int32 → (Nat → Int32) → Int32 → Prop} (hq : ∀ b ln tx, ((o_append w p).1 = 0 → b = (o_append w p).2.1) → MW (X7_s v, X7_aside v, X7_kept v, X7_isKept v, X7_saved v, X7_savedMany v, tx, ln, nI (o_append w p).1, X7_joint v, X7_position v, X7_isWrong v, X7_isHollow v, X7_sure v, X7_away v, X7_digested v) (o_append w p).2.2 → Q b ln tx (nI (o_append w p).1)) : wp_X7_append v p Q := by
  have hw := h
  obtain ⟨hc, m1, m2, hh, ⟨x1, x2⟩⟩ := h
  have hb60 := g.2.2.2.2
  have badk : ∀ k, 0 < k → k < 9 → o_append w p = bad k w → wp_X7_append_30 v p (nI k) Q := by
    intro k k0 k9 eo
    rw [eo] at hq
    unfold wp_X7_append_30
    exact M_holdsK k0 k9 ⟨fun _ => hq _ _ _ (fun q => absurd (show k = 0 from q) (by omega)) hw, fun q => absurd rfl q⟩
  unfold wp_X7_append
  refine M_range (lo := 33) (hi := 126) (by omega) (by omega) (fun e => ?_) (fun c c1 c2 hp e => ?_)
  · exact ⟨fun _ => badk 1 (by omega) (by omega) (by unfold o_append; rw [e]), fun q => absurd rfl q⟩
  · subst hp
    have eo : o_append w (nI c) = if 60 ≤ (wBuf w).length then bad 2 w else (0, nI ((wBuf w).length + 1), (wCur w, wSnap w, wHist w, wBuf w ++ [c])) := by unfold o_append; rw [e]
    refine ⟨fun q => absurd q (by decide), fun _ => ?_⟩
    rw [x2]
    simp (disch := omega) only [nI_lit, nI_eq]
    refine ⟨fun e6 => badk 2 (by omega) (by omega) (by rw [eo, if_pos (by omega)]), fun e6 => ?_⟩
    rw [if_neg (by omega)] at eo
    rw [eo] at hq
    unfold wp_X7_append_30
    refine M_holds0 ⟨fun q => absurd q (by decide), fun _ => ?_⟩
    rw [x2]
    simp (disch := omega) only [nI_lit, nI_add, nI_clamp, nI_inI]
    refine ⟨by omega, hq _ _ _ (fun _ => rfl) ⟨hc, m1, m2, hh, seg_snoc x1 (by omega), ?_⟩⟩
    show nI _ = nI (wBuf w ++ [c]).length
    rw [List.length_append]; rfl
theorem M_clear {v : V_X7} {w : Wd} (h : MW v w) {Q : Int32 → Int32 → Int32 → Prop} (hq : MW (X7_s v, X7_aside v, X7_kept v, X7_isKept v, X7_saved v, X7_savedMany v, X7_text v, 0, 0, X7_joint v, X7_position v, X7_isWrong v, X7_isHollow v, X7_sure v, X7_away v, X7_digested v) (o_clear w).2.2 → Q (o_clear w).2.1 0 0) : wp_X7_clearBuffer v Q := by
  obtain ⟨hc, m1, m2, hh, ⟨x1, x2⟩⟩ := h
  unfold wp_X7_clearBuffer
  rw [x2]
  exact hq ⟨hc, m1, m2, hh, seg_nil _ _, rfl⟩
