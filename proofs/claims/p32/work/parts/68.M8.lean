/-! The reference: what a mole does in a beat, a beat, beats. -/
theorem MMs_pl {s : Nat → Int32} {M M' : List Ml} (h : MMsP s M' (plM M)) (hl : M'.length = M.length) (e : ∀ i, i < M.length → lastOf (mTr (mlA M' i)) = lastOf (mTr (mlA M i))) : MMs s M' := h.pl (fun i hi => e i (by omega))
theorem fromLast_ne : ∀ {t : Nat} {r : List Nat}, t ∈ r → fromLast t r ≠ [] ∧ lastOf (fromLast t r) = lastOf r
  | t, [], h => by simp at h
  | t, x :: r, h => by
    unfold fromLast
    by_cases e : t ∈ r
    · rw [if_pos e]
      obtain ⟨h1, h2⟩ := fromLast_ne e
      refine ⟨h1, ?_⟩
      rw [h2]
      have hp : 0 < r.length := List.length_pos_iff.mpr (fun z => by rw [z] at e; simp at e)
      unfold lastOf
      rw [show (x :: r).length - 1 = (r.length - 1) + 1 by simp; omega, at0_s]
    · rw [if_neg e]
      exact ⟨by simp, rfl⟩
theorem cutM_last (t : Nat) (m : Ml) : lastOf (mTr (cutM t m)) = lastOf (mTr m) := by
  unfold cutM
  split
  · rename_i y; exact (fromLast_ne y.1).2
  · rfl
theorem ml_map {M : List Ml} {f : Ml → Ml} {i : Nat} (h : i < M.length) : mlA (M.map f) i = f (mlA M i) := by
  simp [mlA, h]
theorem M_comesUp2 {v : V_X7} {a : Lw} (h : MLawn (X7_s v) a) (hM : fitMP (lMo a)) {t : Nat} (ht : t < 64) (hok : splitOk t (lTu a)) (hfit : fitT (lTu (comesUp a t))) {Q : (Nat → Int32) → Prop} (hq : ∀ s', MLawn s' (comesUp a t) → Q s') : wp_X7_comesUp v (nI t) Q :=
  M_comesUp h hM ht hok hfit (fun s' hs' => hq s' ⟨hs'.1, hs'.2.1, hs'.2.2.pl (fun i hi => by
    have hi : i < ((lMo a).map (cutM t)).length := hi
    rw [List.length_map] at hi
    show lastOf (mTr (mlA ((lMo a).map (cutM t)) i)) = plM (lMo a) i
    rw [ml_map hi, cutM_last]; rfl)⟩)
theorem M_fill {s : Nat → Int32} {b : Lw} {i : Nat} (h : MLawn s b) (hM : fitMP (lMo b)) (hi : i < (lMo b).length) {x : Nat} : MLawn (upd s (264 + 46 * i + 1) (nI x)) (withMo b ((lMo b).set i (fillM x (mlA (lMo b) i)))) := by
  obtain ⟨hb, hc, hm⟩ := h
  have hl := hM.1
  refine ⟨hb.of (fun q q1 q2 q3 => upd_n (by omega)), hc.of (upd_n (by omega)) (fun q hq => upd_n (by omega)), MMsP.set (pl := plM (lMo b)) (m := fillM x (mlA (lMo b) i)) hm hM hi ?_ (fun j hj => ?_) (upd_n (by omega)) (fun q q1 q2 q3 => upd_n (by omega))⟩
  · have ep : plM (lMo (withMo b ((lMo b).set i (fillM x (mlA (lMo b) i))))) i = plM (lMo b) i := by
      show lastOf (mTr (mlA ((lMo b).set i _) i)) = _
      rw [mlA_set hi, if_pos rfl]; rfl
    rw [ep]
    obtain ⟨g1, g2, g3, g4, g5, g6, g7⟩ := hm.2.1 i hi
    obtain ⟨o1, o2, -⟩ := hM.2 _ (mlA_mem hi)
    refine ⟨?_, upd_s _ _ _, ?_, seg_of g4 (fun k hk => upd_n (by omega)), ?_, seg_of g6 (fun k hk => upd_n (by omega)), ?_⟩
    · rw [upd_n (by omega), g1]
    · rw [upd_n (by omega), g3]; rfl
    · rw [upd_n (by omega), g5]; rfl
    · rw [upd_n (by omega), g7]; rfl
  · show lastOf (mTr (mlA ((lMo b).set i _) j)) = plM (lMo b) j
    unfold plM mlA
    rw [List.getElem?_set, if_neg (fun q => hj q.symm)]
theorem M_ensure {v : V_X7} {b : Lw} {t : Nat} (h : MLawn (X7_s v) b) (hM : fitMP (lMo b)) (ht : t < 64) (hsp : lMn b t = false → splitOk t (lTu b)) (hfit : fitT (lTu (ensure b t))) {Q : (Nat → Int32) → Prop} (hq : ∀ s', MLawn s' (ensure b t) → Q s') : wp_X7_hasMound v (nI t) (fun r => (r = nI 0 → wp_X7_comesUp v (nI t) Q) ∧ (¬ r = nI 0 → Q (X7_s v))) := by
  refine M_hasMound h.1 ht ?_
  cases e : lMn b t with
  | true =>
    have ee : ensure b t = b := by rw [ensure, if_pos e]
    rw [ee] at hq
    exact ⟨fun q => absurd q (by decide), fun _ => hq _ h⟩
  | false =>
    have ee : ensure b t = comesUp b t := by rw [ensure, if_neg (by rw [e]; decide)]
    rw [ee] at hq hfit
    exact ⟨fun _ => M_comesUp2 h hM ht (hsp e) hfit hq, fun q => absurd rfl q⟩
theorem ensure_P {b : Lw} (h : fitMP (lMo b)) (t : Nat) : fitMP (lMo (ensure b t)) := by
  unfold ensure
  split
  · exact h
  · refine ⟨by show ((lMo b).map (cutM t)).length ≤ 4; rw [List.length_map]; exact h.1, fun m hm => ?_⟩
    obtain ⟨x, hx, rfl⟩ := List.mem_map.mp hm
    exact okP_cut (h.2 x hx)
theorem M_airEnd {v : V_X7} {x1 x2 : Int32} {s1 : Nat → Int32} {b : Lw} (h : MLawn s1 b) (hf : fitL b) {i : Nat} (hi : i < (lMo b).length) (hsp : mAi (mlA (lMo b) i) = 0 → lMn b (placeOf b i) = false → splitOk (placeOf b i) (lTu b)) (hfit : fitL (airEnd b i)) {Q : Int32 → (Nat → Int32) → Prop} (hq : ∀ s', MLawn s' (airEnd b i) → Q (nI 0) s') (hx1 : x1 = nI i) : wp_X7_tries_106 v x1 x2 (nI (placeOf b i)) s1 Q := by
  subst hx1
  obtain ⟨hb, hc, hm⟩ := h
  have hl := hf.2.1.1
  have oM := hf.2.1.2 _ (mlA_mem hi)
  have hpl := place_lt hf.2.1 hi
  have hai := oM.2.2.2
  unfold wp_X7_tries_106
  simp (disch := omega) only [of_eq, nI_lit, nN_eq, nI_add, pk_mul, nI_clamp, nI_inI]
  rw [(hm.2.1 i hi).2.1]
  simp (disch := omega) only [nI_eq]
  refine ⟨by omega, fun e => ?_, fun e => ?_⟩
  · have ee : airEnd b i = fillAir (ensure b (placeOf b i)) i := by rw [airEnd, if_pos e]
    rw [ee] at hq hfit
    have fin : ∀ s', MLawn s' (ensure b (placeOf b i)) → wp_X7_tries_134 v (nI i) x2 s' Q := by
      intro s' hs'
      unfold wp_X7_tries_134
      simp (disch := omega) only [of_eq, nI_lit, nN_eq, nI_add, pk_mul, nI_clamp, nI_inI]
      refine ⟨by omega, by omega, ?_⟩
      rw [hs'.1.2.2.2.2.2.1]
      exact hq _ (M_fill hs' (ensure_P hf.2.1.P _) (by rw [ensure_len]; exact hi))
    refine M_hasMound (v := X7_s0 v s1) hb hpl ?_
    have := M_ensure (v := X7_s0 v s1) (b := b) (t := placeOf b i) ⟨hb, hc, hm⟩ hf.2.1.P hpl (hsp e) hfit.1.1 (Q := fun s' => wp_X7_tries_134 v (nI i) x2 s' Q) fin
    cases em : lMn b (placeOf b i) with
    | true =>
      have e2 : ensure b (placeOf b i) = b := by rw [ensure, if_pos em]
      rw [e2] at fin
      exact ⟨fun q => absurd q (by decide), fun _ => fin _ ⟨hb, hc, hm⟩⟩
    | false =>
      have e2 : ensure b (placeOf b i) = comesUp b (placeOf b i) := by rw [ensure, if_neg (by rw [em]; decide)]
      have hft : fitT (lTu (ensure b (placeOf b i))) := hfit.1.1
      rw [e2] at fin hft
      exact ⟨fun _ => M_comesUp2 (v := X7_s0 v s1) ⟨hb, hc, hm⟩ hf.2.1.P hpl (hsp e em) hft fin, fun q => absurd rfl q⟩
  · have ee : airEnd b i = b := by rw [airEnd, if_neg e]
    rw [ee] at hq
    exact hq _ ⟨hb, hc, hm⟩
/-- what the reference asks of a mole's act -/
def actOk (a : Lw) (i : Nat) : Prop := mPl (mlA (lMo a) i) ≠ [] → ∀ p, stp (placeOf a i) (at0 (mPl (mlA (lMo a) i)) 0) = some p → (lRt a p ≤ nI 0 → ¬ lTp a p = nI 0 → lMn a p = false → mAi (mlA (lMo a) i) = 1 → splitOk p (lTu a)) ∧ (¬ lRt a p ≤ nI 0 → mAi (mlA (lMo a) i) = 1 → lMn a (placeOf a i) = false → splitOk (placeOf a i) (lTu a))
def decM (m : Ml) : Ml := (mPl m, mTr m, mAi m - 1, mSt m)
theorem M_tries {v : V_X7} {a : Lw} (h : MLawn (X7_s v) a) (hf : fitL a) {i p : Nat} (hi : i < (lMo a).length) (hp : p < 64) (hne : mPl (mlA (lMo a) i) ≠ []) (hair : 1 ≤ mAi (mlA (lMo a) i) ∧ (mTr (mlA (lMo a) i)).length + mAi (mlA (lMo a) i) ≤ 21) (hok : (lRt a p ≤ nI 0 → ¬ lTp a p = nI 0 → lMn a p = false → mAi (mlA (lMo a) i) = 1 → splitOk p (lTu a)) ∧ (¬ lRt a p ≤ nI 0 → mAi (mlA (lMo a) i) = 1 → lMn a (placeOf a i) = false → splitOk (placeOf a i) (lTu a))) (hfit : fitL (actTo a i (mPl (mlA (lMo a) i)).tail p).2) {Q : Int32 → (Nat → Int32) → Prop} (hq : ∀ s', MLawn s' (actTo a i (mPl (mlA (lMo a) i)).tail p).2 → Q (bI (!(actTo a i (mPl (mlA (lMo a) i)).tail p).1)) s') : wp_X7_tries v (nI i) (nI p) Q := by
  have hl := hf.2.1.1
  have oM := hf.2.1.2 _ (mlA_mem hi)
  have hpl := place_lt hf.2.1 hi
  have hai := oM.2.2.2
  have pos := List.length_pos_iff.mpr hne
  have hdec : MLawn (upd (X7_s v) (264 + 46 * i + 1) (nI (mAi (mlA (lMo a) i) - 1))) (withMo a ((lMo a).set i (decM (mlA (lMo a) i)))) := M_fill h hf.2.1.P hi
  have hrt := h.1.2.2.2.2.2.2.2.1 p hp
  unfold wp_X7_tries
  simp (disch := omega) only [of_eq, nI_lit, nN_eq, nI_add, pk_mul, nI_clamp, nI_inI]
  rw [(h.2.2.2.1 i hi).2.1, pk_sub (by omega), upd_n (k := 264 + 46 * i + 1) (j := 72 + p) (by omega), hrt]
  have okd : okM (decM (mlA (lMo a) i)) := ⟨oM.1, oM.2.1, oM.2.2.1, by show mAi _ - 1 ≤ 20; omega⟩
  have hfd : fitL (withMo a ((lMo a).set i (decM (mlA (lMo a) i)))) := ⟨hf.1, fitMs_set hf.2.1 okd, hf.2.2⟩
  have hid : i < (lMo (withMo a ((lMo a).set i (decM (mlA (lMo a) i))))).length := by
    show i < ((lMo a).set i _).length
    rw [List.length_set]; exact hi
  have hmd : mlA (lMo (withMo a ((lMo a).set i (decM (mlA (lMo a) i))))) i = decM (mlA (lMo a) i) := by
    show mlA ((lMo a).set i _) i = _
    rw [mlA_set hi, if_pos rfl]
  refine ⟨by omega, by omega, fun er => ?_, fun er => ?_⟩
  · -- it goes
    have ewd : wentD (withMo a ((lMo a).set i (decM (mlA (lMo a) i)))) i p = went a i (mPl (mlA (lMo a) i)).tail p := by
      unfold wentD
      rw [hmd]
      show (lMn a, lOp a, lRt a, upd (lTp a) p nN, lTu a, ((lMo a).set i (decM (mlA (lMo a) i))).set i _, lAi a, lBt a, lCa a, lGn a, lRi a, lFa a) = _
      rw [List.set_set]; rfl
    unfold wp_X7_tries_31
    refine ⟨fun _ => ?_, fun q => absurd rfl q⟩
    refine M_goes (v := X7_s0 v (upd (X7_s v) (264 + 46 * i + 1) (nI (mAi (mlA (lMo a) i) - 1)))) hdec hfd.2.1.P hid hp (by rw [hmd]; exact pos) (by rw [hmd]; show (mTr (mlA (lMo a) i)).length < 21; omega) (fun s' hs' => ?_)
    rw [ewd] at hs'
    have hs' : MLawn s' (if lTp a p = nI 0 then caughtA (went a i (mPl (mlA (lMo a) i)).tail p) i else went a i (mPl (mlA (lMo a) i)).tail p) := hs'
    show (bI (decide (lTp a p = nI 0)) = nI 0 → _) ∧ (¬ bI (decide (lTp a p = nI 0)) = nI 0 → _)
    by_cases et : lTp a p = nI 0
    · have ea : actTo a i (mPl (mlA (lMo a) i)).tail p = (false, caughtA (went a i (mPl (mlA (lMo a) i)).tail p) i) := by
        rw [actTo, if_pos er, if_pos et]
      rw [ea] at hq
      rw [if_pos et] at hs'
      rw [decide_eq_true et]
      exact ⟨fun q => absurd q (by decide), fun _ => hq s' hs'⟩
    · rw [if_neg et] at hs'
      rw [decide_eq_false et]
      refine ⟨fun _ => ?_, fun q => absurd rfl q⟩
      have hiw : i < (lMo (went a i (mPl (mlA (lMo a) i)).tail p)).length := by
        show i < ((lMo a).set i _).length
        rw [List.length_set]; exact hi
      have hmw : mlA (lMo (went a i (mPl (mlA (lMo a) i)).tail p)) i = goM (mlA (lMo a) i) (mPl (mlA (lMo a) i)).tail p := by
        show mlA ((lMo a).set i _) i = _
        rw [mlA_set hi, if_pos rfl]
      have hpw : placeOf (went a i (mPl (mlA (lMo a) i)).tail p) i = p := by
        unfold placeOf
        rw [hmw]; exact lastOf_snoc _ _
      have hgo : okM (goM (mlA (lMo a) i) (mPl (mlA (lMo a) i)).tail p) := by
        refine ⟨⟨?_, ?_, ?_⟩, ?_, fun d hd => oM.2.2.1 d (List.mem_of_mem_tail hd), ?_⟩
        · show (mPl (mlA (lMo a) i)).tail.length ≤ 20
          rw [List.length_tail]
          have := oM.1.1; omega
        · show 1 ≤ (mTr (mlA (lMo a) i) ++ [p]).length; simp
        · show (mTr (mlA (lMo a) i) ++ [p]).length ≤ 21; simp; omega
        · intro x hx
          have hx : x ∈ mTr (mlA (lMo a) i) ++ [p] := hx
          rcases List.mem_append.mp hx with z | z
          · exact oM.2.1 x z
          · have : x = p := by simpa using z
            omega
        · show mAi (mlA (lMo a) i) - 1 ≤ 20; omega
      have hfw : fitL (went a i (mPl (mlA (lMo a) i)).tail p) := ⟨hf.1, fitMs_set hf.2.1 hgo, hf.2.2⟩
      unfold wp_X7_tries_73
      simp (disch := omega) only [of_eq, nI_lit, nN_eq, nI_add, pk_mul, nI_clamp, nI_inI]
      have hpc : s' (264 + 46 * i + 0) = nI p := by
        have := (hs'.2.2.2.1 i hiw).1
        rw [this]
        show nI (placeOf (went a i (mPl (mlA (lMo a) i)).tail p) i) = nI p
        rw [hpw]
      rw [hpc]
      have hmn : lMn (went a i (mPl (mlA (lMo a) i)).tail p) = lMn a := rfl
      refine ⟨by omega, fun _ => M_hasMound (v := X7_s0 v s') hs'.1 hp ?_, fun q => (q (by trivial)).elim⟩
      rw [hmn]
      cases em : lMn a p with
      | true =>
        have ea : actTo a i (mPl (mlA (lMo a) i)).tail p = (true, finish (went a i (mPl (mlA (lMo a) i)).tail p) i) := by
          rw [actTo, if_pos er, if_neg et, if_pos em]
        rw [ea] at hq hfit
        exact ⟨fun q => absurd q (by decide), fun _ => M_finishes (v := X7_s0 v s') hs' hfw hiw hfit.1.1 hq⟩
      | false =>
        have ea : actTo a i (mPl (mlA (lMo a) i)).tail p = (true, airEnd (went a i (mPl (mlA (lMo a) i)).tail p) i) := by
          rw [actTo, if_pos er, if_neg et, if_neg (by rw [em]; decide)]
        rw [ea] at hq hfit
        refine ⟨fun _ => ?_, fun q => absurd rfl q⟩
        have := M_airEnd (v := v) (x1 := nI i) (x2 := nI p) hs' hfw hiw (fun e1 e2 => by
          rw [hmw] at e1
          have e1 : mAi (mlA (lMo a) i) - 1 = 0 := e1
          rw [hpw]
          exact hok.1 er et em (by omega)) hfit hq rfl
        rw [hpw] at this
        exact this
  · have ea : actTo a i (mPl (mlA (lMo a) i)).tail p = (true, airEnd (gnaw a i p) i) := by rw [actTo, if_neg er]
    rw [ea] at hq hfit
    unfold wp_X7_tries_31
    refine ⟨fun q => absurd q (by decide), fun _ => ?_⟩
    simp (disch := omega) only [of_eq, nI_lit, nN_eq, nI_add, pk_mul, nI_clamp, nI_inI]
    generalize hs1 : upd (X7_s v) (264 + 46 * i + 1) (nI (mAi (mlA (lMo a) i) - 1)) = s1
    rw [hs1] at hdec
    have hg : MLawn (upd (upd s1 (72 + p) (s1 (72 + p) - nI 1)) 3 (upd s1 (72 + p) (s1 (72 + p) - nI 1) 3 + nI 1)) (gnaw a i p) := by
      obtain ⟨hb, hc, hm⟩ := hdec
      have hq3 : ∀ q, q ≠ 3 → q ≠ 72 + p → upd (upd s1 (72 + p) (s1 (72 + p) - nI 1)) 3 (upd s1 (72 + p) (s1 (72 + p) - nI 1) 3 + nI 1) q = s1 q := fun q q1 q2 => by rw [upd_n q1, upd_n q2]
      refine ⟨?_, hc.of (hq3 7 (by omega) (by omega)) (fun q hq => hq3 q (by omega) (by omega)), hm.of hfd.2.1.P (hq3 1 (by omega) (by omega)) (fun q q1 q2 => hq3 q (by omega) (by omega))⟩
      obtain ⟨h0, h2, h3, h4, h5, h6, h8, h9, h10, h11⟩ := hb
      have h9 : ∀ t, t < 64 → s1 (72 + t) = lRt a t := h9
      have h3 : s1 3 = lGn a := h3
      refine ⟨?_, ?_, ?_, ?_, ?_, ?_, fun t ht => ?_, fun t ht => ?_, fun t ht => ?_, fun t ht => ?_⟩
      · rw [hq3 0 (by omega) (by omega), h0]; rfl
      · rw [hq3 2 (by omega) (by omega), h2]; rfl
      · rw [upd_s, upd_n (by omega), h3]; rfl
      · rw [hq3 4 (by omega) (by omega), h4]; rfl
      · rw [hq3 5 (by omega) (by omega), h5]; rfl
      · rw [hq3 6 (by omega) (by omega), h6]; rfl
      · rw [hq3 _ (by omega) (by omega), h8 t ht]; rfl
      · show _ = upd (lRt a) p (lRt a p - nI 1) t
        by_cases e : t = p
        · subst e; rw [upd_n (by omega), upd_s, upd_s, h9 t ht]
        · rw [hq3 _ (by omega) (by omega), upd_n e, h9 t ht]
      · rw [hq3 _ (by omega) (by omega), h10 t ht]; rfl
      · rw [hq3 _ (by omega) (by omega), h11 t ht]; rfl
    have hfg : fitL (gnaw a i p) := ⟨hf.1, fitMs_set hf.2.1 okd, hf.2.2⟩
    have hig : i < (lMo (gnaw a i p)).length := hid
    have hmg : mlA (lMo (gnaw a i p)) i = decM (mlA (lMo a) i) := hmd
    have hpg : placeOf (gnaw a i p) i = placeOf a i := by
      unfold placeOf
      rw [hmg]; rfl
    refine ⟨by omega, by omega, ?_⟩
    unfold wp_X7_tries_73
    simp (disch := omega) only [of_eq, nI_lit, nN_eq, nI_add, pk_mul, nI_clamp, nI_inI]
    refine ⟨by omega, fun q => absurd q (by decide), fun _ => ?_⟩
    have := M_airEnd (v := v) (x1 := nI i) (x2 := nI p) hg hfg hig (fun e1 e2 => by
      rw [hmg] at e1
      have e1 : mAi (mlA (lMo a) i) - 1 = 0 := e1
      rw [hpg] at e2 ⊢
      exact hok.2 er (by omega) e2) hfit hq rfl
    have hpc : upd (upd s1 (72 + p) (s1 (72 + p) - nI 1)) 3 (upd s1 (72 + p) (s1 (72 + p) - nI 1) 3 + nI 1) (264 + 46 * i + 0) = nI (placeOf (gnaw a i p) i) := (hg.2.2.2.1 i hig).1
    rw [hpc]
    exact this
