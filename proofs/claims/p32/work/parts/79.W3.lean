/-! What the calls that change something do: the reference. -/
theorem M_range {p : Int32} {lo hi : Nat} (hl : lo < 2 ^ 30) (hh : hi < 2 ^ 30) {Q : Int32 → Prop} (h0 : rg lo hi p = none → Q (nI 0)) (h1 : ∀ j, lo ≤ j → j ≤ hi → p = nI j → rg lo hi p = some j → Q (nI 1)) : wp_X7_in p (nI lo) (nI hi) Q := by
  have h := C_range (p := p) (A := Q (nI 0)) (C := Q (nI 0)) (B := Q (nI 1)) hl hh h0 h0 h1
  unfold wp_X7_in
  refine ⟨h.1, fun e => ⟨fun e2 => (h.2 e).2 (fun q => ?_), fun e2 => (h.2 e).1 ?_⟩⟩
  · rw [Int32.le_iff_toInt_le] at q
    rw [Int32.lt_iff_toInt_lt] at e2
    omega
  · rw [Int32.le_iff_toInt_le]
    rw [Int32.lt_iff_toInt_lt] at e2
    omega
theorem M_isTuft {p : Int32} {Q : Int32 → Prop} (h0 : ix 64 p = none → Q (nI 0)) (h1 : ∀ j, j < 64 → p = nI j → ix 64 p = some j → Q (nI 1)) : wp_X7_isTuft p Q := by
  unfold wp_X7_isTuft
  refine M_range (lo := 0) (hi := 63) (by omega) (by omega) (fun e => ⟨bz_0, h0 ?_⟩) (fun j _ hj hp e => ⟨bz_1, h1 j (by omega) hp (by rw [hp]; exact ix_in (by omega) (by omega))⟩)
  unfold rg at e
  unfold ix
  split at e
  · rename_i q; rw [if_pos q]
  · rename_i q
    rw [if_neg q]
    split at e
    · rename_i q2
      rw [if_pos]
      rw [Int32.lt_iff_toInt_lt, nI_toInt (by omega)] at q2
      rw [Int32.le_iff_toInt_le, nI_toInt (by omega)]
      omega
    · exact absurd e (by simp)
theorem M_ix {p : Int32} {n : Nat} (hn : n < 2 ^ 20) {Q : Int32 → Prop} (h0 : ix n p = none → Q (nI 0)) (h1 : ∀ j, j < n → p = nI j → ix n p = some j → Q (nI 1)) : wp_X7_in p (nI 0) (pI n) Q := by
  unfold wp_X7_in
  by_cases e : p < nI 0
  · refine ⟨fun _ => h0 (by unfold ix; rw [if_pos e]), fun q => absurd e q⟩
  · obtain ⟨j, hj, rfl⟩ := nI_of e
    refine ⟨fun q => absurd q e, fun _ => ?_⟩
    have hpi : pI n < nI j ↔ n ≤ j := by
      unfold pI
      split
      · rw [nN_lt hj]; exact ⟨fun _ => by omega, fun _ => trivial⟩
      · rw [nI_ltI (by omega) hj]; omega
    rw [hpi]
    refine ⟨fun q => h0 ?_, fun q => h1 j (by omega) rfl (ix_in (by omega) (by omega))⟩
    unfold ix
    rw [if_neg e, if_pos (nI_le q hj)]
theorem M_isMole {v : V_X7} {M : List Ml} {pl : Nat → Nat} (h : MMsP (X7_s v) M pl) (h4 : M.length ≤ 4) {p : Int32} {Q : Int32 → Prop} (h0 : ix M.length p = none → Q (nI 0)) (h1 : ∀ j, j < M.length → p = nI j → ix M.length p = some j → Q (nI 1)) : wp_X7_isMole v p Q := by
  unfold wp_X7_isMole
  simp (disch := omega) only [nI_lit, nI_clamp, nI_inI]
  rw [h.1, pI_of]
  exact ⟨by omega, M_ix (by omega) (fun e => ⟨bz_0, h0 e⟩) (fun j hj hp e => ⟨bz_1, h1 j hj hp e⟩)⟩
def tupM (v : V_X7) (s : Nat → Int32) (sa : Nat → Int32) (sc th : Int32) (jo : Nat → Int32) : V_X7 := (s, X7_aside v, X7_kept v, X7_isKept v, sa, sc, X7_text v, X7_length v, th, jo, X7_position v, X7_isWrong v, X7_isHollow v, X7_sure v, X7_away v, X7_digested v)
theorem MW_next {v : V_X7} {w : Wd} (h : MW v w) {s : Nat → Int32} {a : Lw} (hL : MLawn s a) {sa : Nat → Int32} {sc th : Int32} {jo : Nat → Int32} (hh : MHist sa sc (pushH (wHist w) (wCur w))) : MW (tupM v s sa sc th jo) (next w a) := ⟨hL, h.2.1, h.2.2.1, hh, h.2.2.2.2⟩
theorem MW_same {v : V_X7} {w : Wd} (h : MW v w) {th : Int32} : MW (tupM v (X7_s v) (X7_saved v) (X7_savedMany v) th (X7_joint v)) w := h
theorem M_holds0 {v : V_X7} {Q : Int32 → Int32 → Prop} (hq : Q 1 (nI 0)) : wp_X7_holds v (nI 0) Q := ⟨fun _ => hq, fun q => absurd rfl q⟩
theorem M_holdsK {v : V_X7} {k : Nat} (h1 : 0 < k) (h9 : k < 9) {Q : Int32 → Int32 → Prop} (hq : Q 0 (nI k)) : wp_X7_holds v (nI k) Q := ⟨fun e => absurd ((nI_eq (b := 0) (by omega) (by omega)).mp e) (by omega), fun _ => hq⟩
theorem M_mole {v : V_X7} {w : Wd} {n : Nat} (h : MW v w) (g : GoodW n w) {p : Int32} {Q : Int32 → (Nat → Int32) → (Nat → Int32) → Int32 → Int32 → Prop} (hq : ∀ b s sa sc, ((o_mole w p).1 = 0 → b = (o_mole w p).2.1) → MW (tupM v s sa sc (nI (o_mole w p).1) (X7_joint v)) (o_mole w p).2.2 → Q b s sa sc (nI (o_mole w p).1)) : wp_X7_mole v p Q := by
  have hn : n ≤ 512 := by have := g.2.2.2.1; omega
  have hw := h
  obtain ⟨hc, -, -, hh, -⟩ := h
  have hf := g.1.1.fit hn
  have hl4 := g.1.1.1
  unfold wp_X7_mole
  refine M_isTuft (fun e => ?_) (fun t ht hp e => ?_)
  · have eo : o_mole w p = bad 1 w := by unfold o_mole; rw [e]
    rw [eo] at hq
    refine ⟨fun _ => ?_, fun q => absurd rfl q⟩
    unfold wp_X7_mole_39
    exact M_holdsK (k := 1) (by omega) (by omega) ⟨fun _ => hq _ _ _ _ (fun q => absurd (show 1 = 0 from q) (by decide)) (MW_same hw), fun q => absurd rfl q⟩
  · subst hp
    have eo : o_mole w (nI t) = if 4 ≤ (lMo (wCur w)).length ∨ ¬ lRt (wCur w) t ≤ nI 0 then bad 2 w else (0, nI (lMo (wCur w)).length, next w (welcome (wCur w) t)) := by unfold o_mole; rw [e]
    have two : (4 ≤ (lMo (wCur w)).length ∨ ¬ lRt (wCur w) t ≤ nI 0) → wp_X7_mole_34 v (nI t) Q := by
      intro c
      rw [if_pos c] at eo
      rw [eo] at hq
      unfold wp_X7_mole_34 wp_X7_mole_39
      exact M_holdsK (k := 2) (by omega) (by omega) ⟨fun _ => hq _ _ _ _ (fun q => absurd (show 2 = 0 from q) (by decide)) (MW_same hw), fun q => absurd rfl q⟩
    refine ⟨fun q => absurd q (by decide), fun _ => ?_⟩
    simp (disch := omega) only [nI_lit, nI_add, nI_clamp, nI_inI]
    rw [hc.2.2.1, hc.1.2.2.2.2.2.2.2.1 t ht]
    simp (disch := omega) only [nI_eq]
    refine ⟨by omega, fun e4 => two (Or.inl (by omega)), fun e4 => ⟨by omega, fun er => ?_, fun er => two (Or.inr er)⟩⟩
    rw [if_neg (fun q => q.elim (fun z => by omega) (fun z => z er))] at eo
    rw [eo] at hq
    unfold wp_X7_mole_39
    refine M_holds0 ⟨fun q => absurd q (by decide), fun _ => M_save (v := X7_s8 v (nI 0)) (w := w) hc hh g (fun sa sc hsc => ?_)⟩
    have fin : ∀ s1, MLawn s1 (ensure (wCur w) t) → wp_X7_mole_64 v (nI t) s1 sa sc (nI 0) Q := by
      intro s1 h1
      have g1 := ensure_good (t := t) g.1.1
      have hlen := ensure_len (wCur w) t
      have s11 : s1 1 = nI (lMo (wCur w)).length := by rw [h1.2.2.1, hlen]
      unfold wp_X7_mole_64
      simp (disch := omega) only [of_eq, nI_lit, nI_add, pk_mul, nI_clamp, nI_inI, s11]
      refine ⟨by omega, by omega, ?_⟩
      generalize hs2 : upd (upd s1 1 (nI ((lMo (wCur w)).length + 1))) (264 + 46 * (lMo (wCur w)).length + 0) (nI t) = s2
      have f1 : s2 1 = nI ((lMo (wCur w)).length + 1) := by rw [← hs2, upd_n (by omega), upd_s]
      have f2 : s2 (264 + 46 * (lMo (wCur w)).length + 0) = nI t := by rw [← hs2, upd_s]
      have f3 : ∀ q, q ≠ 1 → q ≠ 264 + 46 * (lMo (wCur w)).length + 0 → s2 q = s1 q := fun q q1 q2 => by rw [← hs2, upd_n q2, upd_n q1]
      refine M_beginsTrail2 (i := (lMo (wCur w)).length) (by omega) (fun s3 v23 v24 v1 hs3 => hq _ _ _ _ (fun _ => rfl) (MW_next hw ?_ hsc))
      have v24 : s3 (264 + 46 * (lMo (wCur w)).length + 24) = nI t := by rw [v24]; exact f2
      have v1 : s3 (264 + 46 * (lMo (wCur w)).length + 1) = nI (lAi (wCur w)) := by
        rw [v1]
        show s2 6 = _
        rw [f3 6 (by omega) (by omega), h1.1.2.2.2.2.2.1, ensure_air]
      have hs3 : ∀ q, q ≠ 264 + 46 * (lMo (wCur w)).length + 23 → q ≠ 264 + 46 * (lMo (wCur w)).length + 24 → q ≠ 264 + 46 * (lMo (wCur w)).length + 1 → s3 q = s2 q := hs3
      have low : ∀ q, q ≠ 1 → (q < 264 + 46 * (lMo (wCur w)).length ∨ 264 + 46 * (lMo (wCur w)).length + 25 ≤ q ∨ (264 + 46 * (lMo (wCur w)).length + 1 < q ∧ q < 264 + 46 * (lMo (wCur w)).length + 23)) → s3 q = s1 q := fun q q1 q2 => by rw [hs3 q (by omega) (by omega) (by omega), f3 q q1 (by omega)]
      have hz := h1.2.2.2.2 (lMo (wCur w)).length (by omega) (by omega)
      refine ⟨h1.1.of (fun q q1 q2 q3 => low q q2 (by omega)), h1.2.1.of (low 7 (by omega) (by omega)) (fun q hq => low q (by omega) (by omega)), ?_, fun j hj => ?_, fun j hj hj4 => ?_⟩
      · show s3 1 = nI (lMo (ensure (wCur w) t) ++ [([], [t], lAi (wCur w), 0)]).length
        rw [hs3 1 (by omega) (by omega) (by omega), f1, List.length_append, hlen]; rfl
      · have hj : j < (lMo (ensure (wCur w) t) ++ [([], [t], lAi (wCur w), 0)]).length := hj
        rw [List.length_append, hlen] at hj
        have hj : j < (lMo (wCur w)).length + 1 := hj
        show MMole s3 j (mlA (lMo (ensure (wCur w) t) ++ [([], [t], lAi (wCur w), 0)]) j) (lastOf (mTr (mlA (lMo (ensure (wCur w) t) ++ [([], [t], lAi (wCur w), 0)]) j)))
        by_cases z : j = (lMo (wCur w)).length
        · subst z
          rw [mlA_r (by omega), hlen, Nat.sub_self]
          refine ⟨?_, v1, ?_, seg_nil _ _, v23, seg_cons2 v24, ?_⟩
          · rw [hs3 _ (by omega) (by omega) (by omega), f2]; rfl
          · rw [low _ (by omega) (by omega)]; exact hz.1
          · rw [low _ (by omega) (by omega)]; exact hz.2
        · rw [mlA_l (by omega)]
          exact (h1.2.2.2.1 j (by omega)).of ((g1.fit hn).2.1.P.2 _ (mlA_mem (by omega))) (fun q q1 q2 => low q (by omega) (by omega))
      · have hj : (lMo (ensure (wCur w) t) ++ [([], [t], lAi (wCur w), 0)]).length ≤ j := hj
        rw [List.length_append, hlen] at hj
        have hj : (lMo (wCur w)).length + 1 ≤ j := hj
        have := h1.2.2.2.2 j (by omega) hj4
        rw [low _ (by omega) (by omega), low _ (by omega) (by omega)]
        exact this
    refine M_hasMound (v := tupM v (X7_s v) sa sc (nI 0) (X7_joint v)) hc.1 ht ?_
    cases em : lMn (wCur w) t with
    | true =>
      have e2 : ensure (wCur w) t = wCur w := by rw [ensure, if_pos em]
      rw [e2] at fin
      exact ⟨fun q => absurd q (by decide), fun _ => fin _ hc⟩
    | false =>
      have e2 : ensure (wCur w) t = comesUp (wCur w) t := by rw [ensure, if_neg (by rw [em]; decide)]
      rw [e2] at fin
      have hph := g.1.1.2.2.2.2.2
      exact ⟨fun _ => M_comesUp2 (v := tupM v (X7_s v) sa sc (nI 0) (X7_joint v)) hc hf.2.1.P ht (split_ok em g.1.1.2.2.2.2.1 (by omega)) ((comesUp_good g.1.1 em).T hn).2 fin, fun q => absurd rfl q⟩
theorem M_plan {v : V_X7} {w : Wd} {n : Nat} (h : MW v w) (g : GoodW n w) {p d : Int32} {Q : Int32 → (Nat → Int32) → (Nat → Int32) → Int32 → Int32 → Prop} (hq : ∀ b s sa sc, ((o_plan w p d).1 = 0 → b = (o_plan w p d).2.1) → MW (tupM v s sa sc (nI (o_plan w p d).1) (X7_joint v)) (o_plan w p d).2.2 → Q b s sa sc (nI (o_plan w p d).1)) : wp_X7_plan v p d Q := by
  have hn : n ≤ 512 := by have := g.2.2.2.1; omega
  have hw := h
  obtain ⟨hc, -, -, hh, -⟩ := h
  have hf := g.1.1.fit hn
  have hl4 := g.1.1.1
  have badk : ∀ k, 0 < k → k < 9 → o_plan w p d = bad k w → wp_X7_plan_46 v p d (nI k) Q := by
    intro k k0 k9 eo
    rw [eo] at hq
    unfold wp_X7_plan_46
    exact M_holdsK k0 k9 ⟨fun _ => hq _ _ _ _ (fun q => absurd (show k = 0 from q) (by omega)) (MW_same hw), fun q => absurd rfl q⟩
  unfold wp_X7_plan
  refine M_isMole hc.2.2 hl4 (fun e => ?_) (fun i hi hp e => ?_)
  · exact ⟨fun _ => badk 1 (by omega) (by omega) (by unfold o_plan; rw [e]), fun q => absurd rfl q⟩
  · refine ⟨fun q => absurd q (by decide), fun _ => M_range (lo := 0) (hi := 3) (by omega) (by omega) (fun e2 => ?_) (fun k _ hk hd e2 => ?_)⟩
    · refine ⟨fun _ => badk 2 (by omega) (by omega) ?_, fun q => absurd rfl q⟩
      unfold o_plan; rw [e]; show (match rg 0 3 d with | none => bad 2 w | some k => _) = _; rw [e2]
    · have eo : o_plan w p d = if 20 ≤ (mPl (mlA (lMo (wCur w)) i)).length then bad 3 w else (0, nI ((mPl (mlA (lMo (wCur w)) i)).length + 1), next w (addDir (wCur w) i k)) := by
        unfold o_plan; rw [e]; show (match rg 0 3 d with | none => bad 2 w | some k => _) = _; rw [e2]
      have ok := (g.1.1.2.1 _ (mlA_mem hi)).ok
      have f20 := ok.1.1
      have hmo := hc.2.2.2.1 i hi
      have h2 := hmo.2.2.1
      subst hp
      subst hd
      refine ⟨fun q => absurd q (by decide), fun _ => ?_⟩
      simp (disch := omega) only [of_eq, nI_lit, nI_add, pk_mul, nI_clamp, nI_inI]
      rw [h2]
      simp (disch := omega) only [nI_eq]
      refine ⟨by omega, fun e4 => badk 3 (by omega) (by omega) (by rw [eo, if_pos (by omega)]), fun e4 => ?_⟩
      rw [if_neg (by omega)] at eo
      rw [eo] at hq
      unfold wp_X7_plan_46
      refine M_holds0 ⟨fun q => absurd q (by decide), fun _ => M_save (v := X7_s8 v (nI 0)) (w := w) hc hh g (fun sa sc hsc => ?_)⟩
      unfold wp_X7_putsPlan
      refine M_isMole hc.2.2 hl4 (fun e3 => by rw [e] at e3; exact absurd e3 (by simp)) (fun _ _ _ _ => ⟨fun q => absurd q (by decide), fun _ => ?_⟩)
      simp (disch := omega) only [of_eq, nI_lit, nI_add, pk_mul, nI_clamp, nI_inI]
      rw [show X7_s (X7_s v, X7_aside v, X7_kept v, X7_isKept v, sa, sc, X7_text v, X7_length v, nI 0, X7_joint v, X7_position v, X7_isWrong v, X7_isHollow v, X7_sure v, X7_away v, X7_digested v) = X7_s v from rfl, h2]
      simp (disch := omega) only [nI_leI]
      refine ⟨by omega, fun q => by omega, fun _ => ?_⟩
      unfold wp_X7_putsPlan_28
      refine ⟨fun q => absurd q (by decide), fun _ => ?_⟩
      simp (disch := omega) only [of_eq, nI_lit, nI_add, pk_mul, nI_clamp, nI_inI]
      rw [show X7_s (X7_s v, X7_aside v, X7_kept v, X7_isKept v, sa, sc, X7_text v, X7_length v, nI 0, X7_joint v, X7_position v, X7_isWrong v, X7_isHollow v, X7_sure v, X7_away v, X7_digested v) = X7_s v from rfl, h2]
      simp (disch := omega) only [of_eq, nI_lit, nI_add, pk_mul, nI_clamp, nI_inI]
      rw [upd_s, upd_n (show 264 + 46 * i + 2 ≠ 264 + 46 * i + (3 + (mPl (mlA (lMo (wCur w)) i)).length) by omega), h2, nI_add]
      refine ⟨by omega, by omega, by omega, bz_1, by omega, hq _ _ _ _ (fun _ => rfl) (MW_next hw ?_ hsc)⟩
      refine ⟨hc.1.of (fun q q1 q2 q3 => by rw [upd_n (by omega), upd_n (by omega)]), hc.2.1.of (by rw [upd_n (by omega), upd_n (by omega)]) (fun q hq => by rw [upd_n (by omega), upd_n (by omega)]), MMsP.set (pl := plM (lMo (wCur w))) (m := (mPl (mlA (lMo (wCur w)) i) ++ [k], mTr (mlA (lMo (wCur w)) i), mAi (mlA (lMo (wCur w)) i), mSt (mlA (lMo (wCur w)) i))) hc.2.2 hf.2.1.P hi ?_ (fun j hj => ?_) (by rw [upd_n (by omega), upd_n (by omega)]) (fun q q1 q2 q3 => by rw [upd_n (by omega), upd_n (by omega)])⟩
      · have ep : plM (lMo (addDir (wCur w) i k)) i = plM (lMo (wCur w)) i := by
          show lastOf (mTr (mlA ((lMo (wCur w)).set i _) i)) = _
          rw [mlA_set hi, if_pos rfl]; rfl
        rw [ep]
        obtain ⟨g1, g2, g3, g4, g5, g6, g7⟩ := hmo
        refine ⟨?_, ?_, ?_, ?_, ?_, seg_of g6 (fun j hj => by rw [upd_n (by omega), upd_n (by omega)]), ?_⟩
        · rw [upd_n (by omega), upd_n (by omega), g1]
        · rw [upd_n (by omega), upd_n (by omega), g2]
        · rw [upd_s]
          show _ = nI (mPl (mlA (lMo (wCur w)) i) ++ [k]).length
          rw [List.length_append]; rfl
        · refine seg_out ?_ (Or.inl (by omega))
          exact seg_snoc g4 (by omega)
        · rw [upd_n (by omega), upd_n (by omega), g5]
        · rw [upd_n (by omega), upd_n (by omega), g7]
      · show lastOf (mTr (mlA ((lMo (wCur w)).set i _) j)) = plM (lMo (wCur w)) j
        unfold plM mlA
        rw [List.getElem?_set, if_neg (fun q => hj q.symm)]
theorem M_beats {v : V_X7} {a : Lw} {n k : Nat} (h : MLawn (X7_s v) a) (g : Good n a) (hn : n ≤ 512) (hk : k ≤ 200) {Q : Int32 → (Nat → Int32) → Prop} (hq : ∀ s, MLawn s (beatN k a) → Q (lRi (beatN k a) - lRi a) s) : wp_X7_beats v (nI k) Q := by
  unfold wp_X7_beats
  simp (disch := omega) only [nI_lit, nI_clamp, nI_inI]
  rw [h.1.2.2.2.1]
  refine ⟨by omega, ?_⟩
  unfold wp_X7_beats_9
  refine ⟨fun y z => ∃ j, y = nI j ∧ j ≤ k ∧ MLawn z (beatN j a), fun y _ => 300 - y.toNatClampNeg, ⟨0, rfl, by omega, h⟩, ?_⟩
  rintro _ z ⟨j, rfl, hj, hz⟩
  unfold wb_X7_beats_9
  simp (disch := omega) only [nI_lit, nI_add, nI_clamp, nI_inI, nI_leI]
  refine ⟨fun q => ⟨by omega, ?_⟩, fun q => ?_⟩
  · have ej : j = k := by omega
    subst ej
    rw [hz.1.2.2.2.1]
    exact hq z hz
  · have gj := beatN_good g j
    exact M_beat (v := X7_s0 v z) (Good n) (fun b hb => ⟨hb.1.fit hn, hb.air, fun i hi => act_ok hb hn hi⟩) (fun b i hb hi => act_good hb hi) hz (tick_good gj).2 (fun s' hs' => ⟨⟨j + 1, rfl, by omega, hs'⟩, by omega⟩)
theorem M_rest {v : V_X7} {w : Wd} {n : Nat} (h : MW v w) (g : GoodW n w) {p : Int32} {Q : Int32 → (Nat → Int32) → (Nat → Int32) → Int32 → Int32 → Prop} (hq : ∀ b s sa sc, ((o_rest w p).1 = 0 → b = (o_rest w p).2.1) → MW (tupM v s sa sc (nI (o_rest w p).1) (X7_joint v)) (o_rest w p).2.2 → Q b s sa sc (nI (o_rest w p).1)) : wp_X7_rest v p Q := by
  have hn : n ≤ 512 := by have := g.2.2.2.1; omega
  have hw := h
  obtain ⟨hc, -, -, hh, -⟩ := h
  have hf := g.1.1.fit hn
  have hl4 := g.1.1.1
  unfold wp_X7_rest
  refine M_isMole hc.2.2 hl4 (fun e => ?_) (fun i hi hp e => ?_)
  · have eo : o_rest w p = bad 1 w := by unfold o_rest; rw [e]
    rw [eo] at hq
    refine ⟨fun _ => ?_, fun q => absurd rfl q⟩
    unfold wp_X7_rest_14
    exact M_holdsK (k := 1) (by omega) (by omega) ⟨fun _ => hq _ _ _ _ (fun q => absurd (show 1 = 0 from q) (by decide)) (MW_same hw), fun q => absurd rfl q⟩
  · subst hp
    have eo : o_rest w (nI i) = (0, nI (mPl (mlA (lMo (wCur w)) i)).length, next w (restA (wCur w) i)) := by unfold o_rest; rw [e]
    rw [eo] at hq
    have ok := hf.2.1.P.2 _ (mlA_mem hi)
    have f20 := ok.1
    have hmo := hc.2.2.2.1 i hi
    refine ⟨fun q => absurd q (by decide), fun _ => ?_⟩
    unfold wp_X7_rest_14
    refine M_holds0 ⟨fun q => absurd q (by decide), fun _ => M_save (v := X7_s8 v (nI 0)) (w := w) hc hh g (fun sa sc hsc => ?_)⟩
    simp (disch := omega) only [of_eq, nI_lit, nI_add, pk_mul, nI_clamp, nI_inI]
    rw [hmo.2.2.1]
    refine ⟨by omega, ?_⟩
    unfold wp_X7_rest_39
    refine ⟨fun y z => ∃ j, y = nI j ∧ j ≤ (mPl (mlA (lMo (wCur w)) i)).length ∧ MMole z i ((mPl (mlA (lMo (wCur w)) i)).drop j, mTr (mlA (lMo (wCur w)) i), mAi (mlA (lMo (wCur w)) i), mSt (mlA (lMo (wCur w)) i)) (plM (lMo (wCur w)) i) ∧ ∀ q, q < 264 + 46 * i + 2 ∨ 264 + 46 * i + 23 ≤ q → z q = X7_s v q, fun y _ => 70 - y.toNatClampNeg, ⟨0, rfl, by omega, hmo, fun q _ => rfl⟩, ?_⟩
    rintro _ z ⟨j, rfl, hj, hz, hzq⟩
    unfold wb_X7_rest_39
    simp (disch := omega) only [nI_lit, nI_add, nI_clamp, nI_leI]
    refine ⟨fun q => hq _ _ _ _ (fun _ => rfl) (MW_next (a := restA (wCur w) i) hw ⟨hc.1.of (fun q q1 q2 q3 => hzq q (by omega)), hc.2.1.of (hzq 7 (by omega)) (fun q q1 => hzq q (by omega)), MMsP.set (pl := plM (lMo (wCur w))) (m := ([], mTr (mlA (lMo (wCur w)) i), mAi (mlA (lMo (wCur w)) i), mSt (mlA (lMo (wCur w)) i))) hc.2.2 hf.2.1.P hi ?_ (fun j hj => ?_) (hzq 1 (by omega)) (fun q q1 q2 q3 => hzq q (by omega))⟩ hsc), fun q => ?_⟩
    · have ep : plM (lMo (restA (wCur w) i)) i = plM (lMo (wCur w)) i := by
        show lastOf (mTr (mlA ((lMo (wCur w)).set i _) i)) = _
        rw [mlA_set hi, if_pos rfl]; rfl
      rw [ep]
      rw [List.drop_of_length_le (by omega)] at hz
      exact hz
    · show lastOf (mTr (mlA ((lMo (wCur w)).set i _) j)) = plM (lMo (wCur w)) j
      unfold plM mlA
      rw [List.getElem?_set, if_neg (fun q => hj q.symm)]
    · refine M_takesOff (v := tupM v z sa sc (nI 0) (X7_joint v)) hz ⟨?_, ok.2.1, ok.2.2.1, fun d hd => ok.2.2.2.1 d (List.mem_of_mem_drop hd), ok.2.2.2.2⟩ (by omega) (by show 0 < ((mPl (mlA (lMo (wCur w)) i)).drop j).length; rw [List.length_drop]; omega) (fun s' hs' hf' => ⟨⟨j + 1, rfl, by omega, ?_, fun q q1 => ?_⟩, by omega⟩)
      · show ((mPl (mlA (lMo (wCur w)) i)).drop j).length ≤ 20
        rw [List.length_drop]; omega
      · have : dropD ((mPl (mlA (lMo (wCur w)) i)).drop j, mTr (mlA (lMo (wCur w)) i), mAi (mlA (lMo (wCur w)) i), mSt (mlA (lMo (wCur w)) i)) = ((mPl (mlA (lMo (wCur w)) i)).drop (j + 1), mTr (mlA (lMo (wCur w)) i), mAi (mlA (lMo (wCur w)) i), mSt (mlA (lMo (wCur w)) i)) := by
          show (((mPl (mlA (lMo (wCur w)) i)).drop j).tail, _, _, _) = _
          rw [List.tail_drop]
        rw [this] at hs'
        exact hs'
      · rw [hf' q q1]; exact hzq q q1
theorem M_pass {v : V_X7} {w : Wd} {n : Nat} (h : MW v w) (g : GoodW n w) {p : Int32} {Q : Int32 → (Nat → Int32) → (Nat → Int32) → Int32 → Int32 → Prop} (hq : ∀ b s sa sc, ((o_pass w p).1 = 0 → b = (o_pass w p).2.1) → MW (tupM v s sa sc (nI (o_pass w p).1) (X7_joint v)) (o_pass w p).2.2 → Q b s sa sc (nI (o_pass w p).1)) : wp_X7_pass v p Q := by
  have hn : n ≤ 512 := by have := g.2.2.2.1; omega
  have hw := h
  obtain ⟨hc, -, -, hh, -⟩ := h
  unfold wp_X7_pass
  refine M_range (lo := 1) (hi := 30) (by omega) (by omega) (fun e => ?_) (fun k k1 k30 hp e => ?_)
  · have eo : o_pass w p = bad 1 w := by unfold o_pass; rw [e]
    rw [eo] at hq
    refine ⟨fun _ => ?_, fun q => absurd rfl q⟩
    unfold wp_X7_pass_16
    exact M_holdsK (k := 1) (by omega) (by omega) ⟨fun _ => hq _ _ _ _ (fun q => absurd (show 1 = 0 from q) (by decide)) (MW_same hw), fun q => absurd rfl q⟩
  · subst hp
    have eo : o_pass w (nI k) = (0, lRi (beatN k (wCur w)) - lRi (wCur w), next w (beatN k (wCur w))) := by unfold o_pass; rw [e]
    rw [eo] at hq
    refine ⟨fun q => absurd q (by decide), fun _ => ?_⟩
    unfold wp_X7_pass_16
    refine M_holds0 ⟨fun q => absurd q (by decide), fun _ => M_save (v := X7_s8 v (nI 0)) (w := w) hc hh g (fun sa sc hsc => M_beats (v := tupM v (X7_s v) sa sc (nI 0) (X7_joint v)) hc g.1 hn (by omega) (fun s hs => hq _ _ _ _ (fun _ => rfl) (MW_next hw hs hsc)))⟩
theorem M_lays {v : V_X7} {w : Wd} {n j : Nat} (hcur : MLawn (X7_s v) (wCur w)) (hh : MHist (X7_saved v) (X7_savedMany v) (wHist w)) (g : GoodW n w) (hj : j < 1472) {x : Int32} {Q : Int32 → (Nat → Int32) → (Nat → Int32) → Int32 → Prop} (hq : ∀ sa sc, MHist sa sc (pushH (wHist w) (wCur w)) → Q (X7_s v j) (upd (X7_s v) j x) sa sc) : wp_X7_lays v (nI j) x Q := by
  unfold wp_X7_lays
  refine M_save hcur hh g (fun sa sc hsc => ?_)
  simp (disch := omega) only [nI_clamp, nI_inI]
  exact ⟨hj, hq sa sc hsc⟩
theorem M_root {v : V_X7} {w : Wd} {n : Nat} (h : MW v w) (g : GoodW n w) {p x : Int32} {Q : Int32 → (Nat → Int32) → (Nat → Int32) → Int32 → Int32 → Prop} (hq : ∀ b s sa sc, ((o_root w p x).1 = 0 → b = (o_root w p x).2.1) → MW (tupM v s sa sc (nI (o_root w p x).1) (X7_joint v)) (o_root w p x).2.2 → Q b s sa sc (nI (o_root w p x).1)) : wp_X7_root v p x Q := by
  have hn : n ≤ 512 := by have := g.2.2.2.1; omega
  have hw := h
  obtain ⟨hc, -, -, hh, -⟩ := h
  have hf := g.1.1.fit hn
  have badk : ∀ k, 0 < k → k < 9 → o_root w p x = bad k w → wp_X7_root_27 v p x (nI k) Q := by
    intro k k0 k9 eo
    rw [eo] at hq
    unfold wp_X7_root_27
    exact M_holdsK k0 k9 ⟨fun _ => hq _ _ _ _ (fun q => absurd (show k = 0 from q) (by omega)) (MW_same hw), fun q => absurd rfl q⟩
  unfold wp_X7_root
  refine M_isTuft (fun e => ?_) (fun t ht hp e => ?_)
  · exact ⟨fun _ => badk 1 (by omega) (by omega) (by unfold o_root; rw [e]), fun q => absurd rfl q⟩
  · refine ⟨fun q => absurd q (by decide), fun _ => M_range (lo := 0) (hi := 9) (by omega) (by omega) (fun e2 => ?_) (fun k _ hk hd e2 => ?_)⟩
    · refine ⟨fun _ => badk 2 (by omega) (by omega) ?_, fun q => absurd rfl q⟩
      unfold o_root; rw [e]; show (match rg 0 9 x with | none => bad 2 w | some k => _) = _; rw [e2]
    · have eo : o_root w p x = (0, lRt (wCur w) t, next w (rootA (wCur w) t x)) := by
        unfold o_root; rw [e]; show (match rg 0 9 x with | none => bad 2 w | some k => _) = _; rw [e2]
      rw [eo] at hq
      subst hp
      refine ⟨fun q => absurd q (by decide), fun _ => ?_⟩
      unfold wp_X7_root_27
      refine M_holds0 ⟨fun q => absurd q (by decide), fun _ => ?_⟩
      simp (disch := omega) only [nI_lit, nI_add]
      refine M_lays (v := X7_s8 v (nI 0)) (w := w) hc hh g (by omega) (fun sa sc hsc => ?_)
      have h9 : X7_s v (72 + t) = lRt (wCur w) t := hc.1.2.2.2.2.2.2.2.1 t ht
      have hL : MLawn (upd (X7_s v) (72 + t) x) (rootA (wCur w) t x) := ⟨MB_rt hc.1 ht x, hc.2.1.of (upd_n (by omega)) (fun q hq => upd_n (by omega)), hc.2.2.of hf.2.1.P (upd_n (by omega)) (fun q q1 q2 => upd_n (by omega))⟩
      exact hq _ _ _ _ (fun _ => h9) (MW_next hw hL hsc)
theorem M_traps {v : V_X7} {a : Lw} (h : MB (X7_s v) a) {Q : Int32 → Prop} (hq : Q (nI (trapsOf a))) : wp_X7_traps v Q := by
  have hx := h.2.2.2.2.2.2.2.2.1
  unfold wp_X7_traps wp_X7_traps_4
  refine ⟨fun n y => ∃ k, y = nI k ∧ k ≤ 64 ∧ n = nI (cnt (fun t => !decide (lTp a t = nN)) k), fun n y => 70 - y.toNatClampNeg, ⟨0, rfl, by omega, rfl⟩, ?_⟩
  rintro _ _ ⟨k, rfl, hk, rfl⟩
  unfold wb_X7_traps_4
  simp (disch := omega) only [nI_lit, nN_eq, nI_add, nI_clamp, nI_inI, nI_leI]
  refine ⟨fun q => ?_, fun q => ⟨by omega, ?_⟩⟩
  · have : k = 64 := by omega
    subst this; exact hq
  · rw [hx k (by omega)]
    refine ⟨fun e => ⟨⟨k + 1, rfl, by omega, by rw [cnt_f]; simp [e]⟩, by omega⟩, fun e => ⟨⟨k + 1, rfl, by omega, by rw [cnt_t]; simpa using e⟩, by omega⟩⟩
theorem M_trap {v : V_X7} {w : Wd} {n : Nat} (h : MW v w) (g : GoodW n w) {p x : Int32} {Q : Int32 → (Nat → Int32) → (Nat → Int32) → Int32 → Int32 → Prop} (hq : ∀ b s sa sc, ((o_trap w p x).1 = 0 → b = (o_trap w p x).2.1) → MW (tupM v s sa sc (nI (o_trap w p x).1) (X7_joint v)) (o_trap w p x).2.2 → Q b s sa sc (nI (o_trap w p x).1)) : wp_X7_trap v p x Q := by
  have hn : n ≤ 512 := by have := g.2.2.2.1; omega
  have hw := h
  obtain ⟨hc, -, -, hh, -⟩ := h
  have hf := g.1.1.fit hn
  have badk : ∀ k, 0 < k → k < 9 → o_trap w p x = bad k w → wp_X7_trap_45 v p x (nI k) Q := by
    intro k k0 k9 eo
    rw [eo] at hq
    unfold wp_X7_trap_45
    exact M_holdsK k0 k9 ⟨fun _ => hq _ _ _ _ (fun q => absurd (show k = 0 from q) (by omega)) (MW_same hw), fun q => absurd rfl q⟩
  unfold wp_X7_trap
  refine M_isTuft (fun e => ?_) (fun t ht hp e => ?_)
  · exact ⟨fun _ => badk 1 (by omega) (by omega) (by unfold o_trap; rw [e]), fun q => absurd rfl q⟩
  · refine ⟨fun q => absurd q (by decide), fun _ => M_range (lo := 0) (hi := 20) (by omega) (by omega) (fun e2 => ?_) (fun k _ hk hd e2 => ?_)⟩
    · refine ⟨fun _ => badk 2 (by omega) (by omega) ?_, fun q => absurd rfl q⟩
      unfold o_trap; rw [e]; show (match rg 0 20 x with | none => bad 2 w | some k => _) = _; rw [e2]
    · have eo : o_trap w p x = if lTp (wCur w) t = nN then (0, nI (trapsOf (trapA (wCur w) t x)), next w (trapA (wCur w) t x)) else bad 3 w := by
        unfold o_trap; rw [e]; show (match rg 0 20 x with | none => bad 2 w | some k => _) = _; rw [e2]
      subst hp
      refine ⟨fun q => absurd q (by decide), fun _ => ?_⟩
      simp (disch := omega) only [nI_lit, nN_eq, nI_add, nI_clamp, nI_inI]
      rw [hc.1.2.2.2.2.2.2.2.2.1 t ht]
      refine ⟨by omega, fun et => ?_, fun et => badk 3 (by omega) (by omega) (by rw [eo, if_neg et])⟩
      rw [if_pos et] at eo
      rw [eo] at hq
      unfold wp_X7_trap_45
      refine M_holds0 ⟨fun q => absurd q (by decide), fun _ => ?_⟩
      simp (disch := omega) only [nI_lit, nI_add]
      refine M_lays (v := X7_s8 v (nI 0)) (w := w) hc hh g (by omega) (fun sa sc hsc => ?_)
      have hB : MB (upd (X7_s v) (136 + t) x) (trapA (wCur w) t x) := MB_tp hc.1 ht x
      have hL : MLawn (upd (X7_s v) (136 + t) x) (trapA (wCur w) t x) := ⟨hB, hc.2.1.of (upd_n (by omega)) (fun q hq => upd_n (by omega)), hc.2.2.of hf.2.1.P (upd_n (by omega)) (fun q q1 q2 => upd_n (by omega))⟩
      exact M_traps (v := tupM v (upd (X7_s v) (136 + t) x) sa sc (nI 0) (X7_joint v)) hB (hq _ _ _ _ (fun _ => rfl) (MW_next hw hL hsc))
theorem M_dig {v : V_X7} {w : Wd} {n : Nat} (h : MW v w) (g : GoodW n w) {p : Int32} {Q : Int32 → (Nat → Int32) → (Nat → Int32) → Int32 → Int32 → Prop} (hq : ∀ b s sa sc, ((o_dig w p).1 = 0 → b = (o_dig w p).2.1) → MW (tupM v s sa sc (nI (o_dig w p).1) (X7_joint v)) (o_dig w p).2.2 → Q b s sa sc (nI (o_dig w p).1)) : wp_X7_dig v p Q := by
  have hn : n ≤ 512 := by have := g.2.2.2.1; omega
  have hw := h
  obtain ⟨hc, -, -, hh, -⟩ := h
  have hf := g.1.1.fit hn
  unfold wp_X7_dig
  refine M_isTuft (fun e => ?_) (fun t ht hp e => ?_)
  · have eo : o_dig w p = bad 1 w := by unfold o_dig; rw [e]
    rw [eo] at hq
    refine ⟨fun _ => ?_, fun q => absurd rfl q⟩
    unfold wp_X7_dig_13
    exact M_holdsK (k := 1) (by omega) (by omega) ⟨fun _ => hq _ _ _ _ (fun q => absurd (show 1 = 0 from q) (by decide)) (MW_same hw), fun q => absurd rfl q⟩
  · subst hp
    have eo : o_dig w (nI t) = (0, nI ((lMo (wCur w)).length - ((lMo (wCur w)).filter (notAt t)).length), next w (dug (wCur w) t)) := by unfold o_dig; rw [e]
    rw [eo] at hq
    obtain ⟨d1, d2, d3, d4, d5⟩ := dug_facts (t := t) g.1 hn
    refine ⟨fun q => absurd q (by decide), fun _ => ?_⟩
    unfold wp_X7_dig_13
    refine M_holds0 ⟨fun q => absurd q (by decide), fun _ => M_save (v := X7_s8 v (nI 0)) (w := w) hc hh g (fun sa sc hsc => ?_)⟩
    exact M_dug (v := tupM v (X7_s v) sa sc (nI 0) (X7_joint v)) hc hf ht d1 (g.1.1.T hn).2 d2 d3 d4 d5 (fun s hs => hq _ _ _ _ (fun _ => rfl) (MW_next hw hs hsc))
