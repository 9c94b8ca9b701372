/-! A mole's turn, a beat. -/
def oI : Option Nat → Int32
  | none => nN
  | some x => nI x
def tuftAtF (x y : Int32) : Int32 := if x < 0 then nN else if 8 ≤ x then nN else if y < 0 then nN else if y < 8 then x * 8 + y else nN
theorem C_X6_tuftAt {x y : Int32} {Q : Int32 → Prop} (hq : Q (tuftAtF x y)) : wp_X6_tuftAt x y Q := by
  unfold wp_X6_tuftAt
  unfold tuftAtF at hq
  refine ⟨fun e => ?_, fun e => ⟨fun e2 => ?_, fun e2 => ⟨fun e3 => ?_, fun e3 => ⟨fun e4 => ?_, fun e4 => ?_⟩⟩⟩⟩
  · rw [if_pos e] at hq; exact hq
  · rw [if_neg e, if_pos e2] at hq; exact hq
  · rw [if_neg e, if_neg e2, if_pos e3] at hq; exact hq
  · rw [if_neg e, if_neg e2, if_neg e3, if_pos e4] at hq; exact hq
  · rw [if_neg e, if_neg e2, if_neg e3, if_neg e4] at hq; exact hq
/-- the tuft beside one in a direction -/
def stp (p d : Nat) : Option Nat := if d = 0 then (if p < 8 then none else some (p - 8)) else if d = 1 then (if p % 8 = 7 then none else some (p + 1)) else if d = 2 then (if 56 ≤ p then none else some (p + 8)) else (if p % 8 = 0 then none else some (p - 1))
theorem stp_tab : ∀ p : Fin 64, ∀ d : Fin 4, tuftAtF (nI p.1 / 8 + tab_ROW_STEP d.1) (nI p.1 - nI p.1 / 8 * 8 + tab_COLUMN_STEP d.1) = oI (stp p.1 d.1) := by decide +kernel
theorem stp_lt {p d q : Nat} (hp : p < 64) (h : stp p d = some q) : q < 64 := by
  unfold stp at h
  split at h
  · split at h
    · cases h
    · injection h; omega
  · split at h
    · split at h
      · cases h
      · injection h; omega
    · split at h
      · split at h
        · cases h
        · injection h; omega
      · split at h
        · cases h
        · injection h; omega
theorem C_X6_stepFrom {p d : Nat} (hp : p < 64) (hd : d < 4) {Q : Int32 → Prop} (hq : Q (oI (stp p d))) : wp_X6_stepFrom (nI p) (nI d) Q := by
  have ht := stp_tab ⟨p, hp⟩ ⟨d, hd⟩
  unfold wp_X6_stepFrom
  refine ⟨fun e => absurd e (nI_pos (by omega)), fun _ => ⟨fun _ => ⟨(nI_inI (by omega)).mpr hd, ?_⟩, fun e => absurd ((nI_leI (a := d) (b := 3) (by omega) (by omega)).mpr (by omega)) e⟩⟩
  rw [nI_clamp (by omega)]
  refine C_X6_tuftAt ?_
  rw [ht]; exact hq
def goM (m : Ml) (ds : List Nat) (p : Nat) : Ml := (ds, mTr m ++ [p], mAi m - 1, mSt m + nI 1)
def gnaw (a : Lw) (i p : Nat) : Lw := (lMn a, lOp a, upd (lRt a) p (lRt a p - nI 1), lTp a, lTu a, (lMo a).set i (mPl (mlA (lMo a) i), mTr (mlA (lMo a) i), mAi (mlA (lMo a) i) - 1, mSt (mlA (lMo a) i)), lAi a, lBt a, lCa a, lGn a + nI 1, lRi a, lFa a)
def went (a : Lw) (i : Nat) (ds : List Nat) (p : Nat) : Lw := (lMn a, lOp a, lRt a, upd (lTp a) p nN, lTu a, (lMo a).set i (goM (mlA (lMo a) i) ds p), lAi a, lBt a, lCa a, lGn a, lRi a, lFa a)
def caughtA (a : Lw) (i : Nat) : Lw := (lMn a, lOp a, lRt a, lTp a, lTu a, (lMo a).eraseIdx i, lAi a, lBt a, lCa a + nI 1, lGn a, lRi a, lFa a)
def airEnd (a : Lw) (i : Nat) : Lw := if mAi (mlA (lMo a) i) = 0 then fillAir (ensure a (placeOf a i)) i else a
def actTo (a : Lw) (i : Nat) (ds : List Nat) (p : Nat) : Bool × Lw := if lRt a p ≤ nI 0 then (if lTp a p = nI 0 then (false, caughtA (went a i ds p) i) else if lMn a p then (true, finish (went a i ds p) i) else (true, airEnd (went a i ds p) i)) else (true, airEnd (gnaw a i p) i)
def actBy (a : Lw) (i : Nat) (ds : List Nat) : Option Nat → Bool × Lw
  | none => (true, withMo a ((lMo a).set i (ds, mTr (mlA (lMo a) i), mAi (mlA (lMo a) i), mSt (mlA (lMo a) i))))
  | some p => actTo a i ds p
def act (a : Lw) (i : Nat) : Bool × Lw := if mPl (mlA (lMo a) i) = [] then (true, a) else actBy a i (mPl (mlA (lMo a) i)).tail (stp (placeOf a i) (at0 (mPl (mlA (lMo a) i)) 0))
theorem C_airEnd {v : V_X0} {u : V_X3} {x1 ca gn mc : Int32} {mo : Nat → V_X1} {mr : Nat → Nat} {rt tp : Nat → Int32} {tu : V_X3} {b : Lw} (h : CLawn (X0_mounds v, X0_opened v, rt, tp, tu, mr, mo, mc, X0_fullAir v, X0_beats v, ca, gn, X0_risen v, X0_fallen v) b) (hf : fitL b) {i : Nat} (hi : i < (lMo b).length) (hf2 : fitL (airEnd b i)) {Q : Int32 → (Nat → Int32) → (Nat → Int32) → Int32 → Int32 → Int32 → Int32 → Int32 → (Nat → V_X1) → (Nat → Nat) → (Nat → Int32) → Int32 → (Nat → Int32) → (Nat → Int32) → V_X3 → Prop} (hq : ∀ uc ue us uu mo mn ri tu, CLawn (mn, X0_opened v, rt, tp, tu, mr, mo, mc, X0_fullAir v, X0_beats v, ca, gn, ri, X0_fallen v) (airEnd b i) → Q (nI 1) uc ue us uu ca gn mc mo mr mn ri rt tp tu) : wp_X0_staysAfterTurn_135 v u x1 (mr i) ca gn mc mo mr rt tp tu Q := by
  have hh := h
  obtain ⟨k1, k2, k3, k4, k5, k6, k7, k8, k9, k10, k11, k12⟩ := h
  have hl := hf.2.1.1
  have o := hf.2.1.2 _ (mlA_mem hi)
  have hs := k6.self hi
  have ha : X1_air (mo (mr i)) = nI (mAi (mlA (lMo b) i)) := hs.2.2.2.2.1
  have hai := o.2.2.2
  unfold wp_X0_staysAfterTurn_135
  rw [ha]
  simp (disch := omega) only [nI_lit, nN_eq, nI_add, pk_mul, pk_sub, nI_clamp, nI_leI, nI_ltI, nI_eq, nN_ne, nN_ne', nN_lt, nN_le, nN_nlt, nN_nle, nN_add, nN_in, nI_inI, nI_lt0, nN_clamp, bI_0, bI_1, true_implies, false_implies, not_true_eq_false, not_false_eq_true, true_and, and_true]
  refine ⟨k6.2.1 i (by omega), fun e => ?_, fun e => ?_⟩
  · have ee : airEnd b i = b := by rw [airEnd, if_neg (by omega)]
    exact hq _ _ _ _ _ _ _ _ (by rw [ee]; exact hh)
  · have ee : airEnd b i = fillAir (ensure b (placeOf b i)) i := by rw [airEnd, if_pos (by omega)]
    rw [ee] at hf2
    refine C_X1_place hs o.1 (C_X0_ensureMound hh hf (place_lt hf.2.1 hi) (t := placeOf b i) ?_ ?_)
    · intro z
      have : ensure b (placeOf b i) = comesUp b (placeOf b i) := by
        rw [ensure, if_neg (by rw [z]; decide)]
      rw [this] at hf2
      exact hf2.1.1
    · intro uc ue us uu mo2 mn ri tu hL2 _
      refine hq _ _ _ _ _ _ _ _ ?_
      rw [ee]
      obtain ⟨q1, q2, q3, q4, q5, q6, q7, q8, q9, q10, q11, q12⟩ := hL2
      have hlen2 : (lMo (ensure b (placeOf b i))).length = (lMo b).length := ensure_len _ _
      obtain ⟨g1, g2, g3, g4, g5, g6⟩ := q6.self (i := i) (by omega)
      exact ⟨q1, q2, q3, q4, q5, q6.set (by omega) (i := i) (by omega) ⟨g1, g2, g3, g4, q7, g6⟩, q7, q8, q9, q10, q11, q12⟩
theorem fitMs_set {M : List Ml} (h : fitMs M) {i : Nat} {m : Ml} (hm : okM m) : fitMs (M.set i m) := ⟨by rw [List.length_set]; exact h.1, fun x hx => (List.mem_or_eq_of_mem_set hx).elim (h.2 x) (fun e => e ▸ hm)⟩
theorem C_X0_staysAfterTurn {v : V_X0} {u : V_X3} {a : Lw} (h : CLawn v a) (hf : fitL a) {i : Nat} (hi : i < (lMo a).length) (hair : mPl (mlA (lMo a) i) ≠ [] → 1 ≤ mAi (mlA (lMo a) i) ∧ (mTr (mlA (lMo a) i)).length + mAi (mlA (lMo a) i) ≤ 21) (hres : fitL (act a i).2) {Q : Int32 → (Nat → Int32) → (Nat → Int32) → Int32 → Int32 → Int32 → Int32 → Int32 → (Nat → V_X1) → (Nat → Nat) → (Nat → Int32) → Int32 → (Nat → Int32) → (Nat → Int32) → V_X3 → Prop} (hq : ∀ uc ue us uu ca gn mc mo mr mn ri rt tp tu, CLawn (mn, X0_opened v, rt, tp, tu, mr, mo, mc, X0_fullAir v, X0_beats v, ca, gn, ri, X0_fallen v) (act a i).2 → Q (bI (act a i).1) uc ue us uu ca gn mc mo mr mn ri rt tp tu) : wp_X0_staysAfterTurn v u (nI i) Q := by
  have hh := h
  obtain ⟨h1, h2, h3, h4, h5, h6, h7, h8, h9, h10, h11, h12⟩ := h
  have hl := hf.2.1.1
  have o := hf.2.1.2 _ (mlA_mem hi)
  have hs := h6.self hi
  have hs0 := hs
  obtain ⟨g1, g2, g3, g4, g5, g6⟩ := hs
  obtain ⟨o1, o2, o3, o4⟩ := o
  have hpl : placeOf a i < 64 := place_lt hf.2.1 hi
  have f20 := o1.1
  unfold wp_X0_staysAfterTurn
  simp (disch := omega) only [nI_lit, nN_eq, nI_add, pk_mul, pk_sub, nI_clamp, nI_leI, nI_ltI, nI_eq, nN_ne, nN_ne', nN_lt, nN_le, nN_nlt, nN_nle, nN_add, nN_in, nI_inI, nI_lt0, nN_clamp, bI_0, bI_1, true_implies, false_implies, not_true_eq_false, not_false_eq_true, true_and, and_true]
  refine ⟨by omega, h6.2.1 i (by omega), ?_⟩
  rw [g3]
  simp (disch := omega) only [nI_lit, nN_eq, nI_add, pk_mul, pk_sub, nI_clamp, nI_leI, nI_ltI, nI_eq, nN_ne, nN_ne', nN_lt, nN_le, nN_nlt, nN_nle, nN_add, nN_in, nI_inI, nI_lt0, nN_clamp, bI_0, bI_1, true_implies, false_implies, not_true_eq_false, not_false_eq_true, true_and, and_true]
  refine ⟨fun e => ?_, fun e => ?_⟩
  · have ee : act a i = (true, a) := by rw [act, if_pos (List.eq_nil_of_length_eq_zero e)]
    rw [ee] at hq
    exact hq _ _ _ _ _ _ _ _ _ _ _ _ _ _ hh
  · have hne : mPl (mlA (lMo a) i) ≠ [] := fun z => e (by rw [z]; rfl)
    have ee : act a i = actBy a i (mPl (mlA (lMo a) i)).tail (stp (placeOf a i) (at0 (mPl (mlA (lMo a) i)) 0)) := by rw [act, if_neg hne]
    obtain ⟨ha1, ha2⟩ := hair hne
    have hd := o3 _ (at0_mem (L := mPl (mlA (lMo a) i)) (k := 0) (by omega))
    rw [ee] at hq hres
    refine C_X1_place hs0 o1 ⟨by omega, ?_⟩
    rw [seg0 g1 (by omega)]
    refine C_X6_stepFrom hpl hd ?_
    have tl : ∀ x ∈ (mPl (mlA (lMo a) i)).tail, x < 4 := fun x hx => o3 x (List.mem_of_mem_tail hx)
    have tlen : (mPl (mlA (lMo a) i)).tail.length = (mPl (mlA (lMo a) i)).length - 1 := List.length_tail
    cases hst2 : stp (placeOf a i) (at0 (mPl (mlA (lMo a) i)) 0) with
    | none =>
      rw [hst2] at hq
      refine ⟨fun _ => C_X1_dropDirection hs0 o1.1 (fun d hd => ?_), fun q => (q rfl).elim⟩
      refine hq _ _ _ _ _ _ _ _ _ _ _ _ _ _ ⟨h1, h2, h3, h4, h5, h6.set hl hi ⟨hd, g2, ?_, g4, g5, g6⟩, h7, h8, h9, h10, h11, h12⟩
      show nI ((mPl (mlA (lMo a) i)).length - 1) = nI (mPl (mlA (lMo a) i)).tail.length
      rw [tlen]
    | some p =>
      have hp := stp_lt hpl hst2
      rw [hst2] at hq hres
      have hq : ∀ uc ue us uu ca gn mc mo mr mn ri rt tp tu, CLawn (mn, X0_opened v, rt, tp, tu, mr, mo, mc, X0_fullAir v, X0_beats v, ca, gn, ri, X0_fallen v) (actTo a i (mPl (mlA (lMo a) i)).tail p).2 → Q (bI (actTo a i (mPl (mlA (lMo a) i)).tail p).1) uc ue us uu ca gn mc mo mr mn ri rt tp tu := hq
      have hres : fitL (actTo a i (mPl (mlA (lMo a) i)).tail p).2 := hres
      rw [show oI (some p) = nI p from rfl]
      refine ⟨fun q => ((nN_ne (by omega)).mp q).elim, fun _ => ?_⟩
      have hair2 : X1_air (X0_moles v (X0_molesR v i)) - nI 1 = nI (mAi (mlA (lMo a) i) - 1) := by
        rw [g5, pk_sub (by omega)]
      simp (disch := omega) only [nI_lit, nN_eq, nI_add, pk_mul, pk_sub, nI_clamp, nI_leI, nI_ltI, nI_eq, nN_ne, nN_ne', nN_lt, nN_le, nN_nlt, nN_nle, nN_add, nN_in, nI_inI, nI_lt0, nN_clamp, bI_0, bI_1, true_implies, false_implies, not_true_eq_false, not_false_eq_true, true_and, and_true]
      refine ⟨hp, ?_⟩
      rw [h3 p hp, hair2]
      refine ⟨fun er => ?_, fun er => ?_⟩
      · have hgo : okM (goM (mlA (lMo a) i) (mPl (mlA (lMo a) i)).tail p) := by
          refine ⟨⟨?_, ?_, ?_⟩, ?_, tl, ?_⟩
          · show (mPl (mlA (lMo a) i)).tail.length ≤ 20; omega
          · show 1 ≤ (mTr (mlA (lMo a) i) ++ [p]).length; simp
          · show (mTr (mlA (lMo a) i) ++ [p]).length ≤ 21; simp; omega
          · intro x hx
            have hx : x ∈ mTr (mlA (lMo a) i) ++ [p] := hx
            rcases List.mem_append.mp hx with z | z
            · exact o2 x z
            · have : x = p := by simpa using z
              omega
          · show mAi (mlA (lMo a) i) - 1 ≤ 20; omega
        have hfw : fitL (went a i (mPl (mlA (lMo a) i)).tail p) := ⟨hf.1, fitMs_set hf.2.1 hgo, hf.2.2⟩
        have hiw : i < (lMo (went a i (mPl (mlA (lMo a) i)).tail p)).length := by
          show i < ((lMo a).set i _).length
          rw [List.length_set]; exact hi
        refine C_X1_dropDirection (v := X1_s4 (X0_moles v (X0_molesR v i)) (nI (mAi (mlA (lMo a) i) - 1))) (m := (mPl (mlA (lMo a) i), mTr (mlA (lMo a) i), mAi (mlA (lMo a) i) - 1, mSt (mlA (lMo a) i))) ⟨g1, g2, g3, g4, rfl, g6⟩ o1.1 (fun dd hdd => ?_)
        have hgo2 : CMole (dd, X1_trail (X0_moles v (X0_molesR v i)), nI ((mPl (mlA (lMo a) i)).length - 1), X1_trailLength (X0_moles v (X0_molesR v i)), nI (mAi (mlA (lMo a) i) - 1), X1_steps (X0_moles v (X0_molesR v i)), X1_lost (X0_moles v (X0_molesR v i))) ((mPl (mlA (lMo a) i)).tail, mTr (mlA (lMo a) i), mAi (mlA (lMo a) i) - 1, mSt (mlA (lMo a) i)) := ⟨hdd, g2, by show nI ((mPl (mlA (lMo a) i)).length - 1) = nI (mPl (mlA (lMo a) i)).tail.length; rw [tlen], g4, rfl, g6⟩
        refine C_X1_go (m := ((mPl (mlA (lMo a) i)).tail, mTr (mlA (lMo a) i), mAi (mlA (lMo a) i) - 1, mSt (mlA (lMo a) i))) hgo2 (by show (mTr (mlA (lMo a) i)).length < 21; omega) (fun tr htr => ?_)
        have hnew : CMole (dd, tr, nI ((mPl (mlA (lMo a) i)).length - 1), nI ((mTr (mlA (lMo a) i)).length + 1), nI (mAi (mlA (lMo a) i) - 1), mSt (mlA (lMo a) i) + nI 1, X1_lost (X0_moles v (X0_molesR v i))) (goM (mlA (lMo a) i) (mPl (mlA (lMo a) i)).tail p) := by
          refine ⟨hdd, htr, ?_, ?_, rfl, rfl⟩
          · show nI ((mPl (mlA (lMo a) i)).length - 1) = nI (mPl (mlA (lMo a) i)).tail.length
            rw [tlen]
          · show nI ((mTr (mlA (lMo a) i)).length + 1) = nI (mTr (mlA (lMo a) i) ++ [p]).length
            simp
        have hset := h6.set hl hi hnew
        have hLw : CLawn (X0_mounds v, X0_opened v, X0_roots v, upd (X0_traps v) p nN, X0_tunnels v, X0_molesR v, va_up (X0_moles v) (X0_molesR v i) (dd, tr, nI ((mPl (mlA (lMo a) i)).length - 1), nI ((mTr (mlA (lMo a) i)).length + 1), nI (mAi (mlA (lMo a) i) - 1), mSt (mlA (lMo a) i) + nI 1, X1_lost (X0_moles v (X0_molesR v i))), X0_moleCount v, X0_fullAir v, X0_beats v, X0_caught v, X0_gnawed v, X0_risen v, X0_fallen v) (went a i (mPl (mlA (lMo a) i)).tail p) := ⟨h1, h2, h3, upE h4 p nN, h5, hset, h7, h8, h9, h10, h11, h12⟩
        rw [h4 p hp]
        refine ⟨fun et => ?_, fun et => ?_⟩
        · have ea : actTo a i (mPl (mlA (lMo a) i)).tail p = (false, caughtA (went a i (mPl (mlA (lMo a) i)).tail p) i) := by
            rw [actTo, if_pos er, if_pos et]
          rw [ea] at hq
          refine C_X0_catchMole (a := went a i (mPl (mlA (lMo a) i)).tail p) hset (by show ((lMo a).set i _).length ≤ 4; rw [List.length_set]; exact hl) hiw (fun mc r hc => ?_)
          refine hq _ _ _ _ _ _ _ _ _ _ _ _ _ _ ⟨h1, h2, h3, upE h4 p nN, h5, hc, h7, h8, ?_, h10, h11, h12⟩
          show X0_caught v + nI 1 = lCa a + nI 1
          rw [h9]
        · rw [h1 p hp]
          simp only [bI_0]
          refine ⟨fun em => ?_, fun em => ?_⟩
          · have ea : actTo a i (mPl (mlA (lMo a) i)).tail p = (true, airEnd (went a i (mPl (mlA (lMo a) i)).tail p) i) := by
              rw [actTo, if_pos er, if_neg et, if_neg (by rw [em]; decide)]
            rw [ea] at hq hres
            exact C_airEnd hLw hfw hiw hres (fun uc ue us uu mo mn ri tu hL => hq _ _ _ _ _ _ _ _ _ _ _ _ _ _ hL)
          · have em : lMn a p = true := by simpa using em
            have ea : actTo a i (mPl (mlA (lMo a) i)).tail p = (true, finish (went a i (mPl (mlA (lMo a) i)).tail p) i) := by
              rw [actTo, if_pos er, if_neg et, if_pos em]
            rw [ea] at hq hres
            exact C_X0_finishTrail hLw hfw hiw hres.1.1 (fun mo tu hL => hq _ _ _ _ _ _ _ _ _ _ _ _ _ _ hL)
      · have ea : actTo a i (mPl (mlA (lMo a) i)).tail p = (true, airEnd (gnaw a i p) i) := by
          rw [actTo, if_neg er]
        rw [ea] at hq hres
        have hok : okM (mPl (mlA (lMo a) i), mTr (mlA (lMo a) i), mAi (mlA (lMo a) i) - 1, mSt (mlA (lMo a) i)) := ⟨o1, o2, o3, by show mAi (mlA (lMo a) i) - 1 ≤ 20; omega⟩
        have hfg : fitL (gnaw a i p) := ⟨hf.1, fitMs_set hf.2.1 hok, hf.2.2⟩
        have hig : i < (lMo (gnaw a i p)).length := by
          show i < ((lMo a).set i _).length
          rw [List.length_set]; exact hi
        have hg : CMole (X1_s4 (X0_moles v (X0_molesR v i)) (nI (mAi (mlA (lMo a) i) - 1))) (mPl (mlA (lMo a) i), mTr (mlA (lMo a) i), mAi (mlA (lMo a) i) - 1, mSt (mlA (lMo a) i)) := ⟨g1, g2, g3, g4, rfl, g6⟩
        have hLg : CLawn (X0_mounds v, X0_opened v, upd (X0_roots v) p (lRt a p - nI 1), X0_traps v, X0_tunnels v, X0_molesR v, va_up (X0_moles v) (X0_molesR v i) (X1_s4 (X0_moles v (X0_molesR v i)) (nI (mAi (mlA (lMo a) i) - 1))), X0_moleCount v, X0_fullAir v, X0_beats v, X0_caught v, X0_gnawed v + nI 1, X0_risen v, X0_fallen v) (gnaw a i p) := ⟨h1, h2, upE h3 p _, h4, h5, h6.set hl hi hg, h7, h8, h9, by show X0_gnawed v + nI 1 = lGn a + nI 1; rw [h10], h11, h12⟩
        exact C_airEnd hLg hfg hig hres (fun uc ue us uu mo mn ri tu hL => hq _ _ _ _ _ _ _ _ _ _ _ _ _ _ hL)
