def rsF (x : Int32) : Int32 := if x = nI 0 then nN else if x = nI 2 then nI 1 else nI 0
def csF (x : Int32) : Int32 := if x = nI 3 then nN else if x = nI 1 then nI 1 else nI 0
theorem M_rowStep {x : Int32} {Q : Int32 → Prop} (hq : Q (rsF x)) : wp_X7_rowStep x Q := by
  unfold wp_X7_rowStep
  unfold rsF at hq
  simp only [nI_lit, nN_eq]
  refine ⟨fun e => ?_, fun e => ⟨fun e2 => ?_, fun e2 => ?_⟩⟩
  · rw [if_pos e] at hq; exact hq
  · rw [if_neg e, if_pos e2] at hq; exact hq
  · rw [if_neg e, if_neg e2] at hq; exact hq
theorem M_columnStep {x : Int32} {Q : Int32 → Prop} (hq : Q (csF x)) : wp_X7_columnStep x Q := by
  unfold wp_X7_columnStep
  unfold csF at hq
  simp only [nI_lit, nN_eq]
  refine ⟨fun e => ?_, fun e => ⟨fun e2 => ?_, fun e2 => ?_⟩⟩
  · rw [if_pos e] at hq; exact hq
  · rw [if_neg e, if_pos e2] at hq; exact hq
  · rw [if_neg e, if_neg e2] at hq; exact hq
def inF (x lo hi : Int32) : Int32 := if x < lo then nI 0 else if hi < x then nI 0 else nI 1
theorem stp_tabM : ∀ p : Fin 64, ∀ d : Fin 4, (stp p.1 d.1 = none ∧ (inF (nI p.1 / nI 8 + rsF (nI d.1)) (nI 0) (nI 7) = nI 0 ∨ inF (nI p.1 - nI p.1 / nI 8 * nI 8 + csF (nI d.1)) (nI 0) (nI 7) = nI 0)) ∨ (inF (nI p.1 / nI 8 + rsF (nI d.1)) (nI 0) (nI 7) = nI 1 ∧ inF (nI p.1 - nI p.1 / nI 8 * nI 8 + csF (nI d.1)) (nI 0) (nI 7) = nI 1 ∧ (stp p.1 d.1).isSome ∧ nI 8 * (nI p.1 / nI 8 + rsF (nI d.1)) + (nI p.1 - nI p.1 / nI 8 * nI 8 + csF (nI d.1)) = oI (stp p.1 d.1)) := by decide +kernel
theorem M_acts {v : V_X7} {a : Lw} (h : MLawn (X7_s v) a) (hf : fitL a) {i : Nat} (hi : i < (lMo a).length) (hair : mPl (mlA (lMo a) i) ≠ [] → 1 ≤ mAi (mlA (lMo a) i) ∧ (mTr (mlA (lMo a) i)).length + mAi (mlA (lMo a) i) ≤ 21) (hok : actOk a i) (hres : fitL (act a i).2) {Q : Int32 → (Nat → Int32) → Prop} (hq : ∀ s', MLawn s' (act a i).2 → Q (bI (!(act a i).1)) s') : wp_X7_acts v (nI i) Q := by
  have hl := hf.2.1.1
  have oM := hf.2.1.2 _ (mlA_mem hi)
  have hpl := place_lt hf.2.1 hi
  have f20 := oM.1.1
  have hmo := h.2.2.2.1 i hi
  have hpc : X7_s v (264 + 46 * i + 0) = nI (placeOf a i) := hmo.1
  unfold wp_X7_acts
  simp (disch := omega) only [of_eq, nI_lit, nN_eq, nI_add, pk_mul, nI_clamp, nI_inI]
  rw [hmo.2.2.1]
  simp (disch := omega) only [nI_eq]
  refine ⟨by omega, fun e => ?_, fun e => ?_⟩
  · have ee : act a i = (true, a) := by rw [act, if_pos (List.eq_nil_of_length_eq_zero e)]
    rw [ee] at hq
    exact hq _ h
  · have hne : mPl (mlA (lMo a) i) ≠ [] := fun z => e (by rw [z]; rfl)
    have ee : act a i = actBy a i (mPl (mlA (lMo a) i)).tail (stp (placeOf a i) (at0 (mPl (mlA (lMo a) i)) 0)) := by rw [act, if_neg hne]
    have hd := oM.2.2.1 _ (at0_mem (L := mPl (mlA (lMo a) i)) (k := 0) (by omega))
    have hpd : X7_s v (264 + 46 * i + 3) = nI (at0 (mPl (mlA (lMo a) i)) 0) := hmo.2.2.2.1 0 (by omega)
    rw [hpd, hpc]
    rw [ee] at hq hres
    have tab := stp_tabM ⟨placeOf a i, hpl⟩ ⟨at0 (mPl (mlA (lMo a) i)) 0, hd⟩
    rcases tab with ⟨z, hin⟩ | ⟨h1, h2, h3, h4⟩
    · have z : stp (placeOf a i) (at0 (mPl (mlA (lMo a) i)) 0) = none := z
      have hoff : wp_X7_acts_86 v (nI i) Q := by
        rw [z] at hq
        unfold wp_X7_acts_86
        refine M_takesOff hmo oM.P (by omega) (by omega) (fun s' hs' hf' => hq s' ⟨h.1.of (fun q q1 q2 q3 => hf' q (by omega)), h.2.1.of (hf' 7 (by omega)) (fun q q1 => hf' q (by omega)), MMsP.set (pl := plM (lMo a)) (m := dropD (mlA (lMo a) i)) h.2.2 hf.2.1.P hi ?_ (fun j hj => ?_) (hf' 1 (by omega)) (fun q q1 q2 q3 => hf' q (by omega))⟩)
        · have ep : plM (lMo (withMo a ((lMo a).set i (dropD (mlA (lMo a) i))))) i = plM (lMo a) i := by
            show lastOf (mTr (mlA ((lMo a).set i _) i)) = _
            rw [mlA_set hi, if_pos rfl]; rfl
          exact ep ▸ hs'
        · show lastOf (mTr (mlA ((lMo a).set i _) j)) = plM (lMo a) j
          unfold plM mlA
          rw [List.getElem?_set, if_neg (fun q => hj q.symm)]
      refine ⟨by omega, by omega, M_rowStep ⟨by omega, M_columnStep (M_in ?_)⟩⟩
      show (inF (nI (placeOf a i) / nI 8 + rsF (nI (at0 (mPl (mlA (lMo a) i)) 0))) (nI 0) (nI 7) = nI 0 → _) ∧ (¬ inF (nI (placeOf a i) / nI 8 + rsF (nI (at0 (mPl (mlA (lMo a) i)) 0))) (nI 0) (nI 7) = nI 0 → _)
      refine ⟨fun _ => hoff, fun q => M_in ?_⟩
      show (inF (nI (placeOf a i) - nI (placeOf a i) / nI 8 * nI 8 + csF (nI (at0 (mPl (mlA (lMo a) i)) 0))) (nI 0) (nI 7) = nI 0 → _) ∧ (¬ inF (nI (placeOf a i) - nI (placeOf a i) / nI 8 * nI 8 + csF (nI (at0 (mPl (mlA (lMo a) i)) 0))) (nI 0) (nI 7) = nI 0 → _)
      exact ⟨fun _ => hoff, fun q2 => hin.elim (fun e => absurd e q) (fun e => absurd e q2)⟩
    · have h1 : inF (nI (placeOf a i) / nI 8 + rsF (nI (at0 (mPl (mlA (lMo a) i)) 0))) (nI 0) (nI 7) = nI 1 := h1
      have h2 : inF (nI (placeOf a i) - nI (placeOf a i) / nI 8 * nI 8 + csF (nI (at0 (mPl (mlA (lMo a) i)) 0))) (nI 0) (nI 7) = nI 1 := h2
      obtain ⟨p, hp⟩ := Option.isSome_iff_exists.mp h3
      have hp : stp (placeOf a i) (at0 (mPl (mlA (lMo a) i)) 0) = some p := hp
      have h4 : nI 8 * (nI (placeOf a i) / nI 8 + rsF (nI (at0 (mPl (mlA (lMo a) i)) 0))) + (nI (placeOf a i) - nI (placeOf a i) / nI 8 * nI 8 + csF (nI (at0 (mPl (mlA (lMo a) i)) 0))) = oI (stp (placeOf a i) (at0 (mPl (mlA (lMo a) i)) 0)) := h4
      rw [hp] at h4 hq hres
      have hp64 := stp_lt hpl hp
      refine ⟨by omega, by omega, M_rowStep ⟨by omega, M_columnStep (M_in ?_)⟩⟩
      show (inF (nI (placeOf a i) / nI 8 + rsF (nI (at0 (mPl (mlA (lMo a) i)) 0))) (nI 0) (nI 7) = nI 0 → _) ∧ (¬ inF (nI (placeOf a i) / nI 8 + rsF (nI (at0 (mPl (mlA (lMo a) i)) 0))) (nI 0) (nI 7) = nI 0 → _)
      rw [h1]
      refine ⟨fun q => absurd q (by decide), fun _ => M_in ?_⟩
      show (inF (nI (placeOf a i) - nI (placeOf a i) / nI 8 * nI 8 + csF (nI (at0 (mPl (mlA (lMo a) i)) 0))) (nI 0) (nI 7) = nI 0 → _) ∧ (¬ inF (nI (placeOf a i) - nI (placeOf a i) / nI 8 * nI 8 + csF (nI (at0 (mPl (mlA (lMo a) i)) 0))) (nI 0) (nI 7) = nI 0 → _)
      rw [h2]
      refine ⟨fun q => absurd q (by decide), fun _ => ?_⟩
      rw [h4]
      exact M_tries h hf hi hp64 hne (hair hne) (hok hne p hp) hres (fun s' hs' => ⟨bI_bz _, hq s' hs'⟩)
def setBt (x : Int32) (a : Lw) : Lw := (lMn a, lOp a, lRt a, lTp a, lTu a, lMo a, lAi a, x, lCa a, lGn a, lRi a, lFa a)
def tick0 (a : Lw) : Lw := (lMn a, lOp a, lRt a, decT (lTp a), lTu a, lMo a, lAi a, lBt a, lCa a, lGn a, lRi a, lFa a)
theorem tick_eq (a : Lw) : tick a = setBt (lBt a + nI 1) (tick0 a) := rfl
theorem ensure_bt (x : Int32) (a : Lw) (t : Nat) : ensure (setBt x a) t = setBt x (ensure a t) := by
  unfold ensure
  show (if lMn a t = true then setBt x a else comesUp (setBt x a) t) = _
  split <;> rfl
theorem airEnd_bt (x : Int32) (a : Lw) (i : Nat) : airEnd (setBt x a) i = setBt x (airEnd a i) := by
  unfold airEnd
  show (if mAi (mlA (lMo a) i) = 0 then fillAir (ensure (setBt x a) (placeOf a i)) i else setBt x a) = _
  rw [ensure_bt]
  split <;> rfl
theorem act_bt (x : Int32) (a : Lw) (i : Nat) : act (setBt x a) i = ((act a i).1, setBt x (act a i).2) := by
  unfold act
  show (if mPl (mlA (lMo a) i) = [] then (true, setBt x a) else actBy (setBt x a) i (mPl (mlA (lMo a) i)).tail (stp (placeOf a i) (at0 (mPl (mlA (lMo a) i)) 0))) = _
  split
  · rfl
  · cases stp (placeOf a i) (at0 (mPl (mlA (lMo a) i)) 0) with
    | none => rfl
    | some p =>
      show actTo (setBt x a) i _ p = ((actTo a i _ p).1, setBt x (actTo a i _ p).2)
      unfold actTo
      show (if lRt a p ≤ nI 0 then (if lTp a p = nI 0 then (false, setBt x (caughtA (went a i (mPl (mlA (lMo a) i)).tail p) i)) else if lMn a p then (true, setBt x (finish (went a i (mPl (mlA (lMo a) i)).tail p) i)) else (true, airEnd (setBt x (went a i (mPl (mlA (lMo a) i)).tail p)) i)) else (true, airEnd (setBt x (gnaw a i p)) i)) = _
      rw [airEnd_bt, airEnd_bt]
      split
      · split
        · rfl
        · split <;> rfl
      · rfl
theorem moves_bt (x : Int32) : ∀ (n i : Nat) (a : Lw), moves n i (setBt x a) = setBt x (moves n i a)
  | 0, _, _ => rfl
  | n + 1, i, a => by
    by_cases h : i < (lMo a).length
    · rw [moves_in (a := setBt x a) h, moves_in h, act_bt]
      exact moves_bt x n _ _
    · rw [moves_out (a := setBt x a) h, moves_out h]
theorem moves_lBt : ∀ (n i : Nat) (a : Lw), lBt (moves n i a) = lBt a := fun n i a => by
  have h := moves_bt (lBt a) n i a
  have e : setBt (lBt a) a = a := rfl
  rw [e] at h
  rw [h]; rfl
theorem beat_eq (a : Lw) : beatA a = setBt (lBt a + nI 1) (moves (lMo a).length 0 (tick0 a)) := by
  unfold beatA
  rw [tick_eq, moves_bt]
theorem airEnd_len (a : Lw) (i : Nat) : (lMo (airEnd a i)).length = (lMo a).length := by
  unfold airEnd
  split
  · show ((lMo _).set i _).length = _
    rw [List.length_set, ensure_len]
  · rfl
theorem act_len (b : Lw) (i : Nat) (h : i < (lMo b).length) : (lMo (act b i).2).length = if (act b i).1 then (lMo b).length else (lMo b).length - 1 := by
  unfold act
  split
  · rfl
  · cases stp (placeOf b i) (at0 (mPl (mlA (lMo b) i)) 0) with
    | none => exact List.length_set
    | some p =>
      show (lMo (actTo b i _ p).2).length = if (actTo b i _ p).1 then _ else _
      unfold actTo
      split
      · split
        · show (((lMo b).set i _).eraseIdx i).length = _
          rw [List.length_eraseIdx_of_lt (by rw [List.length_set]; exact h), List.length_set]; rfl
        · split
          · show (((lMo b).set i _).set i _).length = _
            rw [List.length_set, List.length_set]; rfl
          · show (lMo (airEnd _ i)).length = _
            rw [airEnd_len]
            exact List.length_set
      · show (lMo (airEnd _ i)).length = _
        rw [airEnd_len]
        exact List.length_set
theorem M_beat {v : V_X7} {a : Lw} (P : Lw → Prop) (hP : ∀ b, P b → fitL b ∧ airOk b ∧ ∀ i, i < (lMo b).length → actOk b i) (hA : ∀ b i, P b → i < (lMo b).length → P (act b i).2) (h : MLawn (X7_s v) a) (ha : P (tick0 a)) {Q : (Nat → Int32) → Prop} (hq : ∀ s', MLawn s' (beatA a) → Q s') : wp_X7_beat v Q := by
  obtain ⟨hb, hc, hm⟩ := h
  have hl : (lMo a).length ≤ 4 := (hP _ ha).1.2.1.1
  have hMa : fitMP (lMo a) := (hP _ ha).1.2.1.P
  unfold wp_X7_beat wp_X7_beat_2
  refine ⟨fun y z => ∃ k, y = nI k ∧ k ≤ 64 ∧ (∀ t, t < k → z (136 + t) = decT (lTp a) t) ∧ (∀ q, (q < 136 ∨ 136 + k ≤ q) → z q = X7_s v q), fun y _ => 70 - y.toNatClampNeg, ⟨0, rfl, by omega, fun t ht => by omega, fun q _ => rfl⟩, ?_⟩
  rintro _ z ⟨k, rfl, hk, hz1, hz2⟩
  unfold wb_X7_beat_2
  simp (disch := omega) only [nI_lit, nI_clamp, nI_leI, nI_add, nI_inI]
  refine ⟨fun q => ?_, fun q => ⟨by omega, ?_⟩⟩
  · have hk64 : k = 64 := by omega
    subst hk64
    have hL : MLawn z (tick0 a) := by
      obtain ⟨h0, h2, h3, h4, h5, h6, h8, h9, h10, h11⟩ := hb
      refine ⟨⟨?_, ?_, ?_, ?_, ?_, ?_, fun t ht => ?_, fun t ht => ?_, fun t ht => hz1 t ht, fun t ht => ?_⟩, hc.of (hz2 7 (by omega)) (fun q _ => hz2 q (by omega)), hm.of hMa (hz2 1 (by omega)) (fun q _ _ => hz2 q (by omega))⟩
      · rw [hz2 0 (by omega), h0]; rfl
      · rw [hz2 2 (by omega), h2]; rfl
      · rw [hz2 3 (by omega), h3]; rfl
      · rw [hz2 4 (by omega), h4]; rfl
      · rw [hz2 5 (by omega), h5]; rfl
      · rw [hz2 6 (by omega), h6]; rfl
      · rw [hz2 _ (by omega), h8 t ht]; rfl
      · rw [hz2 _ (by omega), h9 t ht]; rfl
      · rw [hz2 _ (by omega), h11 t ht]; rfl
    unfold wp_X7_beat_47
    refine ⟨fun y z => ∃ i n b, y = nI i ∧ i + n = (lMo b).length ∧ P b ∧ moves n i b = moves (lMo a).length 0 (tick0 a) ∧ MLawn z b, fun y z => (z 1).toNatClampNeg - y.toNatClampNeg, ⟨0, (lMo a).length, tick0 a, rfl, Nat.zero_add _, ha, rfl, hL⟩, ?_⟩
    rintro _ z ⟨i, n, b, rfl, hin, hb, hmv, hLb⟩
    obtain ⟨hfb, hab, hob⟩ := hP b hb
    have hlb := hfb.2.1.1
    have z1 : z 1 = nI (lMo b).length := hLb.2.2.1
    unfold wb_X7_beat_47
    simp (disch := omega) only [nI_lit, nN_eq, nI_clamp, nI_inI, z1, nI_leI]
    refine ⟨by omega, fun e => ⟨by omega, ?_⟩, fun e => ?_⟩
    · have : n = 0 := by omega
      subst this
      refine hq _ ?_
      rw [beat_eq, ← hmv]
      obtain ⟨kb, kc, km⟩ := hLb
      have hbt : lBt b = lBt a := by
        have := congrArg lBt hmv
        rw [moves_lBt, moves_lBt] at this
        exact this
      have hq0 : ∀ q, q ≠ 0 → upd z 0 (z 0 + nI 1) q = z q := fun q h => upd_n h
      obtain ⟨h0, h2, h3, h4, h5, h6, h8, h9, h10, h11⟩ := kb
      refine ⟨⟨?_, ?_, ?_, ?_, ?_, ?_, fun t ht => ?_, fun t ht => ?_, fun t ht => ?_, fun t ht => ?_⟩, kc.of (hq0 7 (by omega)) (fun q _ => hq0 q (by omega)), km.of hfb.2.1.P (hq0 1 (by omega)) (fun q _ _ => hq0 q (by omega))⟩
      · rw [upd_s, h0, hbt]; rfl
      · rw [hq0 2 (by omega), h2]; rfl
      · rw [hq0 3 (by omega), h3]; rfl
      · rw [hq0 4 (by omega), h4]; rfl
      · rw [hq0 5 (by omega), h5]; rfl
      · rw [hq0 6 (by omega), h6]; rfl
      · rw [hq0 _ (by omega), h8 t ht]; rfl
      · rw [hq0 _ (by omega), h9 t ht]; rfl
      · rw [hq0 _ (by omega), h10 t ht]; rfl
      · rw [hq0 _ (by omega), h11 t ht]; rfl
    · obtain ⟨n, rfl⟩ : ∃ m, n = m + 1 := ⟨n - 1, by omega⟩
      have hib : i < (lMo b).length := by omega
      rw [moves_in hib] at hmv
      have hb2 := hA b i hb hib
      have hlen := act_len b i hib
      refine M_acts (v := X7_s0 v z) hLb hfb hib (hab i hib) (hob i hib) (hP _ hb2).1 (fun s' hs' => ?_)
      have s1 : s' 1 = nI (lMo (act b i).2).length := hs'.2.2.1
      have hl2 := (hP _ hb2).1.2.1.1
      cases et : (act b i).1 with
      | true =>
        rw [et] at hmv hlen
        have hlen : (lMo (act b i).2).length = (lMo b).length := hlen
        refine ⟨fun _ => ⟨⟨i + 1, n, _, by rw [nI_add], by omega, hb2, hmv, hs'⟩, ?_⟩, fun q => absurd rfl q⟩
        rw [s1, nI_add, nI_clamp (by omega), nI_clamp (by omega)]
        omega
      | false =>
        rw [et] at hmv hlen
        have hlen : (lMo (act b i).2).length = (lMo b).length - 1 := hlen
        refine ⟨fun q => absurd q (by decide), fun _ => ⟨⟨i, n, _, by rw [nI_add, Nat.add_zero], by omega, hb2, hmv, hs'⟩, ?_⟩⟩
        rw [s1, nI_add, nI_clamp (by omega), nI_clamp (by omega)]
        omega
  · have e0 : z (136 + k) = lTp a k := by rw [hz2 _ (by omega), hb.2.2.2.2.2.2.2.2.1 k (by omega)]
    rw [e0]
    refine ⟨fun e => ⟨⟨k + 1, rfl, by omega, fun t ht => ?_, fun q h1 => by rw [upd_n (by omega)]; exact hz2 q (by omega)⟩, by omega⟩, fun e => ⟨⟨k + 1, rfl, by omega, fun t ht => ?_, fun q h1 => by rw [upd_n (by omega)]; exact hz2 q (by omega)⟩, by omega⟩⟩
    · by_cases w : t = k
      · subst w
        rw [upd_s, decT, if_pos e, show nI 0 = 0 from rfl, Int32.sub_zero]
      · rw [upd_n (by omega)]; exact hz1 t (by omega)
    · by_cases w : t = k
      · subst w
        rw [upd_s, decT, if_neg e]
      · rw [upd_n (by omega)]; exact hz1 t (by omega)
