/-! Mounds that come up, trails that end, new moles. -/
theorem upB {f : Nat → Int32} {g : Nat → Bool} (h : ∀ t, t < 64 → f t = bI (g t)) (k : Nat) (b : Bool) {x : Int32} (hx : x = bI b) : ∀ t, t < 64 → upd f k x t = bI (va_up g k b t) := fun t ht => by
  by_cases e : t = k
  · subst e; rw [upd_s, va_up_self, hx]
  · rw [upd_n e, va_up_ne _ _ e, h t ht]
theorem upE {f g : Nat → Int32} (h : ∀ t, t < 64 → f t = g t) (k : Nat) (x : Int32) : ∀ t, t < 64 → upd f k x t = upd g k x t := fun t ht => by
  by_cases e : t = k
  · subst e; rw [upd_s, upd_s]
  · rw [upd_n e, upd_n e, h t ht]
theorem cuts_take {t : Nat} {M : List Ml} {k : Nat} (h : k < M.length) : (M.take (k + 1)).flatMap (cutsOf t) = (M.take k).flatMap (cutsOf t) ++ cutsOf t (mlA M k) := by
  rw [ml_take h]; simp
theorem cuts_split {t : Nat} {M : List Ml} {k : Nat} (h : k < M.length) : M.flatMap (cutsOf t) = (M.take k).flatMap (cutsOf t) ++ (cutsOf t (mlA M k) ++ (M.drop (k + 1)).flatMap (cutsOf t)) := by
  conv => lhs; rw [← List.take_append_drop k M, ml_split h]
  simp
theorem C_X0_ensureMound {v : V_X0} {u : V_X3} {a : Lw} (h : CLawn v a) (hf : fitL a) {t : Nat} (ht : t < 64) (hf2 : lMn a t = false → fitT (lTu (comesUp a t))) {Q : (Nat → Int32) → (Nat → Int32) → Int32 → Int32 → (Nat → V_X1) → (Nat → Int32) → Int32 → V_X3 → Prop} (hq : ∀ uc ue us uu mo mn ri tu, CLawn (mn, X0_opened v, X0_roots v, X0_traps v, tu, X0_molesR v, mo, X0_moleCount v, X0_fullAir v, X0_beats v, X0_caught v, X0_gnawed v, ri, X0_fallen v) (ensure a t) → (∀ j, X1_lost (mo j) = X1_lost (X0_moles v j)) → Q uc ue us uu mo mn ri tu) : wp_X0_ensureMound v u (nI t) Q := by
  have hh := h
  obtain ⟨h1, h2, h3, h4, h5, h6, h7, h8, h9, h10, h11, h12⟩ := h
  obtain ⟨f1, f2, f3⟩ := hf
  unfold wp_X0_ensureMound
  simp (disch := omega) only [nI_lit, nI_clamp, nI_inI]
  rw [h1 t ht]
  simp only [bI_0]
  refine ⟨ht, fun e => ?_, fun e => ?_⟩
  · have hz := hf2 e
    have ee : ensure a t = comesUp a t := by simp [ensure, e]
    refine C_X0_splitTunnels (v := X0_s12 (X0_s0 v (upd (X0_mounds v) t (nI 1))) (X0_risen v + nI 1)) (T := lTu a) h5 f1 ht (fit_pre hz) (fun uc ue us uu tu htu => ?_)
    unfold wp_X0_ensureMound_34
    have hl := f2.1
    refine ⟨fun y mo tu => ∃ k, y = nI k ∧ k ≤ (lMo a).length ∧ CMs (X0_molesR v) mo (nI (lMo a).length) (mapTo k (cutM t) (lMo a)) ∧ CRows tu (splitT t (lTu a) ++ ((lMo a).take k).flatMap (cutsOf t)) ∧ ∀ j, X1_lost (mo j) = X1_lost (X0_moles v j), fun y mo tu => 70 - y.toNatClampNeg, ⟨0, rfl, by omega, by rw [mapTo_0, ← h6.1]; exact h6, by simpa using htu, fun j => rfl⟩, ?_⟩
    rintro _ mo tu ⟨k, rfl, hk, hc, hr, hlost⟩
    unfold wb_X0_ensureMound_34
    rw [h6.1]
    simp (disch := omega) only [nI_lit, nN_eq, nI_add, pk_mul, pk_sub, nI_clamp, nI_leI, nI_ltI, nI_eq, nN_ne, nN_ne', nN_lt, nN_le, nN_nlt, nN_nle, nN_add, nN_in, nI_inI, nI_lt0, nN_clamp, bI_0, bI_1, true_implies, false_implies, not_true_eq_false, not_false_eq_true, true_and, and_true]
    refine ⟨fun q => ?_, fun q => ⟨by omega, h6.2.1 k (by omega), ?_⟩⟩
    · rw [mapTo_all (by omega)] at hc
      rw [List.take_of_length_le (by omega)] at hr
      refine hq _ _ _ _ _ _ _ _ ?_ hlost
      rw [ee]
      refine ⟨upB h1 t true rfl, h2, h3, h4, hr, ⟨?_, hc.2.1, hc.2.2.1, hc.2.2.2⟩, h7, h8, h9, h10, ?_, h12⟩
      · show X0_moleCount v = nI ((lMo a).map (cutM t)).length
        rw [h6.1, List.length_map]
      · show X0_risen v + nI 1 = lRi a + nI 1
        rw [h11]
    · have hk2 : k < (lMo a).length := by omega
      have o := f2.2 _ (mlA_mem hk2)
      have hs := hc.self (i := k) (by rw [mapTo_len]; omega)
      rw [mapTo_at hk2] at hs
      have hM : (mapTo k (cutM t) (lMo a)).length ≤ 4 := by rw [mapTo_len]; omega
      have hk4 : k < (mapTo k (cutM t) (lMo a)).length := by rw [mapTo_len]; omega
      have hlen := o.1.2.2
      have ca := cuts_take (t := t) hk2
      have cb := cuts_split (t := t) hk2
      refine C_X1_firstIndex hs o.1 o.2.1 ht ?_
      rw [ixI_le0 (by omega)]
      refine ⟨fun n => ?_, fun y => ?_⟩
      · have e1 : cutsOf t (mlA (lMo a) k) = [] := if_neg n
        have e2 : cutM t (mlA (lMo a) k) = mlA (lMo a) k := if_neg n
        refine ⟨⟨k + 1, rfl, by omega, ?_, by rw [ca, e1, List.append_nil]; exact hr, hlost⟩, by omega⟩
        rw [← mapTo_set hk2, e2]
        have hc2 := hc.set hM hk4 (v := mo (X0_molesR v k)) (m := mlA (lMo a) k) hs
        have : va_up mo (X0_molesR v k) (mo (X0_molesR v k)) = mo := by
          funext j
          by_cases z : j = X0_molesR v k
          · subst z; rw [va_up_self]
          · rw [va_up_ne _ _ z]
        rwa [this] at hc2
      · have y := Classical.not_not.mp y
        have e1 : cutsOf t (mlA (lMo a) k) = [upTo t (mTr (mlA (lMo a) k))] := if_pos y
        have e2 : cutM t (mlA (lMo a) k) = (mPl (mlA (lMo a) k), fromLast t (mTr (mlA (lMo a) k)), mAi (mlA (lMo a) k), mSt (mlA (lMo a) k)) := if_pos y
        rw [e1] at ca cb
        have hix := List.idxOf_lt_length_iff.mpr y.1
        have hz2 : fitT ((splitT t (lTu a) ++ ((lMo a).take k).flatMap (cutsOf t)) ++ upTo t (mTr (mlA (lMo a) k)) :: ((lMo a).drop (k + 1)).flatMap (cutsOf t)) := by
          have : lTu (comesUp a t) = splitT t (lTu a) ++ (lMo a).flatMap (cutsOf t) := rfl
          rw [this, cb] at hz
          simpa using hz
        obtain ⟨z1, z2⟩ := fit_add hz2
        rw [ixI, if_pos y.1]
        simp (disch := omega) only [nI_lit, nN_eq, nI_add, pk_mul, pk_sub, nI_clamp, nI_leI, nI_ltI, nI_eq, nN_ne, nN_ne', nN_lt, nN_le, nN_nlt, nN_nle, nN_add, nN_in, nI_inI, nI_lt0, nN_clamp, bI_0, bI_1, true_implies, false_implies, not_true_eq_false, not_false_eq_true, true_and, and_true]
        refine C_X3_addRow hr (a := 0) (b := List.idxOf t (mTr (mlA (lMo a) k)) + 1) (L := upTo t (mTr (mlA (lMo a) k))) (seg_take hs.2.1) (by rw [upTo_len y.1]; omega) (by omega) (by omega) z1 z2 (fun c e s u hc2 => ?_)
        refine C_X1_dropBeforeLast hs o.1 o.2.1 y.1 (fun d hd => ?_)
        refine ⟨⟨k + 1, rfl, by omega, ?_, by rw [ca]; simpa using hc2, fun j => ?_⟩, by omega⟩
        rotate_left
        · by_cases z : j = X0_molesR v k
          · subst z; rw [va_up_self]; exact hlost _
          · rw [va_up_ne _ _ z]; exact hlost j
        rw [← mapTo_set hk2, e2]
        obtain ⟨g1, g2, g3, g4, g5, g6⟩ := hs
        exact hc.set hM hk4 ⟨g1, hd, g3, rfl, g5, g6⟩
  · have ee : ensure a t = a := by
      have : lMn a t = true := by simpa using e
      simp [ensure, this]
    exact hq _ _ _ _ _ _ _ _ (by rw [ee]; exact hh) (fun j => rfl)
def finish (a : Lw) (i : Nat) : Lw := (lMn a, lOp a, lRt a, lTp a, lTu a ++ cutsOf (lastOf (mTr (mlA (lMo a) i))) (mlA (lMo a) i), (lMo a).set i (mPl (mlA (lMo a) i), [lastOf (mTr (mlA (lMo a) i))], lAi a, mSt (mlA (lMo a) i)), lAi a, lBt a, lCa a, lGn a, lRi a, lFa a)
theorem seg_cons {f : Nat → Int32} {x : Nat} (h : f 0 = nI x) : seg f 0 [x] := fun k hk => by
  have : k = 0 := by simpa using hk
  subst this; simpa [at0] using h
theorem C_X0_finishTrail {v : V_X0} {a : Lw} (h : CLawn v a) (hf : fitL a) {i : Nat} (hi : i < (lMo a).length) (hf2 : fitT (lTu (finish a i))) {Q : (Nat → V_X1) → V_X3 → Prop} (hq : ∀ mo tu, CLawn (X0_mounds v, X0_opened v, X0_roots v, X0_traps v, tu, X0_molesR v, mo, X0_moleCount v, X0_fullAir v, X0_beats v, X0_caught v, X0_gnawed v, X0_risen v, X0_fallen v) (finish a i) → Q mo tu) : wp_X0_finishTrail v (X0_molesR v i) Q := by
  obtain ⟨h1, h2, h3, h4, h5, h6, h7, h8, h9, h10, h11, h12⟩ := h
  obtain ⟨f1, f2, f3⟩ := hf
  have hl := f2.1
  have o := f2.2 _ (mlA_mem hi)
  have hs := h6.self hi
  have hlt := lastOf_mem (L := mTr (mlA (lMo a) i)) (by intro e; have := o.1.2.1; rw [e] at this; simp at this)
  have hlen := o.1.2.2
  have out : ∀ tu, CRows tu (lTu a ++ cutsOf (lastOf (mTr (mlA (lMo a) i))) (mlA (lMo a) i)) → wp_X0_finishTrail_30 v (X0_molesR v i) (nI (lastOf (mTr (mlA (lMo a) i)))) tu Q := by
    intro tu htu
    unfold wp_X0_finishTrail_30
    refine ⟨h6.2.1 i (by omega), C_X1_beginTrail (fun d hd => hq _ _ ⟨h1, h2, h3, h4, htu, ?_, h7, h8, h9, h10, h11, h12⟩)⟩
    obtain ⟨g1, g2, g3, g4, g5, g6⟩ := hs
    exact h6.set hl hi ⟨g1, hd, g3, rfl, h7, g6⟩
  unfold wp_X0_finishTrail
  refine ⟨h6.2.1 i (by omega), C_X1_place hs o.1 (C_X1_firstIndex hs o.1 o.2.1 (o.2.1 _ hlt) ?_)⟩
  simp only [nI_lit]
  rw [ixI_le0 (by omega)]
  refine ⟨fun n => out _ ?_, fun y => ?_⟩
  · have e1 : cutsOf (lastOf (mTr (mlA (lMo a) i))) (mlA (lMo a) i) = [] := if_neg n
    rw [e1, List.append_nil]; exact h5
  · have y := Classical.not_not.mp y
    have e1 : cutsOf (lastOf (mTr (mlA (lMo a) i))) (mlA (lMo a) i) = [upTo (lastOf (mTr (mlA (lMo a) i))) (mTr (mlA (lMo a) i))] := if_pos y
    have hz : fitT (lTu a ++ cutsOf (lastOf (mTr (mlA (lMo a) i))) (mlA (lMo a) i)) := hf2
    rw [e1] at hz
    obtain ⟨z1, z2⟩ := fit_add hz
    have hix := List.idxOf_lt_length_iff.mpr y.1
    rw [ixI, if_pos y.1, nI_add]
    refine C_X3_addRow h5 (a := 0) (L := upTo (lastOf (mTr (mlA (lMo a) i))) (mTr (mlA (lMo a) i))) (seg_take hs.2.1) (by rw [upTo_len y.1]; omega) (by omega) (by omega) z1 z2 (fun c e s u hc2 => out _ (by rw [e1]; exact hc2))
def welcome (a : Lw) (t : Nat) : Lw := (lMn (ensure a t), lOp (ensure a t), lRt (ensure a t), lTp (ensure a t), lTu (ensure a t), lMo (ensure a t) ++ [([], [t], lAi a, 0)], lAi (ensure a t), lBt (ensure a t), lCa (ensure a t), lGn (ensure a t), lRi (ensure a t), lFa (ensure a t))
theorem ensure_len (a : Lw) (t : Nat) : (lMo (ensure a t)).length = (lMo a).length := by
  unfold ensure
  split
  · rfl
  · show ((lMo a).map (cutM t)).length = _
    rw [List.length_map]
theorem ensure_air (a : Lw) (t : Nat) : lAi (ensure a t) = lAi a := by
  unfold ensure; split <;> rfl
theorem C_X0_welcome {v : V_X0} {u : V_X3} {a : Lw} (h : CLawn v a) (hf : fitL a) (hl : (lMo a).length < 4) {t : Nat} (ht : t < 64) (hf2 : lMn a t = false → fitT (lTu (comesUp a t))) {Q : Int32 → (Nat → Int32) → (Nat → Int32) → Int32 → Int32 → Int32 → (Nat → V_X1) → (Nat → Int32) → Int32 → V_X3 → Prop} (hq : ∀ uc ue us uu mc mo mn ri tu, CLawn (mn, X0_opened v, X0_roots v, X0_traps v, tu, X0_molesR v, mo, mc, X0_fullAir v, X0_beats v, X0_caught v, X0_gnawed v, ri, X0_fallen v) (welcome a t) → Q (nI (lMo a).length) uc ue us uu mc mo mn ri tu) : wp_X0_welcome v u (nI t) Q := by
  have hc := h.2.2.2.2.2.1.1
  have h7 := h.2.2.2.2.2.2.1
  unfold wp_X0_welcome
  rw [hc]
  simp (disch := omega) only [nI_lit, nN_eq, nI_add, pk_mul, pk_sub, nI_clamp, nI_leI, nI_ltI, nI_eq, nN_ne, nN_ne', nN_lt, nN_le, nN_nlt, nN_nle, nN_add, nN_in, nI_inI, nI_lt0, nN_clamp, bI_0, bI_1, true_implies, false_implies, not_true_eq_false, not_false_eq_true, true_and, and_true]
  refine ⟨fun _ => ?_, fun q => by omega⟩
  refine C_X0_ensureMound h hf ht hf2 (fun uc ue us uu mo mn ri tu hL _ => ⟨hl, h.2.2.2.2.2.1.2.1 _ hl, C_X1_beginTrail (fun d hd => ?_)⟩)
  obtain ⟨k1, k2, k3, k4, k5, k6, k7, k8, k9, k10, k11, k12⟩ := hL
  rw [Nat.add_sub_cancel]
  refine hq _ _ _ _ _ _ _ _ _ ⟨k1, k2, k3, k4, k5, ⟨?_, k6.2.1, k6.2.2.1, fun i hi => ?_⟩, k7, k8, k9, k10, k11, k12⟩
  · show nI ((lMo a).length + 1) = nI (lMo (ensure a t) ++ [([], [t], lAi a, 0)]).length
    rw [List.length_append, ensure_len]; rfl
  · have hi2 : i < (lMo a).length + 1 := by
      have : i < (lMo (ensure a t) ++ [([], [t], lAi a, 0)]).length := hi
      rw [List.length_append, ensure_len] at this; exact this
    show CMole (va_up mo (X0_molesR v (lMo a).length) _ (X0_molesR v i)) (mlA (lMo (ensure a t) ++ [([], [t], lAi a, 0)]) i)
    by_cases e : i = (lMo a).length
    · subst e
      rw [va_up_self, mlA_r (by rw [ensure_len]; omega), ensure_len, Nat.sub_self]
      exact ⟨seg_nil _ _, hd, rfl, rfl, h7, rfl⟩
    · rw [va_up_ne _ _ (fun z => e (h.2.2.2.2.2.1.2.2.1 _ _ (by omega) hl z)), mlA_l (by rw [ensure_len]; omega)]
      exact k6.2.2.2 i (by rw [ensure_len]; omega)
theorem dropT_take {t : Nat} {T : Tu} {k : Nat} (h : k < T.length) : dropT t (T.take (k + 1)) = dropT t (T.take k) ++ dropT t [row T k] := by
  rw [row_take h]; simp [dropT]
theorem dropT_split {t : Nat} {T : Tu} {k : Nat} (h : k < T.length) : dropT t T = dropT t (T.take k) ++ (dropT t [row T k] ++ dropT t (T.drop (k + 1))) := by
  conv => lhs; rw [row_split h]
  simp only [dropT, List.filter_append]
  congr 1
  rw [← List.filter_append]; rfl
theorem dropT_len (t : Nat) (T : Tu) : (dropT t T).length ≤ T.length := List.length_filter_le _ _
theorem dropT_flat (t : Nat) : ∀ T : Tu, (dropT t T).flatten.length ≤ T.flatten.length
  | [] => Nat.le_refl _
  | r :: T => by
    have := dropT_flat t T
    unfold dropT at this ⊢
    rw [List.filter_cons]
    split
    · rw [List.flatten_cons, List.flatten_cons, List.length_append, List.length_append]; omega
    · rw [List.flatten_cons, List.length_append]; omega
def dropTun (a : Lw) (t : Nat) : Lw := (lMn a, lOp a, lRt a, lTp a, dropT t (lTu a), lMo a, lAi a, lBt a, lCa a, lGn a, lRi a, lFa a + nI ((lTu a).length - (dropT t (lTu a)).length))
theorem C_X0_dropTunnels {v : V_X0} {u : V_X3} {a : Lw} (h : CLawn v a) (hf : fitTu (lTu a)) {t : Nat} (ht : t < 64) {Q : (Nat → Int32) → (Nat → Int32) → Int32 → Int32 → Int32 → V_X3 → Prop} (hq : ∀ uc ue us uu fa tu, CLawn (X0_mounds v, X0_opened v, X0_roots v, X0_traps v, tu, X0_molesR v, X0_moles v, X0_moleCount v, X0_fullAir v, X0_beats v, X0_caught v, X0_gnawed v, X0_risen v, fa) (dropTun a t) → Q uc ue us uu fa tu) : wp_X0_dropTunnels v u (nI t) Q := by
  obtain ⟨h1, h2, h3, h4, h5, h6, h7, h8, h9, h10, h11, h12⟩ := h
  have fl := hf.1.2
  have hf2 : fitT (dropT t (lTu a)) := by
    have f1 := hf.1
    unfold fitT at f1 ⊢
    have := dropT_len t (lTu a)
    have := dropT_flat t (lTu a)
    omega
  unfold wp_X0_dropTunnels wp_X0_dropTunnels_17
  refine C_X3_empty ?_
  rw [h5.parts.2.2.1]
  refine ⟨fun y c e s u => ∃ k, y = nI k ∧ k ≤ (lTu a).length ∧ CRows (c, e, u, s) (dropT t ((lTu a).take k)), fun y c e s u => 2000 - y.toNatClampNeg, ⟨0, rfl, by omega, CRows_nil rfl rfl⟩, ?_⟩
  rintro _ c e s uu ⟨k, rfl, hk, hc⟩
  unfold wb_X0_dropTunnels_17
  rw [h5.parts.2.2.1]
  simp (disch := omega) only [nI_lit, nN_eq, nI_add, pk_mul, pk_sub, nI_clamp, nI_leI, nI_ltI, nI_eq, nN_ne, nN_ne', nN_lt, nN_le, nN_nlt, nN_nle, nN_add, nN_in, nI_inI, nI_lt0, nN_clamp, bI_0, bI_1, true_implies, false_implies, not_true_eq_false, not_false_eq_true, true_and, and_true]
  refine ⟨fun q => ?_, fun q => ?_⟩
  · rw [List.take_of_length_le (by omega)] at hc
    refine C_X3_copyFrom hc hf2 (fun c e s u hc2 => hq _ _ _ _ _ _ ⟨h1, h2, h3, h4, hc2, h6, h7, h8, h9, h10, h11, ?_⟩)
    have hl := dropT_len t (lTu a)
    have es : s = nI (dropT t (lTu a)).length := hc2.parts.2.2.1
    show X0_fallen v + (nI (lTu a).length - s) = lFa a + nI ((lTu a).length - (dropT t (lTu a)).length)
    rw [h12, es, pk_sub hl]
  · have hk2 : k < (lTu a).length := by omega
    have hb := fun x hx => (hf.2 _ (row_mem hk2)).2 x hx
    have hr := row_len_le hf.1 hk2
    have es := dropT_take (t := t) hk2
    have ea := dropT_split (t := t) hk2
    refine C_X3_firstIndex h5 hf.1 hk2 hb ht ?_
    rw [ixO_nN (by omega)]
    refine ⟨fun n => C_X3_from h5 hf.1 (by omega) (C_X3_to h5 hf.1 hk2 ?_), fun y => ?_⟩
    · have er : dropT t [row (lTu a) k] = [row (lTu a) k] := by simp [dropT, n]
      rw [er] at es ea
      rw [ea] at hf2
      obtain ⟨z1, z2⟩ := fit_add (by simpa using hf2)
      refine C_X3_addRow hc (h5.segr hk2) (off_s hk2) (by rw [off_s hk2]; omega) (by omega) z1 z2 (fun c e s u hc2 => ?_)
      exact ⟨⟨k + 1, rfl, by omega, by rw [es]; exact hc2⟩, by omega⟩
    · have y : t ∈ row (lTu a) k := Classical.byContradiction y
      have er : dropT t [row (lTu a) k] = [] := by simp [dropT, y]
      rw [er, List.append_nil] at es
      exact ⟨⟨k + 1, rfl, by omega, by rw [es]; exact hc⟩, by omega⟩
