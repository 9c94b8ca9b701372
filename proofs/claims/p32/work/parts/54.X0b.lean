/-! Moles in their rows; a lawn copied, air set, moles caught; mounds that come up. -/
theorem mlA_set {M : List Ml} {i : Nat} {m : Ml} {k : Nat} (h : k < M.length) : mlA (M.set i m) k = if i = k then m else mlA M k := by
  unfold mlA
  rw [List.getElem?_set]
  by_cases e : i = k
  · subst e; simp [h]
  · simp [e]
theorem CMs.set {r : Nat → Nat} {mo : Nat → V_X1} {c : Int32} {M : List Ml} (h : CMs r mo c M) (hM : M.length ≤ 4) {i : Nat} (hi : i < M.length) {v : V_X1} {m : Ml} (hv : CMole v m) : CMs r (va_up mo (r i) v) c (M.set i m) := by
  obtain ⟨h1, h2, h3, h4⟩ := h
  refine ⟨by rw [List.length_set]; exact h1, h2, h3, fun k hk => ?_⟩
  rw [List.length_set] at hk
  rw [mlA_set hk]
  by_cases e : i = k
  · subst e; rw [va_up_self, if_pos rfl]; exact hv
  · rw [if_neg e, va_up_ne _ _ (fun q => e (h3 k i (by omega) (by omega) q).symm)]
    exact h4 k hk
theorem CMs.self {r : Nat → Nat} {mo : Nat → V_X1} {c : Int32} {M : List Ml} (h : CMs r mo c M) {i : Nat} (hi : i < M.length) : CMole (mo (r i)) (mlA M i) := h.2.2.2 i hi
/-- the first of them changed -/
def mapTo (k : Nat) (f : Ml → Ml) (M : List Ml) : List Ml := (M.take k).map f ++ M.drop k
theorem mapTo_len (k : Nat) (f : Ml → Ml) (M : List Ml) : (mapTo k f M).length = M.length := by
  simp [mapTo]; omega
theorem mapTo_0 (f : Ml → Ml) (M : List Ml) : mapTo 0 f M = M := by simp [mapTo]
theorem mapTo_all {k : Nat} {f : Ml → Ml} {M : List Ml} (h : M.length ≤ k) : mapTo k f M = M.map f := by
  simp [mapTo, List.take_of_length_le h, List.drop_of_length_le h]
theorem ml_split {M : List Ml} {k : Nat} (h : k < M.length) : M.drop k = mlA M k :: M.drop (k + 1) := by
  rw [List.drop_eq_getElem_cons h]; simp [mlA, h]
theorem ml_take {M : List Ml} {k : Nat} (h : k < M.length) : M.take (k + 1) = M.take k ++ [mlA M k] := by
  rw [show mlA M k = M[k] by simp [mlA, h], List.take_append_getElem h]
theorem mapTo_at {k : Nat} {f : Ml → Ml} {M : List Ml} (h : k < M.length) : mlA (mapTo k f M) k = mlA M k := by
  unfold mapTo
  rw [mlA_r (by simp; omega), ml_split h]
  simp [mlA, show min k M.length = k by omega]
theorem mapTo_set {k : Nat} {f : Ml → Ml} {M : List Ml} (h : k < M.length) : (mapTo k f M).set k (f (mlA M k)) = mapTo (k + 1) f M := by
  unfold mapTo
  rw [ml_split h, ml_take h, List.map_append, List.set_append_right _ _ (by simp; omega)]
  simp [show k - min k M.length = 0 by omega]
theorem ml_list {M : List Ml} {N : List Ml} (hl : M.length = N.length) (h : ∀ i, i < M.length → mlA M i = mlA N i) : M = N := by
  apply List.ext_getElem hl
  intro i h1 h2
  have := h i h1
  simpa [mlA, h1, h2] using this
def capA (x : Nat) (m : Ml) : Ml := (mPl m, mTr m, min (mAi m) x, mSt m)
theorem C_X0_setFullAir {v : V_X0} {a : Lw} (h : CLawn v a) (hf : fitMs (lMo a)) {x : Nat} (hx : x ≤ 20) {Q : Int32 → (Nat → V_X1) → Prop} (hq : ∀ mo, CMs (X0_molesR v) mo (nI (lMo a).length) ((lMo a).map (capA x)) → Q (nI x) mo) : wp_X0_setFullAir v (nI x) Q := by
  have hm := h.2.2.2.2.2.1
  have f1 := hf.1
  unfold wp_X0_setFullAir wp_X0_setFullAir_7
  refine ⟨fun y mo => ∃ k, y = nI k ∧ k ≤ (lMo a).length ∧ CMs (X0_molesR v) mo (nI (lMo a).length) (mapTo k (capA x) (lMo a)), fun y mo => 70 - y.toNatClampNeg, ⟨0, rfl, by omega, by rw [mapTo_0, ← hm.1]; exact hm⟩, ?_⟩
  rintro _ mo ⟨k, rfl, hk, hc⟩
  unfold wb_X0_setFullAir_7
  rw [hm.1]
  simp (disch := omega) only [nI_lit, nN_eq, nI_add, pk_mul, pk_sub, nI_clamp, nI_leI, nI_ltI, nI_eq, nN_ne, nN_ne', nN_lt, nN_le, nN_nlt, nN_nle, nN_add, nN_in, nI_inI, nI_lt0, nN_clamp, bI_0, bI_1, true_implies, false_implies, not_true_eq_false, not_false_eq_true, true_and, and_true]
  refine ⟨fun q => ?_, fun q => ⟨by omega, hm.2.1 k (by omega), ⟨k + 1, rfl, by omega, ?_⟩, by omega⟩⟩
  · rw [mapTo_all (by omega)] at hc
    exact hq _ hc
  · rw [← mapTo_set (by omega)]
    have hM : (mapTo k (capA x) (lMo a)).length ≤ 4 := by rw [mapTo_len]; omega
    have hk4 : k < (mapTo k (capA x) (lMo a)).length := by rw [mapTo_len]; omega
    refine hc.set hM hk4 ?_
    have hs := hc.self (i := k) (by rw [mapTo_len]; omega)
    rw [mapTo_at (by omega)] at hs
    obtain ⟨g1, g2, g3, g4, g5, g6⟩ := hs
    have b := (hf.2 _ (mlA_mem (M := lMo a) (i := k) (by omega))).2.2.2
    refine ⟨g1, g2, g3, g4, ?_, g6⟩
    show (if nI x < X1_air (mo (X0_molesR v k)) then nI x else X1_air (mo (X0_molesR v k))) = nI (min (mAi (mlA (lMo a) k)) x)
    rw [g5]
    simp (disch := omega) only [nI_lit, nN_eq, nI_add, pk_mul, pk_sub, nI_clamp, nI_leI, nI_ltI, nI_eq, nN_ne, nN_ne', nN_lt, nN_le, nN_nlt, nN_nle, nN_add, nN_in, nI_inI, nI_lt0, nN_clamp, bI_0, bI_1, true_implies, false_implies, not_true_eq_false, not_false_eq_true, true_and, and_true]
    split
    · congr 1; omega
    · congr 1; omega
theorem seg_of_cpy {f g : Nat → Int32} {n : Nat} {t : Nat} (h : t < n) : va_cpy f g 0 0 n t = f t := by
  rw [pk_cpy_in (by omega) (by omega)]; congr 1; omega
theorem C_X0_copyFrom {v w : V_X0} {a : Lw} (h : CLawn w a) (hf : fitL a) (hv : (∀ i, i < 4 → X0_molesR v i < 4) ∧ ∀ i j, i < 4 → j < 4 → X0_molesR v i = X0_molesR v j → i = j) {Q : Int32 → Int32 → Int32 → Int32 → Int32 → Int32 → (Nat → V_X1) → (Nat → Int32) → (Nat → Int32) → Int32 → (Nat → Int32) → (Nat → Int32) → V_X3 → Prop} (hq : ∀ bt ca fa ai gn mc mo mn op ri rt tp tu, CLawn (mn, op, rt, tp, tu, X0_molesR v, mo, mc, ai, bt, ca, gn, ri, fa) a → Q bt ca fa ai gn mc mo mn op ri rt tp tu) : wp_X0_copyFrom v w Q := by
  obtain ⟨h1, h2, h3, h4, h5, h6, h7, h8, h9, h10, h11, h12⟩ := h
  obtain ⟨f1, f2, f3⟩ := hf
  have c64 : (64 : Int32).toNatClampNeg = 64 := rfl
  have c0 : (0 : Int32).toNatClampNeg = 0 := rfl
  unfold wp_X0_copyFrom wp_X0_copyFrom_2
  refine ⟨fun y m o => ∃ k, y = nI k ∧ k ≤ 64 ∧ (∀ i, i < k → m i = X0_mounds w i) ∧ ∀ i, i < k → o i = X0_opened w i, fun y _ _ => 70 - y.toNatClampNeg, ⟨0, rfl, by omega, fun i hi => by omega, fun i hi => by omega⟩, ?_⟩
  rintro _ m o ⟨k0, rfl, hk0, hm, ho⟩
  unfold wb_X0_copyFrom_2
  simp (disch := omega) only [c64, c0, Nat.zero_add, nI_lit, nN_eq, nI_add, pk_mul, pk_sub, nI_clamp, nI_leI, nI_ltI, nI_eq, nN_ne, nN_ne', nN_lt, nN_le, nN_nlt, nN_nle, nN_add, nN_in, nI_inI, nI_lt0, nN_clamp, bI_0, bI_1, true_implies, false_implies, not_true_eq_false, not_false_eq_true, true_and, and_true]
  refine ⟨fun q0 => ?_, fun q0 => ⟨by omega, by rw [h1 k0 (by omega)]; exact bI_bz _, by rw [h2 k0 (by omega)]; exact bI_bz _, ⟨k0 + 1, rfl, by omega, fun i hi => ?_, fun i hi => ?_⟩, by omega⟩⟩
  · have e64 : k0 = 64 := by omega
    subst e64
    refine C_X3_copyFrom h5 f1.1 (fun c e s u hc => ?_)
    unfold wp_X0_copyFrom_89
    rw [h6.1]
    have hl := f2.1
    refine ⟨fun y mo => ∃ k, y = nI k ∧ k ≤ (lMo a).length ∧ ∀ i, i < k → CMole (mo (X0_molesR v i)) (mlA (lMo a) i), fun y mo => 70 - y.toNatClampNeg, ⟨0, rfl, by omega, fun i hi => by omega⟩, ?_⟩
    rintro _ mo ⟨k, rfl, hk, hz⟩
    unfold wb_X0_copyFrom_89
    simp (disch := omega) only [nI_lit, nN_eq, nI_add, pk_mul, pk_sub, nI_clamp, nI_leI, nI_ltI, nI_eq, nN_ne, nN_ne', nN_lt, nN_le, nN_nlt, nN_nle, nN_add, nN_in, nI_inI, nI_lt0, nN_clamp, bI_0, bI_1, true_implies, false_implies, not_true_eq_false, not_false_eq_true, true_and, and_true]
    refine ⟨fun q => ?_, fun q => ⟨by omega, hv.1 k (by omega), h6.2.1 k (by omega), ?_⟩⟩
    · have : k = (lMo a).length := by omega
      subst this
      refine hq _ _ _ _ _ _ _ _ _ _ _ _ _ ⟨fun t ht => ?_, fun t ht => ?_, fun t ht => ?_, fun t ht => ?_, hc, ⟨rfl, hv.1, hv.2, hz⟩, h7, h8, h9, h10, h11, h12⟩
      · rw [← h1 t ht]; exact hm t ht
      · rw [← h2 t ht]; exact ho t ht
      · rw [← h3 t ht]; exact seg_of_cpy ht
      · rw [← h4 t ht]; exact seg_of_cpy ht
    · have o := f2.2 _ (mlA_mem (M := lMo a) (i := k) (by omega))
      refine C_X1_copyFrom (h6.self (by omega)) o.1 (fun d tr hd htr => ?_)
      refine ⟨⟨k + 1, rfl, by omega, fun i hi => ?_⟩, by omega⟩
      by_cases e : i = k
      · subst e; rw [va_up_self]; exact ⟨hd, htr, rfl, rfl, rfl, rfl⟩
      · rw [va_up_ne _ _ (fun z => e (hv.2 i k (by omega) (by omega) z))]; exact hz i (by omega)
  · by_cases e : i = k0
    · subst e; exact upd_s _ _ _
    · rw [upd_n e]; exact hm i (by omega)
  · by_cases e : i = k0
    · subst e; exact upd_s _ _ _
    · rw [upd_n e]; exact ho i (by omega)
theorem ml_erase {M : List Ml} {i k : Nat} (hk : k + 1 < M.length) : mlA (M.eraseIdx i) k = if k < i then mlA M k else mlA M (k + 1) := by
  unfold mlA
  rw [List.getElem?_eraseIdx]
  split <;> rfl
theorem C_X0_catchMole {v : V_X0} {a : Lw} (h : CMs (X0_molesR v) (X0_moles v) (X0_moleCount v) (lMo a)) (hl : (lMo a).length ≤ 4) {i : Nat} (hi : i < (lMo a).length) {Q : Int32 → Int32 → (Nat → Nat) → Prop} (hq : ∀ mc r, CMs r (X0_moles v) mc ((lMo a).eraseIdx i) → Q (X0_caught v + nI 1) mc r) : wp_X0_catchMole v (nI i) Q := by
  obtain ⟨h1, h2, h3, h4⟩ := h
  unfold wp_X0_catchMole wp_X0_catchMole_19
  rw [h1]
  simp (disch := omega) only [nI_lit, nN_eq, nI_add, pk_mul, pk_sub, nI_clamp, nI_leI, nI_ltI, nI_eq, nN_ne, nN_ne', nN_lt, nN_le, nN_nlt, nN_nle, nN_add, nN_in, nI_inI, nI_lt0, nN_clamp, bI_0, bI_1, true_implies, false_implies, not_true_eq_false, not_false_eq_true, true_and, and_true]
  refine ⟨by omega, h2 i (by omega), fun y r => ∃ j, y = nI j ∧ i ≤ j ∧ j + 1 ≤ (lMo a).length ∧ ∀ k, r k = if i ≤ k ∧ k < j then X0_molesR v (k + 1) else X0_molesR v k, fun y r => 70 - y.toNatClampNeg, ⟨i, rfl, by omega, by omega, fun k => by rw [if_neg (by omega)]⟩, ?_⟩
  rintro _ r ⟨j, rfl, hj1, hj2, hr⟩
  unfold wb_X0_catchMole_19
  simp (disch := omega) only [nI_lit, nN_eq, nI_add, pk_mul, pk_sub, nI_clamp, nI_leI, nI_ltI, nI_eq, nN_ne, nN_ne', nN_lt, nN_le, nN_nlt, nN_nle, nN_add, nN_in, nI_inI, nI_lt0, nN_clamp, bI_0, bI_1, true_implies, false_implies, not_true_eq_false, not_false_eq_true, true_and, and_true]
  refine ⟨fun q => ⟨by omega, h2 i (by omega), ?_⟩, fun q => ⟨by omega, ?_, by omega, ⟨j + 1, rfl, by omega, by omega, fun k => ?_⟩, by omega⟩⟩
  · have ej : j = (lMo a).length - 1 := by omega
    have key : ∀ k, va_up r ((lMo a).length - 1) (X0_molesR v i) k = X0_molesR v (if k = (lMo a).length - 1 then i else if i ≤ k ∧ k < (lMo a).length - 1 then k + 1 else k) := by
      intro k
      by_cases e : k = (lMo a).length - 1
      · rw [if_pos e, e, va_up_self]
      · rw [if_neg e, va_up_ne _ _ e, hr k, ej]
        split <;> rfl
    have sb : ∀ k, k < 4 → (if k = (lMo a).length - 1 then i else if i ≤ k ∧ k < (lMo a).length - 1 then k + 1 else k) < 4 := by
      intro k hk
      split
      · omega
      · split <;> omega
    have hlen : ((lMo a).eraseIdx i).length = (lMo a).length - 1 := List.length_eraseIdx_of_lt hi
    refine hq _ _ ⟨by rw [hlen], fun k hk => ?_, fun k k' hk hk' e => ?_, fun k hk => ?_⟩
    · rw [key]
      exact h2 _ (sb k hk)
    · rw [key, key] at e
      have e2 := h3 _ _ (sb k hk) (sb k' hk') e
      clear e key h4 hq hr
      grind
    · rw [hlen] at hk
      rw [ml_erase (by omega), key, if_neg (by omega)]
      by_cases e : k < i
      · rw [if_pos e, if_neg (by omega)]; exact h4 k (by omega)
      · rw [if_neg e, if_pos (by omega)]; exact h4 (k + 1) (by omega)
  · rw [hr, if_neg (by omega)]; exact h2 (j + 1) (by omega)
  · by_cases e : k = j
    · subst e; rw [va_up_self, hr, if_neg (by omega), if_pos (by omega)]
    · rw [va_up_ne _ _ e, hr]
      by_cases e2 : i ≤ k ∧ k < j
      · rw [if_pos e2, if_pos (by omega)]
      · rw [if_neg e2, if_neg (by omega)]
/-- the first tufts of a trail, up to a tuft -/
def upTo (t : Nat) (r : List Nat) : List Nat := r.take (r.idxOf t + 1)
theorem upTo_len {t : Nat} {r : List Nat} (h : t ∈ r) : (upTo t r).length = r.idxOf t + 1 := by
  have := List.idxOf_lt_length_iff.mpr h
  simp [upTo]; omega
def splitR (t : Nat) (r : List Nat) : Tu := if t ∈ r then [upTo t r, fromLast t r] else [r]
def splitT (t : Nat) (T : Tu) : Tu := T.flatMap (splitR t)
def dropT (t : Nat) (T : Tu) : Tu := T.filter (fun r => !decide (t ∈ r))
def cutsOf (t : Nat) (m : Ml) : Tu := if t ∈ mTr m ∧ (mTr m).idxOf t ≠ 0 then [upTo t (mTr m)] else []
def cutM (t : Nat) (m : Ml) : Ml := if t ∈ mTr m ∧ (mTr m).idxOf t ≠ 0 then (mPl m, fromLast t (mTr m), mAi m, mSt m) else m
def comesUp (a : Lw) (t : Nat) : Lw := (va_up (lMn a) t true, lOp a, lRt a, lTp a, splitT t (lTu a) ++ (lMo a).flatMap (cutsOf t), (lMo a).map (cutM t), lAi a, lBt a, lCa a, lGn a, lRi a + nI 1, lFa a)
def ensure (a : Lw) (t : Nat) : Lw := if lMn a t then a else comesUp a t
theorem fit_pre {A B : Tu} (h : fitT (A ++ B)) : fitT A := by
  unfold fitT at h ⊢
  rw [List.flatten_append, List.length_append, List.length_append] at h
  omega
theorem fit_add {A B : Tu} {L : List Nat} (h : fitT (A ++ L :: B)) : A.flatten.length + L.length ≤ 1024 ∧ A.length < 512 := by
  unfold fitT at h
  rw [List.flatten_append, List.length_append, List.length_append, List.flatten_cons, List.length_append, List.length_cons] at h
  omega
theorem ixI_nN {L : List Nat} {t : Nat} (hl : L.length < 2 ^ 31) : ixI L t = nN ↔ t ∉ L := by
  unfold ixI
  split
  · rename_i h
    have := List.idxOf_lt_length_iff.mpr h
    rw [nN_ne (by omega)]
    exact ⟨False.elim, fun q => q h⟩
  · rename_i h
    exact ⟨fun _ => h, fun _ => rfl⟩
theorem ixO_nN {L : List Nat} {o t : Nat} (hl : o + L.length < 2 ^ 31) : ixO o L t = nN ↔ t ∉ L := by
  unfold ixO
  split
  · rename_i h
    have := List.idxOf_lt_length_iff.mpr h
    rw [nN_ne (by omega)]
    exact ⟨False.elim, fun q => q h⟩
  · rename_i h
    exact ⟨fun _ => h, fun _ => rfl⟩
theorem ixI_le0 {L : List Nat} {t : Nat} (hl : L.length < 2 ^ 31) : ixI L t ≤ nI 0 ↔ ¬ (t ∈ L ∧ L.idxOf t ≠ 0) := by
  unfold ixI
  split
  · rename_i h
    have := List.idxOf_lt_length_iff.mpr h
    rw [nI_leI (by omega) (by omega)]
    constructor
    · intro q z; exact z.2 (by omega)
    · intro q
      have : ¬ L.idxOf t ≠ 0 := fun z => q ⟨h, z⟩
      omega
  · rename_i h
    rw [nN_le (by omega)]
    exact ⟨fun _ q => h q.1, fun _ => trivial⟩
theorem row_len_le {T : Tu} (hf : fitT T) {i : Nat} (hi : i < T.length) : off T i + (row T i).length ≤ 1024 := by
  have := off_row hi
  have := hf.1
  omega
theorem splitT_take {t : Nat} {T : Tu} {k : Nat} (h : k < T.length) : splitT t (T.take (k + 1)) = splitT t (T.take k) ++ splitR t (row T k) := by
  rw [row_take h]; simp [splitT]
theorem splitT_split {t : Nat} {T : Tu} {k : Nat} (h : k < T.length) : splitT t T = splitT t (T.take k) ++ (splitR t (row T k) ++ splitT t (T.drop (k + 1))) := by
  conv => lhs; rw [row_split h]
  simp [splitT]
theorem C_X0_splitTunnels {v : V_X0} {u : V_X3} {T : Tu} (h : CRows (X0_tunnels v) T) (hf : fitTu T) {t : Nat} (ht : t < 64) (hf2 : fitT (splitT t T)) {Q : (Nat → Int32) → (Nat → Int32) → Int32 → Int32 → V_X3 → Prop} (hq : ∀ uc ue us uu tu, CRows tu (splitT t T) → Q uc ue us uu tu) : wp_X0_splitTunnels v u (nI t) Q := by
  unfold wp_X0_splitTunnels wp_X0_splitTunnels_9
  refine C_X3_empty ?_
  have fl := hf.1.2
  refine ⟨fun y c e s u => ∃ k, y = nI k ∧ k ≤ T.length ∧ CRows (c, e, u, s) (splitT t (T.take k)), fun y c e s u => 2000 - y.toNatClampNeg, ⟨0, rfl, by omega, CRows_nil rfl rfl⟩, ?_⟩
  rintro _ c e s uu ⟨k, rfl, hk, hc⟩
  unfold wb_X0_splitTunnels_9
  rw [h.parts.2.2.1]
  simp (disch := omega) only [nI_lit, nN_eq, nI_add, pk_mul, pk_sub, nI_clamp, nI_leI, nI_ltI, nI_eq, nN_ne, nN_ne', nN_lt, nN_le, nN_nlt, nN_nle, nN_add, nN_in, nI_inI, nI_lt0, nN_clamp, bI_0, bI_1, true_implies, false_implies, not_true_eq_false, not_false_eq_true, true_and, and_true]
  refine ⟨fun q => ?_, fun q => ?_⟩
  · rw [List.take_of_length_le (by omega)] at hc
    exact C_X3_copyFrom hc hf2 (fun c e s u hc2 => hq _ _ _ _ _ hc2)
  · have hk2 : k < T.length := by omega
    have hb := fun x hx => (hf.2 _ (row_mem hk2)).2 x hx
    have hr := row_len_le hf.1 hk2
    have es := splitT_take (t := t) hk2
    have ea := splitT_split (t := t) hk2
    refine C_X3_firstIndex h hf.1 hk2 hb ht ?_
    rw [ixO_nN (by omega)]
    refine ⟨fun n => C_X3_from h hf.1 (by omega) (C_X3_to h hf.1 hk2 ?_), fun y => C_X3_from h hf.1 (by omega) ?_⟩
    · have er : splitR t (row T k) = [row T k] := by simp [splitR, n]
      rw [er] at es ea
      rw [ea] at hf2
      obtain ⟨z1, z2⟩ := fit_add (by simpa using hf2)
      refine C_X3_addRow hc (h.segr hk2) (off_s hk2) (by rw [off_s hk2]; omega) (by omega) z1 z2 (fun c e s u hc2 => ?_)
      exact ⟨⟨k + 1, rfl, by omega, by rw [es]; exact hc2⟩, by omega⟩
    · have y : t ∈ row T k := Classical.byContradiction y
      have hix := List.idxOf_lt_length_iff.mpr y
      have er : splitR t (row T k) = [upTo t (row T k), fromLast t (row T k)] := by simp [splitR, y]
      rw [er] at es ea
      rw [ea] at hf2
      obtain ⟨z1, z2⟩ := fit_add (by simpa using hf2)
      have hf3 : fitT ((splitT t (T.take k) ++ [upTo t (row T k)]) ++ fromLast t (row T k) :: splitT t (T.drop (k + 1))) := by simpa using hf2
      obtain ⟨z3, z4⟩ := fit_add hf3
      rw [ixO, if_pos y]
      simp (disch := omega) only [nI_lit, nN_eq, nI_add, pk_mul, pk_sub, nI_clamp, nI_leI, nI_ltI, nI_eq, nN_ne, nN_ne', nN_lt, nN_le, nN_nlt, nN_nle, nN_add, nN_in, nI_inI, nI_lt0, nN_clamp, bI_0, bI_1, true_implies, false_implies, not_true_eq_false, not_false_eq_true, true_and, and_true]
      refine C_X3_addRow hc (seg_take (h.segr hk2)) (L := upTo t (row T k)) (b := off T k + List.idxOf t (row T k) + 1) (by rw [upTo_len y]; omega) (by omega) (by omega) z1 z2 (fun c e s u hc2 => ?_)
      refine C_X3_lastIndex h hf.1 hk2 hb y (fun j hj ej => C_X3_to h hf.1 hk2 ?_)
      refine C_X3_addRow hc2 (L := fromLast t (row T k)) (by rw [ej]; exact seg_drop (h.segr hk2)) (by rw [off_s hk2, ej, List.length_drop]; omega) (by rw [off_s hk2]; omega) (by omega) z3 z4 (fun c e s u hc3 => ?_)
      exact ⟨⟨k + 1, rfl, by omega, by rw [es]; simpa using hc3⟩, by omega⟩
