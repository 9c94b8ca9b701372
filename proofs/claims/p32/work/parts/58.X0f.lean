/-! Raking off: two tunnels joined, or all that ended there gone. -/
theorem numT_2 (L : List Nat) : numT L (nI 2) = nI L.length := by
  unfold numT; rw [if_neg (by decide), if_neg (by decide)]
theorem at0_rev {L : List Nat} {k : Nat} (h : k < L.length) : at0 L.reverse k = at0 L (L.length - 1 - k) := by
  simp [at0, List.getElem?_reverse h]
def dirL (b : Bool) (L : List Nat) : List Nat := if b then L else L.reverse
theorem dirL_len (b : Bool) (L : List Nat) : (dirL b L).length = L.length := by
  unfold dirL; split <;> simp
theorem dirL_t (L : List Nat) : dirL true L = L := rfl
theorem dirL_f (L : List Nat) : dirL false L = L.reverse := rfl
def joinR (t : Nat) (L1 L2 : List Nat) : List Nat := dirL (lastOf L1 == t) L1 ++ (dirL (at0 L2 0 == t) L2).tail
theorem take_s {L : List Nat} {k : Nat} (h : k < L.length) : L.take (k + 1) = L.take k ++ [at0 L k] := by
  rw [show at0 L k = L[k] by simp [at0, h], List.take_append_getElem h]
theorem C_X0_putJoined {v : V_X0} {u : V_X3} {T T0 : Tu} (h : CRows (X0_tunnels v) T) (hf : fitTu T) (hu : CRows u T0) {i j t : Nat} (hi : i < T.length) (hj : j < T.length) (ht : t < 64) (hfit : T0.flatten.length + (joinR t (row T i) (row T j)).length ≤ 1024 ∧ T0.length < 512) {Q : (Nat → Int32) → (Nat → Int32) → Int32 → Int32 → Prop} (hq : ∀ c e s u, CRows (c, e, u, s) (T0 ++ [joinR t (row T i) (row T j)]) → Q c e s u) : wp_X0_putJoined v u (nI i) (nI j) (nI t) Q := by
  have r1 := hf.2 _ (row_mem hi)
  have r2 := hf.2 _ (row_mem hj)
  have b1 := r1.2 _ (lastOf_mem r1.1)
  have b2 := r2.2 _ (first_mem r2.1)
  have l1 := row_fit hf.1 hi
  have l2 := row_fit hf.1 hj
  have p1 := List.length_pos_iff.mpr r1.1
  have p2 := List.length_pos_iff.mpr r2.1
  have hlen : (joinR t (row T i) (row T j)).length = (row T i).length + ((row T j).length - 1) := by
    unfold joinR
    rw [List.length_append, dirL_len, List.length_tail, dirL_len]
  have loop2 : ∀ c us, CPart (c, X3_ends u, us, X3_size u) T0 (dirL (lastOf (row T i) == t) (row T i)) → ∀ b, b = (at0 (row T j) 0 == t) → wp_X0_putJoined_111 v u (nI i) (nI j) (nI t) (nI (row T j).length) (bI b) (nI 1) c us Q := by
    intro c us hc b hb
    unfold wp_X0_putJoined_111
    refine ⟨fun y c us => ∃ k, y = nI k ∧ 1 ≤ k ∧ k ≤ (row T j).length ∧ CPart (c, X3_ends u, us, X3_size u) T0 (dirL (lastOf (row T i) == t) (row T i) ++ (dirL b (row T j)).tail.take (k - 1)), fun y _ _ => 2000 - y.toNatClampNeg, ⟨1, rfl, by omega, by omega, by simpa using hc⟩, ?_⟩
    rintro _ c us ⟨k, rfl, hk1, hk, hc⟩
    unfold wb_X0_putJoined_111
    simp (disch := omega) only [nI_lit, nN_eq, nI_add, pk_mul, pk_sub, nI_clamp, nI_leI, nI_ltI, nI_eq, nN_ne, nN_ne', nN_lt, nN_le, nN_nlt, nN_nle, nN_add, nN_in, nI_inI, nI_lt0, nN_clamp, bI_0, bI_1, true_implies, false_implies, not_true_eq_false, not_false_eq_true, true_and, and_true]
    refine ⟨fun q => ?_, fun q => ?_⟩
    · rw [List.take_of_length_le (by rw [List.length_tail, dirL_len]; omega), hb] at hc
      exact C_X3_close hc hfit.2 (fun e s hc2 => hq _ _ _ _ hc2)
    · have step : ∀ idx, idx < (row T j).length → at0 (row T j) idx = at0 (dirL b (row T j)) k → wp_X0_putJoined_144 v u (nI i) (nI j) (nI t) (nI (row T j).length) (bI b) (nI k) c us (fun y c us => (∃ k, y = nI k ∧ 1 ≤ k ∧ k ≤ (row T j).length ∧ CPart (c, X3_ends u, us, X3_size u) T0 (dirL (lastOf (row T i) == t) (row T i) ++ (dirL b (row T j)).tail.take (k - 1))) ∧ 2000 - y.toNatClampNeg < 2000 - k) (nI idx) (nI j) Q := by
        intro idx hidx hat
        unfold wp_X0_putJoined_144
        refine C_X3_at h hf.1 hj ?_
        rw [atI_in (by omega) hidx]
        refine C_X3_put hc ?_ (fun c us hc2 => ⟨⟨k + 1, by simp (disch := omega) only [nI_lit, nN_eq, nI_add, pk_mul, pk_sub, nI_clamp, nI_leI, nI_ltI, nI_eq, nN_ne, nN_ne', nN_lt, nN_le, nN_nlt, nN_nle, nN_add, nN_in, nI_inI, nI_lt0, nN_clamp, bI_0, bI_1, true_implies, false_implies, not_true_eq_false, not_false_eq_true, true_and, and_true], by omega, by omega, ?_⟩, by simp (disch := omega) only [nI_lit, nN_eq, nI_add, pk_mul, pk_sub, nI_clamp, nI_leI, nI_ltI, nI_eq, nN_ne, nN_ne', nN_lt, nN_le, nN_nlt, nN_nle, nN_add, nN_in, nI_inI, nI_lt0, nN_clamp, bI_0, bI_1, true_implies, false_implies, not_true_eq_false, not_false_eq_true, true_and, and_true]; omega⟩)
        · rw [List.length_append, dirL_len, List.length_take, List.length_tail, dirL_len]; omega
        · have e : (dirL b (row T j)).tail.take (k + 1 - 1) = (dirL b (row T j)).tail.take (k - 1) ++ [at0 (row T j) idx] := by
            rw [show k + 1 - 1 = (k - 1) + 1 by omega, take_s (by rw [List.length_tail, dirL_len]; omega), at0_tail, hat, show k - 1 + 1 = k by omega]
          rw [e, ← List.append_assoc]
          exact hc2
      refine ⟨fun e => ?_, fun e => ?_⟩
      · rw [pk_sub (by omega)]
        refine step _ (by omega) ?_
        rw [e, dirL_f, at0_rev (by omega)]
      · have e : b = true := by simpa using e
        refine step _ (by omega) ?_
        rw [e, dirL_t]
  have loop1 : ∀ b, b = (lastOf (row T i) == t) → wp_X0_putJoined_33 v u (nI i) (nI j) (nI t) (nI (row T i).length) (bI b) (nI 0) (X3_cells u) (X3_used u) Q := by
    intro b hb
    unfold wp_X0_putJoined_33
    refine ⟨fun y c us => ∃ k, y = nI k ∧ k ≤ (row T i).length ∧ CPart (c, X3_ends u, us, X3_size u) T0 ((dirL b (row T i)).take k), fun y _ _ => 2000 - y.toNatClampNeg, ⟨0, rfl, by omega, hu⟩, ?_⟩
    rintro _ c us ⟨k, rfl, hk, hc⟩
    unfold wb_X0_putJoined_33
    simp (disch := omega) only [nI_lit, nN_eq, nI_add, pk_mul, pk_sub, nI_clamp, nI_leI, nI_ltI, nI_eq, nN_ne, nN_ne', nN_lt, nN_le, nN_nlt, nN_nle, nN_add, nN_in, nI_inI, nI_lt0, nN_clamp, bI_0, bI_1, true_implies, false_implies, not_true_eq_false, not_false_eq_true, true_and, and_true]
    refine ⟨fun q => ?_, fun q => ?_⟩
    · rw [List.take_of_length_le (by rw [dirL_len]; omega), hb] at hc
      refine C_X3_number h hf.1 hj r2.1 ?_
      rw [numT_2]
      refine C_X3_first h hf.1 hj r2.1 ?_
      simp (disch := omega) only [nI_lit, nN_eq, nI_add, pk_mul, pk_sub, nI_clamp, nI_leI, nI_ltI, nI_eq, nN_ne, nN_ne', nN_lt, nN_le, nN_nlt, nN_nle, nN_add, nN_in, nI_inI, nI_lt0, nN_clamp, bI_0, bI_1, true_implies, false_implies, not_true_eq_false, not_false_eq_true, true_and, and_true]
      refine ⟨fun e => ?_, fun e => ?_⟩
      · exact loop2 c us hc true (by simp [e])
      · exact loop2 c us hc false (by simp [e])
    · have step : ∀ idx, idx < (row T i).length → at0 (row T i) idx = at0 (dirL b (row T i)) k → wp_X0_putJoined_66 v u (nI i) (nI j) (nI t) (nI (row T i).length) (bI b) (nI k) c us (fun y c us => (∃ k, y = nI k ∧ k ≤ (row T i).length ∧ CPart (c, X3_ends u, us, X3_size u) T0 ((dirL b (row T i)).take k)) ∧ 2000 - y.toNatClampNeg < 2000 - k) (nI idx) (nI i) Q := by
        intro idx hidx hat
        unfold wp_X0_putJoined_66
        refine C_X3_at h hf.1 hi ?_
        rw [atI_in (by omega) hidx]
        refine C_X3_put hc ?_ (fun c us hc2 => ⟨⟨k + 1, by simp (disch := omega) only [nI_lit, nN_eq, nI_add, pk_mul, pk_sub, nI_clamp, nI_leI, nI_ltI, nI_eq, nN_ne, nN_ne', nN_lt, nN_le, nN_nlt, nN_nle, nN_add, nN_in, nI_inI, nI_lt0, nN_clamp, bI_0, bI_1, true_implies, false_implies, not_true_eq_false, not_false_eq_true, true_and, and_true], by omega, ?_⟩, by simp (disch := omega) only [nI_lit, nN_eq, nI_add, pk_mul, pk_sub, nI_clamp, nI_leI, nI_ltI, nI_eq, nN_ne, nN_ne', nN_lt, nN_le, nN_nlt, nN_nle, nN_add, nN_in, nI_inI, nI_lt0, nN_clamp, bI_0, bI_1, true_implies, false_implies, not_true_eq_false, not_false_eq_true, true_and, and_true]; omega⟩)
        · rw [List.length_take, dirL_len]; omega
        · rw [take_s (by rw [dirL_len]; omega), ← hat]
          exact hc2
      refine ⟨fun e => ?_, fun e => ?_⟩
      · rw [pk_sub (by omega)]
        refine step _ (by omega) ?_
        rw [e, dirL_f, at0_rev (by omega)]
      · have e : b = true := by simpa using e
        refine step _ (by omega) ?_
        rw [e, dirL_t]
  unfold wp_X0_putJoined
  refine C_X3_number h hf.1 hi r1.1 ?_
  simp only [nI_lit]
  rw [numT_2]
  refine C_X3_last h hf.1 hi r1.1 ?_
  simp (disch := omega) only [nI_lit, nN_eq, nI_add, pk_mul, pk_sub, nI_clamp, nI_leI, nI_ltI, nI_eq, nN_ne, nN_ne', nN_lt, nN_le, nN_nlt, nN_nle, nN_add, nN_in, nI_inI, nI_lt0, nN_clamp, bI_0, bI_1, true_implies, false_implies, not_true_eq_false, not_false_eq_true, true_and, and_true]
  exact ⟨fun e => loop1 true (by simp [e]), fun e => loop1 false (by simp [e])⟩
/-- a list made piece by piece -/
def build (n : Nat) (f : Nat → Tu) : Tu := (List.range n).flatMap f
theorem build_s (n : Nat) (f : Nat → Tu) : build (n + 1) f = build n f ++ f n := by
  simp [build, List.range_succ]
theorem build_split (f : Nat → Tu) {k : Nat} : ∀ {n : Nat}, k ≤ n → ∃ R, build n f = build k f ++ R
  | 0, h => ⟨[], by rw [show k = 0 by omega]; simp⟩
  | n + 1, h => by
    by_cases e : k = n + 1
    · exact ⟨[], by rw [e]; simp⟩
    · obtain ⟨R, hR⟩ := build_split f (k := k) (n := n) (by omega)
      exact ⟨R ++ f n, by rw [build_s, hR, List.append_assoc]⟩
def joinF (T : Tu) (i j t : Nat) (k : Nat) : Tu := if k = i then [joinR t (row T i) (row T j)] else if k = j then [] else [row T k]
def joinT (T : Tu) (i j t : Nat) : Tu := build T.length (joinF T i j t)
theorem C_X0_joinTunnels {v : V_X0} {u : V_X3} {T : Tu} (h : CRows (X0_tunnels v) T) (hf : fitTu T) {i j t : Nat} (hi : i < T.length) (hj : j < T.length) (ht : t < 64) (hfit : fitT (joinT T i j t)) {Q : (Nat → Int32) → (Nat → Int32) → Int32 → Int32 → V_X3 → Prop} (hq : ∀ uc ue us uu tu, CRows tu (joinT T i j t) → Q uc ue us uu tu) : wp_X0_joinTunnels v u (nI i) (nI j) (nI t) Q := by
  unfold wp_X0_joinTunnels wp_X0_joinTunnels_10
  refine C_X3_empty ?_
  have fl := hf.1.2
  refine ⟨fun y c e s u => ∃ k, y = nI k ∧ k ≤ T.length ∧ CRows (c, e, u, s) (build k (joinF T i j t)), fun y c e s u => 2000 - y.toNatClampNeg, ⟨0, rfl, by omega, CRows_nil rfl rfl⟩, ?_⟩
  rintro _ c e s uu ⟨k, rfl, hk, hc⟩
  unfold wb_X0_joinTunnels_10
  rw [h.parts.2.2.1]
  simp (disch := omega) only [nI_lit, nN_eq, nI_add, pk_mul, pk_sub, nI_clamp, nI_leI, nI_ltI, nI_eq, nN_ne, nN_ne', nN_lt, nN_le, nN_nlt, nN_nle, nN_add, nN_in, nI_inI, nI_lt0, nN_clamp, bI_0, bI_1, true_implies, false_implies, not_true_eq_false, not_false_eq_true, true_and, and_true]
  refine ⟨fun q => ?_, fun q => ?_⟩
  · have : k = T.length := by omega
    subst this
    exact C_X3_copyFrom hc hfit (fun c e s u hc2 => hq _ _ _ _ _ hc2)
  · have hk2 : k < T.length := by omega
    have hr := row_len_le hf.1 hk2
    have es := build_s k (joinF T i j t)
    obtain ⟨R, hR⟩ := build_split (joinF T i j t) (k := k + 1) (n := T.length) hk2
    have hz : fitT (build k (joinF T i j t) ++ (joinF T i j t k ++ R)) := by
      rw [← List.append_assoc, ← es, ← hR]; exact hfit
    refine ⟨fun e => ?_, fun e => ⟨fun e2 => ?_, fun e2 => C_X3_from h hf.1 (by omega) (C_X3_to h hf.1 hk2 ?_)⟩⟩
    · have ef : joinF T i j t k = [joinR t (row T i) (row T j)] := if_pos e
      rw [ef] at es hz
      refine C_X0_putJoined h hf hc hi hj ht (fit_add hz) (fun c e s u hc2 => ?_)
      exact ⟨⟨k + 1, rfl, by omega, by rw [es]; exact hc2⟩, by omega⟩
    · have ef : joinF T i j t k = [] := by rw [joinF, if_neg e, if_pos e2]
      rw [ef, List.append_nil] at es
      exact ⟨⟨k + 1, rfl, by omega, by rw [es]; exact hc⟩, by omega⟩
    · have ef : joinF T i j t k = [row T k] := by rw [joinF, if_neg e, if_neg e2]
      rw [ef] at es hz
      obtain ⟨z1, z2⟩ := fit_add hz
      refine C_X3_addRow hc (h.segr hk2) (off_s hk2) (by rw [off_s hk2]; omega) (by omega) z1 z2 (fun c e s u hc2 => ?_)
      exact ⟨⟨k + 1, rfl, by omega, by rw [es]; exact hc2⟩, by omega⟩
/-- the first tunnel from a place on that ends at a tuft -/
def nextE (T : Tu) (t i : Nat) : Nat := i + (T.drop i).findIdx (fun r => endA r t)
theorem nextE_of {T : Tu} {t i k : Nat} (h0 : i ≤ k) (hk : k < T.length) (hz : ∀ j, i ≤ j → j < k → endA (row T j) t = false) (he : endA (row T k) t = true) : nextE T t i = k := by
  have hr : ∀ j, j < T.length → (T.drop i)[j - i]? = some (row T j) ∨ j < i := fun j hj => by
    by_cases q : j < i
    · exact Or.inr q
    · left
      rw [List.getElem?_drop, show i + (j - i) = j by omega]
      simp [row, hj]
  have : (T.drop i).findIdx (fun r => endA r t) = k - i := by
    rw [List.findIdx_eq (by simp; omega)]
    constructor
    · have h1 := (hr k hk).resolve_right (by omega)
      obtain ⟨z1, z2⟩ := List.getElem?_eq_some_iff.mp h1
      rw [z2]; exact he
    · intro j hj
      have h1 := (hr (j + i) (by omega)).resolve_right (by omega)
      rw [Nat.add_sub_cancel] at h1
      obtain ⟨z1, z2⟩ := List.getElem?_eq_some_iff.mp h1
      rw [z2]; exact hz (j + i) (by omega) (by omega)
  unfold nextE
  rw [this]; omega
theorem nextE_none {T : Tu} {t i : Nat} (h0 : i ≤ T.length) (hz : ∀ j, i ≤ j → j < T.length → endA (row T j) t = false) : nextE T t i = T.length := by
  have : (T.drop i).findIdx (fun r => endA r t) = (T.drop i).length := by
    rw [List.findIdx_eq_length]
    intro r hr
    obtain ⟨j, hj, e⟩ := List.mem_iff_getElem.mp hr
    have hj2 : i + j < T.length := by simp at hj; omega
    have h1 := hz (i + j) (by omega) hj2
    have : row T (i + j) = r := by
      rw [← e]
      simp [row, hj2]
    rwa [this] at h1
  unfold nextE
  rw [this, List.length_drop]; omega
def rakeB (T : Tu) (t : Nat) : Bool := decide (nextE T t 0 < T.length) && (decide (nextE T t (nextE T t 0 + 1) < T.length) && (decide (nextE T t (nextE T t (nextE T t 0 + 1) + 1) = T.length) && decide (otherE (row T (nextE T t 0)) t ≠ otherE (row T (nextE T t (nextE T t 0 + 1))) t)))
def unMound (a : Lw) (t : Nat) : Lw := (va_up (lMn a) t false, lOp a, lRt a, lTp a, lTu a, lMo a, lAi a, lBt a, lCa a, lGn a, lRi a, lFa a)
def withTu (a : Lw) (T : Tu) : Lw := (lMn a, lOp a, lRt a, lTp a, T, lMo a, lAi a, lBt a, lCa a, lGn a, lRi a, lFa a)
def raked (a : Lw) (t : Nat) : Lw := if rakeB (lTu a) t then withTu (unMound a t) (joinT (lTu a) (nextE (lTu a) t 0) (nextE (lTu a) t (nextE (lTu a) t 0 + 1)) t) else dropTun (unMound a t) t
theorem otherE_lt {r : List Nat} (h : r ≠ []) (hb : ∀ x ∈ r, x < 64) (t : Nat) : otherE r t < 64 := by
  unfold otherE
  split
  · exact hb _ (lastOf_mem h)
  · exact hb _ (first_mem h)
theorem C_X0_rakeOff {v : V_X0} {u : V_X3} {a : Lw} (h : CLawn v a) (hf : fitL a) {t : Nat} (ht : t < 64) (hfit : rakeB (lTu a) t = true → fitT (joinT (lTu a) (nextE (lTu a) t 0) (nextE (lTu a) t (nextE (lTu a) t 0 + 1)) t)) {Q : Int32 → (Nat → Int32) → (Nat → Int32) → Int32 → Int32 → Int32 → (Nat → Int32) → V_X3 → Prop} (hq : ∀ uc ue us uu fa mn tu, CLawn (mn, X0_opened v, X0_roots v, X0_traps v, tu, X0_molesR v, X0_moles v, X0_moleCount v, X0_fullAir v, X0_beats v, X0_caught v, X0_gnawed v, X0_risen v, fa) (raked a t) → Q (nI (lTu a).length - nI (lTu (raked a t)).length) uc ue us uu fa mn tu) : wp_X0_rakeOff v u (nI t) Q := by
  obtain ⟨h1, h2, h3, h4, h5, h6, h7, h8, h9, h10, h11, h12⟩ := h
  have hf1 := hf.1
  have fl := hf1.1.2
  have hr : ∀ r ∈ lTu a, r ≠ [] := fun r m => (hf1.2 r m).1
  have hb : ∀ r ∈ lTu a, ∀ x ∈ r, x < 64 := fun r m => (hf1.2 r m).2
  have hun : CLawn (upd (X0_mounds v) t (nI 0), X0_opened v, X0_roots v, X0_traps v, X0_tunnels v, X0_molesR v, X0_moles v, X0_moleCount v, X0_fullAir v, X0_beats v, X0_caught v, X0_gnawed v, X0_risen v, X0_fallen v) (unMound a t) := ⟨upB h1 t false rfl, h2, h3, h4, h5, h6, h7, h8, h9, h10, h11, h12⟩
  have drop : rakeB (lTu a) t = false → wp_X0_rakeOff_114 v u (nI t) (nI (lTu a).length) (X3_cells u) (X3_ends u) (X3_size u) (X3_used u) (upd (X0_mounds v) t (nI 0)) (X0_tunnels v) Q := by
    intro hB
    have er : raked a t = dropTun (unMound a t) t := by rw [raked, if_neg (by rw [hB]; decide)]
    unfold wp_X0_rakeOff_114
    refine C_X0_dropTunnels (v := (upd (X0_mounds v) t (nI 0), X0_opened v, X0_roots v, X0_traps v, X0_tunnels v, X0_molesR v, X0_moles v, X0_moleCount v, X0_fullAir v, X0_beats v, X0_caught v, X0_gnawed v, X0_risen v, X0_fallen v)) (a := unMound a t) hun hf1 ht (fun uc ue us uu fa tu hL => ?_)
    have := hq uc ue us uu fa (upd (X0_mounds v) t (nI 0)) tu (by rw [er]; exact hL)
    rw [er] at this
    have es : X3_size tu = nI (lTu (dropTun (unMound a t) t)).length := hL.2.2.2.2.1.parts.2.2.1
    rw [es]
    exact this
  have hrow := fun k (hk : k < (lTu a).length) => row_mem hk
  unfold wp_X0_rakeOff
  rw [h5.parts.2.2.1]
  simp (disch := omega) only [nI_lit, nN_eq, nI_clamp, nI_inI]
  refine ⟨ht, C_X3_endingAt h5 hf1.1 hr hb ht (Nat.zero_le _) (fun hz => ?_) (fun i hi0 hi hzi hei => ?_)⟩
  · refine ⟨fun _ => ?_, fun q => (q (by trivial)).elim⟩
    unfold wp_X0_rakeOff_45
    simp only [nI_lit, nN_eq]
    refine ⟨fun _ => ?_, fun q => (q (by trivial)).elim⟩
    unfold wp_X0_rakeOff_73 wp_X0_rakeOff_74
    simp only [nI_lit]
    refine ⟨fun _ => drop ?_, fun q => (q (by trivial)).elim⟩
    have := nextE_none (t := t) (Nat.zero_le _) hz
    simp [rakeB, this]
  · have e1 : nextE (lTu a) t 0 = i := nextE_of (Nat.zero_le _) hi hzi hei
    refine ⟨fun q => ((nN_ne (by omega)).mp q).elim, fun _ => ?_⟩
    simp only [nI_add]
    refine C_X3_endingAt h5 hf1.1 hr hb ht (by omega) (fun hz => ?_) (fun j hj0 hj hzj hej => ?_)
    · unfold wp_X0_rakeOff_45
      simp only [nI_lit, nN_eq]
      refine ⟨fun _ => ?_, fun q => (q (by trivial)).elim⟩
      unfold wp_X0_rakeOff_73 wp_X0_rakeOff_74
      simp only [nI_lit]
      refine ⟨fun _ => drop ?_, fun q => (q (by trivial)).elim⟩
      have := nextE_none (t := t) (i := i + 1) (by omega) hz
      simp [rakeB, e1, this]
    · have e2 : nextE (lTu a) t (i + 1) = j := nextE_of hj0 hj hzj hej
      unfold wp_X0_rakeOff_45
      simp only [nI_lit, nN_eq, nI_add]
      refine ⟨fun q => ((nN_ne (by omega)).mp q).elim, fun _ => ?_⟩
      refine C_X3_endingAt h5 hf1.1 hr hb ht (by omega) (fun hz => ?_) (fun k hk0 hk hzk hek => ?_)
      · have e3 : nextE (lTu a) t (j + 1) = (lTu a).length := nextE_none (by omega) hz
        refine ⟨fun _ => ?_, fun q => (q (by trivial)).elim⟩
        unfold wp_X0_rakeOff_74
        simp only [nI_lit]
        refine ⟨fun q => absurd q (by decide), fun _ => ?_⟩
        refine C_X3_otherEnd h5 hf1.1 hi (hr _ (hrow i hi)) (hb _ (hrow i hi)) ht (C_X3_otherEnd h5 hf1.1 hj (hr _ (hrow j hj)) (hb _ (hrow j hj)) ht ?_)
        have o1 := otherE_lt (hr _ (hrow i hi)) (hb _ (hrow i hi)) t
        have o2 := otherE_lt (hr _ (hrow j hj)) (hb _ (hrow j hj)) t
        simp (disch := omega) only [nI_lit, nN_eq, nI_add, pk_mul, pk_sub, nI_clamp, nI_leI, nI_ltI, nI_eq, nN_ne, nN_ne', nN_lt, nN_le, nN_nlt, nN_nle, nN_add, nN_in, nI_inI, nI_lt0, nN_clamp, bI_0, bI_1, true_implies, false_implies, not_true_eq_false, not_false_eq_true, true_and, and_true]
        refine ⟨fun e => drop ?_, fun e => ?_⟩
        · simp [rakeB, e1, e2, e]
        · have hB : rakeB (lTu a) t = true := by
            simp [rakeB, e1, e2, e3, hi, hj, e]
          have er : raked a t = withTu (unMound a t) (joinT (lTu a) i j t) := by
            rw [raked, if_pos hB, e1, e2]
          have hfz := hfit hB
          rw [e1, e2] at hfz
          refine C_X0_joinTunnels (v := X0_s0 v (upd (X0_mounds v) t (nI 0))) h5 hf1 hi hj ht hfz (fun uc ue us uu tu htu => ?_)
          obtain ⟨q1, q2, q3, q4, q5, q6⟩ := hun
          have := hq uc ue us uu (X0_fallen v) (upd (X0_mounds v) t (nI 0)) tu (by rw [er]; exact ⟨q1, q2, q3, q4, htu, q6⟩)
          rw [er] at this
          have es : X3_size tu = nI (joinT (lTu a) i j t).length := htu.parts.2.2.1
          rw [es]
          exact this
      · have e3 : nextE (lTu a) t (j + 1) = k := nextE_of hk0 hk hzk hek
        refine ⟨fun q => ((nN_ne (by omega)).mp q).elim, fun _ => ?_⟩
        unfold wp_X0_rakeOff_73 wp_X0_rakeOff_74
        simp only [nI_lit]
        refine ⟨fun _ => drop ?_, fun q => (q (by trivial)).elim⟩
        have : k ≠ (lTu a).length := by omega
        simp [rakeB, e1, e2, e3, this]
