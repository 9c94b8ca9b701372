/-! The reference's moles. -/
theorem of_eq (a b : Int32) (Q : Int32 → Prop) : wp_X7_of a b Q = Q ((264 + (46 * a)) + b) := rfl
def MMole (s : Nat → Int32) (i : Nat) (m : Ml) (p : Nat) : Prop := s (264 + 46 * i + 0) = nI p ∧ s (264 + 46 * i + 1) = nI (mAi m) ∧ s (264 + 46 * i + 2) = nI (mPl m).length ∧ seg s (264 + 46 * i + 3) (mPl m) ∧ s (264 + 46 * i + 23) = nI (mTr m).length ∧ seg s (264 + 46 * i + 24) (mTr m) ∧ s (264 + 46 * i + 45) = mSt m
def okP (m : Ml) : Prop := (mPl m).length ≤ 20 ∧ (mTr m).length ≤ 21 ∧ (∀ x ∈ mTr m, x < 64) ∧ (∀ d ∈ mPl m, d < 4) ∧ mAi m ≤ 20
theorem okM.P {m : Ml} (h : okM m) : okP m := ⟨h.1.1, h.1.2.2, h.2.1, h.2.2.1, h.2.2.2⟩
theorem MMole.of {s s' : Nat → Int32} {i : Nat} {m : Ml} {p : Nat} (h : MMole s i m p) (ok : okP m) (e : ∀ q, 264 + 46 * i ≤ q → q < 310 + 46 * i → s' q = s q) : MMole s' i m p := by
  obtain ⟨h1, h2, h3, h4, h5, h6, h7⟩ := h
  obtain ⟨o1, o2, -⟩ := ok
  refine ⟨?_, ?_, ?_, ?_, ?_, ?_, ?_⟩
  · rw [e _ (by omega) (by omega), h1]
  · rw [e _ (by omega) (by omega), h2]
  · rw [e _ (by omega) (by omega), h3]
  · exact seg_of h4 (fun k hk => e _ (by omega) (by omega))
  · rw [e _ (by omega) (by omega), h5]
  · exact seg_of h6 (fun k hk => e _ (by omega) (by omega))
  · rw [e _ (by omega) (by omega), h7]
def MMsP (s : Nat → Int32) (M : List Ml) (pl : Nat → Nat) : Prop := s 1 = nI M.length ∧ (∀ i, i < M.length → MMole s i (mlA M i) (pl i)) ∧ ∀ i, M.length ≤ i → i < 4 → s (264 + 46 * i + 2) = nI 0 ∧ s (264 + 46 * i + 45) = nI 0
def plM (M : List Ml) (i : Nat) : Nat := lastOf (mTr (mlA M i))
def MMs (s : Nat → Int32) (M : List Ml) : Prop := MMsP s M (plM M)
def fitMP (M : List Ml) : Prop := M.length ≤ 4 ∧ ∀ m ∈ M, okP m
theorem fitMs.P {M : List Ml} (h : fitMs M) : fitMP M := ⟨h.1, fun m hm => (h.2 m hm).P⟩
theorem MMsP.of {s s' : Nat → Int32} {M : List Ml} {pl : Nat → Nat} (h : MMsP s M pl) (ok : fitMP M) (e1 : s' 1 = s 1) (e : ∀ q, 264 ≤ q → q < 448 → s' q = s q) : MMsP s' M pl := by
  obtain ⟨h1, h2, h3⟩ := h
  have := ok.1
  refine ⟨by rw [e1, h1], fun i hi => (h2 i hi).of (ok.2 _ (mlA_mem hi)) (fun q a b => e q (by omega) (by omega)), fun i hi hi4 => ?_⟩
  rw [e _ (by omega) (by omega), e _ (by omega) (by omega)]
  exact h3 i hi hi4
/-- one mole changed -/
theorem MMsP.set {s s' : Nat → Int32} {M : List Ml} {pl pl' : Nat → Nat} (h : MMsP s M pl) (ok : fitMP M) {i : Nat} (hi : i < M.length) {m : Ml} (hm : MMole s' i m (pl' i)) (hpl : ∀ j, j ≠ i → pl' j = pl j) (e1 : s' 1 = s 1) (e : ∀ q, 264 ≤ q → q < 448 → (q < 264 + 46 * i ∨ 310 + 46 * i ≤ q) → s' q = s q) : MMsP s' (M.set i m) pl' := by
  obtain ⟨h1, h2, h3⟩ := h
  have := ok.1
  refine ⟨by rw [e1, h1, List.length_set], fun j hj => ?_, fun j hj hj4 => ?_⟩
  · rw [List.length_set] at hj
    rw [mlA_set hj]
    by_cases z : i = j
    · subst z; rw [if_pos rfl]; exact hm
    · rw [if_neg z, hpl j (fun q => z q.symm)]
      exact (h2 j hj).of (ok.2 _ (mlA_mem hj)) (fun q a b => e q (by omega) (by omega) (by omega))
  · rw [List.length_set] at hj
    rw [e _ (by omega) (by omega) (by omega), e _ (by omega) (by omega) (by omega)]
    exact h3 j hj hj4
theorem MMole.tr {s : Nat → Int32} {i : Nat} {m : Ml} {p : Nat} (h : MMole s i m p) {k : Nat} (hk : k < (mTr m).length) : s (264 + 46 * i + (24 + k)) = nI (at0 (mTr m) k) := by
  rw [← Nat.add_assoc]; exact h.2.2.2.2.2.1 k hk
theorem MMole.pl {s : Nat → Int32} {i : Nat} {m : Ml} {p : Nat} (h : MMole s i m p) {k : Nat} (hk : k < (mPl m).length) : s (264 + 46 * i + (3 + k)) = nI (at0 (mPl m) k) := by
  rw [← Nat.add_assoc]; exact h.2.2.2.1 k hk
theorem M_inTrail {v : V_X7} {i : Nat} {m : Ml} {p : Nat} (h : MMole (X7_s v) i m p) (ok : okP m) (hi : i < 4) {t : Nat} (ht : t < 64) {Q : Int32 → Prop} (hq : Q (ixI (mTr m) t)) : wp_X7_inTrail v (nI i) (nI t) (nI 0) Q := by
  obtain ⟨o1, o2, o3, -⟩ := ok
  unfold wp_X7_inTrail wp_X7_inTrail_6
  refine ⟨fun f y => ∃ j, y = nI j ∧ j ≤ (mTr m).length ∧ ((f = nN ∧ ∀ i, i < j → at0 (mTr m) i ≠ t) ∨ (t ∈ mTr m ∧ f = nI ((mTr m).idxOf t) ∧ (mTr m).idxOf t < j)), fun f y => 2000 - y.toNatClampNeg, ⟨0, rfl, by omega, Or.inl ⟨rfl, fun i hi => by omega⟩⟩, ?_⟩
  rintro f _ ⟨j, rfl, hj, hc⟩
  unfold wb_X7_inTrail_6
  simp (disch := omega) only [of_eq, nI_lit, nI_add, pk_mul, nI_clamp, nI_inI]
  rw [h.2.2.2.2.1]
  simp (disch := omega) only [nI_lit, nN_eq, nI_add, pk_mul, pk_sub, nI_clamp, nI_leI, nI_ltI, nI_eq, nN_ne, nN_ne', nN_lt, nN_le, nN_nlt, nN_nle, nN_add, nN_in, nI_inI, nI_lt0, nN_clamp, bI_0, bI_1, true_implies, false_implies, not_true_eq_false, not_false_eq_true, true_and, and_true]
  refine ⟨by omega, fun q => ?_, fun q => ⟨by omega, ?_⟩⟩
  · rcases hc with ⟨rfl, hn⟩ | ⟨hm, rfl, hi⟩
    · have : t ∉ mTr m := idx_none (fun i hi => hn i (by omega))
      rw [ixI, if_neg this] at hq; exact hq
    · rw [ixI, if_pos hm] at hq; exact hq
  · have hj2 : j < (mTr m).length := by omega
    have hx := o3 _ (at0_mem hj2)
    rw [h.tr hj2]
    simp (disch := omega) only [nI_lit, nN_eq, nI_add, pk_mul, pk_sub, nI_clamp, nI_leI, nI_ltI, nI_eq, nN_ne, nN_ne', nN_lt, nN_le, nN_nlt, nN_nle, nN_add, nN_in, nI_inI, nI_lt0, nN_clamp, bI_0, bI_1, true_implies, false_implies, not_true_eq_false, not_false_eq_true, true_and, and_true]
    refine ⟨fun e => ?_, fun e => ?_⟩
    · rcases hc with ⟨rfl, hn⟩ | ⟨hm, rfl, hi⟩
      · refine ⟨fun _ => ⟨⟨j + 1, rfl, by omega, Or.inr ?_⟩, by omega⟩, fun q => (q (by trivial)).elim⟩
        obtain ⟨z1, z2⟩ := idx_of hj2 e hn
        exact ⟨z1, by rw [z2], by omega⟩
      · refine ⟨fun q => ((nN_ne (by omega)).mp q).elim, fun _ => ⟨⟨j + 1, rfl, by omega, Or.inr ⟨hm, rfl, by omega⟩⟩, by omega⟩⟩
    · refine ⟨⟨j + 1, rfl, by omega, ?_⟩, by omega⟩
      rcases hc with ⟨rfl, hn⟩ | ⟨hm, rfl, hi⟩
      · refine Or.inl ⟨rfl, fun i hi => ?_⟩
        by_cases z : i = j
        · rw [z]; exact e
        · exact hn i (by omega)
      · exact Or.inr ⟨hm, rfl, by omega⟩
theorem M_inTrailLast {v : V_X7} {i : Nat} {m : Ml} {p : Nat} (h : MMole (X7_s v) i m p) (ok : okP m) (hi : i < 4) {t : Nat} (ht : t < 64) (hm : t ∈ mTr m) {Q : Int32 → Prop} (hq : ∀ j, j < (mTr m).length → fromLast t (mTr m) = (mTr m).drop j → Q (nI j)) : wp_X7_inTrail v (nI i) (nI t) (nI 1) Q := by
  obtain ⟨o1, o2, o3, -⟩ := ok
  unfold wp_X7_inTrail wp_X7_inTrail_6
  refine ⟨fun f y => ∃ j, y = nI j ∧ j ≤ (mTr m).length ∧ ((f = nN ∧ ∀ i, i < j → at0 (mTr m) i ≠ t) ∨ (∃ k, f = nI k ∧ k < j ∧ at0 (mTr m) k = t ∧ ∀ i, k < i → i < j → at0 (mTr m) i ≠ t)), fun f y => 2000 - y.toNatClampNeg, ⟨0, rfl, by omega, Or.inl ⟨rfl, fun i hi => by omega⟩⟩, ?_⟩
  rintro f _ ⟨j, rfl, hj, hc⟩
  unfold wb_X7_inTrail_6
  simp (disch := omega) only [of_eq, nI_lit, nI_add, pk_mul, nI_clamp, nI_inI]
  rw [h.2.2.2.2.1]
  simp (disch := omega) only [nI_lit, nN_eq, nI_add, pk_mul, pk_sub, nI_clamp, nI_leI, nI_ltI, nI_eq, nN_ne, nN_ne', nN_lt, nN_le, nN_nlt, nN_nle, nN_add, nN_in, nI_inI, nI_lt0, nN_clamp, bI_0, bI_1, true_implies, false_implies, not_true_eq_false, not_false_eq_true, true_and, and_true]
  refine ⟨by omega, fun q => ?_, fun q => ⟨by omega, ?_⟩⟩
  · have ej : j = (mTr m).length := by omega
    subst ej
    rcases hc with ⟨rfl, hn⟩ | ⟨k, rfl, h1, h2, h3⟩
    · exact absurd hm (idx_none hn)
    · exact hq k h1 (fromLast_of h1 h2 h3)
  · have hj2 : j < (mTr m).length := by omega
    have hx := o3 _ (at0_mem hj2)
    rw [h.tr hj2]
    simp (disch := omega) only [nI_lit, nN_eq, nI_add, pk_mul, pk_sub, nI_clamp, nI_leI, nI_ltI, nI_eq, nN_ne, nN_ne', nN_lt, nN_le, nN_nlt, nN_nle, nN_add, nN_in, nI_inI, nI_lt0, nN_clamp, bI_0, bI_1, true_implies, false_implies, not_true_eq_false, not_false_eq_true, true_and, and_true]
    refine ⟨fun e => ⟨fun q => absurd q (by decide), fun _ => ⟨⟨j + 1, rfl, by omega, Or.inr ⟨j, rfl, by omega, e, fun i h1 h2 => by omega⟩⟩, by omega⟩⟩, fun e => ⟨⟨j + 1, rfl, by omega, ?_⟩, by omega⟩⟩
    rcases hc with ⟨rfl, hn⟩ | ⟨k, rfl, h1, h2, h3⟩
    · refine Or.inl ⟨rfl, fun i hi => ?_⟩
      by_cases z : i = j
      · rw [z]; exact e
      · exact hn i (by omega)
    · refine Or.inr ⟨k, rfl, by omega, h2, fun i h4 h5 => ?_⟩
      by_cases z : i = j
      · rw [z]; exact e
      · exact h3 i h4 (by omega)
theorem M_digs {v : V_X7} {i : Nat} {m : Ml} {p : Nat} (h : MMole (X7_s v) i m p) (ok : okP m) (hi : i < 4) {L : List Nat} (hc : MCells (X7_s v) L) {l : Nat} (hl : l < (mTr m).length) (hfit : L.length + (l + 1) ≤ 1024) {Q : (Nat → Int32) → Prop} (hq : ∀ s', MCells s' (L ++ encR ((mTr m).take (l + 1))) → fr (X7_s v) s' → Q s') : wp_X7_digs v (nI i) (nI l) Q := by
  obtain ⟨o1, o2, o3, -⟩ := ok
  have hlt : ((mTr m).take (l + 1)).length = l + 1 := by rw [List.length_take]; omega
  unfold wp_X7_digs wp_X7_digs_2
  refine ⟨fun y z => ∃ j, y = nI j ∧ j ≤ l + 1 ∧ MCells z (L ++ (encR ((mTr m).take (l + 1))).take j) ∧ fr (X7_s v) z, fun y z => 2000 - y.toNatClampNeg, ⟨0, rfl, by omega, by simpa using hc, fr_rf _⟩, ?_⟩
  rintro _ z ⟨j, rfl, hj, hz, hfr⟩
  have hzl : (L ++ (encR ((mTr m).take (l + 1))).take j).length = L.length + j := by
    rw [List.length_append, List.length_take, encR_len, hlt]; omega
  have hz7 : z 7 = nI (L.length + j) := by rw [hz.1, hzl]
  unfold wb_X7_digs_2
  simp (disch := omega) only [of_eq, nI_lit, nI_add, pk_mul, nI_clamp, nI_inI, nI_ltI, nI_eq]
  refine ⟨fun q => ?_, fun q => ⟨by omega, by omega, ?_⟩⟩
  · rw [List.take_of_length_le (by rw [encR_len, hlt]; omega)] at hz
    exact hq z hz hfr
  · have hjl : j < (mTr m).length := by omega
    have hx := o3 _ (at0_mem hjl)
    have hrd : z (264 + 46 * i + (24 + j)) = nI (at0 (mTr m) j) := by rw [hfr _ (by omega) (by omega), h.tr hjl]
    rw [hrd, hz7]
    have go : ∀ x, at0 (encR ((mTr m).take (l + 1))) j = at0 (mTr m) j + x → wp_X7_digs_46 v (nI i) (nI l) (nI j) z (fun t0 t1 => (∃ j, t0 = nI j ∧ j ≤ l + 1 ∧ MCells t1 (L ++ (encR ((mTr m).take (l + 1))).take j) ∧ fr (X7_s v) t1) ∧ 2000 - t0.toNatClampNeg < 2000 - j) (nI x) (nI (at0 (mTr m) j)) (nI (448 + (L.length + j))) Q := by
      intro x hx
      unfold wp_X7_digs_46
      simp (disch := omega) only [nI_lit, nI_add, nI_clamp, nI_inI]
      rw [upd_n (by omega), hz7, nI_add]
      refine ⟨by omega, by omega, ⟨j + 1, rfl, by omega, ⟨?_, ?_⟩, fr_upd (fr_upd hfr (by omega) _) (by omega) _⟩, by omega⟩
      · rw [upd_s, List.length_append, List.length_take, encR_len, hlt]; congr 1; omega
      · refine seg_out ?_ (by omega)
        rw [take_s (by rw [encR_len, hlt]; omega), ← List.append_assoc, hx]
        exact seg_snoc hz.2 (by rw [hzl])
    have hat : at0 ((mTr m).take (l + 1)) j = at0 (mTr m) j := at0_take (by omega)
    rw [nI_add]
    refine ⟨fun e => go 64 ?_, fun e => go 0 ?_⟩
    · rw [at0_encR (by omega), hat, if_pos (by omega)]
    · rw [at0_encR (by omega), hat, if_neg (by omega)]
theorem M_beginsTrail {v : V_X7} {i : Nat} (hi : i < 4) {Q : (Nat → Int32) → Prop} (hq : Q (upd (upd (upd (X7_s v) (264 + 46 * i + 23) (nI 1)) (264 + 46 * i + 24) (X7_s v (264 + 46 * i + 0))) (264 + 46 * i + 1) (X7_s v 6))) : wp_X7_beginsTrail v (nI i) Q := by
  unfold wp_X7_beginsTrail
  simp (disch := omega) only [of_eq, nI_lit, nI_add, pk_mul, nI_clamp, nI_inI]
  refine ⟨by omega, by omega, by omega, by omega, by omega, ?_⟩
  rw [upd_n (k := 264 + 46 * i + 23) (j := 264 + 46 * i + 0) (by omega), upd_n (k := 264 + 46 * i + 24) (j := 6) (by omega), upd_n (k := 264 + 46 * i + 23) (j := 6) (by omega)]
  exact hq
theorem M_tunnels {v : V_X7} {T : Tu} (h : MCells (X7_s v) (enc T)) (hr : ∀ r ∈ T, r ≠ [] ∧ ∀ x ∈ r, x < 64) (hf : fitT T) {Q : Int32 → Prop} (hq : Q (nI T.length)) : wp_X7_tunnels v Q := by
  have hfl : (enc T).length ≤ 1024 := by rw [enc_len]; exact hf.1
  have htl := hf.2
  unfold wp_X7_tunnels wp_X7_tunnels_4
  -- the cells before a place: so many whole tunnels, and a piece of the next
  refine ⟨fun n y => ∃ k j, n = nI k ∧ y = nI (off T k + j) ∧ k ≤ T.length ∧ ((k < T.length ∧ j < (row T k).length) ∨ (k = T.length ∧ j = 0)), fun n y => 2000 - y.toNatClampNeg, ⟨0, 0, rfl, rfl, Nat.zero_le _, ?_⟩, ?_⟩
  · by_cases e : T.length = 0
    · right; exact ⟨e.symm, rfl⟩
    · left
      exact ⟨by omega, List.length_pos_iff.mpr (hr _ (row_mem (by omega))).1⟩
  rintro _ _ ⟨k, j, rfl, rfl, hk, hc⟩
  have hok := off_le T k
  rw [← enc_len] at hok
  unfold wb_X7_tunnels_4
  rcases hc with ⟨hk2, hj⟩ | ⟨hk2, hj⟩
  · have hrk := hr _ (row_mem hk2)
    have hx := hrk.2 _ (at0_mem hj)
    have hp := pc_enc hr hk2
    obtain ⟨p1, p2, p3, p4⟩ := hp
    simp (disch := omega) only [nI_lit, nI_add, nI_clamp, nI_inI, h.1, nI_leI]
    refine ⟨by omega, fun q => by omega, fun q => ⟨by omega, ?_⟩⟩
    rw [h.at (k := off T k + j) (by omega), p4 j hj]
    by_cases e : j + 1 = (row T k).length
    · rw [if_pos e]
      refine ⟨fun _ => ?_, fun q => absurd (nI_le (by omega) (by omega)) q⟩
      refine ⟨⟨k + 1, 0, rfl, by rw [off_s hk2]; congr 1; omega, hk2, ?_⟩, by omega⟩
      by_cases e2 : k + 1 = T.length
      · right; exact ⟨e2, rfl⟩
      · left
        exact ⟨by omega, List.length_pos_iff.mpr (hr _ (row_mem (by omega))).1⟩
    · rw [if_neg e]
      refine ⟨fun q => absurd q (nI_ge (by omega) (by omega)), fun _ => ⟨⟨k, j + 1, by rw [Nat.add_zero], by rw [Nat.add_assoc], hk, Or.inl ⟨hk2, by omega⟩⟩, by omega⟩⟩
  · subst hk2; subst hj
    rw [off_all (Nat.le_refl _), ← enc_len]
    simp (disch := omega) only [nI_lit, nI_add, nI_clamp, nI_inI, h.1, nI_leI]
    exact ⟨by omega, fun _ => hq, fun q => by omega⟩
theorem M_beginOf {v : V_X7} {T : Tu} (h : MCells (X7_s v) (enc T)) (hr : ∀ r ∈ T, r ≠ [] ∧ ∀ x ∈ r, x < 64) (hf : fitT T) {i : Nat} (hi : i ≤ T.length) {Q : Int32 → Prop} (hq : Q (nI (off T i))) : wp_X7_beginOf v (nI i) Q := by
  have hfl : (enc T).length ≤ 1024 := by rw [enc_len]; exact hf.1
  have htl := hf.2
  unfold wp_X7_beginOf wp_X7_beginOf_4
  refine ⟨fun a y => ∃ k, a = nI (off T k) ∧ y = nI k ∧ k ≤ i, fun a y => 2000 - y.toNatClampNeg, ⟨0, rfl, rfl, Nat.zero_le _⟩, ?_⟩
  rintro _ _ ⟨k, rfl, rfl, hk⟩
  unfold wb_X7_beginOf_4
  simp (disch := omega) only [nI_lit, nI_add, nI_clamp, nI_leI]
  refine ⟨fun q => ?_, fun q => ?_⟩
  · rw [show k = i by omega]; exact hq
  · have hk2 : k < T.length := by omega
    have pos := List.length_pos_iff.mpr (hr _ (row_mem hk2)).1
    have hp := pc_enc hr hk2
    have hrl := off_row hk2
    refine M_endFrom h hfl hp (k := 0) pos ?_
    simp (disch := omega) only [nI_add, nI_clamp]
    refine ⟨⟨k + 1, by rw [off_s hk2]; congr 1; omega, rfl, by omega⟩, by omega⟩
