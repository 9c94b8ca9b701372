/-! The reference's hollow tufts, sure tufts, tunnels through a tuft. -/
theorem M_layHollow {v : V_X7} {a : Lw} {n : Nat} (h : MLawn (X7_s v) a) (g : Good n a) (hn : n ≤ 512) {Q : (Nat → Int32) → Prop} (hq : ∀ z, (∀ t, t < 64 → z t = bI (hol a t)) → Q z) : wp_X7_layHollow v Q := by
  have hft := g.1.fit hn
  have hf := hft.1
  have hok : okT (lTu a) := ⟨hf.2, hf.1⟩
  have hel : (enc (lTu a)).length ≤ 1024 := by rw [enc_len]; exact hf.1.1
  obtain ⟨hB, hC, hM⟩ := h
  have hm4 := hft.2.1.1
  unfold wp_X7_layHollow wp_X7_layHollow_2
  refine ⟨fun y z => ∃ k, y = nI k ∧ k ≤ 64 ∧ ∀ t, t < k → z t = nI 0, fun y _ => 100 - y.toNatClampNeg, ⟨0, rfl, by omega, fun t ht => by omega⟩, ?_⟩
  rintro _ z ⟨k, rfl, hk, hz⟩
  unfold wb_X7_layHollow_2
  simp (disch := omega) only [nI_lit, nI_clamp, nI_inI, nI_add, nI_leI]
  refine ⟨fun e => ?_, fun e => ⟨by omega, ⟨k + 1, rfl, by omega, fun t ht => ?_⟩, by omega⟩⟩
  rotate_left
  · by_cases c : t = k
    · subst c; exact upd_s _ _ _
    · rw [upd_n c]; exact hz t (by omega)
  have hz64 : ∀ t, t < 64 → z t = nI 0 := fun t ht => hz t (by omega)
  unfold wp_X7_layHollow_23
  refine ⟨fun y z => ∃ i k, y = nI (off (lTu a) i + k) ∧ i ≤ (lTu a).length ∧ (k < (row (lTu a) i).length ∨ (i = (lTu a).length ∧ k = 0)) ∧ ∀ t, t < 64 → z t = bI (inT ((lTu a).take i) t || decide (t ∈ (row (lTu a) i).take k)), fun y _ => 2000 - y.toNatClampNeg, ⟨0, 0, rfl, Nat.zero_le _, ?_, fun t ht => by rw [hz64 t ht]; simp [inT]; rfl⟩, ?_⟩
  · by_cases e0 : (lTu a).length = 0
    · exact Or.inr ⟨e0.symm, rfl⟩
    · exact Or.inl (List.length_pos_iff.mpr (hf.2 _ (row_mem (by omega))).1)
  rintro _ z ⟨i, k, rfl, hi, hc, hz⟩
  unfold wb_X7_layHollow_23
  have ol := off_le (lTu a) i
  rw [← enc_len] at ol
  have olk : off (lTu a) i + k ≤ 1024 := by
    rcases hc with c | c
    · by_cases ei : i < (lTu a).length
      · have := off_row ei
        rw [← enc_len] at this
        omega
      · have : row (lTu a) i = [] := by unfold row; rw [List.getElem?_eq_none (by omega)]; rfl
        rw [this] at c
        exact absurd c (by simp)
    · omega
  simp (disch := omega) only [nI_lit, nI_clamp, nI_inI]
  rw [hC.1]
  simp (disch := omega) only [nI_leI]
  refine ⟨by omega, fun e => ?_, fun e => ?_⟩
  rotate_left
  · have hi2 : i < (lTu a).length := by
      apply Classical.byContradiction
      intro q
      rw [off_all (by omega), ← enc_len] at e
      omega
    have hk2 : k < (row (lTu a) i).length := hc.elim id (fun z => by omega)
    have l := (hf.2 _ (row_mem hi2)).2 _ (at0_mem hk2)
    have os := off_s hi2
    refine M_tuftAt (v := X7_s12 v z) hC hel (pc_enc hf.2 hi2) hk2 ?_
    simp (disch := omega) only [nI_clamp, nI_inI, nI_add]
    have hp : ∀ t, t < 64 → upd z (at0 (row (lTu a) i) k) (nI 1) t = bI (inT ((lTu a).take i) t || decide (t ∈ (row (lTu a) i).take (k + 1))) := fun t ht => by
      have htk : t ∈ (row (lTu a) i).take (k + 1) ↔ t ∈ (row (lTu a) i).take k ∨ t = at0 (row (lTu a) i) k := by rw [take_s hk2]; simp
      by_cases c : t = at0 (row (lTu a) i) k
      · rw [decide_eq_true (htk.mpr (Or.inr c)), c, upd_s, Bool.or_true]; rfl
      · rw [upd_n c, hz t ht, decide_eq_decide.mpr ⟨fun q => htk.mpr (Or.inl q), fun q => (htk.mp q).resolve_right c⟩]
    refine ⟨l, ?_, by omega⟩
    by_cases ek : k + 1 < (row (lTu a) i).length
    · exact ⟨i, k + 1, by rw [Nat.add_assoc], hi, Or.inl ek, hp⟩
    · refine ⟨i + 1, 0, by rw [os]; congr 1; omega, hi2, ?_, fun t ht => ?_⟩
      · by_cases e2 : i + 1 = (lTu a).length
        · exact Or.inr ⟨e2, rfl⟩
        · exact Or.inl (List.length_pos_iff.mpr (hf.2 _ (row_mem (by omega))).1)
      · have tl : (row (lTu a) i).take (k + 1) = row (lTu a) i := List.take_of_length_le (by omega)
        rw [hp t ht, inT_take hi2, tl]
        simp
  have ei : i = (lTu a).length ∧ k = 0 := by
    rcases hc with c | c
    · exfalso
      by_cases ei : i < (lTu a).length
      · have := off_row ei
        rw [← enc_len] at this
        omega
      · have : row (lTu a) i = [] := by unfold row; rw [List.getElem?_eq_none (by omega)]; rfl
        rw [this] at c
        exact absurd c (by simp)
    · exact c
  obtain ⟨rfl, rfl⟩ := ei
  have hz2 : ∀ t, t < 64 → z t = bI (inT (lTu a) t) := fun t ht => by
    have := hz t ht
    rw [List.take_length] at this
    simpa using this
  unfold wp_X7_layHollow_53
  refine ⟨fun y z => ∃ i, y = nI i ∧ i ≤ (lMo a).length ∧ ∀ t, t < 64 → z t = bI (inT (lTu a) t || inM ((lMo a).take i) t), fun y _ => 10 - y.toNatClampNeg, ⟨0, rfl, Nat.zero_le _, fun t ht => by rw [hz2 t ht]; simp [inM]⟩, ?_⟩
  rintro _ z ⟨i, rfl, hi, hz⟩
  unfold wb_X7_layHollow_53
  simp (disch := omega) only [nI_lit, nI_clamp, nI_inI]
  rw [hM.1]
  simp (disch := omega) only [nI_leI]
  refine ⟨by omega, fun e => ?_, fun e => ?_⟩
  · have ei : i = (lMo a).length := by omega
    subst ei
    rw [List.take_length] at hz
    exact hq z hz
  have hi2 : i < (lMo a).length := by omega
  have ok := hft.2.1.2 _ (mlA_mem hi2)
  have f1 := ok.1
  have f21 := f1.2.2
  obtain ⟨g1, g2, g3, g4, g5, g6, g7⟩ := hM.2.1 i hi2
  unfold wp_X7_layHollow_65
  refine ⟨fun y z => ∃ k, y = nI k ∧ k ≤ (mTr (mlA (lMo a) i)).length ∧ ∀ t, t < 64 → z t = bI ((inT (lTu a) t || inM ((lMo a).take i) t) || decide (t ∈ (mTr (mlA (lMo a) i)).take k)), fun y _ => 100 - y.toNatClampNeg, ⟨0, rfl, Nat.zero_le _, fun t ht => by rw [hz t ht]; simp⟩, ?_⟩
  rintro _ z ⟨k, rfl, hk, hz⟩
  unfold wb_X7_layHollow_65
  simp (disch := omega) only [of_eq, nI_lit, nI_add, pk_mul, nI_clamp, nI_inI]
  rw [g5]
  simp (disch := omega) only [nI_leI]
  refine ⟨by omega, fun e => ?_, fun e => ?_⟩
  · have ek : k = (mTr (mlA (lMo a) i)).length := by omega
    subst ek
    rw [List.take_length] at hz
    refine ⟨⟨i + 1, rfl, hi2, fun t ht => ?_⟩, by omega⟩
    rw [hz t ht, inM_take hi2, Bool.or_assoc]
  · have hk2 : k < (mTr (mlA (lMo a) i)).length := by omega
    have l := ok.2.1 _ (at0_mem hk2)
    have gk : X7_s v (264 + 46 * i + (24 + k)) = nI (at0 (mTr (mlA (lMo a) i)) k) := by rw [← Nat.add_assoc]; exact g6 k hk2
    rw [gk]
    simp (disch := omega) only [nI_clamp, nI_inI]
    refine ⟨by omega, l, ⟨k + 1, rfl, hk2, fun t ht => ?_⟩, by omega⟩
    have htk : t ∈ (mTr (mlA (lMo a) i)).take (k + 1) ↔ t ∈ (mTr (mlA (lMo a) i)).take k ∨ t = at0 (mTr (mlA (lMo a) i)) k := by rw [take_s hk2]; simp
    by_cases c : t = at0 (mTr (mlA (lMo a) i)) k
    · rw [decide_eq_true (htk.mpr (Or.inr c)), c, upd_s, Bool.or_true]; rfl
    · rw [upd_n c, hz t ht, decide_eq_decide.mpr ⟨fun q => htk.mpr (Or.inl q), fun q => (htk.mp q).resolve_right c⟩]
theorem sub_eq {a b c : Nat} (ha : a < 100) (hb : b < 100) (hc : c < 100) : nI a - nI b = nI c ↔ a = b + c := by
  constructor
  · intro h
    have h2 : nI a = nI c + nI b := by rw [← h]; simp
    rw [nI_add] at h2
    have := (nI_eq (by omega) (by omega)).mp h2
    omega
  · intro h
    subst h
    rw [pk_sub (by omega), Nat.add_sub_cancel_left]
theorem M_finds {v : V_X7} {H : Nat → Bool} (hh : ∀ t, t < 64 → X7_isHollow v t = bI (H t)) {p : Nat} (hp : p < 64) {Q : Int32 → (Nat → Int32) → Prop} (hq : ∀ z, eqS z (concl H (X7_sure v) p).2 → Q (bI (concl H (X7_sure v) p).1) z) : wp_X7_finds v (nI p) Q := by
  have u64 : unkB (X7_sure v) p ≤ 64 := cntB_le _ _
  have o64 : oneB (X7_sure v) p ≤ 64 := cntB_le _ _
  have h64 : cntB p H ≤ 64 := cntB_le _ _
  have no : (concl H (X7_sure v) p) = (false, X7_sure v) → ∀ d, wp_X7_finds_37 v (nI p) d Q := by
    intro ec d
    rw [ec] at hq
    unfold wp_X7_finds_37 wp_X7_finds_43
    refine ⟨fun y z => y = nI 0 ∧ z = X7_sure v, fun _ _ => 0, ⟨rfl, rfl⟩, ?_⟩
    rintro _ _ ⟨rfl, rfl⟩
    unfold wb_X7_finds_43
    have q0 : Q (nI 0) (X7_sure v) := hq _ (fun t _ => rfl)
    exact ⟨fun _ => ⟨bz_0, q0⟩, fun _ => ⟨fun _ => ⟨bz_0, q0⟩, fun q => absurd rfl q⟩⟩
  have yes : ∀ d x, (d = nI 0 → x = nI 0) → (d ≠ nI 0 → x = nI 1) → (concl H (X7_sure v) p) = (true, mark (X7_sure v) p x) → wp_X7_finds_33 v (nI p) d Q := by
    intro d x d0 d1 ec
    rw [ec] at hq
    unfold wp_X7_finds_33 wp_X7_finds_43
    refine ⟨fun y z => ∃ k, y = nI k ∧ k ≤ 64 ∧ (∀ t, t < k → z t = mark (X7_sure v) p x t) ∧ ∀ t, k ≤ t → t < 64 → z t = X7_sure v t, fun y _ => 100 - y.toNatClampNeg, ⟨0, rfl, by omega, fun t ht => by omega, fun t _ _ => rfl⟩, ?_⟩
    rintro _ z ⟨k, rfl, hk, z1, z2⟩
    unfold wb_X7_finds_43
    simp (disch := omega) only [nI_lit, nN_eq, nI_clamp, nI_inI, nI_add, nI_leI]
    refine ⟨fun e => ⟨bz_1, hq z (fun t ht => z1 t (by omega))⟩, fun e => ⟨fun q => absurd q (by decide), fun _ => M_areBeside hp (by omega) ?_⟩⟩
    have zk := z2 k (Nat.le_refl _) (by omega)
    have put : ∀ y, y = mark (X7_sure v) p x k → (∃ j, nI (k + 1) = nI j ∧ j ≤ 64 ∧ (∀ t, t < j → upd z k y t = mark (X7_sure v) p x t) ∧ ∀ t, j ≤ t → t < 64 → upd z k y t = X7_sure v t) := fun y hy => ⟨k + 1, rfl, by omega, fun t ht => by
      by_cases c : t = k
      · subst c; rw [upd_s, hy]
      · rw [upd_n c]; exact z1 t (by omega), fun t h1 h2 => by rw [upd_n (by omega)]; exact z2 t (by omega) h2⟩
    rw [bI_0]
    have keep : ¬ (nb p k = true ∧ X7_sure v k = nN) → z k = mark (X7_sure v) p x k := fun q => by unfold mark; rw [if_neg q]; exact zk
    unfold wp_X7_finds_93
    simp (disch := omega) only [nI_lit, nN_eq, nI_clamp, nI_inI, nI_add]
    refine ⟨fun e2 => ⟨by omega, by omega, put _ (keep (fun z => by rw [e2] at z; cases z.1)), by omega⟩, fun e2 => ⟨by omega, ?_, fun e3 => ⟨by omega, by omega, put _ (keep (fun z => e3 (zk.trans z.2))), by omega⟩⟩⟩
    intro e3
    have hm : mark (X7_sure v) p x k = x := by unfold mark; rw [if_pos ⟨by simpa using e2, zk.symm.trans e3⟩]
    refine ⟨fun e4 => ⟨put _ (by rw [hm, d0 e4]), by omega⟩, fun e4 => ⟨put _ (by rw [hm, d1 e4]), by omega⟩⟩
  unfold wp_X7_finds
  refine M_numberOf hh hp (M_besideWith hp (M_besideWith hp ?_))
  rw [show cntB p (fun u => decide (X7_sure v u = -1)) = unkB (X7_sure v) p from rfl, show cntB p (fun u => decide (X7_sure v u = 1)) = oneB (X7_sure v) p from rfl]
  simp (disch := omega) only [nI_lit, nI_leI, sub_eq]
  refine ⟨fun e => no (by unfold concl; rw [if_pos (by omega)]) _, fun e => ⟨fun e2 => ?_, fun e2 => ⟨fun e3 => ?_, fun e3 => ?_⟩⟩⟩
  · refine yes _ (nI 0) (fun _ => rfl) (fun q => absurd ?_ q) (by unfold concl; rw [if_neg (by omega), if_pos (by omega)])
    exact (sub_eq (c := 0) (by omega) (by omega) (by omega)).mpr e2
  · refine yes _ (nI 1) (fun q => absurd ((sub_eq (c := 0) (by omega) (by omega) (by omega)).mp q) e2) (fun _ => rfl) (by unfold concl; rw [if_neg (by omega), if_neg (by omega), if_pos (by omega)])
  · exact no (by unfold concl; rw [if_neg (by omega), if_neg (by omega), if_neg (by omega)]) _
