/-! The reference's lawn: mounds that come up, trails that end. -/
theorem seg_cons2 {f : Nat → Int32} {o x : Nat} (h : f o = nI x) : seg f o [x] := fun k hk => by
  have : k = 0 := by simpa using hk
  subst this; simpa [at0] using h
def MB (s : Nat → Int32) (a : Lw) : Prop := s 0 = lBt a ∧ s 2 = lCa a ∧ s 3 = lGn a ∧ s 4 = lRi a ∧ s 5 = lFa a ∧ s 6 = nI (lAi a) ∧ (∀ t, t < 64 → s (8 + t) = bI (lMn a t)) ∧ (∀ t, t < 64 → s (72 + t) = lRt a t) ∧ (∀ t, t < 64 → s (136 + t) = lTp a t) ∧ ∀ t, t < 64 → s (200 + t) = bI (lOp a t)
theorem MB.of {s s' : Nat → Int32} {a : Lw} (h : MB s a) (e : ∀ q, q < 264 → q ≠ 1 → q ≠ 7 → s' q = s q) : MB s' a := by
  obtain ⟨h0, h2, h3, h4, h5, h6, h8, h9, h10, h11⟩ := h
  refine ⟨?_, ?_, ?_, ?_, ?_, ?_, fun t ht => ?_, fun t ht => ?_, fun t ht => ?_, fun t ht => ?_⟩
  · rw [e 0 (by omega) (by omega) (by omega), h0]
  · rw [e 2 (by omega) (by omega) (by omega), h2]
  · rw [e 3 (by omega) (by omega) (by omega), h3]
  · rw [e 4 (by omega) (by omega) (by omega), h4]
  · rw [e 5 (by omega) (by omega) (by omega), h5]
  · rw [e 6 (by omega) (by omega) (by omega), h6]
  · rw [e _ (by omega) (by omega) (by omega), h8 t ht]
  · rw [e _ (by omega) (by omega) (by omega), h9 t ht]
  · rw [e _ (by omega) (by omega) (by omega), h10 t ht]
  · rw [e _ (by omega) (by omega) (by omega), h11 t ht]
def MLawnP (s : Nat → Int32) (a : Lw) (pl : Nat → Nat) : Prop := MB s a ∧ MCells s (enc (lTu a)) ∧ MMsP s (lMo a) pl
def MLawn (s : Nat → Int32) (a : Lw) : Prop := MLawnP s a (plM (lMo a))
theorem MCells.of {s s' : Nat → Int32} {L : List Nat} (h : MCells s L) (e7 : s' 7 = s 7) (e : ∀ q, 448 ≤ q → s' q = s q) : MCells s' L := ⟨by rw [e7, h.1], seg_of h.2 (fun k _ => e _ (by omega))⟩
theorem MMsP.pl {s : Nat → Int32} {M : List Ml} {pl pl' : Nat → Nat} (h : MMsP s M pl) (e : ∀ i, i < M.length → pl' i = pl i) : MMsP s M pl' := ⟨h.1, fun i hi => by rw [e i hi]; exact h.2.1 i hi, h.2.2⟩
theorem okP_cut {t : Nat} {m : Ml} (h : okP m) : okP (cutM t m) := by
  unfold cutM
  split
  · rename_i y
    obtain ⟨o1, o2, o3, o4, o5⟩ := h
    obtain ⟨k, hk, e⟩ : ∃ k, k < (mTr m).length ∧ fromLast t (mTr m) = (mTr m).drop k := by
      have hlast : ∀ n, n ≤ (mTr m).length → (∃ k, k < (mTr m).length ∧ fromLast t (mTr m) = (mTr m).drop k) ∨ ∀ j, (mTr m).length - n ≤ j → j < (mTr m).length → at0 (mTr m) j ≠ t := by
        intro n
        induction n with
        | zero => intro _; right; intro j h1 h2; omega
        | succ n ih =>
          intro hn
          rcases ih (by omega) with z | z
          · exact Or.inl z
          · by_cases e : at0 (mTr m) ((mTr m).length - (n + 1)) = t
            · left
              exact ⟨_, by omega, fromLast_of (by omega) e (fun j h1 h2 => z j (by omega) h2)⟩
            · right
              intro j h1 h2
              by_cases e2 : j = (mTr m).length - (n + 1)
              · rw [e2]; exact e
              · exact z j (by omega) h2
      rcases hlast _ (Nat.le_refl _) with z | z
      · exact z
      · exact absurd y.1 (idx_none (fun j hj => z j (by omega) hj))
    refine ⟨o1, ?_, ?_, o4, o5⟩
    · show (fromLast t (mTr m)).length ≤ 21
      rw [e, List.length_drop]; omega
    · intro x hx
      have hx : x ∈ fromLast t (mTr m) := hx
      rw [e] at hx
      exact o3 x (List.mem_of_mem_drop hx)
  · exact h
theorem mapTo_mem {k : Nat} {f : Ml → Ml} {M : List Ml} {P : Ml → Prop} (h : ∀ m ∈ M, P m ∧ P (f m)) : ∀ m ∈ mapTo k f M, P m := by
  intro m hm
  unfold mapTo at hm
  rcases List.mem_append.mp hm with z | z
  · obtain ⟨x, hx, rfl⟩ := List.mem_map.mp z
    exact (h x (List.mem_of_mem_take hx)).2
  · exact (h m (List.mem_of_mem_drop z)).1
theorem M_comesUp {v : V_X7} {a : Lw} {pl : Nat → Nat} (h : MLawnP (X7_s v) a pl) (hM : fitMP (lMo a)) {t : Nat} (ht : t < 64) (hok : splitOk t (lTu a)) (hfit : fitT (lTu (comesUp a t))) {Q : (Nat → Int32) → Prop} (hq : ∀ s', MLawnP s' (comesUp a t) pl → Q s') : wp_X7_comesUp v (nI t) Q := by
  obtain ⟨hb, hc, hm⟩ := h
  have hl4 := hM.1
  have hfl : (enc (splitT t (lTu a))).length + (enc ((lMo a).flatMap (cutsOf t))).length ≤ 1024 := by
    have : (lTu (comesUp a t)).flatten.length ≤ 1024 := hfit.1
    rw [← enc_len] at this
    have e : lTu (comesUp a t) = splitT t (lTu a) ++ (lMo a).flatMap (cutsOf t) := rfl
    rw [e, enc_app, List.length_append] at this
    exact this
  unfold wp_X7_comesUp
  simp (disch := omega) only [nI_lit, nI_add, nI_clamp, nI_inI]
  refine ⟨by omega, by omega, ?_⟩
  have hc1 : MCells (upd (upd (X7_s v) (8 + t) (nI 1)) 4 (upd (X7_s v) (8 + t) (nI 1) 4 + nI 1)) (enc (lTu a)) := hc.of (by rw [upd_n (by omega), upd_n (by omega)]) (fun q hq => by rw [upd_n (by omega), upd_n (by omega)])
  refine M_splits (v := X7_s0 v (upd (upd (X7_s v) (8 + t) (nI 1)) 4 (upd (X7_s v) (8 + t) (nI 1) 4 + nI 1))) hc1 ht hok (fun s1 hs1 hf1 => ?_)
  have hb1 : MB s1 (comesUp a t) := by
    obtain ⟨h0, h2, h3, h4, h5, h6, h8, h9, h10, h11⟩ := hb
    have f := fun q (q1 : q < 448) (q2 : q ≠ 7) => hf1 q q1 q2
    have g : ∀ q, q < 448 → q ≠ 7 → q ≠ 8 + t → q ≠ 4 → s1 q = X7_s v q := fun q q1 q2 q3 q4 => by
      rw [f q q1 q2]
      show upd (upd (X7_s v) (8 + t) (nI 1)) 4 _ q = _
      rw [upd_n q4, upd_n q3]
    refine ⟨?_, ?_, ?_, ?_, ?_, ?_, fun j hj => ?_, fun j hj => ?_, fun j hj => ?_, fun j hj => ?_⟩
    · rw [g 0 (by omega) (by omega) (by omega) (by omega), h0]; rfl
    · rw [g 2 (by omega) (by omega) (by omega) (by omega), h2]; rfl
    · rw [g 3 (by omega) (by omega) (by omega) (by omega), h3]; rfl
    · rw [f 4 (by omega) (by omega)]
      show (upd (upd (X7_s v) (8 + t) (nI 1)) 4 (upd (X7_s v) (8 + t) (nI 1) 4 + nI 1)) 4 = lRi a + nI 1
      rw [upd_s, upd_n (by omega), h4]
    · rw [g 5 (by omega) (by omega) (by omega) (by omega), h5]; rfl
    · rw [g 6 (by omega) (by omega) (by omega) (by omega), h6]; rfl
    · by_cases e : j = t
      · subst e
        rw [f _ (by omega) (by omega)]
        show upd (upd (X7_s v) (8 + j) (nI 1)) 4 _ (8 + j) = bI (va_up (lMn a) j true j)
        rw [upd_n (by omega), upd_s, va_up_self]; rfl
      · rw [g _ (by omega) (by omega) (by omega) (by omega), h8 j hj]
        show _ = bI (va_up (lMn a) t true j)
        rw [va_up_ne _ _ e]
    · rw [g _ (by omega) (by omega) (by omega) (by omega), h9 j hj]; rfl
    · rw [g _ (by omega) (by omega) (by omega) (by omega), h10 j hj]; rfl
    · rw [g _ (by omega) (by omega) (by omega) (by omega), h11 j hj]; rfl
  have hs1q : ∀ q, q < 448 → q ≠ 7 → q ≠ 8 + t → q ≠ 4 → s1 q = X7_s v q := by
    intro q q1 q2 q3 q4
    rw [hf1 q q1 q2]
    show upd (upd (X7_s v) (8 + t) (nI 1)) 4 _ q = _
    rw [upd_n q4, upd_n q3]
  have hm1 : MMsP s1 (lMo a) pl := hm.of hM (hs1q 1 (by omega) (by omega) (by omega) (by omega)) (fun q q1 q2 => hs1q q (by omega) (by omega) (by omega) (by omega))
  unfold wp_X7_comesUp_27
  refine ⟨fun y z => ∃ k, y = nI k ∧ k ≤ (lMo a).length ∧ MMsP z (mapTo k (cutM t) (lMo a)) pl ∧ MCells z (enc (splitT t (lTu a) ++ ((lMo a).take k).flatMap (cutsOf t))) ∧ MB z (comesUp a t), fun y z => 70 - y.toNatClampNeg, ⟨0, rfl, Nat.zero_le _, by rw [mapTo_0]; exact hm1, by simpa using hs1, hb1⟩, ?_⟩
  rintro _ z ⟨k, rfl, hk, hmz, hcz, hbz⟩
  have hmz1 := hmz.1
  rw [mapTo_len] at hmz1
  have hfz : fitMP (mapTo k (cutM t) (lMo a)) := ⟨by rw [mapTo_len]; exact hl4, mapTo_mem (fun m mm => ⟨hM.2 m mm, okP_cut (hM.2 m mm)⟩)⟩
  unfold wb_X7_comesUp_27
  simp (disch := omega) only [nI_lit, nI_add, nI_clamp, nI_inI, hmz1, nI_leI]
  refine ⟨by omega, fun q => ?_, fun q => ?_⟩
  · have ek : k = (lMo a).length := by omega
    subst ek
    rw [mapTo_all (Nat.le_refl _)] at hmz
    rw [List.take_length] at hcz
    exact hq z ⟨hbz, hcz, hmz⟩
  · have hk2 : k < (lMo a).length := by omega
    have hkm : k < (mapTo k (cutM t) (lMo a)).length := by rw [mapTo_len]; exact hk2
    have hmo := hmz.2.1 k hkm
    rw [mapTo_at hk2] at hmo
    have ok := hM.2 _ (mlA_mem hk2)
    have ca := cuts_take (t := t) hk2
    have cb := cuts_split (t := t) hk2
    have okl := ok.2.1
    refine M_inTrail (v := X7_s0 v z) hmo ok (by omega) ht ?_
    rw [ixI_le0 (by omega)]
    refine ⟨fun n => ?_, fun y => ?_⟩
    · have e1 : cutsOf t (mlA (lMo a) k) = [] := if_neg n
      have e2 : cutM t (mlA (lMo a) k) = mlA (lMo a) k := if_neg n
      refine ⟨⟨k + 1, rfl, hk2, ?_, by rw [ca, e1, List.append_nil]; exact hcz, hbz⟩, by omega⟩
      rw [← mapTo_set hk2, e2]
      exact hmz.set hfz hkm (m := mlA (lMo a) k) hmo (fun _ _ => rfl) rfl (fun _ _ _ _ => rfl)
    · have y := Classical.not_not.mp y
      have e1 : cutsOf t (mlA (lMo a) k) = [upTo t (mTr (mlA (lMo a) k))] := if_pos y
      have e2 : cutM t (mlA (lMo a) k) = (mPl (mlA (lMo a) k), fromLast t (mTr (mlA (lMo a) k)), mAi (mlA (lMo a) k), mSt (mlA (lMo a) k)) := if_pos y
      rw [e1] at ca cb
      have hix := List.idxOf_lt_length_iff.mpr y.1
      have hlen : (enc (splitT t (lTu a) ++ ((lMo a).take k).flatMap (cutsOf t))).length + ((mTr (mlA (lMo a) k)).idxOf t + 1) ≤ 1024 := by
        have : (enc ((lMo a).flatMap (cutsOf t))).length = (enc (((lMo a).take k).flatMap (cutsOf t))).length + (((mTr (mlA (lMo a) k)).idxOf t + 1) + (enc (((lMo a).drop (k + 1)).flatMap (cutsOf t))).length) := by
          rw [cb, enc_app, enc_app, List.length_append, List.length_append]
          simp [enc, encR_len, upTo_len y.1]
        rw [enc_app, List.length_append]
        omega
      refine M_inTrailLast (v := X7_s0 v z) hmo ok (by omega) ht y.1 (fun l hl hfl => ?_)
      rw [ixI, if_pos y.1]
      refine M_digs (v := X7_s0 v z) hmo ok (by omega) hcz hix hlen (fun s2 hs2 hf2 => ?_)
      have hmo2 : MMole s2 k (mlA (lMo a) k) (pl k) := hmo.of ok (fun q q1 q2 => hf2 q (by omega) (by omega))
      simp (disch := omega) only [of_eq, nI_lit, nI_add, pk_mul, nI_clamp, nI_inI]
      rw [hmo2.2.2.2.2.1, pk_sub (by omega)]
      refine ⟨by omega, ?_⟩
      unfold wp_X7_comesUp_83
      refine ⟨fun y w => ∃ j, y = nI j ∧ j + l ≤ (mTr (mlA (lMo a) k)).length ∧ w (264 + 46 * k + 23) = nI ((mTr (mlA (lMo a) k)).length - l) ∧ (∀ i, i < j → w (264 + 46 * k + (24 + i)) = nI (at0 (mTr (mlA (lMo a) k)) (i + l))) ∧ (∀ i, j ≤ i → i < (mTr (mlA (lMo a) k)).length → w (264 + 46 * k + (24 + i)) = nI (at0 (mTr (mlA (lMo a) k)) i)) ∧ ∀ q, q < 264 + 46 * k + 23 ∨ 264 + 46 * k + 45 ≤ q → w q = s2 q, fun y w => 70 - y.toNatClampNeg, ⟨0, rfl, by omega, upd_s _ _ _, fun i hi => by omega, fun i _ hi => by rw [upd_n (by omega)]; exact hmo2.tr hi, fun q hq => by rw [upd_n (by omega)]⟩, ?_⟩
      rintro _ w ⟨j, rfl, hj, w23, hw1, hw2, hw3⟩
      unfold wb_X7_comesUp_83
      simp (disch := omega) only [of_eq, nI_lit, nI_add, pk_mul, nI_clamp, nI_inI]
      rw [w23]
      simp (disch := omega) only [nI_leI]
      refine ⟨by omega, fun q => ?_, fun q => ⟨by omega, by omega, ⟨j + 1, rfl, by omega, by rw [upd_n (by omega)]; exact w23, fun i hi => ?_, fun i h1 h2 => by rw [upd_n (by omega)]; exact hw2 i (by omega) h2, fun q hq => by rw [upd_n (by omega)]; exact hw3 q hq⟩, by omega⟩⟩
      · have hfr3 : ∀ q, q < 264 ∨ 448 ≤ q → w q = s2 q := fun q hq => hw3 q (by omega)
        refine ⟨⟨k + 1, rfl, hk2, ?_, ?_, ?_⟩, by omega⟩
        · rw [← mapTo_set hk2, e2]
          refine hmz.set hfz hkm (m := (mPl (mlA (lMo a) k), fromLast t (mTr (mlA (lMo a) k)), mAi (mlA (lMo a) k), mSt (mlA (lMo a) k))) ?_ (fun _ _ => rfl) ?_ ?_
          · obtain ⟨g1, g2, g3, g4, g5, g6, g7⟩ := hmo2
            refine ⟨?_, ?_, ?_, seg_of g4 (fun i hi => hw3 _ (by have := ok.1; have hi : i < (mPl (mlA (lMo a) k)).length := hi; omega)), ?_, fun i hi => ?_, ?_⟩
            · rw [hw3 _ (by omega), g1]
            · rw [hw3 _ (by omega), g2]
            · rw [hw3 _ (by omega), g3]
            · rw [w23]
              show _ = nI (fromLast t (mTr (mlA (lMo a) k))).length
              rw [hfl, List.length_drop]
            · have hi : i < (fromLast t (mTr (mlA (lMo a) k))).length := hi
              rw [hfl, List.length_drop] at hi
              show w (264 + 46 * k + 24 + i) = nI (at0 (fromLast t (mTr (mlA (lMo a) k))) i)
              rw [Nat.add_assoc, hw1 i (by omega), hfl, at0_drop, Nat.add_comm]
            · rw [hw3 _ (by omega), g7]
          · rw [hw3 1 (by omega), hf2 1 (by omega) (by omega)]
          · intro q q1 q2 q3
            rw [hw3 q (by omega), hf2 q (by omega) (by omega)]
        · rw [ca, ← List.append_assoc, enc_app]
          have : enc [upTo t (mTr (mlA (lMo a) k))] = encR ((mTr (mlA (lMo a) k)).take ((mTr (mlA (lMo a) k)).idxOf t + 1)) := by simp [enc, upTo]
          rw [this]
          exact hs2.of (hfr3 7 (by omega)) (fun q hq => hfr3 q (by omega))
        · exact hbz.of (fun q q1 q2 q3 => by rw [hfr3 q (by omega), hf2 q (by omega) q3])
      · by_cases z : i = j
        · subst z
          rw [upd_s, show 264 + 46 * k + (24 + i + l) = 264 + 46 * k + (24 + (i + l)) by omega]
          exact hw2 _ (by omega) (by omega)
        · rw [upd_n (by omega)]; exact hw1 i (by omega)
theorem M_beginsTrail2 {v : V_X7} {i : Nat} (hi : i < 4) {Q : (Nat → Int32) → Prop} (hq : ∀ s', s' (264 + 46 * i + 23) = nI 1 → s' (264 + 46 * i + 24) = X7_s v (264 + 46 * i + 0) → s' (264 + 46 * i + 1) = X7_s v 6 → (∀ q, q ≠ 264 + 46 * i + 23 → q ≠ 264 + 46 * i + 24 → q ≠ 264 + 46 * i + 1 → s' q = X7_s v q) → Q s') : wp_X7_beginsTrail v (nI i) Q :=
  M_beginsTrail hi (hq _ (by rw [upd_n (by omega), upd_n (by omega), upd_s]) (by rw [upd_n (by omega), upd_s]) (upd_s _ _ _) (fun q q1 q2 q3 => by rw [upd_n q3, upd_n q2, upd_n q1]))
theorem M_finishes {v : V_X7} {a : Lw} (h : MLawn (X7_s v) a) (hf : fitL a) {i : Nat} (hi : i < (lMo a).length) (hf2 : fitT (lTu (finish a i))) {Q : (Nat → Int32) → Prop} (hq : ∀ s', MLawn s' (finish a i) → Q s') : wp_X7_finishes v (nI i) Q := by
  obtain ⟨hb, hc, hm⟩ := h
  have hl := hf.2.1.1
  have oM := hf.2.1.2 _ (mlA_mem hi)
  have ok := oM.P
  have hmo := hm.2.1 i hi
  have hpl : placeOf a i < 64 := place_lt hf.2.1 hi
  have hlen := ok.2.1
  have out : ∀ s1, fr (X7_s v) s1 → MCells s1 (enc (lTu (finish a i))) → wp_X7_finishes_29 v (nI i) s1 Q := by
    intro s1 hf1 hc1
    unfold wp_X7_finishes_29
    refine M_beginsTrail2 (v := X7_s0 v s1) (by omega) (fun s3 v23 v24 v1 hs3 => hq s3 ⟨?_, ?_, ?_⟩)
    · exact hb.of (fun q q1 q2 q3 => by rw [hs3 q (by omega) (by omega) (by omega)]; exact hf1 q (by omega) q3)
    · exact hc1.of (hs3 7 (by omega) (by omega) (by omega)) (fun q hq => hs3 q (by omega) (by omega) (by omega))
    · have hs : ∀ q, q < 448 → q ≠ 7 → q ≠ 264 + 46 * i + 23 → q ≠ 264 + 46 * i + 24 → q ≠ 264 + 46 * i + 1 → s3 q = X7_s v q := fun q q1 q2 q3 q4 q5 => by
        rw [hs3 q q3 q4 q5]; exact hf1 q q1 q2
      refine MMsP.set (pl := plM (lMo a)) hm hf.2.1.P hi ?_ (fun j hj => ?_) (hs 1 (by omega) (by omega) (by omega) (by omega) (by omega)) (fun q q1 q2 q3 => hs q q2 (by omega) (by omega) (by omega) (by omega))
      · have ep : plM (lMo (finish a i)) i = lastOf (mTr (mlA (lMo a) i)) := by
          show lastOf (mTr (mlA ((lMo a).set i _) i)) = _
          rw [mlA_set hi, if_pos rfl]; rfl
        rw [ep]
        obtain ⟨g1, g2, g3, g4, g5, g6, g7⟩ := hmo
        have o1 := ok.1
        refine ⟨?_, ?_, ?_, seg_of g4 (fun k hk => ?_), v23, seg_cons2 ?_, ?_⟩
        · rw [hs _ (by omega) (by omega) (by omega) (by omega) (by omega), g1]; rfl
        · rw [v1]
          show s1 6 = nI (lAi a)
          rw [hf1 6 (by omega) (by omega), hb.2.2.2.2.2.1]
        · rw [hs _ (by omega) (by omega) (by omega) (by omega) (by omega), g3]
        · have hk : k < (mPl (mlA (lMo a) i)).length := hk
          exact hs _ (by omega) (by omega) (by omega) (by omega) (by omega)
        · rw [v24]
          show s1 _ = _
          rw [hf1 _ (by omega) (by omega), g1]; rfl
        · rw [hs _ (by omega) (by omega) (by omega) (by omega) (by omega), g7]
      · show lastOf (mTr (mlA ((lMo a).set i _) j)) = plM (lMo a) j
        unfold plM mlA
        rw [List.getElem?_set, if_neg (fun q => hj q.symm)]
  unfold wp_X7_finishes
  simp (disch := omega) only [of_eq, nI_lit, nI_add, pk_mul, nI_clamp, nI_inI]
  rw [hmo.1]
  refine ⟨by omega, M_inTrail hmo ok (by omega) hpl ?_⟩
  rw [ixI_le0 (by omega)]
  have hTu : lTu (finish a i) = lTu a ++ cutsOf (lastOf (mTr (mlA (lMo a) i))) (mlA (lMo a) i) := rfl
  refine ⟨fun n => out _ (fr_rf _) ?_, fun y => ?_⟩
  · have e1 : cutsOf (lastOf (mTr (mlA (lMo a) i))) (mlA (lMo a) i) = [] := if_neg n
    rw [hTu, e1, List.append_nil]; exact hc
  · have y := Classical.not_not.mp y
    have e1 : cutsOf (lastOf (mTr (mlA (lMo a) i))) (mlA (lMo a) i) = [upTo (lastOf (mTr (mlA (lMo a) i))) (mTr (mlA (lMo a) i))] := if_pos y
    have hix := List.idxOf_lt_length_iff.mpr y.1
    rw [ixI, if_pos y.1]
    have hfz := hf2.1
    rw [hTu, e1, ← enc_len, enc_app, List.length_append] at hfz
    have e3 : enc [upTo (lastOf (mTr (mlA (lMo a) i))) (mTr (mlA (lMo a) i))] = encR (upTo (lastOf (mTr (mlA (lMo a) i))) (mTr (mlA (lMo a) i))) := by simp [enc]
    rw [e3, encR_len, upTo_len (t := lastOf (mTr (mlA (lMo a) i))) y.1] at hfz
    refine M_digs hmo ok (by omega) hc hix hfz (fun s2 hs2 hf2 => out s2 hf2 ?_)
    rw [hTu, e1, enc_app, e3]; exact hs2
