theorem ensure_ca (a : Lw) (t : Nat) : lCa (ensure a t) = lCa a := by
  unfold ensure; split <;> rfl
theorem redo_ca (ls : Nat → Bool) (a : Lw) : ∀ k, lCa (redo ls k a) = lCa a
  | 0 => rfl
  | k + 1 => by
    unfold redo
    split
    · show lCa (ensure _ _) = _
      rw [ensure_ca, redo_ca ls a k]
    · exact redo_ca ls a k
def digMid (a : Lw) (t : Nat) (M : List Ml) : Lw := (lMn a, va_up (lOp a) t true, upd (lRt a) t (nI 0), upd (lTp a) t nN, lTu a, M, lAi a, lBt a, lCa a + nI ((lMo a).length - M.length), lGn a, lRi a, lFa a)
theorem MB_up {s : Nat → Int32} {a : Lw} (h : MB s a) {t : Nat} : MB (upd s (200 + t) (nI 1)) (lMn a, va_up (lOp a) t true, lRt a, lTp a, lTu a, lMo a, lAi a, lBt a, lCa a, lGn a, lRi a, lFa a) := by
  obtain ⟨h0, h2, h3, h4, h5, h6, h8, h9, h10, h11⟩ := h
  refine ⟨by rw [upd_n (by omega), h0], by rw [upd_n (by omega), h2], by rw [upd_n (by omega), h3], by rw [upd_n (by omega), h4], by rw [upd_n (by omega), h5], by rw [upd_n (by omega), h6], fun j hj => by rw [upd_n (by omega), h8 j hj], fun j hj => by rw [upd_n (by omega), h9 j hj], fun j hj => by rw [upd_n (by omega), h10 j hj], fun j hj => ?_⟩
  show _ = bI (va_up (lOp a) t true j)
  by_cases e : j = t
  · subst e; rw [upd_s, va_up_self]; rfl
  · rw [upd_n (by omega), va_up_ne _ _ e, h11 j hj]
theorem MB_rt {s : Nat → Int32} {a : Lw} (h : MB s a) {t : Nat} (ht : t < 64) (x : Int32) : MB (upd s (72 + t) x) (lMn a, lOp a, upd (lRt a) t x, lTp a, lTu a, lMo a, lAi a, lBt a, lCa a, lGn a, lRi a, lFa a) := by
  obtain ⟨h0, h2, h3, h4, h5, h6, h8, h9, h10, h11⟩ := h
  refine ⟨by rw [upd_n (by omega), h0], by rw [upd_n (by omega), h2], by rw [upd_n (by omega), h3], by rw [upd_n (by omega), h4], by rw [upd_n (by omega), h5], by rw [upd_n (by omega), h6], fun j hj => by rw [upd_n (by omega), h8 j hj], fun j hj => ?_, fun j hj => by rw [upd_n (by omega), h10 j hj], fun j hj => by rw [upd_n (by omega), h11 j hj]⟩
  show _ = upd (lRt a) t x j
  by_cases e : j = t
  · subst e; rw [upd_s, upd_s]
  · rw [upd_n (by omega), upd_n e, h9 j hj]
theorem MB_tp {s : Nat → Int32} {a : Lw} (h : MB s a) {t : Nat} (ht : t < 64) (x : Int32) : MB (upd s (136 + t) x) (lMn a, lOp a, lRt a, upd (lTp a) t x, lTu a, lMo a, lAi a, lBt a, lCa a, lGn a, lRi a, lFa a) := by
  obtain ⟨h0, h2, h3, h4, h5, h6, h8, h9, h10, h11⟩ := h
  refine ⟨by rw [upd_n (by omega), h0], by rw [upd_n (by omega), h2], by rw [upd_n (by omega), h3], by rw [upd_n (by omega), h4], by rw [upd_n (by omega), h5], by rw [upd_n (by omega), h6], fun j hj => by rw [upd_n (by omega), h8 j hj], fun j hj => by rw [upd_n (by omega), h9 j hj], fun j hj => ?_, fun j hj => by rw [upd_n (by omega), h11 j hj]⟩
  show _ = upd (lTp a) t x j
  by_cases e : j = t
  · subst e; rw [upd_s, upd_s]
  · rw [upd_n (by omega), upd_n e, h10 j hj]
theorem MB_mn {s : Nat → Int32} {a : Lw} (h : MB s a) {t : Nat} (ht : t < 64) : MB (upd s (8 + t) (nI 0)) (unMound a t) := by
  obtain ⟨h0, h2, h3, h4, h5, h6, h8, h9, h10, h11⟩ := h
  refine ⟨?_, ?_, ?_, ?_, ?_, ?_, fun j hj => ?_, fun j hj => ?_, fun j hj => ?_, fun j hj => ?_⟩
  · rw [upd_n (by omega), h0]; rfl
  · rw [upd_n (by omega), h2]; rfl
  · rw [upd_n (by omega), h3]; rfl
  · rw [upd_n (by omega), h4]; rfl
  · rw [upd_n (by omega), h5]; rfl
  · rw [upd_n (by omega), h6]; rfl
  · show _ = bI (va_up (lMn a) t false j)
    by_cases e : j = t
    · subst e; rw [upd_s, va_up_self]; rfl
    · rw [upd_n (by omega), va_up_ne _ _ e, h8 j hj]
  · rw [upd_n (by omega), h9 j hj]; rfl
  · rw [upd_n (by omega), h10 j hj]; rfl
  · rw [upd_n (by omega), h11 j hj]; rfl
theorem filt_pl {M : List Ml} {t k : Nat} (hk : k < M.length) : mlA (M.take (k + 1) ++ (M.drop (k + 1)).filter (notAt t)) k = mlA M k := by
  rw [mlA_l (by simp; omega)]
  simp [mlA, List.getElem?_take]
theorem M_dug {v : V_X7} {a : Lw} (h : MLawn (X7_s v) a) (hf : fitL a) {t : Nat} (ht : t < 64) (hf0 : fitL (dropTun (digA a t) t)) (hfT : fitT (lTu a)) (hf2 : ∀ k, k ≤ (lMo (digA a t)).length → fitL (redo (lostBy t (dropTun (digA a t) t)) k (reset (dropTun (digA a t) t) t))) (hsp : ∀ k, k < (lMo (digA a t)).length → lostBy t (dropTun (digA a t) t) k = true → lMn (redo (lostBy t (dropTun (digA a t) t)) k (reset (dropTun (digA a t) t) t)) (placeOf (redo (lostBy t (dropTun (digA a t) t)) k (reset (dropTun (digA a t) t) t)) k) = false → splitOk (placeOf (redo (lostBy t (dropTun (digA a t) t)) k (reset (dropTun (digA a t) t) t)) k) (lTu (redo (lostBy t (dropTun (digA a t) t)) k (reset (dropTun (digA a t) t) t)))) (hone : ∀ k i, k ≤ i → i < (lMo (digA a t)).length → lostBy t (dropTun (digA a t) t) i = true → (mTr (mlA (lMo (redo (lostBy t (dropTun (digA a t) t)) k (reset (dropTun (digA a t) t) t))) i)).length = 1) (hpl : ∀ k i, i < (lMo (digA a t)).length → placeOf (redo (lostBy t (dropTun (digA a t) t)) k (reset (dropTun (digA a t) t) t)) i = placeOf (dropTun (digA a t) t) i) {Q : Int32 → (Nat → Int32) → Prop} (hq : ∀ s', MLawn s' (dug a t) → Q (nI ((lMo a).length - ((lMo a).filter (notAt t)).length)) s') : wp_X7_dug v (nI t) Q := by
  obtain ⟨hb, hc, hm⟩ := h
  have hl := hf.2.1.1
  have hM := hf.2.1.P
  unfold wp_X7_dug
  simp (disch := omega) only [nI_lit, nN_eq, nI_add, nI_clamp, nI_inI]
  have hd0 : (lMo a).length - (lMo a).length = 0 := by omega
  have hs1 : MLawn (upd (upd (upd (X7_s v) (200 + t) (nI 1)) (72 + t) (nI 0)) (136 + t) nN) (digMid a t (lMo a)) := by
    refine ⟨?_, hc.of (by rw [upd_n (by omega), upd_n (by omega), upd_n (by omega)]) (fun q hq => by rw [upd_n (by omega), upd_n (by omega), upd_n (by omega)]), hm.of hM (by rw [upd_n (by omega), upd_n (by omega), upd_n (by omega)]) (fun q q1 q2 => by rw [upd_n (by omega), upd_n (by omega), upd_n (by omega)])⟩
    have := MB_tp (MB_rt (MB_up hb (t := t)) ht (nI 0)) ht nN
    have e : digMid a t (lMo a) = (lMn a, va_up (lOp a) t true, upd (lRt a) t (nI 0), upd (lTp a) t nN, lTu a, lMo a, lAi a, lBt a, lCa a, lGn a, lRi a, lFa a) := by
      unfold digMid
      rw [hd0, show nI 0 = 0 from rfl, Int32.add_zero]
    rw [e]; exact this
  have y2e : upd (upd (upd (X7_s v) (200 + t) (nI 1)) (72 + t) (nI 0)) (136 + t) nN 2 = lCa a := by
    rw [upd_n (by omega), upd_n (by omega), upd_n (by omega), hb.2.1]
  have y1e : upd (upd (upd (X7_s v) (200 + t) (nI 1)) (72 + t) (nI 0)) (136 + t) nN 1 = nI (lMo a).length := by
    rw [upd_n (by omega), upd_n (by omega), upd_n (by omega), hm.1]
  rw [y2e, y1e, pI_of]
  generalize upd (upd (upd (X7_s v) (200 + t) (nI 1)) (72 + t) (nI 0)) (136 + t) nN = s1 at hs1
  refine ⟨by omega, by omega, by omega, by omega, by omega, ?_⟩
  unfold wp_X7_dug_48
  refine ⟨fun y z => ∃ i, y = pI i ∧ i ≤ (lMo a).length ∧ MLawn z (digMid a t ((lMo a).take i ++ ((lMo a).drop i).filter (notAt t))), fun y _ => (y + nI 1).toNatClampNeg, ⟨(lMo a).length, rfl, Nat.le_refl _, by simpa using hs1⟩, ?_⟩
  rintro _ z ⟨i, rfl, hi, hz⟩
  have meas : ∀ k : Nat, k < 5 → (pI k + nI 1).toNatClampNeg < (nI k + nI 1).toNatClampNeg := by
    intro k hk
    unfold pI
    split
    · rename_i z; subst z; decide
    · rw [nI_add, nI_add, nI_clamp (by omega), nI_clamp (by omega)]; omega
  unfold wb_X7_dug_48
  rcases Nat.eq_zero_or_pos i with e0 | e0
  · subst e0
    rw [pI_0]
    simp (disch := omega) only [nI_lit, nN_eq, nI_add, nI_clamp, nI_inI]
    simp only [List.take_zero, List.drop_zero, List.nil_append] at hz
    refine ⟨fun _ => ⟨by omega, ?_⟩, fun q => absurd ((nN_lt (by omega)).mpr trivial) q⟩
    have hz2 : MLawn (upd z (8 + t) (nI 0)) (digA a t) := ⟨MB_mn hz.1 ht, hz.2.1.of (upd_n (by omega)) (fun q hq => upd_n (by omega)), hz.2.2.of (by
      refine ⟨Nat.le_trans (List.length_filter_le _ _) hl, fun m mm => hM.2 m (List.mem_filter.mp mm).1⟩) (upd_n (by omega)) (fun q q1 q2 => upd_n (by omega))⟩
    generalize upd z (8 + t) (nI 0) = s2 at hz2
    refine M_fallsIn (v := X7_s0 v s2) (T := lTu a) hz2.2.1 ht (fun r hr => hf.1.2 r hr) hfT (fun s3 hc3 hf3 h35 => ?_)
    have hM2 : fitMP ((lMo a).filter (notAt t)) := ⟨Nat.le_trans (List.length_filter_le _ _) hl, fun m mm => hM.2 m (List.mem_filter.mp mm).1⟩
    have h35 : s3 5 = s2 5 + nI ((lTu a).length - (dropT t (lTu a)).length) := h35
    have hf3 : ∀ q, q < 448 → q ≠ 7 → q ≠ 5 → s3 q = s2 q := hf3
    have hz3 : MLawn s3 (dropTun (digA a t) t) := by
      refine ⟨?_, hc3, hz2.2.2.of hM2 (hf3 1 (by omega) (by omega) (by omega)) (fun q q1 q2 => hf3 q q2 (by omega) (by omega))⟩
      obtain ⟨h0, h2, h3, h4, h5, h6, h8, h9, h10, h11⟩ := hz2.1
      refine ⟨?_, ?_, ?_, ?_, ?_, ?_, fun j hj => ?_, fun j hj => ?_, fun j hj => ?_, fun j hj => ?_⟩
      · rw [hf3 0 (by omega) (by omega) (by omega), h0]; rfl
      · rw [hf3 2 (by omega) (by omega) (by omega), h2]; rfl
      · rw [hf3 3 (by omega) (by omega) (by omega), h3]; rfl
      · rw [hf3 4 (by omega) (by omega) (by omega), h4]; rfl
      · rw [h35, h5]; rfl
      · rw [hf3 6 (by omega) (by omega) (by omega), h6]; rfl
      · rw [hf3 _ (by omega) (by omega) (by omega), h8 j hj]; rfl
      · rw [hf3 _ (by omega) (by omega) (by omega), h9 j hj]; rfl
      · rw [hf3 _ (by omega) (by omega) (by omega), h10 j hj]; rfl
      · rw [hf3 _ (by omega) (by omega) (by omega), h11 j hj]; rfl
    refine M_dropTrails (v := v) (a := dropTun (digA a t) t) ht hz3 hf0 hf2 hsp hone hpl (fun s' hs' => ?_) rfl
    have hca : s' 2 = lCa (dropTr (dropTun (digA a t) t) t) := hs'.1.2.1
    have e2 : lCa (dropTr (dropTun (digA a t) t) t) = lCa a + nI ((lMo a).length - ((lMo a).filter (notAt t)).length) := by
      unfold dropTr
      rw [redo_ca]; rfl
    rw [hca, e2, i32_back]
    exact hq s' hs'
  · obtain ⟨k, rfl⟩ : ∃ k, i = k + 1 := ⟨i - 1, by omega⟩
    have hk : k < (lMo a).length := by omega
    rw [pI_s]
    have o := hf.2.1.2 _ (mlA_mem hk)
    have hb := o.2.1 _ (lastOf_mem (okM_ne o))
    have hlen2 : k < ((lMo a).take (k + 1) ++ ((lMo a).drop (k + 1)).filter (notAt t)).length := by
      rw [List.length_append]; simp; omega
    have hlen : ((lMo a).take (k + 1) ++ ((lMo a).drop (k + 1)).filter (notAt t)).length ≤ (lMo a).length := by
      have := List.length_filter_le (notAt t) ((lMo a).drop (k + 1))
      rw [List.length_append]
      simp at this ⊢
      omega
    have hMz : fitMP ((lMo a).take (k + 1) ++ ((lMo a).drop (k + 1)).filter (notAt t)) := ⟨Nat.le_trans hlen hl, fun m mm => by
      rcases List.mem_append.mp mm with w | w
      · exact hM.2 m (List.mem_of_mem_take w)
      · exact hM.2 m (List.mem_of_mem_drop (List.mem_filter.mp w).1)⟩
    have hpc : z (264 + 46 * k + 0) = nI (lastOf (mTr (mlA (lMo a) k))) := by
      have := (hz.2.2.2.1 k hlen2).1
      rw [this]
      show nI (lastOf (mTr (mlA ((lMo a).take (k + 1) ++ ((lMo a).drop (k + 1)).filter (notAt t)) k))) = _
      rw [filt_pl hk]
    simp (disch := omega) only [of_eq, nI_lit, nN_eq, nI_add, pk_mul, nI_clamp, nI_inI, nI_ltI]
    rw [hpc]
    simp (disch := omega) only [nI_eq]
    refine ⟨fun q => by omega, fun _ => ⟨by omega, fun e => ?_, fun e => ?_⟩⟩
    · have hp : notAt t (mlA (lMo a) k) = false := by simp [notAt, e]
      have he := filt_erase hk hp
      refine M_isCaught (v := X7_s0 v z) hz hMz hlen2 (fun s' hs' => ?_)
      have hel : (((lMo a).take (k + 1) ++ ((lMo a).drop (k + 1)).filter (notAt t)).eraseIdx k).length = ((lMo a).take (k + 1) ++ ((lMo a).drop (k + 1)).filter (notAt t)).length - 1 := List.length_eraseIdx_of_lt hlen2
      have ec : caughtA (digMid a t ((lMo a).take (k + 1) ++ ((lMo a).drop (k + 1)).filter (notAt t))) k = digMid a t ((lMo a).take k ++ ((lMo a).drop k).filter (notAt t)) := by
        show (lMn a, va_up (lOp a) t true, upd (lRt a) t (nI 0), upd (lTp a) t nN, lTu a, ((lMo a).take (k + 1) ++ ((lMo a).drop (k + 1)).filter (notAt t)).eraseIdx k, lAi a, lBt a, lCa a + nI _ + nI 1, lGn a, lRi a, lFa a) = _
        rw [he] at hel ⊢
        unfold digMid
        rw [Int32.add_assoc, nI_add, hel]
        have : (lMo a).length - ((lMo a).take (k + 1) ++ ((lMo a).drop (k + 1)).filter (notAt t)).length + 1 = (lMo a).length - (((lMo a).take (k + 1) ++ ((lMo a).drop (k + 1)).filter (notAt t)).length - 1) := by omega
        rw [this]
      rw [ec] at hs'
      rw [pI_m1]
      refine ⟨⟨k, rfl, by omega, hs'⟩, ?_⟩
      have := meas k (by omega)
      rw [nI_add k 1, nI_clamp (by omega)] at this
      exact this
    · have hp : notAt t (mlA (lMo a) k) = true := by simp [notAt, e]
      have he := filt_keep hk hp
      rw [he] at hz
      rw [pI_m1]
      refine ⟨⟨k, rfl, by omega, hz⟩, ?_⟩
      have := meas k (by omega)
      rw [nI_add k 1, nI_clamp (by omega)] at this
      exact this
