/-! The survey of the class; the reference's hollow tufts and sure tufts. -/
def CSv (v : V_X4) (a : Lw) : Prop := ∀ t, t < 64 → X4_hollow v t = bI (hol a t) ∧ X4_crossings v t = nI (crN (lTu a) t) ∧ X4_sure v t = sureA a t
theorem inT_take {T : Tu} {j : Nat} (hj : j < T.length) (t : Nat) : inT (T.take (j + 1)) t = (inT (T.take j) t || decide (t ∈ row T j)) := by
  unfold inT
  rw [row_take hj, List.any_append]
  simp
theorem crN_take {T : Tu} {j : Nat} (hj : j < T.length) (t : Nat) : crN (T.take (j + 1)) t = crN (T.take j) t + if t ∈ row T j then 1 else 0 := by
  unfold crN
  rw [row_take hj, List.countP_append]
  simp [List.countP_cons]
theorem mo_take {M : List Ml} {j : Nat} (hj : j < M.length) : M.take (j + 1) = M.take j ++ [mlA M j] := by
  unfold mlA
  rw [List.take_succ, List.getElem?_eq_getElem hj]
  rfl
theorem inM_take {M : List Ml} {j : Nat} (hj : j < M.length) (t : Nat) : inM (M.take (j + 1)) t = (inM (M.take j) t || decide (t ∈ mTr (mlA M j))) := by
  unfold inM
  rw [mo_take hj, List.any_append]
  simp
theorem C_read {v : V_X4} {x : V_X0} {a : Lw} {n : Nat} (h : CLawn x a) (g : Good n a) (hn : n ≤ 512) {Q : (Nat → Int32) → (Nat → Int32) → (Nat → Int32) → (Nat → Int32) → Prop} (hq : ∀ zc zh zs zu, CSv (zh, zc, zu, zs) a → Q zc zh zs zu) : wp_X4_read v x Q := by
  have hft := g.1.fit hn
  have hf := hft.1
  have hT : CRows (X0_tunnels x) (lTu a) := h.2.2.2.2.1
  have hsz := hT.parts.2.2.1
  have hlen := hf.1.2
  obtain ⟨c1, c2, c3, c4⟩ := h.2.2.2.2.2.1
  have hm4 := hft.2.1.1
  unfold wp_X4_read wp_X4_read_2
  refine ⟨fun y zc zh zs => ∃ k, y = nI k ∧ k ≤ 64 ∧ ∀ t, t < k → zc t = nI 0 ∧ zh t = nI 0 ∧ zs t = nN, fun y _ _ _ => 100 - y.toNatClampNeg, ⟨0, rfl, by omega, fun t ht => by omega⟩, ?_⟩
  rintro _ zc zh zs ⟨k, rfl, hk, hz⟩
  unfold wb_X4_read_2
  simp (disch := omega) only [nI_lit, nN_eq, nI_clamp, nI_inI, nI_add, nI_leI]
  refine ⟨fun e => ?_, fun e => ⟨by omega, ⟨k + 1, rfl, by omega, fun t ht => ?_⟩, by omega⟩⟩
  rotate_left
  · by_cases c : t = k
    · subst c; rw [upd_s, upd_s, upd_s]; exact ⟨rfl, rfl, rfl⟩
    · rw [upd_n c, upd_n c, upd_n c]; exact hz t (by omega)
  have hz64 : ∀ t, t < 64 → zc t = nI 0 ∧ zh t = nI 0 ∧ zs t = nN := fun t ht => hz t (by omega)
  unfold wp_X4_read_37
  refine ⟨fun y zc zh zs => ∃ j, y = nI j ∧ j ≤ (lTu a).length ∧ ∀ t, t < 64 → zc t = nI (crN ((lTu a).take j) t) ∧ zh t = bI (inT ((lTu a).take j) t) ∧ (zs t = nN ∨ ∃ i, i < j ∧ zs t = nI i), fun y _ _ _ => 600 - y.toNatClampNeg, ⟨0, rfl, Nat.zero_le _, fun t ht => ?_⟩, ?_⟩
  · obtain ⟨q1, q2, q3⟩ := hz64 t ht
    exact ⟨q1, q2, Or.inl q3⟩
  rintro _ zc zh zs ⟨j, rfl, hj, hz⟩
  unfold wb_X4_read_37
  rw [hsz]
  simp (disch := omega) only [nI_lit, nI_clamp, nI_inI, nI_add, nI_leI]
  refine ⟨fun e => ?_, fun e => ?_⟩
  rotate_left
  · have hj2 : j < (lTu a).length := by omega
    refine C_readTunnel (v := (zh, zc, X4_sure v, zs)) hT hf hj2 (fun t ht q => ?_) (fun zc2 zh2 zs2 hz2 => ⟨⟨j + 1, rfl, hj2, fun t ht => ?_⟩, by omega⟩)
    · have q : zs t = nI j := q
      rcases (hz t ht).2.2 with z | ⟨i, hi, z⟩
      · rw [z] at q; exact (nN_ne' (by omega)).mp q
      · rw [z] at q
        have := (nI_eq (by omega) (by omega)).mp q
        omega
    · obtain ⟨q1, q2, q3⟩ := hz t ht
      obtain ⟨p1, p2, p3⟩ := hz2 t ht
      have p1 : zc2 t = zc t + (if t ∈ row (lTu a) j then nI 1 else nI 0) := p1
      have p2 : zh2 t = (if t ∈ row (lTu a) j then nI 1 else zh t) := p2
      have p3 : zs2 t = (if t ∈ row (lTu a) j then nI j else zs t) := p3
      rw [crN_take hj2, inT_take hj2, p1, p2, p3, q1, q2]
      by_cases c : t ∈ row (lTu a) j
      · rw [if_pos c, if_pos c, if_pos c, if_pos c, decide_eq_true c, Bool.or_true, nI_add]
        exact ⟨rfl, rfl, Or.inr ⟨j, by omega, rfl⟩⟩
      · rw [if_neg c, if_neg c, if_neg c, if_neg c, decide_eq_false c, Bool.or_false, nI_add]
        refine ⟨rfl, rfl, q3.elim Or.inl (fun ⟨i, hi, z⟩ => Or.inr ⟨i, by omega, z⟩)⟩
  have ej : j = (lTu a).length := by omega
  subst ej
  rw [List.take_length] at hz
  unfold wp_X4_read_65
  refine ⟨fun y zh => ∃ i, y = nI i ∧ i ≤ (lMo a).length ∧ ∀ t, t < 64 → zh t = bI (inT (lTu a) t || inM ((lMo a).take i) t), fun y _ => 10 - y.toNatClampNeg, ⟨0, rfl, Nat.zero_le _, fun t ht => ?_⟩, ?_⟩
  · rw [(hz t ht).2.1]
    simp [inM]
  rintro _ zh2 ⟨i, rfl, hi, hz2⟩
  unfold wb_X4_read_65
  rw [c1]
  simp (disch := omega) only [nI_lit, nI_clamp, nI_inI, nI_add, nI_leI]
  refine ⟨fun e => ?_, fun e => ⟨by omega, c2 i (by omega), C_readTrail (v := (zh2, zc, X4_sure v, zs)) (c4 i (by omega)) (hft.2.1.2 _ (mlA_mem (by omega))) (fun z hz3 => ⟨⟨i + 1, rfl, by omega, fun t ht => ?_⟩, by omega⟩)⟩⟩
  · have ei : i = (lMo a).length := by omega
    subst ei
    rw [List.take_length] at hz2
    exact C_findSure (v := (zh2, zc, X4_sure v, zs)) h hz2 (fun z hz3 => hq zc zh2 zs z (fun t ht => ⟨hz2 t ht, (hz t ht).1, hz3 t ht⟩))
  · have := hz3 t ht
    rw [this, inM_take (by omega), ← Bool.or_assoc]
    by_cases c : t ∈ mTr (mlA (lMo a) i)
    · rw [if_pos c, decide_eq_true c, Bool.or_true]; rfl
    · rw [if_neg c, decide_eq_false c, Bool.or_false]; exact hz2 t ht
