/-! What the class reads from a lawn: hollow, crossed. -/
def inT (T : Tu) (t : Nat) : Bool := T.any (fun r => decide (t ∈ r))
def crN (T : Tu) (t : Nat) : Nat := T.countP (fun r => decide (t ∈ r))
def inM (M : List Ml) (t : Nat) : Bool := M.any (fun m => decide (t ∈ mTr m))
def hol (a : Lw) (t : Nat) : Bool := inT (lTu a) t || inM (lMo a) t
theorem C_readTunnel {v : V_X4} {x : V_X3} {T : Tu} (h : CRows x T) (hf : fitTu T) {j : Nat} (hj : j < T.length) (hs : ∀ t, t < 64 → X4_seenBy v t ≠ nI j) {Q : (Nat → Int32) → (Nat → Int32) → (Nat → Int32) → Prop} (hq : ∀ zc zh zs, (∀ t, t < 64 → zc t = X4_crossings v t + (if t ∈ row T j then nI 1 else nI 0) ∧ zh t = (if t ∈ row T j then nI 1 else X4_hollow v t) ∧ zs t = (if t ∈ row T j then nI j else X4_seenBy v t)) → Q zc zh zs) : wp_X4_readTunnel v x (nI j) Q := by
  have hrow := hf.2 _ (row_mem hj)
  have os := off_s hj
  have os2 := off_row hj
  have hl := hf.1.1
  have hT := hf.1.2
  unfold wp_X4_readTunnel
  refine C_X3_to h hf.1 hj (C_X3_from h hf.1 (by omega) ?_)
  unfold wp_X4_readTunnel_13
  refine ⟨fun y zc zh zs => ∃ k, y = nI (off T j + k) ∧ k ≤ (row T j).length ∧ ∀ t, t < 64 → zc t = X4_crossings v t + (if t ∈ (row T j).take k then nI 1 else nI 0) ∧ zh t = (if t ∈ (row T j).take k then nI 1 else X4_hollow v t) ∧ zs t = (if t ∈ (row T j).take k then nI j else X4_seenBy v t), fun y _ _ _ => 2000 - y.toNatClampNeg, ⟨0, rfl, Nat.zero_le _, fun t ht => by simp [nI_lit]⟩, ?_⟩
  rintro _ zc zh zs ⟨k, rfl, hk, hz⟩
  unfold wb_X4_readTunnel_13
  simp (disch := omega) only [nI_lit, nI_clamp, nI_inI, nI_add, nI_leI]
  refine ⟨fun e => hq zc zh zs (fun t ht => ?_), fun e => ⟨by omega, ?_⟩⟩
  · have := hz t ht
    rw [List.take_of_length_le (by omega)] at this
    exact this
  · have hk2 : k < (row T j).length := by omega
    have l := hrow.2 _ (at0_mem hk2)
    have hc := h.cell hj hk2
    have htk : ∀ t, t ∈ (row T j).take (k + 1) ↔ t ∈ (row T j).take k ∨ t = at0 (row T j) k := fun t => by rw [take_s hk2]; simp
    have hme : 2000 - (off T j + (k + 1)) < 2000 - (off T j + k) := by omega
    rw [hc]
    simp (disch := omega) only [nI_clamp, nI_inI]
    generalize at0 (row T j) k = t0 at l hc htk
    obtain ⟨z1, z2, z3⟩ := hz t0 l
    refine ⟨l, fun e2 => ⟨⟨k + 1, by rw [Nat.add_assoc], hk2, fun t ht => ?_⟩, by omega⟩, fun e2 => ⟨⟨k + 1, by rw [Nat.add_assoc], hk2, fun t ht => ?_⟩, by omega⟩⟩
    · have hin : t0 ∈ (row T j).take k := by
        apply Classical.byContradiction
        intro q
        rw [z3, if_neg q] at e2
        exact hs t0 l e2
      have he : (t ∈ (row T j).take (k + 1)) = (t ∈ (row T j).take k) := propext ⟨fun q => ((htk t).mp q).elim id (fun q => by subst q; exact hin), fun q => (htk t).mpr (Or.inl q)⟩
      simp only [he]
      exact hz t ht
    · have hout : ¬ t0 ∈ (row T j).take k := fun q => e2 (by rw [z3, if_pos q])
      by_cases c : t = t0
      · subst c
        have hin : t ∈ (row T j).take (k + 1) := (htk t).mpr (Or.inr rfl)
        rw [upd_s, upd_s, upd_s, if_pos hin, if_pos hin, if_pos hin, z1, if_neg hout]
        refine ⟨?_, rfl, rfl⟩
        show X4_crossings v t + 0 + 1 = X4_crossings v t + 1
        rw [Int32.add_zero]
      · have he : (t ∈ (row T j).take (k + 1)) = (t ∈ (row T j).take k) := propext ⟨fun q => ((htk t).mp q).elim id (fun q => absurd q c), fun q => (htk t).mpr (Or.inl q)⟩
        rw [upd_n c, upd_n c, upd_n c]
        simp only [he]
        exact hz t ht
theorem C_readTrail {v : V_X4} {x : V_X1} {m : Ml} (h : CMole x m) (hm : okM m) {Q : (Nat → Int32) → Prop} (hq : ∀ z, (∀ t, t < 64 → z t = (if t ∈ mTr m then nI 1 else X4_hollow v t)) → Q z) : wp_X4_readTrail v x Q := by
  obtain ⟨h1, h2, h3, h4, h5, h6⟩ := h
  have f1 := hm.1
  unfold wp_X4_readTrail wp_X4_readTrail_2
  refine ⟨fun y z => ∃ k, y = nI k ∧ k ≤ (mTr m).length ∧ ∀ t, t < 64 → z t = (if t ∈ (mTr m).take k then nI 1 else X4_hollow v t), fun y _ => 100 - y.toNatClampNeg, ⟨0, rfl, Nat.zero_le _, fun t ht => by simp⟩, ?_⟩
  rintro _ z ⟨k, rfl, hk, hz⟩
  have f21 := f1.2.2
  unfold wb_X4_readTrail_2
  rw [h4]
  simp (disch := omega) only [nI_lit, nI_clamp, nI_inI, nI_add, nI_leI]
  refine ⟨fun e => hq z (fun t ht => ?_), fun e => ⟨by omega, ?_⟩⟩
  · have := hz t ht
    rw [List.take_of_length_le (by omega)] at this
    exact this
  · have hk2 : k < (mTr m).length := by omega
    have l := hm.2.1 _ (at0_mem hk2)
    have htk : ∀ t, t ∈ (mTr m).take (k + 1) ↔ t ∈ (mTr m).take k ∨ t = at0 (mTr m) k := fun t => by rw [take_s hk2]; simp
    rw [seg0 h2 hk2]
    simp (disch := omega) only [nI_clamp, nI_inI]
    refine ⟨l, ⟨k + 1, rfl, hk2, fun t ht => ?_⟩, by omega⟩
    by_cases c : t = at0 (mTr m) k
    · rw [if_pos ((htk t).mpr (Or.inr c)), c, upd_s]
    · have he : (t ∈ (mTr m).take (k + 1)) = (t ∈ (mTr m).take k) := propext ⟨fun q => ((htk t).mp q).elim id (fun q => absurd q c), fun q => (htk t).mpr (Or.inl q)⟩
      rw [upd_n c]
      simp only [he]
      exact hz t ht
