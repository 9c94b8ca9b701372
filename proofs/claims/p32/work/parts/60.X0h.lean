def decT (f : Nat → Int32) : Nat → Int32 := fun t => if f t ≤ nI 0 then f t else f t - nI 1
def tick (a : Lw) : Lw := (lMn a, lOp a, lRt a, decT (lTp a), lTu a, lMo a, lAi a, lBt a + nI 1, lCa a, lGn a, lRi a, lFa a)
def moves : Nat → Nat → Lw → Lw
  | 0, _, a => a
  | n + 1, i, a => if i < (lMo a).length then moves n (if (act a i).1 then i + 1 else i) (act a i).2 else a
theorem moves_out {a : Lw} {i : Nat} (h : ¬ i < (lMo a).length) : ∀ n, moves n i a = a
  | 0 => rfl
  | n + 1 => by rw [moves, if_neg h]
theorem moves_in {a : Lw} {i n : Nat} (h : i < (lMo a).length) : moves (n + 1) i a = moves n (if (act a i).1 then i + 1 else i) (act a i).2 := by rw [moves, if_pos h]
def beatA (a : Lw) : Lw := moves (lMo a).length 0 (tick a)
def airOk (a : Lw) : Prop := ∀ i, i < (lMo a).length → mPl (mlA (lMo a) i) ≠ [] → 1 ≤ mAi (mlA (lMo a) i) ∧ (mTr (mlA (lMo a) i)).length + mAi (mlA (lMo a) i) ≤ 21
theorem C_X0_beat {v : V_X0} {u : V_X3} {a : Lw} (P : Lw → Prop) (hP : ∀ b, P b → fitL b ∧ airOk b) (hA : ∀ b i, P b → i < (lMo b).length → P (act b i).2) (h : CLawn v a) (ha : P (tick a)) {Q : (Nat → Int32) → (Nat → Int32) → Int32 → Int32 → Int32 → Int32 → Int32 → Int32 → (Nat → V_X1) → (Nat → Nat) → (Nat → Int32) → Int32 → (Nat → Int32) → (Nat → Int32) → V_X3 → Prop} (hq : ∀ uc ue us uu bt ca gn mc mo mr mn ri rt tp tu, CLawn (mn, X0_opened v, rt, tp, tu, mr, mo, mc, X0_fullAir v, bt, ca, gn, ri, X0_fallen v) (beatA a) → Q uc ue us uu bt ca gn mc mo mr mn ri rt tp tu) : wp_X0_beat v u Q := by
  obtain ⟨h1, h2, h3, h4, h5, h6, h7, h8, h9, h10, h11, h12⟩ := h
  have hl : (lMo a).length ≤ 4 := (hP _ ha).1.2.1.1
  unfold wp_X0_beat wp_X0_beat_12
  refine ⟨fun y tp => ∃ k, y = nI k ∧ k ≤ 64 ∧ (∀ t, t < k → tp t = decT (lTp a) t) ∧ ∀ t, k ≤ t → t < 64 → tp t = lTp a t, fun y tp => 70 - y.toNatClampNeg, ⟨0, rfl, by omega, fun t ht => by omega, fun t _ ht => h4 t ht⟩, ?_⟩
  rintro _ tp ⟨k, rfl, hk, hd, hn⟩
  unfold wb_X0_beat_12
  simp (disch := omega) only [nI_lit, nI_clamp, nI_leI, nI_add, nI_inI]
  refine ⟨fun q => ?_, fun q => ⟨by omega, ?_⟩⟩
  · have hk64 : k = 64 := by omega
    subst hk64
    have hL : CLawn (X0_mounds v, X0_opened v, X0_roots v, tp, X0_tunnels v, X0_molesR v, X0_moles v, X0_moleCount v, X0_fullAir v, X0_beats v + nI 1, X0_caught v, X0_gnawed v, X0_risen v, X0_fallen v) (tick a) := ⟨h1, h2, h3, hd, h5, h6, h7, by show X0_beats v + nI 1 = lBt a + nI 1; rw [h8], h9, h10, h11, h12⟩
    unfold wp_X0_beat_50
    refine ⟨fun y1 y2 uc ue us uu ca gn mc mo mr mn ri rt tp tu => ∃ i n b, y1 = nI i ∧ y2 = nI n ∧ i ≤ 4 ∧ n ≤ 4 ∧ P b ∧ moves n i b = beatA a ∧ CLawn (mn, X0_opened v, rt, tp, tu, mr, mo, mc, X0_fullAir v, X0_beats v + nI 1, ca, gn, ri, X0_fallen v) b, fun _ y2 _ _ _ _ _ _ _ _ _ _ _ _ _ _ => y2.toNatClampNeg, ⟨0, (lMo a).length, tick a, rfl, h6.1, by omega, hl, ha, rfl, hL⟩, ?_⟩
    rintro _ _ uc ue us uu ca gn mc mo mr mn ri rt tp tu ⟨i, n, b, rfl, rfl, hi, hn4, hb, hm, hLb⟩
    have hmc : mc = nI (lMo b).length := hLb.2.2.2.2.2.1.1
    obtain ⟨hfb, hab⟩ := hP b hb
    have hlb := hfb.2.1.1
    unfold wb_X0_beat_50
    rw [hmc] at hLb ⊢
    simp (disch := omega) only [nI_lit, nN_eq, nI_clamp, nI_leI]
    refine ⟨fun e => ?_, fun e => ⟨fun e2 => ?_, fun e2 => ?_⟩⟩
    · have : n = 0 := by omega
      subst this
      exact hq _ _ _ _ _ _ _ _ _ _ _ _ _ _ _ (by rw [← hm]; exact hLb)
    · rw [nN_add (by omega)]
      refine ⟨⟨i, n - 1, b, rfl, rfl, hi, by omega, hb, ?_, hLb⟩, by rw [nI_clamp (by omega)]; omega⟩
      rw [moves_out (by omega)] at hm ⊢; exact hm
    · obtain ⟨n, rfl⟩ : ∃ m, n = m + 1 := ⟨n - 1, by omega⟩
      have hib : i < (lMo b).length := by omega
      rw [moves_in hib] at hm
      have hb2 := hA b i hb hib
      refine C_X0_staysAfterTurn hLb hfb hib (hab i hib) (hP _ hb2).1 (fun uc ue us uu ca gn mc mo mr mn ri rt tp tu hL2 => ?_)
      rw [nN_add (by omega), nI_add, Nat.add_sub_cancel]
      simp only [bI_0]
      refine ⟨fun ef => ⟨⟨i, n, _, rfl, rfl, hi, by omega, hb2, ?_, hL2⟩, by rw [nI_clamp (by omega)]; omega⟩, fun et => ⟨⟨i + 1, n, _, rfl, rfl, by omega, by omega, hb2, ?_, hL2⟩, by rw [nI_clamp (by omega)]; omega⟩⟩
      · rw [ef] at hm; exact hm
      · have et : (act b i).1 = true := by simpa using et
        rw [et] at hm; exact hm
  · have e0 := hn k (Nat.le_refl _) (by omega)
    refine ⟨fun e => ⟨⟨k + 1, rfl, by omega, fun t ht => ?_, fun t h5 h6 => hn t (by omega) h6⟩, by omega⟩, fun e => ⟨⟨k + 1, rfl, by omega, fun t ht => ?_, fun t h5 h6 => ?_⟩, by omega⟩⟩
    · by_cases z : t = k
      · subst z
        rw [e0] at e ⊢
        rw [decT, if_pos e]
      · exact hd t (by omega)
    · by_cases z : t = k
      · subst z
        rw [e0] at e ⊢
        rw [upd_s, decT, if_neg e]
      · rw [upd_n z]; exact hd t (by omega)
    · rw [upd_n (by omega)]; exact hn t (by omega) h6
