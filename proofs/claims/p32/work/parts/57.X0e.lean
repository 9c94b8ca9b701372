/-! Digging up, raking off. -/
def pI (n : Nat) : Int32 := if n = 0 then nN else nI (n - 1)
theorem pI_of (n : Nat) : nI n - nI 1 = pI n := by
  unfold pI
  split
  · rename_i h; subst h; decide
  · rw [pk_sub (by omega)]
theorem pI_m1 (n : Nat) : nI n + nN = pI n := by
  unfold pI
  split
  · rename_i h; subst h; decide
  · rw [nN_add (by omega)]
theorem pI_s (n : Nat) : pI (n + 1) = nI n := by simp [pI]
theorem pI_0 : pI 0 = nN := rfl
theorem i32_back (a b : Int32) : a + b - a = b := by grind
def notAt (t : Nat) (m : Ml) : Bool := !(lastOf (mTr m) == t)
def digA (a : Lw) (t : Nat) : Lw := (va_up (lMn a) t false, va_up (lOp a) t true, upd (lRt a) t (nI 0), upd (lTp a) t nN, lTu a, (lMo a).filter (notAt t), lAi a, lBt a, lCa a + nI ((lMo a).length - ((lMo a).filter (notAt t)).length), lGn a, lRi a, lFa a)
def dug (a : Lw) (t : Nat) : Lw := dropTr (dropTun (digA a t) t) t
theorem filt_erase {M : List Ml} {p : Ml → Bool} {k : Nat} (h : k < M.length) (hp : p (mlA M k) = false) : (M.take (k + 1) ++ (M.drop (k + 1)).filter p).eraseIdx k = M.take k ++ (M.drop k).filter p := by
  rw [ml_take h, ml_split h, List.filter_cons, hp]
  have : (M.take k).length = k := by simp; omega
  rw [List.append_assoc, List.eraseIdx_append_of_length_le (by omega), this, Nat.sub_self]
  rfl
theorem filt_keep {M : List Ml} {p : Ml → Bool} {k : Nat} (h : k < M.length) (hp : p (mlA M k) = true) : M.take (k + 1) ++ (M.drop (k + 1)).filter p = M.take k ++ (M.drop k).filter p := by
  rw [ml_take h, ml_split h, List.filter_cons, hp]
  simp
theorem C_X0_digUp {v : V_X0} {u : V_X3} {a : Lw} (h : CLawn v a) (hf : fitL a) {t : Nat} (ht : t < 64) (hf0 : fitL (dropTun (digA a t) t)) (hf2 : ∀ k, k ≤ (lMo (digA a t)).length → fitL (redo (lostBy t (dropTun (digA a t) t)) k (reset (dropTun (digA a t) t) t))) {Q : Int32 → (Nat → Int32) → (Nat → Int32) → Int32 → Int32 → Int32 → Int32 → Int32 → (Nat → V_X1) → (Nat → Nat) → (Nat → Int32) → (Nat → Int32) → Int32 → (Nat → Int32) → (Nat → Int32) → V_X3 → Prop} (hq : ∀ uc ue us uu ca fa mc mo mr mn op ri rt tp tu, CLawn (mn, op, rt, tp, tu, mr, mo, mc, X0_fullAir v, X0_beats v, ca, X0_gnawed v, ri, fa) (dug a t) → Q (nI ((lMo a).length - ((lMo a).filter (notAt t)).length)) uc ue us uu ca fa mc mo mr mn op ri rt tp tu) : wp_X0_digUp v u (nI t) Q := by
  obtain ⟨h1, h2, h3, h4, h5, h6, h7, h8, h9, h10, h11, h12⟩ := h
  obtain ⟨f1, f2, f3⟩ := hf
  have hl := f2.1
  unfold wp_X0_digUp wp_X0_digUp_33
  rw [h6.1]
  simp (disch := omega) only [nI_lit, nN_eq, nI_add, pk_mul, pk_sub, nI_clamp, nI_leI, nI_ltI, nI_eq, nN_ne, nN_ne', nN_lt, nN_le, nN_nlt, nN_nle, nN_add, nN_in, nI_inI, nI_lt0, nN_clamp, bI_0, bI_1, true_implies, false_implies, not_true_eq_false, not_false_eq_true, true_and, and_true]
  rw [pI_of]
  refine ⟨ht, fun y ca mc r => ∃ i, y = pI i ∧ i ≤ (lMo a).length ∧ ca = lCa a + nI ((lMo a).length - ((lMo a).take i ++ ((lMo a).drop i).filter (notAt t)).length) ∧ CMs r (X0_moles v) mc ((lMo a).take i ++ ((lMo a).drop i).filter (notAt t)), fun y _ _ _ => (y + nI 1).toNatClampNeg, ⟨(lMo a).length, rfl, Nat.le_refl _, ?_, ?_⟩, ?_⟩
  · simp only [List.take_length, List.drop_length, List.filter_nil, List.append_nil, Nat.sub_self]
    rw [h9]
    rw [show nI 0 = 0 from rfl, Int32.add_zero]
  · simpa [← h6.1] using h6
  rintro _ _ mc r ⟨i, rfl, hi, rfl, hc⟩
  unfold wb_X0_digUp_33
  rcases Nat.eq_zero_or_pos i with e0 | e0
  · subst e0
    rw [pI_0]
    simp (disch := omega) only [nI_lit, nN_eq, nI_add, pk_mul, pk_sub, nI_clamp, nI_leI, nI_ltI, nI_eq, nN_ne, nN_ne', nN_lt, nN_le, nN_nlt, nN_nle, nN_add, nN_in, nI_inI, nI_lt0, nN_clamp, bI_0, bI_1, true_implies, false_implies, not_true_eq_false, not_false_eq_true, true_and, and_true]
    simp only [List.take_zero, List.drop_zero, List.nil_append] at hc
    simp only [List.take_zero, List.drop_zero, List.nil_append]
    refine ⟨ht, ?_⟩
    refine C_X0_dropTunnels (v := (upd (X0_mounds v) t (nI 0), upd (X0_opened v) t (nI 1), upd (X0_roots v) t (nI 0), upd (X0_traps v) t nN, X0_tunnels v, r, X0_moles v, mc, X0_fullAir v, X0_beats v, lCa a + nI ((lMo a).length - ((lMo a).filter (notAt t)).length), X0_gnawed v, X0_risen v, X0_fallen v)) (a := digA a t) ⟨upB h1 t false rfl, upB h2 t true rfl, upE h3 t _, upE h4 t _, h5, hc, h7, h8, rfl, h10, h11, h12⟩ f1 ht (fun uc ue us uu fa tu hL => ?_)
    refine C_X0_dropTrails hL ht hf0 hf2 (fun uc ue us uu mo mn ri tu hL2 => ?_)
    have := hq uc ue us uu _ _ _ _ _ _ _ _ _ _ _ hL2
    rw [h9, i32_back]
    exact this
  · obtain ⟨k, rfl⟩ : ∃ k, i = k + 1 := ⟨i - 1, by omega⟩
    have hk : k < (lMo a).length := by omega
    rw [pI_s]
    have o := f2.2 _ (mlA_mem hk)
    have hlen : ((lMo a).take (k + 1) ++ ((lMo a).drop (k + 1)).filter (notAt t)).length ≤ (lMo a).length := by
      have := List.length_filter_le (notAt t) ((lMo a).drop (k + 1))
      rw [List.length_append]
      simp at this ⊢
      omega
    have hlen2 : k < ((lMo a).take (k + 1) ++ ((lMo a).drop (k + 1)).filter (notAt t)).length := by
      rw [List.length_append]; simp; omega
    have hat : mlA ((lMo a).take (k + 1) ++ ((lMo a).drop (k + 1)).filter (notAt t)) k = mlA (lMo a) k := by
      rw [mlA_l (by simp; omega)]
      simp [mlA, List.getElem?_take]
    have hs := hc.self hlen2
    rw [hat] at hs
    have hb := o.2.1 _ (lastOf_mem (okM_ne o))
    simp (disch := omega) only [nI_lit, nN_eq, nI_add, pk_mul, pk_sub, nI_clamp, nI_leI, nI_ltI, nI_eq, nN_ne, nN_ne', nN_lt, nN_le, nN_nlt, nN_nle, nN_add, nN_in, nI_inI, nI_lt0, nN_clamp, bI_0, bI_1, true_implies, false_implies, not_true_eq_false, not_false_eq_true, true_and, and_true]
    refine ⟨fun q => by omega, fun _ => ⟨by omega, hc.2.1 k (by omega), C_X1_place hs o.1 ?_⟩⟩
    simp (disch := omega) only [nI_lit, nN_eq, nI_add, pk_mul, pk_sub, nI_clamp, nI_leI, nI_ltI, nI_eq, nN_ne, nN_ne', nN_lt, nN_le, nN_nlt, nN_nle, nN_add, nN_in, nI_inI, nI_lt0, nN_clamp, bI_0, bI_1, true_implies, false_implies, not_true_eq_false, not_false_eq_true, true_and, and_true]
    refine ⟨fun e => ?_, fun e => ?_⟩
    · have hp : notAt t (mlA (lMo a) k) = false := by simp [notAt, e]
      have he := filt_erase hk hp
      refine C_X0_catchMole (v := (X0_mounds v, upd (X0_opened v) t (nI 1), upd (X0_roots v) t (nI 0), upd (X0_traps v) t nN, X0_tunnels v, r, X0_moles v, mc, X0_fullAir v, X0_beats v, lCa a + nI ((lMo a).length - ((lMo a).take (k + 1) ++ ((lMo a).drop (k + 1)).filter (notAt t)).length), X0_gnawed v, X0_risen v, X0_fallen v)) (a := withMo a ((lMo a).take (k + 1) ++ ((lMo a).drop (k + 1)).filter (notAt t))) hc (Nat.le_trans hlen hl) hlen2 (fun mc2 r2 hc2 => ?_)
      have hc3 : CMs r2 (X0_moles v) mc2 (((lMo a).take (k + 1) ++ ((lMo a).drop (k + 1)).filter (notAt t)).eraseIdx k) := hc2
      have hel : (((lMo a).take (k + 1) ++ ((lMo a).drop (k + 1)).filter (notAt t)).eraseIdx k).length = ((lMo a).take (k + 1) ++ ((lMo a).drop (k + 1)).filter (notAt t)).length - 1 := List.length_eraseIdx_of_lt hlen2
      rw [he] at hc3 hel
      refine ⟨⟨k, by rw [pI_m1], by omega, ?_, hc3⟩, ?_⟩
      · show lCa a + nI _ + nI 1 = _
        rw [Int32.add_assoc, nI_add]
        congr 2
        omega
      · rw [pI_m1]
        show (pI k + nI 1).toNatClampNeg < _
        unfold pI
        split
        · rename_i z; subst z; decide
        · rw [nI_add, nI_clamp (by omega)]
          omega
    · have hp : notAt t (mlA (lMo a) k) = true := by simp [notAt, e]
      have he := filt_keep hk hp
      rw [he] at hc
      rw [he]
      refine ⟨⟨k, by rw [pI_m1], by omega, rfl, hc⟩, ?_⟩
      rw [pI_m1]
      show (pI k + nI 1).toNatClampNeg < _
      unfold pI
      split
      · rename_i z; subst z; decide
      · rw [nI_add, nI_clamp (by omega)]
        omega
