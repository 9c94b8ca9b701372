/-! The reference: a mole goes, tries, acts. -/
theorem M_in {x lo hi : Int32} {Q : Int32 → Prop} (hq : Q (if x < lo then nI 0 else if hi < x then nI 0 else nI 1)) : wp_X7_in x lo hi Q := by
  unfold wp_X7_in
  refine ⟨fun e => ?_, fun e => ⟨fun e2 => ?_, fun e2 => ?_⟩⟩
  · rw [if_pos e] at hq; exact hq
  · rw [if_neg e, if_pos e2] at hq; exact hq
  · rw [if_neg e, if_neg e2] at hq; exact hq
theorem M_hasMound {v : V_X7} {a : Lw} (h : MB (X7_s v) a) {t : Nat} (ht : t < 64) {Q : Int32 → Prop} (hq : Q (bI (lMn a t))) : wp_X7_hasMound v (nI t) Q := by
  have h8 := h.2.2.2.2.2.2.1 t ht
  unfold wp_X7_hasMound
  simp (disch := omega) only [nI_lit, nI_add, nI_clamp, nI_inI]
  rw [h8]
  refine ⟨by omega, ?_⟩
  cases e : lMn a t with
  | true => rw [e] at hq; exact ⟨fun _ => hq, fun q => absurd rfl q⟩
  | false => rw [e] at hq; exact ⟨fun q => absurd q (by decide), fun _ => hq⟩
def wentD (a : Lw) (i p : Nat) : Lw := (lMn a, lOp a, lRt a, upd (lTp a) p nN, lTu a, (lMo a).set i ((mPl (mlA (lMo a) i)).tail, mTr (mlA (lMo a) i) ++ [p], mAi (mlA (lMo a) i), mSt (mlA (lMo a) i) + nI 1), lAi a, lBt a, lCa a, lGn a, lRi a, lFa a)
theorem lastOf_snoc (L : List Nat) (x : Nat) : lastOf (L ++ [x]) = x := by
  unfold lastOf
  rw [at0_r (by simp)]
  simp [at0]
theorem M_goes {v : V_X7} {a : Lw} (h : MLawn (X7_s v) a) (hM : fitMP (lMo a)) {i p : Nat} (hi : i < (lMo a).length) (hp : p < 64) (hne : 0 < (mPl (mlA (lMo a) i)).length) (htr : (mTr (mlA (lMo a) i)).length < 21) {Q : Int32 → (Nat → Int32) → Prop} (hq : ∀ s', MLawn s' (if lTp a p = nI 0 then caughtA (wentD a i p) i else wentD a i p) → Q (bI (decide (lTp a p = nI 0))) s') : wp_X7_goes v (nI i) (nI p) Q := by
  obtain ⟨hb, hc, hm⟩ := h
  have hl := hM.1
  have ok := hM.2 _ (mlA_mem hi)
  unfold wp_X7_goes
  refine M_takesOff (hm.2.1 i hi) ok (by omega) hne (fun s2 hs2 hf2 => ?_)
  obtain ⟨g1, g2, g3, g4, g5, g6, g7⟩ := hs2
  have g5 : s2 (264 + 46 * i + 23) = nI (mTr (mlA (lMo a) i)).length := g5
  simp (disch := omega) only [of_eq, nI_lit, nN_eq, nI_add, pk_mul, nI_clamp, nI_inI]
  rw [upd_n (k := 264 + 46 * i + 0) (j := 264 + 46 * i + 23) (by omega), g5]
  simp (disch := omega) only [nI_add, nI_clamp, nI_inI]
  rw [upd_n (k := 264 + 46 * i + (24 + (mTr (mlA (lMo a) i)).length)) (j := 264 + 46 * i + 23) (by omega), upd_n (k := 264 + 46 * i + 0) (j := 264 + 46 * i + 23) (by omega), g5, nI_add]
  rw [upd_n (k := 264 + 46 * i + 23) (j := 264 + 46 * i + 45) (by omega), upd_n (k := 264 + 46 * i + (24 + (mTr (mlA (lMo a) i)).length)) (j := 264 + 46 * i + 45) (by omega), upd_n (k := 264 + 46 * i + 0) (j := 264 + 46 * i + 45) (by omega)]
  generalize hs3 : upd (upd (upd (upd s2 (264 + 46 * i + 0) (nI p)) (264 + 46 * i + (24 + (mTr (mlA (lMo a) i)).length)) (nI p)) (264 + 46 * i + 23) (nI ((mTr (mlA (lMo a) i)).length + 1))) (264 + 46 * i + 45) (s2 (264 + 46 * i + 45) + nI 1) = s3
  have k0 : s3 (264 + 46 * i + 0) = nI p := by rw [← hs3, upd_n (by omega), upd_n (by omega), upd_n (by omega), upd_s]
  have k24 : s3 (264 + 46 * i + (24 + (mTr (mlA (lMo a) i)).length)) = nI p := by rw [← hs3, upd_n (by omega), upd_n (by omega), upd_s]
  have k23 : s3 (264 + 46 * i + 23) = nI ((mTr (mlA (lMo a) i)).length + 1) := by rw [← hs3, upd_n (by omega), upd_s]
  have k45 : s3 (264 + 46 * i + 45) = s2 (264 + 46 * i + 45) + nI 1 := by rw [← hs3, upd_s]
  have kq : ∀ q, q ≠ 264 + 46 * i + 0 → q ≠ 264 + 46 * i + (24 + (mTr (mlA (lMo a) i)).length) → q ≠ 264 + 46 * i + 23 → q ≠ 264 + 46 * i + 45 → s3 q = s2 q := fun q q1 q2 q3 q4 => by rw [← hs3, upd_n q4, upd_n q3, upd_n q2, upd_n q1]
  clear hs3
  have klow : ∀ q, q < 264 ∨ 448 ≤ q → s3 q = X7_s v q := fun q q1 => by rw [kq q (by omega) (by omega) (by omega) (by omega), hf2 q (by omega)]
  have h10 := hb.2.2.2.2.2.2.2.2.1 p hp
  rw [klow (136 + p) (by omega), h10]
  -- the state behind the step, the trap gone
  have hW : MLawn (upd s3 (136 + p) nN) (wentD a i p) := by
    refine ⟨?_, ?_, ?_⟩
    · have hlow2 : ∀ q, q < 264 → q ≠ 136 + p → upd s3 (136 + p) nN q = X7_s v q := fun q q1 q2 => by rw [upd_n q2, klow q (by omega)]
      obtain ⟨h0, h2, h3, h4, h5, h6, h8, h9, h10, h11⟩ := hb
      refine ⟨?_, ?_, ?_, ?_, ?_, ?_, fun t ht => ?_, fun t ht => ?_, fun t ht => ?_, fun t ht => ?_⟩
      · rw [hlow2 0 (by omega) (by omega), h0]; rfl
      · rw [hlow2 2 (by omega) (by omega), h2]; rfl
      · rw [hlow2 3 (by omega) (by omega), h3]; rfl
      · rw [hlow2 4 (by omega) (by omega), h4]; rfl
      · rw [hlow2 5 (by omega) (by omega), h5]; rfl
      · rw [hlow2 6 (by omega) (by omega), h6]; rfl
      · rw [hlow2 _ (by omega) (by omega), h8 t ht]; rfl
      · rw [hlow2 _ (by omega) (by omega), h9 t ht]; rfl
      · show upd s3 (136 + p) nN (136 + t) = upd (lTp a) p nN t
        by_cases e : t = p
        · subst e; rw [upd_s, upd_s]
        · rw [upd_n (by omega), upd_n e, klow _ (by omega), h10 t ht]
      · rw [hlow2 _ (by omega) (by omega), h11 t ht]; rfl
    · exact hc.of (by rw [upd_n (by omega), klow 7 (by omega)]) (fun q hq => by rw [upd_n (by omega), klow q (by omega)])
    · have o1 := ok.1
      refine MMsP.set (pl := plM (lMo a)) (m := ((mPl (mlA (lMo a) i)).tail, mTr (mlA (lMo a) i) ++ [p], mAi (mlA (lMo a) i), mSt (mlA (lMo a) i) + nI 1)) hm hM hi ?_ (fun j hj => ?_) (by rw [upd_n (by omega), klow 1 (by omega)]) (fun q q1 q2 q3 => by
        rw [upd_n (by omega), kq q (by omega) (by omega) (by omega) (by omega), hf2 q (by omega)])
      · have ep : plM (lMo (wentD a i p)) i = p := by
          show lastOf (mTr (mlA ((lMo a).set i _) i)) = _
          rw [mlA_set hi, if_pos rfl]
          exact lastOf_snoc _ _
        rw [ep]
        have hsame : ∀ q, 264 ≤ q → q < 448 → q ≠ 264 + 46 * i + 0 → q ≠ 264 + 46 * i + (24 + (mTr (mlA (lMo a) i)).length) → q ≠ 264 + 46 * i + 23 → q ≠ 264 + 46 * i + 45 → upd s3 (136 + p) nN q = s2 q := fun q q1 q2 q3 q4 q5 q6 => by rw [upd_n (by omega), kq q q3 q4 q5 q6]
        refine ⟨?_, ?_, ?_, seg_of g4 (fun k hk => ?_), ?_, seg_app (seg_of g6 (fun k hk => ?_)) (seg_cons2 ?_), ?_⟩
        · rw [upd_n (by omega), k0]
        · rw [hsame _ (by omega) (by omega) (by omega) (by omega) (by omega) (by omega), g2]; rfl
        · rw [hsame _ (by omega) (by omega) (by omega) (by omega) (by omega) (by omega), g3]; rfl
        · have hk : k < (mPl (mlA (lMo a) i)).tail.length := hk
          rw [List.length_tail] at hk
          exact hsame _ (by omega) (by omega) (by omega) (by omega) (by omega) (by omega)
        · rw [upd_n (by omega), k23]
          show _ = nI (mTr (mlA (lMo a) i) ++ [p]).length
          simp
        · have hk : k < (mTr (mlA (lMo a) i)).length := hk
          exact hsame _ (by omega) (by omega) (by omega) (by omega) (by omega) (by omega)
        · rw [upd_n (by omega), Nat.add_assoc, k24]
        · rw [upd_n (by omega), k45, g7]; rfl
      · show lastOf (mTr (mlA ((lMo a).set i _) j)) = plM (lMo a) j
        unfold plM mlA
        rw [List.getElem?_set, if_neg (fun q => hj q.symm)]
  have hMW : fitMP (lMo (wentD a i p)) := by
    refine ⟨by show ((lMo a).set i _).length ≤ 4; rw [List.length_set]; exact hl, fun m hm => ?_⟩
    rcases List.mem_or_eq_of_mem_set hm with z | z
    · exact hM.2 m z
    · rw [z]
      obtain ⟨o1, o2, o3, o4, o5⟩ := ok
      refine ⟨?_, ?_, fun x hx => ?_, fun d hd => o4 d (List.mem_of_mem_tail hd), o5⟩
      · show (mPl (mlA (lMo a) i)).tail.length ≤ 20
        rw [List.length_tail]; omega
      · show (mTr (mlA (lMo a) i) ++ [p]).length ≤ 21
        simp; omega
      · rcases List.mem_append.mp hx with y | y
        · exact o3 x y
        · have : x = p := by simpa using y
          omega
  have hiW : i < (lMo (wentD a i p)).length := by
    show i < ((lMo a).set i _).length
    rw [List.length_set]; exact hi
  refine ⟨by omega, by omega, by omega, by omega, by omega, by omega, fun e => ?_, fun e => ?_⟩
  · rw [if_pos e] at hq
    have hd : decide (lTp a p = nI 0) = true := by simp [e]
    rw [hd] at hq
    unfold wp_X7_goes_88
    simp (disch := omega) only [nI_lit, nN_eq, nI_add, nI_clamp, nI_inI]
    refine ⟨by omega, fun q => absurd q (by decide), fun _ => ?_⟩
    exact M_isCaught (v := X7_s0 v (upd s3 (136 + p) nN)) hW hMW hiW (fun s' hs' => ⟨bz_1, hq s' hs'⟩)
  · rw [if_neg e] at hq
    have hd : decide (lTp a p = nI 0) = false := by simp [e]
    rw [hd] at hq
    unfold wp_X7_goes_88
    simp (disch := omega) only [nI_lit, nN_eq, nI_add, nI_clamp, nI_inI]
    exact ⟨by omega, fun _ => ⟨bz_0, hq _ hW⟩, fun q => (q (by trivial)).elim⟩
