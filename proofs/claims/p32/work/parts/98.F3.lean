/-! The best dig, the share of hollow tufts, both sides. -/
theorem crN_le (T : Tu) (t : Nat) : crN T t ≤ T.length := List.countP_le_length
def bst (a : Lw) : Nat → Int32 × Nat
  | 0 => (nN, 0)
  | k + 1 => if lOp a k = false ∧ (bst a k).2 < crN (lTu a) k then (nI k, crN (lTu a) k) else bst a k
theorem bst_le {a : Lw} (h : (lTu a).length ≤ 512) : ∀ k, (bst a k).2 ≤ 512
  | 0 => Nat.zero_le _
  | k + 1 => by
    have := crN_le (lTu a) k
    unfold bst
    split
    · show crN (lTu a) k ≤ 512; omega
    · exact bst_le h k
theorem C_mostCrossed {v : V_X6} {a : Lw} (h : CLawn (X6_lawn v) a) (hf : fitTu (lTu a)) (hs : CSv (X6_survey v) a) {Q : Int32 → Prop} (hq : Q (bst a 64).1) : wp_X6_mostCrossed v Q := by
  have hl := hf.1.2
  unfold wp_X6_mostCrossed wp_X6_mostCrossed_6
  refine ⟨fun y1 y2 y3 => ∃ k, y3 = nI k ∧ k ≤ 64 ∧ y1 = (bst a k).1 ∧ y2 = nI (bst a k).2, fun _ _ y3 => 100 - y3.toNatClampNeg, ⟨0, rfl, by omega, rfl, rfl⟩, ?_⟩
  rintro _ _ _ ⟨k, rfl, hk, rfl, rfl⟩
  have b1 := bst_le hl k
  have b2 := crN_le (lTu a) k
  have st : bst a (k + 1) = if lOp a k = false ∧ (bst a k).2 < crN (lTu a) k then (nI k, crN (lTu a) k) else bst a k := rfl
  unfold wb_X6_mostCrossed_6
  simp (disch := omega) only [nI_lit, nI_clamp, nI_inI, nI_add, nI_leI]
  refine ⟨fun e => ?_, fun e => ⟨by omega, ?_⟩⟩
  · have : k = 64 := by omega
    subst this
    exact hq
  · rw [h.2.1 k (by omega), (hs k (by omega)).2.1, bI_0]
    simp (disch := omega) only [nI_leI]
    refine ⟨fun e2 => ⟨fun e3 => ⟨⟨k + 1, rfl, by omega, ?_⟩, by omega⟩, fun e3 => ⟨⟨k + 1, rfl, by omega, ?_⟩, by omega⟩⟩, fun e2 => ⟨⟨k + 1, rfl, by omega, ?_⟩, by omega⟩⟩
    · rw [st, if_neg (fun z => by omega)]; exact ⟨rfl, rfl⟩
    · rw [st, if_pos ⟨e2, by omega⟩]; exact ⟨rfl, rfl⟩
    · rw [st, if_neg (fun z => e2 z.1)]; exact ⟨rfl, rfl⟩
theorem C_bestDig {v : V_X6} {w : Wd} {n : Nat} (h : CW v w) (g : GoodW n w) {Q : Int32 → V_X4 → Prop} (hq : ∀ s, Q (bst (wCur w) 64).1 s) : wp_X6_bestDig v Q := by
  have hn : n ≤ 512 := by have := g.2.2.2.1; omega
  unfold wp_X6_bestDig
  exact C_read h.1 g.1 hn (fun zc zh zs zu hs => C_mostCrossed (v := X6_s6 v (zh, zc, zu, zs)) h.1 (g.1.1.fit hn).1 hs (hq _))
theorem M_best {v : V_X7} {a : Lw} {n : Nat} (h : MLawn (X7_s v) a) (g : Good n a) (hn : n ≤ 512) {Q : Int32 → Prop} (hq : Q (bst a 64).1) : wp_X7_best v Q := by
  have hf := (g.1.fit hn).1
  have hl := hf.1.2
  unfold wp_X7_best wp_X7_best_6
  refine ⟨fun y1 y2 y3 => ∃ k, y3 = nI k ∧ k ≤ 64 ∧ y1 = (bst a k).1 ∧ y2 = nI (bst a k).2, fun _ _ y3 => 100 - y3.toNatClampNeg, ⟨0, rfl, by omega, rfl, rfl⟩, ?_⟩
  rintro _ _ _ ⟨k, rfl, hk, rfl, rfl⟩
  have b1 := bst_le hl k
  have b2 := crN_le (lTu a) k
  have st : bst a (k + 1) = if lOp a k = false ∧ (bst a k).2 < crN (lTu a) k then (nI k, crN (lTu a) k) else bst a k := rfl
  unfold wb_X7_best_6
  simp (disch := omega) only [nI_lit, nI_clamp, nI_inI, nI_add, nI_leI]
  refine ⟨fun e => ?_, fun e => ⟨by omega, ?_⟩⟩
  · have : k = 64 := by omega
    subst this
    exact hq
  · rw [h.1.2.2.2.2.2.2.2.2.2 k (by omega)]
    unfold wp_X7_best_35 wp_X7_best_48
    cases op : lOp a k with
    | true =>
      rw [op] at st
      refine ⟨fun _ => ⟨fun e2 => ⟨fun e3 => ⟨⟨k + 1, by simp only [nI_lit, nI_add], by omega, ?_⟩, by simp (disch := omega) only [nI_lit, nI_add, nI_clamp]; omega⟩, fun e3 => absurd e2 e3⟩, fun e2 => ?_⟩, fun q => absurd rfl q⟩
      · rw [st, if_neg (fun z => by cases z.1)]; exact ⟨rfl, rfl⟩
      · simp (disch := omega) only [nI_lit, nI_leI] at e2
        omega
    | false =>
      rw [op] at st
      refine ⟨fun q => absurd q (by decide), fun _ => M_tunnelsWith h.2.1 hf (by omega) ?_⟩
      simp (disch := omega) only [nI_lit, nI_add, nI_clamp, nI_leI]
      refine ⟨fun e2 => ⟨fun _ => ⟨⟨k + 1, rfl, by omega, ?_⟩, by omega⟩, fun e3 => absurd e2 e3⟩, fun e2 => ⟨fun e3 => absurd e3 e2, fun _ => ⟨⟨k + 1, rfl, by omega, ?_⟩, by omega⟩⟩⟩
      · rw [st, if_neg (fun z => by omega)]; exact ⟨rfl, rfl⟩
      · rw [st, if_pos ⟨rfl, by omega⟩]; exact ⟨rfl, rfl⟩
theorem M_bestDig {v : V_X7} {w : Wd} {n : Nat} (h : MW v w) (g : GoodW n w) {Q : Int32 → Int32 → Prop} (hq : Q (bst (wCur w) 64).1 0) : wp_X7_bestDig v Q := by
  have hn : n ≤ 512 := by have := g.2.2.2.1; omega
  unfold wp_X7_bestDig
  exact M_best (v := X7_s8 v 0) h.1 g.1 hn hq
def shareF (c : Nat) : UInt64 := FP.ddiv (FP.i2d (nI c)) 4634204016564240384
theorem share_fin : ∀ c : Fin 65, vf_n64 (shareF c.1) := by unfold vf_n64; decide +kernel
theorem C_hollowShare {v : V_X6} {w : Wd} {n : Nat} (h : CW v w) (g : GoodW n w) {Q : UInt64 → V_X4 → Prop} (hq : ∀ s, Q (shareF (cnt (fun t => hol (wCur w) t) 64)) s) : wp_X6_hollowShare v Q := by
  have hn : n ≤ 512 := by have := g.2.2.2.1; omega
  have c64 := cnt_le (fun t => hol (wCur w) t) 64
  unfold wp_X6_hollowShare
  exact C_read h.1 g.1 hn (fun zc zh zs zu hs => C_hollowCount hs ⟨share_fin ⟨_, Nat.lt_succ_of_le c64⟩, hq _⟩)
theorem M_hollowShare {v : V_X7} {w : Wd} {n : Nat} (h : MW v w) (g : GoodW n w) {Q : UInt64 → (Nat → Int32) → Int32 → Prop} (hq : ∀ z, Q (shareF (cnt (fun t => hol (wCur w) t) 64)) z 0) : wp_X7_hollowShare v Q := by
  have hn : n ≤ 512 := by have := g.2.2.2.1; omega
  have c64 := cnt_le (fun t => hol (wCur w) t) 64
  unfold wp_X7_hollowShare wp_X7_share
  exact M_hollow (v := X7_s8 v 0) h.1 g.1 hn (fun z => ⟨share_fin ⟨_, Nat.lt_succ_of_le c64⟩, hq z⟩)
