/-! The digest: its folds; the class's tufts, moles, digging. -/
def dg (f : Nat → Int32) : Nat → Int64 → Int64
  | 0, h => h
  | n + 1, h => (31 * dg f n h) + (f n).toInt64
def dgT (a : Lw) : Nat → Int64 → Int64
  | 0, h => h
  | n + 1, h => dg (fun x => numU a n (nI x)) 9 (dgT a n h)
def dgM (M : List Ml) : Nat → Int64 → Int64
  | 0, h => h
  | n + 1, h => dg (fun x => numM (mlA M n) (nI x)) 7 (dgM M n h)
theorem C_hashTufts {v : V_X6} {a : Lw} {n : Nat} (h : CLawn (X6_lawn v) a) (g : Good n a) (hn : n ≤ 512) (hs : CSv (X6_survey v) a) {d : Int64} {Q : Int64 → Prop} (hq : Q (dgT a 64 d)) : wp_X6_hashTufts v d Q := by
  unfold wp_X6_hashTufts wp_X6_hashTufts_5
  refine ⟨fun y3 y5 => ∃ k, y5 = nI k ∧ k ≤ 64 ∧ y3 = dgT a k d, fun _ y5 => 100 - y5.toNatClampNeg, ⟨0, rfl, by omega, rfl⟩, ?_⟩
  rintro _ _ ⟨k, rfl, hk, rfl⟩
  unfold wb_X6_hashTufts_5
  simp (disch := omega) only [nI_lit, nI_leI]
  refine ⟨fun e => ?_, fun e => ?_⟩
  · have : k = 64 := by omega
    subst this
    exact hq
  unfold wp_X6_hashTufts_15
  refine ⟨fun y3 y6 => ∃ x, y6 = nI x ∧ x ≤ 9 ∧ y3 = dg (fun x => numU a k (nI x)) x (dgT a k d), fun _ y6 => 100 - y6.toNatClampNeg, ⟨0, rfl, by omega, rfl⟩, ?_⟩
  rintro _ _ ⟨x, rfl, hx, rfl⟩
  unfold wb_X6_hashTufts_15
  simp (disch := omega) only [nI_lit, nI_ltI, nI_add, nI_clamp]
  refine ⟨fun e2 => ?_, fun e2 => C_numberOfTuft h g hn hs (by omega) ⟨⟨x + 1, rfl, by omega, rfl⟩, by omega⟩⟩
  have : x = 9 := by omega
  subst this
  exact ⟨⟨k + 1, rfl, by omega, rfl⟩, by omega⟩
theorem C_hashMoles {v : V_X6} {a : Lw} {n : Nat} (h : CLawn (X6_lawn v) a) (g : Good n a) (hn : n ≤ 512) {d : Int64} {Q : Int64 → Prop} (hq : Q (dgM (lMo a) (lMo a).length d)) : wp_X6_hashMoles v d Q := by
  obtain ⟨c1, c2, c3, c4⟩ := h.2.2.2.2.2.1
  have hft := g.1.fit hn
  have h4 := hft.2.1.1
  unfold wp_X6_hashMoles wp_X6_hashMoles_5
  refine ⟨fun y3 y5 => ∃ k, y5 = nI k ∧ k ≤ (lMo a).length ∧ y3 = dgM (lMo a) k d, fun _ y5 => 100 - y5.toNatClampNeg, ⟨0, rfl, by omega, rfl⟩, ?_⟩
  rintro _ _ ⟨k, rfl, hk, rfl⟩
  unfold wb_X6_hashMoles_5
  rw [c1]
  simp (disch := omega) only [nI_leI]
  refine ⟨fun e => ?_, fun e => ?_⟩
  · have : k = (lMo a).length := by omega
    subst this
    exact hq
  unfold wp_X6_hashMoles_20
  refine ⟨fun y3 y6 => ∃ x, y6 = nI x ∧ x ≤ 7 ∧ y3 = dg (fun x => numM (mlA (lMo a) k) (nI x)) x (dgM (lMo a) k d), fun _ y6 => 100 - y6.toNatClampNeg, ⟨0, rfl, by omega, rfl⟩, ?_⟩
  rintro _ _ ⟨x, rfl, hx, rfl⟩
  unfold wb_X6_hashMoles_20
  simp (disch := omega) only [nI_lit, nI_ltI, nI_add, nI_clamp, nI_inI]
  refine ⟨fun e2 => ?_, fun e2 => ⟨by omega, c2 k (by omega), C_X1_number (c4 k (by omega)) (hft.2.1.2 _ (mlA_mem (by omega))).1 ⟨⟨x + 1, rfl, by omega, rfl⟩, by omega⟩⟩⟩
  have : x = 7 := by omega
  subst this
  exact ⟨⟨k + 1, rfl, by omega, rfl⟩, by omega⟩
def dgD (a : Lw) (d : Int64) : Int64 := (31 * dg (fun t => nI (crN (lTu a) t)) 64 d) + (bst a 64).1.toInt64
theorem C_hashDigging {v : V_X6} {a : Lw} (h : CLawn (X6_lawn v) a) (hf : fitTu (lTu a)) (hs : CSv (X6_survey v) a) {d : Int64} {Q : Int64 → Prop} (hq : Q (dgD a d)) : wp_X6_hashDigging v d Q := by
  unfold wp_X6_hashDigging wp_X6_hashDigging_5
  refine ⟨fun y3 y5 => ∃ k, y5 = nI k ∧ k ≤ 64 ∧ y3 = dg (fun t => nI (crN (lTu a) t)) k d, fun _ y5 => 100 - y5.toNatClampNeg, ⟨0, rfl, by omega, rfl⟩, ?_⟩
  rintro _ _ ⟨k, rfl, hk, rfl⟩
  unfold wb_X6_hashDigging_5
  simp (disch := omega) only [nI_lit, nI_leI, nI_add, nI_clamp, nI_inI]
  refine ⟨fun e => ?_, fun e => ⟨by omega, ⟨k + 1, rfl, by omega, by rw [(hs k (by omega)).2.1]; rfl⟩, by omega⟩⟩
  have : k = 64 := by omega
  subst this
  exact C_mostCrossed h hf hs hq
