/-! Counting, both sides. -/
def rootsOf (a : Lw) : Nat := cnt (fun t => !decide (lRt a t ≤ nI 0)) 64
theorem C_hollowCount {v : V_X4} {a : Lw} (hs : CSv v a) {Q : Int32 → Prop} (hq : Q (nI (cnt (fun t => hol a t) 64))) : wp_X4_hollowCount v Q := by
  unfold wp_X4_hollowCount wp_X4_hollowCount_4
  refine ⟨fun y1 y2 => ∃ k, y2 = nI k ∧ k ≤ 64 ∧ y1 = nI (cnt (fun t => hol a t) k), fun _ y2 => 100 - y2.toNatClampNeg, ⟨0, rfl, by omega, rfl⟩, ?_⟩
  rintro _ _ ⟨k, rfl, hk, rfl⟩
  unfold wb_X4_hollowCount_4
  simp (disch := omega) only [nI_lit, nI_clamp, nI_inI, nI_add, nI_leI]
  refine ⟨fun e => ?_, fun e => ⟨by omega, ⟨k + 1, rfl, by omega, ?_⟩, by omega⟩⟩
  · have : k = 64 := by omega
    subst this
    exact hq
  · rw [(hs k (by omega)).1]
    cases c : hol a k with
    | true => rw [cnt_t c]; exact nI_add _ _
    | false => rw [cnt_f c]; exact nI_add _ _
theorem M_hollow {v : V_X7} {a : Lw} {n : Nat} (h : MLawn (X7_s v) a) (g : Good n a) (hn : n ≤ 512) {Q : Int32 → (Nat → Int32) → Prop} (hq : ∀ z, Q (nI (cnt (fun t => hol a t) 64)) z) : wp_X7_hollow v Q := by
  unfold wp_X7_hollow
  refine M_layHollow h g hn (fun z hz => ?_)
  unfold wp_X7_hollow_8
  refine ⟨fun y1 y2 => ∃ k, y2 = nI k ∧ k ≤ 64 ∧ y1 = nI (cnt (fun t => hol a t) k), fun _ y2 => 100 - y2.toNatClampNeg, ⟨0, rfl, by omega, rfl⟩, ?_⟩
  rintro _ _ ⟨k, rfl, hk, rfl⟩
  unfold wb_X7_hollow_8
  simp (disch := omega) only [nI_lit, nI_clamp, nI_inI, nI_add, nI_leI]
  refine ⟨fun e => ?_, fun e => ⟨by omega, ?_⟩⟩
  · have : k = 64 := by omega
    subst this
    exact hq z
  · rw [hz k (by omega), bI_0]
    refine ⟨fun e2 => ⟨⟨k + 1, rfl, by omega, by rw [cnt_f e2]⟩, by omega⟩, fun e2 => ⟨⟨k + 1, rfl, by omega, by rw [cnt_t (show hol a k = true by simpa using e2)]⟩, by omega⟩⟩
theorem cnt_bI {p : Nat → Bool} {n : Nat} : cnt (fun t => !decide (bI (p t) ≤ nI 0)) n = cnt (fun t => p t) n := cnt_congr (fun t _ => by cases p t <;> rfl)
theorem M_sumOf {v : V_X7} {b : Nat} {f : Nat → Int32} (hb : b ≤ 1000) (hs : ∀ t, t < 64 → X7_s v (b + t) = f t) {Q : Int32 → Prop} (hq : Q (nI (cnt (fun t => !decide (f t ≤ nI 0)) 64))) : wp_X7_sumOf v (nI b) Q := by
  unfold wp_X7_sumOf wp_X7_sumOf_4
  refine ⟨fun y1 y2 => ∃ k, y2 = nI k ∧ k ≤ 64 ∧ y1 = nI (cnt (fun t => !decide (f t ≤ nI 0)) k), fun _ y2 => 100 - y2.toNatClampNeg, ⟨0, rfl, by omega, rfl⟩, ?_⟩
  rintro _ _ ⟨k, rfl, hk, rfl⟩
  unfold wb_X7_sumOf_4
  simp (disch := omega) only [nI_lit, nI_clamp, nI_inI, nI_add, nI_leI]
  refine ⟨fun e => ?_, fun e => ⟨by omega, ?_⟩⟩
  · have : k = 64 := by omega
    subst this
    exact hq
  · rw [hs k (by omega)]
    refine ⟨fun e2 => ⟨⟨k + 1, rfl, by omega, by rw [cnt_f (by rw [decide_eq_true e2]; rfl)]⟩, by omega⟩, fun e2 => ⟨⟨k + 1, rfl, by omega, by rw [cnt_t (by rw [decide_eq_false e2]; rfl)]⟩, by omega⟩⟩
noncomputable def numC (w : Wd) (x : Int32) : Int32 := if x = nI 0 then lBt (wCur w) else if x = nI 1 then nI (lMo (wCur w)).length else if x = nI 2 then lCa (wCur w) else if x = nI 3 then nI (cnt (fun t => lMn (wCur w) t) 64) else if x = nI 4 then nI (lTu (wCur w)).length else if x = nI 5 then nI (cnt (fun t => hol (wCur w) t) 64) else if x = nI 6 then nI (cnt (fun t => lOp (wCur w) t) 64) else if x = nI 7 then nI (trapsOf (wCur w)) else if x = nI 8 then nI (rootsOf (wCur w)) else if x = nI 9 then lGn (wCur w) else if x = nI 10 then lRi (wCur w) else if x = nI 11 then lFa (wCur w) else if x = nI 12 then nI (grpN (wCur w)) else if x = nI 13 then nI (lAi (wCur w)) else nI (wHist w).length
noncomputable def o_count (w : Wd) (x : Int32) : Nat × Int32 := match rg 0 14 x with
  | none => (1, 0)
  | some _ => (0, numC w x)
theorem C_numberOfAll {v : V_X6} {w : Wd} {n : Nat} (h : CW v w) (g : GoodW n w) (hs : CSv (X6_survey v) (wCur w)) {x : Int32} {Q : Int32 → V_X2 → Prop} (hq : ∀ P, Q (numC w x) P) : wp_X6_numberOfAll v x Q := by
  have hn : n ≤ 512 := by have := g.2.2.2.1; omega
  obtain ⟨-, -, -, -, hT, ⟨c1, -⟩, hai, hbt, hca, hgn, hri, hfa⟩ := h.1
  have hsz := hT.parts.2.2.1
  have hsv : X6_savedCount v = nI (wHist w).length := h.2.2.2.2.2.1.1
  unfold wp_X6_numberOfAll
  unfold numC at hq
  simp only [nI_lit] at hq ⊢
  refine ⟨fun e => ?_, fun n0 => ⟨fun e => ?_, fun n1 => ⟨fun e => ?_, fun n2 => ⟨fun e => ?_, fun n3 => ⟨fun e => ?_, fun n4 => ⟨fun e => ?_, fun n5 => ⟨fun e => ?_, fun n6 => ⟨fun e => ?_, fun n7 => ⟨fun e => ?_, fun n8 => ⟨fun e => ?_, fun n9 => ⟨fun e => ?_, fun n10 => ⟨fun e => ?_, fun n11 => ⟨fun e => ?_, fun n12 => ⟨fun e => ?_, fun n13 => ?_⟩⟩⟩⟩⟩⟩⟩⟩⟩⟩⟩⟩⟩⟩
  · rw [if_pos e] at hq; rw [hbt]; exact hq _
  · rw [if_neg n0, if_pos e] at hq; rw [c1]; exact hq _
  · rw [if_neg n0, if_neg n1, if_pos e] at hq; rw [hca]; exact hq _
  · rw [if_neg n0, if_neg n1, if_neg n2, if_pos e] at hq; exact C_X0_moundCount h.1 (hq _)
  · rw [if_neg n0, if_neg n1, if_neg n2, if_neg n3, if_pos e] at hq; rw [hsz]; exact hq _
  · rw [if_neg n0, if_neg n1, if_neg n2, if_neg n3, if_neg n4, if_pos e] at hq; exact C_hollowCount hs (hq _)
  · rw [if_neg n0, if_neg n1, if_neg n2, if_neg n3, if_neg n4, if_neg n5, if_pos e] at hq; exact C_X0_openedCount h.1 (hq _)
  · rw [if_neg n0, if_neg n1, if_neg n2, if_neg n3, if_neg n4, if_neg n5, if_neg n6, if_pos e] at hq; exact C_X0_trapCount h.1 (hq _)
  · rw [if_neg n0, if_neg n1, if_neg n2, if_neg n3, if_neg n4, if_neg n5, if_neg n6, if_neg n7, if_pos e] at hq; exact C_X0_rootCount h.1 (hq _)
  · rw [if_neg n0, if_neg n1, if_neg n2, if_neg n3, if_neg n4, if_neg n5, if_neg n6, if_neg n7, if_neg n8, if_pos e] at hq; rw [hgn]; exact hq _
  · rw [if_neg n0, if_neg n1, if_neg n2, if_neg n3, if_neg n4, if_neg n5, if_neg n6, if_neg n7, if_neg n8, if_neg n9, if_pos e] at hq; rw [hri]; exact hq _
  · rw [if_neg n0, if_neg n1, if_neg n2, if_neg n3, if_neg n4, if_neg n5, if_neg n6, if_neg n7, if_neg n8, if_neg n9, if_neg n10, if_pos e] at hq; rw [hfa]; exact hq _
  · rw [if_neg n0, if_neg n1, if_neg n2, if_neg n3, if_neg n4, if_neg n5, if_neg n6, if_neg n7, if_neg n8, if_neg n9, if_neg n10, if_neg n11, if_pos e] at hq; exact C_groupCount h.1 g.1 hn (fun z => hq _)
  · rw [if_neg n0, if_neg n1, if_neg n2, if_neg n3, if_neg n4, if_neg n5, if_neg n6, if_neg n7, if_neg n8, if_neg n9, if_neg n10, if_neg n11, if_neg n12, if_pos e] at hq; rw [hai]; exact hq _
  · rw [if_neg n0, if_neg n1, if_neg n2, if_neg n3, if_neg n4, if_neg n5, if_neg n6, if_neg n7, if_neg n8, if_neg n9, if_neg n10, if_neg n11, if_neg n12, if_neg n13] at hq; rw [hsv]; exact hq _
theorem C_count {v : V_X6} {w : Wd} {n : Nat} (h : CW v w) (g : GoodW n w) {x : Int32} {Q : Int32 → V_X2 → V_X4 → Prop} {QX : String → Prop} (hq : ∀ P s, (o_count w x).1 = 0 → Q (o_count w x).2 P s) (h1 : (o_count w x).1 = 1 → QX eA) : wp_X6_count v x Q QX := by
  have hn : n ≤ 512 := by have := g.2.2.2.1; omega
  unfold wp_X6_count
  refine C_checkWhat (n := 14) (by omega) (fun e => h1 (by unfold o_count; rw [e])) (fun j hj hx e => ?_)
  have eo : o_count w x = (0, numC w x) := by unfold o_count; rw [e]
  rw [eo] at hq
  exact C_read h.1 g.1 hn (fun zc zh zs zu hs => C_numberOfAll (v := X6_s6 v (zh, zc, zu, zs)) h g hs (fun P => hq _ _ rfl))
theorem M_counted {v : V_X7} {w : Wd} {n : Nat} (h : MW v w) (g : GoodW n w) {x : Int32} {Q : Int32 → (Nat → Int32) → (Nat → Int32) → Prop} (hq : ∀ zd zh, Q (numC w x) zd zh) : wp_X7_counted v x Q := by
  have hn : n ≤ 512 := by have := g.2.2.2.1; omega
  have hf := (g.1.1.fit hn).1
  obtain ⟨b0, b2, b3, b4, b5, b6, bm, br, bt, bo⟩ := h.1.1
  have hsv : X7_savedMany v = nI (wHist w).length := h.2.2.2.1.1
  unfold wp_X7_counted
  unfold numC at hq
  simp only [nI_lit] at hq ⊢
  refine ⟨fun e => ?_, fun n0 => ⟨fun e => ?_, fun n1 => ⟨fun e => ?_, fun n2 => ⟨fun e => ?_, fun n3 => ⟨fun e => ?_, fun n4 => ⟨fun e => ?_, fun n5 => ⟨fun e => ?_, fun n6 => ⟨fun e => ?_, fun n7 => ⟨fun e => ?_, fun n8 => ⟨fun e => ?_, fun n9 => ⟨fun e => ?_, fun n10 => ⟨fun e => ?_, fun n11 => ⟨fun e => ?_, fun n12 => ⟨fun e => ?_, fun n13 => ?_⟩⟩⟩⟩⟩⟩⟩⟩⟩⟩⟩⟩⟩⟩
  · rw [if_pos e] at hq; rw [e]; simp (disch := omega) only [nI_lit, nI_clamp, nI_inI]; rw [b0]; exact ⟨by omega, hq _ _⟩
  · rw [if_neg n0, if_pos e] at hq; rw [e]; simp (disch := omega) only [nI_lit, nI_clamp, nI_inI]; rw [h.1.2.2.1]; exact ⟨by omega, hq _ _⟩
  · rw [if_neg n0, if_neg n1, if_pos e] at hq; rw [e]; simp (disch := omega) only [nI_lit, nI_clamp, nI_inI]; rw [b2]; exact ⟨by omega, hq _ _⟩
  · rw [if_neg n0, if_neg n1, if_neg n2, if_pos e] at hq; exact M_sumOf (b := 8) (f := fun t => bI (lMn (wCur w) t)) (by omega) bm (by rw [cnt_bI]; exact hq _ _)
  · rw [if_neg n0, if_neg n1, if_neg n2, if_neg n3, if_pos e] at hq; exact M_tunnels h.1.2.1 hf.2 hf.1 (hq _ _)
  · rw [if_neg n0, if_neg n1, if_neg n2, if_neg n3, if_neg n4, if_pos e] at hq; exact M_hollow h.1 g.1 hn (fun z => hq _ _)
  · rw [if_neg n0, if_neg n1, if_neg n2, if_neg n3, if_neg n4, if_neg n5, if_pos e] at hq; exact M_sumOf (b := 200) (f := fun t => bI (lOp (wCur w) t)) (by omega) bo (by rw [cnt_bI]; exact hq _ _)
  · rw [if_neg n0, if_neg n1, if_neg n2, if_neg n3, if_neg n4, if_neg n5, if_neg n6, if_pos e] at hq; exact M_traps h.1.1 (hq _ _)
  · rw [if_neg n0, if_neg n1, if_neg n2, if_neg n3, if_neg n4, if_neg n5, if_neg n6, if_neg n7, if_pos e] at hq; exact M_sumOf (b := 72) (f := fun t => lRt (wCur w) t) (by omega) br (hq _ _)
  · rw [if_neg n0, if_neg n1, if_neg n2, if_neg n3, if_neg n4, if_neg n5, if_neg n6, if_neg n7, if_neg n8, if_pos e] at hq; rw [e]; simp (disch := omega) only [nI_lit, nI_add, pk_sub, nI_clamp, nI_inI]; rw [b3]; exact ⟨by omega, hq _ _⟩
  · rw [if_neg n0, if_neg n1, if_neg n2, if_neg n3, if_neg n4, if_neg n5, if_neg n6, if_neg n7, if_neg n8, if_neg n9, if_pos e] at hq; rw [e]; simp (disch := omega) only [nI_lit, nI_add, pk_sub, nI_clamp, nI_inI]; rw [b4]; exact ⟨by omega, hq _ _⟩
  · rw [if_neg n0, if_neg n1, if_neg n2, if_neg n3, if_neg n4, if_neg n5, if_neg n6, if_neg n7, if_neg n8, if_neg n9, if_neg n10, if_pos e] at hq; rw [e]; simp (disch := omega) only [nI_lit, nI_add, pk_sub, nI_clamp, nI_inI]; rw [b5]; exact ⟨by omega, hq _ _⟩
  · rw [if_neg n0, if_neg n1, if_neg n2, if_neg n3, if_neg n4, if_neg n5, if_neg n6, if_neg n7, if_neg n8, if_neg n9, if_neg n10, if_neg n11, if_pos e] at hq; exact M_groups h.1 g.1 hn (fun z => hq _ _)
  · rw [if_neg n0, if_neg n1, if_neg n2, if_neg n3, if_neg n4, if_neg n5, if_neg n6, if_neg n7, if_neg n8, if_neg n9, if_neg n10, if_neg n11, if_neg n12, if_pos e] at hq; simp (disch := omega) only [nI_lit, nI_clamp, nI_inI]; rw [b6]; exact ⟨by omega, hq _ _⟩
  · rw [if_neg n0, if_neg n1, if_neg n2, if_neg n3, if_neg n4, if_neg n5, if_neg n6, if_neg n7, if_neg n8, if_neg n9, if_neg n10, if_neg n11, if_neg n12, if_neg n13] at hq; rw [hsv]; exact hq _ _
theorem M_count {v : V_X7} {w : Wd} {n : Nat} (h : MW v w) (g : GoodW n w) {x : Int32} {Q : Int32 → (Nat → Int32) → (Nat → Int32) → Int32 → Prop} (hq : ∀ b zd zh, ((o_count w x).1 = 0 → b = (o_count w x).2) → Q b zd zh (nI (o_count w x).1)) : wp_X7_count v x Q := by
  unfold wp_X7_count
  refine M_range (lo := 0) (hi := 14) (by omega) (by omega) (fun e => ⟨fun _ => ?_, fun q => absurd rfl q⟩) (fun j _ hj hx e => ⟨fun q => absurd q (by decide), fun _ => ?_⟩)
  · have eo : o_count w x = (1, 0) := by unfold o_count; rw [e]
    rw [eo] at hq
    unfold wp_X7_count_16
    exact M_holdsK (k := 1) (by omega) (by omega) ⟨fun _ => hq _ _ _ (fun q => absurd (show 1 = 0 from q) (by decide)), fun q => absurd rfl q⟩
  · have eo : o_count w x = (0, numC w x) := by unfold o_count; rw [e]
    rw [eo] at hq
    unfold wp_X7_count_16
    exact M_holds0 ⟨fun q => absurd q (by decide), fun _ => M_counted (v := X7_s8 v (nI 0)) h g (fun zd zh => hq _ _ _ (fun _ => rfl))⟩
