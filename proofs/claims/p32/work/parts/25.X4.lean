def wb_X4_hollowCount_4 (v : V_X4)  (y4_1 : Int32) (y4_2 : Int32) (B4 : Int32 → Int32 → Prop) (Q : Int32 → Prop) : Prop :=
  ((64 ≤ y4_2 → Q y4_1) ∧
  (¬ 64 ≤ y4_2 → vp_in y4_2 64 ∧ B4 (y4_1 + ((X4_hollow v) y4_2.toNatClampNeg)) (y4_2 + 1)))
def wp_X4_hollowCount_4 (v : V_X4)  (y4_1 : Int32) (y4_2 : Int32) (Q : Int32 → Prop) : Prop :=
  ∃ (I : Int32 → Int32 → Prop) (μ : Int32 → Int32 → Nat), I y4_1 y4_2 ∧ ∀ (s0 : Int32) (s1 : Int32), I s0 s1 → wb_X4_hollowCount_4 v  s0 s1 (fun t0 t1 => I t0 t1 ∧ μ t0 t1 < μ s0 s1) Q
def wp_X4_hollowCount (v : V_X4) (Q : Int32 → Prop) : Prop :=
  wp_X4_hollowCount_4 v  0 0 Q
def q_X4_hollowCount (dC : Nat → ClassId) (dI : Nat → Nat → Nat) (cy : Nat → ClassId) (a : Nat → Nat) (v : V_X4) (Q : Int32 → Prop) (A : Nat → Prop) : Array Value → State → Outcome → State → Prop := va_Qi (fun (r : Int32) (u : Unit) => Q r ) (fun (u : Unit) t => xAt dC dI cy A (wX4 cy a v) t) A
set_option maxHeartbeats 4000000 in
set_option maxRecDepth 100000 in
theorem c_X4_hollowCount (l : Launch) (dC : Nat → ClassId) (dI : Nat → Nat → Nat) (cy : Nat → ClassId) (a : Nat → Nat) (sz : Nat) (v : V_X4) (Q : Int32 → Prop) (hq : wp_X4_hollowCount v Q) : Met l yX4_hollowCount wsX4_hollowCount ({ frames := 0, cells := 0, slots := 0, locals := 0 } : Room) (va_Pc [.ref (a 0)] (xPre dC dI cy (wX4 cy a v) sz)) (q_X4_hollowCount dC dI cy a v Q (va_A (wX4 cy a v) sz)) 0 0 (va_A (wX4 cy a v) sz) := by
  refine Met.ofW (cc := cX4_hollowCount) (maxL := 3) (ret := (some .int)) (by decide) rfl ?_
  intro p e s m args below meth c s₁ B hml hv
  obtain ⟨rfl, hsz, hP, hK, hD0⟩ := hv
  have hx := B.exec
  have hb := B.bytes
  have hr := B.returns
  have hts := atoms_spec (ws := wsX4_hollowCount) B.pre
  have hown : s.vm.findClass RX4 = some m.cls := findClass_of_methodNamed B.named
  have hlocks := B.notSynchronized
  subst hsz
  have hD := hD0.self (sz := s.heap.size)
  generalize hAe : va_A (wX4 cy a v) s.heap.size = A at hD ⊢
  have hAe0 : ∀ q : Nat, s.heap.size ≤ q → A q := fun q h => by rw [← hAe]; exact Or.inr h
  have hS : va_S A s.heap s.heap [] := va_S.rf
  have hl := lv_entry ([.ref (a 0)]) (n := 3) (Nat.le_of_ble_eq_true rfl)
  rw [lg_entry_eq]
  generalize (lg_sl ([.ref (a 0)]) ++ List.replicate (3 - (lg_sl ([.ref (a 0)])).length) Slot.unset).toArray = ls at hl ⊢
  have hl : lv_has ls 3 [(0, .ref (a 0))] := hl
  have lk0 := hts (Cond.fieldLink RX4 9 "MolesLawn$Survey" "hollow" "[I") (List.mem_cons_of_mem _ (List.mem_append_left _ (List.mem_of_getElem? (i := 0) rfl)))
  have iK4 : ∀ w ∈ wsX40, w ∈ wsX4_hollowCount := fun _ h => (List.mem_cons_of_mem _ (List.mem_append_right _ h))
  unfold wp_X4_hollowCount at hq
  have J4 : ∀  (y4_1 : Int32) (y4_2 : Int32) (H : Heap) (locs : List Loc) (ls : Array Slot), wp_X4_hollowCount_4 v  y4_1 y4_2 Q → va_P (dC, dI) vwCl (wX4 cy a v) H → va_D A (wX4 cy a v) → va_S A s.heap H locs → lv_has ls 3 [(0, .ref (a 0)), (1, .int y4_1), (2, .int y4_2)] → W p l e (headSpec wsX4_hollowCount ({ frames := 0, cells := 0, slots := 0, locals := 0 } : Room)).room s m ([.ref (a 0)] : List Value).toArray below meth c H locs 0 0 (MQ below (q_X4_hollowCount dC dI cy a v Q A) ([.ref (a 0)] : List Value).toArray s 0 0 A) (F0 m 4 ls []) := by
    intro  y4_1 y4_2 H locs ls hq hP hD hS hl
    obtain ⟨I4, μ4, h0, hs4⟩ := hq
    have key : ∀ (n : Nat) (y4_1 : Int32) (y4_2 : Int32) (H : Heap) (locs : List Loc) (ls : Array Slot), I4 y4_1 y4_2 → μ4 y4_1 y4_2 < n → va_P (dC, dI) vwCl (wX4 cy a v) H → va_D A (wX4 cy a v) → va_S A s.heap H locs → lv_has ls 3 [(0, .ref (a 0)), (1, .int y4_1), (2, .int y4_2)] → W p l e (headSpec wsX4_hollowCount ({ frames := 0, cells := 0, slots := 0, locals := 0 } : Room)).room s m ([.ref (a 0)] : List Value).toArray below meth c H locs 0 0 (MQ below (q_X4_hollowCount dC dI cy a v Q A) ([.ref (a 0)] : List Value).toArray s 0 0 A) (F0 m 4 ls []) := by
      intro n
      induction n with
      | zero => intro y4_1 y4_2 H locs ls _ hm; exact absurd hm (Nat.not_lt_zero _)
      | succ n ih =>
        intro y4_1 y4_2 H locs ls hI hm hP hD hS hl
        have hq := hs4 y4_1 y4_2 hI
        generalize hB4 : (fun (t0 : Int32) (t1 : Int32) => I4 t0 t1 ∧ μ4 t0 t1 < μ4 y4_1 y4_2) = B4 at hq
        have bk4 : ∀ (y4_1 : Int32) (y4_2 : Int32) (H : Heap) (locs : List Loc) (ls : Array Slot), B4 y4_1 y4_2 → va_P (dC, dI) vwCl (wX4 cy a v) H → va_D A (wX4 cy a v) → va_S A s.heap H locs → lv_has ls 3 [(0, .ref (a 0)), (1, .int y4_1), (2, .int y4_2)] → W p l e (headSpec wsX4_hollowCount ({ frames := 0, cells := 0, slots := 0, locals := 0 } : Room)).room s m ([.ref (a 0)] : List Value).toArray below meth c H locs 0 0 (MQ below (q_X4_hollowCount dC dI cy a v Q A) ([.ref (a 0)] : List Value).toArray s 0 0 A) (F0 m 4 ls []) := by
          intro y4_1 y4_2 H locs ls h
          rw [← hB4] at h
          exact ih y4_1 y4_2 H locs ls h.1 (Nat.lt_of_lt_of_le h.2 (Nat.le_of_lt_succ hm))
        unfold wb_X4_hollowCount_4 at hq
        refine lv_iload_n hx hb dX4_hollowCount_4 rfl (lv_at hl 2 rfl) ?_
        refine lv_bipush (v := 64) hx hb dX4_hollowCount_5 (by decide) ?_
        obtain ⟨hqA, hqB⟩ := hq
        refine lv_icmp_ge (tgt := 25) hx hb dX4_hollowCount_7 (by decide) (fun c2 => ?_) (fun c2 => ?_)
        · have hq := hqA c2
          refine lv_iload_n hx hb dX4_hollowCount_25 rfl (lv_at hl 1 rfl) ?_
          exact W.iret (v := y4_1) hx hb hr (fun t ht hW => ⟨⟨y4_1, (), rfl, hq, (xAt_of hP hK hD ht hW)⟩, hS.F ht⟩) hS.2.2 dX4_hollowCount_26
        · have hq := hqB c2
          refine lv_iload_n hx hb dX4_hollowCount_10 rfl (lv_at hl 1 rfl) ?_
          refine lv_aload_n hx hb dX4_hollowCount_11 rfl (lv_at hl 0 rfl) ?_
          refine va_get (D := (dC, dI)) (ci := 4) (v := .ref (a 1)) (C := RX4) (T := TX4) (N := 4) hx hb hts iK4 hown hK hP 0 rfl rfl 0 (by decide) lk0 (fun _ h9 => h9) rfl dX4_hollowCount_12 ?_
          refine lv_iload_n hx hb dX4_hollowCount_15 rfl (lv_at hl 2 rfl) ?_
          obtain ⟨g1, hq⟩ := hq
          refine va_iald hx hb hK hP 1 0 rfl rfl g1 dX4_hollowCount_16 ?_
          refine lv_iadd hx hb dX4_hollowCount_17 ?_
          refine lv_istore_n (lv' := [(1, .int (y4_1 + ((X4_hollow v) y4_2.toNatClampNeg))), (0, .ref (a 0)), (2, .int y4_2)]) hx hb dX4_hollowCount_18 rfl hl (by decide) rfl (fun ls hl => ?_)
          refine lv_iinc (v := (y4_2 + 1)) (lv' := [(2, .int (y4_2 + 1)), (1, .int (y4_1 + ((X4_hollow v) y4_2.toNatClampNeg))), (0, .ref (a 0))]) hx hb dX4_hollowCount_19 hl (k := 2) rfl rfl (by decide) rfl (fun ls hl => ?_)
          refine lv_goto (tgt := 4) hx hb dX4_hollowCount_22 (by decide) ?_
          exact bk4 (y4_1 + ((X4_hollow v) y4_2.toNatClampNeg)) (y4_2 + 1) _ _ _ hq hP hD hS (lv_sub hl [2, 1, 0] rfl)
    exact key _ y4_1 y4_2 H locs ls h0 (Nat.lt_succ_self _) hP hD hS hl
  refine lv_iconst (v := 0) hx hb dX4_hollowCount_0 (by decide) ?_
  refine lv_istore_n (lv' := [(1, .int 0), (0, .ref (a 0))]) hx hb dX4_hollowCount_1 rfl hl (by decide) rfl (fun ls hl => ?_)
  refine lv_iconst (v := 0) hx hb dX4_hollowCount_2 (by decide) ?_
  refine lv_istore_n (lv' := [(2, .int 0), (1, .int 0), (0, .ref (a 0))]) hx hb dX4_hollowCount_3 rfl hl (by decide) rfl (fun ls hl => ?_)
  exact J4  0 0 _ _ _ hq hP hD hS (lv_sub hl [2, 1, 0] rfl)
def wb_X4_countBeside_6 (nw : Nat) (w : (Nat → Int32)) (x2 : Int32) (x3 : Int32)  (y6_4 : Int32) (y6_5 : Int32) (B6 : Int32 → Int32 → Prop) (Q : Int32 → Prop) : Prop :=
  ((8 ≤ y6_5 → Q y6_4) ∧
  (¬ 8 ≤ y6_5 → wp_X6_neighbour x2 y6_5 (fun r16 =>
  ((r16 = (-1) → B6 y6_4 (y6_5 + 1)) ∧
  (¬ r16 = (-1) → vp_in r16 nw ∧ (((w r16.toNatClampNeg) = x3 → B6 (y6_4 + 1) (y6_5 + 1)) ∧
  (¬ (w r16.toNatClampNeg) = x3 → B6 y6_4 (y6_5 + 1))))))))
def wp_X4_countBeside_6 (nw : Nat) (w : (Nat → Int32)) (x2 : Int32) (x3 : Int32)  (y6_4 : Int32) (y6_5 : Int32) (Q : Int32 → Prop) : Prop :=
  ∃ (I : Int32 → Int32 → Prop) (μ : Int32 → Int32 → Nat), I y6_4 y6_5 ∧ ∀ (s0 : Int32) (s1 : Int32), I s0 s1 → wb_X4_countBeside_6 nw w x2 x3  s0 s1 (fun t0 t1 => I t0 t1 ∧ μ t0 t1 < μ s0 s1) Q
def wp_X4_countBeside (nw : Nat) (w : (Nat → Int32)) (x2 : Int32) (x3 : Int32) (Q : Int32 → Prop) : Prop :=
  wp_X4_countBeside_6 nw w x2 x3  0 0 Q
def q_X4_countBeside (dC : Nat → ClassId) (dI : Nat → Nat → Nat) (cy : Nat → ClassId) (d : Nat → Nat) (nw : Nat) (w : (Nat → Int32)) (x2 : Int32) (x3 : Int32) (Q : Int32 → Prop) (A : Nat → Prop) : Array Value → State → Outcome → State → Prop := va_Qi (fun (r : Int32) (u : Unit) => Q r ) (fun (u : Unit) t => xAt dC dI cy A (cAI cy d nw w) t) A
set_option maxHeartbeats 4000000 in
set_option maxRecDepth 100000 in
theorem c_X4_countBeside (l : Launch) (dC : Nat → ClassId) (dI : Nat → Nat → Nat) (cy : Nat → ClassId) (d : Nat → Nat) (oThis : Nat) (sz : Nat) (nw : Nat) (w : (Nat → Int32)) (x2 : Int32) (x3 : Int32) (Q : Int32 → Prop) (hq : wp_X4_countBeside nw w x2 x3 Q) : Met l yX4_countBeside wsX4_countBeside ({ frames := 2, cells := 0, slots := 0, locals := 42 } : Room) (va_Pc [.ref oThis, .ref (d 0), .int x2, .int x3] (xPreE dC dI cy (cAI cy d nw w) sz)) (q_X4_countBeside dC dI cy d nw w x2 x3 Q (va_A (cAI cy d nw w) sz)) 0 0 (va_A (cAI cy d nw w) sz) := by
  refine Met.ofW (cc := cX4_countBeside) (maxL := 7) (ret := (some .int)) (by decide) rfl ?_
  intro p e s m args below meth c s₁ B hml hv
  obtain ⟨rfl, hsz, hP, hK, hD0, hE⟩ := hv
  have hx := B.exec
  have hb := B.bytes
  have hr := B.returns
  have hts := atoms_spec (ws := wsX4_countBeside) B.pre
  have hown : s.vm.findClass RX4 = some m.cls := findClass_of_methodNamed B.named
  have hlocks := B.notSynchronized
  subst hsz
  have hD := hD0.self (sz := s.heap.size)
  generalize hAe : va_A (cAI cy d nw w) s.heap.size = A at hD hE ⊢
  have hAe0 : ∀ q : Nat, s.heap.size ≤ q → A q := fun q h => by rw [← hAe]; exact Or.inr h
  have hS : va_S A s.heap s.heap [] := va_S.rf
  have hl := lv_entry ([.ref oThis, .ref (d 0), .int x2, .int x3]) (n := 7) (Nat.le_of_ble_eq_true rfl)
  rw [lg_entry_eq]
  generalize (lg_sl ([.ref oThis, .ref (d 0), .int x2, .int x3]) ++ List.replicate (7 - (lg_sl ([.ref oThis, .ref (d 0), .int x2, .int x3])).length) Slot.unset).toArray = ls at hl ⊢
  have hl : lv_has ls 7 [(0, .ref oThis), (1, .ref (d 0)), (2, .int x2), (3, .int x3)] := hl
  unfold wp_X4_countBeside at hq
  have J6 : ∀  (y6_4 : Int32) (y6_5 : Int32) (H : Heap) (locs : List Loc) (ls : Array Slot), wp_X4_countBeside_6 nw w x2 x3  y6_4 y6_5 Q → va_P (dC, dI) vwCl (cAI cy d nw w) H → va_D A (cAI cy d nw w) → va_S A s.heap H locs → lv_has ls 7 [(1, .ref (d 0)), (2, .int x2), (3, .int x3), (4, .int y6_4), (5, .int y6_5)] → W p l e (headSpec wsX4_countBeside ({ frames := 2, cells := 0, slots := 0, locals := 42 } : Room)).room s m ([.ref oThis, .ref (d 0), .int x2, .int x3] : List Value).toArray below meth c H locs 0 0 (MQ below (q_X4_countBeside dC dI cy d nw w x2 x3 Q A) ([.ref oThis, .ref (d 0), .int x2, .int x3] : List Value).toArray s 0 0 A) (F0 m 6 ls []) := by
    intro  y6_4 y6_5 H locs ls hq hP hD hS hl
    obtain ⟨I6, μ6, h0, hs6⟩ := hq
    have key : ∀ (n : Nat) (y6_4 : Int32) (y6_5 : Int32) (H : Heap) (locs : List Loc) (ls : Array Slot), I6 y6_4 y6_5 → μ6 y6_4 y6_5 < n → va_P (dC, dI) vwCl (cAI cy d nw w) H → va_D A (cAI cy d nw w) → va_S A s.heap H locs → lv_has ls 7 [(1, .ref (d 0)), (2, .int x2), (3, .int x3), (4, .int y6_4), (5, .int y6_5)] → W p l e (headSpec wsX4_countBeside ({ frames := 2, cells := 0, slots := 0, locals := 42 } : Room)).room s m ([.ref oThis, .ref (d 0), .int x2, .int x3] : List Value).toArray below meth c H locs 0 0 (MQ below (q_X4_countBeside dC dI cy d nw w x2 x3 Q A) ([.ref oThis, .ref (d 0), .int x2, .int x3] : List Value).toArray s 0 0 A) (F0 m 6 ls []) := by
      intro n
      induction n with
      | zero => intro y6_4 y6_5 H locs ls _ hm; exact absurd hm (Nat.not_lt_zero _)
      | succ n ih =>
        intro y6_4 y6_5 H locs ls hI hm hP hD hS hl
        have hq := hs6 y6_4 y6_5 hI
        generalize hB6 : (fun (t0 : Int32) (t1 : Int32) => I6 t0 t1 ∧ μ6 t0 t1 < μ6 y6_4 y6_5) = B6 at hq
        have bk6 : ∀ (y6_4 : Int32) (y6_5 : Int32) (H : Heap) (locs : List Loc) (ls : Array Slot), B6 y6_4 y6_5 → va_P (dC, dI) vwCl (cAI cy d nw w) H → va_D A (cAI cy d nw w) → va_S A s.heap H locs → lv_has ls 7 [(1, .ref (d 0)), (2, .int x2), (3, .int x3), (4, .int y6_4), (5, .int y6_5)] → W p l e (headSpec wsX4_countBeside ({ frames := 2, cells := 0, slots := 0, locals := 42 } : Room)).room s m ([.ref oThis, .ref (d 0), .int x2, .int x3] : List Value).toArray below meth c H locs 0 0 (MQ below (q_X4_countBeside dC dI cy d nw w x2 x3 Q A) ([.ref oThis, .ref (d 0), .int x2, .int x3] : List Value).toArray s 0 0 A) (F0 m 6 ls []) := by
          intro y6_4 y6_5 H locs ls h
          rw [← hB6] at h
          exact ih y6_4 y6_5 H locs ls h.1 (Nat.lt_of_lt_of_le h.2 (Nat.le_of_lt_succ hm))
        unfold wb_X4_countBeside_6 at hq
        refine lv_iload hx hb dX4_countBeside_6 (lv_at hl 4 rfl) ?_
        refine lv_bipush (v := 8) hx hb dX4_countBeside_8 (by decide) ?_
        obtain ⟨hqA, hqB⟩ := hq
        refine lv_icmp_ge (tgt := 44) hx hb dX4_countBeside_10 (by decide) (fun c4 => ?_) (fun c4 => ?_)
        · have hq := hqA c4
          refine lv_iload hx hb dX4_countBeside_44 (lv_at hl 3 rfl) ?_
          exact W.iret (v := y6_4) hx hb hr (fun t ht hW => ⟨⟨y6_4, (), rfl, hq, (xAt_of hP hK hD ht hW)⟩, hS.F ht⟩) hS.2.2 dX4_countBeside_46
        · have hq := hqB c4
          refine lv_iload_n hx hb dX4_countBeside_13 rfl (lv_at hl 1 rfl) ?_
          refine lv_iload hx hb dX4_countBeside_14 (lv_at hl 4 rfl) ?_
          have hFc := xfree_none hS hAe0
          refine va_calli (va_runSN (As := [.int x2, .int y6_5]) (rest := []) ⟨hx, hb, hml, hown, hts⟩ (c_X6_neighbour l dC dI cy  _ x2 y6_5 _ hq) ⟨va_cnB 2 hts gX4_countBeside_X6_neighbour_n73 rfl rfl rfl hE.2.1 (hts (.initialized RX6) (List.mem_cons_of_mem _ (List.mem_of_getElem? (i := 1) rfl))) (by decide +kernel) ⟨Nat.le_of_ble_eq_true rfl, Nat.le_of_ble_eq_true rfl⟩, hts (.static yX6_neighbour) (List.mem_cons_of_mem _ (List.mem_of_getElem? (i := 0) rfl)), trivial⟩ ⟨xPre_blindE, xPre_ofE xP_nil hK (xD_nil (A := A)) hE hS hFc⟩ rfl rfl hl.1 rfl (lv_room (Nat.le_of_ble_eq_true rfl)) dX4_countBeside_16 ⟨Nat.le_of_ble_eq_true rfl, Nat.le_of_ble_eq_true rfl⟩) hS (fun q _ h => hFc q h) hFc (fun r16 u9 t H locs ht hvm hq hB hz1 hk1 hS => ?_)
          have hP := xj_none hP hk1
          refine lv_istore (lv' := [(6, .int r16), (1, .ref (d 0)), (2, .int x2), (3, .int x3), (4, .int y6_4), (5, .int y6_5)]) hx hb dX4_countBeside_19 hl (by decide) rfl (fun ls hl => ?_)
          refine lv_iload hx hb dX4_countBeside_21 (lv_at hl 0 rfl) ?_
          refine lv_iconst (v := (-1)) hx hb dX4_countBeside_23 (by decide) ?_
          obtain ⟨hqA, hqB⟩ := hq
          refine lv_icmp_eq (tgt := 38) hx hb dX4_countBeside_24 (by decide) (fun c3 => ?_) (fun c3 => ?_)
          · have hq := hqA c3
            refine lv_iinc (v := (y6_5 + 1)) (lv' := [(5, .int (y6_5 + 1)), (6, .int r16), (1, .ref (d 0)), (2, .int x2), (3, .int x3), (4, .int y6_4)]) hx hb dX4_countBeside_38 hl (k := 5) rfl rfl (by decide) rfl (fun ls hl => ?_)
            refine lv_goto (tgt := 6) hx hb dX4_countBeside_41 (by decide) ?_
            exact bk6 y6_4 (y6_5 + 1) _ _ _ hq hP hD hS (lv_sub hl [2, 3, 4, 5, 0] rfl)
          · have hq := hqB c3
            refine lv_aload_n hx hb dX4_countBeside_27 rfl (lv_at hl 1 rfl) ?_
            refine lv_iload hx hb dX4_countBeside_28 (lv_at hl 0 rfl) ?_
            obtain ⟨g1, hq⟩ := hq
            refine va_iald hx hb hK hP 0 0 rfl rfl g1 dX4_countBeside_30 ?_
            refine lv_iload_n hx hb dX4_countBeside_31 rfl (lv_at hl 3 rfl) ?_
            obtain ⟨hqA, hqB⟩ := hq
            refine lv_icmp_ne (tgt := 38) hx hb dX4_countBeside_32 (by decide) (fun c2 => ?_) (fun c2 => ?_)
            · have hq := hqB c2
              refine lv_iinc (v := (y6_5 + 1)) (lv' := [(5, .int (y6_5 + 1)), (6, .int r16), (1, .ref (d 0)), (2, .int x2), (3, .int x3), (4, .int y6_4)]) hx hb dX4_countBeside_38 hl (k := 5) rfl rfl (by decide) rfl (fun ls hl => ?_)
              refine lv_goto (tgt := 6) hx hb dX4_countBeside_41 (by decide) ?_
              exact bk6 y6_4 (y6_5 + 1) _ _ _ hq hP hD hS (lv_sub hl [2, 3, 4, 5, 0] rfl)
            · have hq := hqA c2
              refine lv_iinc (v := (y6_4 + 1)) (lv' := [(4, .int (y6_4 + 1)), (6, .int r16), (1, .ref (d 0)), (2, .int x2), (3, .int x3), (5, .int y6_5)]) hx hb dX4_countBeside_35 hl (k := 4) rfl rfl (by decide) rfl (fun ls hl => ?_)
              refine lv_iinc (v := (y6_5 + 1)) (lv' := [(5, .int (y6_5 + 1)), (4, .int (y6_4 + 1)), (6, .int r16), (1, .ref (d 0)), (2, .int x2), (3, .int x3)]) hx hb dX4_countBeside_38 hl (k := 5) rfl rfl (by decide) rfl (fun ls hl => ?_)
              refine lv_goto (tgt := 6) hx hb dX4_countBeside_41 (by decide) ?_
              exact bk6 (y6_4 + 1) (y6_5 + 1) _ _ _ hq hP hD hS (lv_sub hl [3, 4, 5, 1, 0] rfl)
    exact key _ y6_4 y6_5 H locs ls h0 (Nat.lt_succ_self _) hP hD hS hl
  refine lv_iconst (v := 0) hx hb dX4_countBeside_0 (by decide) ?_
  refine lv_istore (lv' := [(4, .int 0), (0, .ref oThis), (1, .ref (d 0)), (2, .int x2), (3, .int x3)]) hx hb dX4_countBeside_1 hl (by decide) rfl (fun ls hl => ?_)
  refine lv_iconst (v := 0) hx hb dX4_countBeside_3 (by decide) ?_
  refine lv_istore (lv' := [(5, .int 0), (4, .int 0), (0, .ref oThis), (1, .ref (d 0)), (2, .int x2), (3, .int x3)]) hx hb dX4_countBeside_4 hl (by decide) rfl (fun ls hl => ?_)
  exact J6  0 0 _ _ _ hq hP hD hS (lv_sub hl [3, 4, 5, 1, 0] rfl)
def wb_X4_readTunnel_13 (v : V_X4) (w : V_X3) (x2 : Int32) (y13_3 : Int32) (y13_4 : Int32) (z13_v_crossings : (Nat → Int32)) (z13_v_hollow : (Nat → Int32)) (z13_v_seenBy : (Nat → Int32)) (B13 : Int32 → (Nat → Int32) → (Nat → Int32) → (Nat → Int32) → Prop) (Q : (Nat → Int32) → (Nat → Int32) → (Nat → Int32) → Prop) : Prop :=
  ((y13_3 ≤ y13_4 → Q z13_v_crossings z13_v_hollow z13_v_seenBy) ∧
  (¬ y13_3 ≤ y13_4 → vp_in y13_4 1024 ∧ vp_in ((X3_cells w) y13_4.toNatClampNeg) 64 ∧ (((z13_v_seenBy ((X3_cells w) y13_4.toNatClampNeg).toNatClampNeg) = x2 → B13 (y13_4 + 1) z13_v_crossings z13_v_hollow z13_v_seenBy) ∧
  (¬ (z13_v_seenBy ((X3_cells w) y13_4.toNatClampNeg).toNatClampNeg) = x2 → B13 (y13_4 + 1) (upd z13_v_crossings ((X3_cells w) y13_4.toNatClampNeg).toNatClampNeg ((z13_v_crossings ((X3_cells w) y13_4.toNatClampNeg).toNatClampNeg) + 1)) (upd z13_v_hollow ((X3_cells w) y13_4.toNatClampNeg).toNatClampNeg 1) (upd z13_v_seenBy ((X3_cells w) y13_4.toNatClampNeg).toNatClampNeg x2)))))
def wp_X4_readTunnel_13 (v : V_X4) (w : V_X3) (x2 : Int32) (y13_3 : Int32) (y13_4 : Int32) (z13_v_crossings : (Nat → Int32)) (z13_v_hollow : (Nat → Int32)) (z13_v_seenBy : (Nat → Int32)) (Q : (Nat → Int32) → (Nat → Int32) → (Nat → Int32) → Prop) : Prop :=
  ∃ (I : Int32 → (Nat → Int32) → (Nat → Int32) → (Nat → Int32) → Prop) (μ : Int32 → (Nat → Int32) → (Nat → Int32) → (Nat → Int32) → Nat), I y13_4 z13_v_crossings z13_v_hollow z13_v_seenBy ∧ ∀ (s0 : Int32) (s1 : (Nat → Int32)) (s2 : (Nat → Int32)) (s3 : (Nat → Int32)), I s0 s1 s2 s3 → wb_X4_readTunnel_13 v w x2 y13_3 s0 s1 s2 s3 (fun t0 t1 t2 t3 => I t0 t1 t2 t3 ∧ μ t0 t1 t2 t3 < μ s0 s1 s2 s3) Q
def wp_X4_readTunnel (v : V_X4) (w : V_X3) (x2 : Int32) (Q : (Nat → Int32) → (Nat → Int32) → (Nat → Int32) → Prop) : Prop :=
  wp_X3_to w x2 (fun r2 =>
  wp_X3_from w x2 (fun r8 =>
  wp_X4_readTunnel_13 v w x2 r2 r8 (X4_crossings v) (X4_hollow v) (X4_seenBy v) Q))
def q_X4_readTunnel (dC : Nat → ClassId) (dI : Nat → Nat → Nat) (cy : Nat → ClassId) (a d : Nat → Nat) (v : V_X4) (w : V_X3) (x2 : Int32) (Q : (Nat → Int32) → (Nat → Int32) → (Nat → Int32) → Prop) (A : Nat → Prop) : Array Value → State → Outcome → State → Prop := va_Qv (fun (u : (Nat → Int32) × (Nat → Int32) × (Nat → Int32)) => Q u.1 u.2.1 u.2.2) (fun (u : (Nat → Int32) × (Nat → Int32) × (Nat → Int32)) t => xAt dC dI cy A (cX4 cy a u.2.1 u.1 (X4_sure v) u.2.2 ++ wX3 cy d w) t) A
set_option maxHeartbeats 4000000 in
set_option maxRecDepth 100000 in
theorem c_X4_readTunnel (l : Launch) (dC : Nat → ClassId) (dI : Nat → Nat → Nat) (cy : Nat → ClassId) (a d : Nat → Nat) (sz : Nat) (v : V_X4) (w : V_X3) (x2 : Int32) (Q : (Nat → Int32) → (Nat → Int32) → (Nat → Int32) → Prop) (hq : wp_X4_readTunnel v w x2 Q) : Met l yX4_readTunnel wsX4_readTunnel ({ frames := 1, cells := 0, slots := 0, locals := 21 } : Room) (va_Pc [.ref (a 0), .ref (d 0), .int x2] (xPre dC dI cy (wX4 cy a v ++ wX3 cy d w) sz)) (q_X4_readTunnel dC dI cy a d v w x2 Q (va_A (wX4 cy a v ++ wX3 cy d w) sz)) 0 0 (va_A (wX4 cy a v ++ wX3 cy d w) sz) := by
  refine Met.ofW (cc := cX4_readTunnel) (maxL := 6) (ret := none) (by decide) rfl ?_
  intro p e s m args below meth c s₁ B hml hv
  obtain ⟨rfl, hsz, hP, hK, hD0⟩ := hv
  have hx := B.exec
  have hb := B.bytes
  have hr := B.returns
  have hts := atoms_spec (ws := wsX4_readTunnel) B.pre
  have hown : s.vm.findClass RX4 = some m.cls := findClass_of_methodNamed B.named
  have hlocks := B.notSynchronized
  subst hsz
  have hD := hD0.self (sz := s.heap.size)
  generalize hAe : va_A (wX4 cy a v ++ wX3 cy d w) s.heap.size = A at hD ⊢
  have hAe0 : ∀ q : Nat, s.heap.size ≤ q → A q := fun q h => by rw [← hAe]; exact Or.inr h
  have hS : va_S A s.heap s.heap [] := va_S.rf
  have hl := lv_entry ([.ref (a 0), .ref (d 0), .int x2]) (n := 6) (Nat.le_of_ble_eq_true rfl)
  rw [lg_entry_eq]
  generalize (lg_sl ([.ref (a 0), .ref (d 0), .int x2]) ++ List.replicate (6 - (lg_sl ([.ref (a 0), .ref (d 0), .int x2])).length) Slot.unset).toArray = ls at hl ⊢
  have hl : lv_has ls 6 [(0, .ref (a 0)), (1, .ref (d 0)), (2, .int x2)] := hl
  have lk0 := hts (Cond.fieldLink RX4 62 "MolesLawn$Rows" "cells" "[I") (List.mem_cons_of_mem _ (List.mem_append_left _ (List.mem_append_left _ (List.mem_of_getElem? (i := 0) rfl))))
  have lk1 := hts (Cond.fieldLink RX4 21 "MolesLawn$Survey" "seenBy" "[I") (List.mem_cons_of_mem _ (List.mem_append_left _ (List.mem_append_left _ (List.mem_of_getElem? (i := 1) rfl))))
  have lk2 := hts (Cond.fieldLink RX4 15 "MolesLawn$Survey" "crossings" "[I") (List.mem_cons_of_mem _ (List.mem_append_left _ (List.mem_append_left _ (List.mem_of_getElem? (i := 2) rfl))))
  have lk3 := hts (Cond.fieldLink RX4 9 "MolesLawn$Survey" "hollow" "[I") (List.mem_cons_of_mem _ (List.mem_append_left _ (List.mem_append_left _ (List.mem_of_getElem? (i := 3) rfl))))
  have iK3 : ∀ w ∈ wsX30, w ∈ wsX4_readTunnel := fun _ h => (List.mem_cons_of_mem _ (List.mem_append_left _ (List.mem_append_right _ h)))
  have iK4 : ∀ w ∈ wsX40, w ∈ wsX4_readTunnel := fun _ h => (List.mem_cons_of_mem _ (List.mem_append_right _ h))
  unfold wp_X4_readTunnel at hq
  have J13 : ∀ (y13_3 : Int32) (y13_4 : Int32) (z13_v_crossings : (Nat → Int32)) (z13_v_hollow : (Nat → Int32)) (z13_v_seenBy : (Nat → Int32)) (H : Heap) (locs : List Loc) (ls : Array Slot), wp_X4_readTunnel_13 v w x2 y13_3 y13_4 z13_v_crossings z13_v_hollow z13_v_seenBy Q → va_P (dC, dI) vwCl (cX4 cy a z13_v_hollow z13_v_crossings (X4_sure v) z13_v_seenBy ++ wX3 cy d w) H → va_D A (cX4 cy a z13_v_hollow z13_v_crossings (X4_sure v) z13_v_seenBy ++ wX3 cy d w) → va_S A s.heap H locs → lv_has ls 6 [(0, .ref (a 0)), (1, .ref (d 0)), (2, .int x2), (3, .int y13_3), (4, .int y13_4)] → W p l e (headSpec wsX4_readTunnel ({ frames := 1, cells := 0, slots := 0, locals := 21 } : Room)).room s m ([.ref (a 0), .ref (d 0), .int x2] : List Value).toArray below meth c H locs 0 0 (MQ below (q_X4_readTunnel dC dI cy a d v w x2 Q A) ([.ref (a 0), .ref (d 0), .int x2] : List Value).toArray s 0 0 A) (F0 m 13 ls []) := by
    intro y13_3 y13_4 z13_v_crossings z13_v_hollow z13_v_seenBy H locs ls hq hP hD hS hl
    obtain ⟨I13, μ13, h0, hs13⟩ := hq
    have key : ∀ (n : Nat) (y13_4 : Int32) (z13_v_crossings : (Nat → Int32)) (z13_v_hollow : (Nat → Int32)) (z13_v_seenBy : (Nat → Int32)) (H : Heap) (locs : List Loc) (ls : Array Slot), I13 y13_4 z13_v_crossings z13_v_hollow z13_v_seenBy → μ13 y13_4 z13_v_crossings z13_v_hollow z13_v_seenBy < n → va_P (dC, dI) vwCl (cX4 cy a z13_v_hollow z13_v_crossings (X4_sure v) z13_v_seenBy ++ wX3 cy d w) H → va_D A (cX4 cy a z13_v_hollow z13_v_crossings (X4_sure v) z13_v_seenBy ++ wX3 cy d w) → va_S A s.heap H locs → lv_has ls 6 [(0, .ref (a 0)), (1, .ref (d 0)), (2, .int x2), (3, .int y13_3), (4, .int y13_4)] → W p l e (headSpec wsX4_readTunnel ({ frames := 1, cells := 0, slots := 0, locals := 21 } : Room)).room s m ([.ref (a 0), .ref (d 0), .int x2] : List Value).toArray below meth c H locs 0 0 (MQ below (q_X4_readTunnel dC dI cy a d v w x2 Q A) ([.ref (a 0), .ref (d 0), .int x2] : List Value).toArray s 0 0 A) (F0 m 13 ls []) := by
      intro n
      induction n with
      | zero => intro y13_4 z13_v_crossings z13_v_hollow z13_v_seenBy H locs ls _ hm; exact absurd hm (Nat.not_lt_zero _)
      | succ n ih =>
        intro y13_4 z13_v_crossings z13_v_hollow z13_v_seenBy H locs ls hI hm hP hD hS hl
        have hq := hs13 y13_4 z13_v_crossings z13_v_hollow z13_v_seenBy hI
        generalize hB13 : (fun (t0 : Int32) (t1 : (Nat → Int32)) (t2 : (Nat → Int32)) (t3 : (Nat → Int32)) => I13 t0 t1 t2 t3 ∧ μ13 t0 t1 t2 t3 < μ13 y13_4 z13_v_crossings z13_v_hollow z13_v_seenBy) = B13 at hq
        have bk13 : ∀ (y13_4 : Int32) (z13_v_crossings : (Nat → Int32)) (z13_v_hollow : (Nat → Int32)) (z13_v_seenBy : (Nat → Int32)) (H : Heap) (locs : List Loc) (ls : Array Slot), B13 y13_4 z13_v_crossings z13_v_hollow z13_v_seenBy → va_P (dC, dI) vwCl (cX4 cy a z13_v_hollow z13_v_crossings (X4_sure v) z13_v_seenBy ++ wX3 cy d w) H → va_D A (cX4 cy a z13_v_hollow z13_v_crossings (X4_sure v) z13_v_seenBy ++ wX3 cy d w) → va_S A s.heap H locs → lv_has ls 6 [(0, .ref (a 0)), (1, .ref (d 0)), (2, .int x2), (3, .int y13_3), (4, .int y13_4)] → W p l e (headSpec wsX4_readTunnel ({ frames := 1, cells := 0, slots := 0, locals := 21 } : Room)).room s m ([.ref (a 0), .ref (d 0), .int x2] : List Value).toArray below meth c H locs 0 0 (MQ below (q_X4_readTunnel dC dI cy a d v w x2 Q A) ([.ref (a 0), .ref (d 0), .int x2] : List Value).toArray s 0 0 A) (F0 m 13 ls []) := by
          intro y13_4 z13_v_crossings z13_v_hollow z13_v_seenBy H locs ls h
          rw [← hB13] at h
          exact ih y13_4 z13_v_crossings z13_v_hollow z13_v_seenBy H locs ls h.1 (Nat.lt_of_lt_of_le h.2 (Nat.le_of_lt_succ hm))
        unfold wb_X4_readTunnel_13 at hq
        refine lv_iload hx hb dX4_readTunnel_13 (lv_at hl 4 rfl) ?_
        refine lv_iload_n hx hb dX4_readTunnel_15 rfl (lv_at hl 3 rfl) ?_
        obtain ⟨hqA, hqB⟩ := hq
        refine lv_icmp_ge (tgt := 72) hx hb dX4_readTunnel_16 (by decide) (fun c4 => ?_) (fun c4 => ?_)
        · have hq := hqA c4
          exact W.vret hx hb hr (fun t ht hW => ⟨⟨(z13_v_crossings, z13_v_hollow, z13_v_seenBy), rfl, hq, (xAt_of hP hK hD ht hW)⟩, hS.F ht⟩) hS.2.2 dX4_readTunnel_72
        · have hq := hqB c4
          refine lv_aload_n hx hb dX4_readTunnel_19 rfl (lv_at hl 1 rfl) ?_
          refine va_get (D := (dC, dI)) (ci := 3) (v := .ref (d 1)) (C := RX3) (T := TX3) (N := 4) hx hb hts iK3 hown hK hP 5 rfl rfl 0 (by decide) lk0 (fun _ h9 => h9) rfl dX4_readTunnel_20 ?_
          refine lv_iload hx hb dX4_readTunnel_23 (lv_at hl 4 rfl) ?_
          obtain ⟨g1, hq⟩ := hq
          refine va_iald hx hb hK hP 6 0 rfl rfl g1 dX4_readTunnel_25 ?_
          refine lv_istore (lv' := [(5, .int ((X3_cells w) y13_4.toNatClampNeg)), (0, .ref (a 0)), (1, .ref (d 0)), (2, .int x2), (3, .int y13_3), (4, .int y13_4)]) hx hb dX4_readTunnel_26 hl (by decide) rfl (fun ls hl => ?_)
          refine lv_aload_n hx hb dX4_readTunnel_28 rfl (lv_at hl 1 rfl) ?_
          refine va_get (D := (dC, dI)) (ci := 4) (v := .ref (a 4)) (C := RX4) (T := TX4) (N := 4) hx hb hts iK4 hown hK hP 0 rfl rfl 3 (by decide) lk1 (fun _ h9 => h9) rfl dX4_readTunnel_29 ?_
          refine lv_iload hx hb dX4_readTunnel_32 (lv_at hl 0 rfl) ?_
          obtain ⟨g2, hq⟩ := hq
          refine va_iald hx hb hK hP 4 0 rfl rfl g2 dX4_readTunnel_34 ?_
          refine lv_iload_n hx hb dX4_readTunnel_35 rfl (lv_at hl 3 rfl) ?_
          obtain ⟨hqA, hqB⟩ := hq
          refine lv_icmp_eq (tgt := 66) hx hb dX4_readTunnel_36 (by decide) (fun c3 => ?_) (fun c3 => ?_)
          · have hq := hqA c3
            refine lv_iinc (v := (y13_4 + 1)) (lv' := [(4, .int (y13_4 + 1)), (5, .int ((X3_cells w) y13_4.toNatClampNeg)), (0, .ref (a 0)), (1, .ref (d 0)), (2, .int x2), (3, .int y13_3)]) hx hb dX4_readTunnel_66 hl (k := 5) rfl rfl (by decide) rfl (fun ls hl => ?_)
            refine lv_goto (tgt := 13) hx hb dX4_readTunnel_69 (by decide) ?_
            exact bk13 (y13_4 + 1) z13_v_crossings z13_v_hollow z13_v_seenBy _ _ _ hq hP hD hS (lv_sub hl [2, 3, 4, 5, 0] rfl)
          · have hq := hqB c3
            refine lv_aload_n hx hb dX4_readTunnel_39 rfl (lv_at hl 1 rfl) ?_
            refine va_get (D := (dC, dI)) (ci := 4) (v := .ref (a 4)) (C := RX4) (T := TX4) (N := 4) hx hb hts iK4 hown hK hP 0 rfl rfl 3 (by decide) lk1 (fun _ h9 => h9) rfl dX4_readTunnel_40 ?_
            refine lv_iload hx hb dX4_readTunnel_43 (lv_at hl 0 rfl) ?_
            refine lv_iload_n hx hb dX4_readTunnel_45 rfl (lv_at hl 3 rfl) ?_
            refine va_iast hx hb hK hP hD hS 4 0 rfl rfl g2 dX4_readTunnel_46 (fun H locs hP hD hS => ?_)
            have hP : va_P (dC, dI) vwCl (cX4 cy a z13_v_hollow z13_v_crossings (X4_sure v) (upd z13_v_seenBy ((X3_cells w) y13_4.toNatClampNeg).toNatClampNeg x2) ++ wX3 cy d w) H := hP
            have hD : va_D A (cX4 cy a z13_v_hollow z13_v_crossings (X4_sure v) (upd z13_v_seenBy ((X3_cells w) y13_4.toNatClampNeg).toNatClampNeg x2) ++ wX3 cy d w) := hD
            refine lv_aload_n hx hb dX4_readTunnel_47 rfl (lv_at hl 1 rfl) ?_
            refine va_get (D := (dC, dI)) (ci := 4) (v := .ref (a 2)) (C := RX4) (T := TX4) (N := 4) hx hb hts iK4 hown hK hP 0 rfl rfl 1 (by decide) lk2 (fun _ h9 => h9) rfl dX4_readTunnel_48 ?_
            refine lv_iload hx hb dX4_readTunnel_51 (lv_at hl 0 rfl) ?_
            refine lv_dup2_11 hx hb dX4_readTunnel_53 rfl rfl ?_
            refine va_iald hx hb hK hP 2 0 rfl rfl g2 dX4_readTunnel_54 ?_
            refine lv_iconst (v := 1) hx hb dX4_readTunnel_55 (by decide) ?_
            refine lv_iadd hx hb dX4_readTunnel_56 ?_
            refine va_iast hx hb hK hP hD hS 2 0 rfl rfl g2 dX4_readTunnel_57 (fun H locs hP hD hS => ?_)
            have hP : va_P (dC, dI) vwCl (cX4 cy a z13_v_hollow (upd z13_v_crossings ((X3_cells w) y13_4.toNatClampNeg).toNatClampNeg ((z13_v_crossings ((X3_cells w) y13_4.toNatClampNeg).toNatClampNeg) + 1)) (X4_sure v) (upd z13_v_seenBy ((X3_cells w) y13_4.toNatClampNeg).toNatClampNeg x2) ++ wX3 cy d w) H := hP
            have hD : va_D A (cX4 cy a z13_v_hollow (upd z13_v_crossings ((X3_cells w) y13_4.toNatClampNeg).toNatClampNeg ((z13_v_crossings ((X3_cells w) y13_4.toNatClampNeg).toNatClampNeg) + 1)) (X4_sure v) (upd z13_v_seenBy ((X3_cells w) y13_4.toNatClampNeg).toNatClampNeg x2) ++ wX3 cy d w) := hD
            refine lv_aload_n hx hb dX4_readTunnel_58 rfl (lv_at hl 1 rfl) ?_
            refine va_get (D := (dC, dI)) (ci := 4) (v := .ref (a 1)) (C := RX4) (T := TX4) (N := 4) hx hb hts iK4 hown hK hP 0 rfl rfl 0 (by decide) lk3 (fun _ h9 => h9) rfl dX4_readTunnel_59 ?_
            refine lv_iload hx hb dX4_readTunnel_62 (lv_at hl 0 rfl) ?_
            refine lv_iconst (v := 1) hx hb dX4_readTunnel_64 (by decide) ?_
            refine va_iast hx hb hK hP hD hS 1 0 rfl rfl g2 dX4_readTunnel_65 (fun H locs hP hD hS => ?_)
            have hP : va_P (dC, dI) vwCl (cX4 cy a (upd z13_v_hollow ((X3_cells w) y13_4.toNatClampNeg).toNatClampNeg 1) (upd z13_v_crossings ((X3_cells w) y13_4.toNatClampNeg).toNatClampNeg ((z13_v_crossings ((X3_cells w) y13_4.toNatClampNeg).toNatClampNeg) + 1)) (X4_sure v) (upd z13_v_seenBy ((X3_cells w) y13_4.toNatClampNeg).toNatClampNeg x2) ++ wX3 cy d w) H := hP
            have hD : va_D A (cX4 cy a (upd z13_v_hollow ((X3_cells w) y13_4.toNatClampNeg).toNatClampNeg 1) (upd z13_v_crossings ((X3_cells w) y13_4.toNatClampNeg).toNatClampNeg ((z13_v_crossings ((X3_cells w) y13_4.toNatClampNeg).toNatClampNeg) + 1)) (X4_sure v) (upd z13_v_seenBy ((X3_cells w) y13_4.toNatClampNeg).toNatClampNeg x2) ++ wX3 cy d w) := hD
            refine lv_iinc (v := (y13_4 + 1)) (lv' := [(4, .int (y13_4 + 1)), (5, .int ((X3_cells w) y13_4.toNatClampNeg)), (0, .ref (a 0)), (1, .ref (d 0)), (2, .int x2), (3, .int y13_3)]) hx hb dX4_readTunnel_66 hl (k := 5) rfl rfl (by decide) rfl (fun ls hl => ?_)
            refine lv_goto (tgt := 13) hx hb dX4_readTunnel_69 (by decide) ?_
            exact bk13 (y13_4 + 1) (upd z13_v_crossings ((X3_cells w) y13_4.toNatClampNeg).toNatClampNeg ((z13_v_crossings ((X3_cells w) y13_4.toNatClampNeg).toNatClampNeg) + 1)) (upd z13_v_hollow ((X3_cells w) y13_4.toNatClampNeg).toNatClampNeg 1) (upd z13_v_seenBy ((X3_cells w) y13_4.toNatClampNeg).toNatClampNeg x2) _ _ _ hq hP hD hS (lv_sub hl [2, 3, 4, 5, 0] rfl)
    exact key _ y13_4 z13_v_crossings z13_v_hollow z13_v_seenBy H locs ls h0 (Nat.lt_succ_self _) hP hD hS hl
  refine lv_aload_n hx hb dX4_readTunnel_0 rfl (lv_at hl 1 rfl) ?_
  refine lv_iload_n hx hb dX4_readTunnel_1 rfl (lv_at hl 2 rfl) ?_
  have hC : (([5, 6, 7] : List Nat).map (fun i => (wX4 cy a v ++ wX3 cy d w)[i]?)) = (wX3 cy d w).map some := rfl
  have hPc := xsubP hP hC
  have hDc := xsubD hD (by decide) hC
  have hFc := va_free (wc := (wX3 cy d w)) hD hS hAe0 [5, 6, 7] hC
  refine va_calli (va_runV (As := [.int x2]) (rest := []) ⟨hx, hb, hml, hown, hts⟩ (c_X3_to l dC dI cy d _ w x2 _ hq) (cwV 1 hts gX4_readTunnel_X3_to rfl rfl rfl (by decide +kernel) ⟨Nat.le_of_ble_eq_true rfl, Nat.le_of_ble_eq_true rfl⟩) ⟨xPre_blind, va_recv hK hP (ci := 3) (q0 := 5) rfl rfl, xPre_of hPc hK hDc⟩ rfl rfl hl.1 rfl (lv_room (Nat.le_of_ble_eq_true rfl)) dX4_readTunnel_2 ⟨Nat.le_of_ble_eq_true rfl, Nat.le_of_ble_eq_true rfl⟩) hS (fun q _ h => hFc q h) hFc (fun r2 u9 t H locs ht hvm hq hB hz1 hk1 hS => ?_)
  obtain ⟨hP1, -, hD1⟩ := hB
  rw [ht] at hP1
  have hP : va_P (dC, dI) vwCl (wX4 cy a v ++ wX3 cy d w) H := xj_keep hP hD [5, 6, 7] hC hP1 hk1
  refine lv_istore_n (lv' := [(3, .int r2), (0, .ref (a 0)), (1, .ref (d 0)), (2, .int x2)]) hx hb dX4_readTunnel_5 rfl hl (by decide) rfl (fun ls hl => ?_)
  refine lv_aload_n hx hb dX4_readTunnel_6 rfl (lv_at hl 2 rfl) ?_
  refine lv_iload_n hx hb dX4_readTunnel_7 rfl (lv_at hl 3 rfl) ?_
  have hC : (([5, 6, 7] : List Nat).map (fun i => (wX4 cy a v ++ wX3 cy d w)[i]?)) = (wX3 cy d w).map some := rfl
  have hPc := xsubP hP hC
  have hDc := xsubD hD (by decide) hC
  have hFc := va_free (wc := (wX3 cy d w)) hD hS hAe0 [5, 6, 7] hC
  refine va_calli (va_runV (As := [.int x2]) (rest := []) ⟨hx, hb, hml, hown, hts⟩ (c_X3_from l dC dI cy d _ w x2 _ hq) (cwV 1 hts gX4_readTunnel_X3_from rfl rfl rfl (by decide +kernel) ⟨Nat.le_of_ble_eq_true rfl, Nat.le_of_ble_eq_true rfl⟩) ⟨xPre_blind, va_recv hK hP (ci := 3) (q0 := 5) rfl rfl, xPre_of hPc hK hDc⟩ rfl rfl hl.1 rfl (lv_room (Nat.le_of_ble_eq_true rfl)) dX4_readTunnel_8 ⟨Nat.le_of_ble_eq_true rfl, Nat.le_of_ble_eq_true rfl⟩) hS (fun q _ h => hFc q h) hFc (fun r8 u9 t H locs ht hvm hq hB hz1 hk1 hS => ?_)
  obtain ⟨hP1, -, hD1⟩ := hB
  rw [ht] at hP1
  have hP : va_P (dC, dI) vwCl (wX4 cy a v ++ wX3 cy d w) H := xj_keep hP hD [5, 6, 7] hC hP1 hk1
  refine lv_istore (lv' := [(4, .int r8), (3, .int r2), (0, .ref (a 0)), (1, .ref (d 0)), (2, .int x2)]) hx hb dX4_readTunnel_11 hl (by decide) rfl (fun ls hl => ?_)
  exact J13 r2 r8 (X4_crossings v) (X4_hollow v) (X4_seenBy v) _ _ _ hq hP hD hS (lv_sub hl [2, 3, 4, 1, 0] rfl)
def wb_X4_readTrail_2 (v : V_X4) (w : V_X1)  (y2_2 : Int32) (z2_v_hollow : (Nat → Int32)) (B2 : Int32 → (Nat → Int32) → Prop) (Q : (Nat → Int32) → Prop) : Prop :=
  (((X1_trailLength w) ≤ y2_2 → Q z2_v_hollow) ∧
  (¬ (X1_trailLength w) ≤ y2_2 → vp_in y2_2 21 ∧ vp_in ((X1_trail w) y2_2.toNatClampNeg) 64 ∧ B2 (y2_2 + 1) (upd z2_v_hollow ((X1_trail w) y2_2.toNatClampNeg).toNatClampNeg 1)))
def wp_X4_readTrail_2 (v : V_X4) (w : V_X1)  (y2_2 : Int32) (z2_v_hollow : (Nat → Int32)) (Q : (Nat → Int32) → Prop) : Prop :=
  ∃ (I : Int32 → (Nat → Int32) → Prop) (μ : Int32 → (Nat → Int32) → Nat), I y2_2 z2_v_hollow ∧ ∀ (s0 : Int32) (s1 : (Nat → Int32)), I s0 s1 → wb_X4_readTrail_2 v w  s0 s1 (fun t0 t1 => I t0 t1 ∧ μ t0 t1 < μ s0 s1) Q
def wp_X4_readTrail (v : V_X4) (w : V_X1) (Q : (Nat → Int32) → Prop) : Prop :=
  wp_X4_readTrail_2 v w  0 (X4_hollow v) Q
def q_X4_readTrail (dC : Nat → ClassId) (dI : Nat → Nat → Nat) (cy : Nat → ClassId) (a d : Nat → Nat) (v : V_X4) (w : V_X1) (Q : (Nat → Int32) → Prop) (A : Nat → Prop) : Array Value → State → Outcome → State → Prop := va_Qv (fun (u : (Nat → Int32)) => Q u) (fun (u : (Nat → Int32)) t => xAt dC dI cy A (cX4 cy a u (X4_crossings v) (X4_sure v) (X4_seenBy v) ++ wX1 cy d w) t) A
set_option maxHeartbeats 4000000 in
set_option maxRecDepth 100000 in
theorem c_X4_readTrail (l : Launch) (dC : Nat → ClassId) (dI : Nat → Nat → Nat) (cy : Nat → ClassId) (a d : Nat → Nat) (sz : Nat) (v : V_X4) (w : V_X1) (Q : (Nat → Int32) → Prop) (hq : wp_X4_readTrail v w Q) : Met l yX4_readTrail wsX4_readTrail ({ frames := 0, cells := 0, slots := 0, locals := 0 } : Room) (va_Pc [.ref (a 0), .ref (d 0)] (xPre dC dI cy (wX4 cy a v ++ wX1 cy d w) sz)) (q_X4_readTrail dC dI cy a d v w Q (va_A (wX4 cy a v ++ wX1 cy d w) sz)) 0 0 (va_A (wX4 cy a v ++ wX1 cy d w) sz) := by
  refine Met.ofW (cc := cX4_readTrail) (maxL := 3) (ret := none) (by decide) rfl ?_
  intro p e s m args below meth c s₁ B hml hv
  obtain ⟨rfl, hsz, hP, hK, hD0⟩ := hv
  have hx := B.exec
  have hb := B.bytes
  have hr := B.returns
  have hts := atoms_spec (ws := wsX4_readTrail) B.pre
  have hown : s.vm.findClass RX4 = some m.cls := findClass_of_methodNamed B.named
  have hlocks := B.notSynchronized
  subst hsz
  have hD := hD0.self (sz := s.heap.size)
  generalize hAe : va_A (wX4 cy a v ++ wX1 cy d w) s.heap.size = A at hD ⊢
  have hAe0 : ∀ q : Nat, s.heap.size ≤ q → A q := fun q h => by rw [← hAe]; exact Or.inr h
  have hS : va_S A s.heap s.heap [] := va_S.rf
  have hl := lv_entry ([.ref (a 0), .ref (d 0)]) (n := 3) (Nat.le_of_ble_eq_true rfl)
  rw [lg_entry_eq]
  generalize (lg_sl ([.ref (a 0), .ref (d 0)]) ++ List.replicate (3 - (lg_sl ([.ref (a 0), .ref (d 0)])).length) Slot.unset).toArray = ls at hl ⊢
  have hl : lv_has ls 3 [(0, .ref (a 0)), (1, .ref (d 0))] := hl
  have lk0 := hts (Cond.fieldLink RX4 65 "MolesLawn$Mole" "trailLength" "I") (List.mem_cons_of_mem _ (List.mem_append_left _ (List.mem_append_left _ (List.mem_of_getElem? (i := 0) rfl))))
  have lk1 := hts (Cond.fieldLink RX4 9 "MolesLawn$Survey" "hollow" "[I") (List.mem_cons_of_mem _ (List.mem_append_left _ (List.mem_append_left _ (List.mem_of_getElem? (i := 1) rfl))))
  have lk2 := hts (Cond.fieldLink RX4 70 "MolesLawn$Mole" "trail" "[I") (List.mem_cons_of_mem _ (List.mem_append_left _ (List.mem_append_left _ (List.mem_of_getElem? (i := 2) rfl))))
  have iK1 : ∀ w ∈ wsX10, w ∈ wsX4_readTrail := fun _ h => (List.mem_cons_of_mem _ (List.mem_append_left _ (List.mem_append_right _ h)))
  have iK4 : ∀ w ∈ wsX40, w ∈ wsX4_readTrail := fun _ h => (List.mem_cons_of_mem _ (List.mem_append_right _ h))
  unfold wp_X4_readTrail at hq
  have J2 : ∀  (y2_2 : Int32) (z2_v_hollow : (Nat → Int32)) (H : Heap) (locs : List Loc) (ls : Array Slot), wp_X4_readTrail_2 v w  y2_2 z2_v_hollow Q → va_P (dC, dI) vwCl (cX4 cy a z2_v_hollow (X4_crossings v) (X4_sure v) (X4_seenBy v) ++ wX1 cy d w) H → va_D A (cX4 cy a z2_v_hollow (X4_crossings v) (X4_sure v) (X4_seenBy v) ++ wX1 cy d w) → va_S A s.heap H locs → lv_has ls 3 [(0, .ref (a 0)), (1, .ref (d 0)), (2, .int y2_2)] → W p l e (headSpec wsX4_readTrail ({ frames := 0, cells := 0, slots := 0, locals := 0 } : Room)).room s m ([.ref (a 0), .ref (d 0)] : List Value).toArray below meth c H locs 0 0 (MQ below (q_X4_readTrail dC dI cy a d v w Q A) ([.ref (a 0), .ref (d 0)] : List Value).toArray s 0 0 A) (F0 m 2 ls []) := by
    intro  y2_2 z2_v_hollow H locs ls hq hP hD hS hl
    obtain ⟨I2, μ2, h0, hs2⟩ := hq
    have key : ∀ (n : Nat) (y2_2 : Int32) (z2_v_hollow : (Nat → Int32)) (H : Heap) (locs : List Loc) (ls : Array Slot), I2 y2_2 z2_v_hollow → μ2 y2_2 z2_v_hollow < n → va_P (dC, dI) vwCl (cX4 cy a z2_v_hollow (X4_crossings v) (X4_sure v) (X4_seenBy v) ++ wX1 cy d w) H → va_D A (cX4 cy a z2_v_hollow (X4_crossings v) (X4_sure v) (X4_seenBy v) ++ wX1 cy d w) → va_S A s.heap H locs → lv_has ls 3 [(0, .ref (a 0)), (1, .ref (d 0)), (2, .int y2_2)] → W p l e (headSpec wsX4_readTrail ({ frames := 0, cells := 0, slots := 0, locals := 0 } : Room)).room s m ([.ref (a 0), .ref (d 0)] : List Value).toArray below meth c H locs 0 0 (MQ below (q_X4_readTrail dC dI cy a d v w Q A) ([.ref (a 0), .ref (d 0)] : List Value).toArray s 0 0 A) (F0 m 2 ls []) := by
      intro n
      induction n with
      | zero => intro y2_2 z2_v_hollow H locs ls _ hm; exact absurd hm (Nat.not_lt_zero _)
      | succ n ih =>
        intro y2_2 z2_v_hollow H locs ls hI hm hP hD hS hl
        have hq := hs2 y2_2 z2_v_hollow hI
        generalize hB2 : (fun (t0 : Int32) (t1 : (Nat → Int32)) => I2 t0 t1 ∧ μ2 t0 t1 < μ2 y2_2 z2_v_hollow) = B2 at hq
        have bk2 : ∀ (y2_2 : Int32) (z2_v_hollow : (Nat → Int32)) (H : Heap) (locs : List Loc) (ls : Array Slot), B2 y2_2 z2_v_hollow → va_P (dC, dI) vwCl (cX4 cy a z2_v_hollow (X4_crossings v) (X4_sure v) (X4_seenBy v) ++ wX1 cy d w) H → va_D A (cX4 cy a z2_v_hollow (X4_crossings v) (X4_sure v) (X4_seenBy v) ++ wX1 cy d w) → va_S A s.heap H locs → lv_has ls 3 [(0, .ref (a 0)), (1, .ref (d 0)), (2, .int y2_2)] → W p l e (headSpec wsX4_readTrail ({ frames := 0, cells := 0, slots := 0, locals := 0 } : Room)).room s m ([.ref (a 0), .ref (d 0)] : List Value).toArray below meth c H locs 0 0 (MQ below (q_X4_readTrail dC dI cy a d v w Q A) ([.ref (a 0), .ref (d 0)] : List Value).toArray s 0 0 A) (F0 m 2 ls []) := by
          intro y2_2 z2_v_hollow H locs ls h
          rw [← hB2] at h
          exact ih y2_2 z2_v_hollow H locs ls h.1 (Nat.lt_of_lt_of_le h.2 (Nat.le_of_lt_succ hm))
        unfold wb_X4_readTrail_2 at hq
        refine lv_iload_n hx hb dX4_readTrail_2 rfl (lv_at hl 2 rfl) ?_
        refine lv_aload_n hx hb dX4_readTrail_3 rfl (lv_at hl 1 rfl) ?_
        refine va_get (D := (dC, dI)) (ci := 1) (v := .int (X1_trailLength w)) (C := RX1) (T := TX1) (N := 7) hx hb hts iK1 hown hK hP 5 rfl rfl 3 (by decide) lk0 (fun _ h9 => h9) rfl dX4_readTrail_4 ?_
        obtain ⟨hqA, hqB⟩ := hq
        refine lv_icmp_ge (tgt := 28) hx hb dX4_readTrail_7 (by decide) (fun c3 => ?_) (fun c3 => ?_)
        · have hq := hqA c3
          exact W.vret hx hb hr (fun t ht hW => ⟨⟨z2_v_hollow, rfl, hq, (xAt_of hP hK hD ht hW)⟩, hS.F ht⟩) hS.2.2 dX4_readTrail_28
        · have hq := hqB c3
          refine lv_aload_n hx hb dX4_readTrail_10 rfl (lv_at hl 0 rfl) ?_
          refine va_get (D := (dC, dI)) (ci := 4) (v := .ref (a 1)) (C := RX4) (T := TX4) (N := 4) hx hb hts iK4 hown hK hP 0 rfl rfl 0 (by decide) lk1 (fun _ h9 => h9) rfl dX4_readTrail_11 ?_
          refine lv_aload_n hx hb dX4_readTrail_14 rfl (lv_at hl 1 rfl) ?_
          refine va_get (D := (dC, dI)) (ci := 1) (v := .ref (d 2)) (C := RX1) (T := TX1) (N := 7) hx hb hts iK1 hown hK hP 5 rfl rfl 1 (by decide) lk2 (fun _ h9 => h9) rfl dX4_readTrail_15 ?_
          refine lv_iload_n hx hb dX4_readTrail_18 rfl (lv_at hl 2 rfl) ?_
          obtain ⟨g1, hq⟩ := hq
          refine va_iald hx hb hK hP 7 0 rfl rfl g1 dX4_readTrail_19 ?_
          refine lv_iconst (v := 1) hx hb dX4_readTrail_20 (by decide) ?_
          obtain ⟨g2, hq⟩ := hq
          refine va_iast hx hb hK hP hD hS 1 0 rfl rfl g2 dX4_readTrail_21 (fun H locs hP hD hS => ?_)
          have hP : va_P (dC, dI) vwCl (cX4 cy a (upd z2_v_hollow ((X1_trail w) y2_2.toNatClampNeg).toNatClampNeg 1) (X4_crossings v) (X4_sure v) (X4_seenBy v) ++ wX1 cy d w) H := hP
          have hD : va_D A (cX4 cy a (upd z2_v_hollow ((X1_trail w) y2_2.toNatClampNeg).toNatClampNeg 1) (X4_crossings v) (X4_sure v) (X4_seenBy v) ++ wX1 cy d w) := hD
          refine lv_iinc (v := (y2_2 + 1)) (lv' := [(2, .int (y2_2 + 1)), (0, .ref (a 0)), (1, .ref (d 0))]) hx hb dX4_readTrail_22 hl (k := 2) rfl rfl (by decide) rfl (fun ls hl => ?_)
          refine lv_goto (tgt := 2) hx hb dX4_readTrail_25 (by decide) ?_
          exact bk2 (y2_2 + 1) (upd z2_v_hollow ((X1_trail w) y2_2.toNatClampNeg).toNatClampNeg 1) _ _ _ hq hP hD hS (lv_sub hl [1, 2, 0] rfl)
    exact key _ y2_2 z2_v_hollow H locs ls h0 (Nat.lt_succ_self _) hP hD hS hl
  refine lv_iconst (v := 0) hx hb dX4_readTrail_0 (by decide) ?_
  refine lv_istore_n (lv' := [(2, .int 0), (0, .ref (a 0)), (1, .ref (d 0))]) hx hb dX4_readTrail_1 rfl hl (by decide) rfl (fun ls hl => ?_)
  exact J2  0 (X4_hollow v) _ _ _ hq hP hD hS (lv_sub hl [1, 2, 0] rfl)
def wb_X4_markUnknownBeside_2 (v : V_X4) (x1 : Int32) (x2 : Int32)  (y2_3 : Int32) (z2_v_sure : (Nat → Int32)) (B2 : Int32 → (Nat → Int32) → Prop) (Q : (Nat → Int32) → Prop) : Prop :=
  ((8 ≤ y2_3 → Q z2_v_sure) ∧
  (¬ 8 ≤ y2_3 → wp_X6_neighbour x1 y2_3 (fun r10 =>
  ((r10 = (-1) → B2 (y2_3 + 1) z2_v_sure) ∧
  (¬ r10 = (-1) → vp_in r10 64 ∧ (((z2_v_sure r10.toNatClampNeg) = (-1) → B2 (y2_3 + 1) (upd z2_v_sure r10.toNatClampNeg x2)) ∧
  (¬ (z2_v_sure r10.toNatClampNeg) = (-1) → B2 (y2_3 + 1) z2_v_sure)))))))
def wp_X4_markUnknownBeside_2 (v : V_X4) (x1 : Int32) (x2 : Int32)  (y2_3 : Int32) (z2_v_sure : (Nat → Int32)) (Q : (Nat → Int32) → Prop) : Prop :=
  ∃ (I : Int32 → (Nat → Int32) → Prop) (μ : Int32 → (Nat → Int32) → Nat), I y2_3 z2_v_sure ∧ ∀ (s0 : Int32) (s1 : (Nat → Int32)), I s0 s1 → wb_X4_markUnknownBeside_2 v x1 x2  s0 s1 (fun t0 t1 => I t0 t1 ∧ μ t0 t1 < μ s0 s1) Q
def wp_X4_markUnknownBeside (v : V_X4) (x1 : Int32) (x2 : Int32) (Q : (Nat → Int32) → Prop) : Prop :=
  wp_X4_markUnknownBeside_2 v x1 x2  0 (X4_sure v) Q
def q_X4_markUnknownBeside (dC : Nat → ClassId) (dI : Nat → Nat → Nat) (cy : Nat → ClassId) (a : Nat → Nat) (v : V_X4) (x1 : Int32) (x2 : Int32) (Q : (Nat → Int32) → Prop) (A : Nat → Prop) : Array Value → State → Outcome → State → Prop := va_Qv (fun (u : (Nat → Int32)) => Q u) (fun (u : (Nat → Int32)) t => xAt dC dI cy A (cX4 cy a (X4_hollow v) (X4_crossings v) u (X4_seenBy v)) t) A
set_option maxHeartbeats 4000000 in
set_option maxRecDepth 100000 in
theorem c_X4_markUnknownBeside (l : Launch) (dC : Nat → ClassId) (dI : Nat → Nat → Nat) (cy : Nat → ClassId) (a : Nat → Nat) (sz : Nat) (v : V_X4) (x1 : Int32) (x2 : Int32) (Q : (Nat → Int32) → Prop) (hq : wp_X4_markUnknownBeside v x1 x2 Q) : Met l yX4_markUnknownBeside wsX4_markUnknownBeside ({ frames := 2, cells := 0, slots := 0, locals := 42 } : Room) (va_Pc [.ref (a 0), .int x1, .int x2] (xPreE dC dI cy (wX4 cy a v) sz)) (q_X4_markUnknownBeside dC dI cy a v x1 x2 Q (va_A (wX4 cy a v) sz)) 0 0 (va_A (wX4 cy a v) sz) := by
  refine Met.ofW (cc := cX4_markUnknownBeside) (maxL := 5) (ret := none) (by decide) rfl ?_
  intro p e s m args below meth c s₁ B hml hv
  obtain ⟨rfl, hsz, hP, hK, hD0, hE⟩ := hv
  have hx := B.exec
  have hb := B.bytes
  have hr := B.returns
  have hts := atoms_spec (ws := wsX4_markUnknownBeside) B.pre
  have hown : s.vm.findClass RX4 = some m.cls := findClass_of_methodNamed B.named
  have hlocks := B.notSynchronized
  subst hsz
  have hD := hD0.self (sz := s.heap.size)
  generalize hAe : va_A (wX4 cy a v) s.heap.size = A at hD hE ⊢
  have hAe0 : ∀ q : Nat, s.heap.size ≤ q → A q := fun q h => by rw [← hAe]; exact Or.inr h
  have hS : va_S A s.heap s.heap [] := va_S.rf
  have hl := lv_entry ([.ref (a 0), .int x1, .int x2]) (n := 5) (Nat.le_of_ble_eq_true rfl)
  rw [lg_entry_eq]
  generalize (lg_sl ([.ref (a 0), .int x1, .int x2]) ++ List.replicate (5 - (lg_sl ([.ref (a 0), .int x1, .int x2])).length) Slot.unset).toArray = ls at hl ⊢
  have hl : lv_has ls 5 [(0, .ref (a 0)), (1, .int x1), (2, .int x2)] := hl
  have lk0 := hts (Cond.fieldLink RX4 18 "MolesLawn$Survey" "sure" "[I") (List.mem_cons_of_mem _ (List.mem_append_left _ (List.mem_of_getElem? (i := 0) rfl)))
  have iK4 : ∀ w ∈ wsX40, w ∈ wsX4_markUnknownBeside := fun _ h => (List.mem_cons_of_mem _ (List.mem_append_right _ h))
  unfold wp_X4_markUnknownBeside at hq
  have J2 : ∀  (y2_3 : Int32) (z2_v_sure : (Nat → Int32)) (H : Heap) (locs : List Loc) (ls : Array Slot), wp_X4_markUnknownBeside_2 v x1 x2  y2_3 z2_v_sure Q → va_P (dC, dI) vwCl (cX4 cy a (X4_hollow v) (X4_crossings v) z2_v_sure (X4_seenBy v)) H → va_D A (cX4 cy a (X4_hollow v) (X4_crossings v) z2_v_sure (X4_seenBy v)) → va_S A s.heap H locs → lv_has ls 5 [(0, .ref (a 0)), (1, .int x1), (2, .int x2), (3, .int y2_3)] → W p l e (headSpec wsX4_markUnknownBeside ({ frames := 2, cells := 0, slots := 0, locals := 42 } : Room)).room s m ([.ref (a 0), .int x1, .int x2] : List Value).toArray below meth c H locs 0 0 (MQ below (q_X4_markUnknownBeside dC dI cy a v x1 x2 Q A) ([.ref (a 0), .int x1, .int x2] : List Value).toArray s 0 0 A) (F0 m 2 ls []) := by
    intro  y2_3 z2_v_sure H locs ls hq hP hD hS hl
    obtain ⟨I2, μ2, h0, hs2⟩ := hq
    have key : ∀ (n : Nat) (y2_3 : Int32) (z2_v_sure : (Nat → Int32)) (H : Heap) (locs : List Loc) (ls : Array Slot), I2 y2_3 z2_v_sure → μ2 y2_3 z2_v_sure < n → va_P (dC, dI) vwCl (cX4 cy a (X4_hollow v) (X4_crossings v) z2_v_sure (X4_seenBy v)) H → va_D A (cX4 cy a (X4_hollow v) (X4_crossings v) z2_v_sure (X4_seenBy v)) → va_S A s.heap H locs → lv_has ls 5 [(0, .ref (a 0)), (1, .int x1), (2, .int x2), (3, .int y2_3)] → W p l e (headSpec wsX4_markUnknownBeside ({ frames := 2, cells := 0, slots := 0, locals := 42 } : Room)).room s m ([.ref (a 0), .int x1, .int x2] : List Value).toArray below meth c H locs 0 0 (MQ below (q_X4_markUnknownBeside dC dI cy a v x1 x2 Q A) ([.ref (a 0), .int x1, .int x2] : List Value).toArray s 0 0 A) (F0 m 2 ls []) := by
      intro n
      induction n with
      | zero => intro y2_3 z2_v_sure H locs ls _ hm; exact absurd hm (Nat.not_lt_zero _)
      | succ n ih =>
        intro y2_3 z2_v_sure H locs ls hI hm hP hD hS hl
        have hq := hs2 y2_3 z2_v_sure hI
        generalize hB2 : (fun (t0 : Int32) (t1 : (Nat → Int32)) => I2 t0 t1 ∧ μ2 t0 t1 < μ2 y2_3 z2_v_sure) = B2 at hq
        have bk2 : ∀ (y2_3 : Int32) (z2_v_sure : (Nat → Int32)) (H : Heap) (locs : List Loc) (ls : Array Slot), B2 y2_3 z2_v_sure → va_P (dC, dI) vwCl (cX4 cy a (X4_hollow v) (X4_crossings v) z2_v_sure (X4_seenBy v)) H → va_D A (cX4 cy a (X4_hollow v) (X4_crossings v) z2_v_sure (X4_seenBy v)) → va_S A s.heap H locs → lv_has ls 5 [(0, .ref (a 0)), (1, .int x1), (2, .int x2), (3, .int y2_3)] → W p l e (headSpec wsX4_markUnknownBeside ({ frames := 2, cells := 0, slots := 0, locals := 42 } : Room)).room s m ([.ref (a 0), .int x1, .int x2] : List Value).toArray below meth c H locs 0 0 (MQ below (q_X4_markUnknownBeside dC dI cy a v x1 x2 Q A) ([.ref (a 0), .int x1, .int x2] : List Value).toArray s 0 0 A) (F0 m 2 ls []) := by
          intro y2_3 z2_v_sure H locs ls h
          rw [← hB2] at h
          exact ih y2_3 z2_v_sure H locs ls h.1 (Nat.lt_of_lt_of_le h.2 (Nat.le_of_lt_succ hm))
        unfold wb_X4_markUnknownBeside_2 at hq
        refine lv_iload_n hx hb dX4_markUnknownBeside_2 rfl (lv_at hl 3 rfl) ?_
        refine lv_bipush (v := 8) hx hb dX4_markUnknownBeside_3 (by decide) ?_
        obtain ⟨hqA, hqB⟩ := hq
        refine lv_icmp_ge (tgt := 46) hx hb dX4_markUnknownBeside_5 (by decide) (fun c4 => ?_) (fun c4 => ?_)
        · have hq := hqA c4
          exact W.vret hx hb hr (fun t ht hW => ⟨⟨z2_v_sure, rfl, hq, (xAt_of hP hK hD ht hW)⟩, hS.F ht⟩) hS.2.2 dX4_markUnknownBeside_46
        · have hq := hqB c4
          refine lv_iload_n hx hb dX4_markUnknownBeside_8 rfl (lv_at hl 1 rfl) ?_
          refine lv_iload_n hx hb dX4_markUnknownBeside_9 rfl (lv_at hl 3 rfl) ?_
          have hFc := xfree_none hS hAe0
          refine va_calli (va_runSN (As := [.int x1, .int y2_3]) (rest := []) ⟨hx, hb, hml, hown, hts⟩ (c_X6_neighbour l dC dI cy  _ x1 y2_3 _ hq) ⟨va_cnB 2 hts gX4_markUnknownBeside_X6_neighbour_n73 rfl rfl rfl hE.2.1 (hts (.initialized RX6) (List.mem_cons_of_mem _ (List.mem_append_left _ (List.mem_of_getElem? (i := 2) rfl)))) (by decide +kernel) ⟨Nat.le_of_ble_eq_true rfl, Nat.le_of_ble_eq_true rfl⟩, hts (.static yX6_neighbour) (List.mem_cons_of_mem _ (List.mem_append_left _ (List.mem_of_getElem? (i := 1) rfl))), trivial⟩ ⟨xPre_blindE, xPre_ofE xP_nil hK (xD_nil (A := A)) hE hS hFc⟩ rfl rfl hl.1 rfl (lv_room (Nat.le_of_ble_eq_true rfl)) dX4_markUnknownBeside_10 ⟨Nat.le_of_ble_eq_true rfl, Nat.le_of_ble_eq_true rfl⟩) hS (fun q _ h => hFc q h) hFc (fun r10 u9 t H locs ht hvm hq hB hz1 hk1 hS => ?_)
          have hP := xj_none hP hk1
          refine lv_istore (lv' := [(4, .int r10), (0, .ref (a 0)), (1, .int x1), (2, .int x2), (3, .int y2_3)]) hx hb dX4_markUnknownBeside_13 hl (by decide) rfl (fun ls hl => ?_)
          refine lv_iload hx hb dX4_markUnknownBeside_15 (lv_at hl 0 rfl) ?_
          refine lv_iconst (v := (-1)) hx hb dX4_markUnknownBeside_17 (by decide) ?_
          obtain ⟨hqA, hqB⟩ := hq
          refine lv_icmp_eq (tgt := 40) hx hb dX4_markUnknownBeside_18 (by decide) (fun c3 => ?_) (fun c3 => ?_)
          · have hq := hqA c3
            refine lv_iinc (v := (y2_3 + 1)) (lv' := [(3, .int (y2_3 + 1)), (4, .int r10), (0, .ref (a 0)), (1, .int x1), (2, .int x2)]) hx hb dX4_markUnknownBeside_40 hl (k := 4) rfl rfl (by decide) rfl (fun ls hl => ?_)
            refine lv_goto (tgt := 2) hx hb dX4_markUnknownBeside_43 (by decide) ?_
            exact bk2 (y2_3 + 1) z2_v_sure _ _ _ hq hP hD hS (lv_sub hl [2, 3, 4, 0] rfl)
          · have hq := hqB c3
            refine lv_aload_n hx hb dX4_markUnknownBeside_21 rfl (lv_at hl 1 rfl) ?_
            refine va_get (D := (dC, dI)) (ci := 4) (v := .ref (a 3)) (C := RX4) (T := TX4) (N := 4) hx hb hts iK4 hown hK hP 0 rfl rfl 2 (by decide) lk0 (fun _ h9 => h9) rfl dX4_markUnknownBeside_22 ?_
            refine lv_iload hx hb dX4_markUnknownBeside_25 (lv_at hl 0 rfl) ?_
            obtain ⟨g1, hq⟩ := hq
            refine va_iald hx hb hK hP 3 0 rfl rfl g1 dX4_markUnknownBeside_27 ?_
            refine lv_iconst (v := (-1)) hx hb dX4_markUnknownBeside_28 (by decide) ?_
            obtain ⟨hqA, hqB⟩ := hq
            refine lv_icmp_ne (tgt := 40) hx hb dX4_markUnknownBeside_29 (by decide) (fun c2 => ?_) (fun c2 => ?_)
            · have hq := hqB c2
              refine lv_iinc (v := (y2_3 + 1)) (lv' := [(3, .int (y2_3 + 1)), (4, .int r10), (0, .ref (a 0)), (1, .int x1), (2, .int x2)]) hx hb dX4_markUnknownBeside_40 hl (k := 4) rfl rfl (by decide) rfl (fun ls hl => ?_)
              refine lv_goto (tgt := 2) hx hb dX4_markUnknownBeside_43 (by decide) ?_
              exact bk2 (y2_3 + 1) z2_v_sure _ _ _ hq hP hD hS (lv_sub hl [2, 3, 4, 0] rfl)
            · have hq := hqA c2
              refine lv_aload_n hx hb dX4_markUnknownBeside_32 rfl (lv_at hl 1 rfl) ?_
              refine va_get (D := (dC, dI)) (ci := 4) (v := .ref (a 3)) (C := RX4) (T := TX4) (N := 4) hx hb hts iK4 hown hK hP 0 rfl rfl 2 (by decide) lk0 (fun _ h9 => h9) rfl dX4_markUnknownBeside_33 ?_
              refine lv_iload hx hb dX4_markUnknownBeside_36 (lv_at hl 0 rfl) ?_
              refine lv_iload_n hx hb dX4_markUnknownBeside_38 rfl (lv_at hl 3 rfl) ?_
              refine va_iast hx hb hK hP hD hS 3 0 rfl rfl g1 dX4_markUnknownBeside_39 (fun H locs hP hD hS => ?_)
              have hP : va_P (dC, dI) vwCl (cX4 cy a (X4_hollow v) (X4_crossings v) (upd z2_v_sure r10.toNatClampNeg x2) (X4_seenBy v)) H := hP
              have hD : va_D A (cX4 cy a (X4_hollow v) (X4_crossings v) (upd z2_v_sure r10.toNatClampNeg x2) (X4_seenBy v)) := hD
              refine lv_iinc (v := (y2_3 + 1)) (lv' := [(3, .int (y2_3 + 1)), (4, .int r10), (0, .ref (a 0)), (1, .int x1), (2, .int x2)]) hx hb dX4_markUnknownBeside_40 hl (k := 4) rfl rfl (by decide) rfl (fun ls hl => ?_)
              refine lv_goto (tgt := 2) hx hb dX4_markUnknownBeside_43 (by decide) ?_
              exact bk2 (y2_3 + 1) (upd z2_v_sure r10.toNatClampNeg x2) _ _ _ hq hP hD hS (lv_sub hl [2, 3, 4, 0] rfl)
    exact key _ y2_3 z2_v_sure H locs ls h0 (Nat.lt_succ_self _) hP hD hS hl
  refine lv_iconst (v := 0) hx hb dX4_markUnknownBeside_0 (by decide) ?_
  refine lv_istore_n (lv' := [(3, .int 0), (0, .ref (a 0)), (1, .int x1), (2, .int x2)]) hx hb dX4_markUnknownBeside_1 rfl hl (by decide) rfl (fun ls hl => ?_)
  exact J2  0 (X4_sure v) _ _ _ hq hP hD hS (lv_sub hl [1, 2, 3, 0] rfl)
def wp_X4_concludeAt (v : V_X4) (x1 : Int32) (Q : Int32 → (Nat → Int32) → Prop) : Prop :=
  wp_X4_countBeside 64 (X4_sure v) x1 (-1) (fun r7 =>
  ((r7 = 0 → Q 0 (X4_sure v)) ∧
  (¬ r7 = 0 → wp_X4_countBeside 64 (X4_hollow v) x1 1 (fun r24 =>
  wp_X4_countBeside 64 (X4_sure v) x1 1 (fun r35 =>
  ((r35 = r24 → wp_X4_markUnknownBeside v x1 0 (fun z49_v_sure =>
  Q 1 z49_v_sure)) ∧
  (¬ r35 = r24 → (((r35 + r7) = r24 → wp_X4_markUnknownBeside v x1 1 (fun z65_v_sure =>
  Q 1 z65_v_sure)) ∧
  (¬ (r35 + r7) = r24 → Q 0 (X4_sure v))))))))))
def q_X4_concludeAt (dC : Nat → ClassId) (dI : Nat → Nat → Nat) (cy : Nat → ClassId) (a : Nat → Nat) (v : V_X4) (x1 : Int32) (Q : Int32 → (Nat → Int32) → Prop) (A : Nat → Prop) : Array Value → State → Outcome → State → Prop := va_Qi (fun (r : Int32) (u : (Nat → Int32)) => Q r u) (fun (u : (Nat → Int32)) t => xAt dC dI cy A (cX4 cy a (X4_hollow v) (X4_crossings v) u (X4_seenBy v)) t) A
set_option maxHeartbeats 4000000 in
set_option maxRecDepth 100000 in
theorem c_X4_concludeAt (l : Launch) (dC : Nat → ClassId) (dI : Nat → Nat → Nat) (cy : Nat → ClassId) (a : Nat → Nat) (sz : Nat) (v : V_X4) (x1 : Int32) (Q : Int32 → (Nat → Int32) → Prop) (hq : wp_X4_concludeAt v x1 Q) : Met l yX4_concludeAt wsX4_concludeAt ({ frames := 3, cells := 0, slots := 0, locals := 68 } : Room) (va_Pc [.ref (a 0), .int x1] (xPreE dC dI cy (wX4 cy a v) sz)) (q_X4_concludeAt dC dI cy a v x1 Q (va_A (wX4 cy a v) sz)) 0 0 (va_A (wX4 cy a v) sz) := by
  refine Met.ofW (cc := cX4_concludeAt) (maxL := 5) (ret := (some .boolean)) (by decide) rfl ?_
  intro p e s m args below meth c s₁ B hml hv
  obtain ⟨rfl, hsz, hP, hK, hD0, hE⟩ := hv
  have hx := B.exec
  have hb := B.bytes
  have hr := B.returns
  have hts := atoms_spec (ws := wsX4_concludeAt) B.pre
  have hown : s.vm.findClass RX4 = some m.cls := findClass_of_methodNamed B.named
  have hlocks := B.notSynchronized
  subst hsz
  have hD := hD0.self (sz := s.heap.size)
  generalize hAe : va_A (wX4 cy a v) s.heap.size = A at hD hE ⊢
  have hAe0 : ∀ q : Nat, s.heap.size ≤ q → A q := fun q h => by rw [← hAe]; exact Or.inr h
  have hS : va_S A s.heap s.heap [] := va_S.rf
  have hl := lv_entry ([.ref (a 0), .int x1]) (n := 5) (Nat.le_of_ble_eq_true rfl)
  rw [lg_entry_eq]
  generalize (lg_sl ([.ref (a 0), .int x1]) ++ List.replicate (5 - (lg_sl ([.ref (a 0), .int x1])).length) Slot.unset).toArray = ls at hl ⊢
  have hl : lv_has ls 5 [(0, .ref (a 0)), (1, .int x1)] := hl
  have lk0 := hts (Cond.fieldLink RX4 18 "MolesLawn$Survey" "sure" "[I") (List.mem_cons_of_mem _ (List.mem_append_left _ (List.mem_of_getElem? (i := 0) rfl)))
  have lk1 := hts (Cond.fieldLink RX4 9 "MolesLawn$Survey" "hollow" "[I") (List.mem_cons_of_mem _ (List.mem_append_left _ (List.mem_of_getElem? (i := 1) rfl)))
  have iK4 : ∀ w ∈ wsX40, w ∈ wsX4_concludeAt := fun _ h => (List.mem_cons_of_mem _ (List.mem_append_right _ h))
  unfold wp_X4_concludeAt at hq
  refine lv_aload_n hx hb dX4_concludeAt_0 rfl (lv_at hl 0 rfl) ?_
  refine lv_aload_n hx hb dX4_concludeAt_1 rfl (lv_at hl 0 rfl) ?_
  refine va_get (D := (dC, dI)) (ci := 4) (v := .ref (a 3)) (C := RX4) (T := TX4) (N := 4) hx hb hts iK4 hown hK hP 0 rfl rfl 2 (by decide) lk0 (fun _ h9 => h9) rfl dX4_concludeAt_2 ?_
  refine lv_iload_n hx hb dX4_concludeAt_5 rfl (lv_at hl 1 rfl) ?_
  refine lv_iconst (v := (-1)) hx hb dX4_concludeAt_6 (by decide) ?_
  have hC : (([3] : List Nat).map (fun i => (wX4 cy a v)[i]?)) = (cAI cy (sh a 3) 64 (X4_sure v)).map some := rfl
  have hPc := xsubP hP hC
  have hDc := xsubD hD (by decide) hC
  have hFc := va_free (wc := (cAI cy (sh a 3) 64 (X4_sure v))) hD hS hAe0 [3] hC
  refine va_calli (va_runV (As := [.ref (a 3), .int x1, .int (-1)]) (rest := []) ⟨hx, hb, hml, hown, hts⟩ (c_X4_countBeside l dC dI cy (sh a 3) (a 0) _ 64 (X4_sure v) x1 (-1) _ hq) (cwV 3 hts gX4_concludeAt_X4_countBeside rfl rfl rfl (by decide +kernel) ⟨Nat.le_of_ble_eq_true rfl, Nat.le_of_ble_eq_true rfl⟩) ⟨xPre_blindE, va_recv hK hP (ci := 4) (q0 := 0) rfl rfl, xPre_ofE hPc hK hDc hE hS hFc⟩ rfl rfl hl.1 rfl (lv_room (Nat.le_of_ble_eq_true rfl)) dX4_concludeAt_7 ⟨Nat.le_of_ble_eq_true rfl, Nat.le_of_ble_eq_true rfl⟩) hS (fun q _ h => hFc q h) hFc (fun r7 u9 t H locs ht hvm hq hB hz1 hk1 hS => ?_)
  obtain ⟨hP1, -, hD1⟩ := hB
  rw [ht] at hP1
  have hP : va_P (dC, dI) vwCl (wX4 cy a v) H := xj_keep hP hD [3] hC hP1 hk1
  refine lv_istore_n (lv' := [(2, .int r7), (0, .ref (a 0)), (1, .int x1)]) hx hb dX4_concludeAt_10 rfl hl (by decide) rfl (fun ls hl => ?_)
  refine lv_iload_n hx hb dX4_concludeAt_11 rfl (lv_at hl 0 rfl) ?_
  obtain ⟨hqA, hqB⟩ := hq
  refine lv_if_ne (tgt := 17) hx hb dX4_concludeAt_12 (by decide) (fun c3 => ?_) (fun c3 => ?_)
  · have hq := hqB c3
    refine lv_aload_n hx hb dX4_concludeAt_17 rfl (lv_at hl 1 rfl) ?_
    refine lv_aload_n hx hb dX4_concludeAt_18 rfl (lv_at hl 1 rfl) ?_
    refine va_get (D := (dC, dI)) (ci := 4) (v := .ref (a 1)) (C := RX4) (T := TX4) (N := 4) hx hb hts iK4 hown hK hP 0 rfl rfl 0 (by decide) lk1 (fun _ h9 => h9) rfl dX4_concludeAt_19 ?_
    refine lv_iload_n hx hb dX4_concludeAt_22 rfl (lv_at hl 2 rfl) ?_
    refine lv_iconst (v := 1) hx hb dX4_concludeAt_23 (by decide) ?_
    have hC : (([1] : List Nat).map (fun i => (wX4 cy a v)[i]?)) = (cAI cy (sh a 1) 64 (X4_hollow v)).map some := rfl
    have hPc := xsubP hP hC
    have hDc := xsubD hD (by decide) hC
    have hFc := va_free (wc := (cAI cy (sh a 1) 64 (X4_hollow v))) hD hS hAe0 [1] hC
    refine va_calli (va_runV (As := [.ref (a 1), .int x1, .int 1]) (rest := []) ⟨hx, hb, hml, hown, hts⟩ (c_X4_countBeside l dC dI cy (sh a 1) (a 0) _ 64 (X4_hollow v) x1 1 _ hq) (cwV 3 hts gX4_concludeAt_X4_countBeside rfl rfl rfl (by decide +kernel) ⟨Nat.le_of_ble_eq_true rfl, Nat.le_of_ble_eq_true rfl⟩) ⟨xPre_blindE, va_recv hK hP (ci := 4) (q0 := 0) rfl rfl, xPre_ofE hPc hK hDc hE hS hFc⟩ rfl rfl hl.1 rfl (lv_room (Nat.le_of_ble_eq_true rfl)) dX4_concludeAt_24 ⟨Nat.le_of_ble_eq_true rfl, Nat.le_of_ble_eq_true rfl⟩) hS (fun q _ h => hFc q h) hFc (fun r24 u9 t H locs ht hvm hq hB hz1 hk1 hS => ?_)
    obtain ⟨hP1, -, hD1⟩ := hB
    rw [ht] at hP1
    have hP : va_P (dC, dI) vwCl (wX4 cy a v) H := xj_keep hP hD [1] hC hP1 hk1
    refine lv_istore_n (lv' := [(3, .int r24), (2, .int r7), (0, .ref (a 0)), (1, .int x1)]) hx hb dX4_concludeAt_27 rfl hl (by decide) rfl (fun ls hl => ?_)
    refine lv_aload_n hx hb dX4_concludeAt_28 rfl (lv_at hl 2 rfl) ?_
    refine lv_aload_n hx hb dX4_concludeAt_29 rfl (lv_at hl 2 rfl) ?_
    refine va_get (D := (dC, dI)) (ci := 4) (v := .ref (a 3)) (C := RX4) (T := TX4) (N := 4) hx hb hts iK4 hown hK hP 0 rfl rfl 2 (by decide) lk0 (fun _ h9 => h9) rfl dX4_concludeAt_30 ?_
    refine lv_iload_n hx hb dX4_concludeAt_33 rfl (lv_at hl 3 rfl) ?_
    refine lv_iconst (v := 1) hx hb dX4_concludeAt_34 (by decide) ?_
    have hC : (([3] : List Nat).map (fun i => (wX4 cy a v)[i]?)) = (cAI cy (sh a 3) 64 (X4_sure v)).map some := rfl
    have hPc := xsubP hP hC
    have hDc := xsubD hD (by decide) hC
    have hFc := va_free (wc := (cAI cy (sh a 3) 64 (X4_sure v))) hD hS hAe0 [3] hC
    refine va_calli (va_runV (As := [.ref (a 3), .int x1, .int 1]) (rest := []) ⟨hx, hb, hml, hown, hts⟩ (c_X4_countBeside l dC dI cy (sh a 3) (a 0) _ 64 (X4_sure v) x1 1 _ hq) (cwV 3 hts gX4_concludeAt_X4_countBeside rfl rfl rfl (by decide +kernel) ⟨Nat.le_of_ble_eq_true rfl, Nat.le_of_ble_eq_true rfl⟩) ⟨xPre_blindE, va_recv hK hP (ci := 4) (q0 := 0) rfl rfl, xPre_ofE hPc hK hDc hE hS hFc⟩ rfl rfl hl.1 rfl (lv_room (Nat.le_of_ble_eq_true rfl)) dX4_concludeAt_35 ⟨Nat.le_of_ble_eq_true rfl, Nat.le_of_ble_eq_true rfl⟩) hS (fun q _ h => hFc q h) hFc (fun r35 u9 t H locs ht hvm hq hB hz1 hk1 hS => ?_)
    obtain ⟨hP1, -, hD1⟩ := hB
    rw [ht] at hP1
    have hP : va_P (dC, dI) vwCl (wX4 cy a v) H := xj_keep hP hD [3] hC hP1 hk1
    refine lv_istore (lv' := [(4, .int r35), (3, .int r24), (2, .int r7), (0, .ref (a 0)), (1, .int x1)]) hx hb dX4_concludeAt_38 hl (by decide) rfl (fun ls hl => ?_)
    refine lv_iload hx hb dX4_concludeAt_40 (lv_at hl 0 rfl) ?_
    refine lv_iload_n hx hb dX4_concludeAt_42 rfl (lv_at hl 1 rfl) ?_
    obtain ⟨hqA, hqB⟩ := hq
    refine lv_icmp_ne (tgt := 54) hx hb dX4_concludeAt_43 (by decide) (fun c2 => ?_) (fun c2 => ?_)
    · have hq := hqB c2
      refine lv_iload hx hb dX4_concludeAt_54 (lv_at hl 0 rfl) ?_
      refine lv_iload_n hx hb dX4_concludeAt_56 rfl (lv_at hl 2 rfl) ?_
      refine lv_iadd hx hb dX4_concludeAt_57 ?_
      refine lv_iload_n hx hb dX4_concludeAt_58 rfl (lv_at hl 1 rfl) ?_
      obtain ⟨hqA, hqB⟩ := hq
      refine lv_icmp_ne (tgt := 70) hx hb dX4_concludeAt_59 (by decide) (fun c1 => ?_) (fun c1 => ?_)
      · have hq := hqB c1
        refine lv_iconst (v := 0) hx hb dX4_concludeAt_70 (by decide) ?_
        exact W.zret (v := 0) hx hb hr rfl (fun t ht hW => ⟨⟨0, (X4_sure v), rfl, hq, (xAt_of hP hK hD ht hW)⟩, hS.F ht⟩) hS.2.2 dX4_concludeAt_71
      · have hq := hqA c1
        refine lv_aload_n hx hb dX4_concludeAt_62 rfl (lv_at hl 3 rfl) ?_
        refine lv_iload_n hx hb dX4_concludeAt_63 rfl (lv_at hl 4 rfl) ?_
        refine lv_iconst (v := 1) hx hb dX4_concludeAt_64 (by decide) ?_
        have hFc := xfree_same hS hAe0 (ws := (wX4 cy a v)) hD
        refine va_callv (va_runV (As := [.int x1, .int 1]) (rest := []) ⟨hx, hb, hml, hown, hts⟩ (c_X4_markUnknownBeside l dC dI cy a _ v x1 1 _ hq) (cwV 2 hts gX4_concludeAt_X4_markUnknownBeside rfl rfl rfl (by decide +kernel) ⟨Nat.le_of_ble_eq_true rfl, Nat.le_of_ble_eq_true rfl⟩) ⟨xPre_blindE, va_recv hK hP (ci := 4) (q0 := 0) rfl rfl, xPre_ofE hP hK hD hE hS hFc⟩ rfl rfl hl.1 rfl (lv_room (Nat.le_of_ble_eq_true rfl)) dX4_concludeAt_65 ⟨Nat.le_of_ble_eq_true rfl, Nat.le_of_ble_eq_true rfl⟩) hS (fun q _ h => hFc q h) hFc (fun z65_v_sure t H locs ht hvm hq hB hz1 hk1 hS => ?_)
        obtain ⟨hP1, -, hD1⟩ := hB
        rw [ht] at hP1
        have hP : va_P (dC, dI) vwCl (cX4 cy a (X4_hollow v) (X4_crossings v) z65_v_sure (X4_seenBy v)) H := hP1
        have hD : va_D A (cX4 cy a (X4_hollow v) (X4_crossings v) z65_v_sure (X4_seenBy v)) := hD1.weaken (fun _ q _ h => hFc q.1 h)
        refine lv_iconst (v := 1) hx hb dX4_concludeAt_68 (by decide) ?_
        exact W.zret (v := 1) hx hb hr rfl (fun t ht hW => ⟨⟨1, z65_v_sure, rfl, hq, (xAt_of hP hK hD ht hW)⟩, hS.F ht⟩) hS.2.2 dX4_concludeAt_69
    · have hq := hqA c2
      refine lv_aload_n hx hb dX4_concludeAt_46 rfl (lv_at hl 3 rfl) ?_
      refine lv_iload_n hx hb dX4_concludeAt_47 rfl (lv_at hl 4 rfl) ?_
      refine lv_iconst (v := 0) hx hb dX4_concludeAt_48 (by decide) ?_
      have hFc := xfree_same hS hAe0 (ws := (wX4 cy a v)) hD
      refine va_callv (va_runV (As := [.int x1, .int 0]) (rest := []) ⟨hx, hb, hml, hown, hts⟩ (c_X4_markUnknownBeside l dC dI cy a _ v x1 0 _ hq) (cwV 2 hts gX4_concludeAt_X4_markUnknownBeside rfl rfl rfl (by decide +kernel) ⟨Nat.le_of_ble_eq_true rfl, Nat.le_of_ble_eq_true rfl⟩) ⟨xPre_blindE, va_recv hK hP (ci := 4) (q0 := 0) rfl rfl, xPre_ofE hP hK hD hE hS hFc⟩ rfl rfl hl.1 rfl (lv_room (Nat.le_of_ble_eq_true rfl)) dX4_concludeAt_49 ⟨Nat.le_of_ble_eq_true rfl, Nat.le_of_ble_eq_true rfl⟩) hS (fun q _ h => hFc q h) hFc (fun z49_v_sure t H locs ht hvm hq hB hz1 hk1 hS => ?_)
      obtain ⟨hP1, -, hD1⟩ := hB
      rw [ht] at hP1
      have hP : va_P (dC, dI) vwCl (cX4 cy a (X4_hollow v) (X4_crossings v) z49_v_sure (X4_seenBy v)) H := hP1
      have hD : va_D A (cX4 cy a (X4_hollow v) (X4_crossings v) z49_v_sure (X4_seenBy v)) := hD1.weaken (fun _ q _ h => hFc q.1 h)
      refine lv_iconst (v := 1) hx hb dX4_concludeAt_52 (by decide) ?_
      exact W.zret (v := 1) hx hb hr rfl (fun t ht hW => ⟨⟨1, z49_v_sure, rfl, hq, (xAt_of hP hK hD ht hW)⟩, hS.F ht⟩) hS.2.2 dX4_concludeAt_53
  · have hq := hqA c3
    refine lv_iconst (v := 0) hx hb dX4_concludeAt_15 (by decide) ?_
    exact W.zret (v := 0) hx hb hr rfl (fun t ht hW => ⟨⟨0, (X4_sure v), rfl, hq, (xAt_of hP hK hD ht hW)⟩, hS.F ht⟩) hS.2.2 dX4_concludeAt_16
