def wb_X6_hashMoles_20 (v : V_X6) (x1 : Int64) (y5_3 : Int64) (y5_5 : Int32) (B5 : Int64 → Int32 → Prop)  (y20_3 : Int64) (y20_6 : Int32) (B20 : Int64 → Int32 → Prop) (Q : Int64 → Prop) : Prop :=
  ((6 < y20_6 → B5 y20_3 (y5_5 + 1)) ∧
  (¬ 6 < y20_6 → vp_in y5_5 4 ∧ ((X0_molesR (X6_lawn v)) y5_5.toNatClampNeg) < 4 ∧ wp_X1_number ((X0_moles (X6_lawn v)) ((X0_molesR (X6_lawn v)) y5_5.toNatClampNeg)) y20_6 (fun r44 =>
  B20 ((31 * y20_3) + (r44.toInt64)) (y20_6 + 1))))
def wp_X6_hashMoles_20 (v : V_X6) (x1 : Int64) (y5_3 : Int64) (y5_5 : Int32) (B5 : Int64 → Int32 → Prop)  (y20_3 : Int64) (y20_6 : Int32) (Q : Int64 → Prop) : Prop :=
  ∃ (I : Int64 → Int32 → Prop) (μ : Int64 → Int32 → Nat), I y20_3 y20_6 ∧ ∀ (s0 : Int64) (s1 : Int32), I s0 s1 → wb_X6_hashMoles_20 v x1 y5_3 y5_5 B5  s0 s1 (fun t0 t1 => I t0 t1 ∧ μ t0 t1 < μ s0 s1) Q
def wb_X6_hashMoles_5 (v : V_X6) (x1 : Int64)  (y5_3 : Int64) (y5_5 : Int32) (B5 : Int64 → Int32 → Prop) (Q : Int64 → Prop) : Prop :=
  (((X0_moleCount (X6_lawn v)) ≤ y5_5 → Q y5_3) ∧
  (¬ (X0_moleCount (X6_lawn v)) ≤ y5_5 → wp_X6_hashMoles_20 v x1 y5_3 y5_5 B5  y5_3 0 Q))
def wp_X6_hashMoles_5 (v : V_X6) (x1 : Int64)  (y5_3 : Int64) (y5_5 : Int32) (Q : Int64 → Prop) : Prop :=
  ∃ (I : Int64 → Int32 → Prop) (μ : Int64 → Int32 → Nat), I y5_3 y5_5 ∧ ∀ (s0 : Int64) (s1 : Int32), I s0 s1 → wb_X6_hashMoles_5 v x1  s0 s1 (fun t0 t1 => I t0 t1 ∧ μ t0 t1 < μ s0 s1) Q
def wp_X6_hashMoles (v : V_X6) (x1 : Int64) (Q : Int64 → Prop) : Prop :=
  wp_X6_hashMoles_5 v x1  x1 0 Q
def q_X6_hashMoles (dC : Nat → ClassId) (dI : Nat → Nat → Nat) (cy : Nat → ClassId) (a : Nat → Nat) (v : V_X6) (x1 : Int64) (Q : Int64 → Prop) (A : Nat → Prop) : Array Value → State → Outcome → State → Prop := va_Ql (fun (r : Int64) (u : Unit) => Q r ) (fun (u : Unit) t => xAt dC dI cy A (wX6 cy a v) t) A
set_option maxHeartbeats 4000000 in
set_option maxRecDepth 100000 in
theorem c_X6_hashMoles (l : Launch) (dC : Nat → ClassId) (dI : Nat → Nat → Nat) (cy : Nat → ClassId) (a : Nat → Nat) (sz : Nat) (v : V_X6) (x1 : Int64) (Q : Int64 → Prop) (hq : wp_X6_hashMoles v x1 Q) : Met l yX6_hashMoles wsX6_hashMoles ({ frames := 2, cells := 0, slots := 0, locals := 41 } : Room) (va_Pc [.ref (a 0), .long x1] (xPre dC dI cy (wX6 cy a v) sz)) (q_X6_hashMoles dC dI cy a v x1 Q (va_A (wX6 cy a v) sz)) 0 0 (va_A (wX6 cy a v) sz) := by
  refine Met.ofW (cc := cX6_hashMoles) (maxL := 7) (ret := (some .long)) (by decide) rfl ?_
  intro p e s m args below meth c s₁ B hml hv
  obtain ⟨rfl, hsz, hP, hK, hD0⟩ := hv
  have hx := B.exec
  have hb := B.bytes
  have hr := B.returns
  have hts := atoms_spec (ws := wsX6_hashMoles) B.pre
  have hown : s.vm.findClass RX6 = some m.cls := findClass_of_methodNamed B.named
  have hlocks := B.notSynchronized
  subst hsz
  have hD := hD0.self (sz := s.heap.size)
  generalize hAe : va_A (wX6 cy a v) s.heap.size = A at hD ⊢
  have hAe0 : ∀ q : Nat, s.heap.size ≤ q → A q := fun q h => by rw [← hAe]; exact Or.inr h
  have hS : va_S A s.heap s.heap [] := va_S.rf
  have hl := lv_entry ([.ref (a 0), .long x1]) (n := 7) (Nat.le_of_ble_eq_true rfl)
  rw [lg_entry_eq]
  generalize (lg_sl ([.ref (a 0), .long x1]) ++ List.replicate (7 - (lg_sl ([.ref (a 0), .long x1])).length) Slot.unset).toArray = ls at hl ⊢
  have hl : lv_has ls 7 [(0, .ref (a 0)), (1, .long x1)] := hl
  have lk0 := hts (Cond.constantLong RX6 252 (31)) (List.mem_cons_of_mem _ (List.mem_append_left _ (List.mem_append_left _ (List.mem_append_left _ (List.mem_of_getElem? (i := 2) rfl)))))
  have lk1 := hts (Cond.fieldLink RX6 15 "MolesLawn" "lawn" "LMolesLawn$Lawn;") (List.mem_cons_of_mem _ (List.mem_append_left _ (List.mem_append_left _ (List.mem_append_left _ (List.mem_of_getElem? (i := 0) rfl)))))
  have lk2 := hts (Cond.fieldLink RX6 86 "MolesLawn$Lawn" "moles" "[LMolesLawn$Mole;") (List.mem_cons_of_mem _ (List.mem_append_left _ (List.mem_append_left _ (List.mem_append_left _ (List.mem_of_getElem? (i := 3) rfl)))))
  have lk3 := hts (Cond.fieldLink RX6 56 "MolesLawn$Lawn" "moleCount" "I") (List.mem_cons_of_mem _ (List.mem_append_left _ (List.mem_append_left _ (List.mem_append_left _ (List.mem_of_getElem? (i := 1) rfl)))))
  have iK0 : ∀ w ∈ wsX00, w ∈ wsX6_hashMoles := fun _ h => (List.mem_cons_of_mem _ (List.mem_append_left _ (List.mem_append_right _ h)))
  have iK6 : ∀ w ∈ wsX60, w ∈ wsX6_hashMoles := fun _ h => (List.mem_cons_of_mem _ (List.mem_append_left _ (List.mem_append_left _ (List.mem_append_right _ h))))
  unfold wp_X6_hashMoles at hq
  have J5 : ∀  (y5_3 : Int64) (y5_5 : Int32) (H : Heap) (locs : List Loc) (ls : Array Slot), wp_X6_hashMoles_5 v x1  y5_3 y5_5 Q → va_P (dC, dI) vwCl (wX6 cy a v) H → va_D A (wX6 cy a v) → va_S A s.heap H locs → lv_has ls 7 [(0, .ref (a 0)), (3, .long y5_3), (5, .int y5_5)] → W p l e (headSpec wsX6_hashMoles ({ frames := 2, cells := 0, slots := 0, locals := 41 } : Room)).room s m ([.ref (a 0), .long x1] : List Value).toArray below meth c H locs 0 0 (MQ below (q_X6_hashMoles dC dI cy a v x1 Q A) ([.ref (a 0), .long x1] : List Value).toArray s 0 0 A) (F0 m 5 ls []) := by
    intro  y5_3 y5_5 H locs ls hq hP hD hS hl
    obtain ⟨I5, μ5, h0, hs5⟩ := hq
    have key : ∀ (n : Nat) (y5_3 : Int64) (y5_5 : Int32) (H : Heap) (locs : List Loc) (ls : Array Slot), I5 y5_3 y5_5 → μ5 y5_3 y5_5 < n → va_P (dC, dI) vwCl (wX6 cy a v) H → va_D A (wX6 cy a v) → va_S A s.heap H locs → lv_has ls 7 [(0, .ref (a 0)), (3, .long y5_3), (5, .int y5_5)] → W p l e (headSpec wsX6_hashMoles ({ frames := 2, cells := 0, slots := 0, locals := 41 } : Room)).room s m ([.ref (a 0), .long x1] : List Value).toArray below meth c H locs 0 0 (MQ below (q_X6_hashMoles dC dI cy a v x1 Q A) ([.ref (a 0), .long x1] : List Value).toArray s 0 0 A) (F0 m 5 ls []) := by
      intro n
      induction n with
      | zero => intro y5_3 y5_5 H locs ls _ hm; exact absurd hm (Nat.not_lt_zero _)
      | succ n ih =>
        intro y5_3 y5_5 H locs ls hI hm hP hD hS hl
        have hq := hs5 y5_3 y5_5 hI
        generalize hB5 : (fun (t0 : Int64) (t1 : Int32) => I5 t0 t1 ∧ μ5 t0 t1 < μ5 y5_3 y5_5) = B5 at hq
        have bk5 : ∀ (y5_3 : Int64) (y5_5 : Int32) (H : Heap) (locs : List Loc) (ls : Array Slot), B5 y5_3 y5_5 → va_P (dC, dI) vwCl (wX6 cy a v) H → va_D A (wX6 cy a v) → va_S A s.heap H locs → lv_has ls 7 [(0, .ref (a 0)), (3, .long y5_3), (5, .int y5_5)] → W p l e (headSpec wsX6_hashMoles ({ frames := 2, cells := 0, slots := 0, locals := 41 } : Room)).room s m ([.ref (a 0), .long x1] : List Value).toArray below meth c H locs 0 0 (MQ below (q_X6_hashMoles dC dI cy a v x1 Q A) ([.ref (a 0), .long x1] : List Value).toArray s 0 0 A) (F0 m 5 ls []) := by
          intro y5_3 y5_5 H locs ls h
          rw [← hB5] at h
          exact ih y5_3 y5_5 H locs ls h.1 (Nat.lt_of_lt_of_le h.2 (Nat.le_of_lt_succ hm))
        unfold wb_X6_hashMoles_5 at hq
        have J20 : ∀  (y20_3 : Int64) (y20_6 : Int32) (H : Heap) (locs : List Loc) (ls : Array Slot), wp_X6_hashMoles_20 v x1 y5_3 y5_5 B5  y20_3 y20_6 Q → va_P (dC, dI) vwCl (wX6 cy a v) H → va_D A (wX6 cy a v) → va_S A s.heap H locs → lv_has ls 7 [(0, .ref (a 0)), (3, .long y20_3), (5, .int y5_5), (6, .int y20_6)] → W p l e (headSpec wsX6_hashMoles ({ frames := 2, cells := 0, slots := 0, locals := 41 } : Room)).room s m ([.ref (a 0), .long x1] : List Value).toArray below meth c H locs 0 0 (MQ below (q_X6_hashMoles dC dI cy a v x1 Q A) ([.ref (a 0), .long x1] : List Value).toArray s 0 0 A) (F0 m 20 ls []) := by
          intro  y20_3 y20_6 H locs ls hq hP hD hS hl
          obtain ⟨I20, μ20, h0, hs20⟩ := hq
          have key : ∀ (n : Nat) (y20_3 : Int64) (y20_6 : Int32) (H : Heap) (locs : List Loc) (ls : Array Slot), I20 y20_3 y20_6 → μ20 y20_3 y20_6 < n → va_P (dC, dI) vwCl (wX6 cy a v) H → va_D A (wX6 cy a v) → va_S A s.heap H locs → lv_has ls 7 [(0, .ref (a 0)), (3, .long y20_3), (5, .int y5_5), (6, .int y20_6)] → W p l e (headSpec wsX6_hashMoles ({ frames := 2, cells := 0, slots := 0, locals := 41 } : Room)).room s m ([.ref (a 0), .long x1] : List Value).toArray below meth c H locs 0 0 (MQ below (q_X6_hashMoles dC dI cy a v x1 Q A) ([.ref (a 0), .long x1] : List Value).toArray s 0 0 A) (F0 m 20 ls []) := by
            intro n
            induction n with
            | zero => intro y20_3 y20_6 H locs ls _ hm; exact absurd hm (Nat.not_lt_zero _)
            | succ n ih =>
              intro y20_3 y20_6 H locs ls hI hm hP hD hS hl
              have hq := hs20 y20_3 y20_6 hI
              generalize hB20 : (fun (t0 : Int64) (t1 : Int32) => I20 t0 t1 ∧ μ20 t0 t1 < μ20 y20_3 y20_6) = B20 at hq
              have bk20 : ∀ (y20_3 : Int64) (y20_6 : Int32) (H : Heap) (locs : List Loc) (ls : Array Slot), B20 y20_3 y20_6 → va_P (dC, dI) vwCl (wX6 cy a v) H → va_D A (wX6 cy a v) → va_S A s.heap H locs → lv_has ls 7 [(0, .ref (a 0)), (3, .long y20_3), (5, .int y5_5), (6, .int y20_6)] → W p l e (headSpec wsX6_hashMoles ({ frames := 2, cells := 0, slots := 0, locals := 41 } : Room)).room s m ([.ref (a 0), .long x1] : List Value).toArray below meth c H locs 0 0 (MQ below (q_X6_hashMoles dC dI cy a v x1 Q A) ([.ref (a 0), .long x1] : List Value).toArray s 0 0 A) (F0 m 20 ls []) := by
                intro y20_3 y20_6 H locs ls h
                rw [← hB20] at h
                exact ih y20_3 y20_6 H locs ls h.1 (Nat.lt_of_lt_of_le h.2 (Nat.le_of_lt_succ hm))
              unfold wb_X6_hashMoles_20 at hq
              refine lv_iload hx hb dX6_hashMoles_20 (lv_at hl 3 rfl) ?_
              refine lv_bipush (v := 6) hx hb dX6_hashMoles_22 (by decide) ?_
              obtain ⟨hqA, hqB⟩ := hq
              refine lv_icmp_gt (tgt := 56) hx hb dX6_hashMoles_24 (by decide) (fun c3 => ?_) (fun c3 => ?_)
              · have hq := hqA c3
                refine lv_iinc (v := (y5_5 + 1)) (lv' := [(5, .int (y5_5 + 1)), (0, .ref (a 0)), (3, .long y20_3), (6, .int y20_6)]) hx hb dX6_hashMoles_56 hl (k := 2) rfl rfl (by decide) rfl (fun ls hl => ?_)
                refine lv_goto (tgt := 5) hx hb dX6_hashMoles_59 (by decide) ?_
                exact bk5 y20_3 (y5_5 + 1) _ _ _ hq hP hD hS (lv_sub hl [1, 2, 0] rfl)
              · have hq := hqB c3
                refine lv_ldc2 (v := 31) hx hb hown lk0 dX6_hashMoles_27 ?_
                refine lv_lload_n hx hb dX6_hashMoles_30 rfl (lv_at hl 1 rfl) ?_
                refine lv_lmul hx hb dX6_hashMoles_31 ?_
                refine lv_aload_n hx hb dX6_hashMoles_32 rfl (lv_at hl 0 rfl) ?_
                refine va_get (D := (dC, dI)) (ci := 6) (v := .ref (a 4)) (C := RX6) (T := TX6) (N := 9) hx hb hts iK6 hown hK hP 0 rfl rfl 0 (by decide) lk1 (fun _ h9 => h9) rfl dX6_hashMoles_33 ?_
                refine va_get (D := (dC, dI)) (ci := 0) (v := .ref (a 12)) (C := RX0) (T := TX0) (N := 14) hx hb hts iK0 hown hK hP 4 rfl rfl 6 (by decide) lk2 (fun _ h9 => h9) rfl dX6_hashMoles_36 ?_
                refine lv_iload hx hb dX6_hashMoles_39 (lv_at hl 2 rfl) ?_
                obtain ⟨g1, hq⟩ := hq
                obtain ⟨g2, hq⟩ := hq
                refine va_aldq hx hb hK hP 12 2 rfl rfl g1 dX6_hashMoles_41 ?_
                refine lv_iload hx hb dX6_hashMoles_42 (lv_at hl 3 rfl) ?_
                have hC : (([(13 + 3 * ((X0_molesR (X6_lawn v)) y5_5.toNatClampNeg)), (14 + 3 * ((X0_molesR (X6_lawn v)) y5_5.toNatClampNeg)), (15 + 3 * ((X0_molesR (X6_lawn v)) y5_5.toNatClampNeg))] : List Nat).map (fun i => (wX6 cy a v)[i]?)) = (wX1 cy (sh (sh a 4) (9 + 3 * ((X0_molesR (X6_lawn v)) y5_5.toNatClampNeg))) ((X0_moles (X6_lawn v)) ((X0_molesR (X6_lawn v)) y5_5.toNatClampNeg))).map some := (co_4 (P := fun i19 => (([(13 + 3 * i19), (14 + 3 * i19), (15 + 3 * i19)] : List Nat).map (fun i => (wX6 cy a v)[i]?)) = (wX1 cy (sh (sh a 4) (9 + 3 * i19)) ((X0_moles (X6_lawn v)) i19)).map some) rfl rfl rfl rfl g2)
                have hN : va_nd [(13 + 3 * ((X0_molesR (X6_lawn v)) y5_5.toNatClampNeg)), (14 + 3 * ((X0_molesR (X6_lawn v)) y5_5.toNatClampNeg)), (15 + 3 * ((X0_molesR (X6_lawn v)) y5_5.toNatClampNeg))] = true := (co_4 (P := fun i19 => va_nd [(13 + 3 * i19), (14 + 3 * i19), (15 + 3 * i19)] = true) rfl rfl rfl rfl g2)
                have hPc := xsubP hP hC
                have hDc := xsubD hD hN hC
                have hFc := va_free (wc := (wX1 cy (sh (sh a 4) (9 + 3 * ((X0_molesR (X6_lawn v)) y5_5.toNatClampNeg))) ((X0_moles (X6_lawn v)) ((X0_molesR (X6_lawn v)) y5_5.toNatClampNeg)))) hD hS hAe0 [(13 + 3 * ((X0_molesR (X6_lawn v)) y5_5.toNatClampNeg)), (14 + 3 * ((X0_molesR (X6_lawn v)) y5_5.toNatClampNeg)), (15 + 3 * ((X0_molesR (X6_lawn v)) y5_5.toNatClampNeg))] hC
                refine va_calli (va_runV (As := [.int y20_6]) (rest := [.long (31 * y20_3)]) ⟨hx, hb, hml, hown, hts⟩ (c_X1_number l dC dI cy (sh (sh a 4) (9 + 3 * ((X0_molesR (X6_lawn v)) y5_5.toNatClampNeg))) _ ((X0_moles (X6_lawn v)) ((X0_molesR (X6_lawn v)) y5_5.toNatClampNeg)) y20_6 _ hq) (cwV 1 hts gX6_hashMoles_X1_number rfl rfl rfl (by decide +kernel) ⟨Nat.le_of_ble_eq_true rfl, Nat.le_of_ble_eq_true rfl⟩) ⟨xPre_blind, va_recv hK hP (ci := 1) (q0 := (13 + 3 * ((X0_molesR (X6_lawn v)) y5_5.toNatClampNeg))) rfl (co_4 (P := fun i19 => (wX6 cy a v)[(13 + 3 * i19)]? = (wX1 cy (sh (sh a 4) (9 + 3 * i19)) ((X0_moles (X6_lawn v)) i19))[0]?) rfl rfl rfl rfl g2), xPre_of hPc hK hDc⟩ rfl rfl hl.1 rfl (lv_room (Nat.le_of_ble_eq_true rfl)) dX6_hashMoles_44 ⟨Nat.le_of_ble_eq_true rfl, Nat.le_of_ble_eq_true rfl⟩) hS (fun q _ h => hFc q h) hFc (fun r44 u9 t H locs ht hvm hq hB hz1 hk1 hS => ?_)
                obtain ⟨hP1, -, hD1⟩ := hB
                rw [ht] at hP1
                have hP : va_P (dC, dI) vwCl (wX6 cy a v) H := xj_keep hP hD [(13 + 3 * ((X0_molesR (X6_lawn v)) y5_5.toNatClampNeg)), (14 + 3 * ((X0_molesR (X6_lawn v)) y5_5.toNatClampNeg)), (15 + 3 * ((X0_molesR (X6_lawn v)) y5_5.toNatClampNeg))] hC hP1 hk1
                refine lv_i2l hx hb dX6_hashMoles_47 rfl ?_
                refine lv_ladd hx hb dX6_hashMoles_48 ?_
                refine lv_lstore_n (lv' := [(3, .long ((31 * y20_3) + (r44.toInt64))), (0, .ref (a 0)), (5, .int y5_5), (6, .int y20_6)]) hx hb dX6_hashMoles_49 rfl hl (by decide) rfl (fun ls hl => ?_)
                refine lv_iinc (v := (y20_6 + 1)) (lv' := [(6, .int (y20_6 + 1)), (3, .long ((31 * y20_3) + (r44.toInt64))), (0, .ref (a 0)), (5, .int y5_5)]) hx hb dX6_hashMoles_50 hl (k := 3) rfl rfl (by decide) rfl (fun ls hl => ?_)
                refine lv_goto (tgt := 20) hx hb dX6_hashMoles_53 (by decide) ?_
                exact bk20 ((31 * y20_3) + (r44.toInt64)) (y20_6 + 1) _ _ _ hq hP hD hS (lv_sub hl [2, 1, 3, 0] rfl)
          exact key _ y20_3 y20_6 H locs ls h0 (Nat.lt_succ_self _) hP hD hS hl
        refine lv_iload hx hb dX6_hashMoles_5 (lv_at hl 2 rfl) ?_
        refine lv_aload_n hx hb dX6_hashMoles_7 rfl (lv_at hl 0 rfl) ?_
        refine va_get (D := (dC, dI)) (ci := 6) (v := .ref (a 4)) (C := RX6) (T := TX6) (N := 9) hx hb hts iK6 hown hK hP 0 rfl rfl 0 (by decide) lk1 (fun _ h9 => h9) rfl dX6_hashMoles_8 ?_
        refine va_get (D := (dC, dI)) (ci := 0) (v := .int (X0_moleCount (X6_lawn v))) (C := RX0) (T := TX0) (N := 14) hx hb hts iK0 hown hK hP 4 rfl rfl 7 (by decide) lk3 (fun _ h9 => h9) rfl dX6_hashMoles_11 ?_
        obtain ⟨hqA, hqB⟩ := hq
        refine lv_icmp_ge (tgt := 62) hx hb dX6_hashMoles_14 (by decide) (fun c4 => ?_) (fun c4 => ?_)
        · have hq := hqA c4
          refine lv_lload_n hx hb dX6_hashMoles_62 rfl (lv_at hl 1 rfl) ?_
          exact W.lret (v := y5_3) hx hb hr (fun t ht hW => ⟨⟨y5_3, (), rfl, hq, (xAt_of hP hK hD ht hW)⟩, hS.F ht⟩) hS.2.2 dX6_hashMoles_63
        · have hq := hqB c4
          refine lv_iconst (v := 0) hx hb dX6_hashMoles_17 (by decide) ?_
          refine lv_istore (lv' := [(6, .int 0), (0, .ref (a 0)), (3, .long y5_3), (5, .int y5_5)]) hx hb dX6_hashMoles_18 hl (by decide) rfl (fun ls hl => ?_)
          exact J20  y5_3 0 _ _ _ hq hP hD hS (lv_sub hl [1, 2, 3, 0] rfl)
    exact key _ y5_3 y5_5 H locs ls h0 (Nat.lt_succ_self _) hP hD hS hl
  refine lv_lload_n hx hb dX6_hashMoles_0 rfl (lv_at hl 1 rfl) ?_
  refine lv_lstore_n (lv' := [(3, .long x1), (0, .ref (a 0)), (1, .long x1)]) hx hb dX6_hashMoles_1 rfl hl (by decide) rfl (fun ls hl => ?_)
  refine lv_iconst (v := 0) hx hb dX6_hashMoles_2 (by decide) ?_
  refine lv_istore (lv' := [(5, .int 0), (3, .long x1), (0, .ref (a 0)), (1, .long x1)]) hx hb dX6_hashMoles_3 hl (by decide) rfl (fun ls hl => ?_)
  exact J5  x1 0 _ _ _ hq hP hD hS (lv_sub hl [2, 1, 0] rfl)
