def wb_X6_hashTunnels_69 (v : V_X6) (x1 : Int64) (y14_3 : Int64) (y14_6 : Int32) (B14 : Int64 → Int32 → Prop) (y69_7 : Int32) (y69_3 : Int64) (y69_8 : Int32) (B69 : Int64 → Int32 → Prop) (Q : Int64 → Prop) : Prop :=
  ((y69_7 ≤ y69_8 → B14 y69_3 (y14_6 + 1)) ∧
  (¬ y69_7 ≤ y69_8 → wp_X3_at (X0_tunnels (X6_lawn v)) y14_6 y69_8 (fun r87 =>
  B69 ((31 * y69_3) + (r87.toInt64)) (y69_8 + 1))))
def wp_X6_hashTunnels_69 (v : V_X6) (x1 : Int64) (y14_3 : Int64) (y14_6 : Int32) (B14 : Int64 → Int32 → Prop) (y69_7 : Int32) (y69_3 : Int64) (y69_8 : Int32) (Q : Int64 → Prop) : Prop :=
  ∃ (I : Int64 → Int32 → Prop) (μ : Int64 → Int32 → Nat), I y69_3 y69_8 ∧ ∀ (s0 : Int64) (s1 : Int32), I s0 s1 → wb_X6_hashTunnels_69 v x1 y14_3 y14_6 B14 y69_7 s0 s1 (fun t0 t1 => I t0 t1 ∧ μ t0 t1 < μ s0 s1) Q
def wb_X6_hashTunnels_27 (v : V_X6) (x1 : Int64) (y14_3 : Int64) (y14_6 : Int32) (B14 : Int64 → Int32 → Prop)  (y27_3 : Int64) (y27_7 : Int32) (B27 : Int64 → Int32 → Prop) (Q : Int64 → Prop) : Prop :=
  ((2 < y27_7 → wp_X3_number (X0_tunnels (X6_lawn v)) y14_6 2 (fun r61 =>
  wp_X6_hashTunnels_69 v x1 y14_3 y14_6 B14 r61 y27_3 0 Q)) ∧
  (¬ 2 < y27_7 → wp_X3_number (X0_tunnels (X6_lawn v)) y14_6 y27_7 (fun r44 =>
  B27 ((31 * y27_3) + (r44.toInt64)) (y27_7 + 1))))
def wp_X6_hashTunnels_27 (v : V_X6) (x1 : Int64) (y14_3 : Int64) (y14_6 : Int32) (B14 : Int64 → Int32 → Prop)  (y27_3 : Int64) (y27_7 : Int32) (Q : Int64 → Prop) : Prop :=
  ∃ (I : Int64 → Int32 → Prop) (μ : Int64 → Int32 → Nat), I y27_3 y27_7 ∧ ∀ (s0 : Int64) (s1 : Int32), I s0 s1 → wb_X6_hashTunnels_27 v x1 y14_3 y14_6 B14  s0 s1 (fun t0 t1 => I t0 t1 ∧ μ t0 t1 < μ s0 s1) Q
def wb_X6_hashTunnels_14 (v : V_X6) (x1 : Int64)  (y14_3 : Int64) (y14_6 : Int32) (B14 : Int64 → Int32 → Prop) (Q : Int64 → Prop) : Prop :=
  (((X3_size (X0_tunnels (X6_lawn v))) ≤ y14_6 → Q y14_3) ∧
  (¬ (X3_size (X0_tunnels (X6_lawn v))) ≤ y14_6 → wp_X6_hashTunnels_27 v x1 y14_3 y14_6 B14  y14_3 0 Q))
def wp_X6_hashTunnels_14 (v : V_X6) (x1 : Int64)  (y14_3 : Int64) (y14_6 : Int32) (Q : Int64 → Prop) : Prop :=
  ∃ (I : Int64 → Int32 → Prop) (μ : Int64 → Int32 → Nat), I y14_3 y14_6 ∧ ∀ (s0 : Int64) (s1 : Int32), I s0 s1 → wb_X6_hashTunnels_14 v x1  s0 s1 (fun t0 t1 => I t0 t1 ∧ μ t0 t1 < μ s0 s1) Q
def wp_X6_hashTunnels (v : V_X6) (x1 : Int64) (Q : Int64 → Prop) : Prop :=
  wp_X6_hashTunnels_14 v x1  x1 0 Q
def q_X6_hashTunnels (dC : Nat → ClassId) (dI : Nat → Nat → Nat) (cy : Nat → ClassId) (a : Nat → Nat) (v : V_X6) (x1 : Int64) (Q : Int64 → Prop) (A : Nat → Prop) : Array Value → State → Outcome → State → Prop := va_Ql (fun (r : Int64) (u : Unit) => Q r ) (fun (u : Unit) t => xAt dC dI cy A (wX6 cy a v) t) A
set_option maxHeartbeats 4000000 in
set_option maxRecDepth 100000 in
theorem c_X6_hashTunnels (l : Launch) (dC : Nat → ClassId) (dI : Nat → Nat → Nat) (cy : Nat → ClassId) (a : Nat → Nat) (sz : Nat) (v : V_X6) (x1 : Int64) (Q : Int64 → Prop) (hq : wp_X6_hashTunnels v x1 Q) : Met l yX6_hashTunnels wsX6_hashTunnels ({ frames := 4, cells := 0, slots := 0, locals := 86 } : Room) (va_Pc [.ref (a 0), .long x1] (xPre dC dI cy (wX6 cy a v) sz)) (q_X6_hashTunnels dC dI cy a v x1 Q (va_A (wX6 cy a v) sz)) 0 0 (va_A (wX6 cy a v) sz) := by
  refine Met.ofW (cc := cX6_hashTunnels) (maxL := 9) (ret := (some .long)) (by decide) rfl ?_
  intro p e s m args below meth c s₁ B hml hv
  obtain ⟨rfl, hsz, hP, hK, hD0⟩ := hv
  have hx := B.exec
  have hb := B.bytes
  have hr := B.returns
  have hts := atoms_spec (ws := wsX6_hashTunnels) B.pre
  have hown : s.vm.findClass RX6 = some m.cls := findClass_of_methodNamed B.named
  have hlocks := B.notSynchronized
  subst hsz
  have hD := hD0.self (sz := s.heap.size)
  generalize hAe : va_A (wX6 cy a v) s.heap.size = A at hD ⊢
  have hAe0 : ∀ q : Nat, s.heap.size ≤ q → A q := fun q h => by rw [← hAe]; exact Or.inr h
  have hS : va_S A s.heap s.heap [] := va_S.rf
  have hl := lv_entry ([.ref (a 0), .long x1]) (n := 9) (Nat.le_of_ble_eq_true rfl)
  rw [lg_entry_eq]
  generalize (lg_sl ([.ref (a 0), .long x1]) ++ List.replicate (9 - (lg_sl ([.ref (a 0), .long x1])).length) Slot.unset).toArray = ls at hl ⊢
  have hl : lv_has ls 9 [(0, .ref (a 0)), (1, .long x1)] := hl
  have lk0 := hts (Cond.constantLong RX6 252 (31)) (List.mem_cons_of_mem _ (List.mem_append_left _ (List.mem_append_left _ (List.mem_append_left _ (List.mem_append_left _ (List.mem_of_getElem? (i := 3) rfl))))))
  have lk1 := hts (Cond.fieldLink RX6 191 "MolesLawn$Rows" "size" "I") (List.mem_cons_of_mem _ (List.mem_append_left _ (List.mem_append_left _ (List.mem_append_left _ (List.mem_append_left _ (List.mem_of_getElem? (i := 2) rfl))))))
  have lk2 := hts (Cond.fieldLink RX6 15 "MolesLawn" "lawn" "LMolesLawn$Lawn;") (List.mem_cons_of_mem _ (List.mem_append_left _ (List.mem_append_left _ (List.mem_append_left _ (List.mem_append_left _ (List.mem_of_getElem? (i := 0) rfl))))))
  have lk3 := hts (Cond.fieldLink RX6 187 "MolesLawn$Lawn" "tunnels" "LMolesLawn$Rows;") (List.mem_cons_of_mem _ (List.mem_append_left _ (List.mem_append_left _ (List.mem_append_left _ (List.mem_append_left _ (List.mem_of_getElem? (i := 1) rfl))))))
  have iK0 : ∀ w ∈ wsX00, w ∈ wsX6_hashTunnels := fun _ h => (List.mem_cons_of_mem _ (List.mem_append_left _ (List.mem_append_right _ h)))
  have iK3 : ∀ w ∈ wsX30, w ∈ wsX6_hashTunnels := fun _ h => (List.mem_cons_of_mem _ (List.mem_append_right _ h))
  have iK6 : ∀ w ∈ wsX60, w ∈ wsX6_hashTunnels := fun _ h => (List.mem_cons_of_mem _ (List.mem_append_left _ (List.mem_append_left _ (List.mem_append_right _ h))))
  unfold wp_X6_hashTunnels at hq
  have J14 : ∀  (y14_3 : Int64) (y14_6 : Int32) (H : Heap) (locs : List Loc) (ls : Array Slot), wp_X6_hashTunnels_14 v x1  y14_3 y14_6 Q → va_P (dC, dI) vwCl (wX6 cy a v) H → va_D A (wX6 cy a v) → va_S A s.heap H locs → lv_has ls 9 [(3, .long y14_3), (5, .ref (a 9)), (6, .int y14_6)] → W p l e (headSpec wsX6_hashTunnels ({ frames := 4, cells := 0, slots := 0, locals := 86 } : Room)).room s m ([.ref (a 0), .long x1] : List Value).toArray below meth c H locs 0 0 (MQ below (q_X6_hashTunnels dC dI cy a v x1 Q A) ([.ref (a 0), .long x1] : List Value).toArray s 0 0 A) (F0 m 14 ls []) := by
    intro  y14_3 y14_6 H locs ls hq hP hD hS hl
    obtain ⟨I14, μ14, h0, hs14⟩ := hq
    have key : ∀ (n : Nat) (y14_3 : Int64) (y14_6 : Int32) (H : Heap) (locs : List Loc) (ls : Array Slot), I14 y14_3 y14_6 → μ14 y14_3 y14_6 < n → va_P (dC, dI) vwCl (wX6 cy a v) H → va_D A (wX6 cy a v) → va_S A s.heap H locs → lv_has ls 9 [(3, .long y14_3), (5, .ref (a 9)), (6, .int y14_6)] → W p l e (headSpec wsX6_hashTunnels ({ frames := 4, cells := 0, slots := 0, locals := 86 } : Room)).room s m ([.ref (a 0), .long x1] : List Value).toArray below meth c H locs 0 0 (MQ below (q_X6_hashTunnels dC dI cy a v x1 Q A) ([.ref (a 0), .long x1] : List Value).toArray s 0 0 A) (F0 m 14 ls []) := by
      intro n
      induction n with
      | zero => intro y14_3 y14_6 H locs ls _ hm; exact absurd hm (Nat.not_lt_zero _)
      | succ n ih =>
        intro y14_3 y14_6 H locs ls hI hm hP hD hS hl
        have hq := hs14 y14_3 y14_6 hI
        generalize hB14 : (fun (t0 : Int64) (t1 : Int32) => I14 t0 t1 ∧ μ14 t0 t1 < μ14 y14_3 y14_6) = B14 at hq
        have bk14 : ∀ (y14_3 : Int64) (y14_6 : Int32) (H : Heap) (locs : List Loc) (ls : Array Slot), B14 y14_3 y14_6 → va_P (dC, dI) vwCl (wX6 cy a v) H → va_D A (wX6 cy a v) → va_S A s.heap H locs → lv_has ls 9 [(3, .long y14_3), (5, .ref (a 9)), (6, .int y14_6)] → W p l e (headSpec wsX6_hashTunnels ({ frames := 4, cells := 0, slots := 0, locals := 86 } : Room)).room s m ([.ref (a 0), .long x1] : List Value).toArray below meth c H locs 0 0 (MQ below (q_X6_hashTunnels dC dI cy a v x1 Q A) ([.ref (a 0), .long x1] : List Value).toArray s 0 0 A) (F0 m 14 ls []) := by
          intro y14_3 y14_6 H locs ls h
          rw [← hB14] at h
          exact ih y14_3 y14_6 H locs ls h.1 (Nat.lt_of_lt_of_le h.2 (Nat.le_of_lt_succ hm))
        unfold wb_X6_hashTunnels_14 at hq
        have J69 : ∀ (y69_7 : Int32) (y69_3 : Int64) (y69_8 : Int32) (H : Heap) (locs : List Loc) (ls : Array Slot), wp_X6_hashTunnels_69 v x1 y14_3 y14_6 B14 y69_7 y69_3 y69_8 Q → va_P (dC, dI) vwCl (wX6 cy a v) H → va_D A (wX6 cy a v) → va_S A s.heap H locs → lv_has ls 9 [(3, .long y69_3), (5, .ref (a 9)), (6, .int y14_6), (7, .int y69_7), (8, .int y69_8)] → W p l e (headSpec wsX6_hashTunnels ({ frames := 4, cells := 0, slots := 0, locals := 86 } : Room)).room s m ([.ref (a 0), .long x1] : List Value).toArray below meth c H locs 0 0 (MQ below (q_X6_hashTunnels dC dI cy a v x1 Q A) ([.ref (a 0), .long x1] : List Value).toArray s 0 0 A) (F0 m 69 ls []) := by
          intro y69_7 y69_3 y69_8 H locs ls hq hP hD hS hl
          obtain ⟨I69, μ69, h0, hs69⟩ := hq
          have key : ∀ (n : Nat) (y69_3 : Int64) (y69_8 : Int32) (H : Heap) (locs : List Loc) (ls : Array Slot), I69 y69_3 y69_8 → μ69 y69_3 y69_8 < n → va_P (dC, dI) vwCl (wX6 cy a v) H → va_D A (wX6 cy a v) → va_S A s.heap H locs → lv_has ls 9 [(3, .long y69_3), (5, .ref (a 9)), (6, .int y14_6), (7, .int y69_7), (8, .int y69_8)] → W p l e (headSpec wsX6_hashTunnels ({ frames := 4, cells := 0, slots := 0, locals := 86 } : Room)).room s m ([.ref (a 0), .long x1] : List Value).toArray below meth c H locs 0 0 (MQ below (q_X6_hashTunnels dC dI cy a v x1 Q A) ([.ref (a 0), .long x1] : List Value).toArray s 0 0 A) (F0 m 69 ls []) := by
            intro n
            induction n with
            | zero => intro y69_3 y69_8 H locs ls _ hm; exact absurd hm (Nat.not_lt_zero _)
            | succ n ih =>
              intro y69_3 y69_8 H locs ls hI hm hP hD hS hl
              have hq := hs69 y69_3 y69_8 hI
              generalize hB69 : (fun (t0 : Int64) (t1 : Int32) => I69 t0 t1 ∧ μ69 t0 t1 < μ69 y69_3 y69_8) = B69 at hq
              have bk69 : ∀ (y69_3 : Int64) (y69_8 : Int32) (H : Heap) (locs : List Loc) (ls : Array Slot), B69 y69_3 y69_8 → va_P (dC, dI) vwCl (wX6 cy a v) H → va_D A (wX6 cy a v) → va_S A s.heap H locs → lv_has ls 9 [(3, .long y69_3), (5, .ref (a 9)), (6, .int y14_6), (7, .int y69_7), (8, .int y69_8)] → W p l e (headSpec wsX6_hashTunnels ({ frames := 4, cells := 0, slots := 0, locals := 86 } : Room)).room s m ([.ref (a 0), .long x1] : List Value).toArray below meth c H locs 0 0 (MQ below (q_X6_hashTunnels dC dI cy a v x1 Q A) ([.ref (a 0), .long x1] : List Value).toArray s 0 0 A) (F0 m 69 ls []) := by
                intro y69_3 y69_8 H locs ls h
                rw [← hB69] at h
                exact ih y69_3 y69_8 H locs ls h.1 (Nat.lt_of_lt_of_le h.2 (Nat.le_of_lt_succ hm))
              unfold wb_X6_hashTunnels_69 at hq
              refine lv_iload hx hb dX6_hashTunnels_69 (lv_at hl 4 rfl) ?_
              refine lv_iload hx hb dX6_hashTunnels_71 (lv_at hl 3 rfl) ?_
              obtain ⟨hqA, hqB⟩ := hq
              refine lv_icmp_ge (tgt := 99) hx hb dX6_hashTunnels_73 (by decide) (fun c1 => ?_) (fun c1 => ?_)
              · have hq := hqA c1
                refine lv_iinc (v := (y14_6 + 1)) (lv' := [(6, .int (y14_6 + 1)), (3, .long y69_3), (5, .ref (a 9)), (7, .int y69_7), (8, .int y69_8)]) hx hb dX6_hashTunnels_99 hl (k := 2) rfl rfl (by decide) rfl (fun ls hl => ?_)
                refine lv_goto (tgt := 14) hx hb dX6_hashTunnels_102 (by decide) ?_
                exact bk14 y69_3 (y14_6 + 1) _ _ _ hq hP hD hS (lv_sub hl [1, 2, 0] rfl)
              · have hq := hqB c1
                refine lv_ldc2 (v := 31) hx hb hown lk0 dX6_hashTunnels_76 ?_
                refine lv_lload_n hx hb dX6_hashTunnels_79 rfl (lv_at hl 0 rfl) ?_
                refine lv_lmul hx hb dX6_hashTunnels_80 ?_
                refine lv_aload hx hb dX6_hashTunnels_81 (lv_at hl 1 rfl) ?_
                refine lv_iload hx hb dX6_hashTunnels_83 (lv_at hl 2 rfl) ?_
                refine lv_iload hx hb dX6_hashTunnels_85 (lv_at hl 4 rfl) ?_
                have hC : (([9, 10, 11] : List Nat).map (fun i => (wX6 cy a v)[i]?)) = (wX3 cy (sh a 9) (X0_tunnels (X6_lawn v))).map some := rfl
                have hPc := xsubP hP hC
                have hDc := xsubD hD (by decide) hC
                have hFc := va_free (wc := (wX3 cy (sh a 9) (X0_tunnels (X6_lawn v)))) hD hS hAe0 [9, 10, 11] hC
                refine va_calli (va_runV (As := [.int y14_6, .int y69_8]) (rest := [.long (31 * y69_3)]) ⟨hx, hb, hml, hown, hts⟩ (c_X3_at l dC dI cy (sh a 9) _ (X0_tunnels (X6_lawn v)) y14_6 y69_8 _ hq) (cwV 2 hts gX6_hashTunnels_X3_at rfl rfl rfl (by decide +kernel) ⟨Nat.le_of_ble_eq_true rfl, Nat.le_of_ble_eq_true rfl⟩) ⟨xPre_blind, va_recv hK hP (ci := 3) (q0 := 9) rfl rfl, xPre_of hPc hK hDc⟩ rfl rfl hl.1 rfl (lv_room (Nat.le_of_ble_eq_true rfl)) dX6_hashTunnels_87 ⟨Nat.le_of_ble_eq_true rfl, Nat.le_of_ble_eq_true rfl⟩) hS (fun q _ h => hFc q h) hFc (fun r87 u9 t H locs ht hvm hq hB hz1 hk1 hS => ?_)
                obtain ⟨hP1, -, hD1⟩ := hB
                rw [ht] at hP1
                have hP : va_P (dC, dI) vwCl (wX6 cy a v) H := xj_keep hP hD [9, 10, 11] hC hP1 hk1
                refine lv_i2l hx hb dX6_hashTunnels_90 rfl ?_
                refine lv_ladd hx hb dX6_hashTunnels_91 ?_
                refine lv_lstore_n (lv' := [(3, .long ((31 * y69_3) + (r87.toInt64))), (5, .ref (a 9)), (6, .int y14_6), (7, .int y69_7), (8, .int y69_8)]) hx hb dX6_hashTunnels_92 rfl hl (by decide) rfl (fun ls hl => ?_)
                refine lv_iinc (v := (y69_8 + 1)) (lv' := [(8, .int (y69_8 + 1)), (3, .long ((31 * y69_3) + (r87.toInt64))), (5, .ref (a 9)), (6, .int y14_6), (7, .int y69_7)]) hx hb dX6_hashTunnels_93 hl (k := 4) rfl rfl (by decide) rfl (fun ls hl => ?_)
                refine lv_goto (tgt := 69) hx hb dX6_hashTunnels_96 (by decide) ?_
                exact bk69 ((31 * y69_3) + (r87.toInt64)) (y69_8 + 1) _ _ _ hq hP hD hS (lv_sub hl [1, 2, 3, 4, 0] rfl)
          exact key _ y69_3 y69_8 H locs ls h0 (Nat.lt_succ_self _) hP hD hS hl
        have J27 : ∀  (y27_3 : Int64) (y27_7 : Int32) (H : Heap) (locs : List Loc) (ls : Array Slot), wp_X6_hashTunnels_27 v x1 y14_3 y14_6 B14  y27_3 y27_7 Q → va_P (dC, dI) vwCl (wX6 cy a v) H → va_D A (wX6 cy a v) → va_S A s.heap H locs → lv_has ls 9 [(3, .long y27_3), (5, .ref (a 9)), (6, .int y14_6), (7, .int y27_7)] → W p l e (headSpec wsX6_hashTunnels ({ frames := 4, cells := 0, slots := 0, locals := 86 } : Room)).room s m ([.ref (a 0), .long x1] : List Value).toArray below meth c H locs 0 0 (MQ below (q_X6_hashTunnels dC dI cy a v x1 Q A) ([.ref (a 0), .long x1] : List Value).toArray s 0 0 A) (F0 m 27 ls []) := by
          intro  y27_3 y27_7 H locs ls hq hP hD hS hl
          obtain ⟨I27, μ27, h0, hs27⟩ := hq
          have key : ∀ (n : Nat) (y27_3 : Int64) (y27_7 : Int32) (H : Heap) (locs : List Loc) (ls : Array Slot), I27 y27_3 y27_7 → μ27 y27_3 y27_7 < n → va_P (dC, dI) vwCl (wX6 cy a v) H → va_D A (wX6 cy a v) → va_S A s.heap H locs → lv_has ls 9 [(3, .long y27_3), (5, .ref (a 9)), (6, .int y14_6), (7, .int y27_7)] → W p l e (headSpec wsX6_hashTunnels ({ frames := 4, cells := 0, slots := 0, locals := 86 } : Room)).room s m ([.ref (a 0), .long x1] : List Value).toArray below meth c H locs 0 0 (MQ below (q_X6_hashTunnels dC dI cy a v x1 Q A) ([.ref (a 0), .long x1] : List Value).toArray s 0 0 A) (F0 m 27 ls []) := by
            intro n
            induction n with
            | zero => intro y27_3 y27_7 H locs ls _ hm; exact absurd hm (Nat.not_lt_zero _)
            | succ n ih =>
              intro y27_3 y27_7 H locs ls hI hm hP hD hS hl
              have hq := hs27 y27_3 y27_7 hI
              generalize hB27 : (fun (t0 : Int64) (t1 : Int32) => I27 t0 t1 ∧ μ27 t0 t1 < μ27 y27_3 y27_7) = B27 at hq
              have bk27 : ∀ (y27_3 : Int64) (y27_7 : Int32) (H : Heap) (locs : List Loc) (ls : Array Slot), B27 y27_3 y27_7 → va_P (dC, dI) vwCl (wX6 cy a v) H → va_D A (wX6 cy a v) → va_S A s.heap H locs → lv_has ls 9 [(3, .long y27_3), (5, .ref (a 9)), (6, .int y14_6), (7, .int y27_7)] → W p l e (headSpec wsX6_hashTunnels ({ frames := 4, cells := 0, slots := 0, locals := 86 } : Room)).room s m ([.ref (a 0), .long x1] : List Value).toArray below meth c H locs 0 0 (MQ below (q_X6_hashTunnels dC dI cy a v x1 Q A) ([.ref (a 0), .long x1] : List Value).toArray s 0 0 A) (F0 m 27 ls []) := by
                intro y27_3 y27_7 H locs ls h
                rw [← hB27] at h
                exact ih y27_3 y27_7 H locs ls h.1 (Nat.lt_of_lt_of_le h.2 (Nat.le_of_lt_succ hm))
              unfold wb_X6_hashTunnels_27 at hq
              refine lv_iload hx hb dX6_hashTunnels_27 (lv_at hl 3 rfl) ?_
              refine lv_iconst (v := 2) hx hb dX6_hashTunnels_29 (by decide) ?_
              obtain ⟨hqA, hqB⟩ := hq
              refine lv_icmp_gt (tgt := 56) hx hb dX6_hashTunnels_30 (by decide) (fun c2 => ?_) (fun c2 => ?_)
              · have hq := hqA c2
                refine lv_aload hx hb dX6_hashTunnels_56 (lv_at hl 1 rfl) ?_
                refine lv_iload hx hb dX6_hashTunnels_58 (lv_at hl 2 rfl) ?_
                refine lv_iconst (v := 2) hx hb dX6_hashTunnels_60 (by decide) ?_
                have hC : (([9, 10, 11] : List Nat).map (fun i => (wX6 cy a v)[i]?)) = (wX3 cy (sh a 9) (X0_tunnels (X6_lawn v))).map some := rfl
                have hPc := xsubP hP hC
                have hDc := xsubD hD (by decide) hC
                have hFc := va_free (wc := (wX3 cy (sh a 9) (X0_tunnels (X6_lawn v)))) hD hS hAe0 [9, 10, 11] hC
                refine va_calli (va_runV (As := [.int y14_6, .int 2]) (rest := []) ⟨hx, hb, hml, hown, hts⟩ (c_X3_number l dC dI cy (sh a 9) _ (X0_tunnels (X6_lawn v)) y14_6 2 _ hq) (cwV 2 hts gX6_hashTunnels_X3_number rfl rfl rfl (by decide +kernel) ⟨Nat.le_of_ble_eq_true rfl, Nat.le_of_ble_eq_true rfl⟩) ⟨xPre_blind, va_recv hK hP (ci := 3) (q0 := 9) rfl rfl, xPre_of hPc hK hDc⟩ rfl rfl hl.1 rfl (lv_room (Nat.le_of_ble_eq_true rfl)) dX6_hashTunnels_61 ⟨Nat.le_of_ble_eq_true rfl, Nat.le_of_ble_eq_true rfl⟩) hS (fun q _ h => hFc q h) hFc (fun r61 u9 t H locs ht hvm hq hB hz1 hk1 hS => ?_)
                obtain ⟨hP1, -, hD1⟩ := hB
                rw [ht] at hP1
                have hP : va_P (dC, dI) vwCl (wX6 cy a v) H := xj_keep hP hD [9, 10, 11] hC hP1 hk1
                refine lv_istore (lv' := [(7, .int r61), (3, .long y27_3), (5, .ref (a 9)), (6, .int y14_6)]) hx hb dX6_hashTunnels_64 hl (by decide) rfl (fun ls hl => ?_)
                refine lv_iconst (v := 0) hx hb dX6_hashTunnels_66 (by decide) ?_
                refine lv_istore (lv' := [(8, .int 0), (7, .int r61), (3, .long y27_3), (5, .ref (a 9)), (6, .int y14_6)]) hx hb dX6_hashTunnels_67 hl (by decide) rfl (fun ls hl => ?_)
                exact J69 r61 y27_3 0 _ _ _ hq hP hD hS (lv_sub hl [2, 3, 4, 1, 0] rfl)
              · have hq := hqB c2
                refine lv_ldc2 (v := 31) hx hb hown lk0 dX6_hashTunnels_33 ?_
                refine lv_lload_n hx hb dX6_hashTunnels_36 rfl (lv_at hl 0 rfl) ?_
                refine lv_lmul hx hb dX6_hashTunnels_37 ?_
                refine lv_aload hx hb dX6_hashTunnels_38 (lv_at hl 1 rfl) ?_
                refine lv_iload hx hb dX6_hashTunnels_40 (lv_at hl 2 rfl) ?_
                refine lv_iload hx hb dX6_hashTunnels_42 (lv_at hl 3 rfl) ?_
                have hC : (([9, 10, 11] : List Nat).map (fun i => (wX6 cy a v)[i]?)) = (wX3 cy (sh a 9) (X0_tunnels (X6_lawn v))).map some := rfl
                have hPc := xsubP hP hC
                have hDc := xsubD hD (by decide) hC
                have hFc := va_free (wc := (wX3 cy (sh a 9) (X0_tunnels (X6_lawn v)))) hD hS hAe0 [9, 10, 11] hC
                refine va_calli (va_runV (As := [.int y14_6, .int y27_7]) (rest := [.long (31 * y27_3)]) ⟨hx, hb, hml, hown, hts⟩ (c_X3_number l dC dI cy (sh a 9) _ (X0_tunnels (X6_lawn v)) y14_6 y27_7 _ hq) (cwV 2 hts gX6_hashTunnels_X3_number rfl rfl rfl (by decide +kernel) ⟨Nat.le_of_ble_eq_true rfl, Nat.le_of_ble_eq_true rfl⟩) ⟨xPre_blind, va_recv hK hP (ci := 3) (q0 := 9) rfl rfl, xPre_of hPc hK hDc⟩ rfl rfl hl.1 rfl (lv_room (Nat.le_of_ble_eq_true rfl)) dX6_hashTunnels_44 ⟨Nat.le_of_ble_eq_true rfl, Nat.le_of_ble_eq_true rfl⟩) hS (fun q _ h => hFc q h) hFc (fun r44 u9 t H locs ht hvm hq hB hz1 hk1 hS => ?_)
                obtain ⟨hP1, -, hD1⟩ := hB
                rw [ht] at hP1
                have hP : va_P (dC, dI) vwCl (wX6 cy a v) H := xj_keep hP hD [9, 10, 11] hC hP1 hk1
                refine lv_i2l hx hb dX6_hashTunnels_47 rfl ?_
                refine lv_ladd hx hb dX6_hashTunnels_48 ?_
                refine lv_lstore_n (lv' := [(3, .long ((31 * y27_3) + (r44.toInt64))), (5, .ref (a 9)), (6, .int y14_6), (7, .int y27_7)]) hx hb dX6_hashTunnels_49 rfl hl (by decide) rfl (fun ls hl => ?_)
                refine lv_iinc (v := (y27_7 + 1)) (lv' := [(7, .int (y27_7 + 1)), (3, .long ((31 * y27_3) + (r44.toInt64))), (5, .ref (a 9)), (6, .int y14_6)]) hx hb dX6_hashTunnels_50 hl (k := 3) rfl rfl (by decide) rfl (fun ls hl => ?_)
                refine lv_goto (tgt := 27) hx hb dX6_hashTunnels_53 (by decide) ?_
                exact bk27 ((31 * y27_3) + (r44.toInt64)) (y27_7 + 1) _ _ _ hq hP hD hS (lv_sub hl [1, 2, 3, 0] rfl)
          exact key _ y27_3 y27_7 H locs ls h0 (Nat.lt_succ_self _) hP hD hS hl
        refine lv_iload hx hb dX6_hashTunnels_14 (lv_at hl 2 rfl) ?_
        refine lv_aload hx hb dX6_hashTunnels_16 (lv_at hl 1 rfl) ?_
        refine va_get (D := (dC, dI)) (ci := 3) (v := .int (X3_size (X0_tunnels (X6_lawn v)))) (C := RX3) (T := TX3) (N := 4) hx hb hts iK3 hown hK hP 9 rfl rfl 3 (by decide) lk1 (fun _ h9 => h9) rfl dX6_hashTunnels_18 ?_
        obtain ⟨hqA, hqB⟩ := hq
        refine lv_icmp_ge (tgt := 105) hx hb dX6_hashTunnels_21 (by decide) (fun c3 => ?_) (fun c3 => ?_)
        · have hq := hqA c3
          refine lv_lload_n hx hb dX6_hashTunnels_105 rfl (lv_at hl 0 rfl) ?_
          exact W.lret (v := y14_3) hx hb hr (fun t ht hW => ⟨⟨y14_3, (), rfl, hq, (xAt_of hP hK hD ht hW)⟩, hS.F ht⟩) hS.2.2 dX6_hashTunnels_106
        · have hq := hqB c3
          refine lv_iconst (v := 0) hx hb dX6_hashTunnels_24 (by decide) ?_
          refine lv_istore (lv' := [(7, .int 0), (3, .long y14_3), (5, .ref (a 9)), (6, .int y14_6)]) hx hb dX6_hashTunnels_25 hl (by decide) rfl (fun ls hl => ?_)
          exact J27  y14_3 0 _ _ _ hq hP hD hS (lv_sub hl [1, 2, 3, 0] rfl)
    exact key _ y14_3 y14_6 H locs ls h0 (Nat.lt_succ_self _) hP hD hS hl
  refine lv_lload_n hx hb dX6_hashTunnels_0 rfl (lv_at hl 1 rfl) ?_
  refine lv_lstore_n (lv' := [(3, .long x1), (0, .ref (a 0)), (1, .long x1)]) hx hb dX6_hashTunnels_1 rfl hl (by decide) rfl (fun ls hl => ?_)
  refine lv_aload_n hx hb dX6_hashTunnels_2 rfl (lv_at hl 1 rfl) ?_
  refine va_get (D := (dC, dI)) (ci := 6) (v := .ref (a 4)) (C := RX6) (T := TX6) (N := 9) hx hb hts iK6 hown hK hP 0 rfl rfl 0 (by decide) lk2 (fun _ h9 => h9) rfl dX6_hashTunnels_3 ?_
  refine va_get (D := (dC, dI)) (ci := 0) (v := .ref (a 9)) (C := RX0) (T := TX0) (N := 14) hx hb hts iK0 hown hK hP 4 rfl rfl 4 (by decide) lk3 (fun _ h9 => h9) rfl dX6_hashTunnels_6 ?_
  refine lv_astore (lv' := [(5, .ref (a 9)), (3, .long x1), (0, .ref (a 0)), (1, .long x1)]) hx hb dX6_hashTunnels_9 hl (by decide) rfl (fun ls hl => ?_)
  refine lv_iconst (v := 0) hx hb dX6_hashTunnels_11 (by decide) ?_
  refine lv_istore (lv' := [(6, .int 0), (5, .ref (a 9)), (3, .long x1), (0, .ref (a 0)), (1, .long x1)]) hx hb dX6_hashTunnels_12 hl (by decide) rfl (fun ls hl => ?_)
  exact J14  x1 0 _ _ _ hq hP hD hS (lv_sub hl [2, 1, 0] rfl)
