def wb_X6_hashTufts_15 (v : V_X6) (x1 : Int64) (y5_3 : Int64) (y5_5 : Int32) (B5 : Int64 → Int32 → Prop)  (y15_3 : Int64) (y15_6 : Int32) (B15 : Int64 → Int32 → Prop) (Q : Int64 → Prop) : Prop :=
  ((8 < y15_6 → B5 y15_3 (y5_5 + 1)) ∧
  (¬ 8 < y15_6 → wp_X6_numberOfTuft v y5_5 y15_6 (fun r32 =>
  B15 ((31 * y15_3) + (r32.toInt64)) (y15_6 + 1))))
def wp_X6_hashTufts_15 (v : V_X6) (x1 : Int64) (y5_3 : Int64) (y5_5 : Int32) (B5 : Int64 → Int32 → Prop)  (y15_3 : Int64) (y15_6 : Int32) (Q : Int64 → Prop) : Prop :=
  ∃ (I : Int64 → Int32 → Prop) (μ : Int64 → Int32 → Nat), I y15_3 y15_6 ∧ ∀ (s0 : Int64) (s1 : Int32), I s0 s1 → wb_X6_hashTufts_15 v x1 y5_3 y5_5 B5  s0 s1 (fun t0 t1 => I t0 t1 ∧ μ t0 t1 < μ s0 s1) Q
def wb_X6_hashTufts_5 (v : V_X6) (x1 : Int64)  (y5_3 : Int64) (y5_5 : Int32) (B5 : Int64 → Int32 → Prop) (Q : Int64 → Prop) : Prop :=
  ((64 ≤ y5_5 → Q y5_3) ∧
  (¬ 64 ≤ y5_5 → wp_X6_hashTufts_15 v x1 y5_3 y5_5 B5  y5_3 0 Q))
def wp_X6_hashTufts_5 (v : V_X6) (x1 : Int64)  (y5_3 : Int64) (y5_5 : Int32) (Q : Int64 → Prop) : Prop :=
  ∃ (I : Int64 → Int32 → Prop) (μ : Int64 → Int32 → Nat), I y5_3 y5_5 ∧ ∀ (s0 : Int64) (s1 : Int32), I s0 s1 → wb_X6_hashTufts_5 v x1  s0 s1 (fun t0 t1 => I t0 t1 ∧ μ t0 t1 < μ s0 s1) Q
def wp_X6_hashTufts (v : V_X6) (x1 : Int64) (Q : Int64 → Prop) : Prop :=
  wp_X6_hashTufts_5 v x1  x1 0 Q
def q_X6_hashTufts (dC : Nat → ClassId) (dI : Nat → Nat → Nat) (cy : Nat → ClassId) (a : Nat → Nat) (v : V_X6) (x1 : Int64) (Q : Int64 → Prop) (A : Nat → Prop) : Array Value → State → Outcome → State → Prop := va_Ql (fun (r : Int64) (u : Unit) => Q r ) (fun (u : Unit) t => xAt dC dI cy A (wX6 cy a v) t) A
set_option maxHeartbeats 4000000 in
set_option maxRecDepth 100000 in
theorem c_X6_hashTufts (l : Launch) (dC : Nat → ClassId) (dI : Nat → Nat → Nat) (cy : Nat → ClassId) (a : Nat → Nat) (sz : Nat) (v : V_X6) (x1 : Int64) (Q : Int64 → Prop) (hq : wp_X6_hashTufts v x1 Q) : Met l yX6_hashTufts wsX6_hashTufts ({ frames := 4, cells := 0, slots := 0, locals := 90 } : Room) (va_Pc [.ref (a 0), .long x1] (xPreE dC dI cy (wX6 cy a v) sz)) (q_X6_hashTufts dC dI cy a v x1 Q (va_A (wX6 cy a v) sz)) 0 0 (va_A (wX6 cy a v) sz) := by
  refine Met.ofW (cc := cX6_hashTufts) (maxL := 7) (ret := (some .long)) (by decide) rfl ?_
  intro p e s m args below meth c s₁ B hml hv
  obtain ⟨rfl, hsz, hP, hK, hD0, hE⟩ := hv
  have hx := B.exec
  have hb := B.bytes
  have hr := B.returns
  have hts := atoms_spec (ws := wsX6_hashTufts) B.pre
  have hown : s.vm.findClass RX6 = some m.cls := findClass_of_methodNamed B.named
  have hlocks := B.notSynchronized
  subst hsz
  have hD := hD0.self (sz := s.heap.size)
  generalize hAe : va_A (wX6 cy a v) s.heap.size = A at hD hE ⊢
  have hAe0 : ∀ q : Nat, s.heap.size ≤ q → A q := fun q h => by rw [← hAe]; exact Or.inr h
  have hS : va_S A s.heap s.heap [] := va_S.rf
  have hl := lv_entry ([.ref (a 0), .long x1]) (n := 7) (Nat.le_of_ble_eq_true rfl)
  rw [lg_entry_eq]
  generalize (lg_sl ([.ref (a 0), .long x1]) ++ List.replicate (7 - (lg_sl ([.ref (a 0), .long x1])).length) Slot.unset).toArray = ls at hl ⊢
  have hl : lv_has ls 7 [(0, .ref (a 0)), (1, .long x1)] := hl
  have lk0 := hts (Cond.constantLong RX6 252 (31)) (List.mem_cons_of_mem _ (List.mem_append_left _ (List.mem_append_left _ (List.mem_append_left _ (List.mem_append_left _ (List.mem_append_left _ (List.mem_of_getElem? (i := 0) rfl)))))))
  unfold wp_X6_hashTufts at hq
  have J5 : ∀  (y5_3 : Int64) (y5_5 : Int32) (H : Heap) (locs : List Loc) (ls : Array Slot), wp_X6_hashTufts_5 v x1  y5_3 y5_5 Q → va_P (dC, dI) vwCl (wX6 cy a v) H → va_D A (wX6 cy a v) → va_S A s.heap H locs → lv_has ls 7 [(0, .ref (a 0)), (3, .long y5_3), (5, .int y5_5)] → W p l e (headSpec wsX6_hashTufts ({ frames := 4, cells := 0, slots := 0, locals := 90 } : Room)).room s m ([.ref (a 0), .long x1] : List Value).toArray below meth c H locs 0 0 (MQ below (q_X6_hashTufts dC dI cy a v x1 Q A) ([.ref (a 0), .long x1] : List Value).toArray s 0 0 A) (F0 m 5 ls []) := by
    intro  y5_3 y5_5 H locs ls hq hP hD hS hl
    obtain ⟨I5, μ5, h0, hs5⟩ := hq
    have key : ∀ (n : Nat) (y5_3 : Int64) (y5_5 : Int32) (H : Heap) (locs : List Loc) (ls : Array Slot), I5 y5_3 y5_5 → μ5 y5_3 y5_5 < n → va_P (dC, dI) vwCl (wX6 cy a v) H → va_D A (wX6 cy a v) → va_S A s.heap H locs → lv_has ls 7 [(0, .ref (a 0)), (3, .long y5_3), (5, .int y5_5)] → W p l e (headSpec wsX6_hashTufts ({ frames := 4, cells := 0, slots := 0, locals := 90 } : Room)).room s m ([.ref (a 0), .long x1] : List Value).toArray below meth c H locs 0 0 (MQ below (q_X6_hashTufts dC dI cy a v x1 Q A) ([.ref (a 0), .long x1] : List Value).toArray s 0 0 A) (F0 m 5 ls []) := by
      intro n
      induction n with
      | zero => intro y5_3 y5_5 H locs ls _ hm; exact absurd hm (Nat.not_lt_zero _)
      | succ n ih =>
        intro y5_3 y5_5 H locs ls hI hm hP hD hS hl
        have hq := hs5 y5_3 y5_5 hI
        generalize hB5 : (fun (t0 : Int64) (t1 : Int32) => I5 t0 t1 ∧ μ5 t0 t1 < μ5 y5_3 y5_5) = B5 at hq
        have bk5 : ∀ (y5_3 : Int64) (y5_5 : Int32) (H : Heap) (locs : List Loc) (ls : Array Slot), B5 y5_3 y5_5 → va_P (dC, dI) vwCl (wX6 cy a v) H → va_D A (wX6 cy a v) → va_S A s.heap H locs → lv_has ls 7 [(0, .ref (a 0)), (3, .long y5_3), (5, .int y5_5)] → W p l e (headSpec wsX6_hashTufts ({ frames := 4, cells := 0, slots := 0, locals := 90 } : Room)).room s m ([.ref (a 0), .long x1] : List Value).toArray below meth c H locs 0 0 (MQ below (q_X6_hashTufts dC dI cy a v x1 Q A) ([.ref (a 0), .long x1] : List Value).toArray s 0 0 A) (F0 m 5 ls []) := by
          intro y5_3 y5_5 H locs ls h
          rw [← hB5] at h
          exact ih y5_3 y5_5 H locs ls h.1 (Nat.lt_of_lt_of_le h.2 (Nat.le_of_lt_succ hm))
        unfold wb_X6_hashTufts_5 at hq
        have J15 : ∀  (y15_3 : Int64) (y15_6 : Int32) (H : Heap) (locs : List Loc) (ls : Array Slot), wp_X6_hashTufts_15 v x1 y5_3 y5_5 B5  y15_3 y15_6 Q → va_P (dC, dI) vwCl (wX6 cy a v) H → va_D A (wX6 cy a v) → va_S A s.heap H locs → lv_has ls 7 [(0, .ref (a 0)), (3, .long y15_3), (5, .int y5_5), (6, .int y15_6)] → W p l e (headSpec wsX6_hashTufts ({ frames := 4, cells := 0, slots := 0, locals := 90 } : Room)).room s m ([.ref (a 0), .long x1] : List Value).toArray below meth c H locs 0 0 (MQ below (q_X6_hashTufts dC dI cy a v x1 Q A) ([.ref (a 0), .long x1] : List Value).toArray s 0 0 A) (F0 m 15 ls []) := by
          intro  y15_3 y15_6 H locs ls hq hP hD hS hl
          obtain ⟨I15, μ15, h0, hs15⟩ := hq
          have key : ∀ (n : Nat) (y15_3 : Int64) (y15_6 : Int32) (H : Heap) (locs : List Loc) (ls : Array Slot), I15 y15_3 y15_6 → μ15 y15_3 y15_6 < n → va_P (dC, dI) vwCl (wX6 cy a v) H → va_D A (wX6 cy a v) → va_S A s.heap H locs → lv_has ls 7 [(0, .ref (a 0)), (3, .long y15_3), (5, .int y5_5), (6, .int y15_6)] → W p l e (headSpec wsX6_hashTufts ({ frames := 4, cells := 0, slots := 0, locals := 90 } : Room)).room s m ([.ref (a 0), .long x1] : List Value).toArray below meth c H locs 0 0 (MQ below (q_X6_hashTufts dC dI cy a v x1 Q A) ([.ref (a 0), .long x1] : List Value).toArray s 0 0 A) (F0 m 15 ls []) := by
            intro n
            induction n with
            | zero => intro y15_3 y15_6 H locs ls _ hm; exact absurd hm (Nat.not_lt_zero _)
            | succ n ih =>
              intro y15_3 y15_6 H locs ls hI hm hP hD hS hl
              have hq := hs15 y15_3 y15_6 hI
              generalize hB15 : (fun (t0 : Int64) (t1 : Int32) => I15 t0 t1 ∧ μ15 t0 t1 < μ15 y15_3 y15_6) = B15 at hq
              have bk15 : ∀ (y15_3 : Int64) (y15_6 : Int32) (H : Heap) (locs : List Loc) (ls : Array Slot), B15 y15_3 y15_6 → va_P (dC, dI) vwCl (wX6 cy a v) H → va_D A (wX6 cy a v) → va_S A s.heap H locs → lv_has ls 7 [(0, .ref (a 0)), (3, .long y15_3), (5, .int y5_5), (6, .int y15_6)] → W p l e (headSpec wsX6_hashTufts ({ frames := 4, cells := 0, slots := 0, locals := 90 } : Room)).room s m ([.ref (a 0), .long x1] : List Value).toArray below meth c H locs 0 0 (MQ below (q_X6_hashTufts dC dI cy a v x1 Q A) ([.ref (a 0), .long x1] : List Value).toArray s 0 0 A) (F0 m 15 ls []) := by
                intro y15_3 y15_6 H locs ls h
                rw [← hB15] at h
                exact ih y15_3 y15_6 H locs ls h.1 (Nat.lt_of_lt_of_le h.2 (Nat.le_of_lt_succ hm))
              unfold wb_X6_hashTufts_15 at hq
              refine lv_iload hx hb dX6_hashTufts_15 (lv_at hl 3 rfl) ?_
              refine lv_bipush (v := 8) hx hb dX6_hashTufts_17 (by decide) ?_
              obtain ⟨hqA, hqB⟩ := hq
              refine lv_icmp_gt (tgt := 44) hx hb dX6_hashTufts_19 (by decide) (fun c1 => ?_) (fun c1 => ?_)
              · have hq := hqA c1
                refine lv_iinc (v := (y5_5 + 1)) (lv' := [(5, .int (y5_5 + 1)), (0, .ref (a 0)), (3, .long y15_3), (6, .int y15_6)]) hx hb dX6_hashTufts_44 hl (k := 2) rfl rfl (by decide) rfl (fun ls hl => ?_)
                refine lv_goto (tgt := 5) hx hb dX6_hashTufts_47 (by decide) ?_
                exact bk5 y15_3 (y5_5 + 1) _ _ _ hq hP hD hS (lv_sub hl [1, 2, 0] rfl)
              · have hq := hqB c1
                refine lv_ldc2 (v := 31) hx hb hown lk0 dX6_hashTufts_22 ?_
                refine lv_lload_n hx hb dX6_hashTufts_25 rfl (lv_at hl 1 rfl) ?_
                refine lv_lmul hx hb dX6_hashTufts_26 ?_
                refine lv_aload_n hx hb dX6_hashTufts_27 rfl (lv_at hl 0 rfl) ?_
                refine lv_iload hx hb dX6_hashTufts_28 (lv_at hl 2 rfl) ?_
                refine lv_iload hx hb dX6_hashTufts_30 (lv_at hl 3 rfl) ?_
                have hFc := xfree_same hS hAe0 (ws := (wX6 cy a v)) hD
                refine va_calli (va_runV (As := [.int y5_5, .int y15_6]) (rest := [.long (31 * y15_3)]) ⟨hx, hb, hml, hown, hts⟩ (c_X6_numberOfTuft l dC dI cy a _ v y5_5 y15_6 _ hq) (cwV 2 hts gX6_hashTufts_X6_numberOfTuft rfl rfl rfl (by decide +kernel) ⟨Nat.le_of_ble_eq_true rfl, Nat.le_of_ble_eq_true rfl⟩) ⟨xPre_blindE, va_recv hK hP (ci := 6) (q0 := 0) rfl rfl, xPre_ofE hP hK hD hE hS hFc⟩ rfl rfl hl.1 rfl (lv_room (Nat.le_of_ble_eq_true rfl)) dX6_hashTufts_32 ⟨Nat.le_of_ble_eq_true rfl, Nat.le_of_ble_eq_true rfl⟩) hS (fun q _ h => hFc q h) hFc (fun r32 u9 t H locs ht hvm hq hB hz1 hk1 hS => ?_)
                obtain ⟨hP1, -, hD1⟩ := hB
                rw [ht] at hP1
                have hP : va_P (dC, dI) vwCl (wX6 cy a v) H := hP1
                have hD : va_D A (wX6 cy a v) := hD1.weaken (fun _ q _ h => hFc q.1 h)
                refine lv_i2l hx hb dX6_hashTufts_35 rfl ?_
                refine lv_ladd hx hb dX6_hashTufts_36 ?_
                refine lv_lstore_n (lv' := [(3, .long ((31 * y15_3) + (r32.toInt64))), (0, .ref (a 0)), (5, .int y5_5), (6, .int y15_6)]) hx hb dX6_hashTufts_37 rfl hl (by decide) rfl (fun ls hl => ?_)
                refine lv_iinc (v := (y15_6 + 1)) (lv' := [(6, .int (y15_6 + 1)), (3, .long ((31 * y15_3) + (r32.toInt64))), (0, .ref (a 0)), (5, .int y5_5)]) hx hb dX6_hashTufts_38 hl (k := 3) rfl rfl (by decide) rfl (fun ls hl => ?_)
                refine lv_goto (tgt := 15) hx hb dX6_hashTufts_41 (by decide) ?_
                exact bk15 ((31 * y15_3) + (r32.toInt64)) (y15_6 + 1) _ _ _ hq hP hD hS (lv_sub hl [2, 1, 3, 0] rfl)
          exact key _ y15_3 y15_6 H locs ls h0 (Nat.lt_succ_self _) hP hD hS hl
        refine lv_iload hx hb dX6_hashTufts_5 (lv_at hl 2 rfl) ?_
        refine lv_bipush (v := 64) hx hb dX6_hashTufts_7 (by decide) ?_
        obtain ⟨hqA, hqB⟩ := hq
        refine lv_icmp_ge (tgt := 50) hx hb dX6_hashTufts_9 (by decide) (fun c2 => ?_) (fun c2 => ?_)
        · have hq := hqA c2
          refine lv_lload_n hx hb dX6_hashTufts_50 rfl (lv_at hl 1 rfl) ?_
          exact W.lret (v := y5_3) hx hb hr (fun t ht hW => ⟨⟨y5_3, (), rfl, hq, (xAt_of hP hK hD ht hW)⟩, hS.F ht⟩) hS.2.2 dX6_hashTufts_51
        · have hq := hqB c2
          refine lv_iconst (v := 0) hx hb dX6_hashTufts_12 (by decide) ?_
          refine lv_istore (lv' := [(6, .int 0), (0, .ref (a 0)), (3, .long y5_3), (5, .int y5_5)]) hx hb dX6_hashTufts_13 hl (by decide) rfl (fun ls hl => ?_)
          exact J15  y5_3 0 _ _ _ hq hP hD hS (lv_sub hl [1, 2, 3, 0] rfl)
    exact key _ y5_3 y5_5 H locs ls h0 (Nat.lt_succ_self _) hP hD hS hl
  refine lv_lload_n hx hb dX6_hashTufts_0 rfl (lv_at hl 1 rfl) ?_
  refine lv_lstore_n (lv' := [(3, .long x1), (0, .ref (a 0)), (1, .long x1)]) hx hb dX6_hashTufts_1 rfl hl (by decide) rfl (fun ls hl => ?_)
  refine lv_iconst (v := 0) hx hb dX6_hashTufts_2 (by decide) ?_
  refine lv_istore (lv' := [(5, .int 0), (3, .long x1), (0, .ref (a 0)), (1, .long x1)]) hx hb dX6_hashTufts_3 hl (by decide) rfl (fun ls hl => ?_)
  exact J5  x1 0 _ _ _ hq hP hD hS (lv_sub hl [2, 1, 0] rfl)
