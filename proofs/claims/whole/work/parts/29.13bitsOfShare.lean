def wp_X6_bitsOfShare_28 (x0 : Int32) (y28_1 : Int32) (Q : Int64 → Prop) : Prop :=
  Q (((((1023 + y28_1) - 6).toInt64) <<< ((52 : Int32).toInt64 &&& 63)) ||| (((x0.toInt64) - ((1 : Int64) <<< (y28_1.toInt64 &&& 63))) <<< ((52 - y28_1).toInt64 &&& 63)))
def wb_X6_bitsOfShare_8 (x0 : Int32)  (y8_1 : Int32) (B8 : Int32 → Prop) (Q : Int64 → Prop) : Prop :=
  ((30 ≤ y8_1 → wp_X6_bitsOfShare_28 x0 y8_1  Q) ∧
  (¬ 30 ≤ y8_1 → (((x0 >>> ((y8_1 + 1) &&& 31)) = 0 → wp_X6_bitsOfShare_28 x0 y8_1  Q) ∧
  (¬ (x0 >>> ((y8_1 + 1) &&& 31)) = 0 → B8 (y8_1 + 1)))))
def wp_X6_bitsOfShare_8 (x0 : Int32)  (y8_1 : Int32) (Q : Int64 → Prop) : Prop :=
  ∃ (I : Int32 → Prop) (μ : Int32 → Nat), I y8_1 ∧ ∀ (s0 : Int32), I s0 → wb_X6_bitsOfShare_8 x0  s0 (fun t0 => I t0 ∧ μ t0 < μ s0) Q
def wp_X6_bitsOfShare (x0 : Int32) (Q : Int64 → Prop) : Prop :=
  ((0 < x0 → wp_X6_bitsOfShare_8 x0  0 Q) ∧
  (¬ 0 < x0 → Q 0))
def q_X6_bitsOfShare (dC : Nat → ClassId) (dI : Nat → Nat → Nat) (cy : Nat → ClassId)  (x0 : Int32) (Q : Int64 → Prop) (A : Nat → Prop) : Array Value → State → Outcome → State → Prop := va_Ql (fun (r : Int64) (u : Unit) => Q r ) (fun (u : Unit) t => xAt dC dI cy A ([] : va_W) t) A
set_option maxHeartbeats 4000000 in
set_option maxRecDepth 100000 in
theorem c_X6_bitsOfShare (l : Launch) (dC : Nat → ClassId) (dI : Nat → Nat → Nat) (cy : Nat → ClassId)  (sz : Nat) (x0 : Int32) (Q : Int64 → Prop) (hq : wp_X6_bitsOfShare x0 Q) : Met l yX6_bitsOfShare wsX6_bitsOfShare ({ frames := 0, cells := 0, slots := 0, locals := 0 } : Room) (va_Pc [.int x0] (xPre dC dI cy ([] : va_W) sz)) (q_X6_bitsOfShare dC dI cy  x0 Q (va_A ([] : va_W) sz)) 0 0 (va_A ([] : va_W) sz) := by
  refine Met.ofW (cc := cX6_bitsOfShare) (maxL := 6) (ret := (some .long)) (by decide) rfl ?_
  intro p e s m args below meth c s₁ B hml hv
  obtain ⟨rfl, hsz, hP, hK, hD0⟩ := hv
  have hx := B.exec
  have hb := B.bytes
  have hr := B.returns
  have hts := atoms_spec (ws := wsX6_bitsOfShare) B.pre
  have hown : s.vm.findClass RX6 = some m.cls := findClass_of_methodNamed B.named
  have hlocks := B.notSynchronized
  subst hsz
  have hD := hD0.self (sz := s.heap.size)
  generalize hAe : va_A ([] : va_W) s.heap.size = A at hD ⊢
  have hAe0 : ∀ q : Nat, s.heap.size ≤ q → A q := fun q h => by rw [← hAe]; exact Or.inr h
  have hS : va_S A s.heap s.heap [] := va_S.rf
  have hl := lv_entry ([.int x0]) (n := 6) (Nat.le_of_ble_eq_true rfl)
  rw [lg_entry_eq]
  generalize (lg_sl ([.int x0]) ++ List.replicate (6 - (lg_sl ([.int x0])).length) Slot.unset).toArray = ls at hl ⊢
  have hl : lv_has ls 6 [(0, .int x0)] := hl
  unfold wp_X6_bitsOfShare at hq
  have J28 : ∀ (y28_1 : Int32) (H : Heap) (locs : List Loc) (ls : Array Slot), wp_X6_bitsOfShare_28 x0 y28_1 Q → va_P (dC, dI) vwCl ([]) H → va_D A ([]) → va_S A s.heap H locs → lv_has ls 6 [(0, .int x0), (1, .int y28_1)] → W p l e (headSpec wsX6_bitsOfShare ({ frames := 0, cells := 0, slots := 0, locals := 0 } : Room)).room s m ([.int x0] : List Value).toArray below meth c H locs 0 0 (MQ below (q_X6_bitsOfShare dC dI cy x0 Q A) ([.int x0] : List Value).toArray s 0 0 A) (F0 m 28 ls []) := by
    intro y28_1 H locs ls hq hP hD hS hl
    unfold wp_X6_bitsOfShare_28 at hq
    refine lv_iload_n hx hb dX6_bitsOfShare_28 rfl (lv_at hl 0 rfl) ?_
    refine lv_i2l hx hb dX6_bitsOfShare_29 rfl ?_
    refine lv_lconst (v := 1) hx hb dX6_bitsOfShare_30 (by decide) ?_
    refine lv_iload_n hx hb dX6_bitsOfShare_31 rfl (lv_at hl 1 rfl) ?_
    refine lv_lshl hx hb dX6_bitsOfShare_32 rfl ?_
    refine lv_lsub hx hb dX6_bitsOfShare_33 ?_
    refine lv_lstore_n (lv' := [(2, .long ((x0.toInt64) - ((1 : Int64) <<< (y28_1.toInt64 &&& 63)))), (0, .int x0), (1, .int y28_1)]) hx hb dX6_bitsOfShare_34 rfl hl (by decide) rfl (fun ls hl => ?_)
    refine lv_sipush (v := 1023) hx hb dX6_bitsOfShare_35 (by decide) ?_
    refine lv_iload_n hx hb dX6_bitsOfShare_38 rfl (lv_at hl 2 rfl) ?_
    refine lv_iadd hx hb dX6_bitsOfShare_39 ?_
    refine lv_bipush (v := 6) hx hb dX6_bitsOfShare_40 (by decide) ?_
    refine lv_isub hx hb dX6_bitsOfShare_42 ?_
    refine lv_i2l hx hb dX6_bitsOfShare_43 rfl ?_
    refine lv_lstore (lv' := [(4, .long (((1023 + y28_1) - 6).toInt64)), (2, .long ((x0.toInt64) - ((1 : Int64) <<< (y28_1.toInt64 &&& 63)))), (0, .int x0), (1, .int y28_1)]) hx hb dX6_bitsOfShare_44 hl (by decide) rfl (fun ls hl => ?_)
    refine lv_lload hx hb dX6_bitsOfShare_46 (lv_at hl 0 rfl) ?_
    refine lv_bipush (v := 52) hx hb dX6_bitsOfShare_48 (by decide) ?_
    refine lv_lshl hx hb dX6_bitsOfShare_50 rfl ?_
    refine lv_lload_n hx hb dX6_bitsOfShare_51 rfl (lv_at hl 1 rfl) ?_
    refine lv_bipush (v := 52) hx hb dX6_bitsOfShare_52 (by decide) ?_
    refine lv_iload_n hx hb dX6_bitsOfShare_54 rfl (lv_at hl 3 rfl) ?_
    refine lv_isub hx hb dX6_bitsOfShare_55 ?_
    refine lv_lshl hx hb dX6_bitsOfShare_56 rfl ?_
    refine lv_lor hx hb dX6_bitsOfShare_57 ?_
    exact W.lret (v := (((((1023 + y28_1) - 6).toInt64) <<< ((52 : Int32).toInt64 &&& 63)) ||| (((x0.toInt64) - ((1 : Int64) <<< (y28_1.toInt64 &&& 63))) <<< ((52 - y28_1).toInt64 &&& 63)))) hx hb hr (fun t ht hW => ⟨⟨(((((1023 + y28_1) - 6).toInt64) <<< ((52 : Int32).toInt64 &&& 63)) ||| (((x0.toInt64) - ((1 : Int64) <<< (y28_1.toInt64 &&& 63))) <<< ((52 - y28_1).toInt64 &&& 63))), (), rfl, hq, (xAt_of hP hK hD ht hW)⟩, hS.F ht⟩) hS.2.2 dX6_bitsOfShare_58
  have J8 : ∀  (y8_1 : Int32) (H : Heap) (locs : List Loc) (ls : Array Slot), wp_X6_bitsOfShare_8 x0  y8_1 Q → va_P (dC, dI) vwCl ([]) H → va_D A ([]) → va_S A s.heap H locs → lv_has ls 6 [(0, .int x0), (1, .int y8_1)] → W p l e (headSpec wsX6_bitsOfShare ({ frames := 0, cells := 0, slots := 0, locals := 0 } : Room)).room s m ([.int x0] : List Value).toArray below meth c H locs 0 0 (MQ below (q_X6_bitsOfShare dC dI cy x0 Q A) ([.int x0] : List Value).toArray s 0 0 A) (F0 m 8 ls []) := by
    intro  y8_1 H locs ls hq hP hD hS hl
    obtain ⟨I8, μ8, h0, hs8⟩ := hq
    have key : ∀ (n : Nat) (y8_1 : Int32) (H : Heap) (locs : List Loc) (ls : Array Slot), I8 y8_1 → μ8 y8_1 < n → va_P (dC, dI) vwCl ([]) H → va_D A ([]) → va_S A s.heap H locs → lv_has ls 6 [(0, .int x0), (1, .int y8_1)] → W p l e (headSpec wsX6_bitsOfShare ({ frames := 0, cells := 0, slots := 0, locals := 0 } : Room)).room s m ([.int x0] : List Value).toArray below meth c H locs 0 0 (MQ below (q_X6_bitsOfShare dC dI cy x0 Q A) ([.int x0] : List Value).toArray s 0 0 A) (F0 m 8 ls []) := by
      intro n
      induction n with
      | zero => intro y8_1 H locs ls _ hm; exact absurd hm (Nat.not_lt_zero _)
      | succ n ih =>
        intro y8_1 H locs ls hI hm hP hD hS hl
        have hq := hs8 y8_1 hI
        generalize hB8 : (fun (t0 : Int32) => I8 t0 ∧ μ8 t0 < μ8 y8_1) = B8 at hq
        have bk8 : ∀ (y8_1 : Int32) (H : Heap) (locs : List Loc) (ls : Array Slot), B8 y8_1 → va_P (dC, dI) vwCl ([]) H → va_D A ([]) → va_S A s.heap H locs → lv_has ls 6 [(0, .int x0), (1, .int y8_1)] → W p l e (headSpec wsX6_bitsOfShare ({ frames := 0, cells := 0, slots := 0, locals := 0 } : Room)).room s m ([.int x0] : List Value).toArray below meth c H locs 0 0 (MQ below (q_X6_bitsOfShare dC dI cy x0 Q A) ([.int x0] : List Value).toArray s 0 0 A) (F0 m 8 ls []) := by
          intro y8_1 H locs ls h
          rw [← hB8] at h
          exact ih y8_1 H locs ls h.1 (Nat.lt_of_lt_of_le h.2 (Nat.le_of_lt_succ hm))
        unfold wb_X6_bitsOfShare_8 at hq
        refine lv_iload_n hx hb dX6_bitsOfShare_8 rfl (lv_at hl 1 rfl) ?_
        refine lv_bipush (v := 30) hx hb dX6_bitsOfShare_9 (by decide) ?_
        obtain ⟨hqA, hqB⟩ := hq
        refine lv_icmp_ge (tgt := 28) hx hb dX6_bitsOfShare_11 (by decide) (fun c2 => ?_) (fun c2 => ?_)
        · have hq := hqA c2
          exact J28 y8_1  _ _ _ hq hP hD hS (lv_sub hl [0, 1] rfl)
        · have hq := hqB c2
          refine lv_iload_n hx hb dX6_bitsOfShare_14 rfl (lv_at hl 0 rfl) ?_
          refine lv_iload_n hx hb dX6_bitsOfShare_15 rfl (lv_at hl 1 rfl) ?_
          refine lv_iconst (v := 1) hx hb dX6_bitsOfShare_16 (by decide) ?_
          refine lv_iadd hx hb dX6_bitsOfShare_17 ?_
          refine lv_ishr hx hb dX6_bitsOfShare_18 ?_
          obtain ⟨hqA, hqB⟩ := hq
          refine lv_if_eq (tgt := 28) hx hb dX6_bitsOfShare_19 (by decide) (fun c1 => ?_) (fun c1 => ?_)
          · have hq := hqA c1
            exact J28 y8_1  _ _ _ hq hP hD hS (lv_sub hl [0, 1] rfl)
          · have hq := hqB c1
            refine lv_iinc (v := (y8_1 + 1)) (lv' := [(1, .int (y8_1 + 1)), (0, .int x0)]) hx hb dX6_bitsOfShare_22 hl (k := 1) rfl rfl (by decide) rfl (fun ls hl => ?_)
            refine lv_goto (tgt := 8) hx hb dX6_bitsOfShare_25 (by decide) ?_
            exact bk8 (y8_1 + 1) _ _ _ hq hP hD hS (lv_sub hl [1, 0] rfl)
    exact key _ y8_1 H locs ls h0 (Nat.lt_succ_self _) hP hD hS hl
  refine lv_iload_n hx hb dX6_bitsOfShare_0 rfl (lv_at hl 0 rfl) ?_
  obtain ⟨hqA, hqB⟩ := hq
  refine lv_if_gt (tgt := 6) hx hb dX6_bitsOfShare_1 (by decide) (fun c3 => ?_) (fun c3 => ?_)
  · have hq := hqA c3
    refine lv_iconst (v := 0) hx hb dX6_bitsOfShare_6 (by decide) ?_
    refine lv_istore_n (lv' := [(1, .int 0), (0, .int x0)]) hx hb dX6_bitsOfShare_7 rfl hl (by decide) rfl (fun ls hl => ?_)
    exact J8  0 _ _ _ hq hP hD hS (lv_sub hl [1, 0] rfl)
  · have hq := hqB c3
    refine lv_lconst (v := 0) hx hb dX6_bitsOfShare_4 (by decide) ?_
    exact W.lret (v := 0) hx hb hr (fun t ht hW => ⟨⟨0, (), rfl, hq, (xAt_of hP hK hD ht hW)⟩, hS.F ht⟩) hS.2.2 dX6_bitsOfShare_5
