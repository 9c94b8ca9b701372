def wb_X0_moundCount_4 (v : V_X0)  (y4_1 : Int32) (y4_2 : Int32) (B4 : Int32 → Int32 → Prop) (Q : Int32 → Prop) : Prop :=
  ((64 ≤ y4_2 → Q y4_1) ∧
  (¬ 64 ≤ y4_2 → vp_in y4_2 64 ∧ ((((X0_mounds v) y4_2.toNatClampNeg) = 0 → B4 (y4_1 + 0) (y4_2 + 1)) ∧
  (¬ ((X0_mounds v) y4_2.toNatClampNeg) = 0 → B4 (y4_1 + 1) (y4_2 + 1)))))
def wp_X0_moundCount_4 (v : V_X0)  (y4_1 : Int32) (y4_2 : Int32) (Q : Int32 → Prop) : Prop :=
  ∃ (I : Int32 → Int32 → Prop) (μ : Int32 → Int32 → Nat), I y4_1 y4_2 ∧ ∀ (s0 : Int32) (s1 : Int32), I s0 s1 → wb_X0_moundCount_4 v  s0 s1 (fun t0 t1 => I t0 t1 ∧ μ t0 t1 < μ s0 s1) Q
def wp_X0_moundCount (v : V_X0) (Q : Int32 → Prop) : Prop :=
  wp_X0_moundCount_4 v  0 0 Q
def q_X0_moundCount (dC : Nat → ClassId) (dI : Nat → Nat → Nat) (cy : Nat → ClassId) (a b : Nat → Nat) (v : V_X0) (Q : Int32 → Prop) (A : Nat → Prop) : Array Value → State → Outcome → State → Prop := va_Qi (fun (r : Int32) (u : Unit) => Q r ) (fun (u : Unit) t => xAt dC dI cy A (wX0 cy a b v) t) A
set_option maxHeartbeats 4000000 in
set_option maxRecDepth 100000 in
theorem c_X0_moundCount (l : Launch) (dC : Nat → ClassId) (dI : Nat → Nat → Nat) (cy : Nat → ClassId) (a b : Nat → Nat) (sz : Nat) (v : V_X0) (Q : Int32 → Prop) (hq : wp_X0_moundCount v Q) : Met l yX0_moundCount wsX0_moundCount ({ frames := 0, cells := 0, slots := 0, locals := 0 } : Room) (va_Pc [.ref (a 0)] (xPre dC dI cy (wX0 cy a b v) sz)) (q_X0_moundCount dC dI cy a b v Q (va_A (wX0 cy a b v) sz)) 0 0 (va_A (wX0 cy a b v) sz) := by
  refine Met.ofW (cc := cX0_moundCount) (maxL := 3) (ret := (some .int)) (by decide) rfl ?_
  intro p e s m args below meth c s₁ B hml hv
  obtain ⟨rfl, hsz, hP, hK, hD0⟩ := hv
  have hx := B.exec
  have hb := B.bytes
  have hr := B.returns
  have hts := atoms_spec (ws := wsX0_moundCount) B.pre
  have hown : s.vm.findClass RX0 = some m.cls := findClass_of_methodNamed B.named
  have hlocks := B.notSynchronized
  subst hsz
  have hD := hD0.self (sz := s.heap.size)
  generalize hAe : va_A (wX0 cy a b v) s.heap.size = A at hD ⊢
  have hAe0 : ∀ q : Nat, s.heap.size ≤ q → A q := fun q h => by rw [← hAe]; exact Or.inr h
  have hS : va_S A s.heap s.heap [] := va_S.rf
  have hl := lv_entry ([.ref (a 0)]) (n := 3) (Nat.le_of_ble_eq_true rfl)
  rw [lg_entry_eq]
  generalize (lg_sl ([.ref (a 0)]) ++ List.replicate (3 - (lg_sl ([.ref (a 0)])).length) Slot.unset).toArray = ls at hl ⊢
  have hl : lv_has ls 3 [(0, .ref (a 0))] := hl
  have lk0 := hts (Cond.fieldLink RX0 9 "MolesLawn$Lawn" "mounds" "[Z") (List.mem_cons_of_mem _ (List.mem_append_left _ (List.mem_of_getElem? (i := 0) rfl)))
  have iK0 : ∀ w ∈ wsX00, w ∈ wsX0_moundCount := fun _ h => (List.mem_cons_of_mem _ (List.mem_append_right _ h))
  unfold wp_X0_moundCount at hq
  have J4 : ∀  (y4_1 : Int32) (y4_2 : Int32) (H : Heap) (locs : List Loc) (ls : Array Slot), wp_X0_moundCount_4 v  y4_1 y4_2 Q → va_P (dC, dI) vwCl (wX0 cy a b v) H → va_D A (wX0 cy a b v) → va_S A s.heap H locs → lv_has ls 3 [(0, .ref (a 0)), (1, .int y4_1), (2, .int y4_2)] → W p l e (headSpec wsX0_moundCount ({ frames := 0, cells := 0, slots := 0, locals := 0 } : Room)).room s m ([.ref (a 0)] : List Value).toArray below meth c H locs 0 0 (MQ below (q_X0_moundCount dC dI cy a b v Q A) ([.ref (a 0)] : List Value).toArray s 0 0 A) (F0 m 4 ls []) := by
    intro  y4_1 y4_2 H locs ls hq hP hD hS hl
    obtain ⟨I4, μ4, h0, hs4⟩ := hq
    have key : ∀ (n : Nat) (y4_1 : Int32) (y4_2 : Int32) (H : Heap) (locs : List Loc) (ls : Array Slot), I4 y4_1 y4_2 → μ4 y4_1 y4_2 < n → va_P (dC, dI) vwCl (wX0 cy a b v) H → va_D A (wX0 cy a b v) → va_S A s.heap H locs → lv_has ls 3 [(0, .ref (a 0)), (1, .int y4_1), (2, .int y4_2)] → W p l e (headSpec wsX0_moundCount ({ frames := 0, cells := 0, slots := 0, locals := 0 } : Room)).room s m ([.ref (a 0)] : List Value).toArray below meth c H locs 0 0 (MQ below (q_X0_moundCount dC dI cy a b v Q A) ([.ref (a 0)] : List Value).toArray s 0 0 A) (F0 m 4 ls []) := by
      intro n
      induction n with
      | zero => intro y4_1 y4_2 H locs ls _ hm; exact absurd hm (Nat.not_lt_zero _)
      | succ n ih =>
        intro y4_1 y4_2 H locs ls hI hm hP hD hS hl
        have hq := hs4 y4_1 y4_2 hI
        generalize hB4 : (fun (t0 : Int32) (t1 : Int32) => I4 t0 t1 ∧ μ4 t0 t1 < μ4 y4_1 y4_2) = B4 at hq
        have bk4 : ∀ (y4_1 : Int32) (y4_2 : Int32) (H : Heap) (locs : List Loc) (ls : Array Slot), B4 y4_1 y4_2 → va_P (dC, dI) vwCl (wX0 cy a b v) H → va_D A (wX0 cy a b v) → va_S A s.heap H locs → lv_has ls 3 [(0, .ref (a 0)), (1, .int y4_1), (2, .int y4_2)] → W p l e (headSpec wsX0_moundCount ({ frames := 0, cells := 0, slots := 0, locals := 0 } : Room)).room s m ([.ref (a 0)] : List Value).toArray below meth c H locs 0 0 (MQ below (q_X0_moundCount dC dI cy a b v Q A) ([.ref (a 0)] : List Value).toArray s 0 0 A) (F0 m 4 ls []) := by
          intro y4_1 y4_2 H locs ls h
          rw [← hB4] at h
          exact ih y4_1 y4_2 H locs ls h.1 (Nat.lt_of_lt_of_le h.2 (Nat.le_of_lt_succ hm))
        unfold wb_X0_moundCount_4 at hq
        refine lv_iload_n hx hb dX0_moundCount_4 rfl (lv_at hl 2 rfl) ?_
        refine lv_bipush (v := 64) hx hb dX0_moundCount_5 (by decide) ?_
        obtain ⟨hqA, hqB⟩ := hq
        refine lv_icmp_ge (tgt := 33) hx hb dX0_moundCount_7 (by decide) (fun c3 => ?_) (fun c3 => ?_)
        · have hq := hqA c3
          refine lv_iload_n hx hb dX0_moundCount_33 rfl (lv_at hl 1 rfl) ?_
          exact W.iret (v := y4_1) hx hb hr (fun t ht hW => ⟨⟨y4_1, (), rfl, hq, (xAt_of hP hK hD ht hW)⟩, hS.F ht⟩) hS.2.2 dX0_moundCount_34
        · have hq := hqB c3
          refine lv_iload_n hx hb dX0_moundCount_10 rfl (lv_at hl 1 rfl) ?_
          refine lv_aload_n hx hb dX0_moundCount_11 rfl (lv_at hl 0 rfl) ?_
          refine va_get (D := (dC, dI)) (ci := 0) (v := .ref (a 1)) (C := RX0) (T := TX0) (N := 14) hx hb hts iK0 hown hK hP 0 rfl rfl 0 (by decide) lk0 (fun _ h9 => h9) rfl dX0_moundCount_12 ?_
          refine lv_iload_n hx hb dX0_moundCount_15 rfl (lv_at hl 2 rfl) ?_
          obtain ⟨g1, hq⟩ := hq
          refine va_zald hx hb hK hP 1 1 rfl rfl g1 dX0_moundCount_16 ?_
          obtain ⟨hqA, hqB⟩ := hq
          refine lv_if_eq (tgt := 24) hx hb dX0_moundCount_17 (by decide) (fun c2 => ?_) (fun c2 => ?_)
          · have hq := hqA c2
            refine lv_iconst (v := 0) hx hb dX0_moundCount_24 (by decide) ?_
            refine lv_iadd hx hb dX0_moundCount_25 ?_
            refine lv_istore_n (lv' := [(1, .int (y4_1 + 0)), (0, .ref (a 0)), (2, .int y4_2)]) hx hb dX0_moundCount_26 rfl hl (by decide) rfl (fun ls hl => ?_)
            refine lv_iinc (v := (y4_2 + 1)) (lv' := [(2, .int (y4_2 + 1)), (1, .int (y4_1 + 0)), (0, .ref (a 0))]) hx hb dX0_moundCount_27 hl (k := 2) rfl rfl (by decide) rfl (fun ls hl => ?_)
            refine lv_goto (tgt := 4) hx hb dX0_moundCount_30 (by decide) ?_
            exact bk4 (y4_1 + 0) (y4_2 + 1) _ _ _ hq hP hD hS (lv_sub hl [2, 1, 0] rfl)
          · have hq := hqB c2
            refine lv_iconst (v := 1) hx hb dX0_moundCount_20 (by decide) ?_
            refine lv_goto (tgt := 25) hx hb dX0_moundCount_21 (by decide) ?_
            refine lv_iadd hx hb dX0_moundCount_25 ?_
            refine lv_istore_n (lv' := [(1, .int (y4_1 + 1)), (0, .ref (a 0)), (2, .int y4_2)]) hx hb dX0_moundCount_26 rfl hl (by decide) rfl (fun ls hl => ?_)
            refine lv_iinc (v := (y4_2 + 1)) (lv' := [(2, .int (y4_2 + 1)), (1, .int (y4_1 + 1)), (0, .ref (a 0))]) hx hb dX0_moundCount_27 hl (k := 2) rfl rfl (by decide) rfl (fun ls hl => ?_)
            refine lv_goto (tgt := 4) hx hb dX0_moundCount_30 (by decide) ?_
            exact bk4 (y4_1 + 1) (y4_2 + 1) _ _ _ hq hP hD hS (lv_sub hl [2, 1, 0] rfl)
    exact key _ y4_1 y4_2 H locs ls h0 (Nat.lt_succ_self _) hP hD hS hl
  refine lv_iconst (v := 0) hx hb dX0_moundCount_0 (by decide) ?_
  refine lv_istore_n (lv' := [(1, .int 0), (0, .ref (a 0))]) hx hb dX0_moundCount_1 rfl hl (by decide) rfl (fun ls hl => ?_)
  refine lv_iconst (v := 0) hx hb dX0_moundCount_2 (by decide) ?_
  refine lv_istore_n (lv' := [(2, .int 0), (1, .int 0), (0, .ref (a 0))]) hx hb dX0_moundCount_3 rfl hl (by decide) rfl (fun ls hl => ?_)
  exact J4  0 0 _ _ _ hq hP hD hS (lv_sub hl [2, 1, 0] rfl)
def wb_X0_openedCount_4 (v : V_X0)  (y4_1 : Int32) (y4_2 : Int32) (B4 : Int32 → Int32 → Prop) (Q : Int32 → Prop) : Prop :=
  ((64 ≤ y4_2 → Q y4_1) ∧
  (¬ 64 ≤ y4_2 → vp_in y4_2 64 ∧ ((((X0_opened v) y4_2.toNatClampNeg) = 0 → B4 (y4_1 + 0) (y4_2 + 1)) ∧
  (¬ ((X0_opened v) y4_2.toNatClampNeg) = 0 → B4 (y4_1 + 1) (y4_2 + 1)))))
def wp_X0_openedCount_4 (v : V_X0)  (y4_1 : Int32) (y4_2 : Int32) (Q : Int32 → Prop) : Prop :=
  ∃ (I : Int32 → Int32 → Prop) (μ : Int32 → Int32 → Nat), I y4_1 y4_2 ∧ ∀ (s0 : Int32) (s1 : Int32), I s0 s1 → wb_X0_openedCount_4 v  s0 s1 (fun t0 t1 => I t0 t1 ∧ μ t0 t1 < μ s0 s1) Q
def wp_X0_openedCount (v : V_X0) (Q : Int32 → Prop) : Prop :=
  wp_X0_openedCount_4 v  0 0 Q
def q_X0_openedCount (dC : Nat → ClassId) (dI : Nat → Nat → Nat) (cy : Nat → ClassId) (a b : Nat → Nat) (v : V_X0) (Q : Int32 → Prop) (A : Nat → Prop) : Array Value → State → Outcome → State → Prop := va_Qi (fun (r : Int32) (u : Unit) => Q r ) (fun (u : Unit) t => xAt dC dI cy A (wX0 cy a b v) t) A
set_option maxHeartbeats 4000000 in
set_option maxRecDepth 100000 in
theorem c_X0_openedCount (l : Launch) (dC : Nat → ClassId) (dI : Nat → Nat → Nat) (cy : Nat → ClassId) (a b : Nat → Nat) (sz : Nat) (v : V_X0) (Q : Int32 → Prop) (hq : wp_X0_openedCount v Q) : Met l yX0_openedCount wsX0_openedCount ({ frames := 0, cells := 0, slots := 0, locals := 0 } : Room) (va_Pc [.ref (a 0)] (xPre dC dI cy (wX0 cy a b v) sz)) (q_X0_openedCount dC dI cy a b v Q (va_A (wX0 cy a b v) sz)) 0 0 (va_A (wX0 cy a b v) sz) := by
  refine Met.ofW (cc := cX0_openedCount) (maxL := 3) (ret := (some .int)) (by decide) rfl ?_
  intro p e s m args below meth c s₁ B hml hv
  obtain ⟨rfl, hsz, hP, hK, hD0⟩ := hv
  have hx := B.exec
  have hb := B.bytes
  have hr := B.returns
  have hts := atoms_spec (ws := wsX0_openedCount) B.pre
  have hown : s.vm.findClass RX0 = some m.cls := findClass_of_methodNamed B.named
  have hlocks := B.notSynchronized
  subst hsz
  have hD := hD0.self (sz := s.heap.size)
  generalize hAe : va_A (wX0 cy a b v) s.heap.size = A at hD ⊢
  have hAe0 : ∀ q : Nat, s.heap.size ≤ q → A q := fun q h => by rw [← hAe]; exact Or.inr h
  have hS : va_S A s.heap s.heap [] := va_S.rf
  have hl := lv_entry ([.ref (a 0)]) (n := 3) (Nat.le_of_ble_eq_true rfl)
  rw [lg_entry_eq]
  generalize (lg_sl ([.ref (a 0)]) ++ List.replicate (3 - (lg_sl ([.ref (a 0)])).length) Slot.unset).toArray = ls at hl ⊢
  have hl : lv_has ls 3 [(0, .ref (a 0))] := hl
  have lk0 := hts (Cond.fieldLink RX0 15 "MolesLawn$Lawn" "opened" "[Z") (List.mem_cons_of_mem _ (List.mem_append_left _ (List.mem_of_getElem? (i := 0) rfl)))
  have iK0 : ∀ w ∈ wsX00, w ∈ wsX0_openedCount := fun _ h => (List.mem_cons_of_mem _ (List.mem_append_right _ h))
  unfold wp_X0_openedCount at hq
  have J4 : ∀  (y4_1 : Int32) (y4_2 : Int32) (H : Heap) (locs : List Loc) (ls : Array Slot), wp_X0_openedCount_4 v  y4_1 y4_2 Q → va_P (dC, dI) vwCl (wX0 cy a b v) H → va_D A (wX0 cy a b v) → va_S A s.heap H locs → lv_has ls 3 [(0, .ref (a 0)), (1, .int y4_1), (2, .int y4_2)] → W p l e (headSpec wsX0_openedCount ({ frames := 0, cells := 0, slots := 0, locals := 0 } : Room)).room s m ([.ref (a 0)] : List Value).toArray below meth c H locs 0 0 (MQ below (q_X0_openedCount dC dI cy a b v Q A) ([.ref (a 0)] : List Value).toArray s 0 0 A) (F0 m 4 ls []) := by
    intro  y4_1 y4_2 H locs ls hq hP hD hS hl
    obtain ⟨I4, μ4, h0, hs4⟩ := hq
    have key : ∀ (n : Nat) (y4_1 : Int32) (y4_2 : Int32) (H : Heap) (locs : List Loc) (ls : Array Slot), I4 y4_1 y4_2 → μ4 y4_1 y4_2 < n → va_P (dC, dI) vwCl (wX0 cy a b v) H → va_D A (wX0 cy a b v) → va_S A s.heap H locs → lv_has ls 3 [(0, .ref (a 0)), (1, .int y4_1), (2, .int y4_2)] → W p l e (headSpec wsX0_openedCount ({ frames := 0, cells := 0, slots := 0, locals := 0 } : Room)).room s m ([.ref (a 0)] : List Value).toArray below meth c H locs 0 0 (MQ below (q_X0_openedCount dC dI cy a b v Q A) ([.ref (a 0)] : List Value).toArray s 0 0 A) (F0 m 4 ls []) := by
      intro n
      induction n with
      | zero => intro y4_1 y4_2 H locs ls _ hm; exact absurd hm (Nat.not_lt_zero _)
      | succ n ih =>
        intro y4_1 y4_2 H locs ls hI hm hP hD hS hl
        have hq := hs4 y4_1 y4_2 hI
        generalize hB4 : (fun (t0 : Int32) (t1 : Int32) => I4 t0 t1 ∧ μ4 t0 t1 < μ4 y4_1 y4_2) = B4 at hq
        have bk4 : ∀ (y4_1 : Int32) (y4_2 : Int32) (H : Heap) (locs : List Loc) (ls : Array Slot), B4 y4_1 y4_2 → va_P (dC, dI) vwCl (wX0 cy a b v) H → va_D A (wX0 cy a b v) → va_S A s.heap H locs → lv_has ls 3 [(0, .ref (a 0)), (1, .int y4_1), (2, .int y4_2)] → W p l e (headSpec wsX0_openedCount ({ frames := 0, cells := 0, slots := 0, locals := 0 } : Room)).room s m ([.ref (a 0)] : List Value).toArray below meth c H locs 0 0 (MQ below (q_X0_openedCount dC dI cy a b v Q A) ([.ref (a 0)] : List Value).toArray s 0 0 A) (F0 m 4 ls []) := by
          intro y4_1 y4_2 H locs ls h
          rw [← hB4] at h
          exact ih y4_1 y4_2 H locs ls h.1 (Nat.lt_of_lt_of_le h.2 (Nat.le_of_lt_succ hm))
        unfold wb_X0_openedCount_4 at hq
        refine lv_iload_n hx hb dX0_openedCount_4 rfl (lv_at hl 2 rfl) ?_
        refine lv_bipush (v := 64) hx hb dX0_openedCount_5 (by decide) ?_
        obtain ⟨hqA, hqB⟩ := hq
        refine lv_icmp_ge (tgt := 33) hx hb dX0_openedCount_7 (by decide) (fun c3 => ?_) (fun c3 => ?_)
        · have hq := hqA c3
          refine lv_iload_n hx hb dX0_openedCount_33 rfl (lv_at hl 1 rfl) ?_
          exact W.iret (v := y4_1) hx hb hr (fun t ht hW => ⟨⟨y4_1, (), rfl, hq, (xAt_of hP hK hD ht hW)⟩, hS.F ht⟩) hS.2.2 dX0_openedCount_34
        · have hq := hqB c3
          refine lv_iload_n hx hb dX0_openedCount_10 rfl (lv_at hl 1 rfl) ?_
          refine lv_aload_n hx hb dX0_openedCount_11 rfl (lv_at hl 0 rfl) ?_
          refine va_get (D := (dC, dI)) (ci := 0) (v := .ref (a 2)) (C := RX0) (T := TX0) (N := 14) hx hb hts iK0 hown hK hP 0 rfl rfl 1 (by decide) lk0 (fun _ h9 => h9) rfl dX0_openedCount_12 ?_
          refine lv_iload_n hx hb dX0_openedCount_15 rfl (lv_at hl 2 rfl) ?_
          obtain ⟨g1, hq⟩ := hq
          refine va_zald hx hb hK hP 2 1 rfl rfl g1 dX0_openedCount_16 ?_
          obtain ⟨hqA, hqB⟩ := hq
          refine lv_if_eq (tgt := 24) hx hb dX0_openedCount_17 (by decide) (fun c2 => ?_) (fun c2 => ?_)
          · have hq := hqA c2
            refine lv_iconst (v := 0) hx hb dX0_openedCount_24 (by decide) ?_
            refine lv_iadd hx hb dX0_openedCount_25 ?_
            refine lv_istore_n (lv' := [(1, .int (y4_1 + 0)), (0, .ref (a 0)), (2, .int y4_2)]) hx hb dX0_openedCount_26 rfl hl (by decide) rfl (fun ls hl => ?_)
            refine lv_iinc (v := (y4_2 + 1)) (lv' := [(2, .int (y4_2 + 1)), (1, .int (y4_1 + 0)), (0, .ref (a 0))]) hx hb dX0_openedCount_27 hl (k := 2) rfl rfl (by decide) rfl (fun ls hl => ?_)
            refine lv_goto (tgt := 4) hx hb dX0_openedCount_30 (by decide) ?_
            exact bk4 (y4_1 + 0) (y4_2 + 1) _ _ _ hq hP hD hS (lv_sub hl [2, 1, 0] rfl)
          · have hq := hqB c2
            refine lv_iconst (v := 1) hx hb dX0_openedCount_20 (by decide) ?_
            refine lv_goto (tgt := 25) hx hb dX0_openedCount_21 (by decide) ?_
            refine lv_iadd hx hb dX0_openedCount_25 ?_
            refine lv_istore_n (lv' := [(1, .int (y4_1 + 1)), (0, .ref (a 0)), (2, .int y4_2)]) hx hb dX0_openedCount_26 rfl hl (by decide) rfl (fun ls hl => ?_)
            refine lv_iinc (v := (y4_2 + 1)) (lv' := [(2, .int (y4_2 + 1)), (1, .int (y4_1 + 1)), (0, .ref (a 0))]) hx hb dX0_openedCount_27 hl (k := 2) rfl rfl (by decide) rfl (fun ls hl => ?_)
            refine lv_goto (tgt := 4) hx hb dX0_openedCount_30 (by decide) ?_
            exact bk4 (y4_1 + 1) (y4_2 + 1) _ _ _ hq hP hD hS (lv_sub hl [2, 1, 0] rfl)
    exact key _ y4_1 y4_2 H locs ls h0 (Nat.lt_succ_self _) hP hD hS hl
  refine lv_iconst (v := 0) hx hb dX0_openedCount_0 (by decide) ?_
  refine lv_istore_n (lv' := [(1, .int 0), (0, .ref (a 0))]) hx hb dX0_openedCount_1 rfl hl (by decide) rfl (fun ls hl => ?_)
  refine lv_iconst (v := 0) hx hb dX0_openedCount_2 (by decide) ?_
  refine lv_istore_n (lv' := [(2, .int 0), (1, .int 0), (0, .ref (a 0))]) hx hb dX0_openedCount_3 rfl hl (by decide) rfl (fun ls hl => ?_)
  exact J4  0 0 _ _ _ hq hP hD hS (lv_sub hl [2, 1, 0] rfl)
def wb_X0_rootCount_4 (v : V_X0)  (y4_1 : Int32) (y4_2 : Int32) (B4 : Int32 → Int32 → Prop) (Q : Int32 → Prop) : Prop :=
  ((64 ≤ y4_2 → Q y4_1) ∧
  (¬ 64 ≤ y4_2 → vp_in y4_2 64 ∧ ((((X0_roots v) y4_2.toNatClampNeg) ≤ 0 → B4 (y4_1 + 0) (y4_2 + 1)) ∧
  (¬ ((X0_roots v) y4_2.toNatClampNeg) ≤ 0 → B4 (y4_1 + 1) (y4_2 + 1)))))
def wp_X0_rootCount_4 (v : V_X0)  (y4_1 : Int32) (y4_2 : Int32) (Q : Int32 → Prop) : Prop :=
  ∃ (I : Int32 → Int32 → Prop) (μ : Int32 → Int32 → Nat), I y4_1 y4_2 ∧ ∀ (s0 : Int32) (s1 : Int32), I s0 s1 → wb_X0_rootCount_4 v  s0 s1 (fun t0 t1 => I t0 t1 ∧ μ t0 t1 < μ s0 s1) Q
def wp_X0_rootCount (v : V_X0) (Q : Int32 → Prop) : Prop :=
  wp_X0_rootCount_4 v  0 0 Q
def q_X0_rootCount (dC : Nat → ClassId) (dI : Nat → Nat → Nat) (cy : Nat → ClassId) (a b : Nat → Nat) (v : V_X0) (Q : Int32 → Prop) (A : Nat → Prop) : Array Value → State → Outcome → State → Prop := va_Qi (fun (r : Int32) (u : Unit) => Q r ) (fun (u : Unit) t => xAt dC dI cy A (wX0 cy a b v) t) A
set_option maxHeartbeats 4000000 in
set_option maxRecDepth 100000 in
theorem c_X0_rootCount (l : Launch) (dC : Nat → ClassId) (dI : Nat → Nat → Nat) (cy : Nat → ClassId) (a b : Nat → Nat) (sz : Nat) (v : V_X0) (Q : Int32 → Prop) (hq : wp_X0_rootCount v Q) : Met l yX0_rootCount wsX0_rootCount ({ frames := 0, cells := 0, slots := 0, locals := 0 } : Room) (va_Pc [.ref (a 0)] (xPre dC dI cy (wX0 cy a b v) sz)) (q_X0_rootCount dC dI cy a b v Q (va_A (wX0 cy a b v) sz)) 0 0 (va_A (wX0 cy a b v) sz) := by
  refine Met.ofW (cc := cX0_rootCount) (maxL := 3) (ret := (some .int)) (by decide) rfl ?_
  intro p e s m args below meth c s₁ B hml hv
  obtain ⟨rfl, hsz, hP, hK, hD0⟩ := hv
  have hx := B.exec
  have hb := B.bytes
  have hr := B.returns
  have hts := atoms_spec (ws := wsX0_rootCount) B.pre
  have hown : s.vm.findClass RX0 = some m.cls := findClass_of_methodNamed B.named
  have hlocks := B.notSynchronized
  subst hsz
  have hD := hD0.self (sz := s.heap.size)
  generalize hAe : va_A (wX0 cy a b v) s.heap.size = A at hD ⊢
  have hAe0 : ∀ q : Nat, s.heap.size ≤ q → A q := fun q h => by rw [← hAe]; exact Or.inr h
  have hS : va_S A s.heap s.heap [] := va_S.rf
  have hl := lv_entry ([.ref (a 0)]) (n := 3) (Nat.le_of_ble_eq_true rfl)
  rw [lg_entry_eq]
  generalize (lg_sl ([.ref (a 0)]) ++ List.replicate (3 - (lg_sl ([.ref (a 0)])).length) Slot.unset).toArray = ls at hl ⊢
  have hl : lv_has ls 3 [(0, .ref (a 0))] := hl
  have lk0 := hts (Cond.fieldLink RX0 18 "MolesLawn$Lawn" "roots" "[I") (List.mem_cons_of_mem _ (List.mem_append_left _ (List.mem_of_getElem? (i := 0) rfl)))
  have iK0 : ∀ w ∈ wsX00, w ∈ wsX0_rootCount := fun _ h => (List.mem_cons_of_mem _ (List.mem_append_right _ h))
  unfold wp_X0_rootCount at hq
  have J4 : ∀  (y4_1 : Int32) (y4_2 : Int32) (H : Heap) (locs : List Loc) (ls : Array Slot), wp_X0_rootCount_4 v  y4_1 y4_2 Q → va_P (dC, dI) vwCl (wX0 cy a b v) H → va_D A (wX0 cy a b v) → va_S A s.heap H locs → lv_has ls 3 [(0, .ref (a 0)), (1, .int y4_1), (2, .int y4_2)] → W p l e (headSpec wsX0_rootCount ({ frames := 0, cells := 0, slots := 0, locals := 0 } : Room)).room s m ([.ref (a 0)] : List Value).toArray below meth c H locs 0 0 (MQ below (q_X0_rootCount dC dI cy a b v Q A) ([.ref (a 0)] : List Value).toArray s 0 0 A) (F0 m 4 ls []) := by
    intro  y4_1 y4_2 H locs ls hq hP hD hS hl
    obtain ⟨I4, μ4, h0, hs4⟩ := hq
    have key : ∀ (n : Nat) (y4_1 : Int32) (y4_2 : Int32) (H : Heap) (locs : List Loc) (ls : Array Slot), I4 y4_1 y4_2 → μ4 y4_1 y4_2 < n → va_P (dC, dI) vwCl (wX0 cy a b v) H → va_D A (wX0 cy a b v) → va_S A s.heap H locs → lv_has ls 3 [(0, .ref (a 0)), (1, .int y4_1), (2, .int y4_2)] → W p l e (headSpec wsX0_rootCount ({ frames := 0, cells := 0, slots := 0, locals := 0 } : Room)).room s m ([.ref (a 0)] : List Value).toArray below meth c H locs 0 0 (MQ below (q_X0_rootCount dC dI cy a b v Q A) ([.ref (a 0)] : List Value).toArray s 0 0 A) (F0 m 4 ls []) := by
      intro n
      induction n with
      | zero => intro y4_1 y4_2 H locs ls _ hm; exact absurd hm (Nat.not_lt_zero _)
      | succ n ih =>
        intro y4_1 y4_2 H locs ls hI hm hP hD hS hl
        have hq := hs4 y4_1 y4_2 hI
        generalize hB4 : (fun (t0 : Int32) (t1 : Int32) => I4 t0 t1 ∧ μ4 t0 t1 < μ4 y4_1 y4_2) = B4 at hq
        have bk4 : ∀ (y4_1 : Int32) (y4_2 : Int32) (H : Heap) (locs : List Loc) (ls : Array Slot), B4 y4_1 y4_2 → va_P (dC, dI) vwCl (wX0 cy a b v) H → va_D A (wX0 cy a b v) → va_S A s.heap H locs → lv_has ls 3 [(0, .ref (a 0)), (1, .int y4_1), (2, .int y4_2)] → W p l e (headSpec wsX0_rootCount ({ frames := 0, cells := 0, slots := 0, locals := 0 } : Room)).room s m ([.ref (a 0)] : List Value).toArray below meth c H locs 0 0 (MQ below (q_X0_rootCount dC dI cy a b v Q A) ([.ref (a 0)] : List Value).toArray s 0 0 A) (F0 m 4 ls []) := by
          intro y4_1 y4_2 H locs ls h
          rw [← hB4] at h
          exact ih y4_1 y4_2 H locs ls h.1 (Nat.lt_of_lt_of_le h.2 (Nat.le_of_lt_succ hm))
        unfold wb_X0_rootCount_4 at hq
        refine lv_iload_n hx hb dX0_rootCount_4 rfl (lv_at hl 2 rfl) ?_
        refine lv_bipush (v := 64) hx hb dX0_rootCount_5 (by decide) ?_
        obtain ⟨hqA, hqB⟩ := hq
        refine lv_icmp_ge (tgt := 33) hx hb dX0_rootCount_7 (by decide) (fun c3 => ?_) (fun c3 => ?_)
        · have hq := hqA c3
          refine lv_iload_n hx hb dX0_rootCount_33 rfl (lv_at hl 1 rfl) ?_
          exact W.iret (v := y4_1) hx hb hr (fun t ht hW => ⟨⟨y4_1, (), rfl, hq, (xAt_of hP hK hD ht hW)⟩, hS.F ht⟩) hS.2.2 dX0_rootCount_34
        · have hq := hqB c3
          refine lv_iload_n hx hb dX0_rootCount_10 rfl (lv_at hl 1 rfl) ?_
          refine lv_aload_n hx hb dX0_rootCount_11 rfl (lv_at hl 0 rfl) ?_
          refine va_get (D := (dC, dI)) (ci := 0) (v := .ref (a 3)) (C := RX0) (T := TX0) (N := 14) hx hb hts iK0 hown hK hP 0 rfl rfl 2 (by decide) lk0 (fun _ h9 => h9) rfl dX0_rootCount_12 ?_
          refine lv_iload_n hx hb dX0_rootCount_15 rfl (lv_at hl 2 rfl) ?_
          obtain ⟨g1, hq⟩ := hq
          refine va_iald hx hb hK hP 3 0 rfl rfl g1 dX0_rootCount_16 ?_
          obtain ⟨hqA, hqB⟩ := hq
          refine lv_if_le (tgt := 24) hx hb dX0_rootCount_17 (by decide) (fun c2 => ?_) (fun c2 => ?_)
          · have hq := hqA c2
            refine lv_iconst (v := 0) hx hb dX0_rootCount_24 (by decide) ?_
            refine lv_iadd hx hb dX0_rootCount_25 ?_
            refine lv_istore_n (lv' := [(1, .int (y4_1 + 0)), (0, .ref (a 0)), (2, .int y4_2)]) hx hb dX0_rootCount_26 rfl hl (by decide) rfl (fun ls hl => ?_)
            refine lv_iinc (v := (y4_2 + 1)) (lv' := [(2, .int (y4_2 + 1)), (1, .int (y4_1 + 0)), (0, .ref (a 0))]) hx hb dX0_rootCount_27 hl (k := 2) rfl rfl (by decide) rfl (fun ls hl => ?_)
            refine lv_goto (tgt := 4) hx hb dX0_rootCount_30 (by decide) ?_
            exact bk4 (y4_1 + 0) (y4_2 + 1) _ _ _ hq hP hD hS (lv_sub hl [2, 1, 0] rfl)
          · have hq := hqB c2
            refine lv_iconst (v := 1) hx hb dX0_rootCount_20 (by decide) ?_
            refine lv_goto (tgt := 25) hx hb dX0_rootCount_21 (by decide) ?_
            refine lv_iadd hx hb dX0_rootCount_25 ?_
            refine lv_istore_n (lv' := [(1, .int (y4_1 + 1)), (0, .ref (a 0)), (2, .int y4_2)]) hx hb dX0_rootCount_26 rfl hl (by decide) rfl (fun ls hl => ?_)
            refine lv_iinc (v := (y4_2 + 1)) (lv' := [(2, .int (y4_2 + 1)), (1, .int (y4_1 + 1)), (0, .ref (a 0))]) hx hb dX0_rootCount_27 hl (k := 2) rfl rfl (by decide) rfl (fun ls hl => ?_)
            refine lv_goto (tgt := 4) hx hb dX0_rootCount_30 (by decide) ?_
            exact bk4 (y4_1 + 1) (y4_2 + 1) _ _ _ hq hP hD hS (lv_sub hl [2, 1, 0] rfl)
    exact key _ y4_1 y4_2 H locs ls h0 (Nat.lt_succ_self _) hP hD hS hl
  refine lv_iconst (v := 0) hx hb dX0_rootCount_0 (by decide) ?_
  refine lv_istore_n (lv' := [(1, .int 0), (0, .ref (a 0))]) hx hb dX0_rootCount_1 rfl hl (by decide) rfl (fun ls hl => ?_)
  refine lv_iconst (v := 0) hx hb dX0_rootCount_2 (by decide) ?_
  refine lv_istore_n (lv' := [(2, .int 0), (1, .int 0), (0, .ref (a 0))]) hx hb dX0_rootCount_3 rfl hl (by decide) rfl (fun ls hl => ?_)
  exact J4  0 0 _ _ _ hq hP hD hS (lv_sub hl [2, 1, 0] rfl)
def wb_X0_trapCount_4 (v : V_X0)  (y4_1 : Int32) (y4_2 : Int32) (B4 : Int32 → Int32 → Prop) (Q : Int32 → Prop) : Prop :=
  ((64 ≤ y4_2 → Q y4_1) ∧
  (¬ 64 ≤ y4_2 → vp_in y4_2 64 ∧ ((((X0_traps v) y4_2.toNatClampNeg) = (-1) → B4 (y4_1 + 0) (y4_2 + 1)) ∧
  (¬ ((X0_traps v) y4_2.toNatClampNeg) = (-1) → B4 (y4_1 + 1) (y4_2 + 1)))))
def wp_X0_trapCount_4 (v : V_X0)  (y4_1 : Int32) (y4_2 : Int32) (Q : Int32 → Prop) : Prop :=
  ∃ (I : Int32 → Int32 → Prop) (μ : Int32 → Int32 → Nat), I y4_1 y4_2 ∧ ∀ (s0 : Int32) (s1 : Int32), I s0 s1 → wb_X0_trapCount_4 v  s0 s1 (fun t0 t1 => I t0 t1 ∧ μ t0 t1 < μ s0 s1) Q
def wp_X0_trapCount (v : V_X0) (Q : Int32 → Prop) : Prop :=
  wp_X0_trapCount_4 v  0 0 Q
def q_X0_trapCount (dC : Nat → ClassId) (dI : Nat → Nat → Nat) (cy : Nat → ClassId) (a b : Nat → Nat) (v : V_X0) (Q : Int32 → Prop) (A : Nat → Prop) : Array Value → State → Outcome → State → Prop := va_Qi (fun (r : Int32) (u : Unit) => Q r ) (fun (u : Unit) t => xAt dC dI cy A (wX0 cy a b v) t) A
set_option maxHeartbeats 4000000 in
set_option maxRecDepth 100000 in
theorem c_X0_trapCount (l : Launch) (dC : Nat → ClassId) (dI : Nat → Nat → Nat) (cy : Nat → ClassId) (a b : Nat → Nat) (sz : Nat) (v : V_X0) (Q : Int32 → Prop) (hq : wp_X0_trapCount v Q) : Met l yX0_trapCount wsX0_trapCount ({ frames := 0, cells := 0, slots := 0, locals := 0 } : Room) (va_Pc [.ref (a 0)] (xPre dC dI cy (wX0 cy a b v) sz)) (q_X0_trapCount dC dI cy a b v Q (va_A (wX0 cy a b v) sz)) 0 0 (va_A (wX0 cy a b v) sz) := by
  refine Met.ofW (cc := cX0_trapCount) (maxL := 3) (ret := (some .int)) (by decide) rfl ?_
  intro p e s m args below meth c s₁ B hml hv
  obtain ⟨rfl, hsz, hP, hK, hD0⟩ := hv
  have hx := B.exec
  have hb := B.bytes
  have hr := B.returns
  have hts := atoms_spec (ws := wsX0_trapCount) B.pre
  have hown : s.vm.findClass RX0 = some m.cls := findClass_of_methodNamed B.named
  have hlocks := B.notSynchronized
  subst hsz
  have hD := hD0.self (sz := s.heap.size)
  generalize hAe : va_A (wX0 cy a b v) s.heap.size = A at hD ⊢
  have hAe0 : ∀ q : Nat, s.heap.size ≤ q → A q := fun q h => by rw [← hAe]; exact Or.inr h
  have hS : va_S A s.heap s.heap [] := va_S.rf
  have hl := lv_entry ([.ref (a 0)]) (n := 3) (Nat.le_of_ble_eq_true rfl)
  rw [lg_entry_eq]
  generalize (lg_sl ([.ref (a 0)]) ++ List.replicate (3 - (lg_sl ([.ref (a 0)])).length) Slot.unset).toArray = ls at hl ⊢
  have hl : lv_has ls 3 [(0, .ref (a 0))] := hl
  have lk0 := hts (Cond.fieldLink RX0 22 "MolesLawn$Lawn" "traps" "[I") (List.mem_cons_of_mem _ (List.mem_append_left _ (List.mem_of_getElem? (i := 0) rfl)))
  have iK0 : ∀ w ∈ wsX00, w ∈ wsX0_trapCount := fun _ h => (List.mem_cons_of_mem _ (List.mem_append_right _ h))
  unfold wp_X0_trapCount at hq
  have J4 : ∀  (y4_1 : Int32) (y4_2 : Int32) (H : Heap) (locs : List Loc) (ls : Array Slot), wp_X0_trapCount_4 v  y4_1 y4_2 Q → va_P (dC, dI) vwCl (wX0 cy a b v) H → va_D A (wX0 cy a b v) → va_S A s.heap H locs → lv_has ls 3 [(0, .ref (a 0)), (1, .int y4_1), (2, .int y4_2)] → W p l e (headSpec wsX0_trapCount ({ frames := 0, cells := 0, slots := 0, locals := 0 } : Room)).room s m ([.ref (a 0)] : List Value).toArray below meth c H locs 0 0 (MQ below (q_X0_trapCount dC dI cy a b v Q A) ([.ref (a 0)] : List Value).toArray s 0 0 A) (F0 m 4 ls []) := by
    intro  y4_1 y4_2 H locs ls hq hP hD hS hl
    obtain ⟨I4, μ4, h0, hs4⟩ := hq
    have key : ∀ (n : Nat) (y4_1 : Int32) (y4_2 : Int32) (H : Heap) (locs : List Loc) (ls : Array Slot), I4 y4_1 y4_2 → μ4 y4_1 y4_2 < n → va_P (dC, dI) vwCl (wX0 cy a b v) H → va_D A (wX0 cy a b v) → va_S A s.heap H locs → lv_has ls 3 [(0, .ref (a 0)), (1, .int y4_1), (2, .int y4_2)] → W p l e (headSpec wsX0_trapCount ({ frames := 0, cells := 0, slots := 0, locals := 0 } : Room)).room s m ([.ref (a 0)] : List Value).toArray below meth c H locs 0 0 (MQ below (q_X0_trapCount dC dI cy a b v Q A) ([.ref (a 0)] : List Value).toArray s 0 0 A) (F0 m 4 ls []) := by
      intro n
      induction n with
      | zero => intro y4_1 y4_2 H locs ls _ hm; exact absurd hm (Nat.not_lt_zero _)
      | succ n ih =>
        intro y4_1 y4_2 H locs ls hI hm hP hD hS hl
        have hq := hs4 y4_1 y4_2 hI
        generalize hB4 : (fun (t0 : Int32) (t1 : Int32) => I4 t0 t1 ∧ μ4 t0 t1 < μ4 y4_1 y4_2) = B4 at hq
        have bk4 : ∀ (y4_1 : Int32) (y4_2 : Int32) (H : Heap) (locs : List Loc) (ls : Array Slot), B4 y4_1 y4_2 → va_P (dC, dI) vwCl (wX0 cy a b v) H → va_D A (wX0 cy a b v) → va_S A s.heap H locs → lv_has ls 3 [(0, .ref (a 0)), (1, .int y4_1), (2, .int y4_2)] → W p l e (headSpec wsX0_trapCount ({ frames := 0, cells := 0, slots := 0, locals := 0 } : Room)).room s m ([.ref (a 0)] : List Value).toArray below meth c H locs 0 0 (MQ below (q_X0_trapCount dC dI cy a b v Q A) ([.ref (a 0)] : List Value).toArray s 0 0 A) (F0 m 4 ls []) := by
          intro y4_1 y4_2 H locs ls h
          rw [← hB4] at h
          exact ih y4_1 y4_2 H locs ls h.1 (Nat.lt_of_lt_of_le h.2 (Nat.le_of_lt_succ hm))
        unfold wb_X0_trapCount_4 at hq
        refine lv_iload_n hx hb dX0_trapCount_4 rfl (lv_at hl 2 rfl) ?_
        refine lv_bipush (v := 64) hx hb dX0_trapCount_5 (by decide) ?_
        obtain ⟨hqA, hqB⟩ := hq
        refine lv_icmp_ge (tgt := 34) hx hb dX0_trapCount_7 (by decide) (fun c3 => ?_) (fun c3 => ?_)
        · have hq := hqA c3
          refine lv_iload_n hx hb dX0_trapCount_34 rfl (lv_at hl 1 rfl) ?_
          exact W.iret (v := y4_1) hx hb hr (fun t ht hW => ⟨⟨y4_1, (), rfl, hq, (xAt_of hP hK hD ht hW)⟩, hS.F ht⟩) hS.2.2 dX0_trapCount_35
        · have hq := hqB c3
          refine lv_iload_n hx hb dX0_trapCount_10 rfl (lv_at hl 1 rfl) ?_
          refine lv_aload_n hx hb dX0_trapCount_11 rfl (lv_at hl 0 rfl) ?_
          refine va_get (D := (dC, dI)) (ci := 0) (v := .ref (a 4)) (C := RX0) (T := TX0) (N := 14) hx hb hts iK0 hown hK hP 0 rfl rfl 3 (by decide) lk0 (fun _ h9 => h9) rfl dX0_trapCount_12 ?_
          refine lv_iload_n hx hb dX0_trapCount_15 rfl (lv_at hl 2 rfl) ?_
          obtain ⟨g1, hq⟩ := hq
          refine va_iald hx hb hK hP 4 0 rfl rfl g1 dX0_trapCount_16 ?_
          refine lv_iconst (v := (-1)) hx hb dX0_trapCount_17 (by decide) ?_
          obtain ⟨hqA, hqB⟩ := hq
          refine lv_icmp_eq (tgt := 25) hx hb dX0_trapCount_18 (by decide) (fun c2 => ?_) (fun c2 => ?_)
          · have hq := hqA c2
            refine lv_iconst (v := 0) hx hb dX0_trapCount_25 (by decide) ?_
            refine lv_iadd hx hb dX0_trapCount_26 ?_
            refine lv_istore_n (lv' := [(1, .int (y4_1 + 0)), (0, .ref (a 0)), (2, .int y4_2)]) hx hb dX0_trapCount_27 rfl hl (by decide) rfl (fun ls hl => ?_)
            refine lv_iinc (v := (y4_2 + 1)) (lv' := [(2, .int (y4_2 + 1)), (1, .int (y4_1 + 0)), (0, .ref (a 0))]) hx hb dX0_trapCount_28 hl (k := 2) rfl rfl (by decide) rfl (fun ls hl => ?_)
            refine lv_goto (tgt := 4) hx hb dX0_trapCount_31 (by decide) ?_
            exact bk4 (y4_1 + 0) (y4_2 + 1) _ _ _ hq hP hD hS (lv_sub hl [2, 1, 0] rfl)
          · have hq := hqB c2
            refine lv_iconst (v := 1) hx hb dX0_trapCount_21 (by decide) ?_
            refine lv_goto (tgt := 26) hx hb dX0_trapCount_22 (by decide) ?_
            refine lv_iadd hx hb dX0_trapCount_26 ?_
            refine lv_istore_n (lv' := [(1, .int (y4_1 + 1)), (0, .ref (a 0)), (2, .int y4_2)]) hx hb dX0_trapCount_27 rfl hl (by decide) rfl (fun ls hl => ?_)
            refine lv_iinc (v := (y4_2 + 1)) (lv' := [(2, .int (y4_2 + 1)), (1, .int (y4_1 + 1)), (0, .ref (a 0))]) hx hb dX0_trapCount_28 hl (k := 2) rfl rfl (by decide) rfl (fun ls hl => ?_)
            refine lv_goto (tgt := 4) hx hb dX0_trapCount_31 (by decide) ?_
            exact bk4 (y4_1 + 1) (y4_2 + 1) _ _ _ hq hP hD hS (lv_sub hl [2, 1, 0] rfl)
    exact key _ y4_1 y4_2 H locs ls h0 (Nat.lt_succ_self _) hP hD hS hl
  refine lv_iconst (v := 0) hx hb dX0_trapCount_0 (by decide) ?_
  refine lv_istore_n (lv' := [(1, .int 0), (0, .ref (a 0))]) hx hb dX0_trapCount_1 rfl hl (by decide) rfl (fun ls hl => ?_)
  refine lv_iconst (v := 0) hx hb dX0_trapCount_2 (by decide) ?_
  refine lv_istore_n (lv' := [(2, .int 0), (1, .int 0), (0, .ref (a 0))]) hx hb dX0_trapCount_3 rfl hl (by decide) rfl (fun ls hl => ?_)
  exact J4  0 0 _ _ _ hq hP hD hS (lv_sub hl [2, 1, 0] rfl)
def wb_X0_molesAt_4 (v : V_X0) (x1 : Int32)  (y4_2 : Int32) (y4_3 : Int32) (B4 : Int32 → Int32 → Prop) (Q : Int32 → Prop) : Prop :=
  (((X0_moleCount v) ≤ y4_3 → Q y4_2) ∧
  (¬ (X0_moleCount v) ≤ y4_3 → vp_in y4_3 4 ∧ ((X0_molesR v) y4_3.toNatClampNeg) < 4 ∧ wp_X1_place ((X0_moles v) ((X0_molesR v) y4_3.toNatClampNeg)) (fun r19 =>
  ((r19 = x1 → B4 (y4_2 + 1) (y4_3 + 1)) ∧
  (¬ r19 = x1 → B4 (y4_2 + 0) (y4_3 + 1))))))
def wp_X0_molesAt_4 (v : V_X0) (x1 : Int32)  (y4_2 : Int32) (y4_3 : Int32) (Q : Int32 → Prop) : Prop :=
  ∃ (I : Int32 → Int32 → Prop) (μ : Int32 → Int32 → Nat), I y4_2 y4_3 ∧ ∀ (s0 : Int32) (s1 : Int32), I s0 s1 → wb_X0_molesAt_4 v x1  s0 s1 (fun t0 t1 => I t0 t1 ∧ μ t0 t1 < μ s0 s1) Q
def wp_X0_molesAt (v : V_X0) (x1 : Int32) (Q : Int32 → Prop) : Prop :=
  wp_X0_molesAt_4 v x1  0 0 Q
def q_X0_molesAt (dC : Nat → ClassId) (dI : Nat → Nat → Nat) (cy : Nat → ClassId) (a b : Nat → Nat) (v : V_X0) (x1 : Int32) (Q : Int32 → Prop) (A : Nat → Prop) : Array Value → State → Outcome → State → Prop := va_Qi (fun (r : Int32) (u : Unit) => Q r ) (fun (u : Unit) t => xAt dC dI cy A (wX0 cy a b v) t) A
set_option maxHeartbeats 4000000 in
set_option maxRecDepth 100000 in
theorem c_X0_molesAt (l : Launch) (dC : Nat → ClassId) (dI : Nat → Nat → Nat) (cy : Nat → ClassId) (a b : Nat → Nat) (sz : Nat) (v : V_X0) (x1 : Int32) (Q : Int32 → Prop) (hq : wp_X0_molesAt v x1 Q) : Met l yX0_molesAt wsX0_molesAt ({ frames := 1, cells := 0, slots := 0, locals := 20 } : Room) (va_Pc [.ref (a 0), .int x1] (xPre dC dI cy (wX0 cy a b v) sz)) (q_X0_molesAt dC dI cy a b v x1 Q (va_A (wX0 cy a b v) sz)) 0 0 (va_A (wX0 cy a b v) sz) := by
  refine Met.ofW (cc := cX0_molesAt) (maxL := 4) (ret := (some .int)) (by decide) rfl ?_
  intro p e s m args below meth c s₁ B hml hv
  obtain ⟨rfl, hsz, hP, hK, hD0⟩ := hv
  have hx := B.exec
  have hb := B.bytes
  have hr := B.returns
  have hts := atoms_spec (ws := wsX0_molesAt) B.pre
  have hown : s.vm.findClass RX0 = some m.cls := findClass_of_methodNamed B.named
  have hlocks := B.notSynchronized
  subst hsz
  have hD := hD0.self (sz := s.heap.size)
  generalize hAe : va_A (wX0 cy a b v) s.heap.size = A at hD ⊢
  have hAe0 : ∀ q : Nat, s.heap.size ≤ q → A q := fun q h => by rw [← hAe]; exact Or.inr h
  have hS : va_S A s.heap s.heap [] := va_S.rf
  have hl := lv_entry ([.ref (a 0), .int x1]) (n := 4) (Nat.le_of_ble_eq_true rfl)
  rw [lg_entry_eq]
  generalize (lg_sl ([.ref (a 0), .int x1]) ++ List.replicate (4 - (lg_sl ([.ref (a 0), .int x1])).length) Slot.unset).toArray = ls at hl ⊢
  have hl : lv_has ls 4 [(0, .ref (a 0)), (1, .int x1)] := hl
  have lk0 := hts (Cond.fieldLink RX0 56 "MolesLawn$Lawn" "moleCount" "I") (List.mem_cons_of_mem _ (List.mem_append_left _ (List.mem_append_left _ (List.mem_of_getElem? (i := 0) rfl))))
  have lk1 := hts (Cond.fieldLink RX0 34 "MolesLawn$Lawn" "moles" "[LMolesLawn$Mole;") (List.mem_cons_of_mem _ (List.mem_append_left _ (List.mem_append_left _ (List.mem_of_getElem? (i := 1) rfl))))
  have iK0 : ∀ w ∈ wsX00, w ∈ wsX0_molesAt := fun _ h => (List.mem_cons_of_mem _ (List.mem_append_left _ (List.mem_append_right _ h)))
  unfold wp_X0_molesAt at hq
  have J4 : ∀  (y4_2 : Int32) (y4_3 : Int32) (H : Heap) (locs : List Loc) (ls : Array Slot), wp_X0_molesAt_4 v x1  y4_2 y4_3 Q → va_P (dC, dI) vwCl (wX0 cy a b v) H → va_D A (wX0 cy a b v) → va_S A s.heap H locs → lv_has ls 4 [(0, .ref (a 0)), (1, .int x1), (2, .int y4_2), (3, .int y4_3)] → W p l e (headSpec wsX0_molesAt ({ frames := 1, cells := 0, slots := 0, locals := 20 } : Room)).room s m ([.ref (a 0), .int x1] : List Value).toArray below meth c H locs 0 0 (MQ below (q_X0_molesAt dC dI cy a b v x1 Q A) ([.ref (a 0), .int x1] : List Value).toArray s 0 0 A) (F0 m 4 ls []) := by
    intro  y4_2 y4_3 H locs ls hq hP hD hS hl
    obtain ⟨I4, μ4, h0, hs4⟩ := hq
    have key : ∀ (n : Nat) (y4_2 : Int32) (y4_3 : Int32) (H : Heap) (locs : List Loc) (ls : Array Slot), I4 y4_2 y4_3 → μ4 y4_2 y4_3 < n → va_P (dC, dI) vwCl (wX0 cy a b v) H → va_D A (wX0 cy a b v) → va_S A s.heap H locs → lv_has ls 4 [(0, .ref (a 0)), (1, .int x1), (2, .int y4_2), (3, .int y4_3)] → W p l e (headSpec wsX0_molesAt ({ frames := 1, cells := 0, slots := 0, locals := 20 } : Room)).room s m ([.ref (a 0), .int x1] : List Value).toArray below meth c H locs 0 0 (MQ below (q_X0_molesAt dC dI cy a b v x1 Q A) ([.ref (a 0), .int x1] : List Value).toArray s 0 0 A) (F0 m 4 ls []) := by
      intro n
      induction n with
      | zero => intro y4_2 y4_3 H locs ls _ hm; exact absurd hm (Nat.not_lt_zero _)
      | succ n ih =>
        intro y4_2 y4_3 H locs ls hI hm hP hD hS hl
        have hq := hs4 y4_2 y4_3 hI
        generalize hB4 : (fun (t0 : Int32) (t1 : Int32) => I4 t0 t1 ∧ μ4 t0 t1 < μ4 y4_2 y4_3) = B4 at hq
        have bk4 : ∀ (y4_2 : Int32) (y4_3 : Int32) (H : Heap) (locs : List Loc) (ls : Array Slot), B4 y4_2 y4_3 → va_P (dC, dI) vwCl (wX0 cy a b v) H → va_D A (wX0 cy a b v) → va_S A s.heap H locs → lv_has ls 4 [(0, .ref (a 0)), (1, .int x1), (2, .int y4_2), (3, .int y4_3)] → W p l e (headSpec wsX0_molesAt ({ frames := 1, cells := 0, slots := 0, locals := 20 } : Room)).room s m ([.ref (a 0), .int x1] : List Value).toArray below meth c H locs 0 0 (MQ below (q_X0_molesAt dC dI cy a b v x1 Q A) ([.ref (a 0), .int x1] : List Value).toArray s 0 0 A) (F0 m 4 ls []) := by
          intro y4_2 y4_3 H locs ls h
          rw [← hB4] at h
          exact ih y4_2 y4_3 H locs ls h.1 (Nat.lt_of_lt_of_le h.2 (Nat.le_of_lt_succ hm))
        unfold wb_X0_molesAt_4 at hq
        refine lv_iload_n hx hb dX0_molesAt_4 rfl (lv_at hl 3 rfl) ?_
        refine lv_aload_n hx hb dX0_molesAt_5 rfl (lv_at hl 0 rfl) ?_
        refine va_get (D := (dC, dI)) (ci := 0) (v := .int (X0_moleCount v)) (C := RX0) (T := TX0) (N := 14) hx hb hts iK0 hown hK hP 0 rfl rfl 7 (by decide) lk0 (fun _ h9 => h9) rfl dX0_molesAt_6 ?_
        obtain ⟨hqA, hqB⟩ := hq
        refine lv_icmp_ge (tgt := 39) hx hb dX0_molesAt_9 (by decide) (fun c4 => ?_) (fun c4 => ?_)
        · have hq := hqA c4
          refine lv_iload_n hx hb dX0_molesAt_39 rfl (lv_at hl 2 rfl) ?_
          exact W.iret (v := y4_2) hx hb hr (fun t ht hW => ⟨⟨y4_2, (), rfl, hq, (xAt_of hP hK hD ht hW)⟩, hS.F ht⟩) hS.2.2 dX0_molesAt_40
        · have hq := hqB c4
          refine lv_iload_n hx hb dX0_molesAt_12 rfl (lv_at hl 2 rfl) ?_
          refine lv_aload_n hx hb dX0_molesAt_13 rfl (lv_at hl 0 rfl) ?_
          refine va_get (D := (dC, dI)) (ci := 0) (v := .ref (a 8)) (C := RX0) (T := TX0) (N := 14) hx hb hts iK0 hown hK hP 0 rfl rfl 6 (by decide) lk1 (fun _ h9 => h9) rfl dX0_molesAt_14 ?_
          refine lv_iload_n hx hb dX0_molesAt_17 rfl (lv_at hl 3 rfl) ?_
          obtain ⟨g1, hq⟩ := hq
          obtain ⟨g2, hq⟩ := hq
          refine va_aldq hx hb hK hP 8 2 rfl rfl g1 dX0_molesAt_18 ?_
          have hC : (([(9 + 3 * ((X0_molesR v) y4_3.toNatClampNeg)), (10 + 3 * ((X0_molesR v) y4_3.toNatClampNeg)), (11 + 3 * ((X0_molesR v) y4_3.toNatClampNeg))] : List Nat).map (fun i => (wX0 cy a b v)[i]?)) = (wX1 cy (sh a (9 + 3 * ((X0_molesR v) y4_3.toNatClampNeg))) ((X0_moles v) ((X0_molesR v) y4_3.toNatClampNeg))).map some := (co_4 (P := fun i19 => (([(9 + 3 * i19), (10 + 3 * i19), (11 + 3 * i19)] : List Nat).map (fun i => (wX0 cy a b v)[i]?)) = (wX1 cy (sh a (9 + 3 * i19)) ((X0_moles v) i19)).map some) rfl rfl rfl rfl g2)
          have hN : va_nd [(9 + 3 * ((X0_molesR v) y4_3.toNatClampNeg)), (10 + 3 * ((X0_molesR v) y4_3.toNatClampNeg)), (11 + 3 * ((X0_molesR v) y4_3.toNatClampNeg))] = true := (co_4 (P := fun i19 => va_nd [(9 + 3 * i19), (10 + 3 * i19), (11 + 3 * i19)] = true) rfl rfl rfl rfl g2)
          have hPc := xsubP hP hC
          have hDc := xsubD hD hN hC
          have hFc := va_free (wc := (wX1 cy (sh a (9 + 3 * ((X0_molesR v) y4_3.toNatClampNeg))) ((X0_moles v) ((X0_molesR v) y4_3.toNatClampNeg)))) hD hS hAe0 [(9 + 3 * ((X0_molesR v) y4_3.toNatClampNeg)), (10 + 3 * ((X0_molesR v) y4_3.toNatClampNeg)), (11 + 3 * ((X0_molesR v) y4_3.toNatClampNeg))] hC
          refine va_calli (va_runV (As := []) (rest := [.int y4_2]) ⟨hx, hb, hml, hown, hts⟩ (c_X1_place l dC dI cy (sh a (9 + 3 * ((X0_molesR v) y4_3.toNatClampNeg))) _ ((X0_moles v) ((X0_molesR v) y4_3.toNatClampNeg)) _ hq) (cwV 0 hts gX0_molesAt_X1_place rfl rfl rfl (by decide +kernel) ⟨Nat.le_of_ble_eq_true rfl, Nat.le_of_ble_eq_true rfl⟩) ⟨xPre_blind, va_recv hK hP (ci := 1) (q0 := (9 + 3 * ((X0_molesR v) y4_3.toNatClampNeg))) rfl (co_4 (P := fun i19 => (wX0 cy a b v)[(9 + 3 * i19)]? = (wX1 cy (sh a (9 + 3 * i19)) ((X0_moles v) i19))[0]?) rfl rfl rfl rfl g2), xPre_of hPc hK hDc⟩ rfl rfl hl.1 rfl (lv_room (Nat.le_of_ble_eq_true rfl)) dX0_molesAt_19 ⟨Nat.le_of_ble_eq_true rfl, Nat.le_of_ble_eq_true rfl⟩) hS (fun q _ h => hFc q h) hFc (fun r19 u9 t H locs ht hvm hq hB hz1 hk1 hS => ?_)
          obtain ⟨hP1, -, hD1⟩ := hB
          rw [ht] at hP1
          have hP : va_P (dC, dI) vwCl (wX0 cy a b v) H := xj_keep hP hD [(9 + 3 * ((X0_molesR v) y4_3.toNatClampNeg)), (10 + 3 * ((X0_molesR v) y4_3.toNatClampNeg)), (11 + 3 * ((X0_molesR v) y4_3.toNatClampNeg))] hC hP1 hk1
          refine lv_iload_n hx hb dX0_molesAt_22 rfl (lv_at hl 1 rfl) ?_
          obtain ⟨hqA, hqB⟩ := hq
          refine lv_icmp_ne (tgt := 30) hx hb dX0_molesAt_23 (by decide) (fun c3 => ?_) (fun c3 => ?_)
          · have hq := hqB c3
            refine lv_iconst (v := 0) hx hb dX0_molesAt_30 (by decide) ?_
            refine lv_iadd hx hb dX0_molesAt_31 ?_
            refine lv_istore_n (lv' := [(2, .int (y4_2 + 0)), (0, .ref (a 0)), (1, .int x1), (3, .int y4_3)]) hx hb dX0_molesAt_32 rfl hl (by decide) rfl (fun ls hl => ?_)
            refine lv_iinc (v := (y4_3 + 1)) (lv' := [(3, .int (y4_3 + 1)), (2, .int (y4_2 + 0)), (0, .ref (a 0)), (1, .int x1)]) hx hb dX0_molesAt_33 hl (k := 3) rfl rfl (by decide) rfl (fun ls hl => ?_)
            refine lv_goto (tgt := 4) hx hb dX0_molesAt_36 (by decide) ?_
            exact bk4 (y4_2 + 0) (y4_3 + 1) _ _ _ hq hP hD hS (lv_sub hl [2, 3, 1, 0] rfl)
          · have hq := hqA c3
            refine lv_iconst (v := 1) hx hb dX0_molesAt_26 (by decide) ?_
            refine lv_goto (tgt := 31) hx hb dX0_molesAt_27 (by decide) ?_
            refine lv_iadd hx hb dX0_molesAt_31 ?_
            refine lv_istore_n (lv' := [(2, .int (y4_2 + 1)), (0, .ref (a 0)), (1, .int x1), (3, .int y4_3)]) hx hb dX0_molesAt_32 rfl hl (by decide) rfl (fun ls hl => ?_)
            refine lv_iinc (v := (y4_3 + 1)) (lv' := [(3, .int (y4_3 + 1)), (2, .int (y4_2 + 1)), (0, .ref (a 0)), (1, .int x1)]) hx hb dX0_molesAt_33 hl (k := 3) rfl rfl (by decide) rfl (fun ls hl => ?_)
            refine lv_goto (tgt := 4) hx hb dX0_molesAt_36 (by decide) ?_
            exact bk4 (y4_2 + 1) (y4_3 + 1) _ _ _ hq hP hD hS (lv_sub hl [2, 3, 1, 0] rfl)
    exact key _ y4_2 y4_3 H locs ls h0 (Nat.lt_succ_self _) hP hD hS hl
  refine lv_iconst (v := 0) hx hb dX0_molesAt_0 (by decide) ?_
  refine lv_istore_n (lv' := [(2, .int 0), (0, .ref (a 0)), (1, .int x1)]) hx hb dX0_molesAt_1 rfl hl (by decide) rfl (fun ls hl => ?_)
  refine lv_iconst (v := 0) hx hb dX0_molesAt_2 (by decide) ?_
  refine lv_istore_n (lv' := [(3, .int 0), (2, .int 0), (0, .ref (a 0)), (1, .int x1)]) hx hb dX0_molesAt_3 rfl hl (by decide) rfl (fun ls hl => ?_)
  exact J4  0 0 _ _ _ hq hP hD hS (lv_sub hl [2, 3, 1, 0] rfl)
def wb_X0_trailBeginsAt_2 (v : V_X0) (x1 : Int32)  (y2_2 : Int32) (B2 : Int32 → Prop) (Q : Int32 → Prop) : Prop :=
  (((X0_moleCount v) ≤ y2_2 → Q 0) ∧
  (¬ (X0_moleCount v) ≤ y2_2 → vp_in y2_2 4 ∧ ((X0_molesR v) y2_2.toNatClampNeg) < 4 ∧ vp_in 0 21 ∧ ((((X1_trail ((X0_moles v) ((X0_molesR v) y2_2.toNatClampNeg))) (0 : Int32).toNatClampNeg) = x1 → Q 1) ∧
  (¬ ((X1_trail ((X0_moles v) ((X0_molesR v) y2_2.toNatClampNeg))) (0 : Int32).toNatClampNeg) = x1 → B2 (y2_2 + 1)))))
def wp_X0_trailBeginsAt_2 (v : V_X0) (x1 : Int32)  (y2_2 : Int32) (Q : Int32 → Prop) : Prop :=
  ∃ (I : Int32 → Prop) (μ : Int32 → Nat), I y2_2 ∧ ∀ (s0 : Int32), I s0 → wb_X0_trailBeginsAt_2 v x1  s0 (fun t0 => I t0 ∧ μ t0 < μ s0) Q
def wp_X0_trailBeginsAt (v : V_X0) (x1 : Int32) (Q : Int32 → Prop) : Prop :=
  wp_X0_trailBeginsAt_2 v x1  0 Q
def q_X0_trailBeginsAt (dC : Nat → ClassId) (dI : Nat → Nat → Nat) (cy : Nat → ClassId) (a b : Nat → Nat) (v : V_X0) (x1 : Int32) (Q : Int32 → Prop) (A : Nat → Prop) : Array Value → State → Outcome → State → Prop := va_Qi (fun (r : Int32) (u : Unit) => Q r ) (fun (u : Unit) t => xAt dC dI cy A (wX0 cy a b v) t) A
set_option maxHeartbeats 4000000 in
set_option maxRecDepth 100000 in
theorem c_X0_trailBeginsAt (l : Launch) (dC : Nat → ClassId) (dI : Nat → Nat → Nat) (cy : Nat → ClassId) (a b : Nat → Nat) (sz : Nat) (v : V_X0) (x1 : Int32) (Q : Int32 → Prop) (hq : wp_X0_trailBeginsAt v x1 Q) : Met l yX0_trailBeginsAt wsX0_trailBeginsAt ({ frames := 0, cells := 0, slots := 0, locals := 0 } : Room) (va_Pc [.ref (a 0), .int x1] (xPre dC dI cy (wX0 cy a b v) sz)) (q_X0_trailBeginsAt dC dI cy a b v x1 Q (va_A (wX0 cy a b v) sz)) 0 0 (va_A (wX0 cy a b v) sz) := by
  refine Met.ofW (cc := cX0_trailBeginsAt) (maxL := 3) (ret := (some .boolean)) (by decide) rfl ?_
  intro p e s m args below meth c s₁ B hml hv
  obtain ⟨rfl, hsz, hP, hK, hD0⟩ := hv
  have hx := B.exec
  have hb := B.bytes
  have hr := B.returns
  have hts := atoms_spec (ws := wsX0_trailBeginsAt) B.pre
  have hown : s.vm.findClass RX0 = some m.cls := findClass_of_methodNamed B.named
  have hlocks := B.notSynchronized
  subst hsz
  have hD := hD0.self (sz := s.heap.size)
  generalize hAe : va_A (wX0 cy a b v) s.heap.size = A at hD ⊢
  have hAe0 : ∀ q : Nat, s.heap.size ≤ q → A q := fun q h => by rw [← hAe]; exact Or.inr h
  have hS : va_S A s.heap s.heap [] := va_S.rf
  have hl := lv_entry ([.ref (a 0), .int x1]) (n := 3) (Nat.le_of_ble_eq_true rfl)
  rw [lg_entry_eq]
  generalize (lg_sl ([.ref (a 0), .int x1]) ++ List.replicate (3 - (lg_sl ([.ref (a 0), .int x1])).length) Slot.unset).toArray = ls at hl ⊢
  have hl : lv_has ls 3 [(0, .ref (a 0)), (1, .int x1)] := hl
  have lk0 := hts (Cond.fieldLink RX0 56 "MolesLawn$Lawn" "moleCount" "I") (List.mem_cons_of_mem _ (List.mem_append_left _ (List.mem_append_left _ (List.mem_of_getElem? (i := 0) rfl))))
  have lk1 := hts (Cond.fieldLink RX0 34 "MolesLawn$Lawn" "moles" "[LMolesLawn$Mole;") (List.mem_cons_of_mem _ (List.mem_append_left _ (List.mem_append_left _ (List.mem_of_getElem? (i := 1) rfl))))
  have lk2 := hts (Cond.fieldLink RX0 81 "MolesLawn$Mole" "trail" "[I") (List.mem_cons_of_mem _ (List.mem_append_left _ (List.mem_append_left _ (List.mem_of_getElem? (i := 2) rfl))))
  have iK0 : ∀ w ∈ wsX00, w ∈ wsX0_trailBeginsAt := fun _ h => (List.mem_cons_of_mem _ (List.mem_append_left _ (List.mem_append_right _ h)))
  have iK1 : ∀ w ∈ wsX10, w ∈ wsX0_trailBeginsAt := fun _ h => (List.mem_cons_of_mem _ (List.mem_append_right _ h))
  unfold wp_X0_trailBeginsAt at hq
  have J2 : ∀  (y2_2 : Int32) (H : Heap) (locs : List Loc) (ls : Array Slot), wp_X0_trailBeginsAt_2 v x1  y2_2 Q → va_P (dC, dI) vwCl (wX0 cy a b v) H → va_D A (wX0 cy a b v) → va_S A s.heap H locs → lv_has ls 3 [(0, .ref (a 0)), (1, .int x1), (2, .int y2_2)] → W p l e (headSpec wsX0_trailBeginsAt ({ frames := 0, cells := 0, slots := 0, locals := 0 } : Room)).room s m ([.ref (a 0), .int x1] : List Value).toArray below meth c H locs 0 0 (MQ below (q_X0_trailBeginsAt dC dI cy a b v x1 Q A) ([.ref (a 0), .int x1] : List Value).toArray s 0 0 A) (F0 m 2 ls []) := by
    intro  y2_2 H locs ls hq hP hD hS hl
    obtain ⟨I2, μ2, h0, hs2⟩ := hq
    have key : ∀ (n : Nat) (y2_2 : Int32) (H : Heap) (locs : List Loc) (ls : Array Slot), I2 y2_2 → μ2 y2_2 < n → va_P (dC, dI) vwCl (wX0 cy a b v) H → va_D A (wX0 cy a b v) → va_S A s.heap H locs → lv_has ls 3 [(0, .ref (a 0)), (1, .int x1), (2, .int y2_2)] → W p l e (headSpec wsX0_trailBeginsAt ({ frames := 0, cells := 0, slots := 0, locals := 0 } : Room)).room s m ([.ref (a 0), .int x1] : List Value).toArray below meth c H locs 0 0 (MQ below (q_X0_trailBeginsAt dC dI cy a b v x1 Q A) ([.ref (a 0), .int x1] : List Value).toArray s 0 0 A) (F0 m 2 ls []) := by
      intro n
      induction n with
      | zero => intro y2_2 H locs ls _ hm; exact absurd hm (Nat.not_lt_zero _)
      | succ n ih =>
        intro y2_2 H locs ls hI hm hP hD hS hl
        have hq := hs2 y2_2 hI
        generalize hB2 : (fun (t0 : Int32) => I2 t0 ∧ μ2 t0 < μ2 y2_2) = B2 at hq
        have bk2 : ∀ (y2_2 : Int32) (H : Heap) (locs : List Loc) (ls : Array Slot), B2 y2_2 → va_P (dC, dI) vwCl (wX0 cy a b v) H → va_D A (wX0 cy a b v) → va_S A s.heap H locs → lv_has ls 3 [(0, .ref (a 0)), (1, .int x1), (2, .int y2_2)] → W p l e (headSpec wsX0_trailBeginsAt ({ frames := 0, cells := 0, slots := 0, locals := 0 } : Room)).room s m ([.ref (a 0), .int x1] : List Value).toArray below meth c H locs 0 0 (MQ below (q_X0_trailBeginsAt dC dI cy a b v x1 Q A) ([.ref (a 0), .int x1] : List Value).toArray s 0 0 A) (F0 m 2 ls []) := by
          intro y2_2 H locs ls h
          rw [← hB2] at h
          exact ih y2_2 H locs ls h.1 (Nat.lt_of_lt_of_le h.2 (Nat.le_of_lt_succ hm))
        unfold wb_X0_trailBeginsAt_2 at hq
        refine lv_iload_n hx hb dX0_trailBeginsAt_2 rfl (lv_at hl 2 rfl) ?_
        refine lv_aload_n hx hb dX0_trailBeginsAt_3 rfl (lv_at hl 0 rfl) ?_
        refine va_get (D := (dC, dI)) (ci := 0) (v := .int (X0_moleCount v)) (C := RX0) (T := TX0) (N := 14) hx hb hts iK0 hown hK hP 0 rfl rfl 7 (by decide) lk0 (fun _ h9 => h9) rfl dX0_trailBeginsAt_4 ?_
        obtain ⟨hqA, hqB⟩ := hq
        refine lv_icmp_ge (tgt := 33) hx hb dX0_trailBeginsAt_7 (by decide) (fun c5 => ?_) (fun c5 => ?_)
        · have hq := hqA c5
          refine lv_iconst (v := 0) hx hb dX0_trailBeginsAt_33 (by decide) ?_
          exact W.zret (v := 0) hx hb hr rfl (fun t ht hW => ⟨⟨0, (), rfl, hq, (xAt_of hP hK hD ht hW)⟩, hS.F ht⟩) hS.2.2 dX0_trailBeginsAt_34
        · have hq := hqB c5
          refine lv_aload_n hx hb dX0_trailBeginsAt_10 rfl (lv_at hl 0 rfl) ?_
          refine va_get (D := (dC, dI)) (ci := 0) (v := .ref (a 8)) (C := RX0) (T := TX0) (N := 14) hx hb hts iK0 hown hK hP 0 rfl rfl 6 (by decide) lk1 (fun _ h9 => h9) rfl dX0_trailBeginsAt_11 ?_
          refine lv_iload_n hx hb dX0_trailBeginsAt_14 rfl (lv_at hl 2 rfl) ?_
          obtain ⟨g1, hq⟩ := hq
          obtain ⟨g2, hq⟩ := hq
          refine va_aldq hx hb hK hP 8 2 rfl rfl g1 dX0_trailBeginsAt_15 ?_
          refine va_get (D := (dC, dI)) (ci := 1) (v := .ref (a (9 + 3 * ((X0_molesR v) y2_2.toNatClampNeg) + 2))) (C := RX1) (T := TX1) (N := 7) hx hb hts iK1 hown hK hP (9 + 3 * ((X0_molesR v) y2_2.toNatClampNeg)) (co_4 (P := fun i19 => (wX0 cy a b v)[(9 + 3 * i19)]? = (wX1 cy (sh a (9 + 3 * i19)) ((X0_moles v) i19))[0]?) rfl rfl rfl rfl g2) rfl 1 (by decide) lk2 (fun _ h9 => h9) rfl dX0_trailBeginsAt_16 ?_
          refine lv_iconst (v := 0) hx hb dX0_trailBeginsAt_19 (by decide) ?_
          obtain ⟨g3, hq⟩ := hq
          refine va_iald hx hb hK hP (9 + 3 * ((X0_molesR v) y2_2.toNatClampNeg) + 2) 0 (co_4 (P := fun i19 => (wX0 cy a b v)[(9 + 3 * i19 + 2)]? = (wX1 cy (sh a (9 + 3 * i19)) ((X0_moles v) i19))[2]?) rfl rfl rfl rfl g2) rfl g3 dX0_trailBeginsAt_20 ?_
          refine lv_iload_n hx hb dX0_trailBeginsAt_21 rfl (lv_at hl 1 rfl) ?_
          obtain ⟨hqA, hqB⟩ := hq
          refine lv_icmp_ne (tgt := 27) hx hb dX0_trailBeginsAt_22 (by decide) (fun c4 => ?_) (fun c4 => ?_)
          · have hq := hqB c4
            refine lv_iinc (v := (y2_2 + 1)) (lv' := [(2, .int (y2_2 + 1)), (0, .ref (a 0)), (1, .int x1)]) hx hb dX0_trailBeginsAt_27 hl (k := 2) rfl rfl (by decide) rfl (fun ls hl => ?_)
            refine lv_goto (tgt := 2) hx hb dX0_trailBeginsAt_30 (by decide) ?_
            exact bk2 (y2_2 + 1) _ _ _ hq hP hD hS (lv_sub hl [1, 2, 0] rfl)
          · have hq := hqA c4
            refine lv_iconst (v := 1) hx hb dX0_trailBeginsAt_25 (by decide) ?_
            exact W.zret (v := 1) hx hb hr rfl (fun t ht hW => ⟨⟨1, (), rfl, hq, (xAt_of hP hK hD ht hW)⟩, hS.F ht⟩) hS.2.2 dX0_trailBeginsAt_26
    exact key _ y2_2 H locs ls h0 (Nat.lt_succ_self _) hP hD hS hl
  refine lv_iconst (v := 0) hx hb dX0_trailBeginsAt_0 (by decide) ?_
  refine lv_istore_n (lv' := [(2, .int 0), (0, .ref (a 0)), (1, .int x1)]) hx hb dX0_trailBeginsAt_1 rfl hl (by decide) rfl (fun ls hl => ?_)
  exact J2  0 _ _ _ hq hP hD hS (lv_sub hl [1, 2, 0] rfl)
def wb_X0_hasPlans_2 (v : V_X0)  (y2_1 : Int32) (B2 : Int32 → Prop) (Q : Int32 → Prop) : Prop :=
  (((X0_moleCount v) ≤ y2_1 → Q 0) ∧
  (¬ (X0_moleCount v) ≤ y2_1 → vp_in y2_1 4 ∧ ((X0_molesR v) y2_1.toNatClampNeg) < 4 ∧ (((X1_planned ((X0_moles v) ((X0_molesR v) y2_1.toNatClampNeg))) ≤ 0 → B2 (y2_1 + 1)) ∧
  (¬ (X1_planned ((X0_moles v) ((X0_molesR v) y2_1.toNatClampNeg))) ≤ 0 → Q 1))))
def wp_X0_hasPlans_2 (v : V_X0)  (y2_1 : Int32) (Q : Int32 → Prop) : Prop :=
  ∃ (I : Int32 → Prop) (μ : Int32 → Nat), I y2_1 ∧ ∀ (s0 : Int32), I s0 → wb_X0_hasPlans_2 v  s0 (fun t0 => I t0 ∧ μ t0 < μ s0) Q
def wp_X0_hasPlans (v : V_X0) (Q : Int32 → Prop) : Prop :=
  wp_X0_hasPlans_2 v  0 Q
def q_X0_hasPlans (dC : Nat → ClassId) (dI : Nat → Nat → Nat) (cy : Nat → ClassId) (a b : Nat → Nat) (v : V_X0) (Q : Int32 → Prop) (A : Nat → Prop) : Array Value → State → Outcome → State → Prop := va_Qi (fun (r : Int32) (u : Unit) => Q r ) (fun (u : Unit) t => xAt dC dI cy A (wX0 cy a b v) t) A
set_option maxHeartbeats 4000000 in
set_option maxRecDepth 100000 in
theorem c_X0_hasPlans (l : Launch) (dC : Nat → ClassId) (dI : Nat → Nat → Nat) (cy : Nat → ClassId) (a b : Nat → Nat) (sz : Nat) (v : V_X0) (Q : Int32 → Prop) (hq : wp_X0_hasPlans v Q) : Met l yX0_hasPlans wsX0_hasPlans ({ frames := 0, cells := 0, slots := 0, locals := 0 } : Room) (va_Pc [.ref (a 0)] (xPre dC dI cy (wX0 cy a b v) sz)) (q_X0_hasPlans dC dI cy a b v Q (va_A (wX0 cy a b v) sz)) 0 0 (va_A (wX0 cy a b v) sz) := by
  refine Met.ofW (cc := cX0_hasPlans) (maxL := 2) (ret := (some .boolean)) (by decide) rfl ?_
  intro p e s m args below meth c s₁ B hml hv
  obtain ⟨rfl, hsz, hP, hK, hD0⟩ := hv
  have hx := B.exec
  have hb := B.bytes
  have hr := B.returns
  have hts := atoms_spec (ws := wsX0_hasPlans) B.pre
  have hown : s.vm.findClass RX0 = some m.cls := findClass_of_methodNamed B.named
  have hlocks := B.notSynchronized
  subst hsz
  have hD := hD0.self (sz := s.heap.size)
  generalize hAe : va_A (wX0 cy a b v) s.heap.size = A at hD ⊢
  have hAe0 : ∀ q : Nat, s.heap.size ≤ q → A q := fun q h => by rw [← hAe]; exact Or.inr h
  have hS : va_S A s.heap s.heap [] := va_S.rf
  have hl := lv_entry ([.ref (a 0)]) (n := 2) (Nat.le_of_ble_eq_true rfl)
  rw [lg_entry_eq]
  generalize (lg_sl ([.ref (a 0)]) ++ List.replicate (2 - (lg_sl ([.ref (a 0)])).length) Slot.unset).toArray = ls at hl ⊢
  have hl : lv_has ls 2 [(0, .ref (a 0))] := hl
  have lk0 := hts (Cond.fieldLink RX0 56 "MolesLawn$Lawn" "moleCount" "I") (List.mem_cons_of_mem _ (List.mem_append_left _ (List.mem_append_left _ (List.mem_of_getElem? (i := 0) rfl))))
  have lk1 := hts (Cond.fieldLink RX0 34 "MolesLawn$Lawn" "moles" "[LMolesLawn$Mole;") (List.mem_cons_of_mem _ (List.mem_append_left _ (List.mem_append_left _ (List.mem_of_getElem? (i := 1) rfl))))
  have lk2 := hts (Cond.fieldLink RX0 84 "MolesLawn$Mole" "planned" "I") (List.mem_cons_of_mem _ (List.mem_append_left _ (List.mem_append_left _ (List.mem_of_getElem? (i := 2) rfl))))
  have iK0 : ∀ w ∈ wsX00, w ∈ wsX0_hasPlans := fun _ h => (List.mem_cons_of_mem _ (List.mem_append_left _ (List.mem_append_right _ h)))
  have iK1 : ∀ w ∈ wsX10, w ∈ wsX0_hasPlans := fun _ h => (List.mem_cons_of_mem _ (List.mem_append_right _ h))
  unfold wp_X0_hasPlans at hq
  have J2 : ∀  (y2_1 : Int32) (H : Heap) (locs : List Loc) (ls : Array Slot), wp_X0_hasPlans_2 v  y2_1 Q → va_P (dC, dI) vwCl (wX0 cy a b v) H → va_D A (wX0 cy a b v) → va_S A s.heap H locs → lv_has ls 2 [(0, .ref (a 0)), (1, .int y2_1)] → W p l e (headSpec wsX0_hasPlans ({ frames := 0, cells := 0, slots := 0, locals := 0 } : Room)).room s m ([.ref (a 0)] : List Value).toArray below meth c H locs 0 0 (MQ below (q_X0_hasPlans dC dI cy a b v Q A) ([.ref (a 0)] : List Value).toArray s 0 0 A) (F0 m 2 ls []) := by
    intro  y2_1 H locs ls hq hP hD hS hl
    obtain ⟨I2, μ2, h0, hs2⟩ := hq
    have key : ∀ (n : Nat) (y2_1 : Int32) (H : Heap) (locs : List Loc) (ls : Array Slot), I2 y2_1 → μ2 y2_1 < n → va_P (dC, dI) vwCl (wX0 cy a b v) H → va_D A (wX0 cy a b v) → va_S A s.heap H locs → lv_has ls 2 [(0, .ref (a 0)), (1, .int y2_1)] → W p l e (headSpec wsX0_hasPlans ({ frames := 0, cells := 0, slots := 0, locals := 0 } : Room)).room s m ([.ref (a 0)] : List Value).toArray below meth c H locs 0 0 (MQ below (q_X0_hasPlans dC dI cy a b v Q A) ([.ref (a 0)] : List Value).toArray s 0 0 A) (F0 m 2 ls []) := by
      intro n
      induction n with
      | zero => intro y2_1 H locs ls _ hm; exact absurd hm (Nat.not_lt_zero _)
      | succ n ih =>
        intro y2_1 H locs ls hI hm hP hD hS hl
        have hq := hs2 y2_1 hI
        generalize hB2 : (fun (t0 : Int32) => I2 t0 ∧ μ2 t0 < μ2 y2_1) = B2 at hq
        have bk2 : ∀ (y2_1 : Int32) (H : Heap) (locs : List Loc) (ls : Array Slot), B2 y2_1 → va_P (dC, dI) vwCl (wX0 cy a b v) H → va_D A (wX0 cy a b v) → va_S A s.heap H locs → lv_has ls 2 [(0, .ref (a 0)), (1, .int y2_1)] → W p l e (headSpec wsX0_hasPlans ({ frames := 0, cells := 0, slots := 0, locals := 0 } : Room)).room s m ([.ref (a 0)] : List Value).toArray below meth c H locs 0 0 (MQ below (q_X0_hasPlans dC dI cy a b v Q A) ([.ref (a 0)] : List Value).toArray s 0 0 A) (F0 m 2 ls []) := by
          intro y2_1 H locs ls h
          rw [← hB2] at h
          exact ih y2_1 H locs ls h.1 (Nat.lt_of_lt_of_le h.2 (Nat.le_of_lt_succ hm))
        unfold wb_X0_hasPlans_2 at hq
        refine lv_iload_n hx hb dX0_hasPlans_2 rfl (lv_at hl 1 rfl) ?_
        refine lv_aload_n hx hb dX0_hasPlans_3 rfl (lv_at hl 0 rfl) ?_
        refine va_get (D := (dC, dI)) (ci := 0) (v := .int (X0_moleCount v)) (C := RX0) (T := TX0) (N := 14) hx hb hts iK0 hown hK hP 0 rfl rfl 7 (by decide) lk0 (fun _ h9 => h9) rfl dX0_hasPlans_4 ?_
        obtain ⟨hqA, hqB⟩ := hq
        refine lv_icmp_ge (tgt := 30) hx hb dX0_hasPlans_7 (by decide) (fun c4 => ?_) (fun c4 => ?_)
        · have hq := hqA c4
          refine lv_iconst (v := 0) hx hb dX0_hasPlans_30 (by decide) ?_
          exact W.zret (v := 0) hx hb hr rfl (fun t ht hW => ⟨⟨0, (), rfl, hq, (xAt_of hP hK hD ht hW)⟩, hS.F ht⟩) hS.2.2 dX0_hasPlans_31
        · have hq := hqB c4
          refine lv_aload_n hx hb dX0_hasPlans_10 rfl (lv_at hl 0 rfl) ?_
          refine va_get (D := (dC, dI)) (ci := 0) (v := .ref (a 8)) (C := RX0) (T := TX0) (N := 14) hx hb hts iK0 hown hK hP 0 rfl rfl 6 (by decide) lk1 (fun _ h9 => h9) rfl dX0_hasPlans_11 ?_
          refine lv_iload_n hx hb dX0_hasPlans_14 rfl (lv_at hl 1 rfl) ?_
          obtain ⟨g1, hq⟩ := hq
          obtain ⟨g2, hq⟩ := hq
          refine va_aldq hx hb hK hP 8 2 rfl rfl g1 dX0_hasPlans_15 ?_
          refine va_get (D := (dC, dI)) (ci := 1) (v := .int (X1_planned ((X0_moles v) ((X0_molesR v) y2_1.toNatClampNeg)))) (C := RX1) (T := TX1) (N := 7) hx hb hts iK1 hown hK hP (9 + 3 * ((X0_molesR v) y2_1.toNatClampNeg)) (co_4 (P := fun i19 => (wX0 cy a b v)[(9 + 3 * i19)]? = (wX1 cy (sh a (9 + 3 * i19)) ((X0_moles v) i19))[0]?) rfl rfl rfl rfl g2) rfl 2 (by decide) lk2 (fun _ h9 => h9) rfl dX0_hasPlans_16 ?_
          obtain ⟨hqA, hqB⟩ := hq
          refine lv_if_le (tgt := 24) hx hb dX0_hasPlans_19 (by decide) (fun c3 => ?_) (fun c3 => ?_)
          · have hq := hqA c3
            refine lv_iinc (v := (y2_1 + 1)) (lv' := [(1, .int (y2_1 + 1)), (0, .ref (a 0))]) hx hb dX0_hasPlans_24 hl (k := 1) rfl rfl (by decide) rfl (fun ls hl => ?_)
            refine lv_goto (tgt := 2) hx hb dX0_hasPlans_27 (by decide) ?_
            exact bk2 (y2_1 + 1) _ _ _ hq hP hD hS (lv_sub hl [1, 0] rfl)
          · have hq := hqB c3
            refine lv_iconst (v := 1) hx hb dX0_hasPlans_22 (by decide) ?_
            exact W.zret (v := 1) hx hb hr rfl (fun t ht hW => ⟨⟨1, (), rfl, hq, (xAt_of hP hK hD ht hW)⟩, hS.F ht⟩) hS.2.2 dX0_hasPlans_23
    exact key _ y2_1 H locs ls h0 (Nat.lt_succ_self _) hP hD hS hl
  refine lv_iconst (v := 0) hx hb dX0_hasPlans_0 (by decide) ?_
  refine lv_istore_n (lv' := [(1, .int 0), (0, .ref (a 0))]) hx hb dX0_hasPlans_1 rfl hl (by decide) rfl (fun ls hl => ?_)
  exact J2  0 _ _ _ hq hP hD hS (lv_sub hl [1, 0] rfl)
def wb_X0_setFullAir_7 (v : V_X0) (x1 : Int32) (z7_v_fullAir : Int32) (y7_2 : Int32) (z7_v_moles : (Nat → V_X1)) (B7 : Int32 → (Nat → V_X1) → Prop) (Q : Int32 → (Nat → V_X1) → Prop) : Prop :=
  (((X0_moleCount v) ≤ y7_2 → Q z7_v_fullAir z7_v_moles) ∧
  (¬ (X0_moleCount v) ≤ y7_2 → vp_in y7_2 4 ∧ ((X0_molesR v) y7_2.toNatClampNeg) < 4 ∧ B7 (y7_2 + 1) (va_up z7_v_moles ((X0_molesR v) y7_2.toNatClampNeg) (X1_s4 (z7_v_moles ((X0_molesR v) y7_2.toNatClampNeg)) (if x1 < (X1_air (z7_v_moles ((X0_molesR v) y7_2.toNatClampNeg))) then x1 else (X1_air (z7_v_moles ((X0_molesR v) y7_2.toNatClampNeg))))))))
def wp_X0_setFullAir_7 (v : V_X0) (x1 : Int32) (z7_v_fullAir : Int32) (y7_2 : Int32) (z7_v_moles : (Nat → V_X1)) (Q : Int32 → (Nat → V_X1) → Prop) : Prop :=
  ∃ (I : Int32 → (Nat → V_X1) → Prop) (μ : Int32 → (Nat → V_X1) → Nat), I y7_2 z7_v_moles ∧ ∀ (s0 : Int32) (s1 : (Nat → V_X1)), I s0 s1 → wb_X0_setFullAir_7 v x1 z7_v_fullAir s0 s1 (fun t0 t1 => I t0 t1 ∧ μ t0 t1 < μ s0 s1) Q
def wp_X0_setFullAir (v : V_X0) (x1 : Int32) (Q : Int32 → (Nat → V_X1) → Prop) : Prop :=
  wp_X0_setFullAir_7 v x1 x1 0 (X0_moles v) Q
def q_X0_setFullAir (dC : Nat → ClassId) (dI : Nat → Nat → Nat) (cy : Nat → ClassId) (a b : Nat → Nat) (v : V_X0) (x1 : Int32) (Q : Int32 → (Nat → V_X1) → Prop) (A : Nat → Prop) : Array Value → State → Outcome → State → Prop := va_Qv (fun (u : Int32 × (Nat → V_X1)) => Q u.1 u.2) (fun (u : Int32 × (Nat → V_X1)) t => xAt dC dI cy A (cX0 cy a b (X0_mounds v) (X0_opened v) (X0_roots v) (X0_traps v) (X0_tunnels v) (X0_molesR v) u.2 (X0_moleCount v) u.1 (X0_beats v) (X0_caught v) (X0_gnawed v) (X0_risen v) (X0_fallen v)) t) A
set_option maxHeartbeats 4000000 in
set_option maxRecDepth 100000 in
theorem c_X0_setFullAir (l : Launch) (dC : Nat → ClassId) (dI : Nat → Nat → Nat) (cy : Nat → ClassId) (a b : Nat → Nat) (sz : Nat) (v : V_X0) (x1 : Int32) (Q : Int32 → (Nat → V_X1) → Prop) (hq : wp_X0_setFullAir v x1 Q) : Met l yX0_setFullAir wsX0_setFullAir ({ frames := 1, cells := 0, slots := 0, locals := 26 } : Room) (va_Pc [.ref (a 0), .int x1] (xPre dC dI cy (wX0 cy a b v) sz)) (q_X0_setFullAir dC dI cy a b v x1 Q (va_A (wX0 cy a b v) sz)) 0 0 (va_A (wX0 cy a b v) sz) := by
  refine Met.ofW (cc := cX0_setFullAir) (maxL := 3) (ret := none) (by decide) rfl ?_
  intro p e s m args below meth c s₁ B hml hv
  obtain ⟨rfl, hsz, hP, hK, hD0⟩ := hv
  have hx := B.exec
  have hb := B.bytes
  have hr := B.returns
  have hts := atoms_spec (ws := wsX0_setFullAir) B.pre
  have hown : s.vm.findClass RX0 = some m.cls := findClass_of_methodNamed B.named
  have hlocks := B.notSynchronized
  subst hsz
  have hD := hD0.self (sz := s.heap.size)
  generalize hAe : va_A (wX0 cy a b v) s.heap.size = A at hD ⊢
  have hAe0 : ∀ q : Nat, s.heap.size ≤ q → A q := fun q h => by rw [← hAe]; exact Or.inr h
  have hS : va_S A s.heap s.heap [] := va_S.rf
  have hl := lv_entry ([.ref (a 0), .int x1]) (n := 3) (Nat.le_of_ble_eq_true rfl)
  rw [lg_entry_eq]
  generalize (lg_sl ([.ref (a 0), .int x1]) ++ List.replicate (3 - (lg_sl ([.ref (a 0), .int x1])).length) Slot.unset).toArray = ls at hl ⊢
  have hl : lv_has ls 3 [(0, .ref (a 0)), (1, .int x1)] := hl
  have lk0 := hts (Cond.fieldLink RX0 56 "MolesLawn$Lawn" "moleCount" "I") (List.mem_cons_of_mem _ (List.mem_append_left _ (List.mem_append_left _ (List.mem_of_getElem? (i := 1) rfl))))
  have lk1 := hts (Cond.fieldLink RX0 34 "MolesLawn$Lawn" "moles" "[LMolesLawn$Mole;") (List.mem_cons_of_mem _ (List.mem_append_left _ (List.mem_append_left _ (List.mem_of_getElem? (i := 2) rfl))))
  have lk2 := hts (Cond.fieldLink RX0 87 "MolesLawn$Mole" "air" "I") (List.mem_cons_of_mem _ (List.mem_append_left _ (List.mem_append_left _ (List.mem_of_getElem? (i := 3) rfl))))
  have lk3 := hts (Cond.methodLink RX0 90 Lib.Math.min.name) (List.mem_cons_of_mem _ (List.mem_append_left _ (List.mem_append_left _ (List.mem_of_getElem? (i := 4) rfl))))
  have lk4 := hts (Cond.static Lib.Math.min.name) (List.mem_cons_of_mem _ (List.mem_append_left _ (List.mem_append_left _ (List.mem_of_getElem? (i := 5) rfl))))
  have lk5 := hts (Cond.initialized "java/lang/Math") (List.mem_cons_of_mem _ (List.mem_append_left _ (List.mem_append_left _ (List.mem_of_getElem? (i := 6) rfl))))
  have lk6 := hts (Cond.code Lib.Math.min.name Lib.Math.min.code 2 (some .int)) (List.mem_cons_of_mem _ (List.mem_append_left _ (List.mem_append_left _ (List.mem_of_getElem? (i := 7) rfl))))
  have lk7 := hts (Cond.fieldLink RX0 38 "MolesLawn$Lawn" "fullAir" "I") (List.mem_cons_of_mem _ (List.mem_append_left _ (List.mem_append_left _ (List.mem_of_getElem? (i := 0) rfl))))
  have iK0 : ∀ w ∈ wsX00, w ∈ wsX0_setFullAir := fun _ h => (List.mem_cons_of_mem _ (List.mem_append_left _ (List.mem_append_right _ h)))
  have iK1 : ∀ w ∈ wsX10, w ∈ wsX0_setFullAir := fun _ h => (List.mem_cons_of_mem _ (List.mem_append_right _ h))
  unfold wp_X0_setFullAir at hq
  have J7 : ∀ (z7_v_fullAir : Int32) (y7_2 : Int32) (z7_v_moles : (Nat → V_X1)) (H : Heap) (locs : List Loc) (ls : Array Slot), wp_X0_setFullAir_7 v x1 z7_v_fullAir y7_2 z7_v_moles Q → va_P (dC, dI) vwCl (cX0 cy a b (X0_mounds v) (X0_opened v) (X0_roots v) (X0_traps v) (X0_tunnels v) (X0_molesR v) z7_v_moles (X0_moleCount v) z7_v_fullAir (X0_beats v) (X0_caught v) (X0_gnawed v) (X0_risen v) (X0_fallen v)) H → va_D A (cX0 cy a b (X0_mounds v) (X0_opened v) (X0_roots v) (X0_traps v) (X0_tunnels v) (X0_molesR v) z7_v_moles (X0_moleCount v) z7_v_fullAir (X0_beats v) (X0_caught v) (X0_gnawed v) (X0_risen v) (X0_fallen v)) → va_S A s.heap H locs → lv_has ls 3 [(0, .ref (a 0)), (1, .int x1), (2, .int y7_2)] → W p l e (headSpec wsX0_setFullAir ({ frames := 1, cells := 0, slots := 0, locals := 26 } : Room)).room s m ([.ref (a 0), .int x1] : List Value).toArray below meth c H locs 0 0 (MQ below (q_X0_setFullAir dC dI cy a b v x1 Q A) ([.ref (a 0), .int x1] : List Value).toArray s 0 0 A) (F0 m 7 ls []) := by
    intro z7_v_fullAir y7_2 z7_v_moles H locs ls hq hP hD hS hl
    obtain ⟨I7, μ7, h0, hs7⟩ := hq
    have key : ∀ (n : Nat) (y7_2 : Int32) (z7_v_moles : (Nat → V_X1)) (H : Heap) (locs : List Loc) (ls : Array Slot), I7 y7_2 z7_v_moles → μ7 y7_2 z7_v_moles < n → va_P (dC, dI) vwCl (cX0 cy a b (X0_mounds v) (X0_opened v) (X0_roots v) (X0_traps v) (X0_tunnels v) (X0_molesR v) z7_v_moles (X0_moleCount v) z7_v_fullAir (X0_beats v) (X0_caught v) (X0_gnawed v) (X0_risen v) (X0_fallen v)) H → va_D A (cX0 cy a b (X0_mounds v) (X0_opened v) (X0_roots v) (X0_traps v) (X0_tunnels v) (X0_molesR v) z7_v_moles (X0_moleCount v) z7_v_fullAir (X0_beats v) (X0_caught v) (X0_gnawed v) (X0_risen v) (X0_fallen v)) → va_S A s.heap H locs → lv_has ls 3 [(0, .ref (a 0)), (1, .int x1), (2, .int y7_2)] → W p l e (headSpec wsX0_setFullAir ({ frames := 1, cells := 0, slots := 0, locals := 26 } : Room)).room s m ([.ref (a 0), .int x1] : List Value).toArray below meth c H locs 0 0 (MQ below (q_X0_setFullAir dC dI cy a b v x1 Q A) ([.ref (a 0), .int x1] : List Value).toArray s 0 0 A) (F0 m 7 ls []) := by
      intro n
      induction n with
      | zero => intro y7_2 z7_v_moles H locs ls _ hm; exact absurd hm (Nat.not_lt_zero _)
      | succ n ih =>
        intro y7_2 z7_v_moles H locs ls hI hm hP hD hS hl
        have hq := hs7 y7_2 z7_v_moles hI
        generalize hB7 : (fun (t0 : Int32) (t1 : (Nat → V_X1)) => I7 t0 t1 ∧ μ7 t0 t1 < μ7 y7_2 z7_v_moles) = B7 at hq
        have bk7 : ∀ (y7_2 : Int32) (z7_v_moles : (Nat → V_X1)) (H : Heap) (locs : List Loc) (ls : Array Slot), B7 y7_2 z7_v_moles → va_P (dC, dI) vwCl (cX0 cy a b (X0_mounds v) (X0_opened v) (X0_roots v) (X0_traps v) (X0_tunnels v) (X0_molesR v) z7_v_moles (X0_moleCount v) z7_v_fullAir (X0_beats v) (X0_caught v) (X0_gnawed v) (X0_risen v) (X0_fallen v)) H → va_D A (cX0 cy a b (X0_mounds v) (X0_opened v) (X0_roots v) (X0_traps v) (X0_tunnels v) (X0_molesR v) z7_v_moles (X0_moleCount v) z7_v_fullAir (X0_beats v) (X0_caught v) (X0_gnawed v) (X0_risen v) (X0_fallen v)) → va_S A s.heap H locs → lv_has ls 3 [(0, .ref (a 0)), (1, .int x1), (2, .int y7_2)] → W p l e (headSpec wsX0_setFullAir ({ frames := 1, cells := 0, slots := 0, locals := 26 } : Room)).room s m ([.ref (a 0), .int x1] : List Value).toArray below meth c H locs 0 0 (MQ below (q_X0_setFullAir dC dI cy a b v x1 Q A) ([.ref (a 0), .int x1] : List Value).toArray s 0 0 A) (F0 m 7 ls []) := by
          intro y7_2 z7_v_moles H locs ls h
          rw [← hB7] at h
          exact ih y7_2 z7_v_moles H locs ls h.1 (Nat.lt_of_lt_of_le h.2 (Nat.le_of_lt_succ hm))
        unfold wb_X0_setFullAir_7 at hq
        refine lv_iload_n hx hb dX0_setFullAir_7 rfl (lv_at hl 2 rfl) ?_
        refine lv_aload_n hx hb dX0_setFullAir_8 rfl (lv_at hl 0 rfl) ?_
        refine va_get (D := (dC, dI)) (ci := 0) (v := .int (X0_moleCount v)) (C := RX0) (T := TX0) (N := 14) hx hb hts iK0 hown hK hP 0 rfl rfl 7 (by decide) lk0 (fun _ h9 => h9) rfl dX0_setFullAir_9 ?_
        obtain ⟨hqA, hqB⟩ := hq
        refine lv_icmp_ge (tgt := 43) hx hb dX0_setFullAir_12 (by decide) (fun c3 => ?_) (fun c3 => ?_)
        · have hq := hqA c3
          exact W.vret hx hb hr (fun t ht hW => ⟨⟨(z7_v_fullAir, z7_v_moles), rfl, hq, (xAt_of hP hK hD ht hW)⟩, hS.F ht⟩) hS.2.2 dX0_setFullAir_43
        · have hq := hqB c3
          refine lv_aload_n hx hb dX0_setFullAir_15 rfl (lv_at hl 0 rfl) ?_
          refine va_get (D := (dC, dI)) (ci := 0) (v := .ref (a 8)) (C := RX0) (T := TX0) (N := 14) hx hb hts iK0 hown hK hP 0 rfl rfl 6 (by decide) lk1 (fun _ h9 => h9) rfl dX0_setFullAir_16 ?_
          refine lv_iload_n hx hb dX0_setFullAir_19 rfl (lv_at hl 2 rfl) ?_
          obtain ⟨g1, hq⟩ := hq
          obtain ⟨g2, hq⟩ := hq
          refine va_aldq hx hb hK hP 8 2 rfl rfl g1 dX0_setFullAir_20 ?_
          refine lv_aload_n hx hb dX0_setFullAir_21 rfl (lv_at hl 0 rfl) ?_
          refine va_get (D := (dC, dI)) (ci := 0) (v := .ref (a 8)) (C := RX0) (T := TX0) (N := 14) hx hb hts iK0 hown hK hP 0 rfl rfl 6 (by decide) lk1 (fun _ h9 => h9) rfl dX0_setFullAir_22 ?_
          refine lv_iload_n hx hb dX0_setFullAir_25 rfl (lv_at hl 2 rfl) ?_
          refine va_aldq hx hb hK hP 8 2 rfl rfl g1 dX0_setFullAir_26 ?_
          refine va_get (D := (dC, dI)) (ci := 1) (v := .int (X1_air (z7_v_moles ((X0_molesR v) y7_2.toNatClampNeg)))) (C := RX1) (T := TX1) (N := 7) hx hb hts iK1 hown hK hP (9 + 3 * ((X0_molesR v) y7_2.toNatClampNeg)) (co_4 (P := fun i19 => (cX0 cy a b (X0_mounds v) (X0_opened v) (X0_roots v) (X0_traps v) (X0_tunnels v) (X0_molesR v) z7_v_moles (X0_moleCount v) z7_v_fullAir (X0_beats v) (X0_caught v) (X0_gnawed v) (X0_risen v) (X0_fallen v))[(9 + 3 * i19)]? = (wX1 cy (sh a (9 + 3 * i19)) (z7_v_moles i19))[0]?) rfl rfl rfl rfl g2) rfl 4 (by decide) lk2 (fun _ h9 => h9) rfl dX0_setFullAir_27 ?_
          refine lv_iload_n hx hb dX0_setFullAir_30 rfl (lv_at hl 1 rfl) ?_
          refine va_mmin hx hb (hml.trans hl.1.symm) hown lk3 lk4 lk5 lk6 (Nat.le_of_ble_eq_true rfl) (Nat.le_of_ble_eq_true rfl) (Nat.le_of_ble_eq_true rfl) (Nat.le_of_ble_eq_true rfl) dX0_setFullAir_31 ?_
          refine va_put (D := (dC, dI)) (ci := 1) (v := .int (if x1 < (X1_air (z7_v_moles ((X0_molesR v) y7_2.toNatClampNeg))) then x1 else (X1_air (z7_v_moles ((X0_molesR v) y7_2.toNatClampNeg))))) (ty := .int) (C := RX1) (T := TX1) (N := 7) hx hb hts iK1 tyX1 tyX1_ok nmX1 hown hK hP hD hS (9 + 3 * ((X0_molesR v) y7_2.toNatClampNeg)) (co_4 (P := fun i19 => (cX0 cy a b (X0_mounds v) (X0_opened v) (X0_roots v) (X0_traps v) (X0_tunnels v) (X0_molesR v) z7_v_moles (X0_moleCount v) z7_v_fullAir (X0_beats v) (X0_caught v) (X0_gnawed v) (X0_risen v) (X0_fallen v))[(9 + 3 * i19)]? = (wX1 cy (sh a (9 + 3 * i19)) (z7_v_moles i19))[0]?) rfl rfl rfl rfl g2) rfl 4 (by decide) lk2 (fun _ h9 => h9) rfl (by decide +kernel) rfl rfl (Nat.le_of_ble_eq_true rfl) dX0_setFullAir_34 (fun H locs hP hD hS => ?_)
          have eW := (co_4 (P := fun i19 => (cX0 cy a b (X0_mounds v) (X0_opened v) (X0_roots v) (X0_traps v) (X0_tunnels v) (X0_molesR v) z7_v_moles (X0_moleCount v) z7_v_fullAir (X0_beats v) (X0_caught v) (X0_gnawed v) (X0_risen v) (X0_fallen v)).set (9 + 3 * i19) ((cX1 cy (sh a (9 + 3 * i19)) (X1_directions (z7_v_moles i19)) (X1_trail (z7_v_moles i19)) (X1_planned (z7_v_moles i19)) (X1_trailLength (z7_v_moles i19)) (if x1 < (X1_air (z7_v_moles i19)) then x1 else (X1_air (z7_v_moles i19))) (X1_steps (z7_v_moles i19)) (X1_lost (z7_v_moles i19)))[0]?.getD (0, .inr (0, []))) = (cX0 cy a b (X0_mounds v) (X0_opened v) (X0_roots v) (X0_traps v) (X0_tunnels v) (X0_molesR v) (va_up z7_v_moles i19 ((X1_directions (z7_v_moles i19)), (X1_trail (z7_v_moles i19)), (X1_planned (z7_v_moles i19)), (X1_trailLength (z7_v_moles i19)), (if x1 < (X1_air (z7_v_moles i19)) then x1 else (X1_air (z7_v_moles i19))), (X1_steps (z7_v_moles i19)), (X1_lost (z7_v_moles i19)))) (X0_moleCount v) z7_v_fullAir (X0_beats v) (X0_caught v) (X0_gnawed v) (X0_risen v) (X0_fallen v))) rfl rfl rfl rfl g2)
          have hP : va_P (dC, dI) vwCl (cX0 cy a b (X0_mounds v) (X0_opened v) (X0_roots v) (X0_traps v) (X0_tunnels v) (X0_molesR v) (va_up z7_v_moles ((X0_molesR v) y7_2.toNatClampNeg) ((X1_directions (z7_v_moles ((X0_molesR v) y7_2.toNatClampNeg))), (X1_trail (z7_v_moles ((X0_molesR v) y7_2.toNatClampNeg))), (X1_planned (z7_v_moles ((X0_molesR v) y7_2.toNatClampNeg))), (X1_trailLength (z7_v_moles ((X0_molesR v) y7_2.toNatClampNeg))), (if x1 < (X1_air (z7_v_moles ((X0_molesR v) y7_2.toNatClampNeg))) then x1 else (X1_air (z7_v_moles ((X0_molesR v) y7_2.toNatClampNeg)))), (X1_steps (z7_v_moles ((X0_molesR v) y7_2.toNatClampNeg))), (X1_lost (z7_v_moles ((X0_molesR v) y7_2.toNatClampNeg))))) (X0_moleCount v) z7_v_fullAir (X0_beats v) (X0_caught v) (X0_gnawed v) (X0_risen v) (X0_fallen v)) H := by rw [← eW]; exact hP
          have hD : va_D A (cX0 cy a b (X0_mounds v) (X0_opened v) (X0_roots v) (X0_traps v) (X0_tunnels v) (X0_molesR v) (va_up z7_v_moles ((X0_molesR v) y7_2.toNatClampNeg) ((X1_directions (z7_v_moles ((X0_molesR v) y7_2.toNatClampNeg))), (X1_trail (z7_v_moles ((X0_molesR v) y7_2.toNatClampNeg))), (X1_planned (z7_v_moles ((X0_molesR v) y7_2.toNatClampNeg))), (X1_trailLength (z7_v_moles ((X0_molesR v) y7_2.toNatClampNeg))), (if x1 < (X1_air (z7_v_moles ((X0_molesR v) y7_2.toNatClampNeg))) then x1 else (X1_air (z7_v_moles ((X0_molesR v) y7_2.toNatClampNeg)))), (X1_steps (z7_v_moles ((X0_molesR v) y7_2.toNatClampNeg))), (X1_lost (z7_v_moles ((X0_molesR v) y7_2.toNatClampNeg))))) (X0_moleCount v) z7_v_fullAir (X0_beats v) (X0_caught v) (X0_gnawed v) (X0_risen v) (X0_fallen v)) := by rw [← eW]; exact hD
          refine lv_iinc (v := (y7_2 + 1)) (lv' := [(2, .int (y7_2 + 1)), (0, .ref (a 0)), (1, .int x1)]) hx hb dX0_setFullAir_37 hl (k := 2) rfl rfl (by decide) rfl (fun ls hl => ?_)
          refine lv_goto (tgt := 7) hx hb dX0_setFullAir_40 (by decide) ?_
          exact bk7 (y7_2 + 1) (va_up z7_v_moles ((X0_molesR v) y7_2.toNatClampNeg) (X1_s4 (z7_v_moles ((X0_molesR v) y7_2.toNatClampNeg)) (if x1 < (X1_air (z7_v_moles ((X0_molesR v) y7_2.toNatClampNeg))) then x1 else (X1_air (z7_v_moles ((X0_molesR v) y7_2.toNatClampNeg)))))) _ _ _ hq hP hD hS (lv_sub hl [1, 2, 0] rfl)
    exact key _ y7_2 z7_v_moles H locs ls h0 (Nat.lt_succ_self _) hP hD hS hl
  refine lv_aload_n hx hb dX0_setFullAir_0 rfl (lv_at hl 0 rfl) ?_
  refine lv_iload_n hx hb dX0_setFullAir_1 rfl (lv_at hl 1 rfl) ?_
  refine va_put (D := (dC, dI)) (ci := 0) (v := .int x1) (ty := .int) (C := RX0) (T := TX0) (N := 14) hx hb hts iK0 tyX0 tyX0_ok nmX0 hown hK hP hD hS 0 rfl rfl 8 (by decide) lk7 (fun _ h9 => h9) rfl (by decide +kernel) rfl rfl (Nat.le_of_ble_eq_true rfl) dX0_setFullAir_2 (fun H locs hP hD hS => ?_)
  have hP : va_P (dC, dI) vwCl (cX0 cy a b (X0_mounds v) (X0_opened v) (X0_roots v) (X0_traps v) (X0_tunnels v) (X0_molesR v) (X0_moles v) (X0_moleCount v) x1 (X0_beats v) (X0_caught v) (X0_gnawed v) (X0_risen v) (X0_fallen v)) H := hP
  have hD : va_D A (cX0 cy a b (X0_mounds v) (X0_opened v) (X0_roots v) (X0_traps v) (X0_tunnels v) (X0_molesR v) (X0_moles v) (X0_moleCount v) x1 (X0_beats v) (X0_caught v) (X0_gnawed v) (X0_risen v) (X0_fallen v)) := hD
  refine lv_iconst (v := 0) hx hb dX0_setFullAir_5 (by decide) ?_
  refine lv_istore_n (lv' := [(2, .int 0), (0, .ref (a 0)), (1, .int x1)]) hx hb dX0_setFullAir_6 rfl hl (by decide) rfl (fun ls hl => ?_)
  exact J7 x1 0 (X0_moles v) _ _ _ hq hP hD hS (lv_sub hl [1, 2, 0] rfl)
def wb_X0_copyFrom_89 (v : V_X0) (w : V_X0) (z89_v_moleCount : Int32) (z89_v_mounds : (Nat → Int32)) (z89_v_opened : (Nat → Int32)) (z89_v_roots : (Nat → Int32)) (z89_v_traps : (Nat → Int32)) (z89_v_tunnels : V_X3) (y89_2 : Int32) (z89_v_moles : (Nat → V_X1)) (B89 : Int32 → (Nat → V_X1) → Prop) (Q : Int32 → Int32 → Int32 → Int32 → Int32 → Int32 → (Nat → V_X1) → (Nat → Int32) → (Nat → Int32) → Int32 → (Nat → Int32) → (Nat → Int32) → V_X3 → Prop) : Prop :=
  ((z89_v_moleCount ≤ y89_2 → Q (X0_beats w) (X0_caught w) (X0_fallen w) (X0_fullAir w) (X0_gnawed w) z89_v_moleCount z89_v_moles z89_v_mounds z89_v_opened (X0_risen w) z89_v_roots z89_v_traps z89_v_tunnels) ∧
  (¬ z89_v_moleCount ≤ y89_2 → vp_in y89_2 4 ∧ ((X0_molesR v) y89_2.toNatClampNeg) < 4 ∧ ((X0_molesR w) y89_2.toNatClampNeg) < 4 ∧ wp_X1_copyFrom (z89_v_moles ((X0_molesR v) y89_2.toNatClampNeg)) ((X0_moles w) ((X0_molesR w) y89_2.toNatClampNeg)) (fun z109_v_air z109_v_directions z109_v_planned z109_v_steps z109_v_trail z109_v_trailLength =>
  B89 (y89_2 + 1) (va_up z89_v_moles ((X0_molesR v) y89_2.toNatClampNeg) (z109_v_directions, z109_v_trail, z109_v_planned, z109_v_trailLength, z109_v_air, z109_v_steps, (X1_lost (z89_v_moles ((X0_molesR v) y89_2.toNatClampNeg))))))))
def wp_X0_copyFrom_89 (v : V_X0) (w : V_X0) (z89_v_moleCount : Int32) (z89_v_mounds : (Nat → Int32)) (z89_v_opened : (Nat → Int32)) (z89_v_roots : (Nat → Int32)) (z89_v_traps : (Nat → Int32)) (z89_v_tunnels : V_X3) (y89_2 : Int32) (z89_v_moles : (Nat → V_X1)) (Q : Int32 → Int32 → Int32 → Int32 → Int32 → Int32 → (Nat → V_X1) → (Nat → Int32) → (Nat → Int32) → Int32 → (Nat → Int32) → (Nat → Int32) → V_X3 → Prop) : Prop :=
  ∃ (I : Int32 → (Nat → V_X1) → Prop) (μ : Int32 → (Nat → V_X1) → Nat), I y89_2 z89_v_moles ∧ ∀ (s0 : Int32) (s1 : (Nat → V_X1)), I s0 s1 → wb_X0_copyFrom_89 v w z89_v_moleCount z89_v_mounds z89_v_opened z89_v_roots z89_v_traps z89_v_tunnels s0 s1 (fun t0 t1 => I t0 t1 ∧ μ t0 t1 < μ s0 s1) Q
def wb_X0_copyFrom_2 (v : V_X0) (w : V_X0)  (y2_2 : Int32) (z2_v_mounds : (Nat → Int32)) (z2_v_opened : (Nat → Int32)) (B2 : Int32 → (Nat → Int32) → (Nat → Int32) → Prop) (Q : Int32 → Int32 → Int32 → Int32 → Int32 → Int32 → (Nat → V_X1) → (Nat → Int32) → (Nat → Int32) → Int32 → (Nat → Int32) → (Nat → Int32) → V_X3 → Prop) : Prop :=
  ((64 ≤ y2_2 → wp_X3_copyFrom (X0_tunnels v) (X0_tunnels w) (fun z76_v_cells z76_v_ends z76_v_size z76_v_used =>
  wp_X0_copyFrom_89 v w (X0_moleCount w) z2_v_mounds z2_v_opened (va_cpy (X0_roots w) (X0_roots v) (0 : Int32).toNatClampNeg (0 : Int32).toNatClampNeg (64 : Int32).toNatClampNeg) (va_cpy (X0_traps w) (X0_traps v) (0 : Int32).toNatClampNeg (0 : Int32).toNatClampNeg (64 : Int32).toNatClampNeg) (z76_v_cells, z76_v_ends, z76_v_used, z76_v_size) 0 (X0_moles v) Q)) ∧
  (¬ 64 ≤ y2_2 → vp_in y2_2 64 ∧ bz ((X0_mounds w) y2_2.toNatClampNeg) ∧ bz ((X0_opened w) y2_2.toNatClampNeg) ∧ B2 (y2_2 + 1) (upd z2_v_mounds y2_2.toNatClampNeg ((X0_mounds w) y2_2.toNatClampNeg)) (upd z2_v_opened y2_2.toNatClampNeg ((X0_opened w) y2_2.toNatClampNeg))))
def wp_X0_copyFrom_2 (v : V_X0) (w : V_X0)  (y2_2 : Int32) (z2_v_mounds : (Nat → Int32)) (z2_v_opened : (Nat → Int32)) (Q : Int32 → Int32 → Int32 → Int32 → Int32 → Int32 → (Nat → V_X1) → (Nat → Int32) → (Nat → Int32) → Int32 → (Nat → Int32) → (Nat → Int32) → V_X3 → Prop) : Prop :=
  ∃ (I : Int32 → (Nat → Int32) → (Nat → Int32) → Prop) (μ : Int32 → (Nat → Int32) → (Nat → Int32) → Nat), I y2_2 z2_v_mounds z2_v_opened ∧ ∀ (s0 : Int32) (s1 : (Nat → Int32)) (s2 : (Nat → Int32)), I s0 s1 s2 → wb_X0_copyFrom_2 v w  s0 s1 s2 (fun t0 t1 t2 => I t0 t1 t2 ∧ μ t0 t1 t2 < μ s0 s1 s2) Q
def wp_X0_copyFrom (v : V_X0) (w : V_X0) (Q : Int32 → Int32 → Int32 → Int32 → Int32 → Int32 → (Nat → V_X1) → (Nat → Int32) → (Nat → Int32) → Int32 → (Nat → Int32) → (Nat → Int32) → V_X3 → Prop) : Prop :=
  wp_X0_copyFrom_2 v w  0 (X0_mounds v) (X0_opened v) Q
def q_X0_copyFrom (dC : Nat → ClassId) (dI : Nat → Nat → Nat) (cy : Nat → ClassId) (a b d : Nat → Nat) (v : V_X0) (w : V_X0) (Q : Int32 → Int32 → Int32 → Int32 → Int32 → Int32 → (Nat → V_X1) → (Nat → Int32) → (Nat → Int32) → Int32 → (Nat → Int32) → (Nat → Int32) → V_X3 → Prop) (A : Nat → Prop) : Array Value → State → Outcome → State → Prop := va_Qv (fun (u : Int32 × Int32 × Int32 × Int32 × Int32 × Int32 × (Nat → V_X1) × (Nat → Int32) × (Nat → Int32) × Int32 × (Nat → Int32) × (Nat → Int32) × V_X3) => Q u.1 u.2.1 u.2.2.1 u.2.2.2.1 u.2.2.2.2.1 u.2.2.2.2.2.1 u.2.2.2.2.2.2.1 u.2.2.2.2.2.2.2.1 u.2.2.2.2.2.2.2.2.1 u.2.2.2.2.2.2.2.2.2.1 u.2.2.2.2.2.2.2.2.2.2.1 u.2.2.2.2.2.2.2.2.2.2.2.1 u.2.2.2.2.2.2.2.2.2.2.2.2) (fun (u : Int32 × Int32 × Int32 × Int32 × Int32 × Int32 × (Nat → V_X1) × (Nat → Int32) × (Nat → Int32) × Int32 × (Nat → Int32) × (Nat → Int32) × V_X3) t => xAt dC dI cy A (cX0 cy a b u.2.2.2.2.2.2.2.1 u.2.2.2.2.2.2.2.2.1 u.2.2.2.2.2.2.2.2.2.2.1 u.2.2.2.2.2.2.2.2.2.2.2.1 u.2.2.2.2.2.2.2.2.2.2.2.2 (X0_molesR v) u.2.2.2.2.2.2.1 u.2.2.2.2.2.1 u.2.2.2.1 u.1 u.2.1 u.2.2.2.2.1 u.2.2.2.2.2.2.2.2.2.1 u.2.2.1 ++ wX0 cy d b w) t) A
set_option maxHeartbeats 4000000 in
set_option maxRecDepth 100000 in
theorem c_X0_copyFrom (l : Launch) (dC : Nat → ClassId) (dI : Nat → Nat → Nat) (cy : Nat → ClassId) (a b d : Nat → Nat) (sz : Nat) (v : V_X0) (w : V_X0) (Q : Int32 → Int32 → Int32 → Int32 → Int32 → Int32 → (Nat → V_X1) → (Nat → Int32) → (Nat → Int32) → Int32 → (Nat → Int32) → (Nat → Int32) → V_X3 → Prop) (hq : wp_X0_copyFrom v w Q) : Met l yX0_copyFrom wsX0_copyFrom ({ frames := 2, cells := 0, slots := 0, locals := 47 } : Room) (va_Pc [.ref (a 0), .ref (d 0)] (xPre dC dI cy (wX0 cy a b v ++ wX0 cy d b w) sz)) (q_X0_copyFrom dC dI cy a b d v w Q (va_A (wX0 cy a b v ++ wX0 cy d b w) sz)) 0 0 (va_A (wX0 cy a b v ++ wX0 cy d b w) sz) := by
  refine Met.ofW (cc := cX0_copyFrom) (maxL := 3) (ret := none) (by decide) rfl ?_
  intro p e s m args below meth c s₁ B hml hv
  obtain ⟨rfl, hsz, hP, hK, hD0⟩ := hv
  have hx := B.exec
  have hb := B.bytes
  have hr := B.returns
  have hts := atoms_spec (ws := wsX0_copyFrom) B.pre
  have hown : s.vm.findClass RX0 = some m.cls := findClass_of_methodNamed B.named
  have hlocks := B.notSynchronized
  subst hsz
  have hD := hD0.self (sz := s.heap.size)
  generalize hAe : va_A (wX0 cy a b v ++ wX0 cy d b w) s.heap.size = A at hD ⊢
  have hAe0 : ∀ q : Nat, s.heap.size ≤ q → A q := fun q h => by rw [← hAe]; exact Or.inr h
  have hS : va_S A s.heap s.heap [] := va_S.rf
  have hl := lv_entry ([.ref (a 0), .ref (d 0)]) (n := 3) (Nat.le_of_ble_eq_true rfl)
  rw [lg_entry_eq]
  generalize (lg_sl ([.ref (a 0), .ref (d 0)]) ++ List.replicate (3 - (lg_sl ([.ref (a 0), .ref (d 0)])).length) Slot.unset).toArray = ls at hl ⊢
  have hl : lv_has ls 3 [(0, .ref (a 0)), (1, .ref (d 0))] := hl
  have lk0 := hts (Cond.fieldLink RX0 56 "MolesLawn$Lawn" "moleCount" "I") (List.mem_cons_of_mem _ (List.mem_append_left _ (List.mem_append_left _ (List.mem_append_left _ (List.mem_append_left _ (List.mem_of_getElem? (i := 9) rfl))))))
  have lk1 := hts (Cond.fieldLink RX0 38 "MolesLawn$Lawn" "fullAir" "I") (List.mem_cons_of_mem _ (List.mem_append_left _ (List.mem_append_left _ (List.mem_append_left _ (List.mem_append_left _ (List.mem_of_getElem? (i := 11) rfl))))))
  have lk2 := hts (Cond.fieldLink RX0 62 "MolesLawn$Lawn" "beats" "I") (List.mem_cons_of_mem _ (List.mem_append_left _ (List.mem_append_left _ (List.mem_append_left _ (List.mem_append_left _ (List.mem_of_getElem? (i := 12) rfl))))))
  have lk3 := hts (Cond.fieldLink RX0 65 "MolesLawn$Lawn" "caught" "I") (List.mem_cons_of_mem _ (List.mem_append_left _ (List.mem_append_left _ (List.mem_append_left _ (List.mem_append_left _ (List.mem_of_getElem? (i := 13) rfl))))))
  have lk4 := hts (Cond.fieldLink RX0 68 "MolesLawn$Lawn" "gnawed" "I") (List.mem_cons_of_mem _ (List.mem_append_left _ (List.mem_append_left _ (List.mem_append_left _ (List.mem_append_left _ (List.mem_of_getElem? (i := 14) rfl))))))
  have lk5 := hts (Cond.fieldLink RX0 71 "MolesLawn$Lawn" "risen" "I") (List.mem_cons_of_mem _ (List.mem_append_left _ (List.mem_append_left _ (List.mem_append_left _ (List.mem_append_left _ (List.mem_of_getElem? (i := 15) rfl))))))
  have lk6 := hts (Cond.fieldLink RX0 74 "MolesLawn$Lawn" "fallen" "I") (List.mem_cons_of_mem _ (List.mem_append_left _ (List.mem_append_left _ (List.mem_append_left _ (List.mem_append_left _ (List.mem_of_getElem? (i := 16) rfl))))))
  have lk7 := hts (Cond.fieldLink RX0 34 "MolesLawn$Lawn" "moles" "[LMolesLawn$Mole;") (List.mem_cons_of_mem _ (List.mem_append_left _ (List.mem_append_left _ (List.mem_append_left _ (List.mem_append_left _ (List.mem_of_getElem? (i := 10) rfl))))))
  have lk8 := hts (Cond.fieldLink RX0 18 "MolesLawn$Lawn" "roots" "[I") (List.mem_cons_of_mem _ (List.mem_append_left _ (List.mem_append_left _ (List.mem_append_left _ (List.mem_append_left _ (List.mem_of_getElem? (i := 2) rfl))))))
  have lk9 := hts (Cond.methodLink RX0 46 arraycopyName) (List.mem_cons_of_mem _ (List.mem_append_left _ (List.mem_append_left _ (List.mem_append_left _ (List.mem_append_left _ (List.mem_of_getElem? (i := 3) rfl))))))
  have lk10 := hts (Cond.native arraycopyName) (List.mem_cons_of_mem _ (List.mem_append_left _ (List.mem_append_left _ (List.mem_append_left _ (List.mem_append_left _ (List.mem_of_getElem? (i := 4) rfl))))))
  have lk11 := hts (Cond.static arraycopyName) (List.mem_cons_of_mem _ (List.mem_append_left _ (List.mem_append_left _ (List.mem_append_left _ (List.mem_append_left _ (List.mem_of_getElem? (i := 5) rfl))))))
  have lk12 := hts (Cond.initialized "java/lang/System") (List.mem_cons_of_mem _ (List.mem_append_left _ (List.mem_append_left _ (List.mem_append_left _ (List.mem_append_left _ (List.mem_of_getElem? (i := 6) rfl))))))
  have lk13 := hts (Cond.fieldLink RX0 22 "MolesLawn$Lawn" "traps" "[I") (List.mem_cons_of_mem _ (List.mem_append_left _ (List.mem_append_left _ (List.mem_append_left _ (List.mem_append_left _ (List.mem_of_getElem? (i := 7) rfl))))))
  have lk14 := hts (Cond.fieldLink RX0 28 "MolesLawn$Lawn" "tunnels" "LMolesLawn$Rows;") (List.mem_cons_of_mem _ (List.mem_append_left _ (List.mem_append_left _ (List.mem_append_left _ (List.mem_append_left _ (List.mem_of_getElem? (i := 8) rfl))))))
  have lk15 := hts (Cond.fieldLink RX0 9 "MolesLawn$Lawn" "mounds" "[Z") (List.mem_cons_of_mem _ (List.mem_append_left _ (List.mem_append_left _ (List.mem_append_left _ (List.mem_append_left _ (List.mem_of_getElem? (i := 0) rfl))))))
  have lk16 := hts (Cond.fieldLink RX0 15 "MolesLawn$Lawn" "opened" "[Z") (List.mem_cons_of_mem _ (List.mem_append_left _ (List.mem_append_left _ (List.mem_append_left _ (List.mem_append_left _ (List.mem_of_getElem? (i := 1) rfl))))))
  have iK0 : ∀ w ∈ wsX00, w ∈ wsX0_copyFrom := fun _ h => (List.mem_cons_of_mem _ (List.mem_append_left _ (List.mem_append_left _ (List.mem_append_right _ h))))
  unfold wp_X0_copyFrom at hq
  have J89 : ∀ (z89_v_moleCount : Int32) (z89_v_mounds : (Nat → Int32)) (z89_v_opened : (Nat → Int32)) (z89_v_roots : (Nat → Int32)) (z89_v_traps : (Nat → Int32)) (z89_v_tunnels : V_X3) (y89_2 : Int32) (z89_v_moles : (Nat → V_X1)) (H : Heap) (locs : List Loc) (ls : Array Slot), wp_X0_copyFrom_89 v w z89_v_moleCount z89_v_mounds z89_v_opened z89_v_roots z89_v_traps z89_v_tunnels y89_2 z89_v_moles Q → va_P (dC, dI) vwCl (cX0 cy a b z89_v_mounds z89_v_opened z89_v_roots z89_v_traps z89_v_tunnels (X0_molesR v) z89_v_moles z89_v_moleCount (X0_fullAir v) (X0_beats v) (X0_caught v) (X0_gnawed v) (X0_risen v) (X0_fallen v) ++ wX0 cy d b w) H → va_D A (cX0 cy a b z89_v_mounds z89_v_opened z89_v_roots z89_v_traps z89_v_tunnels (X0_molesR v) z89_v_moles z89_v_moleCount (X0_fullAir v) (X0_beats v) (X0_caught v) (X0_gnawed v) (X0_risen v) (X0_fallen v) ++ wX0 cy d b w) → va_S A s.heap H locs → lv_has ls 3 [(0, .ref (a 0)), (1, .ref (d 0)), (2, .int y89_2)] → W p l e (headSpec wsX0_copyFrom ({ frames := 2, cells := 0, slots := 0, locals := 47 } : Room)).room s m ([.ref (a 0), .ref (d 0)] : List Value).toArray below meth c H locs 0 0 (MQ below (q_X0_copyFrom dC dI cy a b d v w Q A) ([.ref (a 0), .ref (d 0)] : List Value).toArray s 0 0 A) (F0 m 89 ls []) := by
    intro z89_v_moleCount z89_v_mounds z89_v_opened z89_v_roots z89_v_traps z89_v_tunnels y89_2 z89_v_moles H locs ls hq hP hD hS hl
    obtain ⟨I89, μ89, h0, hs89⟩ := hq
    have key : ∀ (n : Nat) (y89_2 : Int32) (z89_v_moles : (Nat → V_X1)) (H : Heap) (locs : List Loc) (ls : Array Slot), I89 y89_2 z89_v_moles → μ89 y89_2 z89_v_moles < n → va_P (dC, dI) vwCl (cX0 cy a b z89_v_mounds z89_v_opened z89_v_roots z89_v_traps z89_v_tunnels (X0_molesR v) z89_v_moles z89_v_moleCount (X0_fullAir v) (X0_beats v) (X0_caught v) (X0_gnawed v) (X0_risen v) (X0_fallen v) ++ wX0 cy d b w) H → va_D A (cX0 cy a b z89_v_mounds z89_v_opened z89_v_roots z89_v_traps z89_v_tunnels (X0_molesR v) z89_v_moles z89_v_moleCount (X0_fullAir v) (X0_beats v) (X0_caught v) (X0_gnawed v) (X0_risen v) (X0_fallen v) ++ wX0 cy d b w) → va_S A s.heap H locs → lv_has ls 3 [(0, .ref (a 0)), (1, .ref (d 0)), (2, .int y89_2)] → W p l e (headSpec wsX0_copyFrom ({ frames := 2, cells := 0, slots := 0, locals := 47 } : Room)).room s m ([.ref (a 0), .ref (d 0)] : List Value).toArray below meth c H locs 0 0 (MQ below (q_X0_copyFrom dC dI cy a b d v w Q A) ([.ref (a 0), .ref (d 0)] : List Value).toArray s 0 0 A) (F0 m 89 ls []) := by
      intro n
      induction n with
      | zero => intro y89_2 z89_v_moles H locs ls _ hm; exact absurd hm (Nat.not_lt_zero _)
      | succ n ih =>
        intro y89_2 z89_v_moles H locs ls hI hm hP hD hS hl
        have hq := hs89 y89_2 z89_v_moles hI
        generalize hB89 : (fun (t0 : Int32) (t1 : (Nat → V_X1)) => I89 t0 t1 ∧ μ89 t0 t1 < μ89 y89_2 z89_v_moles) = B89 at hq
        have bk89 : ∀ (y89_2 : Int32) (z89_v_moles : (Nat → V_X1)) (H : Heap) (locs : List Loc) (ls : Array Slot), B89 y89_2 z89_v_moles → va_P (dC, dI) vwCl (cX0 cy a b z89_v_mounds z89_v_opened z89_v_roots z89_v_traps z89_v_tunnels (X0_molesR v) z89_v_moles z89_v_moleCount (X0_fullAir v) (X0_beats v) (X0_caught v) (X0_gnawed v) (X0_risen v) (X0_fallen v) ++ wX0 cy d b w) H → va_D A (cX0 cy a b z89_v_mounds z89_v_opened z89_v_roots z89_v_traps z89_v_tunnels (X0_molesR v) z89_v_moles z89_v_moleCount (X0_fullAir v) (X0_beats v) (X0_caught v) (X0_gnawed v) (X0_risen v) (X0_fallen v) ++ wX0 cy d b w) → va_S A s.heap H locs → lv_has ls 3 [(0, .ref (a 0)), (1, .ref (d 0)), (2, .int y89_2)] → W p l e (headSpec wsX0_copyFrom ({ frames := 2, cells := 0, slots := 0, locals := 47 } : Room)).room s m ([.ref (a 0), .ref (d 0)] : List Value).toArray below meth c H locs 0 0 (MQ below (q_X0_copyFrom dC dI cy a b d v w Q A) ([.ref (a 0), .ref (d 0)] : List Value).toArray s 0 0 A) (F0 m 89 ls []) := by
          intro y89_2 z89_v_moles H locs ls h
          rw [← hB89] at h
          exact ih y89_2 z89_v_moles H locs ls h.1 (Nat.lt_of_lt_of_le h.2 (Nat.le_of_lt_succ hm))
        unfold wb_X0_copyFrom_89 at hq
        refine lv_iload_n hx hb dX0_copyFrom_89 rfl (lv_at hl 2 rfl) ?_
        refine lv_aload_n hx hb dX0_copyFrom_90 rfl (lv_at hl 0 rfl) ?_
        refine va_get (D := (dC, dI)) (ci := 0) (v := .int z89_v_moleCount) (C := RX0) (T := TX0) (N := 14) hx hb hts iK0 hown hK hP 0 rfl rfl 7 (by decide) lk0 (fun _ h9 => h9) rfl dX0_copyFrom_91 ?_
        obtain ⟨hqA, hqB⟩ := hq
        refine lv_icmp_ge (tgt := 118) hx hb dX0_copyFrom_94 (by decide) (fun c4 => ?_) (fun c4 => ?_)
        · have hq := hqA c4
          refine lv_aload_n hx hb dX0_copyFrom_118 rfl (lv_at hl 0 rfl) ?_
          refine lv_aload_n hx hb dX0_copyFrom_119 rfl (lv_at hl 1 rfl) ?_
          refine va_get (D := (dC, dI)) (ci := 0) (v := .int (X0_fullAir w)) (C := RX0) (T := TX0) (N := 14) hx hb hts iK0 hown hK hP 21 rfl rfl 8 (by decide) lk1 (fun _ h9 => h9) rfl dX0_copyFrom_120 ?_
          refine va_put (D := (dC, dI)) (ci := 0) (v := .int (X0_fullAir w)) (ty := .int) (C := RX0) (T := TX0) (N := 14) hx hb hts iK0 tyX0 tyX0_ok nmX0 hown hK hP hD hS 0 rfl rfl 8 (by decide) lk1 (fun _ h9 => h9) rfl (by decide +kernel) rfl rfl (Nat.le_of_ble_eq_true rfl) dX0_copyFrom_123 (fun H locs hP hD hS => ?_)
          have hP : va_P (dC, dI) vwCl (cX0 cy a b z89_v_mounds z89_v_opened z89_v_roots z89_v_traps z89_v_tunnels (X0_molesR v) z89_v_moles z89_v_moleCount (X0_fullAir w) (X0_beats v) (X0_caught v) (X0_gnawed v) (X0_risen v) (X0_fallen v) ++ wX0 cy d b w) H := hP
          have hD : va_D A (cX0 cy a b z89_v_mounds z89_v_opened z89_v_roots z89_v_traps z89_v_tunnels (X0_molesR v) z89_v_moles z89_v_moleCount (X0_fullAir w) (X0_beats v) (X0_caught v) (X0_gnawed v) (X0_risen v) (X0_fallen v) ++ wX0 cy d b w) := hD
          refine lv_aload_n hx hb dX0_copyFrom_126 rfl (lv_at hl 0 rfl) ?_
          refine lv_aload_n hx hb dX0_copyFrom_127 rfl (lv_at hl 1 rfl) ?_
          refine va_get (D := (dC, dI)) (ci := 0) (v := .int (X0_beats w)) (C := RX0) (T := TX0) (N := 14) hx hb hts iK0 hown hK hP 21 rfl rfl 9 (by decide) lk2 (fun _ h9 => h9) rfl dX0_copyFrom_128 ?_
          refine va_put (D := (dC, dI)) (ci := 0) (v := .int (X0_beats w)) (ty := .int) (C := RX0) (T := TX0) (N := 14) hx hb hts iK0 tyX0 tyX0_ok nmX0 hown hK hP hD hS 0 rfl rfl 9 (by decide) lk2 (fun _ h9 => h9) rfl (by decide +kernel) rfl rfl (Nat.le_of_ble_eq_true rfl) dX0_copyFrom_131 (fun H locs hP hD hS => ?_)
          have hP : va_P (dC, dI) vwCl (cX0 cy a b z89_v_mounds z89_v_opened z89_v_roots z89_v_traps z89_v_tunnels (X0_molesR v) z89_v_moles z89_v_moleCount (X0_fullAir w) (X0_beats w) (X0_caught v) (X0_gnawed v) (X0_risen v) (X0_fallen v) ++ wX0 cy d b w) H := hP
          have hD : va_D A (cX0 cy a b z89_v_mounds z89_v_opened z89_v_roots z89_v_traps z89_v_tunnels (X0_molesR v) z89_v_moles z89_v_moleCount (X0_fullAir w) (X0_beats w) (X0_caught v) (X0_gnawed v) (X0_risen v) (X0_fallen v) ++ wX0 cy d b w) := hD
          refine lv_aload_n hx hb dX0_copyFrom_134 rfl (lv_at hl 0 rfl) ?_
          refine lv_aload_n hx hb dX0_copyFrom_135 rfl (lv_at hl 1 rfl) ?_
          refine va_get (D := (dC, dI)) (ci := 0) (v := .int (X0_caught w)) (C := RX0) (T := TX0) (N := 14) hx hb hts iK0 hown hK hP 21 rfl rfl 10 (by decide) lk3 (fun _ h9 => h9) rfl dX0_copyFrom_136 ?_
          refine va_put (D := (dC, dI)) (ci := 0) (v := .int (X0_caught w)) (ty := .int) (C := RX0) (T := TX0) (N := 14) hx hb hts iK0 tyX0 tyX0_ok nmX0 hown hK hP hD hS 0 rfl rfl 10 (by decide) lk3 (fun _ h9 => h9) rfl (by decide +kernel) rfl rfl (Nat.le_of_ble_eq_true rfl) dX0_copyFrom_139 (fun H locs hP hD hS => ?_)
          have hP : va_P (dC, dI) vwCl (cX0 cy a b z89_v_mounds z89_v_opened z89_v_roots z89_v_traps z89_v_tunnels (X0_molesR v) z89_v_moles z89_v_moleCount (X0_fullAir w) (X0_beats w) (X0_caught w) (X0_gnawed v) (X0_risen v) (X0_fallen v) ++ wX0 cy d b w) H := hP
          have hD : va_D A (cX0 cy a b z89_v_mounds z89_v_opened z89_v_roots z89_v_traps z89_v_tunnels (X0_molesR v) z89_v_moles z89_v_moleCount (X0_fullAir w) (X0_beats w) (X0_caught w) (X0_gnawed v) (X0_risen v) (X0_fallen v) ++ wX0 cy d b w) := hD
          refine lv_aload_n hx hb dX0_copyFrom_142 rfl (lv_at hl 0 rfl) ?_
          refine lv_aload_n hx hb dX0_copyFrom_143 rfl (lv_at hl 1 rfl) ?_
          refine va_get (D := (dC, dI)) (ci := 0) (v := .int (X0_gnawed w)) (C := RX0) (T := TX0) (N := 14) hx hb hts iK0 hown hK hP 21 rfl rfl 11 (by decide) lk4 (fun _ h9 => h9) rfl dX0_copyFrom_144 ?_
          refine va_put (D := (dC, dI)) (ci := 0) (v := .int (X0_gnawed w)) (ty := .int) (C := RX0) (T := TX0) (N := 14) hx hb hts iK0 tyX0 tyX0_ok nmX0 hown hK hP hD hS 0 rfl rfl 11 (by decide) lk4 (fun _ h9 => h9) rfl (by decide +kernel) rfl rfl (Nat.le_of_ble_eq_true rfl) dX0_copyFrom_147 (fun H locs hP hD hS => ?_)
          have hP : va_P (dC, dI) vwCl (cX0 cy a b z89_v_mounds z89_v_opened z89_v_roots z89_v_traps z89_v_tunnels (X0_molesR v) z89_v_moles z89_v_moleCount (X0_fullAir w) (X0_beats w) (X0_caught w) (X0_gnawed w) (X0_risen v) (X0_fallen v) ++ wX0 cy d b w) H := hP
          have hD : va_D A (cX0 cy a b z89_v_mounds z89_v_opened z89_v_roots z89_v_traps z89_v_tunnels (X0_molesR v) z89_v_moles z89_v_moleCount (X0_fullAir w) (X0_beats w) (X0_caught w) (X0_gnawed w) (X0_risen v) (X0_fallen v) ++ wX0 cy d b w) := hD
          refine lv_aload_n hx hb dX0_copyFrom_150 rfl (lv_at hl 0 rfl) ?_
          refine lv_aload_n hx hb dX0_copyFrom_151 rfl (lv_at hl 1 rfl) ?_
          refine va_get (D := (dC, dI)) (ci := 0) (v := .int (X0_risen w)) (C := RX0) (T := TX0) (N := 14) hx hb hts iK0 hown hK hP 21 rfl rfl 12 (by decide) lk5 (fun _ h9 => h9) rfl dX0_copyFrom_152 ?_
          refine va_put (D := (dC, dI)) (ci := 0) (v := .int (X0_risen w)) (ty := .int) (C := RX0) (T := TX0) (N := 14) hx hb hts iK0 tyX0 tyX0_ok nmX0 hown hK hP hD hS 0 rfl rfl 12 (by decide) lk5 (fun _ h9 => h9) rfl (by decide +kernel) rfl rfl (Nat.le_of_ble_eq_true rfl) dX0_copyFrom_155 (fun H locs hP hD hS => ?_)
          have hP : va_P (dC, dI) vwCl (cX0 cy a b z89_v_mounds z89_v_opened z89_v_roots z89_v_traps z89_v_tunnels (X0_molesR v) z89_v_moles z89_v_moleCount (X0_fullAir w) (X0_beats w) (X0_caught w) (X0_gnawed w) (X0_risen w) (X0_fallen v) ++ wX0 cy d b w) H := hP
          have hD : va_D A (cX0 cy a b z89_v_mounds z89_v_opened z89_v_roots z89_v_traps z89_v_tunnels (X0_molesR v) z89_v_moles z89_v_moleCount (X0_fullAir w) (X0_beats w) (X0_caught w) (X0_gnawed w) (X0_risen w) (X0_fallen v) ++ wX0 cy d b w) := hD
          refine lv_aload_n hx hb dX0_copyFrom_158 rfl (lv_at hl 0 rfl) ?_
          refine lv_aload_n hx hb dX0_copyFrom_159 rfl (lv_at hl 1 rfl) ?_
          refine va_get (D := (dC, dI)) (ci := 0) (v := .int (X0_fallen w)) (C := RX0) (T := TX0) (N := 14) hx hb hts iK0 hown hK hP 21 rfl rfl 13 (by decide) lk6 (fun _ h9 => h9) rfl dX0_copyFrom_160 ?_
          refine va_put (D := (dC, dI)) (ci := 0) (v := .int (X0_fallen w)) (ty := .int) (C := RX0) (T := TX0) (N := 14) hx hb hts iK0 tyX0 tyX0_ok nmX0 hown hK hP hD hS 0 rfl rfl 13 (by decide) lk6 (fun _ h9 => h9) rfl (by decide +kernel) rfl rfl (Nat.le_of_ble_eq_true rfl) dX0_copyFrom_163 (fun H locs hP hD hS => ?_)
          have hP : va_P (dC, dI) vwCl (cX0 cy a b z89_v_mounds z89_v_opened z89_v_roots z89_v_traps z89_v_tunnels (X0_molesR v) z89_v_moles z89_v_moleCount (X0_fullAir w) (X0_beats w) (X0_caught w) (X0_gnawed w) (X0_risen w) (X0_fallen w) ++ wX0 cy d b w) H := hP
          have hD : va_D A (cX0 cy a b z89_v_mounds z89_v_opened z89_v_roots z89_v_traps z89_v_tunnels (X0_molesR v) z89_v_moles z89_v_moleCount (X0_fullAir w) (X0_beats w) (X0_caught w) (X0_gnawed w) (X0_risen w) (X0_fallen w) ++ wX0 cy d b w) := hD
          exact W.vret hx hb hr (fun t ht hW => ⟨⟨((X0_beats w), (X0_caught w), (X0_fallen w), (X0_fullAir w), (X0_gnawed w), z89_v_moleCount, z89_v_moles, z89_v_mounds, z89_v_opened, (X0_risen w), z89_v_roots, z89_v_traps, z89_v_tunnels), rfl, hq, (xAt_of hP hK hD ht hW)⟩, hS.F ht⟩) hS.2.2 dX0_copyFrom_166
        · have hq := hqB c4
          refine lv_aload_n hx hb dX0_copyFrom_97 rfl (lv_at hl 0 rfl) ?_
          refine va_get (D := (dC, dI)) (ci := 0) (v := .ref (a 8)) (C := RX0) (T := TX0) (N := 14) hx hb hts iK0 hown hK hP 0 rfl rfl 6 (by decide) lk7 (fun _ h9 => h9) rfl dX0_copyFrom_98 ?_
          refine lv_iload_n hx hb dX0_copyFrom_101 rfl (lv_at hl 2 rfl) ?_
          obtain ⟨g1, hq⟩ := hq
          obtain ⟨g2, hq⟩ := hq
          refine va_aldq hx hb hK hP 8 2 rfl rfl g1 dX0_copyFrom_102 ?_
          refine lv_aload_n hx hb dX0_copyFrom_103 rfl (lv_at hl 1 rfl) ?_
          refine va_get (D := (dC, dI)) (ci := 0) (v := .ref (d 8)) (C := RX0) (T := TX0) (N := 14) hx hb hts iK0 hown hK hP 21 rfl rfl 6 (by decide) lk7 (fun _ h9 => h9) rfl dX0_copyFrom_104 ?_
          refine lv_iload_n hx hb dX0_copyFrom_107 rfl (lv_at hl 2 rfl) ?_
          obtain ⟨g3, hq⟩ := hq
          refine va_aldq hx hb hK hP 29 2 rfl rfl g1 dX0_copyFrom_108 ?_
          have hC : (([(9 + 3 * ((X0_molesR v) y89_2.toNatClampNeg)), (10 + 3 * ((X0_molesR v) y89_2.toNatClampNeg)), (11 + 3 * ((X0_molesR v) y89_2.toNatClampNeg)), (30 + 3 * ((X0_molesR w) y89_2.toNatClampNeg)), (31 + 3 * ((X0_molesR w) y89_2.toNatClampNeg)), (32 + 3 * ((X0_molesR w) y89_2.toNatClampNeg))] : List Nat).map (fun i => (cX0 cy a b z89_v_mounds z89_v_opened z89_v_roots z89_v_traps z89_v_tunnels (X0_molesR v) z89_v_moles z89_v_moleCount (X0_fullAir v) (X0_beats v) (X0_caught v) (X0_gnawed v) (X0_risen v) (X0_fallen v) ++ wX0 cy d b w)[i]?)) = (wX1 cy (sh a (9 + 3 * ((X0_molesR v) y89_2.toNatClampNeg))) (z89_v_moles ((X0_molesR v) y89_2.toNatClampNeg)) ++ wX1 cy (sh d (9 + 3 * ((X0_molesR w) y89_2.toNatClampNeg))) ((X0_moles w) ((X0_molesR w) y89_2.toNatClampNeg))).map some := (co_4 (P := fun i29 => (([(9 + 3 * i29), (10 + 3 * i29), (11 + 3 * i29), (30 + 3 * ((X0_molesR w) y89_2.toNatClampNeg)), (31 + 3 * ((X0_molesR w) y89_2.toNatClampNeg)), (32 + 3 * ((X0_molesR w) y89_2.toNatClampNeg))] : List Nat).map (fun i => (cX0 cy a b z89_v_mounds z89_v_opened z89_v_roots z89_v_traps z89_v_tunnels (X0_molesR v) z89_v_moles z89_v_moleCount (X0_fullAir v) (X0_beats v) (X0_caught v) (X0_gnawed v) (X0_risen v) (X0_fallen v) ++ wX0 cy d b w)[i]?)) = (wX1 cy (sh a (9 + 3 * i29)) (z89_v_moles i29) ++ wX1 cy (sh d (9 + 3 * ((X0_molesR w) y89_2.toNatClampNeg))) ((X0_moles w) ((X0_molesR w) y89_2.toNatClampNeg))).map some) (co_4 (P := fun i19 => (([(9 + 3 * 0), (10 + 3 * 0), (11 + 3 * 0), (30 + 3 * i19), (31 + 3 * i19), (32 + 3 * i19)] : List Nat).map (fun i => (cX0 cy a b z89_v_mounds z89_v_opened z89_v_roots z89_v_traps z89_v_tunnels (X0_molesR v) z89_v_moles z89_v_moleCount (X0_fullAir v) (X0_beats v) (X0_caught v) (X0_gnawed v) (X0_risen v) (X0_fallen v) ++ wX0 cy d b w)[i]?)) = (wX1 cy (sh a (9 + 3 * 0)) (z89_v_moles 0) ++ wX1 cy (sh d (9 + 3 * i19)) ((X0_moles w) i19)).map some) rfl rfl rfl rfl g3) (co_4 (P := fun i19 => (([(9 + 3 * 1), (10 + 3 * 1), (11 + 3 * 1), (30 + 3 * i19), (31 + 3 * i19), (32 + 3 * i19)] : List Nat).map (fun i => (cX0 cy a b z89_v_mounds z89_v_opened z89_v_roots z89_v_traps z89_v_tunnels (X0_molesR v) z89_v_moles z89_v_moleCount (X0_fullAir v) (X0_beats v) (X0_caught v) (X0_gnawed v) (X0_risen v) (X0_fallen v) ++ wX0 cy d b w)[i]?)) = (wX1 cy (sh a (9 + 3 * 1)) (z89_v_moles 1) ++ wX1 cy (sh d (9 + 3 * i19)) ((X0_moles w) i19)).map some) rfl rfl rfl rfl g3) (co_4 (P := fun i19 => (([(9 + 3 * 2), (10 + 3 * 2), (11 + 3 * 2), (30 + 3 * i19), (31 + 3 * i19), (32 + 3 * i19)] : List Nat).map (fun i => (cX0 cy a b z89_v_mounds z89_v_opened z89_v_roots z89_v_traps z89_v_tunnels (X0_molesR v) z89_v_moles z89_v_moleCount (X0_fullAir v) (X0_beats v) (X0_caught v) (X0_gnawed v) (X0_risen v) (X0_fallen v) ++ wX0 cy d b w)[i]?)) = (wX1 cy (sh a (9 + 3 * 2)) (z89_v_moles 2) ++ wX1 cy (sh d (9 + 3 * i19)) ((X0_moles w) i19)).map some) rfl rfl rfl rfl g3) (co_4 (P := fun i19 => (([(9 + 3 * 3), (10 + 3 * 3), (11 + 3 * 3), (30 + 3 * i19), (31 + 3 * i19), (32 + 3 * i19)] : List Nat).map (fun i => (cX0 cy a b z89_v_mounds z89_v_opened z89_v_roots z89_v_traps z89_v_tunnels (X0_molesR v) z89_v_moles z89_v_moleCount (X0_fullAir v) (X0_beats v) (X0_caught v) (X0_gnawed v) (X0_risen v) (X0_fallen v) ++ wX0 cy d b w)[i]?)) = (wX1 cy (sh a (9 + 3 * 3)) (z89_v_moles 3) ++ wX1 cy (sh d (9 + 3 * i19)) ((X0_moles w) i19)).map some) rfl rfl rfl rfl g3) g2)
          have hN : va_nd [(9 + 3 * ((X0_molesR v) y89_2.toNatClampNeg)), (10 + 3 * ((X0_molesR v) y89_2.toNatClampNeg)), (11 + 3 * ((X0_molesR v) y89_2.toNatClampNeg)), (30 + 3 * ((X0_molesR w) y89_2.toNatClampNeg)), (31 + 3 * ((X0_molesR w) y89_2.toNatClampNeg)), (32 + 3 * ((X0_molesR w) y89_2.toNatClampNeg))] = true := (co_4 (P := fun i29 => va_nd [(9 + 3 * i29), (10 + 3 * i29), (11 + 3 * i29), (30 + 3 * ((X0_molesR w) y89_2.toNatClampNeg)), (31 + 3 * ((X0_molesR w) y89_2.toNatClampNeg)), (32 + 3 * ((X0_molesR w) y89_2.toNatClampNeg))] = true) (co_4 (P := fun i19 => va_nd [(9 + 3 * 0), (10 + 3 * 0), (11 + 3 * 0), (30 + 3 * i19), (31 + 3 * i19), (32 + 3 * i19)] = true) rfl rfl rfl rfl g3) (co_4 (P := fun i19 => va_nd [(9 + 3 * 1), (10 + 3 * 1), (11 + 3 * 1), (30 + 3 * i19), (31 + 3 * i19), (32 + 3 * i19)] = true) rfl rfl rfl rfl g3) (co_4 (P := fun i19 => va_nd [(9 + 3 * 2), (10 + 3 * 2), (11 + 3 * 2), (30 + 3 * i19), (31 + 3 * i19), (32 + 3 * i19)] = true) rfl rfl rfl rfl g3) (co_4 (P := fun i19 => va_nd [(9 + 3 * 3), (10 + 3 * 3), (11 + 3 * 3), (30 + 3 * i19), (31 + 3 * i19), (32 + 3 * i19)] = true) rfl rfl rfl rfl g3) g2)
          have hPc := xsubP hP hC
          have hDc := xsubD hD hN hC
          have hFc := va_free (wc := (wX1 cy (sh a (9 + 3 * ((X0_molesR v) y89_2.toNatClampNeg))) (z89_v_moles ((X0_molesR v) y89_2.toNatClampNeg)) ++ wX1 cy (sh d (9 + 3 * ((X0_molesR w) y89_2.toNatClampNeg))) ((X0_moles w) ((X0_molesR w) y89_2.toNatClampNeg)))) hD hS hAe0 [(9 + 3 * ((X0_molesR v) y89_2.toNatClampNeg)), (10 + 3 * ((X0_molesR v) y89_2.toNatClampNeg)), (11 + 3 * ((X0_molesR v) y89_2.toNatClampNeg)), (30 + 3 * ((X0_molesR w) y89_2.toNatClampNeg)), (31 + 3 * ((X0_molesR w) y89_2.toNatClampNeg)), (32 + 3 * ((X0_molesR w) y89_2.toNatClampNeg))] hC
          refine va_callv (va_runV (As := [.ref (d (9 + 3 * ((X0_molesR w) y89_2.toNatClampNeg)))]) (rest := []) ⟨hx, hb, hml, hown, hts⟩ (c_X1_copyFrom l dC dI cy (sh a (9 + 3 * ((X0_molesR v) y89_2.toNatClampNeg))) (sh d (9 + 3 * ((X0_molesR w) y89_2.toNatClampNeg))) _ (z89_v_moles ((X0_molesR v) y89_2.toNatClampNeg)) ((X0_moles w) ((X0_molesR w) y89_2.toNatClampNeg)) _ hq) (cwV 1 hts gX0_copyFrom_X1_copyFrom rfl rfl rfl (by decide +kernel) ⟨Nat.le_of_ble_eq_true rfl, Nat.le_of_ble_eq_true rfl⟩) ⟨xPre_blind, va_recv hK hP (ci := 1) (q0 := (9 + 3 * ((X0_molesR v) y89_2.toNatClampNeg))) rfl (co_4 (P := fun i19 => (cX0 cy a b z89_v_mounds z89_v_opened z89_v_roots z89_v_traps z89_v_tunnels (X0_molesR v) z89_v_moles z89_v_moleCount (X0_fullAir v) (X0_beats v) (X0_caught v) (X0_gnawed v) (X0_risen v) (X0_fallen v) ++ wX0 cy d b w)[(9 + 3 * i19)]? = (wX1 cy (sh a (9 + 3 * i19)) (z89_v_moles i19))[0]?) rfl rfl rfl rfl g2), xPre_of hPc hK hDc⟩ rfl rfl hl.1 rfl (lv_room (Nat.le_of_ble_eq_true rfl)) dX0_copyFrom_109 ⟨Nat.le_of_ble_eq_true rfl, Nat.le_of_ble_eq_true rfl⟩) hS (fun q _ h => hFc q h) hFc (fun u9 t H locs ht hvm hq hB hz1 hk1 hS => ?_)
          obtain ⟨z109_v_air, z109_v_directions, z109_v_planned, z109_v_steps, z109_v_trail, z109_v_trailLength⟩ := u9
          obtain ⟨hP1, -, hD1⟩ := hB
          rw [ht] at hP1
          obtain ⟨hP, hD⟩ := xj hP hD [(9 + 3 * ((X0_molesR v) y89_2.toNatClampNeg)), (10 + 3 * ((X0_molesR v) y89_2.toNatClampNeg)), (11 + 3 * ((X0_molesR v) y89_2.toNatClampNeg)), (30 + 3 * ((X0_molesR w) y89_2.toNatClampNeg)), (31 + 3 * ((X0_molesR w) y89_2.toNatClampNeg)), (32 + 3 * ((X0_molesR w) y89_2.toNatClampNeg))] (cX1 cy (sh a (9 + 3 * ((X0_molesR v) y89_2.toNatClampNeg))) z109_v_directions z109_v_trail z109_v_planned z109_v_trailLength z109_v_air z109_v_steps (X1_lost (z89_v_moles ((X0_molesR v) y89_2.toNatClampNeg))) ++ wX1 cy (sh d (9 + 3 * ((X0_molesR w) y89_2.toNatClampNeg))) ((X0_moles w) ((X0_molesR w) y89_2.toNatClampNeg))) (ws' := (cX0 cy a b z89_v_mounds z89_v_opened z89_v_roots z89_v_traps z89_v_tunnels (X0_molesR v) (va_up z89_v_moles ((X0_molesR v) y89_2.toNatClampNeg) (z109_v_directions, z109_v_trail, z109_v_planned, z109_v_trailLength, z109_v_air, z109_v_steps, (X1_lost (z89_v_moles ((X0_molesR v) y89_2.toNatClampNeg))))) z89_v_moleCount (X0_fullAir v) (X0_beats v) (X0_caught v) (X0_gnawed v) (X0_risen v) (X0_fallen v) ++ wX0 cy d b w)) hC rfl (co_4 (P := fun i29 => xput (cX0 cy a b z89_v_mounds z89_v_opened z89_v_roots z89_v_traps z89_v_tunnels (X0_molesR v) z89_v_moles z89_v_moleCount (X0_fullAir v) (X0_beats v) (X0_caught v) (X0_gnawed v) (X0_risen v) (X0_fallen v) ++ wX0 cy d b w) [(9 + 3 * i29), (10 + 3 * i29), (11 + 3 * i29), (30 + 3 * ((X0_molesR w) y89_2.toNatClampNeg)), (31 + 3 * ((X0_molesR w) y89_2.toNatClampNeg)), (32 + 3 * ((X0_molesR w) y89_2.toNatClampNeg))] (cX1 cy (sh a (9 + 3 * i29)) z109_v_directions z109_v_trail z109_v_planned z109_v_trailLength z109_v_air z109_v_steps (X1_lost (z89_v_moles i29)) ++ wX1 cy (sh d (9 + 3 * ((X0_molesR w) y89_2.toNatClampNeg))) ((X0_moles w) ((X0_molesR w) y89_2.toNatClampNeg))) = (cX0 cy a b z89_v_mounds z89_v_opened z89_v_roots z89_v_traps z89_v_tunnels (X0_molesR v) (va_up z89_v_moles i29 (z109_v_directions, z109_v_trail, z109_v_planned, z109_v_trailLength, z109_v_air, z109_v_steps, (X1_lost (z89_v_moles i29)))) z89_v_moleCount (X0_fullAir v) (X0_beats v) (X0_caught v) (X0_gnawed v) (X0_risen v) (X0_fallen v) ++ wX0 cy d b w)) (co_4 (P := fun i19 => xput (cX0 cy a b z89_v_mounds z89_v_opened z89_v_roots z89_v_traps z89_v_tunnels (X0_molesR v) z89_v_moles z89_v_moleCount (X0_fullAir v) (X0_beats v) (X0_caught v) (X0_gnawed v) (X0_risen v) (X0_fallen v) ++ wX0 cy d b w) [(9 + 3 * 0), (10 + 3 * 0), (11 + 3 * 0), (30 + 3 * i19), (31 + 3 * i19), (32 + 3 * i19)] (cX1 cy (sh a (9 + 3 * 0)) z109_v_directions z109_v_trail z109_v_planned z109_v_trailLength z109_v_air z109_v_steps (X1_lost (z89_v_moles 0)) ++ wX1 cy (sh d (9 + 3 * i19)) ((X0_moles w) i19)) = (cX0 cy a b z89_v_mounds z89_v_opened z89_v_roots z89_v_traps z89_v_tunnels (X0_molesR v) (va_up z89_v_moles 0 (z109_v_directions, z109_v_trail, z109_v_planned, z109_v_trailLength, z109_v_air, z109_v_steps, (X1_lost (z89_v_moles 0)))) z89_v_moleCount (X0_fullAir v) (X0_beats v) (X0_caught v) (X0_gnawed v) (X0_risen v) (X0_fallen v) ++ wX0 cy d b w)) rfl rfl rfl rfl g3) (co_4 (P := fun i19 => xput (cX0 cy a b z89_v_mounds z89_v_opened z89_v_roots z89_v_traps z89_v_tunnels (X0_molesR v) z89_v_moles z89_v_moleCount (X0_fullAir v) (X0_beats v) (X0_caught v) (X0_gnawed v) (X0_risen v) (X0_fallen v) ++ wX0 cy d b w) [(9 + 3 * 1), (10 + 3 * 1), (11 + 3 * 1), (30 + 3 * i19), (31 + 3 * i19), (32 + 3 * i19)] (cX1 cy (sh a (9 + 3 * 1)) z109_v_directions z109_v_trail z109_v_planned z109_v_trailLength z109_v_air z109_v_steps (X1_lost (z89_v_moles 1)) ++ wX1 cy (sh d (9 + 3 * i19)) ((X0_moles w) i19)) = (cX0 cy a b z89_v_mounds z89_v_opened z89_v_roots z89_v_traps z89_v_tunnels (X0_molesR v) (va_up z89_v_moles 1 (z109_v_directions, z109_v_trail, z109_v_planned, z109_v_trailLength, z109_v_air, z109_v_steps, (X1_lost (z89_v_moles 1)))) z89_v_moleCount (X0_fullAir v) (X0_beats v) (X0_caught v) (X0_gnawed v) (X0_risen v) (X0_fallen v) ++ wX0 cy d b w)) rfl rfl rfl rfl g3) (co_4 (P := fun i19 => xput (cX0 cy a b z89_v_mounds z89_v_opened z89_v_roots z89_v_traps z89_v_tunnels (X0_molesR v) z89_v_moles z89_v_moleCount (X0_fullAir v) (X0_beats v) (X0_caught v) (X0_gnawed v) (X0_risen v) (X0_fallen v) ++ wX0 cy d b w) [(9 + 3 * 2), (10 + 3 * 2), (11 + 3 * 2), (30 + 3 * i19), (31 + 3 * i19), (32 + 3 * i19)] (cX1 cy (sh a (9 + 3 * 2)) z109_v_directions z109_v_trail z109_v_planned z109_v_trailLength z109_v_air z109_v_steps (X1_lost (z89_v_moles 2)) ++ wX1 cy (sh d (9 + 3 * i19)) ((X0_moles w) i19)) = (cX0 cy a b z89_v_mounds z89_v_opened z89_v_roots z89_v_traps z89_v_tunnels (X0_molesR v) (va_up z89_v_moles 2 (z109_v_directions, z109_v_trail, z109_v_planned, z109_v_trailLength, z109_v_air, z109_v_steps, (X1_lost (z89_v_moles 2)))) z89_v_moleCount (X0_fullAir v) (X0_beats v) (X0_caught v) (X0_gnawed v) (X0_risen v) (X0_fallen v) ++ wX0 cy d b w)) rfl rfl rfl rfl g3) (co_4 (P := fun i19 => xput (cX0 cy a b z89_v_mounds z89_v_opened z89_v_roots z89_v_traps z89_v_tunnels (X0_molesR v) z89_v_moles z89_v_moleCount (X0_fullAir v) (X0_beats v) (X0_caught v) (X0_gnawed v) (X0_risen v) (X0_fallen v) ++ wX0 cy d b w) [(9 + 3 * 3), (10 + 3 * 3), (11 + 3 * 3), (30 + 3 * i19), (31 + 3 * i19), (32 + 3 * i19)] (cX1 cy (sh a (9 + 3 * 3)) z109_v_directions z109_v_trail z109_v_planned z109_v_trailLength z109_v_air z109_v_steps (X1_lost (z89_v_moles 3)) ++ wX1 cy (sh d (9 + 3 * i19)) ((X0_moles w) i19)) = (cX0 cy a b z89_v_mounds z89_v_opened z89_v_roots z89_v_traps z89_v_tunnels (X0_molesR v) (va_up z89_v_moles 3 (z109_v_directions, z109_v_trail, z109_v_planned, z109_v_trailLength, z109_v_air, z109_v_steps, (X1_lost (z89_v_moles 3)))) z89_v_moleCount (X0_fullAir v) (X0_beats v) (X0_caught v) (X0_gnawed v) (X0_risen v) (X0_fallen v) ++ wX0 cy d b w)) rfl rfl rfl rfl g3) g2) hk1 hFc hP1
          refine lv_iinc (v := (y89_2 + 1)) (lv' := [(2, .int (y89_2 + 1)), (0, .ref (a 0)), (1, .ref (d 0))]) hx hb dX0_copyFrom_112 hl (k := 2) rfl rfl (by decide) rfl (fun ls hl => ?_)
          refine lv_goto (tgt := 89) hx hb dX0_copyFrom_115 (by decide) ?_
          exact bk89 (y89_2 + 1) (va_up z89_v_moles ((X0_molesR v) y89_2.toNatClampNeg) (z109_v_directions, z109_v_trail, z109_v_planned, z109_v_trailLength, z109_v_air, z109_v_steps, (X1_lost (z89_v_moles ((X0_molesR v) y89_2.toNatClampNeg))))) _ _ _ hq hP hD hS (lv_sub hl [1, 2, 0] rfl)
    exact key _ y89_2 z89_v_moles H locs ls h0 (Nat.lt_succ_self _) hP hD hS hl
  have J2 : ∀  (y2_2 : Int32) (z2_v_mounds : (Nat → Int32)) (z2_v_opened : (Nat → Int32)) (H : Heap) (locs : List Loc) (ls : Array Slot), wp_X0_copyFrom_2 v w  y2_2 z2_v_mounds z2_v_opened Q → va_P (dC, dI) vwCl (cX0 cy a b z2_v_mounds z2_v_opened (X0_roots v) (X0_traps v) (X0_tunnels v) (X0_molesR v) (X0_moles v) (X0_moleCount v) (X0_fullAir v) (X0_beats v) (X0_caught v) (X0_gnawed v) (X0_risen v) (X0_fallen v) ++ wX0 cy d b w) H → va_D A (cX0 cy a b z2_v_mounds z2_v_opened (X0_roots v) (X0_traps v) (X0_tunnels v) (X0_molesR v) (X0_moles v) (X0_moleCount v) (X0_fullAir v) (X0_beats v) (X0_caught v) (X0_gnawed v) (X0_risen v) (X0_fallen v) ++ wX0 cy d b w) → va_S A s.heap H locs → lv_has ls 3 [(0, .ref (a 0)), (1, .ref (d 0)), (2, .int y2_2)] → W p l e (headSpec wsX0_copyFrom ({ frames := 2, cells := 0, slots := 0, locals := 47 } : Room)).room s m ([.ref (a 0), .ref (d 0)] : List Value).toArray below meth c H locs 0 0 (MQ below (q_X0_copyFrom dC dI cy a b d v w Q A) ([.ref (a 0), .ref (d 0)] : List Value).toArray s 0 0 A) (F0 m 2 ls []) := by
    intro  y2_2 z2_v_mounds z2_v_opened H locs ls hq hP hD hS hl
    obtain ⟨I2, μ2, h0, hs2⟩ := hq
    have key : ∀ (n : Nat) (y2_2 : Int32) (z2_v_mounds : (Nat → Int32)) (z2_v_opened : (Nat → Int32)) (H : Heap) (locs : List Loc) (ls : Array Slot), I2 y2_2 z2_v_mounds z2_v_opened → μ2 y2_2 z2_v_mounds z2_v_opened < n → va_P (dC, dI) vwCl (cX0 cy a b z2_v_mounds z2_v_opened (X0_roots v) (X0_traps v) (X0_tunnels v) (X0_molesR v) (X0_moles v) (X0_moleCount v) (X0_fullAir v) (X0_beats v) (X0_caught v) (X0_gnawed v) (X0_risen v) (X0_fallen v) ++ wX0 cy d b w) H → va_D A (cX0 cy a b z2_v_mounds z2_v_opened (X0_roots v) (X0_traps v) (X0_tunnels v) (X0_molesR v) (X0_moles v) (X0_moleCount v) (X0_fullAir v) (X0_beats v) (X0_caught v) (X0_gnawed v) (X0_risen v) (X0_fallen v) ++ wX0 cy d b w) → va_S A s.heap H locs → lv_has ls 3 [(0, .ref (a 0)), (1, .ref (d 0)), (2, .int y2_2)] → W p l e (headSpec wsX0_copyFrom ({ frames := 2, cells := 0, slots := 0, locals := 47 } : Room)).room s m ([.ref (a 0), .ref (d 0)] : List Value).toArray below meth c H locs 0 0 (MQ below (q_X0_copyFrom dC dI cy a b d v w Q A) ([.ref (a 0), .ref (d 0)] : List Value).toArray s 0 0 A) (F0 m 2 ls []) := by
      intro n
      induction n with
      | zero => intro y2_2 z2_v_mounds z2_v_opened H locs ls _ hm; exact absurd hm (Nat.not_lt_zero _)
      | succ n ih =>
        intro y2_2 z2_v_mounds z2_v_opened H locs ls hI hm hP hD hS hl
        have hq := hs2 y2_2 z2_v_mounds z2_v_opened hI
        generalize hB2 : (fun (t0 : Int32) (t1 : (Nat → Int32)) (t2 : (Nat → Int32)) => I2 t0 t1 t2 ∧ μ2 t0 t1 t2 < μ2 y2_2 z2_v_mounds z2_v_opened) = B2 at hq
        have bk2 : ∀ (y2_2 : Int32) (z2_v_mounds : (Nat → Int32)) (z2_v_opened : (Nat → Int32)) (H : Heap) (locs : List Loc) (ls : Array Slot), B2 y2_2 z2_v_mounds z2_v_opened → va_P (dC, dI) vwCl (cX0 cy a b z2_v_mounds z2_v_opened (X0_roots v) (X0_traps v) (X0_tunnels v) (X0_molesR v) (X0_moles v) (X0_moleCount v) (X0_fullAir v) (X0_beats v) (X0_caught v) (X0_gnawed v) (X0_risen v) (X0_fallen v) ++ wX0 cy d b w) H → va_D A (cX0 cy a b z2_v_mounds z2_v_opened (X0_roots v) (X0_traps v) (X0_tunnels v) (X0_molesR v) (X0_moles v) (X0_moleCount v) (X0_fullAir v) (X0_beats v) (X0_caught v) (X0_gnawed v) (X0_risen v) (X0_fallen v) ++ wX0 cy d b w) → va_S A s.heap H locs → lv_has ls 3 [(0, .ref (a 0)), (1, .ref (d 0)), (2, .int y2_2)] → W p l e (headSpec wsX0_copyFrom ({ frames := 2, cells := 0, slots := 0, locals := 47 } : Room)).room s m ([.ref (a 0), .ref (d 0)] : List Value).toArray below meth c H locs 0 0 (MQ below (q_X0_copyFrom dC dI cy a b d v w Q A) ([.ref (a 0), .ref (d 0)] : List Value).toArray s 0 0 A) (F0 m 2 ls []) := by
          intro y2_2 z2_v_mounds z2_v_opened H locs ls h
          rw [← hB2] at h
          exact ih y2_2 z2_v_mounds z2_v_opened H locs ls h.1 (Nat.lt_of_lt_of_le h.2 (Nat.le_of_lt_succ hm))
        unfold wb_X0_copyFrom_2 at hq
        refine lv_iload_n hx hb dX0_copyFrom_2 rfl (lv_at hl 2 rfl) ?_
        refine lv_bipush (v := 64) hx hb dX0_copyFrom_3 (by decide) ?_
        obtain ⟨hqA, hqB⟩ := hq
        refine lv_icmp_ge (tgt := 38) hx hb dX0_copyFrom_5 (by decide) (fun c8 => ?_) (fun c8 => ?_)
        · have hq := hqA c8
          refine lv_aload_n hx hb dX0_copyFrom_38 rfl (lv_at hl 1 rfl) ?_
          refine va_get (D := (dC, dI)) (ci := 0) (v := .ref (d 3)) (C := RX0) (T := TX0) (N := 14) hx hb hts iK0 hown hK hP 21 rfl rfl 2 (by decide) lk8 (fun _ h9 => h9) rfl dX0_copyFrom_39 ?_
          refine lv_iconst (v := 0) hx hb dX0_copyFrom_42 (by decide) ?_
          refine lv_aload_n hx hb dX0_copyFrom_43 rfl (lv_at hl 0 rfl) ?_
          refine va_get (D := (dC, dI)) (ci := 0) (v := .ref (a 3)) (C := RX0) (T := TX0) (N := 14) hx hb hts iK0 hown hK hP 0 rfl rfl 2 (by decide) lk8 (fun _ h9 => h9) rfl dX0_copyFrom_44 ?_
          refine lv_iconst (v := 0) hx hb dX0_copyFrom_47 (by decide) ?_
          refine lv_bipush (v := 64) hx hb dX0_copyFrom_48 (by decide) ?_
          refine va_copyi hx hb (hml.trans hl.1.symm) hown lk9 lk10 lk11 lk12 hK hP hD hS 24 3 0 0 rfl rfl rfl rfl rfl (by decide) (by decide) (by decide) (by decide) (by decide) (fun _ _ => rfl) (Nat.le_of_ble_eq_true rfl) (by decide +kernel) dX0_copyFrom_50 (fun H locs hP hD hS => ?_)
          have hP : va_P (dC, dI) vwCl (cX0 cy a b z2_v_mounds z2_v_opened (va_cpy (X0_roots w) (X0_roots v) (0 : Int32).toNatClampNeg (0 : Int32).toNatClampNeg (64 : Int32).toNatClampNeg) (X0_traps v) (X0_tunnels v) (X0_molesR v) (X0_moles v) (X0_moleCount v) (X0_fullAir v) (X0_beats v) (X0_caught v) (X0_gnawed v) (X0_risen v) (X0_fallen v) ++ wX0 cy d b w) H := hP
          have hD : va_D A (cX0 cy a b z2_v_mounds z2_v_opened (va_cpy (X0_roots w) (X0_roots v) (0 : Int32).toNatClampNeg (0 : Int32).toNatClampNeg (64 : Int32).toNatClampNeg) (X0_traps v) (X0_tunnels v) (X0_molesR v) (X0_moles v) (X0_moleCount v) (X0_fullAir v) (X0_beats v) (X0_caught v) (X0_gnawed v) (X0_risen v) (X0_fallen v) ++ wX0 cy d b w) := hD
          refine lv_aload_n hx hb dX0_copyFrom_53 rfl (lv_at hl 1 rfl) ?_
          refine va_get (D := (dC, dI)) (ci := 0) (v := .ref (d 4)) (C := RX0) (T := TX0) (N := 14) hx hb hts iK0 hown hK hP 21 rfl rfl 3 (by decide) lk13 (fun _ h9 => h9) rfl dX0_copyFrom_54 ?_
          refine lv_iconst (v := 0) hx hb dX0_copyFrom_57 (by decide) ?_
          refine lv_aload_n hx hb dX0_copyFrom_58 rfl (lv_at hl 0 rfl) ?_
          refine va_get (D := (dC, dI)) (ci := 0) (v := .ref (a 4)) (C := RX0) (T := TX0) (N := 14) hx hb hts iK0 hown hK hP 0 rfl rfl 3 (by decide) lk13 (fun _ h9 => h9) rfl dX0_copyFrom_59 ?_
          refine lv_iconst (v := 0) hx hb dX0_copyFrom_62 (by decide) ?_
          refine lv_bipush (v := 64) hx hb dX0_copyFrom_63 (by decide) ?_
          refine va_copyi hx hb (hml.trans hl.1.symm) hown lk9 lk10 lk11 lk12 hK hP hD hS 25 4 0 0 rfl rfl rfl rfl rfl (by decide) (by decide) (by decide) (by decide) (by decide) (fun _ _ => rfl) (Nat.le_of_ble_eq_true rfl) (by decide +kernel) dX0_copyFrom_65 (fun H locs hP hD hS => ?_)
          have hP : va_P (dC, dI) vwCl (cX0 cy a b z2_v_mounds z2_v_opened (va_cpy (X0_roots w) (X0_roots v) (0 : Int32).toNatClampNeg (0 : Int32).toNatClampNeg (64 : Int32).toNatClampNeg) (va_cpy (X0_traps w) (X0_traps v) (0 : Int32).toNatClampNeg (0 : Int32).toNatClampNeg (64 : Int32).toNatClampNeg) (X0_tunnels v) (X0_molesR v) (X0_moles v) (X0_moleCount v) (X0_fullAir v) (X0_beats v) (X0_caught v) (X0_gnawed v) (X0_risen v) (X0_fallen v) ++ wX0 cy d b w) H := hP
          have hD : va_D A (cX0 cy a b z2_v_mounds z2_v_opened (va_cpy (X0_roots w) (X0_roots v) (0 : Int32).toNatClampNeg (0 : Int32).toNatClampNeg (64 : Int32).toNatClampNeg) (va_cpy (X0_traps w) (X0_traps v) (0 : Int32).toNatClampNeg (0 : Int32).toNatClampNeg (64 : Int32).toNatClampNeg) (X0_tunnels v) (X0_molesR v) (X0_moles v) (X0_moleCount v) (X0_fullAir v) (X0_beats v) (X0_caught v) (X0_gnawed v) (X0_risen v) (X0_fallen v) ++ wX0 cy d b w) := hD
          refine lv_aload_n hx hb dX0_copyFrom_68 rfl (lv_at hl 0 rfl) ?_
          refine va_get (D := (dC, dI)) (ci := 0) (v := .ref (a 5)) (C := RX0) (T := TX0) (N := 14) hx hb hts iK0 hown hK hP 0 rfl rfl 4 (by decide) lk14 (fun _ h9 => h9) rfl dX0_copyFrom_69 ?_
          refine lv_aload_n hx hb dX0_copyFrom_72 rfl (lv_at hl 1 rfl) ?_
          refine va_get (D := (dC, dI)) (ci := 0) (v := .ref (d 5)) (C := RX0) (T := TX0) (N := 14) hx hb hts iK0 hown hK hP 21 rfl rfl 4 (by decide) lk14 (fun _ h9 => h9) rfl dX0_copyFrom_73 ?_
          have hC : (([5, 6, 7, 26, 27, 28] : List Nat).map (fun i => (cX0 cy a b z2_v_mounds z2_v_opened (va_cpy (X0_roots w) (X0_roots v) (0 : Int32).toNatClampNeg (0 : Int32).toNatClampNeg (64 : Int32).toNatClampNeg) (va_cpy (X0_traps w) (X0_traps v) (0 : Int32).toNatClampNeg (0 : Int32).toNatClampNeg (64 : Int32).toNatClampNeg) (X0_tunnels v) (X0_molesR v) (X0_moles v) (X0_moleCount v) (X0_fullAir v) (X0_beats v) (X0_caught v) (X0_gnawed v) (X0_risen v) (X0_fallen v) ++ wX0 cy d b w)[i]?)) = (wX3 cy (sh a 5) (X0_tunnels v) ++ wX3 cy (sh d 5) (X0_tunnels w)).map some := (xC_app (i1 := [5, 6, 7]) (i2 := [26, 27, 28]) rfl (xC_one (n := 5) (m := 3) rfl rfl rfl) (xC_one (n := 26) (m := 3) rfl rfl rfl))
          have hPc := xsubP hP hC
          have hDc := xsubD hD (by decide) hC
          have hFc := va_free (wc := (wX3 cy (sh a 5) (X0_tunnels v) ++ wX3 cy (sh d 5) (X0_tunnels w))) hD hS hAe0 [5, 6, 7, 26, 27, 28] hC
          refine va_callv (va_runV (As := [.ref (d 5)]) (rest := []) ⟨hx, hb, hml, hown, hts⟩ (c_X3_copyFrom l dC dI cy (sh a 5) (sh d 5) _ (X0_tunnels v) (X0_tunnels w) _ hq) (cwV 1 hts gX0_copyFrom_X3_copyFrom rfl rfl rfl (by decide +kernel) ⟨Nat.le_of_ble_eq_true rfl, Nat.le_of_ble_eq_true rfl⟩) ⟨xPre_blind, va_recv hK hP (ci := 3) (q0 := 5) rfl rfl, xPre_of hPc hK hDc⟩ rfl rfl hl.1 rfl (lv_room (Nat.le_of_ble_eq_true rfl)) dX0_copyFrom_76 ⟨Nat.le_of_ble_eq_true rfl, Nat.le_of_ble_eq_true rfl⟩) hS (fun q _ h => hFc q h) hFc (fun u9 t H locs ht hvm hq hB hz1 hk1 hS => ?_)
          obtain ⟨z76_v_cells, z76_v_ends, z76_v_size, z76_v_used⟩ := u9
          obtain ⟨hP1, -, hD1⟩ := hB
          rw [ht] at hP1
          obtain ⟨hP, hD⟩ := xj hP hD [5, 6, 7, 26, 27, 28] (cX3 cy (sh a 5) z76_v_cells z76_v_ends z76_v_used z76_v_size ++ wX3 cy (sh d 5) (X0_tunnels w)) (ws' := (cX0 cy a b z2_v_mounds z2_v_opened (va_cpy (X0_roots w) (X0_roots v) (0 : Int32).toNatClampNeg (0 : Int32).toNatClampNeg (64 : Int32).toNatClampNeg) (va_cpy (X0_traps w) (X0_traps v) (0 : Int32).toNatClampNeg (0 : Int32).toNatClampNeg (64 : Int32).toNatClampNeg) (z76_v_cells, z76_v_ends, z76_v_used, z76_v_size) (X0_molesR v) (X0_moles v) (X0_moleCount v) (X0_fullAir v) (X0_beats v) (X0_caught v) (X0_gnawed v) (X0_risen v) (X0_fallen v) ++ wX0 cy d b w)) hC rfl (xS_app (n := 5) (m := 3) (i2 := [26, 27, 28]) rfl rfl rfl (xS_one (n := 26) (m := 3) rfl rfl rfl)) hk1 hFc hP1
          refine lv_aload_n hx hb dX0_copyFrom_79 rfl (lv_at hl 0 rfl) ?_
          refine lv_aload_n hx hb dX0_copyFrom_80 rfl (lv_at hl 1 rfl) ?_
          refine va_get (D := (dC, dI)) (ci := 0) (v := .int (X0_moleCount w)) (C := RX0) (T := TX0) (N := 14) hx hb hts iK0 hown hK hP 21 rfl rfl 7 (by decide) lk0 (fun _ h9 => h9) rfl dX0_copyFrom_81 ?_
          refine va_put (D := (dC, dI)) (ci := 0) (v := .int (X0_moleCount w)) (ty := .int) (C := RX0) (T := TX0) (N := 14) hx hb hts iK0 tyX0 tyX0_ok nmX0 hown hK hP hD hS 0 rfl rfl 7 (by decide) lk0 (fun _ h9 => h9) rfl (by decide +kernel) rfl rfl (Nat.le_of_ble_eq_true rfl) dX0_copyFrom_84 (fun H locs hP hD hS => ?_)
          have hP : va_P (dC, dI) vwCl (cX0 cy a b z2_v_mounds z2_v_opened (va_cpy (X0_roots w) (X0_roots v) (0 : Int32).toNatClampNeg (0 : Int32).toNatClampNeg (64 : Int32).toNatClampNeg) (va_cpy (X0_traps w) (X0_traps v) (0 : Int32).toNatClampNeg (0 : Int32).toNatClampNeg (64 : Int32).toNatClampNeg) (z76_v_cells, z76_v_ends, z76_v_used, z76_v_size) (X0_molesR v) (X0_moles v) (X0_moleCount w) (X0_fullAir v) (X0_beats v) (X0_caught v) (X0_gnawed v) (X0_risen v) (X0_fallen v) ++ wX0 cy d b w) H := hP
          have hD : va_D A (cX0 cy a b z2_v_mounds z2_v_opened (va_cpy (X0_roots w) (X0_roots v) (0 : Int32).toNatClampNeg (0 : Int32).toNatClampNeg (64 : Int32).toNatClampNeg) (va_cpy (X0_traps w) (X0_traps v) (0 : Int32).toNatClampNeg (0 : Int32).toNatClampNeg (64 : Int32).toNatClampNeg) (z76_v_cells, z76_v_ends, z76_v_used, z76_v_size) (X0_molesR v) (X0_moles v) (X0_moleCount w) (X0_fullAir v) (X0_beats v) (X0_caught v) (X0_gnawed v) (X0_risen v) (X0_fallen v) ++ wX0 cy d b w) := hD
          refine lv_iconst (v := 0) hx hb dX0_copyFrom_87 (by decide) ?_
          refine lv_istore_n (lv' := [(2, .int 0), (0, .ref (a 0)), (1, .ref (d 0))]) hx hb dX0_copyFrom_88 rfl hl (by decide) rfl (fun ls hl => ?_)
          exact J89 (X0_moleCount w) z2_v_mounds z2_v_opened (va_cpy (X0_roots w) (X0_roots v) (0 : Int32).toNatClampNeg (0 : Int32).toNatClampNeg (64 : Int32).toNatClampNeg) (va_cpy (X0_traps w) (X0_traps v) (0 : Int32).toNatClampNeg (0 : Int32).toNatClampNeg (64 : Int32).toNatClampNeg) (z76_v_cells, z76_v_ends, z76_v_used, z76_v_size) 0 (X0_moles v) _ _ _ hq hP hD hS (lv_sub hl [1, 2, 0] rfl)
        · have hq := hqB c8
          refine lv_aload_n hx hb dX0_copyFrom_8 rfl (lv_at hl 0 rfl) ?_
          refine va_get (D := (dC, dI)) (ci := 0) (v := .ref (a 1)) (C := RX0) (T := TX0) (N := 14) hx hb hts iK0 hown hK hP 0 rfl rfl 0 (by decide) lk15 (fun _ h9 => h9) rfl dX0_copyFrom_9 ?_
          refine lv_iload_n hx hb dX0_copyFrom_12 rfl (lv_at hl 2 rfl) ?_
          refine lv_aload_n hx hb dX0_copyFrom_13 rfl (lv_at hl 1 rfl) ?_
          refine va_get (D := (dC, dI)) (ci := 0) (v := .ref (d 1)) (C := RX0) (T := TX0) (N := 14) hx hb hts iK0 hown hK hP 21 rfl rfl 0 (by decide) lk15 (fun _ h9 => h9) rfl dX0_copyFrom_14 ?_
          refine lv_iload_n hx hb dX0_copyFrom_17 rfl (lv_at hl 2 rfl) ?_
          obtain ⟨g5, hq⟩ := hq
          refine va_zald hx hb hK hP 22 1 rfl rfl g5 dX0_copyFrom_18 ?_
          obtain ⟨g6, hq⟩ := hq
          refine va_zast hx hb hK hP hD hS 1 1 rfl rfl g5 dX0_copyFrom_19 (fun H locs hP hD hS => ?_)
          rw [xnarz g6] at hP hD
          have hP : va_P (dC, dI) vwCl (cX0 cy a b (upd z2_v_mounds y2_2.toNatClampNeg ((X0_mounds w) y2_2.toNatClampNeg)) z2_v_opened (X0_roots v) (X0_traps v) (X0_tunnels v) (X0_molesR v) (X0_moles v) (X0_moleCount v) (X0_fullAir v) (X0_beats v) (X0_caught v) (X0_gnawed v) (X0_risen v) (X0_fallen v) ++ wX0 cy d b w) H := hP
          have hD : va_D A (cX0 cy a b (upd z2_v_mounds y2_2.toNatClampNeg ((X0_mounds w) y2_2.toNatClampNeg)) z2_v_opened (X0_roots v) (X0_traps v) (X0_tunnels v) (X0_molesR v) (X0_moles v) (X0_moleCount v) (X0_fullAir v) (X0_beats v) (X0_caught v) (X0_gnawed v) (X0_risen v) (X0_fallen v) ++ wX0 cy d b w) := hD
          refine lv_aload_n hx hb dX0_copyFrom_20 rfl (lv_at hl 0 rfl) ?_
          refine va_get (D := (dC, dI)) (ci := 0) (v := .ref (a 2)) (C := RX0) (T := TX0) (N := 14) hx hb hts iK0 hown hK hP 0 rfl rfl 1 (by decide) lk16 (fun _ h9 => h9) rfl dX0_copyFrom_21 ?_
          refine lv_iload_n hx hb dX0_copyFrom_24 rfl (lv_at hl 2 rfl) ?_
          refine lv_aload_n hx hb dX0_copyFrom_25 rfl (lv_at hl 1 rfl) ?_
          refine va_get (D := (dC, dI)) (ci := 0) (v := .ref (d 2)) (C := RX0) (T := TX0) (N := 14) hx hb hts iK0 hown hK hP 21 rfl rfl 1 (by decide) lk16 (fun _ h9 => h9) rfl dX0_copyFrom_26 ?_
          refine lv_iload_n hx hb dX0_copyFrom_29 rfl (lv_at hl 2 rfl) ?_
          refine va_zald hx hb hK hP 23 1 rfl rfl g5 dX0_copyFrom_30 ?_
          obtain ⟨g7, hq⟩ := hq
          refine va_zast hx hb hK hP hD hS 2 1 rfl rfl g5 dX0_copyFrom_31 (fun H locs hP hD hS => ?_)
          rw [xnarz g7] at hP hD
          have hP : va_P (dC, dI) vwCl (cX0 cy a b (upd z2_v_mounds y2_2.toNatClampNeg ((X0_mounds w) y2_2.toNatClampNeg)) (upd z2_v_opened y2_2.toNatClampNeg ((X0_opened w) y2_2.toNatClampNeg)) (X0_roots v) (X0_traps v) (X0_tunnels v) (X0_molesR v) (X0_moles v) (X0_moleCount v) (X0_fullAir v) (X0_beats v) (X0_caught v) (X0_gnawed v) (X0_risen v) (X0_fallen v) ++ wX0 cy d b w) H := hP
          have hD : va_D A (cX0 cy a b (upd z2_v_mounds y2_2.toNatClampNeg ((X0_mounds w) y2_2.toNatClampNeg)) (upd z2_v_opened y2_2.toNatClampNeg ((X0_opened w) y2_2.toNatClampNeg)) (X0_roots v) (X0_traps v) (X0_tunnels v) (X0_molesR v) (X0_moles v) (X0_moleCount v) (X0_fullAir v) (X0_beats v) (X0_caught v) (X0_gnawed v) (X0_risen v) (X0_fallen v) ++ wX0 cy d b w) := hD
          refine lv_iinc (v := (y2_2 + 1)) (lv' := [(2, .int (y2_2 + 1)), (0, .ref (a 0)), (1, .ref (d 0))]) hx hb dX0_copyFrom_32 hl (k := 2) rfl rfl (by decide) rfl (fun ls hl => ?_)
          refine lv_goto (tgt := 2) hx hb dX0_copyFrom_35 (by decide) ?_
          exact bk2 (y2_2 + 1) (upd z2_v_mounds y2_2.toNatClampNeg ((X0_mounds w) y2_2.toNatClampNeg)) (upd z2_v_opened y2_2.toNatClampNeg ((X0_opened w) y2_2.toNatClampNeg)) _ _ _ hq hP hD hS (lv_sub hl [1, 2, 0] rfl)
    exact key _ y2_2 z2_v_mounds z2_v_opened H locs ls h0 (Nat.lt_succ_self _) hP hD hS hl
  refine lv_iconst (v := 0) hx hb dX0_copyFrom_0 (by decide) ?_
  refine lv_istore_n (lv' := [(2, .int 0), (0, .ref (a 0)), (1, .ref (d 0))]) hx hb dX0_copyFrom_1 rfl hl (by decide) rfl (fun ls hl => ?_)
  exact J2  0 (X0_mounds v) (X0_opened v) _ _ _ hq hP hD hS (lv_sub hl [1, 2, 0] rfl)
def wb_X0_catchMole_19 (v : V_X0) (x1 : Int32) (j19_2 : Nat) (z19_v_moleCount : Int32) (y19_3 : Int32) (z19_v_molesR : (Nat → Nat)) (B19 : Int32 → (Nat → Nat) → Prop) (Q : Int32 → Int32 → (Nat → Nat) → Prop) : Prop :=
  ((z19_v_moleCount ≤ y19_3 → vp_in z19_v_moleCount 4 ∧ j19_2 < 4 ∧ Q ((X0_caught v) + 1) z19_v_moleCount (va_up z19_v_molesR z19_v_moleCount.toNatClampNeg j19_2)) ∧
  (¬ z19_v_moleCount ≤ y19_3 → vp_in (y19_3 + 1) 4 ∧ (z19_v_molesR (y19_3 + 1).toNatClampNeg) < 4 ∧ vp_in y19_3 4 ∧ B19 (y19_3 + 1) (va_up z19_v_molesR y19_3.toNatClampNeg (z19_v_molesR (y19_3 + 1).toNatClampNeg))))
def wp_X0_catchMole_19 (v : V_X0) (x1 : Int32) (j19_2 : Nat) (z19_v_moleCount : Int32) (y19_3 : Int32) (z19_v_molesR : (Nat → Nat)) (Q : Int32 → Int32 → (Nat → Nat) → Prop) : Prop :=
  ∃ (I : Int32 → (Nat → Nat) → Prop) (μ : Int32 → (Nat → Nat) → Nat), I y19_3 z19_v_molesR ∧ ∀ (s0 : Int32) (s1 : (Nat → Nat)), I s0 s1 → wb_X0_catchMole_19 v x1 j19_2 z19_v_moleCount s0 s1 (fun t0 t1 => I t0 t1 ∧ μ t0 t1 < μ s0 s1) Q
def wp_X0_catchMole (v : V_X0) (x1 : Int32) (Q : Int32 → Int32 → (Nat → Nat) → Prop) : Prop :=
  vp_in x1 4 ∧ ((X0_molesR v) x1.toNatClampNeg) < 4 ∧ wp_X0_catchMole_19 v x1 ((X0_molesR v) x1.toNatClampNeg) ((X0_moleCount v) - 1) x1 (X0_molesR v) Q
def q_X0_catchMole (dC : Nat → ClassId) (dI : Nat → Nat → Nat) (cy : Nat → ClassId) (a b : Nat → Nat) (v : V_X0) (x1 : Int32) (Q : Int32 → Int32 → (Nat → Nat) → Prop) (A : Nat → Prop) : Array Value → State → Outcome → State → Prop := va_Qv (fun (u : Int32 × Int32 × (Nat → Nat)) => Q u.1 u.2.1 u.2.2) (fun (u : Int32 × Int32 × (Nat → Nat)) t => xAt dC dI cy A (cX0 cy a b (X0_mounds v) (X0_opened v) (X0_roots v) (X0_traps v) (X0_tunnels v) u.2.2 (X0_moles v) u.2.1 (X0_fullAir v) (X0_beats v) u.1 (X0_gnawed v) (X0_risen v) (X0_fallen v)) t) A
set_option maxHeartbeats 4000000 in
set_option maxRecDepth 100000 in
theorem c_X0_catchMole (l : Launch) (dC : Nat → ClassId) (dI : Nat → Nat → Nat) (cy : Nat → ClassId) (a b : Nat → Nat) (sz : Nat) (v : V_X0) (x1 : Int32) (Q : Int32 → Int32 → (Nat → Nat) → Prop) (hq : wp_X0_catchMole v x1 Q) : Met l yX0_catchMole wsX0_catchMole ({ frames := 0, cells := 0, slots := 0, locals := 0 } : Room) (va_Pc [.ref (a 0), .int x1] (xPre dC dI cy (wX0 cy a b v) sz)) (q_X0_catchMole dC dI cy a b v x1 Q (va_A (wX0 cy a b v) sz)) 0 0 (va_A (wX0 cy a b v) sz) := by
  refine Met.ofW (cc := cX0_catchMole) (maxL := 4) (ret := none) (by decide) rfl ?_
  intro p e s m args below meth c s₁ B hml hv
  obtain ⟨rfl, hsz, hP, hK, hD0⟩ := hv
  have hx := B.exec
  have hb := B.bytes
  have hr := B.returns
  have hts := atoms_spec (ws := wsX0_catchMole) B.pre
  have hown : s.vm.findClass RX0 = some m.cls := findClass_of_methodNamed B.named
  have hlocks := B.notSynchronized
  subst hsz
  have hD := hD0.self (sz := s.heap.size)
  generalize hAe : va_A (wX0 cy a b v) s.heap.size = A at hD ⊢
  have hAe0 : ∀ q : Nat, s.heap.size ≤ q → A q := fun q h => by rw [← hAe]; exact Or.inr h
  have hS : va_S A s.heap s.heap [] := va_S.rf
  have hl := lv_entry ([.ref (a 0), .int x1]) (n := 4) (Nat.le_of_ble_eq_true rfl)
  rw [lg_entry_eq]
  generalize (lg_sl ([.ref (a 0), .int x1]) ++ List.replicate (4 - (lg_sl ([.ref (a 0), .int x1])).length) Slot.unset).toArray = ls at hl ⊢
  have hl : lv_has ls 4 [(0, .ref (a 0)), (1, .int x1)] := hl
  have lk0 := hts (Cond.fieldLink RX0 56 "MolesLawn$Lawn" "moleCount" "I") (List.mem_cons_of_mem _ (List.mem_append_left _ (List.mem_of_getElem? (i := 1) rfl)))
  have lk1 := hts (Cond.fieldLink RX0 34 "MolesLawn$Lawn" "moles" "[LMolesLawn$Mole;") (List.mem_cons_of_mem _ (List.mem_append_left _ (List.mem_of_getElem? (i := 0) rfl)))
  have lk2 := hts (Cond.fieldLink RX0 65 "MolesLawn$Lawn" "caught" "I") (List.mem_cons_of_mem _ (List.mem_append_left _ (List.mem_of_getElem? (i := 2) rfl)))
  have iK0 : ∀ w ∈ wsX00, w ∈ wsX0_catchMole := fun _ h => (List.mem_cons_of_mem _ (List.mem_append_right _ h))
  unfold wp_X0_catchMole at hq
  have J19 : ∀ (j19_2 : Nat) (z19_v_moleCount : Int32) (y19_3 : Int32) (z19_v_molesR : (Nat → Nat)) (H : Heap) (locs : List Loc) (ls : Array Slot), wp_X0_catchMole_19 v x1 j19_2 z19_v_moleCount y19_3 z19_v_molesR Q → va_P (dC, dI) vwCl (cX0 cy a b (X0_mounds v) (X0_opened v) (X0_roots v) (X0_traps v) (X0_tunnels v) z19_v_molesR (X0_moles v) z19_v_moleCount (X0_fullAir v) (X0_beats v) (X0_caught v) (X0_gnawed v) (X0_risen v) (X0_fallen v)) H → va_D A (cX0 cy a b (X0_mounds v) (X0_opened v) (X0_roots v) (X0_traps v) (X0_tunnels v) z19_v_molesR (X0_moles v) z19_v_moleCount (X0_fullAir v) (X0_beats v) (X0_caught v) (X0_gnawed v) (X0_risen v) (X0_fallen v)) → va_S A s.heap H locs → lv_has ls 4 [(0, .ref (a 0)), (2, .ref (a (9 + 3 * j19_2))), (3, .int y19_3)] → W p l e (headSpec wsX0_catchMole ({ frames := 0, cells := 0, slots := 0, locals := 0 } : Room)).room s m ([.ref (a 0), .int x1] : List Value).toArray below meth c H locs 0 0 (MQ below (q_X0_catchMole dC dI cy a b v x1 Q A) ([.ref (a 0), .int x1] : List Value).toArray s 0 0 A) (F0 m 19 ls []) := by
    intro j19_2 z19_v_moleCount y19_3 z19_v_molesR H locs ls hq hP hD hS hl
    obtain ⟨I19, μ19, h0, hs19⟩ := hq
    have key : ∀ (n : Nat) (y19_3 : Int32) (z19_v_molesR : (Nat → Nat)) (H : Heap) (locs : List Loc) (ls : Array Slot), I19 y19_3 z19_v_molesR → μ19 y19_3 z19_v_molesR < n → va_P (dC, dI) vwCl (cX0 cy a b (X0_mounds v) (X0_opened v) (X0_roots v) (X0_traps v) (X0_tunnels v) z19_v_molesR (X0_moles v) z19_v_moleCount (X0_fullAir v) (X0_beats v) (X0_caught v) (X0_gnawed v) (X0_risen v) (X0_fallen v)) H → va_D A (cX0 cy a b (X0_mounds v) (X0_opened v) (X0_roots v) (X0_traps v) (X0_tunnels v) z19_v_molesR (X0_moles v) z19_v_moleCount (X0_fullAir v) (X0_beats v) (X0_caught v) (X0_gnawed v) (X0_risen v) (X0_fallen v)) → va_S A s.heap H locs → lv_has ls 4 [(0, .ref (a 0)), (2, .ref (a (9 + 3 * j19_2))), (3, .int y19_3)] → W p l e (headSpec wsX0_catchMole ({ frames := 0, cells := 0, slots := 0, locals := 0 } : Room)).room s m ([.ref (a 0), .int x1] : List Value).toArray below meth c H locs 0 0 (MQ below (q_X0_catchMole dC dI cy a b v x1 Q A) ([.ref (a 0), .int x1] : List Value).toArray s 0 0 A) (F0 m 19 ls []) := by
      intro n
      induction n with
      | zero => intro y19_3 z19_v_molesR H locs ls _ hm; exact absurd hm (Nat.not_lt_zero _)
      | succ n ih =>
        intro y19_3 z19_v_molesR H locs ls hI hm hP hD hS hl
        have hq := hs19 y19_3 z19_v_molesR hI
        generalize hB19 : (fun (t0 : Int32) (t1 : (Nat → Nat)) => I19 t0 t1 ∧ μ19 t0 t1 < μ19 y19_3 z19_v_molesR) = B19 at hq
        have bk19 : ∀ (y19_3 : Int32) (z19_v_molesR : (Nat → Nat)) (H : Heap) (locs : List Loc) (ls : Array Slot), B19 y19_3 z19_v_molesR → va_P (dC, dI) vwCl (cX0 cy a b (X0_mounds v) (X0_opened v) (X0_roots v) (X0_traps v) (X0_tunnels v) z19_v_molesR (X0_moles v) z19_v_moleCount (X0_fullAir v) (X0_beats v) (X0_caught v) (X0_gnawed v) (X0_risen v) (X0_fallen v)) H → va_D A (cX0 cy a b (X0_mounds v) (X0_opened v) (X0_roots v) (X0_traps v) (X0_tunnels v) z19_v_molesR (X0_moles v) z19_v_moleCount (X0_fullAir v) (X0_beats v) (X0_caught v) (X0_gnawed v) (X0_risen v) (X0_fallen v)) → va_S A s.heap H locs → lv_has ls 4 [(0, .ref (a 0)), (2, .ref (a (9 + 3 * j19_2))), (3, .int y19_3)] → W p l e (headSpec wsX0_catchMole ({ frames := 0, cells := 0, slots := 0, locals := 0 } : Room)).room s m ([.ref (a 0), .int x1] : List Value).toArray below meth c H locs 0 0 (MQ below (q_X0_catchMole dC dI cy a b v x1 Q A) ([.ref (a 0), .int x1] : List Value).toArray s 0 0 A) (F0 m 19 ls []) := by
          intro y19_3 z19_v_molesR H locs ls h
          rw [← hB19] at h
          exact ih y19_3 z19_v_molesR H locs ls h.1 (Nat.lt_of_lt_of_le h.2 (Nat.le_of_lt_succ hm))
        unfold wb_X0_catchMole_19 at hq
        refine lv_iload_n hx hb dX0_catchMole_19 rfl (lv_at hl 2 rfl) ?_
        refine lv_aload_n hx hb dX0_catchMole_20 rfl (lv_at hl 0 rfl) ?_
        refine va_get (D := (dC, dI)) (ci := 0) (v := .int z19_v_moleCount) (C := RX0) (T := TX0) (N := 14) hx hb hts iK0 hown hK hP 0 rfl rfl 7 (by decide) lk0 (fun _ h9 => h9) rfl dX0_catchMole_21 ?_
        obtain ⟨hqA, hqB⟩ := hq
        refine lv_icmp_ge (tgt := 47) hx hb dX0_catchMole_24 (by decide) (fun c6 => ?_) (fun c6 => ?_)
        · have hq := hqA c6
          refine lv_aload_n hx hb dX0_catchMole_47 rfl (lv_at hl 0 rfl) ?_
          refine va_get (D := (dC, dI)) (ci := 0) (v := .ref (a 8)) (C := RX0) (T := TX0) (N := 14) hx hb hts iK0 hown hK hP 0 rfl rfl 6 (by decide) lk1 (fun _ h9 => h9) rfl dX0_catchMole_48 ?_
          refine lv_aload_n hx hb dX0_catchMole_51 rfl (lv_at hl 0 rfl) ?_
          refine va_get (D := (dC, dI)) (ci := 0) (v := .int z19_v_moleCount) (C := RX0) (T := TX0) (N := 14) hx hb hts iK0 hown hK hP 0 rfl rfl 7 (by decide) lk0 (fun _ h9 => h9) rfl dX0_catchMole_52 ?_
          refine lv_aload_n hx hb dX0_catchMole_55 rfl (lv_at hl 1 rfl) ?_
          obtain ⟨g1, hq⟩ := hq
          obtain ⟨g2, hq⟩ := hq
          refine va_astq (r := (RX1, TX1, 7)) hx hb hK hP hD hS 8 2 (9 + 3 * j19_2) 1 rfl rfl (co_4 (P := fun i19 => (cX0 cy a b (X0_mounds v) (X0_opened v) (X0_roots v) (X0_traps v) (X0_tunnels v) z19_v_molesR (X0_moles v) z19_v_moleCount (X0_fullAir v) (X0_beats v) (X0_caught v) (X0_gnawed v) (X0_risen v) (X0_fallen v))[(9 + 3 * i19)]? = (wX1 cy (sh a (9 + 3 * i19)) ((X0_moles v) i19))[0]?) rfl rfl rfl rfl g2) rfl g1 dX0_catchMole_56 (fun H locs hP hD hS => ?_)
          have eW := xup_slots a 9 3 z19_v_molesR z19_v_moleCount.toNatClampNeg j19_2
          have hP : va_P (dC, dI) vwCl (cX0 cy a b (X0_mounds v) (X0_opened v) (X0_roots v) (X0_traps v) (X0_tunnels v) (va_up z19_v_molesR z19_v_moleCount.toNatClampNeg j19_2) (X0_moles v) z19_v_moleCount (X0_fullAir v) (X0_beats v) (X0_caught v) (X0_gnawed v) (X0_risen v) (X0_fallen v)) H := (congrArg (fun (f9 : Nat → Option Nat) => va_P (dC, dI) vwCl ((cX0 cy a b (X0_mounds v) (X0_opened v) (X0_roots v) (X0_traps v) (X0_tunnels v) z19_v_molesR (X0_moles v) z19_v_moleCount (X0_fullAir v) (X0_beats v) (X0_caught v) (X0_gnawed v) (X0_risen v) (X0_fallen v)).set 8 ((a 8), .inl (cy 2, 4, .inr (.inr (.inr (.inr f9)))))) H) eW).mp hP
          have hD : va_D A (cX0 cy a b (X0_mounds v) (X0_opened v) (X0_roots v) (X0_traps v) (X0_tunnels v) (va_up z19_v_molesR z19_v_moleCount.toNatClampNeg j19_2) (X0_moles v) z19_v_moleCount (X0_fullAir v) (X0_beats v) (X0_caught v) (X0_gnawed v) (X0_risen v) (X0_fallen v)) := (congrArg (fun (f9 : Nat → Option Nat) => va_D A ((cX0 cy a b (X0_mounds v) (X0_opened v) (X0_roots v) (X0_traps v) (X0_tunnels v) z19_v_molesR (X0_moles v) z19_v_moleCount (X0_fullAir v) (X0_beats v) (X0_caught v) (X0_gnawed v) (X0_risen v) (X0_fallen v)).set 8 ((a 8), .inl (cy 2, 4, .inr (.inr (.inr (.inr f9))))))) eW).mp hD
          refine lv_aload_n hx hb dX0_catchMole_57 rfl (lv_at hl 0 rfl) ?_
          refine lv_dup hx hb dX0_catchMole_58 rfl ?_
          refine va_get (D := (dC, dI)) (ci := 0) (v := .int (X0_caught v)) (C := RX0) (T := TX0) (N := 14) hx hb hts iK0 hown hK hP 0 rfl rfl 10 (by decide) lk2 (fun _ h9 => h9) rfl dX0_catchMole_59 ?_
          refine lv_iconst (v := 1) hx hb dX0_catchMole_62 (by decide) ?_
          refine lv_iadd hx hb dX0_catchMole_63 ?_
          refine va_put (D := (dC, dI)) (ci := 0) (v := .int ((X0_caught v) + 1)) (ty := .int) (C := RX0) (T := TX0) (N := 14) hx hb hts iK0 tyX0 tyX0_ok nmX0 hown hK hP hD hS 0 rfl rfl 10 (by decide) lk2 (fun _ h9 => h9) rfl (by decide +kernel) rfl rfl (Nat.le_of_ble_eq_true rfl) dX0_catchMole_64 (fun H locs hP hD hS => ?_)
          have hP : va_P (dC, dI) vwCl (cX0 cy a b (X0_mounds v) (X0_opened v) (X0_roots v) (X0_traps v) (X0_tunnels v) (va_up z19_v_molesR z19_v_moleCount.toNatClampNeg j19_2) (X0_moles v) z19_v_moleCount (X0_fullAir v) (X0_beats v) ((X0_caught v) + 1) (X0_gnawed v) (X0_risen v) (X0_fallen v)) H := hP
          have hD : va_D A (cX0 cy a b (X0_mounds v) (X0_opened v) (X0_roots v) (X0_traps v) (X0_tunnels v) (va_up z19_v_molesR z19_v_moleCount.toNatClampNeg j19_2) (X0_moles v) z19_v_moleCount (X0_fullAir v) (X0_beats v) ((X0_caught v) + 1) (X0_gnawed v) (X0_risen v) (X0_fallen v)) := hD
          exact W.vret hx hb hr (fun t ht hW => ⟨⟨(((X0_caught v) + 1), z19_v_moleCount, (va_up z19_v_molesR z19_v_moleCount.toNatClampNeg j19_2)), rfl, hq, (xAt_of hP hK hD ht hW)⟩, hS.F ht⟩) hS.2.2 dX0_catchMole_67
        · have hq := hqB c6
          refine lv_aload_n hx hb dX0_catchMole_27 rfl (lv_at hl 0 rfl) ?_
          refine va_get (D := (dC, dI)) (ci := 0) (v := .ref (a 8)) (C := RX0) (T := TX0) (N := 14) hx hb hts iK0 hown hK hP 0 rfl rfl 6 (by decide) lk1 (fun _ h9 => h9) rfl dX0_catchMole_28 ?_
          refine lv_iload_n hx hb dX0_catchMole_31 rfl (lv_at hl 2 rfl) ?_
          refine lv_aload_n hx hb dX0_catchMole_32 rfl (lv_at hl 0 rfl) ?_
          refine va_get (D := (dC, dI)) (ci := 0) (v := .ref (a 8)) (C := RX0) (T := TX0) (N := 14) hx hb hts iK0 hown hK hP 0 rfl rfl 6 (by decide) lk1 (fun _ h9 => h9) rfl dX0_catchMole_33 ?_
          refine lv_iload_n hx hb dX0_catchMole_36 rfl (lv_at hl 2 rfl) ?_
          refine lv_iconst (v := 1) hx hb dX0_catchMole_37 (by decide) ?_
          refine lv_iadd hx hb dX0_catchMole_38 ?_
          obtain ⟨g3, hq⟩ := hq
          obtain ⟨g4, hq⟩ := hq
          refine va_aldq hx hb hK hP 8 2 rfl rfl g3 dX0_catchMole_39 ?_
          obtain ⟨g5, hq⟩ := hq
          refine va_astq (r := (RX1, TX1, 7)) hx hb hK hP hD hS 8 2 (9 + 3 * (z19_v_molesR (y19_3 + 1).toNatClampNeg)) 1 rfl rfl (co_4 (P := fun i19 => (cX0 cy a b (X0_mounds v) (X0_opened v) (X0_roots v) (X0_traps v) (X0_tunnels v) z19_v_molesR (X0_moles v) z19_v_moleCount (X0_fullAir v) (X0_beats v) (X0_caught v) (X0_gnawed v) (X0_risen v) (X0_fallen v))[(9 + 3 * i19)]? = (wX1 cy (sh a (9 + 3 * i19)) ((X0_moles v) i19))[0]?) rfl rfl rfl rfl g4) rfl g5 dX0_catchMole_40 (fun H locs hP hD hS => ?_)
          have eW := xup_slots a 9 3 z19_v_molesR y19_3.toNatClampNeg (z19_v_molesR (y19_3 + 1).toNatClampNeg)
          have hP : va_P (dC, dI) vwCl (cX0 cy a b (X0_mounds v) (X0_opened v) (X0_roots v) (X0_traps v) (X0_tunnels v) (va_up z19_v_molesR y19_3.toNatClampNeg (z19_v_molesR (y19_3 + 1).toNatClampNeg)) (X0_moles v) z19_v_moleCount (X0_fullAir v) (X0_beats v) (X0_caught v) (X0_gnawed v) (X0_risen v) (X0_fallen v)) H := (congrArg (fun (f9 : Nat → Option Nat) => va_P (dC, dI) vwCl ((cX0 cy a b (X0_mounds v) (X0_opened v) (X0_roots v) (X0_traps v) (X0_tunnels v) z19_v_molesR (X0_moles v) z19_v_moleCount (X0_fullAir v) (X0_beats v) (X0_caught v) (X0_gnawed v) (X0_risen v) (X0_fallen v)).set 8 ((a 8), .inl (cy 2, 4, .inr (.inr (.inr (.inr f9)))))) H) eW).mp hP
          have hD : va_D A (cX0 cy a b (X0_mounds v) (X0_opened v) (X0_roots v) (X0_traps v) (X0_tunnels v) (va_up z19_v_molesR y19_3.toNatClampNeg (z19_v_molesR (y19_3 + 1).toNatClampNeg)) (X0_moles v) z19_v_moleCount (X0_fullAir v) (X0_beats v) (X0_caught v) (X0_gnawed v) (X0_risen v) (X0_fallen v)) := (congrArg (fun (f9 : Nat → Option Nat) => va_D A ((cX0 cy a b (X0_mounds v) (X0_opened v) (X0_roots v) (X0_traps v) (X0_tunnels v) z19_v_molesR (X0_moles v) z19_v_moleCount (X0_fullAir v) (X0_beats v) (X0_caught v) (X0_gnawed v) (X0_risen v) (X0_fallen v)).set 8 ((a 8), .inl (cy 2, 4, .inr (.inr (.inr (.inr f9))))))) eW).mp hD
          refine lv_iinc (v := (y19_3 + 1)) (lv' := [(3, .int (y19_3 + 1)), (0, .ref (a 0)), (2, .ref (a (9 + 3 * j19_2)))]) hx hb dX0_catchMole_41 hl (k := 2) rfl rfl (by decide) rfl (fun ls hl => ?_)
          refine lv_goto (tgt := 19) hx hb dX0_catchMole_44 (by decide) ?_
          exact bk19 (y19_3 + 1) (va_up z19_v_molesR y19_3.toNatClampNeg (z19_v_molesR (y19_3 + 1).toNatClampNeg)) _ _ _ hq hP hD hS (lv_sub hl [1, 2, 0] rfl)
    exact key _ y19_3 z19_v_molesR H locs ls h0 (Nat.lt_succ_self _) hP hD hS hl
  refine lv_aload_n hx hb dX0_catchMole_0 rfl (lv_at hl 0 rfl) ?_
  refine va_get (D := (dC, dI)) (ci := 0) (v := .ref (a 8)) (C := RX0) (T := TX0) (N := 14) hx hb hts iK0 hown hK hP 0 rfl rfl 6 (by decide) lk1 (fun _ h9 => h9) rfl dX0_catchMole_1 ?_
  refine lv_iload_n hx hb dX0_catchMole_4 rfl (lv_at hl 1 rfl) ?_
  obtain ⟨g7, hq⟩ := hq
  obtain ⟨g8, hq⟩ := hq
  refine va_aldq hx hb hK hP 8 2 rfl rfl g7 dX0_catchMole_5 ?_
  refine lv_astore_n (lv' := [(2, .ref (a (9 + 3 * ((X0_molesR v) x1.toNatClampNeg)))), (0, .ref (a 0)), (1, .int x1)]) hx hb dX0_catchMole_6 rfl hl (by decide) rfl (fun ls hl => ?_)
  refine lv_aload_n hx hb dX0_catchMole_7 rfl (lv_at hl 1 rfl) ?_
  refine lv_dup hx hb dX0_catchMole_8 rfl ?_
  refine va_get (D := (dC, dI)) (ci := 0) (v := .int (X0_moleCount v)) (C := RX0) (T := TX0) (N := 14) hx hb hts iK0 hown hK hP 0 rfl rfl 7 (by decide) lk0 (fun _ h9 => h9) rfl dX0_catchMole_9 ?_
  refine lv_iconst (v := 1) hx hb dX0_catchMole_12 (by decide) ?_
  refine lv_isub hx hb dX0_catchMole_13 ?_
  refine va_put (D := (dC, dI)) (ci := 0) (v := .int ((X0_moleCount v) - 1)) (ty := .int) (C := RX0) (T := TX0) (N := 14) hx hb hts iK0 tyX0 tyX0_ok nmX0 hown hK hP hD hS 0 rfl rfl 7 (by decide) lk0 (fun _ h9 => h9) rfl (by decide +kernel) rfl rfl (Nat.le_of_ble_eq_true rfl) dX0_catchMole_14 (fun H locs hP hD hS => ?_)
  have hP : va_P (dC, dI) vwCl (cX0 cy a b (X0_mounds v) (X0_opened v) (X0_roots v) (X0_traps v) (X0_tunnels v) (X0_molesR v) (X0_moles v) ((X0_moleCount v) - 1) (X0_fullAir v) (X0_beats v) (X0_caught v) (X0_gnawed v) (X0_risen v) (X0_fallen v)) H := hP
  have hD : va_D A (cX0 cy a b (X0_mounds v) (X0_opened v) (X0_roots v) (X0_traps v) (X0_tunnels v) (X0_molesR v) (X0_moles v) ((X0_moleCount v) - 1) (X0_fullAir v) (X0_beats v) (X0_caught v) (X0_gnawed v) (X0_risen v) (X0_fallen v)) := hD
  refine lv_iload_n hx hb dX0_catchMole_17 rfl (lv_at hl 2 rfl) ?_
  refine lv_istore_n (lv' := [(3, .int x1), (2, .ref (a (9 + 3 * ((X0_molesR v) x1.toNatClampNeg)))), (0, .ref (a 0)), (1, .int x1)]) hx hb dX0_catchMole_18 rfl hl (by decide) rfl (fun ls hl => ?_)
  exact J19 ((X0_molesR v) x1.toNatClampNeg) ((X0_moleCount v) - 1) x1 (X0_molesR v) _ _ _ hq hP hD hS (lv_sub hl [2, 1, 0] rfl)
def wp_X0_finishTrail_30 (v : V_X0) (j1 : Nat) (y30_2 : Int32) (z30_v_tunnels : V_X3) (Q : (Nat → V_X1) → V_X3 → Prop) : Prop :=
  j1 < 4 ∧ wp_X1_beginTrail ((X0_moles v) j1) y30_2 (fun z32_v_trail z32_v_trailLength =>
  Q (va_up (X0_moles v) j1 ((X1_directions ((X0_moles v) j1)), z32_v_trail, (X1_planned ((X0_moles v) j1)), z32_v_trailLength, (X0_fullAir v), (X1_steps ((X0_moles v) j1)), (X1_lost ((X0_moles v) j1)))) z30_v_tunnels)
def wp_X0_finishTrail (v : V_X0) (j1 : Nat) (Q : (Nat → V_X1) → V_X3 → Prop) : Prop :=
  j1 < 4 ∧ wp_X1_place ((X0_moles v) j1) (fun r1 =>
  wp_X1_firstIndex ((X0_moles v) j1) r1 (fun r7 =>
  ((r7 ≤ 0 → wp_X0_finishTrail_30 v j1 r1 (X0_tunnels v)  Q) ∧
  (¬ r7 ≤ 0 → wp_X3_addRow (X0_tunnels v) 21 (X1_trail ((X0_moles v) j1)) 0 (r7 + 1) (fun z27_v_cells z27_v_ends z27_v_size z27_v_used =>
  wp_X0_finishTrail_30 v j1 r1 (z27_v_cells, z27_v_ends, z27_v_used, z27_v_size)  Q)))))
def q_X0_finishTrail (dC : Nat → ClassId) (dI : Nat → Nat → Nat) (cy : Nat → ClassId) (a b : Nat → Nat) (v : V_X0) (j1 : Nat) (Q : (Nat → V_X1) → V_X3 → Prop) (A : Nat → Prop) : Array Value → State → Outcome → State → Prop := va_Qv (fun (u : (Nat → V_X1) × V_X3) => Q u.1 u.2) (fun (u : (Nat → V_X1) × V_X3) t => xAt dC dI cy A (cX0 cy a b (X0_mounds v) (X0_opened v) (X0_roots v) (X0_traps v) u.2 (X0_molesR v) u.1 (X0_moleCount v) (X0_fullAir v) (X0_beats v) (X0_caught v) (X0_gnawed v) (X0_risen v) (X0_fallen v)) t) A
set_option maxHeartbeats 4000000 in
set_option maxRecDepth 100000 in
theorem c_X0_finishTrail (l : Launch) (dC : Nat → ClassId) (dI : Nat → Nat → Nat) (cy : Nat → ClassId) (a b : Nat → Nat) (sz : Nat) (v : V_X0) (j1 : Nat) (Q : (Nat → V_X1) → V_X3 → Prop) (hq : wp_X0_finishTrail v j1 Q) (hj1 : j1 < 4) : Met l yX0_finishTrail wsX0_finishTrail ({ frames := 2, cells := 0, slots := 0, locals := 50 } : Room) (va_Pc [.ref (a 0), .ref (a (9 + 3 * j1))] (xPre dC dI cy (wX0 cy a b v) sz)) (q_X0_finishTrail dC dI cy a b v j1 Q (va_A (wX0 cy a b v) sz)) 0 0 (va_A (wX0 cy a b v) sz) := by
  refine Met.ofW (cc := cX0_finishTrail) (maxL := 4) (ret := none) (by decide) rfl ?_
  intro p e s m args below meth c s₁ B hml hv
  obtain ⟨rfl, hsz, hP, hK, hD0⟩ := hv
  have hx := B.exec
  have hb := B.bytes
  have hr := B.returns
  have hts := atoms_spec (ws := wsX0_finishTrail) B.pre
  have hown : s.vm.findClass RX0 = some m.cls := findClass_of_methodNamed B.named
  have hlocks := B.notSynchronized
  subst hsz
  have hD := hD0.self (sz := s.heap.size)
  generalize hAe : va_A (wX0 cy a b v) s.heap.size = A at hD ⊢
  have hAe0 : ∀ q : Nat, s.heap.size ≤ q → A q := fun q h => by rw [← hAe]; exact Or.inr h
  have hS : va_S A s.heap s.heap [] := va_S.rf
  have hl := lv_entry ([.ref (a 0), .ref (a (9 + 3 * j1))]) (n := 4) (Nat.le_of_ble_eq_true rfl)
  rw [lg_entry_eq]
  generalize (lg_sl ([.ref (a 0), .ref (a (9 + 3 * j1))]) ++ List.replicate (4 - (lg_sl ([.ref (a 0), .ref (a (9 + 3 * j1))])).length) Slot.unset).toArray = ls at hl ⊢
  have hl : lv_has ls 4 [(0, .ref (a 0)), (1, .ref (a (9 + 3 * j1)))] := hl
  have lk0 := hts (Cond.fieldLink RX0 38 "MolesLawn$Lawn" "fullAir" "I") (List.mem_cons_of_mem _ (List.mem_append_left _ (List.mem_append_left _ (List.mem_append_left _ (List.mem_append_left _ (List.mem_of_getElem? (i := 2) rfl))))))
  have lk1 := hts (Cond.fieldLink RX0 87 "MolesLawn$Mole" "air" "I") (List.mem_cons_of_mem _ (List.mem_append_left _ (List.mem_append_left _ (List.mem_append_left _ (List.mem_append_left _ (List.mem_of_getElem? (i := 3) rfl))))))
  have lk2 := hts (Cond.fieldLink RX0 28 "MolesLawn$Lawn" "tunnels" "LMolesLawn$Rows;") (List.mem_cons_of_mem _ (List.mem_append_left _ (List.mem_append_left _ (List.mem_append_left _ (List.mem_append_left _ (List.mem_of_getElem? (i := 0) rfl))))))
  have lk3 := hts (Cond.fieldLink RX0 81 "MolesLawn$Mole" "trail" "[I") (List.mem_cons_of_mem _ (List.mem_append_left _ (List.mem_append_left _ (List.mem_append_left _ (List.mem_append_left _ (List.mem_of_getElem? (i := 1) rfl))))))
  have iK0 : ∀ w ∈ wsX00, w ∈ wsX0_finishTrail := fun _ h => (List.mem_cons_of_mem _ (List.mem_append_left _ (List.mem_append_left _ (List.mem_append_right _ h))))
  have iK1 : ∀ w ∈ wsX10, w ∈ wsX0_finishTrail := fun _ h => (List.mem_cons_of_mem _ (List.mem_append_left _ (List.mem_append_right _ h)))
  unfold wp_X0_finishTrail at hq
  have J30 : ∀ (y30_2 : Int32) (z30_v_tunnels : V_X3) (H : Heap) (locs : List Loc) (ls : Array Slot), wp_X0_finishTrail_30 v j1 y30_2 z30_v_tunnels Q → va_P (dC, dI) vwCl (cX0 cy a b (X0_mounds v) (X0_opened v) (X0_roots v) (X0_traps v) z30_v_tunnels (X0_molesR v) (X0_moles v) (X0_moleCount v) (X0_fullAir v) (X0_beats v) (X0_caught v) (X0_gnawed v) (X0_risen v) (X0_fallen v)) H → va_D A (cX0 cy a b (X0_mounds v) (X0_opened v) (X0_roots v) (X0_traps v) z30_v_tunnels (X0_molesR v) (X0_moles v) (X0_moleCount v) (X0_fullAir v) (X0_beats v) (X0_caught v) (X0_gnawed v) (X0_risen v) (X0_fallen v)) → va_S A s.heap H locs → lv_has ls 4 [(0, .ref (a 0)), (1, .ref (a (9 + 3 * j1))), (2, .int y30_2)] → W p l e (headSpec wsX0_finishTrail ({ frames := 2, cells := 0, slots := 0, locals := 50 } : Room)).room s m ([.ref (a 0), .ref (a (9 + 3 * j1))] : List Value).toArray below meth c H locs 0 0 (MQ below (q_X0_finishTrail dC dI cy a b v j1 Q A) ([.ref (a 0), .ref (a (9 + 3 * j1))] : List Value).toArray s 0 0 A) (F0 m 30 ls []) := by
    intro y30_2 z30_v_tunnels H locs ls hq hP hD hS hl
    unfold wp_X0_finishTrail_30 at hq
    refine lv_aload_n hx hb dX0_finishTrail_30 rfl (lv_at hl 1 rfl) ?_
    refine lv_iload_n hx hb dX0_finishTrail_31 rfl (lv_at hl 2 rfl) ?_
    obtain ⟨g1, hq⟩ := hq
    have hC : (([(9 + 3 * j1), (10 + 3 * j1), (11 + 3 * j1)] : List Nat).map (fun i => (cX0 cy a b (X0_mounds v) (X0_opened v) (X0_roots v) (X0_traps v) z30_v_tunnels (X0_molesR v) (X0_moles v) (X0_moleCount v) (X0_fullAir v) (X0_beats v) (X0_caught v) (X0_gnawed v) (X0_risen v) (X0_fallen v))[i]?)) = (wX1 cy (sh a (9 + 3 * j1)) ((X0_moles v) j1)).map some := (co_4 (P := fun i19 => (([(9 + 3 * i19), (10 + 3 * i19), (11 + 3 * i19)] : List Nat).map (fun i => (cX0 cy a b (X0_mounds v) (X0_opened v) (X0_roots v) (X0_traps v) z30_v_tunnels (X0_molesR v) (X0_moles v) (X0_moleCount v) (X0_fullAir v) (X0_beats v) (X0_caught v) (X0_gnawed v) (X0_risen v) (X0_fallen v))[i]?)) = (wX1 cy (sh a (9 + 3 * i19)) ((X0_moles v) i19)).map some) rfl rfl rfl rfl g1)
    have hN : va_nd [(9 + 3 * j1), (10 + 3 * j1), (11 + 3 * j1)] = true := (co_4 (P := fun i19 => va_nd [(9 + 3 * i19), (10 + 3 * i19), (11 + 3 * i19)] = true) rfl rfl rfl rfl g1)
    have hPc := xsubP hP hC
    have hDc := xsubD hD hN hC
    have hFc := va_free (wc := (wX1 cy (sh a (9 + 3 * j1)) ((X0_moles v) j1))) hD hS hAe0 [(9 + 3 * j1), (10 + 3 * j1), (11 + 3 * j1)] hC
    refine va_callv (va_runV (As := [.int y30_2]) (rest := []) ⟨hx, hb, hml, hown, hts⟩ (c_X1_beginTrail l dC dI cy (sh a (9 + 3 * j1)) _ ((X0_moles v) j1) y30_2 _ hq) (cwV 1 hts gX0_finishTrail_X1_beginTrail rfl rfl rfl (by decide +kernel) ⟨Nat.le_of_ble_eq_true rfl, Nat.le_of_ble_eq_true rfl⟩) ⟨xPre_blind, va_recv hK hP (ci := 1) (q0 := (9 + 3 * j1)) rfl (co_4 (P := fun i19 => (cX0 cy a b (X0_mounds v) (X0_opened v) (X0_roots v) (X0_traps v) z30_v_tunnels (X0_molesR v) (X0_moles v) (X0_moleCount v) (X0_fullAir v) (X0_beats v) (X0_caught v) (X0_gnawed v) (X0_risen v) (X0_fallen v))[(9 + 3 * i19)]? = (wX1 cy (sh a (9 + 3 * i19)) ((X0_moles v) i19))[0]?) rfl rfl rfl rfl g1), xPre_of hPc hK hDc⟩ rfl rfl hl.1 rfl (lv_room (Nat.le_of_ble_eq_true rfl)) dX0_finishTrail_32 ⟨Nat.le_of_ble_eq_true rfl, Nat.le_of_ble_eq_true rfl⟩) hS (fun q _ h => hFc q h) hFc (fun u9 t H locs ht hvm hq hB hz1 hk1 hS => ?_)
    obtain ⟨z32_v_trail, z32_v_trailLength⟩ := u9
    obtain ⟨hP1, -, hD1⟩ := hB
    rw [ht] at hP1
    obtain ⟨hP, hD⟩ := xj hP hD [(9 + 3 * j1), (10 + 3 * j1), (11 + 3 * j1)] (cX1 cy (sh a (9 + 3 * j1)) (X1_directions ((X0_moles v) j1)) z32_v_trail (X1_planned ((X0_moles v) j1)) z32_v_trailLength (X1_air ((X0_moles v) j1)) (X1_steps ((X0_moles v) j1)) (X1_lost ((X0_moles v) j1))) (ws' := (cX0 cy a b (X0_mounds v) (X0_opened v) (X0_roots v) (X0_traps v) z30_v_tunnels (X0_molesR v) (va_up (X0_moles v) j1 ((X1_directions ((X0_moles v) j1)), z32_v_trail, (X1_planned ((X0_moles v) j1)), z32_v_trailLength, (X1_air ((X0_moles v) j1)), (X1_steps ((X0_moles v) j1)), (X1_lost ((X0_moles v) j1)))) (X0_moleCount v) (X0_fullAir v) (X0_beats v) (X0_caught v) (X0_gnawed v) (X0_risen v) (X0_fallen v))) hC rfl (co_4 (P := fun i19 => xput (cX0 cy a b (X0_mounds v) (X0_opened v) (X0_roots v) (X0_traps v) z30_v_tunnels (X0_molesR v) (X0_moles v) (X0_moleCount v) (X0_fullAir v) (X0_beats v) (X0_caught v) (X0_gnawed v) (X0_risen v) (X0_fallen v)) [(9 + 3 * i19), (10 + 3 * i19), (11 + 3 * i19)] (cX1 cy (sh a (9 + 3 * i19)) (X1_directions ((X0_moles v) i19)) z32_v_trail (X1_planned ((X0_moles v) i19)) z32_v_trailLength (X1_air ((X0_moles v) i19)) (X1_steps ((X0_moles v) i19)) (X1_lost ((X0_moles v) i19))) = (cX0 cy a b (X0_mounds v) (X0_opened v) (X0_roots v) (X0_traps v) z30_v_tunnels (X0_molesR v) (va_up (X0_moles v) i19 ((X1_directions ((X0_moles v) i19)), z32_v_trail, (X1_planned ((X0_moles v) i19)), z32_v_trailLength, (X1_air ((X0_moles v) i19)), (X1_steps ((X0_moles v) i19)), (X1_lost ((X0_moles v) i19)))) (X0_moleCount v) (X0_fullAir v) (X0_beats v) (X0_caught v) (X0_gnawed v) (X0_risen v) (X0_fallen v))) rfl rfl rfl rfl g1) hk1 hFc hP1
    refine lv_aload_n hx hb dX0_finishTrail_35 rfl (lv_at hl 1 rfl) ?_
    refine lv_aload_n hx hb dX0_finishTrail_36 rfl (lv_at hl 0 rfl) ?_
    refine va_get (D := (dC, dI)) (ci := 0) (v := .int (X0_fullAir v)) (C := RX0) (T := TX0) (N := 14) hx hb hts iK0 hown hK hP 0 rfl rfl 8 (by decide) lk0 (fun _ h9 => h9) rfl dX0_finishTrail_37 ?_
    refine va_put (D := (dC, dI)) (ci := 1) (v := .int (X0_fullAir v)) (ty := .int) (C := RX1) (T := TX1) (N := 7) hx hb hts iK1 tyX1 tyX1_ok nmX1 hown hK hP hD hS (9 + 3 * j1) ((co_4 (P := fun i19 => (cX0 cy a b (X0_mounds v) (X0_opened v) (X0_roots v) (X0_traps v) z30_v_tunnels (X0_molesR v) (va_up (X0_moles v) i19 ((X1_directions ((X0_moles v) i19)), z32_v_trail, (X1_planned ((X0_moles v) i19)), z32_v_trailLength, (X1_air ((X0_moles v) i19)), (X1_steps ((X0_moles v) i19)), (X1_lost ((X0_moles v) i19)))) (X0_moleCount v) (X0_fullAir v) (X0_beats v) (X0_caught v) (X0_gnawed v) (X0_risen v) (X0_fallen v))[(9 + 3 * i19)]? = (wX1 cy (sh a (9 + 3 * i19)) ((va_up (X0_moles v) i19 ((X1_directions ((X0_moles v) i19)), z32_v_trail, (X1_planned ((X0_moles v) i19)), z32_v_trailLength, (X1_air ((X0_moles v) i19)), (X1_steps ((X0_moles v) i19)), (X1_lost ((X0_moles v) i19)))) i19))[0]?) rfl rfl rfl rfl g1).trans (congrArg (fun (q : V_X1) => (wX1 cy (sh a (9 + 3 * j1)) q)[0]?) (va_up_self _ _ _))) rfl 4 (by decide) lk1 (fun _ h9 => h9) rfl (by decide +kernel) rfl rfl (Nat.le_of_ble_eq_true rfl) dX0_finishTrail_40 (fun H locs hP hD hS => ?_)
    have eW := (co_4 (P := fun i19 => (cX0 cy a b (X0_mounds v) (X0_opened v) (X0_roots v) (X0_traps v) z30_v_tunnels (X0_molesR v) (va_up (X0_moles v) i19 ((X1_directions ((X0_moles v) i19)), z32_v_trail, (X1_planned ((X0_moles v) i19)), z32_v_trailLength, (X1_air ((X0_moles v) i19)), (X1_steps ((X0_moles v) i19)), (X1_lost ((X0_moles v) i19)))) (X0_moleCount v) (X0_fullAir v) (X0_beats v) (X0_caught v) (X0_gnawed v) (X0_risen v) (X0_fallen v)).set (9 + 3 * i19) ((cX1 cy (sh a (9 + 3 * i19)) (X1_directions ((X0_moles v) i19)) z32_v_trail (X1_planned ((X0_moles v) i19)) z32_v_trailLength (X0_fullAir v) (X1_steps ((X0_moles v) i19)) (X1_lost ((X0_moles v) i19)))[0]?.getD (0, .inr (0, []))) = (cX0 cy a b (X0_mounds v) (X0_opened v) (X0_roots v) (X0_traps v) z30_v_tunnels (X0_molesR v) (va_up (X0_moles v) i19 ((X1_directions ((X0_moles v) i19)), z32_v_trail, (X1_planned ((X0_moles v) i19)), z32_v_trailLength, (X0_fullAir v), (X1_steps ((X0_moles v) i19)), (X1_lost ((X0_moles v) i19)))) (X0_moleCount v) (X0_fullAir v) (X0_beats v) (X0_caught v) (X0_gnawed v) (X0_risen v) (X0_fallen v))) rfl rfl rfl rfl g1)
    have hP : va_P (dC, dI) vwCl (cX0 cy a b (X0_mounds v) (X0_opened v) (X0_roots v) (X0_traps v) z30_v_tunnels (X0_molesR v) (va_up (X0_moles v) j1 ((X1_directions ((X0_moles v) j1)), z32_v_trail, (X1_planned ((X0_moles v) j1)), z32_v_trailLength, (X0_fullAir v), (X1_steps ((X0_moles v) j1)), (X1_lost ((X0_moles v) j1)))) (X0_moleCount v) (X0_fullAir v) (X0_beats v) (X0_caught v) (X0_gnawed v) (X0_risen v) (X0_fallen v)) H := by rw [← eW]; exact hP
    have hD : va_D A (cX0 cy a b (X0_mounds v) (X0_opened v) (X0_roots v) (X0_traps v) z30_v_tunnels (X0_molesR v) (va_up (X0_moles v) j1 ((X1_directions ((X0_moles v) j1)), z32_v_trail, (X1_planned ((X0_moles v) j1)), z32_v_trailLength, (X0_fullAir v), (X1_steps ((X0_moles v) j1)), (X1_lost ((X0_moles v) j1)))) (X0_moleCount v) (X0_fullAir v) (X0_beats v) (X0_caught v) (X0_gnawed v) (X0_risen v) (X0_fallen v)) := by rw [← eW]; exact hD
    exact W.vret hx hb hr (fun t ht hW => ⟨⟨((va_up (X0_moles v) j1 ((X1_directions ((X0_moles v) j1)), z32_v_trail, (X1_planned ((X0_moles v) j1)), z32_v_trailLength, (X0_fullAir v), (X1_steps ((X0_moles v) j1)), (X1_lost ((X0_moles v) j1)))), z30_v_tunnels), rfl, hq, (xAt_of hP hK hD ht hW)⟩, hS.F ht⟩) hS.2.2 dX0_finishTrail_43
  refine lv_aload_n hx hb dX0_finishTrail_0 rfl (lv_at hl 1 rfl) ?_
  obtain ⟨g2, hq⟩ := hq
  have hC : (([(9 + 3 * j1), (10 + 3 * j1), (11 + 3 * j1)] : List Nat).map (fun i => (wX0 cy a b v)[i]?)) = (wX1 cy (sh a (9 + 3 * j1)) ((X0_moles v) j1)).map some := (co_4 (P := fun i19 => (([(9 + 3 * i19), (10 + 3 * i19), (11 + 3 * i19)] : List Nat).map (fun i => (wX0 cy a b v)[i]?)) = (wX1 cy (sh a (9 + 3 * i19)) ((X0_moles v) i19)).map some) rfl rfl rfl rfl g2)
  have hN : va_nd [(9 + 3 * j1), (10 + 3 * j1), (11 + 3 * j1)] = true := (co_4 (P := fun i19 => va_nd [(9 + 3 * i19), (10 + 3 * i19), (11 + 3 * i19)] = true) rfl rfl rfl rfl g2)
  have hPc := xsubP hP hC
  have hDc := xsubD hD hN hC
  have hFc := va_free (wc := (wX1 cy (sh a (9 + 3 * j1)) ((X0_moles v) j1))) hD hS hAe0 [(9 + 3 * j1), (10 + 3 * j1), (11 + 3 * j1)] hC
  refine va_calli (va_runV (As := []) (rest := []) ⟨hx, hb, hml, hown, hts⟩ (c_X1_place l dC dI cy (sh a (9 + 3 * j1)) _ ((X0_moles v) j1) _ hq) (cwV 0 hts gX0_finishTrail_X1_place rfl rfl rfl (by decide +kernel) ⟨Nat.le_of_ble_eq_true rfl, Nat.le_of_ble_eq_true rfl⟩) ⟨xPre_blind, va_recv hK hP (ci := 1) (q0 := (9 + 3 * j1)) rfl (co_4 (P := fun i19 => (wX0 cy a b v)[(9 + 3 * i19)]? = (wX1 cy (sh a (9 + 3 * i19)) ((X0_moles v) i19))[0]?) rfl rfl rfl rfl g2), xPre_of hPc hK hDc⟩ rfl rfl hl.1 rfl (lv_room (Nat.le_of_ble_eq_true rfl)) dX0_finishTrail_1 ⟨Nat.le_of_ble_eq_true rfl, Nat.le_of_ble_eq_true rfl⟩) hS (fun q _ h => hFc q h) hFc (fun r1 u9 t H locs ht hvm hq hB hz1 hk1 hS => ?_)
  obtain ⟨hP1, -, hD1⟩ := hB
  rw [ht] at hP1
  have hP : va_P (dC, dI) vwCl (wX0 cy a b v) H := xj_keep hP hD [(9 + 3 * j1), (10 + 3 * j1), (11 + 3 * j1)] hC hP1 hk1
  refine lv_istore_n (lv' := [(2, .int r1), (0, .ref (a 0)), (1, .ref (a (9 + 3 * j1)))]) hx hb dX0_finishTrail_4 rfl hl (by decide) rfl (fun ls hl => ?_)
  refine lv_aload_n hx hb dX0_finishTrail_5 rfl (lv_at hl 2 rfl) ?_
  refine lv_iload_n hx hb dX0_finishTrail_6 rfl (lv_at hl 0 rfl) ?_
  have hC : (([(9 + 3 * j1), (10 + 3 * j1), (11 + 3 * j1)] : List Nat).map (fun i => (wX0 cy a b v)[i]?)) = (wX1 cy (sh a (9 + 3 * j1)) ((X0_moles v) j1)).map some := (co_4 (P := fun i19 => (([(9 + 3 * i19), (10 + 3 * i19), (11 + 3 * i19)] : List Nat).map (fun i => (wX0 cy a b v)[i]?)) = (wX1 cy (sh a (9 + 3 * i19)) ((X0_moles v) i19)).map some) rfl rfl rfl rfl g2)
  have hN : va_nd [(9 + 3 * j1), (10 + 3 * j1), (11 + 3 * j1)] = true := (co_4 (P := fun i19 => va_nd [(9 + 3 * i19), (10 + 3 * i19), (11 + 3 * i19)] = true) rfl rfl rfl rfl g2)
  have hPc := xsubP hP hC
  have hDc := xsubD hD hN hC
  have hFc := va_free (wc := (wX1 cy (sh a (9 + 3 * j1)) ((X0_moles v) j1))) hD hS hAe0 [(9 + 3 * j1), (10 + 3 * j1), (11 + 3 * j1)] hC
  refine va_calli (va_runV (As := [.int r1]) (rest := []) ⟨hx, hb, hml, hown, hts⟩ (c_X1_firstIndex l dC dI cy (sh a (9 + 3 * j1)) _ ((X0_moles v) j1) r1 _ hq) (cwV 1 hts gX0_finishTrail_X1_firstIndex rfl rfl rfl (by decide +kernel) ⟨Nat.le_of_ble_eq_true rfl, Nat.le_of_ble_eq_true rfl⟩) ⟨xPre_blind, va_recv hK hP (ci := 1) (q0 := (9 + 3 * j1)) rfl (co_4 (P := fun i19 => (wX0 cy a b v)[(9 + 3 * i19)]? = (wX1 cy (sh a (9 + 3 * i19)) ((X0_moles v) i19))[0]?) rfl rfl rfl rfl g2), xPre_of hPc hK hDc⟩ rfl rfl hl.1 rfl (lv_room (Nat.le_of_ble_eq_true rfl)) dX0_finishTrail_7 ⟨Nat.le_of_ble_eq_true rfl, Nat.le_of_ble_eq_true rfl⟩) hS (fun q _ h => hFc q h) hFc (fun r7 u9 t H locs ht hvm hq hB hz1 hk1 hS => ?_)
  obtain ⟨hP1, -, hD1⟩ := hB
  rw [ht] at hP1
  have hP : va_P (dC, dI) vwCl (wX0 cy a b v) H := xj_keep hP hD [(9 + 3 * j1), (10 + 3 * j1), (11 + 3 * j1)] hC hP1 hk1
  refine lv_istore_n (lv' := [(3, .int r7), (2, .int r1), (0, .ref (a 0)), (1, .ref (a (9 + 3 * j1)))]) hx hb dX0_finishTrail_10 rfl hl (by decide) rfl (fun ls hl => ?_)
  refine lv_iload_n hx hb dX0_finishTrail_11 rfl (lv_at hl 0 rfl) ?_
  obtain ⟨hqA, hqB⟩ := hq
  refine lv_if_le (tgt := 30) hx hb dX0_finishTrail_12 (by decide) (fun c3 => ?_) (fun c3 => ?_)
  · have hq := hqA c3
    exact J30 r1 (X0_tunnels v)  _ _ _ hq hP hD hS (lv_sub hl [2, 3, 1] rfl)
  · have hq := hqB c3
    refine lv_aload_n hx hb dX0_finishTrail_15 rfl (lv_at hl 2 rfl) ?_
    refine va_get (D := (dC, dI)) (ci := 0) (v := .ref (a 5)) (C := RX0) (T := TX0) (N := 14) hx hb hts iK0 hown hK hP 0 rfl rfl 4 (by decide) lk2 (fun _ h9 => h9) rfl dX0_finishTrail_16 ?_
    refine lv_aload_n hx hb dX0_finishTrail_19 rfl (lv_at hl 3 rfl) ?_
    refine va_get (D := (dC, dI)) (ci := 1) (v := .ref (a (9 + 3 * j1 + 2))) (C := RX1) (T := TX1) (N := 7) hx hb hts iK1 hown hK hP (9 + 3 * j1) (co_4 (P := fun i19 => (wX0 cy a b v)[(9 + 3 * i19)]? = (wX1 cy (sh a (9 + 3 * i19)) ((X0_moles v) i19))[0]?) rfl rfl rfl rfl g2) rfl 1 (by decide) lk3 (fun _ h9 => h9) rfl dX0_finishTrail_20 ?_
    refine lv_iconst (v := 0) hx hb dX0_finishTrail_23 (by decide) ?_
    refine lv_iload_n hx hb dX0_finishTrail_24 rfl (lv_at hl 0 rfl) ?_
    refine lv_iconst (v := 1) hx hb dX0_finishTrail_25 (by decide) ?_
    refine lv_iadd hx hb dX0_finishTrail_26 ?_
    have hC : (([5, 6, 7, (9 + 3 * j1 + 2)] : List Nat).map (fun i => (wX0 cy a b v)[i]?)) = (wX3 cy (sh a 5) (X0_tunnels v) ++ cAI cy (sh a (9 + 3 * j1 + 2)) 21 (X1_trail ((X0_moles v) j1))).map some := (co_4 (P := fun i19 => (([5, 6, 7, (9 + 3 * i19 + 2)] : List Nat).map (fun i => (wX0 cy a b v)[i]?)) = (wX3 cy (sh a 5) (X0_tunnels v) ++ cAI cy (sh a (9 + 3 * i19 + 2)) 21 (X1_trail ((X0_moles v) i19))).map some) rfl rfl rfl rfl g2)
    have hN : va_nd [5, 6, 7, (9 + 3 * j1 + 2)] = true := (co_4 (P := fun i19 => va_nd [5, 6, 7, (9 + 3 * i19 + 2)] = true) rfl rfl rfl rfl g2)
    have hPc := xsubP hP hC
    have hDc := xsubD hD hN hC
    have hFc := va_free (wc := (wX3 cy (sh a 5) (X0_tunnels v) ++ cAI cy (sh a (9 + 3 * j1 + 2)) 21 (X1_trail ((X0_moles v) j1)))) hD hS hAe0 [5, 6, 7, (9 + 3 * j1 + 2)] hC
    refine va_callv (va_runV (As := [.ref (a (9 + 3 * j1 + 2)), .int 0, .int (r7 + 1)]) (rest := []) ⟨hx, hb, hml, hown, hts⟩ (c_X3_addRow l dC dI cy (sh a 5) (sh a (9 + 3 * j1 + 2)) _ (X0_tunnels v) 21 (X1_trail ((X0_moles v) j1)) 0 (r7 + 1) _ hq) (cwV 3 hts gX0_finishTrail_X3_addRow rfl rfl rfl (by decide +kernel) ⟨Nat.le_of_ble_eq_true rfl, Nat.le_of_ble_eq_true rfl⟩) ⟨xPre_blind, va_recv hK hP (ci := 3) (q0 := 5) rfl rfl, xPre_of hPc hK hDc⟩ rfl rfl hl.1 rfl (lv_room (Nat.le_of_ble_eq_true rfl)) dX0_finishTrail_27 ⟨Nat.le_of_ble_eq_true rfl, Nat.le_of_ble_eq_true rfl⟩) hS (fun q _ h => hFc q h) hFc (fun u9 t H locs ht hvm hq hB hz1 hk1 hS => ?_)
    obtain ⟨z27_v_cells, z27_v_ends, z27_v_size, z27_v_used⟩ := u9
    obtain ⟨hP1, -, hD1⟩ := hB
    rw [ht] at hP1
    obtain ⟨hP, hD⟩ := xj hP hD [5, 6, 7, (9 + 3 * j1 + 2)] (cX3 cy (sh a 5) z27_v_cells z27_v_ends z27_v_used z27_v_size ++ cAI cy (sh a (9 + 3 * j1 + 2)) 21 (X1_trail ((X0_moles v) j1))) (ws' := (cX0 cy a b (X0_mounds v) (X0_opened v) (X0_roots v) (X0_traps v) (z27_v_cells, z27_v_ends, z27_v_used, z27_v_size) (X0_molesR v) (X0_moles v) (X0_moleCount v) (X0_fullAir v) (X0_beats v) (X0_caught v) (X0_gnawed v) (X0_risen v) (X0_fallen v))) hC rfl (co_4 (P := fun i19 => xput (wX0 cy a b v) [5, 6, 7, (9 + 3 * i19 + 2)] (cX3 cy (sh a 5) z27_v_cells z27_v_ends z27_v_used z27_v_size ++ cAI cy (sh a (9 + 3 * i19 + 2)) 21 (X1_trail ((X0_moles v) i19))) = (cX0 cy a b (X0_mounds v) (X0_opened v) (X0_roots v) (X0_traps v) (z27_v_cells, z27_v_ends, z27_v_used, z27_v_size) (X0_molesR v) (X0_moles v) (X0_moleCount v) (X0_fullAir v) (X0_beats v) (X0_caught v) (X0_gnawed v) (X0_risen v) (X0_fallen v))) rfl rfl rfl rfl g2) hk1 hFc hP1
    exact J30 r1 (z27_v_cells, z27_v_ends, z27_v_used, z27_v_size)  _ _ _ hq hP hD hS (lv_sub hl [2, 3, 1] rfl)
