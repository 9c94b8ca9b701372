def wp_X7_areBeside (x0 : Int32) (x1 : Int32) (Q : Int32 → Prop) : Prop :=
  ((x0 = x1 → Q 0) ∧
  (¬ x0 = x1 → wp_X7_in ((x0 / 8) - (x1 / 8)) (-1) 1 (fun r16 =>
  ((r16 = 0 → Q 0) ∧
  (¬ r16 = 0 → wp_X7_in ((x0 - x0 / 8 * 8) - (x1 - x1 / 8 * 8)) (-1) 1 (fun r33 =>
  ((r33 = 0 → Q 0) ∧
  (¬ r33 = 0 → Q 1))))))))
def q_X7_areBeside (dC : Nat → ClassId) (dI : Nat → Nat → Nat) (cy : Nat → ClassId)  (x0 : Int32) (x1 : Int32) (Q : Int32 → Prop) (A : Nat → Prop) : Array Value → State → Outcome → State → Prop := va_Qi (fun (r : Int32) (u : Unit) => Q r ) (fun (u : Unit) t => xAt dC dI cy A ([] : va_W) t) A
set_option maxHeartbeats 4000000 in
set_option maxRecDepth 100000 in
theorem c_X7_areBeside (l : Launch) (dC : Nat → ClassId) (dI : Nat → Nat → Nat) (cy : Nat → ClassId)  (sz : Nat) (x0 : Int32) (x1 : Int32) (Q : Int32 → Prop) (hq : wp_X7_areBeside x0 x1 Q) : Met l yX7_areBeside wsX7_areBeside ({ frames := 1, cells := 0, slots := 0, locals := 22 } : Room) (va_Pc [.int x0, .int x1] (xPre dC dI cy ([] : va_W) sz)) (q_X7_areBeside dC dI cy  x0 x1 Q (va_A ([] : va_W) sz)) 0 0 (va_A ([] : va_W) sz) := by
  refine Met.ofW (cc := cX7_areBeside) (maxL := 2) (ret := (some .boolean)) (by decide) rfl ?_
  intro p e s m args below meth c s₁ B hml hv
  obtain ⟨rfl, hsz, hP, hK, hD0⟩ := hv
  have hx := B.exec
  have hb := B.bytes
  have hr := B.returns
  have hts := atoms_spec (ws := wsX7_areBeside) B.pre
  have hown : s.vm.findClass RX7 = some m.cls := findClass_of_methodNamed B.named
  have hlocks := B.notSynchronized
  subst hsz
  have hD := hD0.self (sz := s.heap.size)
  generalize hAe : va_A ([] : va_W) s.heap.size = A at hD ⊢
  have hAe0 : ∀ q : Nat, s.heap.size ≤ q → A q := fun q h => by rw [← hAe]; exact Or.inr h
  have hS : va_S A s.heap s.heap [] := va_S.rf
  have hl := lv_entry ([.int x0, .int x1]) (n := 2) (Nat.le_of_ble_eq_true rfl)
  rw [lg_entry_eq]
  generalize (lg_sl ([.int x0, .int x1]) ++ List.replicate (2 - (lg_sl ([.int x0, .int x1])).length) Slot.unset).toArray = ls at hl ⊢
  have hl : lv_has ls 2 [(0, .int x0), (1, .int x1)] := hl
  unfold wp_X7_areBeside at hq
  refine lv_iload_n hx hb dX7_areBeside_0 rfl (lv_at hl 0 rfl) ?_
  refine lv_iload_n hx hb dX7_areBeside_1 rfl (lv_at hl 1 rfl) ?_
  obtain ⟨hqA, hqB⟩ := hq
  refine lv_icmp_eq (tgt := 43) hx hb dX7_areBeside_2 (by decide) (fun c3 => ?_) (fun c3 => ?_)
  · have hq := hqA c3
    refine lv_iconst (v := 0) hx hb dX7_areBeside_43 (by decide) ?_
    exact W.zret (v := 0) hx hb hr rfl (fun t ht hW => ⟨⟨0, (), rfl, hq, (xAt_of hP hK hD ht hW)⟩, hS.F ht⟩) hS.2.2 dX7_areBeside_44
  · have hq := hqB c3
    refine lv_iload_n hx hb dX7_areBeside_5 rfl (lv_at hl 0 rfl) ?_
    refine lv_bipush (v := 8) hx hb dX7_areBeside_6 (by decide) ?_
    refine lv_idiv hx hb dX7_areBeside_8 (by decide) ?_
    refine lv_iload_n hx hb dX7_areBeside_9 rfl (lv_at hl 1 rfl) ?_
    refine lv_bipush (v := 8) hx hb dX7_areBeside_10 (by decide) ?_
    refine lv_idiv hx hb dX7_areBeside_12 (by decide) ?_
    refine lv_isub hx hb dX7_areBeside_13 ?_
    refine lv_iconst (v := (-1)) hx hb dX7_areBeside_14 (by decide) ?_
    refine lv_iconst (v := 1) hx hb dX7_areBeside_15 (by decide) ?_
    have hFc := xfree_none hS hAe0
    refine va_calli (va_runS (As := [.int ((x0 / 8) - (x1 / 8)), .int (-1), .int 1]) (rest := []) ⟨hx, hb, hml, hown, hts⟩ (c_X7_in l dC dI cy  _ ((x0 / 8) - (x1 / 8)) (-1) 1 _ hq) (va_cwS 3 hts gX7_areBeside_X7_in rfl rfl rfl (by decide +kernel) ⟨Nat.le_of_ble_eq_true rfl, Nat.le_of_ble_eq_true rfl⟩) ⟨xPre_blind, xPre_of xP_nil hK (xD_nil (A := A))⟩ rfl rfl hl.1 rfl (lv_room (Nat.le_of_ble_eq_true rfl)) dX7_areBeside_16 ⟨Nat.le_of_ble_eq_true rfl, Nat.le_of_ble_eq_true rfl⟩) hS (fun q _ h => hFc q h) hFc (fun r16 u9 t H locs ht hvm hq hB hz1 hk1 hS => ?_)
    have hP := xj_none hP hk1
    obtain ⟨hqA, hqB⟩ := hq
    refine lv_if_eq (tgt := 43) hx hb dX7_areBeside_19 (by decide) (fun c2 => ?_) (fun c2 => ?_)
    · have hq := hqA c2
      refine lv_iconst (v := 0) hx hb dX7_areBeside_43 (by decide) ?_
      exact W.zret (v := 0) hx hb hr rfl (fun t ht hW => ⟨⟨0, (), rfl, hq, (xAt_of hP hK hD ht hW)⟩, hS.F ht⟩) hS.2.2 dX7_areBeside_44
    · have hq := hqB c2
      refine lv_iload_n hx hb dX7_areBeside_22 rfl (lv_at hl 0 rfl) ?_
      refine lv_bipush (v := 8) hx hb dX7_areBeside_23 (by decide) ?_
      refine lv_irem hx hb dX7_areBeside_25 (by decide) ?_
      refine lv_iload_n hx hb dX7_areBeside_26 rfl (lv_at hl 1 rfl) ?_
      refine lv_bipush (v := 8) hx hb dX7_areBeside_27 (by decide) ?_
      refine lv_irem hx hb dX7_areBeside_29 (by decide) ?_
      refine lv_isub hx hb dX7_areBeside_30 ?_
      refine lv_iconst (v := (-1)) hx hb dX7_areBeside_31 (by decide) ?_
      refine lv_iconst (v := 1) hx hb dX7_areBeside_32 (by decide) ?_
      have hFc := xfree_none hS hAe0
      refine va_calli (va_runS (As := [.int ((x0 - x0 / 8 * 8) - (x1 - x1 / 8 * 8)), .int (-1), .int 1]) (rest := []) ⟨hx, hb, hml, hown, hts⟩ (c_X7_in l dC dI cy  _ ((x0 - x0 / 8 * 8) - (x1 - x1 / 8 * 8)) (-1) 1 _ hq) (va_cwS 3 hts gX7_areBeside_X7_in rfl rfl rfl (by decide +kernel) ⟨Nat.le_of_ble_eq_true rfl, Nat.le_of_ble_eq_true rfl⟩) ⟨xPre_blind, xPre_of xP_nil hK (xD_nil (A := A))⟩ rfl rfl hl.1 rfl (lv_room (Nat.le_of_ble_eq_true rfl)) dX7_areBeside_33 ⟨Nat.le_of_ble_eq_true rfl, Nat.le_of_ble_eq_true rfl⟩) hS (fun q _ h => hFc q h) hFc (fun r33 u9 t H locs ht hvm hq hB hz1 hk1 hS => ?_)
      have hP := xj_none hP hk1
      obtain ⟨hqA, hqB⟩ := hq
      refine lv_if_eq (tgt := 43) hx hb dX7_areBeside_36 (by decide) (fun c1 => ?_) (fun c1 => ?_)
      · have hq := hqA c1
        refine lv_iconst (v := 0) hx hb dX7_areBeside_43 (by decide) ?_
        exact W.zret (v := 0) hx hb hr rfl (fun t ht hW => ⟨⟨0, (), rfl, hq, (xAt_of hP hK hD ht hW)⟩, hS.F ht⟩) hS.2.2 dX7_areBeside_44
      · have hq := hqB c1
        refine lv_iconst (v := 1) hx hb dX7_areBeside_39 (by decide) ?_
        refine lv_goto (tgt := 44) hx hb dX7_areBeside_40 (by decide) ?_
        exact W.zret (v := 1) hx hb hr rfl (fun t ht hW => ⟨⟨1, (), rfl, hq, (xAt_of hP hK hD ht hW)⟩, hS.F ht⟩) hS.2.2 dX7_areBeside_44
def wb_X7_numberOf_4 (v : V_X7) (x1 : Int32)  (y4_2 : Int32) (y4_3 : Int32) (B4 : Int32 → Int32 → Prop) (Q : Int32 → Prop) : Prop :=
  ((64 ≤ y4_3 → Q y4_2) ∧
  (¬ 64 ≤ y4_3 → wp_X7_areBeside x1 y4_3 (fun r13 =>
  ((r13 = 0 → B4 (y4_2 + 0) (y4_3 + 1)) ∧
  (¬ r13 = 0 → vp_in y4_3 64 ∧ ((((X7_isHollow v) y4_3.toNatClampNeg) = 0 → B4 (y4_2 + 0) (y4_3 + 1)) ∧
  (¬ ((X7_isHollow v) y4_3.toNatClampNeg) = 0 → B4 (y4_2 + 1) (y4_3 + 1))))))))
def wp_X7_numberOf_4 (v : V_X7) (x1 : Int32)  (y4_2 : Int32) (y4_3 : Int32) (Q : Int32 → Prop) : Prop :=
  ∃ (I : Int32 → Int32 → Prop) (μ : Int32 → Int32 → Nat), I y4_2 y4_3 ∧ ∀ (s0 : Int32) (s1 : Int32), I s0 s1 → wb_X7_numberOf_4 v x1  s0 s1 (fun t0 t1 => I t0 t1 ∧ μ t0 t1 < μ s0 s1) Q
def wp_X7_numberOf (v : V_X7) (x1 : Int32) (Q : Int32 → Prop) : Prop :=
  wp_X7_numberOf_4 v x1  0 0 Q
def q_X7_numberOf (dC : Nat → ClassId) (dI : Nat → Nat → Nat) (cy : Nat → ClassId) (a : Nat → Nat) (v : V_X7) (x1 : Int32) (Q : Int32 → Prop) (A : Nat → Prop) : Array Value → State → Outcome → State → Prop := va_Qi (fun (r : Int32) (u : Unit) => Q r ) (fun (u : Unit) t => xAt dC dI cy A (wX7 cy a v) t) A
set_option maxHeartbeats 4000000 in
set_option maxRecDepth 100000 in
theorem c_X7_numberOf (l : Launch) (dC : Nat → ClassId) (dI : Nat → Nat → Nat) (cy : Nat → ClassId) (a : Nat → Nat) (sz : Nat) (v : V_X7) (x1 : Int32) (Q : Int32 → Prop) (hq : wp_X7_numberOf v x1 Q) : Met l yX7_numberOf wsX7_numberOf ({ frames := 2, cells := 0, slots := 0, locals := 43 } : Room) (va_Pc [.ref (a 0), .int x1] (xPre dC dI cy (wX7 cy a v) sz)) (q_X7_numberOf dC dI cy a v x1 Q (va_A (wX7 cy a v) sz)) 0 0 (va_A (wX7 cy a v) sz) := by
  refine Met.ofW (cc := cX7_numberOf) (maxL := 4) (ret := (some .int)) (by decide) rfl ?_
  intro p e s m args below meth c s₁ B hml hv
  obtain ⟨rfl, hsz, hP, hK, hD0⟩ := hv
  have hx := B.exec
  have hb := B.bytes
  have hr := B.returns
  have hts := atoms_spec (ws := wsX7_numberOf) B.pre
  have hown : s.vm.findClass RX7 = some m.cls := findClass_of_methodNamed B.named
  have hlocks := B.notSynchronized
  subst hsz
  have hD := hD0.self (sz := s.heap.size)
  generalize hAe : va_A (wX7 cy a v) s.heap.size = A at hD ⊢
  have hAe0 : ∀ q : Nat, s.heap.size ≤ q → A q := fun q h => by rw [← hAe]; exact Or.inr h
  have hS : va_S A s.heap s.heap [] := va_S.rf
  have hl := lv_entry ([.ref (a 0), .int x1]) (n := 4) (Nat.le_of_ble_eq_true rfl)
  rw [lg_entry_eq]
  generalize (lg_sl ([.ref (a 0), .int x1]) ++ List.replicate (4 - (lg_sl ([.ref (a 0), .int x1])).length) Slot.unset).toArray = ls at hl ⊢
  have hl : lv_has ls 4 [(0, .ref (a 0)), (1, .int x1)] := hl
  have lk0 := hts (Cond.fieldLink RX7 28 "MolesLawnModel" "isHollow" "[Z") (List.mem_cons_of_mem _ (List.mem_append_left _ (List.mem_of_getElem? (i := 0) rfl)))
  have iK7 : ∀ w ∈ wsX70, w ∈ wsX7_numberOf := fun _ h => (List.mem_cons_of_mem _ (List.mem_append_right _ h))
  unfold wp_X7_numberOf at hq
  have J4 : ∀  (y4_2 : Int32) (y4_3 : Int32) (H : Heap) (locs : List Loc) (ls : Array Slot), wp_X7_numberOf_4 v x1  y4_2 y4_3 Q → va_P (dC, dI) vwCl (wX7 cy a v) H → va_D A (wX7 cy a v) → va_S A s.heap H locs → lv_has ls 4 [(0, .ref (a 0)), (1, .int x1), (2, .int y4_2), (3, .int y4_3)] → W p l e (headSpec wsX7_numberOf ({ frames := 2, cells := 0, slots := 0, locals := 43 } : Room)).room s m ([.ref (a 0), .int x1] : List Value).toArray below meth c H locs 0 0 (MQ below (q_X7_numberOf dC dI cy a v x1 Q A) ([.ref (a 0), .int x1] : List Value).toArray s 0 0 A) (F0 m 4 ls []) := by
    intro  y4_2 y4_3 H locs ls hq hP hD hS hl
    obtain ⟨I4, μ4, h0, hs4⟩ := hq
    have key : ∀ (n : Nat) (y4_2 : Int32) (y4_3 : Int32) (H : Heap) (locs : List Loc) (ls : Array Slot), I4 y4_2 y4_3 → μ4 y4_2 y4_3 < n → va_P (dC, dI) vwCl (wX7 cy a v) H → va_D A (wX7 cy a v) → va_S A s.heap H locs → lv_has ls 4 [(0, .ref (a 0)), (1, .int x1), (2, .int y4_2), (3, .int y4_3)] → W p l e (headSpec wsX7_numberOf ({ frames := 2, cells := 0, slots := 0, locals := 43 } : Room)).room s m ([.ref (a 0), .int x1] : List Value).toArray below meth c H locs 0 0 (MQ below (q_X7_numberOf dC dI cy a v x1 Q A) ([.ref (a 0), .int x1] : List Value).toArray s 0 0 A) (F0 m 4 ls []) := by
      intro n
      induction n with
      | zero => intro y4_2 y4_3 H locs ls _ hm; exact absurd hm (Nat.not_lt_zero _)
      | succ n ih =>
        intro y4_2 y4_3 H locs ls hI hm hP hD hS hl
        have hq := hs4 y4_2 y4_3 hI
        generalize hB4 : (fun (t0 : Int32) (t1 : Int32) => I4 t0 t1 ∧ μ4 t0 t1 < μ4 y4_2 y4_3) = B4 at hq
        have bk4 : ∀ (y4_2 : Int32) (y4_3 : Int32) (H : Heap) (locs : List Loc) (ls : Array Slot), B4 y4_2 y4_3 → va_P (dC, dI) vwCl (wX7 cy a v) H → va_D A (wX7 cy a v) → va_S A s.heap H locs → lv_has ls 4 [(0, .ref (a 0)), (1, .int x1), (2, .int y4_2), (3, .int y4_3)] → W p l e (headSpec wsX7_numberOf ({ frames := 2, cells := 0, slots := 0, locals := 43 } : Room)).room s m ([.ref (a 0), .int x1] : List Value).toArray below meth c H locs 0 0 (MQ below (q_X7_numberOf dC dI cy a v x1 Q A) ([.ref (a 0), .int x1] : List Value).toArray s 0 0 A) (F0 m 4 ls []) := by
          intro y4_2 y4_3 H locs ls h
          rw [← hB4] at h
          exact ih y4_2 y4_3 H locs ls h.1 (Nat.lt_of_lt_of_le h.2 (Nat.le_of_lt_succ hm))
        unfold wb_X7_numberOf_4 at hq
        refine lv_iload_n hx hb dX7_numberOf_4 rfl (lv_at hl 3 rfl) ?_
        refine lv_bipush (v := 64) hx hb dX7_numberOf_5 (by decide) ?_
        obtain ⟨hqA, hqB⟩ := hq
        refine lv_icmp_ge (tgt := 41) hx hb dX7_numberOf_7 (by decide) (fun c4 => ?_) (fun c4 => ?_)
        · have hq := hqA c4
          refine lv_iload_n hx hb dX7_numberOf_41 rfl (lv_at hl 2 rfl) ?_
          exact W.iret (v := y4_2) hx hb hr (fun t ht hW => ⟨⟨y4_2, (), rfl, hq, (xAt_of hP hK hD ht hW)⟩, hS.F ht⟩) hS.2.2 dX7_numberOf_42
        · have hq := hqB c4
          refine lv_iload_n hx hb dX7_numberOf_10 rfl (lv_at hl 2 rfl) ?_
          refine lv_iload_n hx hb dX7_numberOf_11 rfl (lv_at hl 1 rfl) ?_
          refine lv_iload_n hx hb dX7_numberOf_12 rfl (lv_at hl 3 rfl) ?_
          have hFc := xfree_none hS hAe0
          refine va_calli (va_runS (As := [.int x1, .int y4_3]) (rest := [.int y4_2]) ⟨hx, hb, hml, hown, hts⟩ (c_X7_areBeside l dC dI cy  _ x1 y4_3 _ hq) (va_cwS 2 hts gX7_numberOf_X7_areBeside rfl rfl rfl (by decide +kernel) ⟨Nat.le_of_ble_eq_true rfl, Nat.le_of_ble_eq_true rfl⟩) ⟨xPre_blind, xPre_of xP_nil hK (xD_nil (A := A))⟩ rfl rfl hl.1 rfl (lv_room (Nat.le_of_ble_eq_true rfl)) dX7_numberOf_13 ⟨Nat.le_of_ble_eq_true rfl, Nat.le_of_ble_eq_true rfl⟩) hS (fun q _ h => hFc q h) hFc (fun r13 u9 t H locs ht hvm hq hB hz1 hk1 hS => ?_)
          have hP := xj_none hP hk1
          obtain ⟨hqA, hqB⟩ := hq
          refine lv_if_eq (tgt := 32) hx hb dX7_numberOf_16 (by decide) (fun c3 => ?_) (fun c3 => ?_)
          · have hq := hqA c3
            refine lv_iconst (v := 0) hx hb dX7_numberOf_32 (by decide) ?_
            refine lv_iadd hx hb dX7_numberOf_33 ?_
            refine lv_istore_n (lv' := [(2, .int (y4_2 + 0)), (0, .ref (a 0)), (1, .int x1), (3, .int y4_3)]) hx hb dX7_numberOf_34 rfl hl (by decide) rfl (fun ls hl => ?_)
            refine lv_iinc (v := (y4_3 + 1)) (lv' := [(3, .int (y4_3 + 1)), (2, .int (y4_2 + 0)), (0, .ref (a 0)), (1, .int x1)]) hx hb dX7_numberOf_35 hl (k := 3) rfl rfl (by decide) rfl (fun ls hl => ?_)
            refine lv_goto (tgt := 4) hx hb dX7_numberOf_38 (by decide) ?_
            exact bk4 (y4_2 + 0) (y4_3 + 1) _ _ _ hq hP hD hS (lv_sub hl [2, 3, 1, 0] rfl)
          · have hq := hqB c3
            refine lv_aload_n hx hb dX7_numberOf_19 rfl (lv_at hl 0 rfl) ?_
            refine va_get (D := (dC, dI)) (ci := 7) (v := .ref (a 7)) (C := RX7) (T := TX7) (N := 16) hx hb hts iK7 hown hK hP 0 rfl rfl 12 (by decide) lk0 (fun _ h9 => h9) rfl dX7_numberOf_20 ?_
            refine lv_iload_n hx hb dX7_numberOf_23 rfl (lv_at hl 3 rfl) ?_
            obtain ⟨g1, hq⟩ := hq
            refine va_zald hx hb hK hP 7 1 rfl rfl g1 dX7_numberOf_24 ?_
            obtain ⟨hqA, hqB⟩ := hq
            refine lv_if_eq (tgt := 32) hx hb dX7_numberOf_25 (by decide) (fun c2 => ?_) (fun c2 => ?_)
            · have hq := hqA c2
              refine lv_iconst (v := 0) hx hb dX7_numberOf_32 (by decide) ?_
              refine lv_iadd hx hb dX7_numberOf_33 ?_
              refine lv_istore_n (lv' := [(2, .int (y4_2 + 0)), (0, .ref (a 0)), (1, .int x1), (3, .int y4_3)]) hx hb dX7_numberOf_34 rfl hl (by decide) rfl (fun ls hl => ?_)
              refine lv_iinc (v := (y4_3 + 1)) (lv' := [(3, .int (y4_3 + 1)), (2, .int (y4_2 + 0)), (0, .ref (a 0)), (1, .int x1)]) hx hb dX7_numberOf_35 hl (k := 3) rfl rfl (by decide) rfl (fun ls hl => ?_)
              refine lv_goto (tgt := 4) hx hb dX7_numberOf_38 (by decide) ?_
              exact bk4 (y4_2 + 0) (y4_3 + 1) _ _ _ hq hP hD hS (lv_sub hl [2, 3, 1, 0] rfl)
            · have hq := hqB c2
              refine lv_iconst (v := 1) hx hb dX7_numberOf_28 (by decide) ?_
              refine lv_goto (tgt := 33) hx hb dX7_numberOf_29 (by decide) ?_
              refine lv_iadd hx hb dX7_numberOf_33 ?_
              refine lv_istore_n (lv' := [(2, .int (y4_2 + 1)), (0, .ref (a 0)), (1, .int x1), (3, .int y4_3)]) hx hb dX7_numberOf_34 rfl hl (by decide) rfl (fun ls hl => ?_)
              refine lv_iinc (v := (y4_3 + 1)) (lv' := [(3, .int (y4_3 + 1)), (2, .int (y4_2 + 1)), (0, .ref (a 0)), (1, .int x1)]) hx hb dX7_numberOf_35 hl (k := 3) rfl rfl (by decide) rfl (fun ls hl => ?_)
              refine lv_goto (tgt := 4) hx hb dX7_numberOf_38 (by decide) ?_
              exact bk4 (y4_2 + 1) (y4_3 + 1) _ _ _ hq hP hD hS (lv_sub hl [2, 3, 1, 0] rfl)
    exact key _ y4_2 y4_3 H locs ls h0 (Nat.lt_succ_self _) hP hD hS hl
  refine lv_iconst (v := 0) hx hb dX7_numberOf_0 (by decide) ?_
  refine lv_istore_n (lv' := [(2, .int 0), (0, .ref (a 0)), (1, .int x1)]) hx hb dX7_numberOf_1 rfl hl (by decide) rfl (fun ls hl => ?_)
  refine lv_iconst (v := 0) hx hb dX7_numberOf_2 (by decide) ?_
  refine lv_istore_n (lv' := [(3, .int 0), (2, .int 0), (0, .ref (a 0)), (1, .int x1)]) hx hb dX7_numberOf_3 rfl hl (by decide) rfl (fun ls hl => ?_)
  exact J4  0 0 _ _ _ hq hP hD hS (lv_sub hl [2, 3, 1, 0] rfl)
def wb_X7_besideWith_5 (v : V_X7) (x1 : Int32) (x2 : Int32)  (y5_3 : Int32) (y5_4 : Int32) (B5 : Int32 → Int32 → Prop) (Q : Int32 → Prop) : Prop :=
  ((64 ≤ y5_4 → Q y5_3) ∧
  (¬ 64 ≤ y5_4 → wp_X7_areBeside x1 y5_4 (fun r16 =>
  ((r16 = 0 → B5 (y5_3 + 0) (y5_4 + 1)) ∧
  (¬ r16 = 0 → vp_in y5_4 64 ∧ ((((X7_sure v) y5_4.toNatClampNeg) = x2 → B5 (y5_3 + 1) (y5_4 + 1)) ∧
  (¬ ((X7_sure v) y5_4.toNatClampNeg) = x2 → B5 (y5_3 + 0) (y5_4 + 1))))))))
def wp_X7_besideWith_5 (v : V_X7) (x1 : Int32) (x2 : Int32)  (y5_3 : Int32) (y5_4 : Int32) (Q : Int32 → Prop) : Prop :=
  ∃ (I : Int32 → Int32 → Prop) (μ : Int32 → Int32 → Nat), I y5_3 y5_4 ∧ ∀ (s0 : Int32) (s1 : Int32), I s0 s1 → wb_X7_besideWith_5 v x1 x2  s0 s1 (fun t0 t1 => I t0 t1 ∧ μ t0 t1 < μ s0 s1) Q
def wp_X7_besideWith (v : V_X7) (x1 : Int32) (x2 : Int32) (Q : Int32 → Prop) : Prop :=
  wp_X7_besideWith_5 v x1 x2  0 0 Q
def q_X7_besideWith (dC : Nat → ClassId) (dI : Nat → Nat → Nat) (cy : Nat → ClassId) (a : Nat → Nat) (v : V_X7) (x1 : Int32) (x2 : Int32) (Q : Int32 → Prop) (A : Nat → Prop) : Array Value → State → Outcome → State → Prop := va_Qi (fun (r : Int32) (u : Unit) => Q r ) (fun (u : Unit) t => xAt dC dI cy A (wX7 cy a v) t) A
set_option maxHeartbeats 4000000 in
set_option maxRecDepth 100000 in
theorem c_X7_besideWith (l : Launch) (dC : Nat → ClassId) (dI : Nat → Nat → Nat) (cy : Nat → ClassId) (a : Nat → Nat) (sz : Nat) (v : V_X7) (x1 : Int32) (x2 : Int32) (Q : Int32 → Prop) (hq : wp_X7_besideWith v x1 x2 Q) : Met l yX7_besideWith wsX7_besideWith ({ frames := 2, cells := 0, slots := 0, locals := 43 } : Room) (va_Pc [.ref (a 0), .int x1, .int x2] (xPre dC dI cy (wX7 cy a v) sz)) (q_X7_besideWith dC dI cy a v x1 x2 Q (va_A (wX7 cy a v) sz)) 0 0 (va_A (wX7 cy a v) sz) := by
  refine Met.ofW (cc := cX7_besideWith) (maxL := 5) (ret := (some .int)) (by decide) rfl ?_
  intro p e s m args below meth c s₁ B hml hv
  obtain ⟨rfl, hsz, hP, hK, hD0⟩ := hv
  have hx := B.exec
  have hb := B.bytes
  have hr := B.returns
  have hts := atoms_spec (ws := wsX7_besideWith) B.pre
  have hown : s.vm.findClass RX7 = some m.cls := findClass_of_methodNamed B.named
  have hlocks := B.notSynchronized
  subst hsz
  have hD := hD0.self (sz := s.heap.size)
  generalize hAe : va_A (wX7 cy a v) s.heap.size = A at hD ⊢
  have hAe0 : ∀ q : Nat, s.heap.size ≤ q → A q := fun q h => by rw [← hAe]; exact Or.inr h
  have hS : va_S A s.heap s.heap [] := va_S.rf
  have hl := lv_entry ([.ref (a 0), .int x1, .int x2]) (n := 5) (Nat.le_of_ble_eq_true rfl)
  rw [lg_entry_eq]
  generalize (lg_sl ([.ref (a 0), .int x1, .int x2]) ++ List.replicate (5 - (lg_sl ([.ref (a 0), .int x1, .int x2])).length) Slot.unset).toArray = ls at hl ⊢
  have hl : lv_has ls 5 [(0, .ref (a 0)), (1, .int x1), (2, .int x2)] := hl
  have lk0 := hts (Cond.fieldLink RX7 32 "MolesLawnModel" "sure" "[I") (List.mem_cons_of_mem _ (List.mem_append_left _ (List.mem_of_getElem? (i := 0) rfl)))
  have iK7 : ∀ w ∈ wsX70, w ∈ wsX7_besideWith := fun _ h => (List.mem_cons_of_mem _ (List.mem_append_right _ h))
  unfold wp_X7_besideWith at hq
  have J5 : ∀  (y5_3 : Int32) (y5_4 : Int32) (H : Heap) (locs : List Loc) (ls : Array Slot), wp_X7_besideWith_5 v x1 x2  y5_3 y5_4 Q → va_P (dC, dI) vwCl (wX7 cy a v) H → va_D A (wX7 cy a v) → va_S A s.heap H locs → lv_has ls 5 [(0, .ref (a 0)), (1, .int x1), (2, .int x2), (3, .int y5_3), (4, .int y5_4)] → W p l e (headSpec wsX7_besideWith ({ frames := 2, cells := 0, slots := 0, locals := 43 } : Room)).room s m ([.ref (a 0), .int x1, .int x2] : List Value).toArray below meth c H locs 0 0 (MQ below (q_X7_besideWith dC dI cy a v x1 x2 Q A) ([.ref (a 0), .int x1, .int x2] : List Value).toArray s 0 0 A) (F0 m 5 ls []) := by
    intro  y5_3 y5_4 H locs ls hq hP hD hS hl
    obtain ⟨I5, μ5, h0, hs5⟩ := hq
    have key : ∀ (n : Nat) (y5_3 : Int32) (y5_4 : Int32) (H : Heap) (locs : List Loc) (ls : Array Slot), I5 y5_3 y5_4 → μ5 y5_3 y5_4 < n → va_P (dC, dI) vwCl (wX7 cy a v) H → va_D A (wX7 cy a v) → va_S A s.heap H locs → lv_has ls 5 [(0, .ref (a 0)), (1, .int x1), (2, .int x2), (3, .int y5_3), (4, .int y5_4)] → W p l e (headSpec wsX7_besideWith ({ frames := 2, cells := 0, slots := 0, locals := 43 } : Room)).room s m ([.ref (a 0), .int x1, .int x2] : List Value).toArray below meth c H locs 0 0 (MQ below (q_X7_besideWith dC dI cy a v x1 x2 Q A) ([.ref (a 0), .int x1, .int x2] : List Value).toArray s 0 0 A) (F0 m 5 ls []) := by
      intro n
      induction n with
      | zero => intro y5_3 y5_4 H locs ls _ hm; exact absurd hm (Nat.not_lt_zero _)
      | succ n ih =>
        intro y5_3 y5_4 H locs ls hI hm hP hD hS hl
        have hq := hs5 y5_3 y5_4 hI
        generalize hB5 : (fun (t0 : Int32) (t1 : Int32) => I5 t0 t1 ∧ μ5 t0 t1 < μ5 y5_3 y5_4) = B5 at hq
        have bk5 : ∀ (y5_3 : Int32) (y5_4 : Int32) (H : Heap) (locs : List Loc) (ls : Array Slot), B5 y5_3 y5_4 → va_P (dC, dI) vwCl (wX7 cy a v) H → va_D A (wX7 cy a v) → va_S A s.heap H locs → lv_has ls 5 [(0, .ref (a 0)), (1, .int x1), (2, .int x2), (3, .int y5_3), (4, .int y5_4)] → W p l e (headSpec wsX7_besideWith ({ frames := 2, cells := 0, slots := 0, locals := 43 } : Room)).room s m ([.ref (a 0), .int x1, .int x2] : List Value).toArray below meth c H locs 0 0 (MQ below (q_X7_besideWith dC dI cy a v x1 x2 Q A) ([.ref (a 0), .int x1, .int x2] : List Value).toArray s 0 0 A) (F0 m 5 ls []) := by
          intro y5_3 y5_4 H locs ls h
          rw [← hB5] at h
          exact ih y5_3 y5_4 H locs ls h.1 (Nat.lt_of_lt_of_le h.2 (Nat.le_of_lt_succ hm))
        unfold wb_X7_besideWith_5 at hq
        refine lv_iload hx hb dX7_besideWith_5 (lv_at hl 4 rfl) ?_
        refine lv_bipush (v := 64) hx hb dX7_besideWith_7 (by decide) ?_
        obtain ⟨hqA, hqB⟩ := hq
        refine lv_icmp_ge (tgt := 46) hx hb dX7_besideWith_9 (by decide) (fun c4 => ?_) (fun c4 => ?_)
        · have hq := hqA c4
          refine lv_iload_n hx hb dX7_besideWith_46 rfl (lv_at hl 3 rfl) ?_
          exact W.iret (v := y5_3) hx hb hr (fun t ht hW => ⟨⟨y5_3, (), rfl, hq, (xAt_of hP hK hD ht hW)⟩, hS.F ht⟩) hS.2.2 dX7_besideWith_47
        · have hq := hqB c4
          refine lv_iload_n hx hb dX7_besideWith_12 rfl (lv_at hl 3 rfl) ?_
          refine lv_iload_n hx hb dX7_besideWith_13 rfl (lv_at hl 1 rfl) ?_
          refine lv_iload hx hb dX7_besideWith_14 (lv_at hl 4 rfl) ?_
          have hFc := xfree_none hS hAe0
          refine va_calli (va_runS (As := [.int x1, .int y5_4]) (rest := [.int y5_3]) ⟨hx, hb, hml, hown, hts⟩ (c_X7_areBeside l dC dI cy  _ x1 y5_4 _ hq) (va_cwS 2 hts gX7_besideWith_X7_areBeside rfl rfl rfl (by decide +kernel) ⟨Nat.le_of_ble_eq_true rfl, Nat.le_of_ble_eq_true rfl⟩) ⟨xPre_blind, xPre_of xP_nil hK (xD_nil (A := A))⟩ rfl rfl hl.1 rfl (lv_room (Nat.le_of_ble_eq_true rfl)) dX7_besideWith_16 ⟨Nat.le_of_ble_eq_true rfl, Nat.le_of_ble_eq_true rfl⟩) hS (fun q _ h => hFc q h) hFc (fun r16 u9 t H locs ht hvm hq hB hz1 hk1 hS => ?_)
          have hP := xj_none hP hk1
          obtain ⟨hqA, hqB⟩ := hq
          refine lv_if_eq (tgt := 37) hx hb dX7_besideWith_19 (by decide) (fun c3 => ?_) (fun c3 => ?_)
          · have hq := hqA c3
            refine lv_iconst (v := 0) hx hb dX7_besideWith_37 (by decide) ?_
            refine lv_iadd hx hb dX7_besideWith_38 ?_
            refine lv_istore_n (lv' := [(3, .int (y5_3 + 0)), (0, .ref (a 0)), (1, .int x1), (2, .int x2), (4, .int y5_4)]) hx hb dX7_besideWith_39 rfl hl (by decide) rfl (fun ls hl => ?_)
            refine lv_iinc (v := (y5_4 + 1)) (lv' := [(4, .int (y5_4 + 1)), (3, .int (y5_3 + 0)), (0, .ref (a 0)), (1, .int x1), (2, .int x2)]) hx hb dX7_besideWith_40 hl (k := 4) rfl rfl (by decide) rfl (fun ls hl => ?_)
            refine lv_goto (tgt := 5) hx hb dX7_besideWith_43 (by decide) ?_
            exact bk5 (y5_3 + 0) (y5_4 + 1) _ _ _ hq hP hD hS (lv_sub hl [2, 3, 4, 1, 0] rfl)
          · have hq := hqB c3
            refine lv_aload_n hx hb dX7_besideWith_22 rfl (lv_at hl 0 rfl) ?_
            refine va_get (D := (dC, dI)) (ci := 7) (v := .ref (a 8)) (C := RX7) (T := TX7) (N := 16) hx hb hts iK7 hown hK hP 0 rfl rfl 13 (by decide) lk0 (fun _ h9 => h9) rfl dX7_besideWith_23 ?_
            refine lv_iload hx hb dX7_besideWith_26 (lv_at hl 4 rfl) ?_
            obtain ⟨g1, hq⟩ := hq
            refine va_iald hx hb hK hP 8 0 rfl rfl g1 dX7_besideWith_28 ?_
            refine lv_iload_n hx hb dX7_besideWith_29 rfl (lv_at hl 2 rfl) ?_
            obtain ⟨hqA, hqB⟩ := hq
            refine lv_icmp_ne (tgt := 37) hx hb dX7_besideWith_30 (by decide) (fun c2 => ?_) (fun c2 => ?_)
            · have hq := hqB c2
              refine lv_iconst (v := 0) hx hb dX7_besideWith_37 (by decide) ?_
              refine lv_iadd hx hb dX7_besideWith_38 ?_
              refine lv_istore_n (lv' := [(3, .int (y5_3 + 0)), (0, .ref (a 0)), (1, .int x1), (2, .int x2), (4, .int y5_4)]) hx hb dX7_besideWith_39 rfl hl (by decide) rfl (fun ls hl => ?_)
              refine lv_iinc (v := (y5_4 + 1)) (lv' := [(4, .int (y5_4 + 1)), (3, .int (y5_3 + 0)), (0, .ref (a 0)), (1, .int x1), (2, .int x2)]) hx hb dX7_besideWith_40 hl (k := 4) rfl rfl (by decide) rfl (fun ls hl => ?_)
              refine lv_goto (tgt := 5) hx hb dX7_besideWith_43 (by decide) ?_
              exact bk5 (y5_3 + 0) (y5_4 + 1) _ _ _ hq hP hD hS (lv_sub hl [2, 3, 4, 1, 0] rfl)
            · have hq := hqA c2
              refine lv_iconst (v := 1) hx hb dX7_besideWith_33 (by decide) ?_
              refine lv_goto (tgt := 38) hx hb dX7_besideWith_34 (by decide) ?_
              refine lv_iadd hx hb dX7_besideWith_38 ?_
              refine lv_istore_n (lv' := [(3, .int (y5_3 + 1)), (0, .ref (a 0)), (1, .int x1), (2, .int x2), (4, .int y5_4)]) hx hb dX7_besideWith_39 rfl hl (by decide) rfl (fun ls hl => ?_)
              refine lv_iinc (v := (y5_4 + 1)) (lv' := [(4, .int (y5_4 + 1)), (3, .int (y5_3 + 1)), (0, .ref (a 0)), (1, .int x1), (2, .int x2)]) hx hb dX7_besideWith_40 hl (k := 4) rfl rfl (by decide) rfl (fun ls hl => ?_)
              refine lv_goto (tgt := 5) hx hb dX7_besideWith_43 (by decide) ?_
              exact bk5 (y5_3 + 1) (y5_4 + 1) _ _ _ hq hP hD hS (lv_sub hl [2, 3, 4, 1, 0] rfl)
    exact key _ y5_3 y5_4 H locs ls h0 (Nat.lt_succ_self _) hP hD hS hl
  refine lv_iconst (v := 0) hx hb dX7_besideWith_0 (by decide) ?_
  refine lv_istore_n (lv' := [(3, .int 0), (0, .ref (a 0)), (1, .int x1), (2, .int x2)]) hx hb dX7_besideWith_1 rfl hl (by decide) rfl (fun ls hl => ?_)
  refine lv_iconst (v := 0) hx hb dX7_besideWith_2 (by decide) ?_
  refine lv_istore (lv' := [(4, .int 0), (3, .int 0), (0, .ref (a 0)), (1, .int x1), (2, .int x2)]) hx hb dX7_besideWith_3 hl (by decide) rfl (fun ls hl => ?_)
  exact J5  0 0 _ _ _ hq hP hD hS (lv_sub hl [2, 3, 4, 1, 0] rfl)
def wp_X7_finds_93 (v : V_X7) (x1 : Int32) (y43_2 : Int32) (y43_4 : Int32) (y43_5 : Int32) (z43_v_sure : (Nat → Int32)) (B43 : Int32 → (Nat → Int32) → Prop) (k93_0 : Int32) (Q : Int32 → (Nat → Int32) → Prop) : Prop :=
  vp_in y43_5 64 ∧ vp_in k93_0 64 ∧ B43 (y43_5 + 1) (upd z43_v_sure k93_0.toNatClampNeg (z43_v_sure y43_5.toNatClampNeg))
def wb_X7_finds_43 (v : V_X7) (x1 : Int32) (y43_2 : Int32) (y43_4 : Int32) (y43_5 : Int32) (z43_v_sure : (Nat → Int32)) (B43 : Int32 → (Nat → Int32) → Prop) (Q : Int32 → (Nat → Int32) → Prop) : Prop :=
  ((64 ≤ y43_5 → bz y43_4 ∧ Q y43_4 z43_v_sure) ∧
  (¬ 64 ≤ y43_5 → ((y43_4 = 0 → bz y43_4 ∧ Q y43_4 z43_v_sure) ∧
  (¬ y43_4 = 0 → wp_X7_areBeside x1 y43_5 (fun r64 =>
  ((r64 = 0 → wp_X7_finds_93 v x1 y43_2 y43_4 y43_5 z43_v_sure B43 y43_5  Q) ∧
  (¬ r64 = 0 → vp_in y43_5 64 ∧ (((z43_v_sure y43_5.toNatClampNeg) = (-1) → ((y43_2 = 0 → B43 (y43_5 + 1) (upd z43_v_sure y43_5.toNatClampNeg 0)) ∧
  (¬ y43_2 = 0 → B43 (y43_5 + 1) (upd z43_v_sure y43_5.toNatClampNeg 1)))) ∧
  (¬ (z43_v_sure y43_5.toNatClampNeg) = (-1) → wp_X7_finds_93 v x1 y43_2 y43_4 y43_5 z43_v_sure B43 y43_5  Q)))))))))
def wp_X7_finds_43 (v : V_X7) (x1 : Int32) (y43_2 : Int32) (y43_4 : Int32) (y43_5 : Int32) (z43_v_sure : (Nat → Int32)) (Q : Int32 → (Nat → Int32) → Prop) : Prop :=
  ∃ (I : Int32 → (Nat → Int32) → Prop) (μ : Int32 → (Nat → Int32) → Nat), I y43_5 z43_v_sure ∧ ∀ (s0 : Int32) (s1 : (Nat → Int32)), I s0 s1 → wb_X7_finds_43 v x1 y43_2 y43_4 s0 s1 (fun t0 t1 => I t0 t1 ∧ μ t0 t1 < μ s0 s1) Q
def wp_X7_finds_37 (v : V_X7) (x1 : Int32) (y37_2 : Int32) (Q : Int32 → (Nat → Int32) → Prop) : Prop :=
  wp_X7_finds_43 v x1 y37_2 0 0 (X7_sure v) Q
def wp_X7_finds_33 (v : V_X7) (x1 : Int32) (y33_2 : Int32) (Q : Int32 → (Nat → Int32) → Prop) : Prop :=
  wp_X7_finds_43 v x1 y33_2 1 0 (X7_sure v) Q
def wp_X7_finds (v : V_X7) (x1 : Int32) (Q : Int32 → (Nat → Int32) → Prop) : Prop :=
  wp_X7_numberOf v x1 (fun r2 =>
  wp_X7_besideWith v x1 1 (fun r8 =>
  wp_X7_besideWith v x1 (-1) (fun r16 =>
  ((r16 ≤ 0 → wp_X7_finds_37 v x1 (r2 - r8)  Q) ∧
  (¬ r16 ≤ 0 → (((r2 - r8) = 0 → wp_X7_finds_33 v x1 (r2 - r8)  Q) ∧
  (¬ (r2 - r8) = 0 → (((r2 - r8) = r16 → wp_X7_finds_33 v x1 (r2 - r8)  Q) ∧
  (¬ (r2 - r8) = r16 → wp_X7_finds_37 v x1 (r2 - r8)  Q)))))))))
def q_X7_finds (dC : Nat → ClassId) (dI : Nat → Nat → Nat) (cy : Nat → ClassId) (a : Nat → Nat) (v : V_X7) (x1 : Int32) (Q : Int32 → (Nat → Int32) → Prop) (A : Nat → Prop) : Array Value → State → Outcome → State → Prop := va_Qi (fun (r : Int32) (u : (Nat → Int32)) => Q r u) (fun (u : (Nat → Int32)) t => xAt dC dI cy A (cX7 cy a (X7_s v) (X7_aside v) (X7_kept v) (X7_isKept v) (X7_saved v) (X7_savedMany v) (X7_text v) (X7_length v) (X7_thrown v) (X7_joint v) (X7_position v) (X7_isWrong v) (X7_isHollow v) u (X7_away v) (X7_digested v)) t) A
set_option maxHeartbeats 4000000 in
set_option maxRecDepth 100000 in
theorem c_X7_finds (l : Launch) (dC : Nat → ClassId) (dI : Nat → Nat → Nat) (cy : Nat → ClassId) (a : Nat → Nat) (sz : Nat) (v : V_X7) (x1 : Int32) (Q : Int32 → (Nat → Int32) → Prop) (hq : wp_X7_finds v x1 Q) : Met l yX7_finds wsX7_finds ({ frames := 3, cells := 0, slots := 0, locals := 67 } : Room) (va_Pc [.ref (a 0), .int x1] (xPre dC dI cy (wX7 cy a v) sz)) (q_X7_finds dC dI cy a v x1 Q (va_A (wX7 cy a v) sz)) 0 0 (va_A (wX7 cy a v) sz) := by
  refine Met.ofW (cc := cX7_finds) (maxL := 6) (ret := (some .boolean)) (by decide) rfl ?_
  intro p e s m args below meth c s₁ B hml hv
  obtain ⟨rfl, hsz, hP, hK, hD0⟩ := hv
  have hx := B.exec
  have hb := B.bytes
  have hr := B.returns
  have hts := atoms_spec (ws := wsX7_finds) B.pre
  have hown : s.vm.findClass RX7 = some m.cls := findClass_of_methodNamed B.named
  have hlocks := B.notSynchronized
  subst hsz
  have hD := hD0.self (sz := s.heap.size)
  generalize hAe : va_A (wX7 cy a v) s.heap.size = A at hD ⊢
  have hAe0 : ∀ q : Nat, s.heap.size ≤ q → A q := fun q h => by rw [← hAe]; exact Or.inr h
  have hS : va_S A s.heap s.heap [] := va_S.rf
  have hl := lv_entry ([.ref (a 0), .int x1]) (n := 6) (Nat.le_of_ble_eq_true rfl)
  rw [lg_entry_eq]
  generalize (lg_sl ([.ref (a 0), .int x1]) ++ List.replicate (6 - (lg_sl ([.ref (a 0), .int x1])).length) Slot.unset).toArray = ls at hl ⊢
  have hl : lv_has ls 6 [(0, .ref (a 0)), (1, .int x1)] := hl
  have lk0 := hts (Cond.fieldLink RX7 32 "MolesLawnModel" "sure" "[I") (List.mem_cons_of_mem _ (List.mem_append_left _ (List.mem_of_getElem? (i := 0) rfl)))
  have iK7 : ∀ w ∈ wsX70, w ∈ wsX7_finds := fun _ h => (List.mem_cons_of_mem _ (List.mem_append_right _ h))
  unfold wp_X7_finds at hq
  have J43 : ∀ (y43_2 : Int32) (y43_4 : Int32) (y43_5 : Int32) (z43_v_sure : (Nat → Int32)) (H : Heap) (locs : List Loc) (ls : Array Slot), wp_X7_finds_43 v x1 y43_2 y43_4 y43_5 z43_v_sure Q → va_P (dC, dI) vwCl (cX7 cy a (X7_s v) (X7_aside v) (X7_kept v) (X7_isKept v) (X7_saved v) (X7_savedMany v) (X7_text v) (X7_length v) (X7_thrown v) (X7_joint v) (X7_position v) (X7_isWrong v) (X7_isHollow v) z43_v_sure (X7_away v) (X7_digested v)) H → va_D A (cX7 cy a (X7_s v) (X7_aside v) (X7_kept v) (X7_isKept v) (X7_saved v) (X7_savedMany v) (X7_text v) (X7_length v) (X7_thrown v) (X7_joint v) (X7_position v) (X7_isWrong v) (X7_isHollow v) z43_v_sure (X7_away v) (X7_digested v)) → va_S A s.heap H locs → lv_has ls 6 [(0, .ref (a 0)), (1, .int x1), (2, .int y43_2), (4, .int y43_4), (5, .int y43_5)] → W p l e (headSpec wsX7_finds ({ frames := 3, cells := 0, slots := 0, locals := 67 } : Room)).room s m ([.ref (a 0), .int x1] : List Value).toArray below meth c H locs 0 0 (MQ below (q_X7_finds dC dI cy a v x1 Q A) ([.ref (a 0), .int x1] : List Value).toArray s 0 0 A) (F0 m 43 ls []) := by
    intro y43_2 y43_4 y43_5 z43_v_sure H locs ls hq hP hD hS hl
    obtain ⟨I43, μ43, h0, hs43⟩ := hq
    have key : ∀ (n : Nat) (y43_5 : Int32) (z43_v_sure : (Nat → Int32)) (H : Heap) (locs : List Loc) (ls : Array Slot), I43 y43_5 z43_v_sure → μ43 y43_5 z43_v_sure < n → va_P (dC, dI) vwCl (cX7 cy a (X7_s v) (X7_aside v) (X7_kept v) (X7_isKept v) (X7_saved v) (X7_savedMany v) (X7_text v) (X7_length v) (X7_thrown v) (X7_joint v) (X7_position v) (X7_isWrong v) (X7_isHollow v) z43_v_sure (X7_away v) (X7_digested v)) H → va_D A (cX7 cy a (X7_s v) (X7_aside v) (X7_kept v) (X7_isKept v) (X7_saved v) (X7_savedMany v) (X7_text v) (X7_length v) (X7_thrown v) (X7_joint v) (X7_position v) (X7_isWrong v) (X7_isHollow v) z43_v_sure (X7_away v) (X7_digested v)) → va_S A s.heap H locs → lv_has ls 6 [(0, .ref (a 0)), (1, .int x1), (2, .int y43_2), (4, .int y43_4), (5, .int y43_5)] → W p l e (headSpec wsX7_finds ({ frames := 3, cells := 0, slots := 0, locals := 67 } : Room)).room s m ([.ref (a 0), .int x1] : List Value).toArray below meth c H locs 0 0 (MQ below (q_X7_finds dC dI cy a v x1 Q A) ([.ref (a 0), .int x1] : List Value).toArray s 0 0 A) (F0 m 43 ls []) := by
      intro n
      induction n with
      | zero => intro y43_5 z43_v_sure H locs ls _ hm; exact absurd hm (Nat.not_lt_zero _)
      | succ n ih =>
        intro y43_5 z43_v_sure H locs ls hI hm hP hD hS hl
        have hq := hs43 y43_5 z43_v_sure hI
        generalize hB43 : (fun (t0 : Int32) (t1 : (Nat → Int32)) => I43 t0 t1 ∧ μ43 t0 t1 < μ43 y43_5 z43_v_sure) = B43 at hq
        have bk43 : ∀ (y43_5 : Int32) (z43_v_sure : (Nat → Int32)) (H : Heap) (locs : List Loc) (ls : Array Slot), B43 y43_5 z43_v_sure → va_P (dC, dI) vwCl (cX7 cy a (X7_s v) (X7_aside v) (X7_kept v) (X7_isKept v) (X7_saved v) (X7_savedMany v) (X7_text v) (X7_length v) (X7_thrown v) (X7_joint v) (X7_position v) (X7_isWrong v) (X7_isHollow v) z43_v_sure (X7_away v) (X7_digested v)) H → va_D A (cX7 cy a (X7_s v) (X7_aside v) (X7_kept v) (X7_isKept v) (X7_saved v) (X7_savedMany v) (X7_text v) (X7_length v) (X7_thrown v) (X7_joint v) (X7_position v) (X7_isWrong v) (X7_isHollow v) z43_v_sure (X7_away v) (X7_digested v)) → va_S A s.heap H locs → lv_has ls 6 [(0, .ref (a 0)), (1, .int x1), (2, .int y43_2), (4, .int y43_4), (5, .int y43_5)] → W p l e (headSpec wsX7_finds ({ frames := 3, cells := 0, slots := 0, locals := 67 } : Room)).room s m ([.ref (a 0), .int x1] : List Value).toArray below meth c H locs 0 0 (MQ below (q_X7_finds dC dI cy a v x1 Q A) ([.ref (a 0), .int x1] : List Value).toArray s 0 0 A) (F0 m 43 ls []) := by
          intro y43_5 z43_v_sure H locs ls h
          rw [← hB43] at h
          exact ih y43_5 z43_v_sure H locs ls h.1 (Nat.lt_of_lt_of_le h.2 (Nat.le_of_lt_succ hm))
        unfold wb_X7_finds_43 at hq
        have J93 : ∀ (k93_0 : Int32) (H : Heap) (locs : List Loc) (ls : Array Slot), wp_X7_finds_93 v x1 y43_2 y43_4 y43_5 z43_v_sure B43 k93_0 Q → va_P (dC, dI) vwCl (cX7 cy a (X7_s v) (X7_aside v) (X7_kept v) (X7_isKept v) (X7_saved v) (X7_savedMany v) (X7_text v) (X7_length v) (X7_thrown v) (X7_joint v) (X7_position v) (X7_isWrong v) (X7_isHollow v) z43_v_sure (X7_away v) (X7_digested v)) H → va_D A (cX7 cy a (X7_s v) (X7_aside v) (X7_kept v) (X7_isKept v) (X7_saved v) (X7_savedMany v) (X7_text v) (X7_length v) (X7_thrown v) (X7_joint v) (X7_position v) (X7_isWrong v) (X7_isHollow v) z43_v_sure (X7_away v) (X7_digested v)) → va_S A s.heap H locs → lv_has ls 6 [(0, .ref (a 0)), (1, .int x1), (2, .int y43_2), (4, .int y43_4), (5, .int y43_5)] → W p l e (headSpec wsX7_finds ({ frames := 3, cells := 0, slots := 0, locals := 67 } : Room)).room s m ([.ref (a 0), .int x1] : List Value).toArray below meth c H locs 0 0 (MQ below (q_X7_finds dC dI cy a v x1 Q A) ([.ref (a 0), .int x1] : List Value).toArray s 0 0 A) (F0 m 93 ls [.int k93_0, .ref (a 8)]) := by
          intro k93_0 H locs ls hq hP hD hS hl
          unfold wp_X7_finds_93 at hq
          refine lv_aload_n hx hb dX7_finds_93 rfl (lv_at hl 0 rfl) ?_
          refine va_get (D := (dC, dI)) (ci := 7) (v := .ref (a 8)) (C := RX7) (T := TX7) (N := 16) hx hb hts iK7 hown hK hP 0 rfl rfl 13 (by decide) lk0 (fun _ h9 => h9) rfl dX7_finds_94 ?_
          refine lv_iload hx hb dX7_finds_97 (lv_at hl 4 rfl) ?_
          obtain ⟨g1, hq⟩ := hq
          refine va_iald hx hb hK hP 8 0 rfl rfl g1 dX7_finds_99 ?_
          obtain ⟨g2, hq⟩ := hq
          refine va_iast hx hb hK hP hD hS 8 0 rfl rfl g2 dX7_finds_100 (fun H locs hP hD hS => ?_)
          have hP : va_P (dC, dI) vwCl (cX7 cy a (X7_s v) (X7_aside v) (X7_kept v) (X7_isKept v) (X7_saved v) (X7_savedMany v) (X7_text v) (X7_length v) (X7_thrown v) (X7_joint v) (X7_position v) (X7_isWrong v) (X7_isHollow v) (upd z43_v_sure k93_0.toNatClampNeg (z43_v_sure y43_5.toNatClampNeg)) (X7_away v) (X7_digested v)) H := hP
          have hD : va_D A (cX7 cy a (X7_s v) (X7_aside v) (X7_kept v) (X7_isKept v) (X7_saved v) (X7_savedMany v) (X7_text v) (X7_length v) (X7_thrown v) (X7_joint v) (X7_position v) (X7_isWrong v) (X7_isHollow v) (upd z43_v_sure k93_0.toNatClampNeg (z43_v_sure y43_5.toNatClampNeg)) (X7_away v) (X7_digested v)) := hD
          refine lv_iinc (v := (y43_5 + 1)) (lv' := [(5, .int (y43_5 + 1)), (0, .ref (a 0)), (1, .int x1), (2, .int y43_2), (4, .int y43_4)]) hx hb dX7_finds_101 hl (k := 4) rfl rfl (by decide) rfl (fun ls hl => ?_)
          refine lv_goto (tgt := 43) hx hb dX7_finds_104 (by decide) ?_
          exact bk43 (y43_5 + 1) (upd z43_v_sure k93_0.toNatClampNeg (z43_v_sure y43_5.toNatClampNeg)) _ _ _ hq hP hD hS (lv_sub hl [1, 2, 3, 4, 0] rfl)
        refine lv_iload hx hb dX7_finds_43 (lv_at hl 4 rfl) ?_
        refine lv_bipush (v := 64) hx hb dX7_finds_45 (by decide) ?_
        obtain ⟨hqA, hqB⟩ := hq
        refine lv_icmp_ge (tgt := 107) hx hb dX7_finds_47 (by decide) (fun c10 => ?_) (fun c10 => ?_)
        · have hq := hqA c10
          refine lv_iload hx hb dX7_finds_107 (lv_at hl 3 rfl) ?_
          obtain ⟨g3, hq⟩ := hq
          exact W.zret (v := y43_4) hx hb hr (bz_nar g3) (fun t ht hW => ⟨⟨y43_4, z43_v_sure, rfl, hq, (xAt_of hP hK hD ht hW)⟩, hS.F ht⟩) hS.2.2 dX7_finds_109
        · have hq := hqB c10
          refine lv_iload hx hb dX7_finds_50 (lv_at hl 3 rfl) ?_
          obtain ⟨hqA, hqB⟩ := hq
          refine lv_if_eq (tgt := 107) hx hb dX7_finds_52 (by decide) (fun c9 => ?_) (fun c9 => ?_)
          · have hq := hqA c9
            refine lv_iload hx hb dX7_finds_107 (lv_at hl 3 rfl) ?_
            obtain ⟨g4, hq⟩ := hq
            exact W.zret (v := y43_4) hx hb hr (bz_nar g4) (fun t ht hW => ⟨⟨y43_4, z43_v_sure, rfl, hq, (xAt_of hP hK hD ht hW)⟩, hS.F ht⟩) hS.2.2 dX7_finds_109
          · have hq := hqB c9
            refine lv_aload_n hx hb dX7_finds_55 rfl (lv_at hl 0 rfl) ?_
            refine va_get (D := (dC, dI)) (ci := 7) (v := .ref (a 8)) (C := RX7) (T := TX7) (N := 16) hx hb hts iK7 hown hK hP 0 rfl rfl 13 (by decide) lk0 (fun _ h9 => h9) rfl dX7_finds_56 ?_
            refine lv_iload hx hb dX7_finds_59 (lv_at hl 4 rfl) ?_
            refine lv_iload_n hx hb dX7_finds_61 rfl (lv_at hl 1 rfl) ?_
            refine lv_iload hx hb dX7_finds_62 (lv_at hl 4 rfl) ?_
            have hFc := xfree_none hS hAe0
            refine va_calli (va_runS (As := [.int x1, .int y43_5]) (rest := [.int y43_5, .ref (a 8)]) ⟨hx, hb, hml, hown, hts⟩ (c_X7_areBeside l dC dI cy  _ x1 y43_5 _ hq) (va_cwS 2 hts gX7_finds_X7_areBeside rfl rfl rfl (by decide +kernel) ⟨Nat.le_of_ble_eq_true rfl, Nat.le_of_ble_eq_true rfl⟩) ⟨xPre_blind, xPre_of xP_nil hK (xD_nil (A := A))⟩ rfl rfl hl.1 rfl (lv_room (Nat.le_of_ble_eq_true rfl)) dX7_finds_64 ⟨Nat.le_of_ble_eq_true rfl, Nat.le_of_ble_eq_true rfl⟩) hS (fun q _ h => hFc q h) hFc (fun r64 u9 t H locs ht hvm hq hB hz1 hk1 hS => ?_)
            have hP := xj_none hP hk1
            obtain ⟨hqA, hqB⟩ := hq
            refine lv_if_eq (tgt := 93) hx hb dX7_finds_67 (by decide) (fun c8 => ?_) (fun c8 => ?_)
            · have hq := hqA c8
              exact J93 y43_5  _ _ _ hq hP hD hS (lv_sub hl [0, 1, 2, 3, 4] rfl)
            · have hq := hqB c8
              refine lv_aload_n hx hb dX7_finds_70 rfl (lv_at hl 0 rfl) ?_
              refine va_get (D := (dC, dI)) (ci := 7) (v := .ref (a 8)) (C := RX7) (T := TX7) (N := 16) hx hb hts iK7 hown hK hP 0 rfl rfl 13 (by decide) lk0 (fun _ h9 => h9) rfl dX7_finds_71 ?_
              refine lv_iload hx hb dX7_finds_74 (lv_at hl 4 rfl) ?_
              obtain ⟨g5, hq⟩ := hq
              refine va_iald hx hb hK hP 8 0 rfl rfl g5 dX7_finds_76 ?_
              refine lv_iconst (v := (-1)) hx hb dX7_finds_77 (by decide) ?_
              obtain ⟨hqA, hqB⟩ := hq
              refine lv_icmp_ne (tgt := 93) hx hb dX7_finds_78 (by decide) (fun c7 => ?_) (fun c7 => ?_)
              · have hq := hqB c7
                exact J93 y43_5  _ _ _ hq hP hD hS (lv_sub hl [0, 1, 2, 3, 4] rfl)
              · have hq := hqA c7
                refine lv_iload_n hx hb dX7_finds_81 rfl (lv_at hl 2 rfl) ?_
                obtain ⟨hqA, hqB⟩ := hq
                refine lv_if_ne (tgt := 89) hx hb dX7_finds_82 (by decide) (fun c6 => ?_) (fun c6 => ?_)
                · have hq := hqB c6
                  refine lv_iconst (v := 1) hx hb dX7_finds_89 (by decide) ?_
                  refine lv_goto (tgt := 100) hx hb dX7_finds_90 (by decide) ?_
                  refine va_iast hx hb hK hP hD hS 8 0 rfl rfl g5 dX7_finds_100 (fun H locs hP hD hS => ?_)
                  have hP : va_P (dC, dI) vwCl (cX7 cy a (X7_s v) (X7_aside v) (X7_kept v) (X7_isKept v) (X7_saved v) (X7_savedMany v) (X7_text v) (X7_length v) (X7_thrown v) (X7_joint v) (X7_position v) (X7_isWrong v) (X7_isHollow v) (upd z43_v_sure y43_5.toNatClampNeg 1) (X7_away v) (X7_digested v)) H := hP
                  have hD : va_D A (cX7 cy a (X7_s v) (X7_aside v) (X7_kept v) (X7_isKept v) (X7_saved v) (X7_savedMany v) (X7_text v) (X7_length v) (X7_thrown v) (X7_joint v) (X7_position v) (X7_isWrong v) (X7_isHollow v) (upd z43_v_sure y43_5.toNatClampNeg 1) (X7_away v) (X7_digested v)) := hD
                  refine lv_iinc (v := (y43_5 + 1)) (lv' := [(5, .int (y43_5 + 1)), (0, .ref (a 0)), (1, .int x1), (2, .int y43_2), (4, .int y43_4)]) hx hb dX7_finds_101 hl (k := 4) rfl rfl (by decide) rfl (fun ls hl => ?_)
                  refine lv_goto (tgt := 43) hx hb dX7_finds_104 (by decide) ?_
                  exact bk43 (y43_5 + 1) (upd z43_v_sure y43_5.toNatClampNeg 1) _ _ _ hq hP hD hS (lv_sub hl [1, 2, 3, 4, 0] rfl)
                · have hq := hqA c6
                  refine lv_iconst (v := 0) hx hb dX7_finds_85 (by decide) ?_
                  refine lv_goto (tgt := 100) hx hb dX7_finds_86 (by decide) ?_
                  refine va_iast hx hb hK hP hD hS 8 0 rfl rfl g5 dX7_finds_100 (fun H locs hP hD hS => ?_)
                  have hP : va_P (dC, dI) vwCl (cX7 cy a (X7_s v) (X7_aside v) (X7_kept v) (X7_isKept v) (X7_saved v) (X7_savedMany v) (X7_text v) (X7_length v) (X7_thrown v) (X7_joint v) (X7_position v) (X7_isWrong v) (X7_isHollow v) (upd z43_v_sure y43_5.toNatClampNeg 0) (X7_away v) (X7_digested v)) H := hP
                  have hD : va_D A (cX7 cy a (X7_s v) (X7_aside v) (X7_kept v) (X7_isKept v) (X7_saved v) (X7_savedMany v) (X7_text v) (X7_length v) (X7_thrown v) (X7_joint v) (X7_position v) (X7_isWrong v) (X7_isHollow v) (upd z43_v_sure y43_5.toNatClampNeg 0) (X7_away v) (X7_digested v)) := hD
                  refine lv_iinc (v := (y43_5 + 1)) (lv' := [(5, .int (y43_5 + 1)), (0, .ref (a 0)), (1, .int x1), (2, .int y43_2), (4, .int y43_4)]) hx hb dX7_finds_101 hl (k := 4) rfl rfl (by decide) rfl (fun ls hl => ?_)
                  refine lv_goto (tgt := 43) hx hb dX7_finds_104 (by decide) ?_
                  exact bk43 (y43_5 + 1) (upd z43_v_sure y43_5.toNatClampNeg 0) _ _ _ hq hP hD hS (lv_sub hl [1, 2, 3, 4, 0] rfl)
    exact key _ y43_5 z43_v_sure H locs ls h0 (Nat.lt_succ_self _) hP hD hS hl
  have J37 : ∀ (y37_2 : Int32) (H : Heap) (locs : List Loc) (ls : Array Slot), wp_X7_finds_37 v x1 y37_2 Q → va_P (dC, dI) vwCl (wX7 cy a v) H → va_D A (wX7 cy a v) → va_S A s.heap H locs → lv_has ls 6 [(0, .ref (a 0)), (1, .int x1), (2, .int y37_2)] → W p l e (headSpec wsX7_finds ({ frames := 3, cells := 0, slots := 0, locals := 67 } : Room)).room s m ([.ref (a 0), .int x1] : List Value).toArray below meth c H locs 0 0 (MQ below (q_X7_finds dC dI cy a v x1 Q A) ([.ref (a 0), .int x1] : List Value).toArray s 0 0 A) (F0 m 37 ls []) := by
    intro y37_2 H locs ls hq hP hD hS hl
    unfold wp_X7_finds_37 at hq
    refine lv_iconst (v := 0) hx hb dX7_finds_37 (by decide) ?_
    refine lv_istore (lv' := [(4, .int 0), (0, .ref (a 0)), (1, .int x1), (2, .int y37_2)]) hx hb dX7_finds_38 hl (by decide) rfl (fun ls hl => ?_)
    refine lv_iconst (v := 0) hx hb dX7_finds_40 (by decide) ?_
    refine lv_istore (lv' := [(5, .int 0), (4, .int 0), (0, .ref (a 0)), (1, .int x1), (2, .int y37_2)]) hx hb dX7_finds_41 hl (by decide) rfl (fun ls hl => ?_)
    exact J43 y37_2 0 0 (X7_sure v) _ _ _ hq hP hD hS (lv_sub hl [2, 3, 4, 1, 0] rfl)
  have J33 : ∀ (y33_2 : Int32) (H : Heap) (locs : List Loc) (ls : Array Slot), wp_X7_finds_33 v x1 y33_2 Q → va_P (dC, dI) vwCl (wX7 cy a v) H → va_D A (wX7 cy a v) → va_S A s.heap H locs → lv_has ls 6 [(0, .ref (a 0)), (1, .int x1), (2, .int y33_2)] → W p l e (headSpec wsX7_finds ({ frames := 3, cells := 0, slots := 0, locals := 67 } : Room)).room s m ([.ref (a 0), .int x1] : List Value).toArray below meth c H locs 0 0 (MQ below (q_X7_finds dC dI cy a v x1 Q A) ([.ref (a 0), .int x1] : List Value).toArray s 0 0 A) (F0 m 33 ls []) := by
    intro y33_2 H locs ls hq hP hD hS hl
    unfold wp_X7_finds_33 at hq
    refine lv_iconst (v := 1) hx hb dX7_finds_33 (by decide) ?_
    refine lv_goto (tgt := 38) hx hb dX7_finds_34 (by decide) ?_
    refine lv_istore (lv' := [(4, .int 1), (0, .ref (a 0)), (1, .int x1), (2, .int y33_2)]) hx hb dX7_finds_38 hl (by decide) rfl (fun ls hl => ?_)
    refine lv_iconst (v := 0) hx hb dX7_finds_40 (by decide) ?_
    refine lv_istore (lv' := [(5, .int 0), (4, .int 1), (0, .ref (a 0)), (1, .int x1), (2, .int y33_2)]) hx hb dX7_finds_41 hl (by decide) rfl (fun ls hl => ?_)
    exact J43 y33_2 1 0 (X7_sure v) _ _ _ hq hP hD hS (lv_sub hl [2, 3, 4, 1, 0] rfl)
  refine lv_aload_n hx hb dX7_finds_0 rfl (lv_at hl 0 rfl) ?_
  refine lv_iload_n hx hb dX7_finds_1 rfl (lv_at hl 1 rfl) ?_
  have hFc := xfree_same hS hAe0 (ws := (wX7 cy a v)) hD
  refine va_calli (va_runV (As := [.int x1]) (rest := []) ⟨hx, hb, hml, hown, hts⟩ (c_X7_numberOf l dC dI cy a _ v x1 _ hq) (cwV 1 hts gX7_finds_X7_numberOf rfl rfl rfl (by decide +kernel) ⟨Nat.le_of_ble_eq_true rfl, Nat.le_of_ble_eq_true rfl⟩) ⟨xPre_blind, va_recv hK hP (ci := 7) (q0 := 0) rfl rfl, xPre_of hP hK hD⟩ rfl rfl hl.1 rfl (lv_room (Nat.le_of_ble_eq_true rfl)) dX7_finds_2 ⟨Nat.le_of_ble_eq_true rfl, Nat.le_of_ble_eq_true rfl⟩) hS (fun q _ h => hFc q h) hFc (fun r2 u9 t H locs ht hvm hq hB hz1 hk1 hS => ?_)
  obtain ⟨hP1, -, hD1⟩ := hB
  rw [ht] at hP1
  have hP : va_P (dC, dI) vwCl (wX7 cy a v) H := hP1
  have hD : va_D A (wX7 cy a v) := hD1.weaken (fun _ q _ h => hFc q.1 h)
  refine lv_aload_n hx hb dX7_finds_5 rfl (lv_at hl 0 rfl) ?_
  refine lv_iload_n hx hb dX7_finds_6 rfl (lv_at hl 1 rfl) ?_
  refine lv_iconst (v := 1) hx hb dX7_finds_7 (by decide) ?_
  have hFc := xfree_same hS hAe0 (ws := (wX7 cy a v)) hD
  refine va_calli (va_runV (As := [.int x1, .int 1]) (rest := [.int r2]) ⟨hx, hb, hml, hown, hts⟩ (c_X7_besideWith l dC dI cy a _ v x1 1 _ hq) (cwV 2 hts gX7_finds_X7_besideWith rfl rfl rfl (by decide +kernel) ⟨Nat.le_of_ble_eq_true rfl, Nat.le_of_ble_eq_true rfl⟩) ⟨xPre_blind, va_recv hK hP (ci := 7) (q0 := 0) rfl rfl, xPre_of hP hK hD⟩ rfl rfl hl.1 rfl (lv_room (Nat.le_of_ble_eq_true rfl)) dX7_finds_8 ⟨Nat.le_of_ble_eq_true rfl, Nat.le_of_ble_eq_true rfl⟩) hS (fun q _ h => hFc q h) hFc (fun r8 u9 t H locs ht hvm hq hB hz1 hk1 hS => ?_)
  obtain ⟨hP1, -, hD1⟩ := hB
  rw [ht] at hP1
  have hP : va_P (dC, dI) vwCl (wX7 cy a v) H := hP1
  have hD : va_D A (wX7 cy a v) := hD1.weaken (fun _ q _ h => hFc q.1 h)
  refine lv_isub hx hb dX7_finds_11 ?_
  refine lv_istore_n (lv' := [(2, .int (r2 - r8)), (0, .ref (a 0)), (1, .int x1)]) hx hb dX7_finds_12 rfl hl (by decide) rfl (fun ls hl => ?_)
  refine lv_aload_n hx hb dX7_finds_13 rfl (lv_at hl 1 rfl) ?_
  refine lv_iload_n hx hb dX7_finds_14 rfl (lv_at hl 2 rfl) ?_
  refine lv_iconst (v := (-1)) hx hb dX7_finds_15 (by decide) ?_
  have hFc := xfree_same hS hAe0 (ws := (wX7 cy a v)) hD
  refine va_calli (va_runV (As := [.int x1, .int (-1)]) (rest := []) ⟨hx, hb, hml, hown, hts⟩ (c_X7_besideWith l dC dI cy a _ v x1 (-1) _ hq) (cwV 2 hts gX7_finds_X7_besideWith rfl rfl rfl (by decide +kernel) ⟨Nat.le_of_ble_eq_true rfl, Nat.le_of_ble_eq_true rfl⟩) ⟨xPre_blind, va_recv hK hP (ci := 7) (q0 := 0) rfl rfl, xPre_of hP hK hD⟩ rfl rfl hl.1 rfl (lv_room (Nat.le_of_ble_eq_true rfl)) dX7_finds_16 ⟨Nat.le_of_ble_eq_true rfl, Nat.le_of_ble_eq_true rfl⟩) hS (fun q _ h => hFc q h) hFc (fun r16 u9 t H locs ht hvm hq hB hz1 hk1 hS => ?_)
  obtain ⟨hP1, -, hD1⟩ := hB
  rw [ht] at hP1
  have hP : va_P (dC, dI) vwCl (wX7 cy a v) H := hP1
  have hD : va_D A (wX7 cy a v) := hD1.weaken (fun _ q _ h => hFc q.1 h)
  refine lv_istore_n (lv' := [(3, .int r16), (2, .int (r2 - r8)), (0, .ref (a 0)), (1, .int x1)]) hx hb dX7_finds_19 rfl hl (by decide) rfl (fun ls hl => ?_)
  refine lv_iload_n hx hb dX7_finds_20 rfl (lv_at hl 0 rfl) ?_
  obtain ⟨hqA, hqB⟩ := hq
  refine lv_if_le (tgt := 37) hx hb dX7_finds_21 (by decide) (fun c13 => ?_) (fun c13 => ?_)
  · have hq := hqA c13
    exact J37 (r2 - r8)  _ _ _ hq hP hD hS (lv_sub hl [2, 3, 1] rfl)
  · have hq := hqB c13
    refine lv_iload_n hx hb dX7_finds_24 rfl (lv_at hl 1 rfl) ?_
    obtain ⟨hqA, hqB⟩ := hq
    refine lv_if_eq (tgt := 33) hx hb dX7_finds_25 (by decide) (fun c12 => ?_) (fun c12 => ?_)
    · have hq := hqA c12
      exact J33 (r2 - r8)  _ _ _ hq hP hD hS (lv_sub hl [2, 3, 1] rfl)
    · have hq := hqB c12
      refine lv_iload_n hx hb dX7_finds_28 rfl (lv_at hl 1 rfl) ?_
      refine lv_iload_n hx hb dX7_finds_29 rfl (lv_at hl 0 rfl) ?_
      obtain ⟨hqA, hqB⟩ := hq
      refine lv_icmp_ne (tgt := 37) hx hb dX7_finds_30 (by decide) (fun c11 => ?_) (fun c11 => ?_)
      · have hq := hqB c11
        exact J37 (r2 - r8)  _ _ _ hq hP hD hS (lv_sub hl [2, 3, 1] rfl)
      · have hq := hqA c11
        exact J33 (r2 - r8)  _ _ _ hq hP hD hS (lv_sub hl [2, 3, 1] rfl)
def wp_X7_laySure_98 (v : V_X7) (z57_v_isHollow : (Nat → Int32)) (y57_1 : Int32) (z57_v_sure : (Nat → Int32)) (B57 : Int32 → (Nat → Int32) → Prop) (y65_1 : Int32) (y65_2 : Int32) (z65_v_sure : (Nat → Int32)) (B65 : Int32 → Int32 → (Nat → Int32) → Prop) (z98_v_sure : (Nat → Int32)) (k98_0 : Int32) (Q : (Nat → Int32) → (Nat → Int32) → Prop) : Prop :=
  ((y65_1 = 0 → ((k98_0 = 0 → B65 0 (y65_2 + 1) z98_v_sure) ∧
  (¬ k98_0 = 0 → B65 1 (y65_2 + 1) z98_v_sure))) ∧
  (¬ y65_1 = 0 → B65 1 (y65_2 + 1) z98_v_sure))
def wp_X7_laySure_97 (v : V_X7) (z57_v_isHollow : (Nat → Int32)) (y57_1 : Int32) (z57_v_sure : (Nat → Int32)) (B57 : Int32 → (Nat → Int32) → Prop) (y65_1 : Int32) (y65_2 : Int32) (z65_v_sure : (Nat → Int32)) (B65 : Int32 → Int32 → (Nat → Int32) → Prop) (z97_v_sure : (Nat → Int32)) (Q : (Nat → Int32) → (Nat → Int32) → Prop) : Prop :=
  wp_X7_laySure_98 v z57_v_isHollow y57_1 z57_v_sure B57 y65_1 y65_2 z65_v_sure B65 z97_v_sure 0  Q
def wb_X7_laySure_65 (v : V_X7) (z57_v_isHollow : (Nat → Int32)) (y57_1 : Int32) (z57_v_sure : (Nat → Int32)) (B57 : Int32 → (Nat → Int32) → Prop)  (y65_1 : Int32) (y65_2 : Int32) (z65_v_sure : (Nat → Int32)) (B65 : Int32 → Int32 → (Nat → Int32) → Prop) (Q : (Nat → Int32) → (Nat → Int32) → Prop) : Prop :=
  ((64 ≤ y65_2 → B57 y65_1 z65_v_sure) ∧
  (¬ 64 ≤ y65_2 → vp_in (200 + y65_2) 1472 ∧ ((((X7_s v) (200 + y65_2).toNatClampNeg) = 1 → wp_X7_finds (X7_s13 (X7_s12 v z57_v_isHollow) z65_v_sure) y65_2 (fun r87 z87_v_sure =>
  ((r87 = 0 → wp_X7_laySure_97 v z57_v_isHollow y57_1 z57_v_sure B57 y65_1 y65_2 z65_v_sure B65 z87_v_sure  Q) ∧
  (¬ r87 = 0 → wp_X7_laySure_98 v z57_v_isHollow y57_1 z57_v_sure B57 y65_1 y65_2 z65_v_sure B65 z87_v_sure 1  Q)))) ∧
  (¬ ((X7_s v) (200 + y65_2).toNatClampNeg) = 1 → wp_X7_laySure_97 v z57_v_isHollow y57_1 z57_v_sure B57 y65_1 y65_2 z65_v_sure B65 z65_v_sure  Q))))
def wp_X7_laySure_65 (v : V_X7) (z57_v_isHollow : (Nat → Int32)) (y57_1 : Int32) (z57_v_sure : (Nat → Int32)) (B57 : Int32 → (Nat → Int32) → Prop)  (y65_1 : Int32) (y65_2 : Int32) (z65_v_sure : (Nat → Int32)) (Q : (Nat → Int32) → (Nat → Int32) → Prop) : Prop :=
  ∃ (I : Int32 → Int32 → (Nat → Int32) → Prop) (μ : Int32 → Int32 → (Nat → Int32) → Nat), I y65_1 y65_2 z65_v_sure ∧ ∀ (s0 : Int32) (s1 : Int32) (s2 : (Nat → Int32)), I s0 s1 s2 → wb_X7_laySure_65 v z57_v_isHollow y57_1 z57_v_sure B57  s0 s1 s2 (fun t0 t1 t2 => I t0 t1 t2 ∧ μ t0 t1 t2 < μ s0 s1 s2) Q
def wb_X7_laySure_57 (v : V_X7) (z57_v_isHollow : (Nat → Int32)) (y57_1 : Int32) (z57_v_sure : (Nat → Int32)) (B57 : Int32 → (Nat → Int32) → Prop) (Q : (Nat → Int32) → (Nat → Int32) → Prop) : Prop :=
  ((y57_1 = 0 → Q z57_v_isHollow z57_v_sure) ∧
  (¬ y57_1 = 0 → wp_X7_laySure_65 v z57_v_isHollow y57_1 z57_v_sure B57  0 0 z57_v_sure Q))
def wp_X7_laySure_57 (v : V_X7) (z57_v_isHollow : (Nat → Int32)) (y57_1 : Int32) (z57_v_sure : (Nat → Int32)) (Q : (Nat → Int32) → (Nat → Int32) → Prop) : Prop :=
  ∃ (I : Int32 → (Nat → Int32) → Prop) (μ : Int32 → (Nat → Int32) → Nat), I y57_1 z57_v_sure ∧ ∀ (s0 : Int32) (s1 : (Nat → Int32)), I s0 s1 → wb_X7_laySure_57 v z57_v_isHollow s0 s1 (fun t0 t1 => I t0 t1 ∧ μ t0 t1 < μ s0 s1) Q
def wb_X7_laySure_6 (v : V_X7) (z6_v_isHollow : (Nat → Int32)) (y6_1 : Int32) (z6_v_sure : (Nat → Int32)) (B6 : Int32 → (Nat → Int32) → Prop) (Q : (Nat → Int32) → (Nat → Int32) → Prop) : Prop :=
  ((64 ≤ y6_1 → wp_X7_laySure_57 v z6_v_isHollow 1 z6_v_sure Q) ∧
  (¬ 64 ≤ y6_1 → vp_in (200 + y6_1) 1472 ∧ ((((X7_s v) (200 + y6_1).toNatClampNeg) = 0 → vp_in y6_1 64 ∧ B6 (y6_1 + 1) (upd z6_v_sure y6_1.toNatClampNeg (-1))) ∧
  (¬ ((X7_s v) (200 + y6_1).toNatClampNeg) = 0 → vp_in y6_1 64 ∧ (((z6_v_isHollow y6_1.toNatClampNeg) = 0 → B6 (y6_1 + 1) (upd z6_v_sure y6_1.toNatClampNeg 0)) ∧
  (¬ (z6_v_isHollow y6_1.toNatClampNeg) = 0 → B6 (y6_1 + 1) (upd z6_v_sure y6_1.toNatClampNeg 1)))))))
def wp_X7_laySure_6 (v : V_X7) (z6_v_isHollow : (Nat → Int32)) (y6_1 : Int32) (z6_v_sure : (Nat → Int32)) (Q : (Nat → Int32) → (Nat → Int32) → Prop) : Prop :=
  ∃ (I : Int32 → (Nat → Int32) → Prop) (μ : Int32 → (Nat → Int32) → Nat), I y6_1 z6_v_sure ∧ ∀ (s0 : Int32) (s1 : (Nat → Int32)), I s0 s1 → wb_X7_laySure_6 v z6_v_isHollow s0 s1 (fun t0 t1 => I t0 t1 ∧ μ t0 t1 < μ s0 s1) Q
def wp_X7_laySure (v : V_X7) (Q : (Nat → Int32) → (Nat → Int32) → Prop) : Prop :=
  wp_X7_layHollow v (fun z1_v_isHollow =>
  wp_X7_laySure_6 v z1_v_isHollow 0 (X7_sure v) Q)
def q_X7_laySure (dC : Nat → ClassId) (dI : Nat → Nat → Nat) (cy : Nat → ClassId) (a : Nat → Nat) (v : V_X7) (Q : (Nat → Int32) → (Nat → Int32) → Prop) (A : Nat → Prop) : Array Value → State → Outcome → State → Prop := va_Qv (fun (u : (Nat → Int32) × (Nat → Int32)) => Q u.1 u.2) (fun (u : (Nat → Int32) × (Nat → Int32)) t => xAt dC dI cy A (cX7 cy a (X7_s v) (X7_aside v) (X7_kept v) (X7_isKept v) (X7_saved v) (X7_savedMany v) (X7_text v) (X7_length v) (X7_thrown v) (X7_joint v) (X7_position v) (X7_isWrong v) u.1 u.2 (X7_away v) (X7_digested v)) t) A
set_option maxHeartbeats 4000000 in
set_option maxRecDepth 100000 in
theorem c_X7_laySure (l : Launch) (dC : Nat → ClassId) (dI : Nat → Nat → Nat) (cy : Nat → ClassId) (a : Nat → Nat) (sz : Nat) (v : V_X7) (Q : (Nat → Int32) → (Nat → Int32) → Prop) (hq : wp_X7_laySure v Q) : Met l yX7_laySure wsX7_laySure ({ frames := 4, cells := 0, slots := 0, locals := 92 } : Room) (va_Pc [.ref (a 0)] (xPre dC dI cy (wX7 cy a v) sz)) (q_X7_laySure dC dI cy a v Q (va_A (wX7 cy a v) sz)) 0 0 (va_A (wX7 cy a v) sz) := by
  refine Met.ofW (cc := cX7_laySure) (maxL := 4) (ret := none) (by decide) rfl ?_
  intro p e s m args below meth c s₁ B hml hv
  obtain ⟨rfl, hsz, hP, hK, hD0⟩ := hv
  have hx := B.exec
  have hb := B.bytes
  have hr := B.returns
  have hts := atoms_spec (ws := wsX7_laySure) B.pre
  have hown : s.vm.findClass RX7 = some m.cls := findClass_of_methodNamed B.named
  have hlocks := B.notSynchronized
  subst hsz
  have hD := hD0.self (sz := s.heap.size)
  generalize hAe : va_A (wX7 cy a v) s.heap.size = A at hD ⊢
  have hAe0 : ∀ q : Nat, s.heap.size ≤ q → A q := fun q h => by rw [← hAe]; exact Or.inr h
  have hS : va_S A s.heap s.heap [] := va_S.rf
  have hl := lv_entry ([.ref (a 0)]) (n := 4) (Nat.le_of_ble_eq_true rfl)
  rw [lg_entry_eq]
  generalize (lg_sl ([.ref (a 0)]) ++ List.replicate (4 - (lg_sl ([.ref (a 0)])).length) Slot.unset).toArray = ls at hl ⊢
  have hl : lv_has ls 4 [(0, .ref (a 0))] := hl
  have lk0 := hts (Cond.fieldLink RX7 7 "MolesLawnModel" "s" "[I") (List.mem_cons_of_mem _ (List.mem_append_left _ (List.mem_append_left _ (List.mem_of_getElem? (i := 1) rfl))))
  have lk1 := hts (Cond.fieldLink RX7 32 "MolesLawnModel" "sure" "[I") (List.mem_cons_of_mem _ (List.mem_append_left _ (List.mem_append_left _ (List.mem_of_getElem? (i := 0) rfl))))
  have lk2 := hts (Cond.fieldLink RX7 28 "MolesLawnModel" "isHollow" "[Z") (List.mem_cons_of_mem _ (List.mem_append_left _ (List.mem_append_left _ (List.mem_of_getElem? (i := 2) rfl))))
  have iK7 : ∀ w ∈ wsX70, w ∈ wsX7_laySure := fun _ h => (List.mem_cons_of_mem _ (List.mem_append_right _ h))
  unfold wp_X7_laySure at hq
  have J57 : ∀ (z57_v_isHollow : (Nat → Int32)) (y57_1 : Int32) (z57_v_sure : (Nat → Int32)) (H : Heap) (locs : List Loc) (ls : Array Slot), wp_X7_laySure_57 v z57_v_isHollow y57_1 z57_v_sure Q → va_P (dC, dI) vwCl (cX7 cy a (X7_s v) (X7_aside v) (X7_kept v) (X7_isKept v) (X7_saved v) (X7_savedMany v) (X7_text v) (X7_length v) (X7_thrown v) (X7_joint v) (X7_position v) (X7_isWrong v) z57_v_isHollow z57_v_sure (X7_away v) (X7_digested v)) H → va_D A (cX7 cy a (X7_s v) (X7_aside v) (X7_kept v) (X7_isKept v) (X7_saved v) (X7_savedMany v) (X7_text v) (X7_length v) (X7_thrown v) (X7_joint v) (X7_position v) (X7_isWrong v) z57_v_isHollow z57_v_sure (X7_away v) (X7_digested v)) → va_S A s.heap H locs → lv_has ls 4 [(0, .ref (a 0)), (1, .int y57_1)] → W p l e (headSpec wsX7_laySure ({ frames := 4, cells := 0, slots := 0, locals := 92 } : Room)).room s m ([.ref (a 0)] : List Value).toArray below meth c H locs 0 0 (MQ below (q_X7_laySure dC dI cy a v Q A) ([.ref (a 0)] : List Value).toArray s 0 0 A) (F0 m 57 ls []) := by
    intro z57_v_isHollow y57_1 z57_v_sure H locs ls hq hP hD hS hl
    obtain ⟨I57, μ57, h0, hs57⟩ := hq
    have key : ∀ (n : Nat) (y57_1 : Int32) (z57_v_sure : (Nat → Int32)) (H : Heap) (locs : List Loc) (ls : Array Slot), I57 y57_1 z57_v_sure → μ57 y57_1 z57_v_sure < n → va_P (dC, dI) vwCl (cX7 cy a (X7_s v) (X7_aside v) (X7_kept v) (X7_isKept v) (X7_saved v) (X7_savedMany v) (X7_text v) (X7_length v) (X7_thrown v) (X7_joint v) (X7_position v) (X7_isWrong v) z57_v_isHollow z57_v_sure (X7_away v) (X7_digested v)) H → va_D A (cX7 cy a (X7_s v) (X7_aside v) (X7_kept v) (X7_isKept v) (X7_saved v) (X7_savedMany v) (X7_text v) (X7_length v) (X7_thrown v) (X7_joint v) (X7_position v) (X7_isWrong v) z57_v_isHollow z57_v_sure (X7_away v) (X7_digested v)) → va_S A s.heap H locs → lv_has ls 4 [(0, .ref (a 0)), (1, .int y57_1)] → W p l e (headSpec wsX7_laySure ({ frames := 4, cells := 0, slots := 0, locals := 92 } : Room)).room s m ([.ref (a 0)] : List Value).toArray below meth c H locs 0 0 (MQ below (q_X7_laySure dC dI cy a v Q A) ([.ref (a 0)] : List Value).toArray s 0 0 A) (F0 m 57 ls []) := by
      intro n
      induction n with
      | zero => intro y57_1 z57_v_sure H locs ls _ hm; exact absurd hm (Nat.not_lt_zero _)
      | succ n ih =>
        intro y57_1 z57_v_sure H locs ls hI hm hP hD hS hl
        have hq := hs57 y57_1 z57_v_sure hI
        generalize hB57 : (fun (t0 : Int32) (t1 : (Nat → Int32)) => I57 t0 t1 ∧ μ57 t0 t1 < μ57 y57_1 z57_v_sure) = B57 at hq
        have bk57 : ∀ (y57_1 : Int32) (z57_v_sure : (Nat → Int32)) (H : Heap) (locs : List Loc) (ls : Array Slot), B57 y57_1 z57_v_sure → va_P (dC, dI) vwCl (cX7 cy a (X7_s v) (X7_aside v) (X7_kept v) (X7_isKept v) (X7_saved v) (X7_savedMany v) (X7_text v) (X7_length v) (X7_thrown v) (X7_joint v) (X7_position v) (X7_isWrong v) z57_v_isHollow z57_v_sure (X7_away v) (X7_digested v)) H → va_D A (cX7 cy a (X7_s v) (X7_aside v) (X7_kept v) (X7_isKept v) (X7_saved v) (X7_savedMany v) (X7_text v) (X7_length v) (X7_thrown v) (X7_joint v) (X7_position v) (X7_isWrong v) z57_v_isHollow z57_v_sure (X7_away v) (X7_digested v)) → va_S A s.heap H locs → lv_has ls 4 [(0, .ref (a 0)), (1, .int y57_1)] → W p l e (headSpec wsX7_laySure ({ frames := 4, cells := 0, slots := 0, locals := 92 } : Room)).room s m ([.ref (a 0)] : List Value).toArray below meth c H locs 0 0 (MQ below (q_X7_laySure dC dI cy a v Q A) ([.ref (a 0)] : List Value).toArray s 0 0 A) (F0 m 57 ls []) := by
          intro y57_1 z57_v_sure H locs ls h
          rw [← hB57] at h
          exact ih y57_1 z57_v_sure H locs ls h.1 (Nat.lt_of_lt_of_le h.2 (Nat.le_of_lt_succ hm))
        unfold wb_X7_laySure_57 at hq
        have J65 : ∀  (y65_1 : Int32) (y65_2 : Int32) (z65_v_sure : (Nat → Int32)) (H : Heap) (locs : List Loc) (ls : Array Slot), wp_X7_laySure_65 v z57_v_isHollow y57_1 z57_v_sure B57  y65_1 y65_2 z65_v_sure Q → va_P (dC, dI) vwCl (cX7 cy a (X7_s v) (X7_aside v) (X7_kept v) (X7_isKept v) (X7_saved v) (X7_savedMany v) (X7_text v) (X7_length v) (X7_thrown v) (X7_joint v) (X7_position v) (X7_isWrong v) z57_v_isHollow z65_v_sure (X7_away v) (X7_digested v)) H → va_D A (cX7 cy a (X7_s v) (X7_aside v) (X7_kept v) (X7_isKept v) (X7_saved v) (X7_savedMany v) (X7_text v) (X7_length v) (X7_thrown v) (X7_joint v) (X7_position v) (X7_isWrong v) z57_v_isHollow z65_v_sure (X7_away v) (X7_digested v)) → va_S A s.heap H locs → lv_has ls 4 [(0, .ref (a 0)), (1, .int y65_1), (2, .int y65_2)] → W p l e (headSpec wsX7_laySure ({ frames := 4, cells := 0, slots := 0, locals := 92 } : Room)).room s m ([.ref (a 0)] : List Value).toArray below meth c H locs 0 0 (MQ below (q_X7_laySure dC dI cy a v Q A) ([.ref (a 0)] : List Value).toArray s 0 0 A) (F0 m 65 ls []) := by
          intro  y65_1 y65_2 z65_v_sure H locs ls hq hP hD hS hl
          obtain ⟨I65, μ65, h0, hs65⟩ := hq
          have key : ∀ (n : Nat) (y65_1 : Int32) (y65_2 : Int32) (z65_v_sure : (Nat → Int32)) (H : Heap) (locs : List Loc) (ls : Array Slot), I65 y65_1 y65_2 z65_v_sure → μ65 y65_1 y65_2 z65_v_sure < n → va_P (dC, dI) vwCl (cX7 cy a (X7_s v) (X7_aside v) (X7_kept v) (X7_isKept v) (X7_saved v) (X7_savedMany v) (X7_text v) (X7_length v) (X7_thrown v) (X7_joint v) (X7_position v) (X7_isWrong v) z57_v_isHollow z65_v_sure (X7_away v) (X7_digested v)) H → va_D A (cX7 cy a (X7_s v) (X7_aside v) (X7_kept v) (X7_isKept v) (X7_saved v) (X7_savedMany v) (X7_text v) (X7_length v) (X7_thrown v) (X7_joint v) (X7_position v) (X7_isWrong v) z57_v_isHollow z65_v_sure (X7_away v) (X7_digested v)) → va_S A s.heap H locs → lv_has ls 4 [(0, .ref (a 0)), (1, .int y65_1), (2, .int y65_2)] → W p l e (headSpec wsX7_laySure ({ frames := 4, cells := 0, slots := 0, locals := 92 } : Room)).room s m ([.ref (a 0)] : List Value).toArray below meth c H locs 0 0 (MQ below (q_X7_laySure dC dI cy a v Q A) ([.ref (a 0)] : List Value).toArray s 0 0 A) (F0 m 65 ls []) := by
            intro n
            induction n with
            | zero => intro y65_1 y65_2 z65_v_sure H locs ls _ hm; exact absurd hm (Nat.not_lt_zero _)
            | succ n ih =>
              intro y65_1 y65_2 z65_v_sure H locs ls hI hm hP hD hS hl
              have hq := hs65 y65_1 y65_2 z65_v_sure hI
              generalize hB65 : (fun (t0 : Int32) (t1 : Int32) (t2 : (Nat → Int32)) => I65 t0 t1 t2 ∧ μ65 t0 t1 t2 < μ65 y65_1 y65_2 z65_v_sure) = B65 at hq
              have bk65 : ∀ (y65_1 : Int32) (y65_2 : Int32) (z65_v_sure : (Nat → Int32)) (H : Heap) (locs : List Loc) (ls : Array Slot), B65 y65_1 y65_2 z65_v_sure → va_P (dC, dI) vwCl (cX7 cy a (X7_s v) (X7_aside v) (X7_kept v) (X7_isKept v) (X7_saved v) (X7_savedMany v) (X7_text v) (X7_length v) (X7_thrown v) (X7_joint v) (X7_position v) (X7_isWrong v) z57_v_isHollow z65_v_sure (X7_away v) (X7_digested v)) H → va_D A (cX7 cy a (X7_s v) (X7_aside v) (X7_kept v) (X7_isKept v) (X7_saved v) (X7_savedMany v) (X7_text v) (X7_length v) (X7_thrown v) (X7_joint v) (X7_position v) (X7_isWrong v) z57_v_isHollow z65_v_sure (X7_away v) (X7_digested v)) → va_S A s.heap H locs → lv_has ls 4 [(0, .ref (a 0)), (1, .int y65_1), (2, .int y65_2)] → W p l e (headSpec wsX7_laySure ({ frames := 4, cells := 0, slots := 0, locals := 92 } : Room)).room s m ([.ref (a 0)] : List Value).toArray below meth c H locs 0 0 (MQ below (q_X7_laySure dC dI cy a v Q A) ([.ref (a 0)] : List Value).toArray s 0 0 A) (F0 m 65 ls []) := by
                intro y65_1 y65_2 z65_v_sure H locs ls h
                rw [← hB65] at h
                exact ih y65_1 y65_2 z65_v_sure H locs ls h.1 (Nat.lt_of_lt_of_le h.2 (Nat.le_of_lt_succ hm))
              unfold wb_X7_laySure_65 at hq
              have J98 : ∀ (z98_v_sure : (Nat → Int32)) (k98_0 : Int32) (H : Heap) (locs : List Loc) (ls : Array Slot), wp_X7_laySure_98 v z57_v_isHollow y57_1 z57_v_sure B57 y65_1 y65_2 z65_v_sure B65 z98_v_sure k98_0 Q → va_P (dC, dI) vwCl (cX7 cy a (X7_s v) (X7_aside v) (X7_kept v) (X7_isKept v) (X7_saved v) (X7_savedMany v) (X7_text v) (X7_length v) (X7_thrown v) (X7_joint v) (X7_position v) (X7_isWrong v) z57_v_isHollow z98_v_sure (X7_away v) (X7_digested v)) H → va_D A (cX7 cy a (X7_s v) (X7_aside v) (X7_kept v) (X7_isKept v) (X7_saved v) (X7_savedMany v) (X7_text v) (X7_length v) (X7_thrown v) (X7_joint v) (X7_position v) (X7_isWrong v) z57_v_isHollow z98_v_sure (X7_away v) (X7_digested v)) → va_S A s.heap H locs → lv_has ls 4 [(0, .ref (a 0)), (1, .int y65_1), (2, .int y65_2)] → W p l e (headSpec wsX7_laySure ({ frames := 4, cells := 0, slots := 0, locals := 92 } : Room)).room s m ([.ref (a 0)] : List Value).toArray below meth c H locs 0 0 (MQ below (q_X7_laySure dC dI cy a v Q A) ([.ref (a 0)] : List Value).toArray s 0 0 A) (F0 m 98 ls [.int k98_0]) := by
                intro z98_v_sure k98_0 H locs ls hq hP hD hS hl
                unfold wp_X7_laySure_98 at hq
                refine lv_istore_n (lv' := [(3, .int k98_0), (0, .ref (a 0)), (1, .int y65_1), (2, .int y65_2)]) hx hb dX7_laySure_98 rfl hl (by decide) rfl (fun ls hl => ?_)
                refine lv_iload_n hx hb dX7_laySure_99 rfl (lv_at hl 2 rfl) ?_
                obtain ⟨hqA, hqB⟩ := hq
                refine lv_if_ne (tgt := 107) hx hb dX7_laySure_100 (by decide) (fun c2 => ?_) (fun c2 => ?_)
                · have hq := hqB c2
                  refine lv_iconst (v := 1) hx hb dX7_laySure_107 (by decide) ?_
                  refine lv_goto (tgt := 112) hx hb dX7_laySure_108 (by decide) ?_
                  refine lv_istore_n (lv' := [(1, .int 1), (3, .int k98_0), (0, .ref (a 0)), (2, .int y65_2)]) hx hb dX7_laySure_112 rfl hl (by decide) rfl (fun ls hl => ?_)
                  refine lv_iinc (v := (y65_2 + 1)) (lv' := [(2, .int (y65_2 + 1)), (1, .int 1), (3, .int k98_0), (0, .ref (a 0))]) hx hb dX7_laySure_113 hl (k := 3) rfl rfl (by decide) rfl (fun ls hl => ?_)
                  refine lv_goto (tgt := 65) hx hb dX7_laySure_116 (by decide) ?_
                  exact bk65 1 (y65_2 + 1) z98_v_sure _ _ _ hq hP hD hS (lv_sub hl [3, 1, 0] rfl)
                · have hq := hqA c2
                  refine lv_iload_n hx hb dX7_laySure_103 rfl (lv_at hl 0 rfl) ?_
                  obtain ⟨hqA, hqB⟩ := hq
                  refine lv_if_eq (tgt := 111) hx hb dX7_laySure_104 (by decide) (fun c1 => ?_) (fun c1 => ?_)
                  · have hq := hqA c1
                    refine lv_iconst (v := 0) hx hb dX7_laySure_111 (by decide) ?_
                    refine lv_istore_n (lv' := [(1, .int 0), (3, .int k98_0), (0, .ref (a 0)), (2, .int y65_2)]) hx hb dX7_laySure_112 rfl hl (by decide) rfl (fun ls hl => ?_)
                    refine lv_iinc (v := (y65_2 + 1)) (lv' := [(2, .int (y65_2 + 1)), (1, .int 0), (3, .int k98_0), (0, .ref (a 0))]) hx hb dX7_laySure_113 hl (k := 3) rfl rfl (by decide) rfl (fun ls hl => ?_)
                    refine lv_goto (tgt := 65) hx hb dX7_laySure_116 (by decide) ?_
                    exact bk65 0 (y65_2 + 1) z98_v_sure _ _ _ hq hP hD hS (lv_sub hl [3, 1, 0] rfl)
                  · have hq := hqB c1
                    refine lv_iconst (v := 1) hx hb dX7_laySure_107 (by decide) ?_
                    refine lv_goto (tgt := 112) hx hb dX7_laySure_108 (by decide) ?_
                    refine lv_istore_n (lv' := [(1, .int 1), (3, .int k98_0), (0, .ref (a 0)), (2, .int y65_2)]) hx hb dX7_laySure_112 rfl hl (by decide) rfl (fun ls hl => ?_)
                    refine lv_iinc (v := (y65_2 + 1)) (lv' := [(2, .int (y65_2 + 1)), (1, .int 1), (3, .int k98_0), (0, .ref (a 0))]) hx hb dX7_laySure_113 hl (k := 3) rfl rfl (by decide) rfl (fun ls hl => ?_)
                    refine lv_goto (tgt := 65) hx hb dX7_laySure_116 (by decide) ?_
                    exact bk65 1 (y65_2 + 1) z98_v_sure _ _ _ hq hP hD hS (lv_sub hl [3, 1, 0] rfl)
              have J97 : ∀ (z97_v_sure : (Nat → Int32)) (H : Heap) (locs : List Loc) (ls : Array Slot), wp_X7_laySure_97 v z57_v_isHollow y57_1 z57_v_sure B57 y65_1 y65_2 z65_v_sure B65 z97_v_sure Q → va_P (dC, dI) vwCl (cX7 cy a (X7_s v) (X7_aside v) (X7_kept v) (X7_isKept v) (X7_saved v) (X7_savedMany v) (X7_text v) (X7_length v) (X7_thrown v) (X7_joint v) (X7_position v) (X7_isWrong v) z57_v_isHollow z97_v_sure (X7_away v) (X7_digested v)) H → va_D A (cX7 cy a (X7_s v) (X7_aside v) (X7_kept v) (X7_isKept v) (X7_saved v) (X7_savedMany v) (X7_text v) (X7_length v) (X7_thrown v) (X7_joint v) (X7_position v) (X7_isWrong v) z57_v_isHollow z97_v_sure (X7_away v) (X7_digested v)) → va_S A s.heap H locs → lv_has ls 4 [(0, .ref (a 0)), (1, .int y65_1), (2, .int y65_2)] → W p l e (headSpec wsX7_laySure ({ frames := 4, cells := 0, slots := 0, locals := 92 } : Room)).room s m ([.ref (a 0)] : List Value).toArray below meth c H locs 0 0 (MQ below (q_X7_laySure dC dI cy a v Q A) ([.ref (a 0)] : List Value).toArray s 0 0 A) (F0 m 97 ls []) := by
                intro z97_v_sure H locs ls hq hP hD hS hl
                unfold wp_X7_laySure_97 at hq
                refine lv_iconst (v := 0) hx hb dX7_laySure_97 (by decide) ?_
                exact J98 z97_v_sure 0  _ _ _ hq hP hD hS (lv_sub hl [0, 1, 2] rfl)
              refine lv_iload_n hx hb dX7_laySure_65 rfl (lv_at hl 2 rfl) ?_
              refine lv_bipush (v := 64) hx hb dX7_laySure_66 (by decide) ?_
              obtain ⟨hqA, hqB⟩ := hq
              refine lv_icmp_ge (tgt := 119) hx hb dX7_laySure_68 (by decide) (fun c6 => ?_) (fun c6 => ?_)
              · have hq := hqA c6
                refine lv_goto (tgt := 57) hx hb dX7_laySure_119 (by decide) ?_
                exact bk57 y65_1 z65_v_sure _ _ _ hq hP hD hS (lv_sub hl [0, 1] rfl)
              · have hq := hqB c6
                refine lv_aload_n hx hb dX7_laySure_71 rfl (lv_at hl 0 rfl) ?_
                refine va_get (D := (dC, dI)) (ci := 7) (v := .ref (a 1)) (C := RX7) (T := TX7) (N := 16) hx hb hts iK7 hown hK hP 0 rfl rfl 0 (by decide) lk0 (fun _ h9 => h9) rfl dX7_laySure_72 ?_
                refine lv_sipush (v := 200) hx hb dX7_laySure_75 (by decide) ?_
                refine lv_iload_n hx hb dX7_laySure_78 rfl (lv_at hl 2 rfl) ?_
                refine lv_iadd hx hb dX7_laySure_79 ?_
                obtain ⟨g3, hq⟩ := hq
                refine va_iald hx hb hK hP 1 0 rfl rfl g3 dX7_laySure_80 ?_
                refine lv_iconst (v := 1) hx hb dX7_laySure_81 (by decide) ?_
                obtain ⟨hqA, hqB⟩ := hq
                refine lv_icmp_ne (tgt := 97) hx hb dX7_laySure_82 (by decide) (fun c5 => ?_) (fun c5 => ?_)
                · have hq := hqB c5
                  exact J97 z65_v_sure  _ _ _ hq hP hD hS (lv_sub hl [0, 1, 2] rfl)
                · have hq := hqA c5
                  refine lv_aload_n hx hb dX7_laySure_85 rfl (lv_at hl 0 rfl) ?_
                  refine lv_iload_n hx hb dX7_laySure_86 rfl (lv_at hl 2 rfl) ?_
                  have hFc := xfree_same hS hAe0 (ws := (cX7 cy a (X7_s v) (X7_aside v) (X7_kept v) (X7_isKept v) (X7_saved v) (X7_savedMany v) (X7_text v) (X7_length v) (X7_thrown v) (X7_joint v) (X7_position v) (X7_isWrong v) z57_v_isHollow z65_v_sure (X7_away v) (X7_digested v))) hD
                  refine va_calli (va_runV (As := [.int y65_2]) (rest := []) ⟨hx, hb, hml, hown, hts⟩ (c_X7_finds l dC dI cy a _ (X7_s13 (X7_s12 v z57_v_isHollow) z65_v_sure) y65_2 _ hq) (cwV 1 hts gX7_laySure_X7_finds rfl rfl rfl (by decide +kernel) ⟨Nat.le_of_ble_eq_true rfl, Nat.le_of_ble_eq_true rfl⟩) ⟨xPre_blind, va_recv hK hP (ci := 7) (q0 := 0) rfl rfl, xPre_of hP hK hD⟩ rfl rfl hl.1 rfl (lv_room (Nat.le_of_ble_eq_true rfl)) dX7_laySure_87 ⟨Nat.le_of_ble_eq_true rfl, Nat.le_of_ble_eq_true rfl⟩) hS (fun q _ h => hFc q h) hFc (fun r87 z87_v_sure t H locs ht hvm hq hB hz1 hk1 hS => ?_)
                  obtain ⟨hP1, -, hD1⟩ := hB
                  rw [ht] at hP1
                  have hP : va_P (dC, dI) vwCl (cX7 cy a (X7_s v) (X7_aside v) (X7_kept v) (X7_isKept v) (X7_saved v) (X7_savedMany v) (X7_text v) (X7_length v) (X7_thrown v) (X7_joint v) (X7_position v) (X7_isWrong v) z57_v_isHollow z87_v_sure (X7_away v) (X7_digested v)) H := hP1
                  have hD : va_D A (cX7 cy a (X7_s v) (X7_aside v) (X7_kept v) (X7_isKept v) (X7_saved v) (X7_savedMany v) (X7_text v) (X7_length v) (X7_thrown v) (X7_joint v) (X7_position v) (X7_isWrong v) z57_v_isHollow z87_v_sure (X7_away v) (X7_digested v)) := hD1.weaken (fun _ q _ h => hFc q.1 h)
                  obtain ⟨hqA, hqB⟩ := hq
                  refine lv_if_eq (tgt := 97) hx hb dX7_laySure_90 (by decide) (fun c4 => ?_) (fun c4 => ?_)
                  · have hq := hqA c4
                    exact J97 z87_v_sure  _ _ _ hq hP hD hS (lv_sub hl [0, 1, 2] rfl)
                  · have hq := hqB c4
                    refine lv_iconst (v := 1) hx hb dX7_laySure_93 (by decide) ?_
                    refine lv_goto (tgt := 98) hx hb dX7_laySure_94 (by decide) ?_
                    exact J98 z87_v_sure 1  _ _ _ hq hP hD hS (lv_sub hl [0, 1, 2] rfl)
          exact key _ y65_1 y65_2 z65_v_sure H locs ls h0 (Nat.lt_succ_self _) hP hD hS hl
        refine lv_iload_n hx hb dX7_laySure_57 rfl (lv_at hl 1 rfl) ?_
        obtain ⟨hqA, hqB⟩ := hq
        refine lv_if_eq (tgt := 122) hx hb dX7_laySure_58 (by decide) (fun c7 => ?_) (fun c7 => ?_)
        · have hq := hqA c7
          exact W.vret hx hb hr (fun t ht hW => ⟨⟨(z57_v_isHollow, z57_v_sure), rfl, hq, (xAt_of hP hK hD ht hW)⟩, hS.F ht⟩) hS.2.2 dX7_laySure_122
        · have hq := hqB c7
          refine lv_iconst (v := 0) hx hb dX7_laySure_61 (by decide) ?_
          refine lv_istore_n (lv' := [(1, .int 0), (0, .ref (a 0))]) hx hb dX7_laySure_62 rfl hl (by decide) rfl (fun ls hl => ?_)
          refine lv_iconst (v := 0) hx hb dX7_laySure_63 (by decide) ?_
          refine lv_istore_n (lv' := [(2, .int 0), (1, .int 0), (0, .ref (a 0))]) hx hb dX7_laySure_64 rfl hl (by decide) rfl (fun ls hl => ?_)
          exact J65  0 0 z57_v_sure _ _ _ hq hP hD hS (lv_sub hl [2, 1, 0] rfl)
    exact key _ y57_1 z57_v_sure H locs ls h0 (Nat.lt_succ_self _) hP hD hS hl
  have J6 : ∀ (z6_v_isHollow : (Nat → Int32)) (y6_1 : Int32) (z6_v_sure : (Nat → Int32)) (H : Heap) (locs : List Loc) (ls : Array Slot), wp_X7_laySure_6 v z6_v_isHollow y6_1 z6_v_sure Q → va_P (dC, dI) vwCl (cX7 cy a (X7_s v) (X7_aside v) (X7_kept v) (X7_isKept v) (X7_saved v) (X7_savedMany v) (X7_text v) (X7_length v) (X7_thrown v) (X7_joint v) (X7_position v) (X7_isWrong v) z6_v_isHollow z6_v_sure (X7_away v) (X7_digested v)) H → va_D A (cX7 cy a (X7_s v) (X7_aside v) (X7_kept v) (X7_isKept v) (X7_saved v) (X7_savedMany v) (X7_text v) (X7_length v) (X7_thrown v) (X7_joint v) (X7_position v) (X7_isWrong v) z6_v_isHollow z6_v_sure (X7_away v) (X7_digested v)) → va_S A s.heap H locs → lv_has ls 4 [(0, .ref (a 0)), (1, .int y6_1)] → W p l e (headSpec wsX7_laySure ({ frames := 4, cells := 0, slots := 0, locals := 92 } : Room)).room s m ([.ref (a 0)] : List Value).toArray below meth c H locs 0 0 (MQ below (q_X7_laySure dC dI cy a v Q A) ([.ref (a 0)] : List Value).toArray s 0 0 A) (F0 m 6 ls []) := by
    intro z6_v_isHollow y6_1 z6_v_sure H locs ls hq hP hD hS hl
    obtain ⟨I6, μ6, h0, hs6⟩ := hq
    have key : ∀ (n : Nat) (y6_1 : Int32) (z6_v_sure : (Nat → Int32)) (H : Heap) (locs : List Loc) (ls : Array Slot), I6 y6_1 z6_v_sure → μ6 y6_1 z6_v_sure < n → va_P (dC, dI) vwCl (cX7 cy a (X7_s v) (X7_aside v) (X7_kept v) (X7_isKept v) (X7_saved v) (X7_savedMany v) (X7_text v) (X7_length v) (X7_thrown v) (X7_joint v) (X7_position v) (X7_isWrong v) z6_v_isHollow z6_v_sure (X7_away v) (X7_digested v)) H → va_D A (cX7 cy a (X7_s v) (X7_aside v) (X7_kept v) (X7_isKept v) (X7_saved v) (X7_savedMany v) (X7_text v) (X7_length v) (X7_thrown v) (X7_joint v) (X7_position v) (X7_isWrong v) z6_v_isHollow z6_v_sure (X7_away v) (X7_digested v)) → va_S A s.heap H locs → lv_has ls 4 [(0, .ref (a 0)), (1, .int y6_1)] → W p l e (headSpec wsX7_laySure ({ frames := 4, cells := 0, slots := 0, locals := 92 } : Room)).room s m ([.ref (a 0)] : List Value).toArray below meth c H locs 0 0 (MQ below (q_X7_laySure dC dI cy a v Q A) ([.ref (a 0)] : List Value).toArray s 0 0 A) (F0 m 6 ls []) := by
      intro n
      induction n with
      | zero => intro y6_1 z6_v_sure H locs ls _ hm; exact absurd hm (Nat.not_lt_zero _)
      | succ n ih =>
        intro y6_1 z6_v_sure H locs ls hI hm hP hD hS hl
        have hq := hs6 y6_1 z6_v_sure hI
        generalize hB6 : (fun (t0 : Int32) (t1 : (Nat → Int32)) => I6 t0 t1 ∧ μ6 t0 t1 < μ6 y6_1 z6_v_sure) = B6 at hq
        have bk6 : ∀ (y6_1 : Int32) (z6_v_sure : (Nat → Int32)) (H : Heap) (locs : List Loc) (ls : Array Slot), B6 y6_1 z6_v_sure → va_P (dC, dI) vwCl (cX7 cy a (X7_s v) (X7_aside v) (X7_kept v) (X7_isKept v) (X7_saved v) (X7_savedMany v) (X7_text v) (X7_length v) (X7_thrown v) (X7_joint v) (X7_position v) (X7_isWrong v) z6_v_isHollow z6_v_sure (X7_away v) (X7_digested v)) H → va_D A (cX7 cy a (X7_s v) (X7_aside v) (X7_kept v) (X7_isKept v) (X7_saved v) (X7_savedMany v) (X7_text v) (X7_length v) (X7_thrown v) (X7_joint v) (X7_position v) (X7_isWrong v) z6_v_isHollow z6_v_sure (X7_away v) (X7_digested v)) → va_S A s.heap H locs → lv_has ls 4 [(0, .ref (a 0)), (1, .int y6_1)] → W p l e (headSpec wsX7_laySure ({ frames := 4, cells := 0, slots := 0, locals := 92 } : Room)).room s m ([.ref (a 0)] : List Value).toArray below meth c H locs 0 0 (MQ below (q_X7_laySure dC dI cy a v Q A) ([.ref (a 0)] : List Value).toArray s 0 0 A) (F0 m 6 ls []) := by
          intro y6_1 z6_v_sure H locs ls h
          rw [← hB6] at h
          exact ih y6_1 z6_v_sure H locs ls h.1 (Nat.lt_of_lt_of_le h.2 (Nat.le_of_lt_succ hm))
        unfold wb_X7_laySure_6 at hq
        refine lv_iload_n hx hb dX7_laySure_6 rfl (lv_at hl 1 rfl) ?_
        refine lv_bipush (v := 64) hx hb dX7_laySure_7 (by decide) ?_
        obtain ⟨hqA, hqB⟩ := hq
        refine lv_icmp_ge (tgt := 55) hx hb dX7_laySure_9 (by decide) (fun c13 => ?_) (fun c13 => ?_)
        · have hq := hqA c13
          refine lv_iconst (v := 1) hx hb dX7_laySure_55 (by decide) ?_
          refine lv_istore_n (lv' := [(1, .int 1), (0, .ref (a 0))]) hx hb dX7_laySure_56 rfl hl (by decide) rfl (fun ls hl => ?_)
          exact J57 z6_v_isHollow 1 z6_v_sure _ _ _ hq hP hD hS (lv_sub hl [1, 0] rfl)
        · have hq := hqB c13
          refine lv_aload_n hx hb dX7_laySure_12 rfl (lv_at hl 0 rfl) ?_
          refine va_get (D := (dC, dI)) (ci := 7) (v := .ref (a 8)) (C := RX7) (T := TX7) (N := 16) hx hb hts iK7 hown hK hP 0 rfl rfl 13 (by decide) lk1 (fun _ h9 => h9) rfl dX7_laySure_13 ?_
          refine lv_iload_n hx hb dX7_laySure_16 rfl (lv_at hl 1 rfl) ?_
          refine lv_aload_n hx hb dX7_laySure_17 rfl (lv_at hl 0 rfl) ?_
          refine va_get (D := (dC, dI)) (ci := 7) (v := .ref (a 1)) (C := RX7) (T := TX7) (N := 16) hx hb hts iK7 hown hK hP 0 rfl rfl 0 (by decide) lk0 (fun _ h9 => h9) rfl dX7_laySure_18 ?_
          refine lv_sipush (v := 200) hx hb dX7_laySure_21 (by decide) ?_
          refine lv_iload_n hx hb dX7_laySure_24 rfl (lv_at hl 1 rfl) ?_
          refine lv_iadd hx hb dX7_laySure_25 ?_
          obtain ⟨g8, hq⟩ := hq
          refine va_iald hx hb hK hP 1 0 rfl rfl g8 dX7_laySure_26 ?_
          obtain ⟨hqA, hqB⟩ := hq
          refine lv_if_ne (tgt := 34) hx hb dX7_laySure_27 (by decide) (fun c12 => ?_) (fun c12 => ?_)
          · have hq := hqB c12
            refine lv_aload_n hx hb dX7_laySure_34 rfl (lv_at hl 0 rfl) ?_
            refine va_get (D := (dC, dI)) (ci := 7) (v := .ref (a 7)) (C := RX7) (T := TX7) (N := 16) hx hb hts iK7 hown hK hP 0 rfl rfl 12 (by decide) lk2 (fun _ h9 => h9) rfl dX7_laySure_35 ?_
            refine lv_iload_n hx hb dX7_laySure_38 rfl (lv_at hl 1 rfl) ?_
            obtain ⟨g9, hq⟩ := hq
            refine va_zald hx hb hK hP 7 1 rfl rfl g9 dX7_laySure_39 ?_
            obtain ⟨hqA, hqB⟩ := hq
            refine lv_if_eq (tgt := 47) hx hb dX7_laySure_40 (by decide) (fun c10 => ?_) (fun c10 => ?_)
            · have hq := hqA c10
              refine lv_iconst (v := 0) hx hb dX7_laySure_47 (by decide) ?_
              refine va_iast hx hb hK hP hD hS 8 0 rfl rfl g9 dX7_laySure_48 (fun H locs hP hD hS => ?_)
              have hP : va_P (dC, dI) vwCl (cX7 cy a (X7_s v) (X7_aside v) (X7_kept v) (X7_isKept v) (X7_saved v) (X7_savedMany v) (X7_text v) (X7_length v) (X7_thrown v) (X7_joint v) (X7_position v) (X7_isWrong v) z6_v_isHollow (upd z6_v_sure y6_1.toNatClampNeg 0) (X7_away v) (X7_digested v)) H := hP
              have hD : va_D A (cX7 cy a (X7_s v) (X7_aside v) (X7_kept v) (X7_isKept v) (X7_saved v) (X7_savedMany v) (X7_text v) (X7_length v) (X7_thrown v) (X7_joint v) (X7_position v) (X7_isWrong v) z6_v_isHollow (upd z6_v_sure y6_1.toNatClampNeg 0) (X7_away v) (X7_digested v)) := hD
              refine lv_iinc (v := (y6_1 + 1)) (lv' := [(1, .int (y6_1 + 1)), (0, .ref (a 0))]) hx hb dX7_laySure_49 hl (k := 1) rfl rfl (by decide) rfl (fun ls hl => ?_)
              refine lv_goto (tgt := 6) hx hb dX7_laySure_52 (by decide) ?_
              exact bk6 (y6_1 + 1) (upd z6_v_sure y6_1.toNatClampNeg 0) _ _ _ hq hP hD hS (lv_sub hl [1, 0] rfl)
            · have hq := hqB c10
              refine lv_iconst (v := 1) hx hb dX7_laySure_43 (by decide) ?_
              refine lv_goto (tgt := 48) hx hb dX7_laySure_44 (by decide) ?_
              refine va_iast hx hb hK hP hD hS 8 0 rfl rfl g9 dX7_laySure_48 (fun H locs hP hD hS => ?_)
              have hP : va_P (dC, dI) vwCl (cX7 cy a (X7_s v) (X7_aside v) (X7_kept v) (X7_isKept v) (X7_saved v) (X7_savedMany v) (X7_text v) (X7_length v) (X7_thrown v) (X7_joint v) (X7_position v) (X7_isWrong v) z6_v_isHollow (upd z6_v_sure y6_1.toNatClampNeg 1) (X7_away v) (X7_digested v)) H := hP
              have hD : va_D A (cX7 cy a (X7_s v) (X7_aside v) (X7_kept v) (X7_isKept v) (X7_saved v) (X7_savedMany v) (X7_text v) (X7_length v) (X7_thrown v) (X7_joint v) (X7_position v) (X7_isWrong v) z6_v_isHollow (upd z6_v_sure y6_1.toNatClampNeg 1) (X7_away v) (X7_digested v)) := hD
              refine lv_iinc (v := (y6_1 + 1)) (lv' := [(1, .int (y6_1 + 1)), (0, .ref (a 0))]) hx hb dX7_laySure_49 hl (k := 1) rfl rfl (by decide) rfl (fun ls hl => ?_)
              refine lv_goto (tgt := 6) hx hb dX7_laySure_52 (by decide) ?_
              exact bk6 (y6_1 + 1) (upd z6_v_sure y6_1.toNatClampNeg 1) _ _ _ hq hP hD hS (lv_sub hl [1, 0] rfl)
          · have hq := hqA c12
            refine lv_iconst (v := (-1)) hx hb dX7_laySure_30 (by decide) ?_
            refine lv_goto (tgt := 48) hx hb dX7_laySure_31 (by decide) ?_
            obtain ⟨g11, hq⟩ := hq
            refine va_iast hx hb hK hP hD hS 8 0 rfl rfl g11 dX7_laySure_48 (fun H locs hP hD hS => ?_)
            have hP : va_P (dC, dI) vwCl (cX7 cy a (X7_s v) (X7_aside v) (X7_kept v) (X7_isKept v) (X7_saved v) (X7_savedMany v) (X7_text v) (X7_length v) (X7_thrown v) (X7_joint v) (X7_position v) (X7_isWrong v) z6_v_isHollow (upd z6_v_sure y6_1.toNatClampNeg (-1)) (X7_away v) (X7_digested v)) H := hP
            have hD : va_D A (cX7 cy a (X7_s v) (X7_aside v) (X7_kept v) (X7_isKept v) (X7_saved v) (X7_savedMany v) (X7_text v) (X7_length v) (X7_thrown v) (X7_joint v) (X7_position v) (X7_isWrong v) z6_v_isHollow (upd z6_v_sure y6_1.toNatClampNeg (-1)) (X7_away v) (X7_digested v)) := hD
            refine lv_iinc (v := (y6_1 + 1)) (lv' := [(1, .int (y6_1 + 1)), (0, .ref (a 0))]) hx hb dX7_laySure_49 hl (k := 1) rfl rfl (by decide) rfl (fun ls hl => ?_)
            refine lv_goto (tgt := 6) hx hb dX7_laySure_52 (by decide) ?_
            exact bk6 (y6_1 + 1) (upd z6_v_sure y6_1.toNatClampNeg (-1)) _ _ _ hq hP hD hS (lv_sub hl [1, 0] rfl)
    exact key _ y6_1 z6_v_sure H locs ls h0 (Nat.lt_succ_self _) hP hD hS hl
  refine lv_aload_n hx hb dX7_laySure_0 rfl (lv_at hl 0 rfl) ?_
  have hFc := xfree_same hS hAe0 (ws := (wX7 cy a v)) hD
  refine va_callv (va_runV (As := []) (rest := []) ⟨hx, hb, hml, hown, hts⟩ (c_X7_layHollow l dC dI cy a _ v _ hq) (cwV 0 hts gX7_laySure_X7_layHollow rfl rfl rfl (by decide +kernel) ⟨Nat.le_of_ble_eq_true rfl, Nat.le_of_ble_eq_true rfl⟩) ⟨xPre_blind, va_recv hK hP (ci := 7) (q0 := 0) rfl rfl, xPre_of hP hK hD⟩ rfl rfl hl.1 rfl (lv_room (Nat.le_of_ble_eq_true rfl)) dX7_laySure_1 ⟨Nat.le_of_ble_eq_true rfl, Nat.le_of_ble_eq_true rfl⟩) hS (fun q _ h => hFc q h) hFc (fun z1_v_isHollow t H locs ht hvm hq hB hz1 hk1 hS => ?_)
  obtain ⟨hP1, -, hD1⟩ := hB
  rw [ht] at hP1
  have hP : va_P (dC, dI) vwCl (cX7 cy a (X7_s v) (X7_aside v) (X7_kept v) (X7_isKept v) (X7_saved v) (X7_savedMany v) (X7_text v) (X7_length v) (X7_thrown v) (X7_joint v) (X7_position v) (X7_isWrong v) z1_v_isHollow (X7_sure v) (X7_away v) (X7_digested v)) H := hP1
  have hD : va_D A (cX7 cy a (X7_s v) (X7_aside v) (X7_kept v) (X7_isKept v) (X7_saved v) (X7_savedMany v) (X7_text v) (X7_length v) (X7_thrown v) (X7_joint v) (X7_position v) (X7_isWrong v) z1_v_isHollow (X7_sure v) (X7_away v) (X7_digested v)) := hD1.weaken (fun _ q _ h => hFc q.1 h)
  refine lv_iconst (v := 0) hx hb dX7_laySure_4 (by decide) ?_
  refine lv_istore_n (lv' := [(1, .int 0), (0, .ref (a 0))]) hx hb dX7_laySure_5 rfl hl (by decide) rfl (fun ls hl => ?_)
  exact J6 z1_v_isHollow 0 (X7_sure v) _ _ _ hq hP hD hS (lv_sub hl [1, 0] rfl)
def wp_X7_tunnelsWith_37 (v : V_X7) (x1 : Int32) (y4_2 : Int32) (y4_3 : Int32) (B4 : Int32 → Int32 → Prop) (k37_0 : Int32) (k37_1 : Int32) (Q : Int32 → Prop) : Prop :=
  wp_X7_endFrom v y4_3 (fun r41 =>
  B4 (k37_1 + k37_0) (r41 + 1))
def wb_X7_tunnelsWith_4 (v : V_X7) (x1 : Int32)  (y4_2 : Int32) (y4_3 : Int32) (B4 : Int32 → Int32 → Prop) (Q : Int32 → Prop) : Prop :=
  vp_in 7 1472 ∧ ((((X7_s v) (7 : Int32).toNatClampNeg) ≤ y4_3 → Q y4_2) ∧
  (¬ ((X7_s v) (7 : Int32).toNatClampNeg) ≤ y4_3 → wp_X7_endFrom v y4_3 (fun r21 =>
  wp_X7_find v x1 y4_3 r21 0 (fun r25 =>
  ((r25 = (-1) → wp_X7_tunnelsWith_37 v x1 y4_2 y4_3 B4 0 y4_2  Q) ∧
  (¬ r25 = (-1) → wp_X7_tunnelsWith_37 v x1 y4_2 y4_3 B4 1 y4_2  Q))))))
def wp_X7_tunnelsWith_4 (v : V_X7) (x1 : Int32)  (y4_2 : Int32) (y4_3 : Int32) (Q : Int32 → Prop) : Prop :=
  ∃ (I : Int32 → Int32 → Prop) (μ : Int32 → Int32 → Nat), I y4_2 y4_3 ∧ ∀ (s0 : Int32) (s1 : Int32), I s0 s1 → wb_X7_tunnelsWith_4 v x1  s0 s1 (fun t0 t1 => I t0 t1 ∧ μ t0 t1 < μ s0 s1) Q
def wp_X7_tunnelsWith (v : V_X7) (x1 : Int32) (Q : Int32 → Prop) : Prop :=
  wp_X7_tunnelsWith_4 v x1  0 0 Q
def q_X7_tunnelsWith (dC : Nat → ClassId) (dI : Nat → Nat → Nat) (cy : Nat → ClassId) (a : Nat → Nat) (v : V_X7) (x1 : Int32) (Q : Int32 → Prop) (A : Nat → Prop) : Array Value → State → Outcome → State → Prop := va_Qi (fun (r : Int32) (u : Unit) => Q r ) (fun (u : Unit) t => xAt dC dI cy A (wX7 cy a v) t) A
set_option maxHeartbeats 4000000 in
set_option maxRecDepth 100000 in
theorem c_X7_tunnelsWith (l : Launch) (dC : Nat → ClassId) (dI : Nat → Nat → Nat) (cy : Nat → ClassId) (a : Nat → Nat) (sz : Nat) (v : V_X7) (x1 : Int32) (Q : Int32 → Prop) (hq : wp_X7_tunnelsWith v x1 Q) : Met l yX7_tunnelsWith wsX7_tunnelsWith ({ frames := 2, cells := 0, slots := 0, locals := 47 } : Room) (va_Pc [.ref (a 0), .int x1] (xPre dC dI cy (wX7 cy a v) sz)) (q_X7_tunnelsWith dC dI cy a v x1 Q (va_A (wX7 cy a v) sz)) 0 0 (va_A (wX7 cy a v) sz) := by
  refine Met.ofW (cc := cX7_tunnelsWith) (maxL := 4) (ret := (some .int)) (by decide) rfl ?_
  intro p e s m args below meth c s₁ B hml hv
  obtain ⟨rfl, hsz, hP, hK, hD0⟩ := hv
  have hx := B.exec
  have hb := B.bytes
  have hr := B.returns
  have hts := atoms_spec (ws := wsX7_tunnelsWith) B.pre
  have hown : s.vm.findClass RX7 = some m.cls := findClass_of_methodNamed B.named
  have hlocks := B.notSynchronized
  subst hsz
  have hD := hD0.self (sz := s.heap.size)
  generalize hAe : va_A (wX7 cy a v) s.heap.size = A at hD ⊢
  have hAe0 : ∀ q : Nat, s.heap.size ≤ q → A q := fun q h => by rw [← hAe]; exact Or.inr h
  have hS : va_S A s.heap s.heap [] := va_S.rf
  have hl := lv_entry ([.ref (a 0), .int x1]) (n := 4) (Nat.le_of_ble_eq_true rfl)
  rw [lg_entry_eq]
  generalize (lg_sl ([.ref (a 0), .int x1]) ++ List.replicate (4 - (lg_sl ([.ref (a 0), .int x1])).length) Slot.unset).toArray = ls at hl ⊢
  have hl : lv_has ls 4 [(0, .ref (a 0)), (1, .int x1)] := hl
  have lk0 := hts (Cond.fieldLink RX7 7 "MolesLawnModel" "s" "[I") (List.mem_cons_of_mem _ (List.mem_append_left _ (List.mem_of_getElem? (i := 0) rfl)))
  have iK7 : ∀ w ∈ wsX70, w ∈ wsX7_tunnelsWith := fun _ h => (List.mem_cons_of_mem _ (List.mem_append_right _ h))
  unfold wp_X7_tunnelsWith at hq
  have J4 : ∀  (y4_2 : Int32) (y4_3 : Int32) (H : Heap) (locs : List Loc) (ls : Array Slot), wp_X7_tunnelsWith_4 v x1  y4_2 y4_3 Q → va_P (dC, dI) vwCl (wX7 cy a v) H → va_D A (wX7 cy a v) → va_S A s.heap H locs → lv_has ls 4 [(0, .ref (a 0)), (1, .int x1), (2, .int y4_2), (3, .int y4_3)] → W p l e (headSpec wsX7_tunnelsWith ({ frames := 2, cells := 0, slots := 0, locals := 47 } : Room)).room s m ([.ref (a 0), .int x1] : List Value).toArray below meth c H locs 0 0 (MQ below (q_X7_tunnelsWith dC dI cy a v x1 Q A) ([.ref (a 0), .int x1] : List Value).toArray s 0 0 A) (F0 m 4 ls []) := by
    intro  y4_2 y4_3 H locs ls hq hP hD hS hl
    obtain ⟨I4, μ4, h0, hs4⟩ := hq
    have key : ∀ (n : Nat) (y4_2 : Int32) (y4_3 : Int32) (H : Heap) (locs : List Loc) (ls : Array Slot), I4 y4_2 y4_3 → μ4 y4_2 y4_3 < n → va_P (dC, dI) vwCl (wX7 cy a v) H → va_D A (wX7 cy a v) → va_S A s.heap H locs → lv_has ls 4 [(0, .ref (a 0)), (1, .int x1), (2, .int y4_2), (3, .int y4_3)] → W p l e (headSpec wsX7_tunnelsWith ({ frames := 2, cells := 0, slots := 0, locals := 47 } : Room)).room s m ([.ref (a 0), .int x1] : List Value).toArray below meth c H locs 0 0 (MQ below (q_X7_tunnelsWith dC dI cy a v x1 Q A) ([.ref (a 0), .int x1] : List Value).toArray s 0 0 A) (F0 m 4 ls []) := by
      intro n
      induction n with
      | zero => intro y4_2 y4_3 H locs ls _ hm; exact absurd hm (Nat.not_lt_zero _)
      | succ n ih =>
        intro y4_2 y4_3 H locs ls hI hm hP hD hS hl
        have hq := hs4 y4_2 y4_3 hI
        generalize hB4 : (fun (t0 : Int32) (t1 : Int32) => I4 t0 t1 ∧ μ4 t0 t1 < μ4 y4_2 y4_3) = B4 at hq
        have bk4 : ∀ (y4_2 : Int32) (y4_3 : Int32) (H : Heap) (locs : List Loc) (ls : Array Slot), B4 y4_2 y4_3 → va_P (dC, dI) vwCl (wX7 cy a v) H → va_D A (wX7 cy a v) → va_S A s.heap H locs → lv_has ls 4 [(0, .ref (a 0)), (1, .int x1), (2, .int y4_2), (3, .int y4_3)] → W p l e (headSpec wsX7_tunnelsWith ({ frames := 2, cells := 0, slots := 0, locals := 47 } : Room)).room s m ([.ref (a 0), .int x1] : List Value).toArray below meth c H locs 0 0 (MQ below (q_X7_tunnelsWith dC dI cy a v x1 Q A) ([.ref (a 0), .int x1] : List Value).toArray s 0 0 A) (F0 m 4 ls []) := by
          intro y4_2 y4_3 H locs ls h
          rw [← hB4] at h
          exact ih y4_2 y4_3 H locs ls h.1 (Nat.lt_of_lt_of_le h.2 (Nat.le_of_lt_succ hm))
        unfold wb_X7_tunnelsWith_4 at hq
        have J37 : ∀ (k37_0 : Int32) (k37_1 : Int32) (H : Heap) (locs : List Loc) (ls : Array Slot), wp_X7_tunnelsWith_37 v x1 y4_2 y4_3 B4 k37_0 k37_1 Q → va_P (dC, dI) vwCl (wX7 cy a v) H → va_D A (wX7 cy a v) → va_S A s.heap H locs → lv_has ls 4 [(0, .ref (a 0)), (1, .int x1), (3, .int y4_3)] → W p l e (headSpec wsX7_tunnelsWith ({ frames := 2, cells := 0, slots := 0, locals := 47 } : Room)).room s m ([.ref (a 0), .int x1] : List Value).toArray below meth c H locs 0 0 (MQ below (q_X7_tunnelsWith dC dI cy a v x1 Q A) ([.ref (a 0), .int x1] : List Value).toArray s 0 0 A) (F0 m 37 ls [.int k37_0, .int k37_1]) := by
          intro k37_0 k37_1 H locs ls hq hP hD hS hl
          unfold wp_X7_tunnelsWith_37 at hq
          refine lv_iadd hx hb dX7_tunnelsWith_37 ?_
          refine lv_istore_n (lv' := [(2, .int (k37_1 + k37_0)), (0, .ref (a 0)), (1, .int x1), (3, .int y4_3)]) hx hb dX7_tunnelsWith_38 rfl hl (by decide) rfl (fun ls hl => ?_)
          refine lv_aload_n hx hb dX7_tunnelsWith_39 rfl (lv_at hl 1 rfl) ?_
          refine lv_iload_n hx hb dX7_tunnelsWith_40 rfl (lv_at hl 3 rfl) ?_
          have hFc := xfree_same hS hAe0 (ws := (wX7 cy a v)) hD
          refine va_calli (va_runV (As := [.int y4_3]) (rest := []) ⟨hx, hb, hml, hown, hts⟩ (c_X7_endFrom l dC dI cy a _ v y4_3 _ hq) (cwV 1 hts gX7_tunnelsWith_X7_endFrom rfl rfl rfl (by decide +kernel) ⟨Nat.le_of_ble_eq_true rfl, Nat.le_of_ble_eq_true rfl⟩) ⟨xPre_blind, va_recv hK hP (ci := 7) (q0 := 0) rfl rfl, xPre_of hP hK hD⟩ rfl rfl hl.1 rfl (lv_room (Nat.le_of_ble_eq_true rfl)) dX7_tunnelsWith_41 ⟨Nat.le_of_ble_eq_true rfl, Nat.le_of_ble_eq_true rfl⟩) hS (fun q _ h => hFc q h) hFc (fun r41 u9 t H locs ht hvm hq hB hz1 hk1 hS => ?_)
          obtain ⟨hP1, -, hD1⟩ := hB
          rw [ht] at hP1
          have hP : va_P (dC, dI) vwCl (wX7 cy a v) H := hP1
          have hD : va_D A (wX7 cy a v) := hD1.weaken (fun _ q _ h => hFc q.1 h)
          refine lv_iconst (v := 1) hx hb dX7_tunnelsWith_44 (by decide) ?_
          refine lv_iadd hx hb dX7_tunnelsWith_45 ?_
          refine lv_istore_n (lv' := [(3, .int (r41 + 1)), (2, .int (k37_1 + k37_0)), (0, .ref (a 0)), (1, .int x1)]) hx hb dX7_tunnelsWith_46 rfl hl (by decide) rfl (fun ls hl => ?_)
          refine lv_goto (tgt := 4) hx hb dX7_tunnelsWith_47 (by decide) ?_
          exact bk4 (k37_1 + k37_0) (r41 + 1) _ _ _ hq hP hD hS (lv_sub hl [2, 3, 1, 0] rfl)
        refine lv_iload_n hx hb dX7_tunnelsWith_4 rfl (lv_at hl 3 rfl) ?_
        refine lv_aload_n hx hb dX7_tunnelsWith_5 rfl (lv_at hl 0 rfl) ?_
        refine va_get (D := (dC, dI)) (ci := 7) (v := .ref (a 1)) (C := RX7) (T := TX7) (N := 16) hx hb hts iK7 hown hK hP 0 rfl rfl 0 (by decide) lk0 (fun _ h9 => h9) rfl dX7_tunnelsWith_6 ?_
        refine lv_bipush (v := 7) hx hb dX7_tunnelsWith_9 (by decide) ?_
        obtain ⟨g1, hq⟩ := hq
        refine va_iald hx hb hK hP 1 0 rfl rfl g1 dX7_tunnelsWith_11 ?_
        obtain ⟨hqA, hqB⟩ := hq
        refine lv_icmp_ge (tgt := 50) hx hb dX7_tunnelsWith_12 (by decide) (fun c3 => ?_) (fun c3 => ?_)
        · have hq := hqA c3
          refine lv_iload_n hx hb dX7_tunnelsWith_50 rfl (lv_at hl 2 rfl) ?_
          exact W.iret (v := y4_2) hx hb hr (fun t ht hW => ⟨⟨y4_2, (), rfl, hq, (xAt_of hP hK hD ht hW)⟩, hS.F ht⟩) hS.2.2 dX7_tunnelsWith_51
        · have hq := hqB c3
          refine lv_iload_n hx hb dX7_tunnelsWith_15 rfl (lv_at hl 2 rfl) ?_
          refine lv_aload_n hx hb dX7_tunnelsWith_16 rfl (lv_at hl 0 rfl) ?_
          refine lv_iload_n hx hb dX7_tunnelsWith_17 rfl (lv_at hl 1 rfl) ?_
          refine lv_iload_n hx hb dX7_tunnelsWith_18 rfl (lv_at hl 3 rfl) ?_
          refine lv_aload_n hx hb dX7_tunnelsWith_19 rfl (lv_at hl 0 rfl) ?_
          refine lv_iload_n hx hb dX7_tunnelsWith_20 rfl (lv_at hl 3 rfl) ?_
          have hFc := xfree_same hS hAe0 (ws := (wX7 cy a v)) hD
          refine va_calli (va_runV (As := [.int y4_3]) (rest := [.int y4_3, .int x1, .ref (a 0), .int y4_2]) ⟨hx, hb, hml, hown, hts⟩ (c_X7_endFrom l dC dI cy a _ v y4_3 _ hq) (cwV 1 hts gX7_tunnelsWith_X7_endFrom rfl rfl rfl (by decide +kernel) ⟨Nat.le_of_ble_eq_true rfl, Nat.le_of_ble_eq_true rfl⟩) ⟨xPre_blind, va_recv hK hP (ci := 7) (q0 := 0) rfl rfl, xPre_of hP hK hD⟩ rfl rfl hl.1 rfl (lv_room (Nat.le_of_ble_eq_true rfl)) dX7_tunnelsWith_21 ⟨Nat.le_of_ble_eq_true rfl, Nat.le_of_ble_eq_true rfl⟩) hS (fun q _ h => hFc q h) hFc (fun r21 u9 t H locs ht hvm hq hB hz1 hk1 hS => ?_)
          obtain ⟨hP1, -, hD1⟩ := hB
          rw [ht] at hP1
          have hP : va_P (dC, dI) vwCl (wX7 cy a v) H := hP1
          have hD : va_D A (wX7 cy a v) := hD1.weaken (fun _ q _ h => hFc q.1 h)
          refine lv_iconst (v := 0) hx hb dX7_tunnelsWith_24 (by decide) ?_
          have hFc := xfree_same hS hAe0 (ws := (wX7 cy a v)) hD
          refine va_calli (va_runV (As := [.int x1, .int y4_3, .int r21, .int 0]) (rest := [.int y4_2]) ⟨hx, hb, hml, hown, hts⟩ (c_X7_find l dC dI cy a _ v x1 y4_3 r21 0 _ hq) (cwV 4 hts gX7_tunnelsWith_X7_find rfl rfl rfl (by decide +kernel) ⟨Nat.le_of_ble_eq_true rfl, Nat.le_of_ble_eq_true rfl⟩) ⟨xPre_blind, va_recv hK hP (ci := 7) (q0 := 0) rfl rfl, xPre_of hP hK hD⟩ rfl rfl hl.1 rfl (lv_room (Nat.le_of_ble_eq_true rfl)) dX7_tunnelsWith_25 ⟨Nat.le_of_ble_eq_true rfl, Nat.le_of_ble_eq_true rfl⟩) hS (fun q _ h => hFc q h) hFc (fun r25 u9 t H locs ht hvm hq hB hz1 hk1 hS => ?_)
          obtain ⟨hP1, -, hD1⟩ := hB
          rw [ht] at hP1
          have hP : va_P (dC, dI) vwCl (wX7 cy a v) H := hP1
          have hD : va_D A (wX7 cy a v) := hD1.weaken (fun _ q _ h => hFc q.1 h)
          refine lv_iconst (v := (-1)) hx hb dX7_tunnelsWith_28 (by decide) ?_
          obtain ⟨hqA, hqB⟩ := hq
          refine lv_icmp_ne (tgt := 36) hx hb dX7_tunnelsWith_29 (by decide) (fun c2 => ?_) (fun c2 => ?_)
          · have hq := hqB c2
            refine lv_iconst (v := 1) hx hb dX7_tunnelsWith_36 (by decide) ?_
            exact J37 1 y4_2  _ _ _ hq hP hD hS (lv_sub hl [0, 1, 3] rfl)
          · have hq := hqA c2
            refine lv_iconst (v := 0) hx hb dX7_tunnelsWith_32 (by decide) ?_
            refine lv_goto (tgt := 37) hx hb dX7_tunnelsWith_33 (by decide) ?_
            exact J37 0 y4_2  _ _ _ hq hP hD hS (lv_sub hl [0, 1, 3] rfl)
    exact key _ y4_2 y4_3 H locs ls h0 (Nat.lt_succ_self _) hP hD hS hl
  refine lv_iconst (v := 0) hx hb dX7_tunnelsWith_0 (by decide) ?_
  refine lv_istore_n (lv' := [(2, .int 0), (0, .ref (a 0)), (1, .int x1)]) hx hb dX7_tunnelsWith_1 rfl hl (by decide) rfl (fun ls hl => ?_)
  refine lv_iconst (v := 0) hx hb dX7_tunnelsWith_2 (by decide) ?_
  refine lv_istore_n (lv' := [(3, .int 0), (2, .int 0), (0, .ref (a 0)), (1, .int x1)]) hx hb dX7_tunnelsWith_3 rfl hl (by decide) rfl (fun ls hl => ?_)
  exact J4  0 0 _ _ _ hq hP hD hS (lv_sub hl [2, 3, 1, 0] rfl)
def wb_X7_molesAt_4 (v : V_X7) (x1 : Int32)  (y4_2 : Int32) (y4_3 : Int32) (B4 : Int32 → Int32 → Prop) (Q : Int32 → Prop) : Prop :=
  vp_in 1 1472 ∧ ((((X7_s v) (1 : Int32).toNatClampNeg) ≤ y4_3 → Q y4_2) ∧
  (¬ ((X7_s v) (1 : Int32).toNatClampNeg) ≤ y4_3 → wp_X7_of y4_3 0 (fun r21 =>
  vp_in r21 1472 ∧ ((((X7_s v) r21.toNatClampNeg) = x1 → B4 (y4_2 + 1) (y4_3 + 1)) ∧
  (¬ ((X7_s v) r21.toNatClampNeg) = x1 → B4 (y4_2 + 0) (y4_3 + 1))))))
def wp_X7_molesAt_4 (v : V_X7) (x1 : Int32)  (y4_2 : Int32) (y4_3 : Int32) (Q : Int32 → Prop) : Prop :=
  ∃ (I : Int32 → Int32 → Prop) (μ : Int32 → Int32 → Nat), I y4_2 y4_3 ∧ ∀ (s0 : Int32) (s1 : Int32), I s0 s1 → wb_X7_molesAt_4 v x1  s0 s1 (fun t0 t1 => I t0 t1 ∧ μ t0 t1 < μ s0 s1) Q
def wp_X7_molesAt (v : V_X7) (x1 : Int32) (Q : Int32 → Prop) : Prop :=
  wp_X7_molesAt_4 v x1  0 0 Q
def q_X7_molesAt (dC : Nat → ClassId) (dI : Nat → Nat → Nat) (cy : Nat → ClassId) (a : Nat → Nat) (v : V_X7) (x1 : Int32) (Q : Int32 → Prop) (A : Nat → Prop) : Array Value → State → Outcome → State → Prop := va_Qi (fun (r : Int32) (u : Unit) => Q r ) (fun (u : Unit) t => xAt dC dI cy A (wX7 cy a v) t) A
set_option maxHeartbeats 4000000 in
set_option maxRecDepth 100000 in
theorem c_X7_molesAt (l : Launch) (dC : Nat → ClassId) (dI : Nat → Nat → Nat) (cy : Nat → ClassId) (a : Nat → Nat) (sz : Nat) (v : V_X7) (x1 : Int32) (Q : Int32 → Prop) (hq : wp_X7_molesAt v x1 Q) : Met l yX7_molesAt wsX7_molesAt ({ frames := 1, cells := 0, slots := 0, locals := 21 } : Room) (va_Pc [.ref (a 0), .int x1] (xPre dC dI cy (wX7 cy a v) sz)) (q_X7_molesAt dC dI cy a v x1 Q (va_A (wX7 cy a v) sz)) 0 0 (va_A (wX7 cy a v) sz) := by
  refine Met.ofW (cc := cX7_molesAt) (maxL := 4) (ret := (some .int)) (by decide) rfl ?_
  intro p e s m args below meth c s₁ B hml hv
  obtain ⟨rfl, hsz, hP, hK, hD0⟩ := hv
  have hx := B.exec
  have hb := B.bytes
  have hr := B.returns
  have hts := atoms_spec (ws := wsX7_molesAt) B.pre
  have hown : s.vm.findClass RX7 = some m.cls := findClass_of_methodNamed B.named
  have hlocks := B.notSynchronized
  subst hsz
  have hD := hD0.self (sz := s.heap.size)
  generalize hAe : va_A (wX7 cy a v) s.heap.size = A at hD ⊢
  have hAe0 : ∀ q : Nat, s.heap.size ≤ q → A q := fun q h => by rw [← hAe]; exact Or.inr h
  have hS : va_S A s.heap s.heap [] := va_S.rf
  have hl := lv_entry ([.ref (a 0), .int x1]) (n := 4) (Nat.le_of_ble_eq_true rfl)
  rw [lg_entry_eq]
  generalize (lg_sl ([.ref (a 0), .int x1]) ++ List.replicate (4 - (lg_sl ([.ref (a 0), .int x1])).length) Slot.unset).toArray = ls at hl ⊢
  have hl : lv_has ls 4 [(0, .ref (a 0)), (1, .int x1)] := hl
  have lk0 := hts (Cond.fieldLink RX7 7 "MolesLawnModel" "s" "[I") (List.mem_cons_of_mem _ (List.mem_append_left _ (List.mem_of_getElem? (i := 0) rfl)))
  have iK7 : ∀ w ∈ wsX70, w ∈ wsX7_molesAt := fun _ h => (List.mem_cons_of_mem _ (List.mem_append_right _ h))
  unfold wp_X7_molesAt at hq
  have J4 : ∀  (y4_2 : Int32) (y4_3 : Int32) (H : Heap) (locs : List Loc) (ls : Array Slot), wp_X7_molesAt_4 v x1  y4_2 y4_3 Q → va_P (dC, dI) vwCl (wX7 cy a v) H → va_D A (wX7 cy a v) → va_S A s.heap H locs → lv_has ls 4 [(0, .ref (a 0)), (1, .int x1), (2, .int y4_2), (3, .int y4_3)] → W p l e (headSpec wsX7_molesAt ({ frames := 1, cells := 0, slots := 0, locals := 21 } : Room)).room s m ([.ref (a 0), .int x1] : List Value).toArray below meth c H locs 0 0 (MQ below (q_X7_molesAt dC dI cy a v x1 Q A) ([.ref (a 0), .int x1] : List Value).toArray s 0 0 A) (F0 m 4 ls []) := by
    intro  y4_2 y4_3 H locs ls hq hP hD hS hl
    obtain ⟨I4, μ4, h0, hs4⟩ := hq
    have key : ∀ (n : Nat) (y4_2 : Int32) (y4_3 : Int32) (H : Heap) (locs : List Loc) (ls : Array Slot), I4 y4_2 y4_3 → μ4 y4_2 y4_3 < n → va_P (dC, dI) vwCl (wX7 cy a v) H → va_D A (wX7 cy a v) → va_S A s.heap H locs → lv_has ls 4 [(0, .ref (a 0)), (1, .int x1), (2, .int y4_2), (3, .int y4_3)] → W p l e (headSpec wsX7_molesAt ({ frames := 1, cells := 0, slots := 0, locals := 21 } : Room)).room s m ([.ref (a 0), .int x1] : List Value).toArray below meth c H locs 0 0 (MQ below (q_X7_molesAt dC dI cy a v x1 Q A) ([.ref (a 0), .int x1] : List Value).toArray s 0 0 A) (F0 m 4 ls []) := by
      intro n
      induction n with
      | zero => intro y4_2 y4_3 H locs ls _ hm; exact absurd hm (Nat.not_lt_zero _)
      | succ n ih =>
        intro y4_2 y4_3 H locs ls hI hm hP hD hS hl
        have hq := hs4 y4_2 y4_3 hI
        generalize hB4 : (fun (t0 : Int32) (t1 : Int32) => I4 t0 t1 ∧ μ4 t0 t1 < μ4 y4_2 y4_3) = B4 at hq
        have bk4 : ∀ (y4_2 : Int32) (y4_3 : Int32) (H : Heap) (locs : List Loc) (ls : Array Slot), B4 y4_2 y4_3 → va_P (dC, dI) vwCl (wX7 cy a v) H → va_D A (wX7 cy a v) → va_S A s.heap H locs → lv_has ls 4 [(0, .ref (a 0)), (1, .int x1), (2, .int y4_2), (3, .int y4_3)] → W p l e (headSpec wsX7_molesAt ({ frames := 1, cells := 0, slots := 0, locals := 21 } : Room)).room s m ([.ref (a 0), .int x1] : List Value).toArray below meth c H locs 0 0 (MQ below (q_X7_molesAt dC dI cy a v x1 Q A) ([.ref (a 0), .int x1] : List Value).toArray s 0 0 A) (F0 m 4 ls []) := by
          intro y4_2 y4_3 H locs ls h
          rw [← hB4] at h
          exact ih y4_2 y4_3 H locs ls h.1 (Nat.lt_of_lt_of_le h.2 (Nat.le_of_lt_succ hm))
        unfold wb_X7_molesAt_4 at hq
        refine lv_iload_n hx hb dX7_molesAt_4 rfl (lv_at hl 3 rfl) ?_
        refine lv_aload_n hx hb dX7_molesAt_5 rfl (lv_at hl 0 rfl) ?_
        refine va_get (D := (dC, dI)) (ci := 7) (v := .ref (a 1)) (C := RX7) (T := TX7) (N := 16) hx hb hts iK7 hown hK hP 0 rfl rfl 0 (by decide) lk0 (fun _ h9 => h9) rfl dX7_molesAt_6 ?_
        refine lv_iconst (v := 1) hx hb dX7_molesAt_9 (by decide) ?_
        obtain ⟨g1, hq⟩ := hq
        refine va_iald hx hb hK hP 1 0 rfl rfl g1 dX7_molesAt_10 ?_
        obtain ⟨hqA, hqB⟩ := hq
        refine lv_icmp_ge (tgt := 42) hx hb dX7_molesAt_11 (by decide) (fun c4 => ?_) (fun c4 => ?_)
        · have hq := hqA c4
          refine lv_iload_n hx hb dX7_molesAt_42 rfl (lv_at hl 2 rfl) ?_
          exact W.iret (v := y4_2) hx hb hr (fun t ht hW => ⟨⟨y4_2, (), rfl, hq, (xAt_of hP hK hD ht hW)⟩, hS.F ht⟩) hS.2.2 dX7_molesAt_43
        · have hq := hqB c4
          refine lv_iload_n hx hb dX7_molesAt_14 rfl (lv_at hl 2 rfl) ?_
          refine lv_aload_n hx hb dX7_molesAt_15 rfl (lv_at hl 0 rfl) ?_
          refine va_get (D := (dC, dI)) (ci := 7) (v := .ref (a 1)) (C := RX7) (T := TX7) (N := 16) hx hb hts iK7 hown hK hP 0 rfl rfl 0 (by decide) lk0 (fun _ h9 => h9) rfl dX7_molesAt_16 ?_
          refine lv_iload_n hx hb dX7_molesAt_19 rfl (lv_at hl 3 rfl) ?_
          refine lv_iconst (v := 0) hx hb dX7_molesAt_20 (by decide) ?_
          have hFc := xfree_none hS hAe0
          refine va_calli (va_runS (As := [.int y4_3, .int 0]) (rest := [.ref (a 1), .int y4_2]) ⟨hx, hb, hml, hown, hts⟩ (c_X7_of l dC dI cy  _ y4_3 0 _ hq) (va_cwS 2 hts gX7_molesAt_X7_of rfl rfl rfl (by decide +kernel) ⟨Nat.le_of_ble_eq_true rfl, Nat.le_of_ble_eq_true rfl⟩) ⟨xPre_blind, xPre_of xP_nil hK (xD_nil (A := A))⟩ rfl rfl hl.1 rfl (lv_room (Nat.le_of_ble_eq_true rfl)) dX7_molesAt_21 ⟨Nat.le_of_ble_eq_true rfl, Nat.le_of_ble_eq_true rfl⟩) hS (fun q _ h => hFc q h) hFc (fun r21 u9 t H locs ht hvm hq hB hz1 hk1 hS => ?_)
          have hP := xj_none hP hk1
          obtain ⟨g2, hq⟩ := hq
          refine va_iald hx hb hK hP 1 0 rfl rfl g2 dX7_molesAt_24 ?_
          refine lv_iload_n hx hb dX7_molesAt_25 rfl (lv_at hl 1 rfl) ?_
          obtain ⟨hqA, hqB⟩ := hq
          refine lv_icmp_ne (tgt := 33) hx hb dX7_molesAt_26 (by decide) (fun c3 => ?_) (fun c3 => ?_)
          · have hq := hqB c3
            refine lv_iconst (v := 0) hx hb dX7_molesAt_33 (by decide) ?_
            refine lv_iadd hx hb dX7_molesAt_34 ?_
            refine lv_istore_n (lv' := [(2, .int (y4_2 + 0)), (0, .ref (a 0)), (1, .int x1), (3, .int y4_3)]) hx hb dX7_molesAt_35 rfl hl (by decide) rfl (fun ls hl => ?_)
            refine lv_iinc (v := (y4_3 + 1)) (lv' := [(3, .int (y4_3 + 1)), (2, .int (y4_2 + 0)), (0, .ref (a 0)), (1, .int x1)]) hx hb dX7_molesAt_36 hl (k := 3) rfl rfl (by decide) rfl (fun ls hl => ?_)
            refine lv_goto (tgt := 4) hx hb dX7_molesAt_39 (by decide) ?_
            exact bk4 (y4_2 + 0) (y4_3 + 1) _ _ _ hq hP hD hS (lv_sub hl [2, 3, 1, 0] rfl)
          · have hq := hqA c3
            refine lv_iconst (v := 1) hx hb dX7_molesAt_29 (by decide) ?_
            refine lv_goto (tgt := 34) hx hb dX7_molesAt_30 (by decide) ?_
            refine lv_iadd hx hb dX7_molesAt_34 ?_
            refine lv_istore_n (lv' := [(2, .int (y4_2 + 1)), (0, .ref (a 0)), (1, .int x1), (3, .int y4_3)]) hx hb dX7_molesAt_35 rfl hl (by decide) rfl (fun ls hl => ?_)
            refine lv_iinc (v := (y4_3 + 1)) (lv' := [(3, .int (y4_3 + 1)), (2, .int (y4_2 + 1)), (0, .ref (a 0)), (1, .int x1)]) hx hb dX7_molesAt_36 hl (k := 3) rfl rfl (by decide) rfl (fun ls hl => ?_)
            refine lv_goto (tgt := 4) hx hb dX7_molesAt_39 (by decide) ?_
            exact bk4 (y4_2 + 1) (y4_3 + 1) _ _ _ hq hP hD hS (lv_sub hl [2, 3, 1, 0] rfl)
    exact key _ y4_2 y4_3 H locs ls h0 (Nat.lt_succ_self _) hP hD hS hl
  refine lv_iconst (v := 0) hx hb dX7_molesAt_0 (by decide) ?_
  refine lv_istore_n (lv' := [(2, .int 0), (0, .ref (a 0)), (1, .int x1)]) hx hb dX7_molesAt_1 rfl hl (by decide) rfl (fun ls hl => ?_)
  refine lv_iconst (v := 0) hx hb dX7_molesAt_2 (by decide) ?_
  refine lv_istore_n (lv' := [(3, .int 0), (2, .int 0), (0, .ref (a 0)), (1, .int x1)]) hx hb dX7_molesAt_3 rfl hl (by decide) rfl (fun ls hl => ?_)
  exact J4  0 0 _ _ _ hq hP hD hS (lv_sub hl [2, 3, 1, 0] rfl)
def wp_X7_toldOfTuft (v : V_X7) (x1 : Int32) (x2 : Int32) (Q : Int32 → (Nat → Int32) → (Nat → Int32) → Prop) : Prop :=
  ((x2 = 0 → vp_in (8 + x1) 1472 ∧ Q ((X7_s v) (8 + x1).toNatClampNeg) (X7_isHollow v) (X7_sure v)) ∧
  (¬ x2 = 0 → ((x2 = 1 → vp_in (72 + x1) 1472 ∧ Q ((X7_s v) (72 + x1).toNatClampNeg) (X7_isHollow v) (X7_sure v)) ∧
  (¬ x2 = 1 → ((x2 = 2 → vp_in (136 + x1) 1472 ∧ Q ((X7_s v) (136 + x1).toNatClampNeg) (X7_isHollow v) (X7_sure v)) ∧
  (¬ x2 = 2 → ((x2 = 3 → wp_X7_layHollow v (fun z80_v_isHollow =>
  vp_in x1 64 ∧ (((z80_v_isHollow x1.toNatClampNeg) = 0 → Q 0 z80_v_isHollow (X7_sure v)) ∧
  (¬ (z80_v_isHollow x1.toNatClampNeg) = 0 → Q 1 z80_v_isHollow (X7_sure v))))) ∧
  (¬ x2 = 3 → ((x2 = 4 → wp_X7_layHollow v (fun z99_v_isHollow =>
  wp_X7_numberOf (X7_s12 v z99_v_isHollow) x1 (fun r104 =>
  Q r104 z99_v_isHollow (X7_sure v)))) ∧
  (¬ x2 = 4 → ((x2 = 5 → vp_in (200 + x1) 1472 ∧ Q ((X7_s v) (200 + x1).toNatClampNeg) (X7_isHollow v) (X7_sure v)) ∧
  (¬ x2 = 5 → ((x2 = 6 → wp_X7_laySure v (fun z120_v_isHollow z120_v_sure =>
  vp_in x1 64 ∧ Q (z120_v_sure x1.toNatClampNeg) z120_v_isHollow z120_v_sure)) ∧
  (¬ x2 = 6 → ((x2 = 7 → wp_X7_tunnelsWith v x1 (fun r132 =>
  Q r132 (X7_isHollow v) (X7_sure v))) ∧
  (¬ x2 = 7 → wp_X7_molesAt v x1 (fun r138 =>
  Q r138 (X7_isHollow v) (X7_sure v))))))))))))))))))
def q_X7_toldOfTuft (dC : Nat → ClassId) (dI : Nat → Nat → Nat) (cy : Nat → ClassId) (a : Nat → Nat) (v : V_X7) (x1 : Int32) (x2 : Int32) (Q : Int32 → (Nat → Int32) → (Nat → Int32) → Prop) (A : Nat → Prop) : Array Value → State → Outcome → State → Prop := va_Qi (fun (r : Int32) (u : (Nat → Int32) × (Nat → Int32)) => Q r u.1 u.2) (fun (u : (Nat → Int32) × (Nat → Int32)) t => xAt dC dI cy A (cX7 cy a (X7_s v) (X7_aside v) (X7_kept v) (X7_isKept v) (X7_saved v) (X7_savedMany v) (X7_text v) (X7_length v) (X7_thrown v) (X7_joint v) (X7_position v) (X7_isWrong v) u.1 u.2 (X7_away v) (X7_digested v)) t) A
set_option maxHeartbeats 4000000 in
set_option maxRecDepth 100000 in
theorem c_X7_toldOfTuft (l : Launch) (dC : Nat → ClassId) (dI : Nat → Nat → Nat) (cy : Nat → ClassId) (a : Nat → Nat) (sz : Nat) (v : V_X7) (x1 : Int32) (x2 : Int32) (Q : Int32 → (Nat → Int32) → (Nat → Int32) → Prop) (hq : wp_X7_toldOfTuft v x1 x2 Q) : Met l yX7_toldOfTuft wsX7_toldOfTuft ({ frames := 5, cells := 0, slots := 0, locals := 115 } : Room) (va_Pc [.ref (a 0), .int x1, .int x2] (xPre dC dI cy (wX7 cy a v) sz)) (q_X7_toldOfTuft dC dI cy a v x1 x2 Q (va_A (wX7 cy a v) sz)) 0 0 (va_A (wX7 cy a v) sz) := by
  refine Met.ofW (cc := cX7_toldOfTuft) (maxL := 3) (ret := (some .int)) (by decide) rfl ?_
  intro p e s m args below meth c s₁ B hml hv
  obtain ⟨rfl, hsz, hP, hK, hD0⟩ := hv
  have hx := B.exec
  have hb := B.bytes
  have hr := B.returns
  have hts := atoms_spec (ws := wsX7_toldOfTuft) B.pre
  have hown : s.vm.findClass RX7 = some m.cls := findClass_of_methodNamed B.named
  have hlocks := B.notSynchronized
  subst hsz
  have hD := hD0.self (sz := s.heap.size)
  generalize hAe : va_A (wX7 cy a v) s.heap.size = A at hD ⊢
  have hAe0 : ∀ q : Nat, s.heap.size ≤ q → A q := fun q h => by rw [← hAe]; exact Or.inr h
  have hS : va_S A s.heap s.heap [] := va_S.rf
  have hl := lv_entry ([.ref (a 0), .int x1, .int x2]) (n := 3) (Nat.le_of_ble_eq_true rfl)
  rw [lg_entry_eq]
  generalize (lg_sl ([.ref (a 0), .int x1, .int x2]) ++ List.replicate (3 - (lg_sl ([.ref (a 0), .int x1, .int x2])).length) Slot.unset).toArray = ls at hl ⊢
  have hl : lv_has ls 3 [(0, .ref (a 0)), (1, .int x1), (2, .int x2)] := hl
  have lk0 := hts (Cond.fieldLink RX7 7 "MolesLawnModel" "s" "[I") (List.mem_cons_of_mem _ (List.mem_append_left _ (List.mem_append_left _ (List.mem_of_getElem? (i := 0) rfl))))
  have lk1 := hts (Cond.fieldLink RX7 28 "MolesLawnModel" "isHollow" "[Z") (List.mem_cons_of_mem _ (List.mem_append_left _ (List.mem_append_left _ (List.mem_of_getElem? (i := 1) rfl))))
  have lk2 := hts (Cond.fieldLink RX7 32 "MolesLawnModel" "sure" "[I") (List.mem_cons_of_mem _ (List.mem_append_left _ (List.mem_append_left _ (List.mem_of_getElem? (i := 2) rfl))))
  have iK7 : ∀ w ∈ wsX70, w ∈ wsX7_toldOfTuft := fun _ h => (List.mem_cons_of_mem _ (List.mem_append_right _ h))
  unfold wp_X7_toldOfTuft at hq
  refine lv_iload_n hx hb dX7_toldOfTuft_0 rfl (lv_at hl 2 rfl) ?_
  obtain ⟨hqA, hqB⟩ := hq
  by_cases n0 : x2 = 0
  · have hq := hqA n0
    refine lv_tableIn (tgt := 48) (off := 47) hx hb dX7_toldOfTuft_1 (by rw [n0]; decide) (by rw [n0]; decide) (by rw [n0]; decide) (by decide) ?_
    refine lv_aload_n hx hb dX7_toldOfTuft_48 rfl (lv_at hl 0 rfl) ?_
    refine va_get (D := (dC, dI)) (ci := 7) (v := .ref (a 1)) (C := RX7) (T := TX7) (N := 16) hx hb hts iK7 hown hK hP 0 rfl rfl 0 (by decide) lk0 (fun _ h9 => h9) rfl dX7_toldOfTuft_49 ?_
    refine lv_bipush (v := 8) hx hb dX7_toldOfTuft_52 (by decide) ?_
    refine lv_iload_n hx hb dX7_toldOfTuft_54 rfl (lv_at hl 1 rfl) ?_
    refine lv_iadd hx hb dX7_toldOfTuft_55 ?_
    obtain ⟨g1, hq⟩ := hq
    refine va_iald hx hb hK hP 1 0 rfl rfl g1 dX7_toldOfTuft_56 ?_
    exact W.iret (v := ((X7_s v) (8 + x1).toNatClampNeg)) hx hb hr (fun t ht hW => ⟨⟨((X7_s v) (8 + x1).toNatClampNeg), ((X7_isHollow v), (X7_sure v)), rfl, hq, (xAt_of hP hK hD ht hW)⟩, hS.F ht⟩) hS.2.2 dX7_toldOfTuft_57
  · have hq := hqB n0
    obtain ⟨hqA, hqB⟩ := hq
    by_cases n1 : x2 = 1
    · have hq := hqA n1
      refine lv_tableIn (tgt := 58) (off := 57) hx hb dX7_toldOfTuft_1 (by rw [n1]; decide) (by rw [n1]; decide) (by rw [n1]; decide) (by decide) ?_
      refine lv_aload_n hx hb dX7_toldOfTuft_58 rfl (lv_at hl 0 rfl) ?_
      refine va_get (D := (dC, dI)) (ci := 7) (v := .ref (a 1)) (C := RX7) (T := TX7) (N := 16) hx hb hts iK7 hown hK hP 0 rfl rfl 0 (by decide) lk0 (fun _ h9 => h9) rfl dX7_toldOfTuft_59 ?_
      refine lv_bipush (v := 72) hx hb dX7_toldOfTuft_62 (by decide) ?_
      refine lv_iload_n hx hb dX7_toldOfTuft_64 rfl (lv_at hl 1 rfl) ?_
      refine lv_iadd hx hb dX7_toldOfTuft_65 ?_
      obtain ⟨g2, hq⟩ := hq
      refine va_iald hx hb hK hP 1 0 rfl rfl g2 dX7_toldOfTuft_66 ?_
      exact W.iret (v := ((X7_s v) (72 + x1).toNatClampNeg)) hx hb hr (fun t ht hW => ⟨⟨((X7_s v) (72 + x1).toNatClampNeg), ((X7_isHollow v), (X7_sure v)), rfl, hq, (xAt_of hP hK hD ht hW)⟩, hS.F ht⟩) hS.2.2 dX7_toldOfTuft_67
    · have hq := hqB n1
      obtain ⟨hqA, hqB⟩ := hq
      by_cases n2 : x2 = 2
      · have hq := hqA n2
        refine lv_tableIn (tgt := 68) (off := 67) hx hb dX7_toldOfTuft_1 (by rw [n2]; decide) (by rw [n2]; decide) (by rw [n2]; decide) (by decide) ?_
        refine lv_aload_n hx hb dX7_toldOfTuft_68 rfl (lv_at hl 0 rfl) ?_
        refine va_get (D := (dC, dI)) (ci := 7) (v := .ref (a 1)) (C := RX7) (T := TX7) (N := 16) hx hb hts iK7 hown hK hP 0 rfl rfl 0 (by decide) lk0 (fun _ h9 => h9) rfl dX7_toldOfTuft_69 ?_
        refine lv_sipush (v := 136) hx hb dX7_toldOfTuft_72 (by decide) ?_
        refine lv_iload_n hx hb dX7_toldOfTuft_75 rfl (lv_at hl 1 rfl) ?_
        refine lv_iadd hx hb dX7_toldOfTuft_76 ?_
        obtain ⟨g3, hq⟩ := hq
        refine va_iald hx hb hK hP 1 0 rfl rfl g3 dX7_toldOfTuft_77 ?_
        exact W.iret (v := ((X7_s v) (136 + x1).toNatClampNeg)) hx hb hr (fun t ht hW => ⟨⟨((X7_s v) (136 + x1).toNatClampNeg), ((X7_isHollow v), (X7_sure v)), rfl, hq, (xAt_of hP hK hD ht hW)⟩, hS.F ht⟩) hS.2.2 dX7_toldOfTuft_78
      · have hq := hqB n2
        obtain ⟨hqA, hqB⟩ := hq
        by_cases n3 : x2 = 3
        · have hq := hqA n3
          refine lv_tableIn (tgt := 79) (off := 78) hx hb dX7_toldOfTuft_1 (by rw [n3]; decide) (by rw [n3]; decide) (by rw [n3]; decide) (by decide) ?_
          refine lv_aload_n hx hb dX7_toldOfTuft_79 rfl (lv_at hl 0 rfl) ?_
          have hFc := xfree_same hS hAe0 (ws := (wX7 cy a v)) hD
          refine va_callv (va_runV (As := []) (rest := []) ⟨hx, hb, hml, hown, hts⟩ (c_X7_layHollow l dC dI cy a _ v _ hq) (cwV 0 hts gX7_toldOfTuft_X7_layHollow rfl rfl rfl (by decide +kernel) ⟨Nat.le_of_ble_eq_true rfl, Nat.le_of_ble_eq_true rfl⟩) ⟨xPre_blind, va_recv hK hP (ci := 7) (q0 := 0) rfl rfl, xPre_of hP hK hD⟩ rfl rfl hl.1 rfl (lv_room (Nat.le_of_ble_eq_true rfl)) dX7_toldOfTuft_80 ⟨Nat.le_of_ble_eq_true rfl, Nat.le_of_ble_eq_true rfl⟩) hS (fun q _ h => hFc q h) hFc (fun z80_v_isHollow t H locs ht hvm hq hB hz1 hk1 hS => ?_)
          obtain ⟨hP1, -, hD1⟩ := hB
          rw [ht] at hP1
          have hP : va_P (dC, dI) vwCl (cX7 cy a (X7_s v) (X7_aside v) (X7_kept v) (X7_isKept v) (X7_saved v) (X7_savedMany v) (X7_text v) (X7_length v) (X7_thrown v) (X7_joint v) (X7_position v) (X7_isWrong v) z80_v_isHollow (X7_sure v) (X7_away v) (X7_digested v)) H := hP1
          have hD : va_D A (cX7 cy a (X7_s v) (X7_aside v) (X7_kept v) (X7_isKept v) (X7_saved v) (X7_savedMany v) (X7_text v) (X7_length v) (X7_thrown v) (X7_joint v) (X7_position v) (X7_isWrong v) z80_v_isHollow (X7_sure v) (X7_away v) (X7_digested v)) := hD1.weaken (fun _ q _ h => hFc q.1 h)
          refine lv_aload_n hx hb dX7_toldOfTuft_83 rfl (lv_at hl 0 rfl) ?_
          refine va_get (D := (dC, dI)) (ci := 7) (v := .ref (a 7)) (C := RX7) (T := TX7) (N := 16) hx hb hts iK7 hown hK hP 0 rfl rfl 12 (by decide) lk1 (fun _ h9 => h9) rfl dX7_toldOfTuft_84 ?_
          refine lv_iload_n hx hb dX7_toldOfTuft_87 rfl (lv_at hl 1 rfl) ?_
          obtain ⟨g4, hq⟩ := hq
          refine va_zald hx hb hK hP 7 1 rfl rfl g4 dX7_toldOfTuft_88 ?_
          obtain ⟨hqA, hqB⟩ := hq
          refine lv_if_eq (tgt := 96) hx hb dX7_toldOfTuft_89 (by decide) (fun c5 => ?_) (fun c5 => ?_)
          · have hq := hqA c5
            refine lv_iconst (v := 0) hx hb dX7_toldOfTuft_96 (by decide) ?_
            exact W.iret (v := 0) hx hb hr (fun t ht hW => ⟨⟨0, (z80_v_isHollow, (X7_sure v)), rfl, hq, (xAt_of hP hK hD ht hW)⟩, hS.F ht⟩) hS.2.2 dX7_toldOfTuft_97
          · have hq := hqB c5
            refine lv_iconst (v := 1) hx hb dX7_toldOfTuft_92 (by decide) ?_
            refine lv_goto (tgt := 97) hx hb dX7_toldOfTuft_93 (by decide) ?_
            exact W.iret (v := 1) hx hb hr (fun t ht hW => ⟨⟨1, (z80_v_isHollow, (X7_sure v)), rfl, hq, (xAt_of hP hK hD ht hW)⟩, hS.F ht⟩) hS.2.2 dX7_toldOfTuft_97
        · have hq := hqB n3
          obtain ⟨hqA, hqB⟩ := hq
          by_cases n4 : x2 = 4
          · have hq := hqA n4
            refine lv_tableIn (tgt := 98) (off := 97) hx hb dX7_toldOfTuft_1 (by rw [n4]; decide) (by rw [n4]; decide) (by rw [n4]; decide) (by decide) ?_
            refine lv_aload_n hx hb dX7_toldOfTuft_98 rfl (lv_at hl 0 rfl) ?_
            have hFc := xfree_same hS hAe0 (ws := (wX7 cy a v)) hD
            refine va_callv (va_runV (As := []) (rest := []) ⟨hx, hb, hml, hown, hts⟩ (c_X7_layHollow l dC dI cy a _ v _ hq) (cwV 0 hts gX7_toldOfTuft_X7_layHollow rfl rfl rfl (by decide +kernel) ⟨Nat.le_of_ble_eq_true rfl, Nat.le_of_ble_eq_true rfl⟩) ⟨xPre_blind, va_recv hK hP (ci := 7) (q0 := 0) rfl rfl, xPre_of hP hK hD⟩ rfl rfl hl.1 rfl (lv_room (Nat.le_of_ble_eq_true rfl)) dX7_toldOfTuft_99 ⟨Nat.le_of_ble_eq_true rfl, Nat.le_of_ble_eq_true rfl⟩) hS (fun q _ h => hFc q h) hFc (fun z99_v_isHollow t H locs ht hvm hq hB hz1 hk1 hS => ?_)
            obtain ⟨hP1, -, hD1⟩ := hB
            rw [ht] at hP1
            have hP : va_P (dC, dI) vwCl (cX7 cy a (X7_s v) (X7_aside v) (X7_kept v) (X7_isKept v) (X7_saved v) (X7_savedMany v) (X7_text v) (X7_length v) (X7_thrown v) (X7_joint v) (X7_position v) (X7_isWrong v) z99_v_isHollow (X7_sure v) (X7_away v) (X7_digested v)) H := hP1
            have hD : va_D A (cX7 cy a (X7_s v) (X7_aside v) (X7_kept v) (X7_isKept v) (X7_saved v) (X7_savedMany v) (X7_text v) (X7_length v) (X7_thrown v) (X7_joint v) (X7_position v) (X7_isWrong v) z99_v_isHollow (X7_sure v) (X7_away v) (X7_digested v)) := hD1.weaken (fun _ q _ h => hFc q.1 h)
            refine lv_aload_n hx hb dX7_toldOfTuft_102 rfl (lv_at hl 0 rfl) ?_
            refine lv_iload_n hx hb dX7_toldOfTuft_103 rfl (lv_at hl 1 rfl) ?_
            have hFc := xfree_same hS hAe0 (ws := (cX7 cy a (X7_s v) (X7_aside v) (X7_kept v) (X7_isKept v) (X7_saved v) (X7_savedMany v) (X7_text v) (X7_length v) (X7_thrown v) (X7_joint v) (X7_position v) (X7_isWrong v) z99_v_isHollow (X7_sure v) (X7_away v) (X7_digested v))) hD
            refine va_calli (va_runV (As := [.int x1]) (rest := []) ⟨hx, hb, hml, hown, hts⟩ (c_X7_numberOf l dC dI cy a _ (X7_s12 v z99_v_isHollow) x1 _ hq) (cwV 1 hts gX7_toldOfTuft_X7_numberOf rfl rfl rfl (by decide +kernel) ⟨Nat.le_of_ble_eq_true rfl, Nat.le_of_ble_eq_true rfl⟩) ⟨xPre_blind, va_recv hK hP (ci := 7) (q0 := 0) rfl rfl, xPre_of hP hK hD⟩ rfl rfl hl.1 rfl (lv_room (Nat.le_of_ble_eq_true rfl)) dX7_toldOfTuft_104 ⟨Nat.le_of_ble_eq_true rfl, Nat.le_of_ble_eq_true rfl⟩) hS (fun q _ h => hFc q h) hFc (fun r104 u9 t H locs ht hvm hq hB hz1 hk1 hS => ?_)
            obtain ⟨hP1, -, hD1⟩ := hB
            rw [ht] at hP1
            have hP : va_P (dC, dI) vwCl (cX7 cy a (X7_s v) (X7_aside v) (X7_kept v) (X7_isKept v) (X7_saved v) (X7_savedMany v) (X7_text v) (X7_length v) (X7_thrown v) (X7_joint v) (X7_position v) (X7_isWrong v) z99_v_isHollow (X7_sure v) (X7_away v) (X7_digested v)) H := hP1
            have hD : va_D A (cX7 cy a (X7_s v) (X7_aside v) (X7_kept v) (X7_isKept v) (X7_saved v) (X7_savedMany v) (X7_text v) (X7_length v) (X7_thrown v) (X7_joint v) (X7_position v) (X7_isWrong v) z99_v_isHollow (X7_sure v) (X7_away v) (X7_digested v)) := hD1.weaken (fun _ q _ h => hFc q.1 h)
            exact W.iret (v := r104) hx hb hr (fun t ht hW => ⟨⟨r104, (z99_v_isHollow, (X7_sure v)), rfl, hq, (xAt_of hP hK hD ht hW)⟩, hS.F ht⟩) hS.2.2 dX7_toldOfTuft_107
          · have hq := hqB n4
            obtain ⟨hqA, hqB⟩ := hq
            by_cases n5 : x2 = 5
            · have hq := hqA n5
              refine lv_tableIn (tgt := 108) (off := 107) hx hb dX7_toldOfTuft_1 (by rw [n5]; decide) (by rw [n5]; decide) (by rw [n5]; decide) (by decide) ?_
              refine lv_aload_n hx hb dX7_toldOfTuft_108 rfl (lv_at hl 0 rfl) ?_
              refine va_get (D := (dC, dI)) (ci := 7) (v := .ref (a 1)) (C := RX7) (T := TX7) (N := 16) hx hb hts iK7 hown hK hP 0 rfl rfl 0 (by decide) lk0 (fun _ h9 => h9) rfl dX7_toldOfTuft_109 ?_
              refine lv_sipush (v := 200) hx hb dX7_toldOfTuft_112 (by decide) ?_
              refine lv_iload_n hx hb dX7_toldOfTuft_115 rfl (lv_at hl 1 rfl) ?_
              refine lv_iadd hx hb dX7_toldOfTuft_116 ?_
              obtain ⟨g6, hq⟩ := hq
              refine va_iald hx hb hK hP 1 0 rfl rfl g6 dX7_toldOfTuft_117 ?_
              exact W.iret (v := ((X7_s v) (200 + x1).toNatClampNeg)) hx hb hr (fun t ht hW => ⟨⟨((X7_s v) (200 + x1).toNatClampNeg), ((X7_isHollow v), (X7_sure v)), rfl, hq, (xAt_of hP hK hD ht hW)⟩, hS.F ht⟩) hS.2.2 dX7_toldOfTuft_118
            · have hq := hqB n5
              obtain ⟨hqA, hqB⟩ := hq
              by_cases n6 : x2 = 6
              · have hq := hqA n6
                refine lv_tableIn (tgt := 119) (off := 118) hx hb dX7_toldOfTuft_1 (by rw [n6]; decide) (by rw [n6]; decide) (by rw [n6]; decide) (by decide) ?_
                refine lv_aload_n hx hb dX7_toldOfTuft_119 rfl (lv_at hl 0 rfl) ?_
                have hFc := xfree_same hS hAe0 (ws := (wX7 cy a v)) hD
                refine va_callv (va_runV (As := []) (rest := []) ⟨hx, hb, hml, hown, hts⟩ (c_X7_laySure l dC dI cy a _ v _ hq) (cwV 0 hts gX7_toldOfTuft_X7_laySure rfl rfl rfl (by decide +kernel) ⟨Nat.le_of_ble_eq_true rfl, Nat.le_of_ble_eq_true rfl⟩) ⟨xPre_blind, va_recv hK hP (ci := 7) (q0 := 0) rfl rfl, xPre_of hP hK hD⟩ rfl rfl hl.1 rfl (lv_room (Nat.le_of_ble_eq_true rfl)) dX7_toldOfTuft_120 ⟨Nat.le_of_ble_eq_true rfl, Nat.le_of_ble_eq_true rfl⟩) hS (fun q _ h => hFc q h) hFc (fun u9 t H locs ht hvm hq hB hz1 hk1 hS => ?_)
                obtain ⟨z120_v_isHollow, z120_v_sure⟩ := u9
                obtain ⟨hP1, -, hD1⟩ := hB
                rw [ht] at hP1
                have hP : va_P (dC, dI) vwCl (cX7 cy a (X7_s v) (X7_aside v) (X7_kept v) (X7_isKept v) (X7_saved v) (X7_savedMany v) (X7_text v) (X7_length v) (X7_thrown v) (X7_joint v) (X7_position v) (X7_isWrong v) z120_v_isHollow z120_v_sure (X7_away v) (X7_digested v)) H := hP1
                have hD : va_D A (cX7 cy a (X7_s v) (X7_aside v) (X7_kept v) (X7_isKept v) (X7_saved v) (X7_savedMany v) (X7_text v) (X7_length v) (X7_thrown v) (X7_joint v) (X7_position v) (X7_isWrong v) z120_v_isHollow z120_v_sure (X7_away v) (X7_digested v)) := hD1.weaken (fun _ q _ h => hFc q.1 h)
                refine lv_aload_n hx hb dX7_toldOfTuft_123 rfl (lv_at hl 0 rfl) ?_
                refine va_get (D := (dC, dI)) (ci := 7) (v := .ref (a 8)) (C := RX7) (T := TX7) (N := 16) hx hb hts iK7 hown hK hP 0 rfl rfl 13 (by decide) lk2 (fun _ h9 => h9) rfl dX7_toldOfTuft_124 ?_
                refine lv_iload_n hx hb dX7_toldOfTuft_127 rfl (lv_at hl 1 rfl) ?_
                obtain ⟨g7, hq⟩ := hq
                refine va_iald hx hb hK hP 8 0 rfl rfl g7 dX7_toldOfTuft_128 ?_
                exact W.iret (v := (z120_v_sure x1.toNatClampNeg)) hx hb hr (fun t ht hW => ⟨⟨(z120_v_sure x1.toNatClampNeg), (z120_v_isHollow, z120_v_sure), rfl, hq, (xAt_of hP hK hD ht hW)⟩, hS.F ht⟩) hS.2.2 dX7_toldOfTuft_129
              · have hq := hqB n6
                obtain ⟨hqA, hqB⟩ := hq
                by_cases n7 : x2 = 7
                · have hq := hqA n7
                  refine lv_tableIn (tgt := 130) (off := 129) hx hb dX7_toldOfTuft_1 (by rw [n7]; decide) (by rw [n7]; decide) (by rw [n7]; decide) (by decide) ?_
                  refine lv_aload_n hx hb dX7_toldOfTuft_130 rfl (lv_at hl 0 rfl) ?_
                  refine lv_iload_n hx hb dX7_toldOfTuft_131 rfl (lv_at hl 1 rfl) ?_
                  have hFc := xfree_same hS hAe0 (ws := (wX7 cy a v)) hD
                  refine va_calli (va_runV (As := [.int x1]) (rest := []) ⟨hx, hb, hml, hown, hts⟩ (c_X7_tunnelsWith l dC dI cy a _ v x1 _ hq) (cwV 1 hts gX7_toldOfTuft_X7_tunnelsWith rfl rfl rfl (by decide +kernel) ⟨Nat.le_of_ble_eq_true rfl, Nat.le_of_ble_eq_true rfl⟩) ⟨xPre_blind, va_recv hK hP (ci := 7) (q0 := 0) rfl rfl, xPre_of hP hK hD⟩ rfl rfl hl.1 rfl (lv_room (Nat.le_of_ble_eq_true rfl)) dX7_toldOfTuft_132 ⟨Nat.le_of_ble_eq_true rfl, Nat.le_of_ble_eq_true rfl⟩) hS (fun q _ h => hFc q h) hFc (fun r132 u9 t H locs ht hvm hq hB hz1 hk1 hS => ?_)
                  obtain ⟨hP1, -, hD1⟩ := hB
                  rw [ht] at hP1
                  have hP : va_P (dC, dI) vwCl (wX7 cy a v) H := hP1
                  have hD : va_D A (wX7 cy a v) := hD1.weaken (fun _ q _ h => hFc q.1 h)
                  exact W.iret (v := r132) hx hb hr (fun t ht hW => ⟨⟨r132, ((X7_isHollow v), (X7_sure v)), rfl, hq, (xAt_of hP hK hD ht hW)⟩, hS.F ht⟩) hS.2.2 dX7_toldOfTuft_135
                · have hq := hqB n7
                  refine lv_tableOut (tgt := 136) hx hb dX7_toldOfTuft_1 (by have e0 := lv_neT n0 (show (0 : Int32).toInt = 0 from by decide); have e1 := lv_neT n1 (show (1 : Int32).toInt = 1 from by decide); have e2 := lv_neT n2 (show (2 : Int32).toInt = 2 from by decide); have e3 := lv_neT n3 (show (3 : Int32).toInt = 3 from by decide); have e4 := lv_neT n4 (show (4 : Int32).toInt = 4 from by decide); have e5 := lv_neT n5 (show (5 : Int32).toInt = 5 from by decide); have e6 := lv_neT n6 (show (6 : Int32).toInt = 6 from by decide); have e7 := lv_neT n7 (show (7 : Int32).toInt = 7 from by decide); omega) (by decide) ?_
                  refine lv_aload_n hx hb dX7_toldOfTuft_136 rfl (lv_at hl 0 rfl) ?_
                  refine lv_iload_n hx hb dX7_toldOfTuft_137 rfl (lv_at hl 1 rfl) ?_
                  have hFc := xfree_same hS hAe0 (ws := (wX7 cy a v)) hD
                  refine va_calli (va_runV (As := [.int x1]) (rest := []) ⟨hx, hb, hml, hown, hts⟩ (c_X7_molesAt l dC dI cy a _ v x1 _ hq) (cwV 1 hts gX7_toldOfTuft_X7_molesAt rfl rfl rfl (by decide +kernel) ⟨Nat.le_of_ble_eq_true rfl, Nat.le_of_ble_eq_true rfl⟩) ⟨xPre_blind, va_recv hK hP (ci := 7) (q0 := 0) rfl rfl, xPre_of hP hK hD⟩ rfl rfl hl.1 rfl (lv_room (Nat.le_of_ble_eq_true rfl)) dX7_toldOfTuft_138 ⟨Nat.le_of_ble_eq_true rfl, Nat.le_of_ble_eq_true rfl⟩) hS (fun q _ h => hFc q h) hFc (fun r138 u9 t H locs ht hvm hq hB hz1 hk1 hS => ?_)
                  obtain ⟨hP1, -, hD1⟩ := hB
                  rw [ht] at hP1
                  have hP : va_P (dC, dI) vwCl (wX7 cy a v) H := hP1
                  have hD : va_D A (wX7 cy a v) := hD1.weaken (fun _ q _ h => hFc q.1 h)
                  exact W.iret (v := r138) hx hb hr (fun t ht hW => ⟨⟨r138, ((X7_isHollow v), (X7_sure v)), rfl, hq, (xAt_of hP hK hD ht hW)⟩, hS.F ht⟩) hS.2.2 dX7_toldOfTuft_141
def wp_X7_tuft_27 (v : V_X7) (x1 : Int32) (x2 : Int32) (k27_0 : Int32) (Q : Int32 → (Nat → Int32) → (Nat → Int32) → Int32 → Prop) : Prop :=
  wp_X7_holds v k27_0 (fun r27 z27_v_thrown =>
  ((r27 = 0 → Q 0 (X7_isHollow v) (X7_sure v) z27_v_thrown) ∧
  (¬ r27 = 0 → wp_X7_toldOfTuft (X7_s8 v z27_v_thrown) x1 x2 (fun r36 z36_v_isHollow z36_v_sure =>
  Q r36 z36_v_isHollow z36_v_sure z27_v_thrown))))
def wp_X7_tuft (v : V_X7) (x1 : Int32) (x2 : Int32) (Q : Int32 → (Nat → Int32) → (Nat → Int32) → Int32 → Prop) : Prop :=
  wp_X7_isTuft x1 (fun r2 =>
  ((r2 = 0 → wp_X7_tuft_27 v x1 x2 1  Q) ∧
  (¬ r2 = 0 → wp_X7_in x2 0 8 (fun r16 =>
  ((r16 = 0 → wp_X7_tuft_27 v x1 x2 2  Q) ∧
  (¬ r16 = 0 → wp_X7_tuft_27 v x1 x2 0  Q))))))
def q_X7_tuft (dC : Nat → ClassId) (dI : Nat → Nat → Nat) (cy : Nat → ClassId) (a : Nat → Nat) (v : V_X7) (x1 : Int32) (x2 : Int32) (Q : Int32 → (Nat → Int32) → (Nat → Int32) → Int32 → Prop) (A : Nat → Prop) : Array Value → State → Outcome → State → Prop := va_Qi (fun (r : Int32) (u : (Nat → Int32) × (Nat → Int32) × Int32) => Q r u.1 u.2.1 u.2.2) (fun (u : (Nat → Int32) × (Nat → Int32) × Int32) t => xAt dC dI cy A (cX7 cy a (X7_s v) (X7_aside v) (X7_kept v) (X7_isKept v) (X7_saved v) (X7_savedMany v) (X7_text v) (X7_length v) u.2.2 (X7_joint v) (X7_position v) (X7_isWrong v) u.1 u.2.1 (X7_away v) (X7_digested v)) t) A
set_option maxHeartbeats 4000000 in
set_option maxRecDepth 100000 in
theorem c_X7_tuft (l : Launch) (dC : Nat → ClassId) (dI : Nat → Nat → Nat) (cy : Nat → ClassId) (a : Nat → Nat) (sz : Nat) (v : V_X7) (x1 : Int32) (x2 : Int32) (Q : Int32 → (Nat → Int32) → (Nat → Int32) → Int32 → Prop) (hq : wp_X7_tuft v x1 x2 Q) : Met l yX7_tuft wsX7_tuft ({ frames := 6, cells := 0, slots := 0, locals := 137 } : Room) (va_Pc [.ref (a 0), .int x1, .int x2] (xPre dC dI cy (wX7 cy a v) sz)) (q_X7_tuft dC dI cy a v x1 x2 Q (va_A (wX7 cy a v) sz)) 0 0 (va_A (wX7 cy a v) sz) := by
  refine Met.ofW (cc := cX7_tuft) (maxL := 3) (ret := (some .int)) (by decide) rfl ?_
  intro p e s m args below meth c s₁ B hml hv
  obtain ⟨rfl, hsz, hP, hK, hD0⟩ := hv
  have hx := B.exec
  have hb := B.bytes
  have hr := B.returns
  have hts := atoms_spec (ws := wsX7_tuft) B.pre
  have hown : s.vm.findClass RX7 = some m.cls := findClass_of_methodNamed B.named
  have hlocks := B.notSynchronized
  subst hsz
  have hD := hD0.self (sz := s.heap.size)
  generalize hAe : va_A (wX7 cy a v) s.heap.size = A at hD ⊢
  have hAe0 : ∀ q : Nat, s.heap.size ≤ q → A q := fun q h => by rw [← hAe]; exact Or.inr h
  have hS : va_S A s.heap s.heap [] := va_S.rf
  have hl := lv_entry ([.ref (a 0), .int x1, .int x2]) (n := 3) (Nat.le_of_ble_eq_true rfl)
  rw [lg_entry_eq]
  generalize (lg_sl ([.ref (a 0), .int x1, .int x2]) ++ List.replicate (3 - (lg_sl ([.ref (a 0), .int x1, .int x2])).length) Slot.unset).toArray = ls at hl ⊢
  have hl : lv_has ls 3 [(0, .ref (a 0)), (1, .int x1), (2, .int x2)] := hl
  unfold wp_X7_tuft at hq
  have J27 : ∀ (k27_0 : Int32) (H : Heap) (locs : List Loc) (ls : Array Slot), wp_X7_tuft_27 v x1 x2 k27_0 Q → va_P (dC, dI) vwCl (wX7 cy a v) H → va_D A (wX7 cy a v) → va_S A s.heap H locs → lv_has ls 3 [(0, .ref (a 0)), (1, .int x1), (2, .int x2)] → W p l e (headSpec wsX7_tuft ({ frames := 6, cells := 0, slots := 0, locals := 137 } : Room)).room s m ([.ref (a 0), .int x1, .int x2] : List Value).toArray below meth c H locs 0 0 (MQ below (q_X7_tuft dC dI cy a v x1 x2 Q A) ([.ref (a 0), .int x1, .int x2] : List Value).toArray s 0 0 A) (F0 m 27 ls [.int k27_0, .ref (a 0)]) := by
    intro k27_0 H locs ls hq hP hD hS hl
    unfold wp_X7_tuft_27 at hq
    have hFc := xfree_same hS hAe0 (ws := (wX7 cy a v)) hD
    refine va_calli (va_runV (As := [.int k27_0]) (rest := []) ⟨hx, hb, hml, hown, hts⟩ (c_X7_holds l dC dI cy a _ v k27_0 _ hq) (cwV 1 hts gX7_tuft_X7_holds rfl rfl rfl (by decide +kernel) ⟨Nat.le_of_ble_eq_true rfl, Nat.le_of_ble_eq_true rfl⟩) ⟨xPre_blind, va_recv hK hP (ci := 7) (q0 := 0) rfl rfl, xPre_of hP hK hD⟩ rfl rfl hl.1 rfl (lv_room (Nat.le_of_ble_eq_true rfl)) dX7_tuft_27 ⟨Nat.le_of_ble_eq_true rfl, Nat.le_of_ble_eq_true rfl⟩) hS (fun q _ h => hFc q h) hFc (fun r27 z27_v_thrown t H locs ht hvm hq hB hz1 hk1 hS => ?_)
    obtain ⟨hP1, -, hD1⟩ := hB
    rw [ht] at hP1
    have hP : va_P (dC, dI) vwCl (cX7 cy a (X7_s v) (X7_aside v) (X7_kept v) (X7_isKept v) (X7_saved v) (X7_savedMany v) (X7_text v) (X7_length v) z27_v_thrown (X7_joint v) (X7_position v) (X7_isWrong v) (X7_isHollow v) (X7_sure v) (X7_away v) (X7_digested v)) H := hP1
    have hD : va_D A (cX7 cy a (X7_s v) (X7_aside v) (X7_kept v) (X7_isKept v) (X7_saved v) (X7_savedMany v) (X7_text v) (X7_length v) z27_v_thrown (X7_joint v) (X7_position v) (X7_isWrong v) (X7_isHollow v) (X7_sure v) (X7_away v) (X7_digested v)) := hD1.weaken (fun _ q _ h => hFc q.1 h)
    obtain ⟨hqA, hqB⟩ := hq
    refine lv_if_eq (tgt := 42) hx hb dX7_tuft_30 (by decide) (fun c1 => ?_) (fun c1 => ?_)
    · have hq := hqA c1
      refine lv_iconst (v := 0) hx hb dX7_tuft_42 (by decide) ?_
      exact W.iret (v := 0) hx hb hr (fun t ht hW => ⟨⟨0, ((X7_isHollow v), (X7_sure v), z27_v_thrown), rfl, hq, (xAt_of hP hK hD ht hW)⟩, hS.F ht⟩) hS.2.2 dX7_tuft_43
    · have hq := hqB c1
      refine lv_aload_n hx hb dX7_tuft_33 rfl (lv_at hl 0 rfl) ?_
      refine lv_iload_n hx hb dX7_tuft_34 rfl (lv_at hl 1 rfl) ?_
      refine lv_iload_n hx hb dX7_tuft_35 rfl (lv_at hl 2 rfl) ?_
      have hFc := xfree_same hS hAe0 (ws := (cX7 cy a (X7_s v) (X7_aside v) (X7_kept v) (X7_isKept v) (X7_saved v) (X7_savedMany v) (X7_text v) (X7_length v) z27_v_thrown (X7_joint v) (X7_position v) (X7_isWrong v) (X7_isHollow v) (X7_sure v) (X7_away v) (X7_digested v))) hD
      refine va_calli (va_runV (As := [.int x1, .int x2]) (rest := []) ⟨hx, hb, hml, hown, hts⟩ (c_X7_toldOfTuft l dC dI cy a _ (X7_s8 v z27_v_thrown) x1 x2 _ hq) (cwV 2 hts gX7_tuft_X7_toldOfTuft rfl rfl rfl (by decide +kernel) ⟨Nat.le_of_ble_eq_true rfl, Nat.le_of_ble_eq_true rfl⟩) ⟨xPre_blind, va_recv hK hP (ci := 7) (q0 := 0) rfl rfl, xPre_of hP hK hD⟩ rfl rfl hl.1 rfl (lv_room (Nat.le_of_ble_eq_true rfl)) dX7_tuft_36 ⟨Nat.le_of_ble_eq_true rfl, Nat.le_of_ble_eq_true rfl⟩) hS (fun q _ h => hFc q h) hFc (fun r36 u9 t H locs ht hvm hq hB hz1 hk1 hS => ?_)
      obtain ⟨z36_v_isHollow, z36_v_sure⟩ := u9
      obtain ⟨hP1, -, hD1⟩ := hB
      rw [ht] at hP1
      have hP : va_P (dC, dI) vwCl (cX7 cy a (X7_s v) (X7_aside v) (X7_kept v) (X7_isKept v) (X7_saved v) (X7_savedMany v) (X7_text v) (X7_length v) z27_v_thrown (X7_joint v) (X7_position v) (X7_isWrong v) z36_v_isHollow z36_v_sure (X7_away v) (X7_digested v)) H := hP1
      have hD : va_D A (cX7 cy a (X7_s v) (X7_aside v) (X7_kept v) (X7_isKept v) (X7_saved v) (X7_savedMany v) (X7_text v) (X7_length v) z27_v_thrown (X7_joint v) (X7_position v) (X7_isWrong v) z36_v_isHollow z36_v_sure (X7_away v) (X7_digested v)) := hD1.weaken (fun _ q _ h => hFc q.1 h)
      refine lv_goto (tgt := 43) hx hb dX7_tuft_39 (by decide) ?_
      exact W.iret (v := r36) hx hb hr (fun t ht hW => ⟨⟨r36, (z36_v_isHollow, z36_v_sure, z27_v_thrown), rfl, hq, (xAt_of hP hK hD ht hW)⟩, hS.F ht⟩) hS.2.2 dX7_tuft_43
  refine lv_aload_n hx hb dX7_tuft_0 rfl (lv_at hl 0 rfl) ?_
  refine lv_iload_n hx hb dX7_tuft_1 rfl (lv_at hl 1 rfl) ?_
  have hFc := xfree_none hS hAe0
  refine va_calli (va_runS (As := [.int x1]) (rest := [.ref (a 0)]) ⟨hx, hb, hml, hown, hts⟩ (c_X7_isTuft l dC dI cy  _ x1 _ hq) (va_cwS 1 hts gX7_tuft_X7_isTuft rfl rfl rfl (by decide +kernel) ⟨Nat.le_of_ble_eq_true rfl, Nat.le_of_ble_eq_true rfl⟩) ⟨xPre_blind, xPre_of xP_nil hK (xD_nil (A := A))⟩ rfl rfl hl.1 rfl (lv_room (Nat.le_of_ble_eq_true rfl)) dX7_tuft_2 ⟨Nat.le_of_ble_eq_true rfl, Nat.le_of_ble_eq_true rfl⟩) hS (fun q _ h => hFc q h) hFc (fun r2 u9 t H locs ht hvm hq hB hz1 hk1 hS => ?_)
  have hP := xj_none hP hk1
  obtain ⟨hqA, hqB⟩ := hq
  refine lv_if_ne (tgt := 12) hx hb dX7_tuft_5 (by decide) (fun c3 => ?_) (fun c3 => ?_)
  · have hq := hqB c3
    refine lv_iload_n hx hb dX7_tuft_12 rfl (lv_at hl 2 rfl) ?_
    refine lv_iconst (v := 0) hx hb dX7_tuft_13 (by decide) ?_
    refine lv_bipush (v := 8) hx hb dX7_tuft_14 (by decide) ?_
    have hFc := xfree_none hS hAe0
    refine va_calli (va_runS (As := [.int x2, .int 0, .int 8]) (rest := [.ref (a 0)]) ⟨hx, hb, hml, hown, hts⟩ (c_X7_in l dC dI cy  _ x2 0 8 _ hq) (va_cwS 3 hts gX7_tuft_X7_in rfl rfl rfl (by decide +kernel) ⟨Nat.le_of_ble_eq_true rfl, Nat.le_of_ble_eq_true rfl⟩) ⟨xPre_blind, xPre_of xP_nil hK (xD_nil (A := A))⟩ rfl rfl hl.1 rfl (lv_room (Nat.le_of_ble_eq_true rfl)) dX7_tuft_16 ⟨Nat.le_of_ble_eq_true rfl, Nat.le_of_ble_eq_true rfl⟩) hS (fun q _ h => hFc q h) hFc (fun r16 u9 t H locs ht hvm hq hB hz1 hk1 hS => ?_)
    have hP := xj_none hP hk1
    obtain ⟨hqA, hqB⟩ := hq
    refine lv_if_ne (tgt := 26) hx hb dX7_tuft_19 (by decide) (fun c2 => ?_) (fun c2 => ?_)
    · have hq := hqB c2
      refine lv_iconst (v := 0) hx hb dX7_tuft_26 (by decide) ?_
      exact J27 0  _ _ _ hq hP hD hS (lv_sub hl [0, 1, 2] rfl)
    · have hq := hqA c2
      refine lv_iconst (v := 2) hx hb dX7_tuft_22 (by decide) ?_
      refine lv_goto (tgt := 27) hx hb dX7_tuft_23 (by decide) ?_
      exact J27 2  _ _ _ hq hP hD hS (lv_sub hl [0, 1, 2] rfl)
  · have hq := hqA c3
    refine lv_iconst (v := 1) hx hb dX7_tuft_8 (by decide) ?_
    refine lv_goto (tgt := 27) hx hb dX7_tuft_9 (by decide) ?_
    exact J27 1  _ _ _ hq hP hD hS (lv_sub hl [0, 1, 2] rfl)
def wp_X7_toldOfMole (v : V_X7) (x1 : Int32) (x2 : Int32) (Q : Int32 → Prop) : Prop :=
  ((x2 = 0 → wp_X7_of x1 x2 (fun r46 =>
  vp_in r46 1472 ∧ Q ((X7_s v) r46.toNatClampNeg))) ∧
  (¬ x2 = 0 → ((x2 = 1 → wp_X7_of x1 x2 (fun r46 =>
  vp_in r46 1472 ∧ Q ((X7_s v) r46.toNatClampNeg))) ∧
  (¬ x2 = 1 → ((x2 = 2 → wp_X7_of x1 x2 (fun r46 =>
  vp_in r46 1472 ∧ Q ((X7_s v) r46.toNatClampNeg))) ∧
  (¬ x2 = 2 → ((x2 = 3 → wp_X7_of x1 2 (fun r57 =>
  vp_in r57 1472 ∧ ((((X7_s v) r57.toNatClampNeg) = 0 → Q (-1)) ∧
  (¬ ((X7_s v) r57.toNatClampNeg) = 0 → wp_X7_of x1 3 (fun r74 =>
  vp_in r74 1472 ∧ Q ((X7_s v) r74.toNatClampNeg)))))) ∧
  (¬ x2 = 3 → ((x2 = 4 → wp_X7_of x1 24 (fun r86 =>
  vp_in r86 1472 ∧ Q ((X7_s v) r86.toNatClampNeg))) ∧
  (¬ x2 = 4 → ((x2 = 5 → wp_X7_of x1 23 (fun r98 =>
  vp_in r98 1472 ∧ Q ((X7_s v) r98.toNatClampNeg))) ∧
  (¬ x2 = 5 → wp_X7_of x1 45 (fun r110 =>
  vp_in r110 1472 ∧ Q ((X7_s v) r110.toNatClampNeg))))))))))))))
def q_X7_toldOfMole (dC : Nat → ClassId) (dI : Nat → Nat → Nat) (cy : Nat → ClassId) (a : Nat → Nat) (v : V_X7) (x1 : Int32) (x2 : Int32) (Q : Int32 → Prop) (A : Nat → Prop) : Array Value → State → Outcome → State → Prop := va_Qi (fun (r : Int32) (u : Unit) => Q r ) (fun (u : Unit) t => xAt dC dI cy A (wX7 cy a v) t) A
set_option maxHeartbeats 4000000 in
set_option maxRecDepth 100000 in
theorem c_X7_toldOfMole (l : Launch) (dC : Nat → ClassId) (dI : Nat → Nat → Nat) (cy : Nat → ClassId) (a : Nat → Nat) (sz : Nat) (v : V_X7) (x1 : Int32) (x2 : Int32) (Q : Int32 → Prop) (hq : wp_X7_toldOfMole v x1 x2 Q) : Met l yX7_toldOfMole wsX7_toldOfMole ({ frames := 1, cells := 0, slots := 0, locals := 21 } : Room) (va_Pc [.ref (a 0), .int x1, .int x2] (xPre dC dI cy (wX7 cy a v) sz)) (q_X7_toldOfMole dC dI cy a v x1 x2 Q (va_A (wX7 cy a v) sz)) 0 0 (va_A (wX7 cy a v) sz) := by
  refine Met.ofW (cc := cX7_toldOfMole) (maxL := 3) (ret := (some .int)) (by decide) rfl ?_
  intro p e s m args below meth c s₁ B hml hv
  obtain ⟨rfl, hsz, hP, hK, hD0⟩ := hv
  have hx := B.exec
  have hb := B.bytes
  have hr := B.returns
  have hts := atoms_spec (ws := wsX7_toldOfMole) B.pre
  have hown : s.vm.findClass RX7 = some m.cls := findClass_of_methodNamed B.named
  have hlocks := B.notSynchronized
  subst hsz
  have hD := hD0.self (sz := s.heap.size)
  generalize hAe : va_A (wX7 cy a v) s.heap.size = A at hD ⊢
  have hAe0 : ∀ q : Nat, s.heap.size ≤ q → A q := fun q h => by rw [← hAe]; exact Or.inr h
  have hS : va_S A s.heap s.heap [] := va_S.rf
  have hl := lv_entry ([.ref (a 0), .int x1, .int x2]) (n := 3) (Nat.le_of_ble_eq_true rfl)
  rw [lg_entry_eq]
  generalize (lg_sl ([.ref (a 0), .int x1, .int x2]) ++ List.replicate (3 - (lg_sl ([.ref (a 0), .int x1, .int x2])).length) Slot.unset).toArray = ls at hl ⊢
  have hl : lv_has ls 3 [(0, .ref (a 0)), (1, .int x1), (2, .int x2)] := hl
  have lk0 := hts (Cond.fieldLink RX7 7 "MolesLawnModel" "s" "[I") (List.mem_cons_of_mem _ (List.mem_append_left _ (List.mem_of_getElem? (i := 0) rfl)))
  have iK7 : ∀ w ∈ wsX70, w ∈ wsX7_toldOfMole := fun _ h => (List.mem_cons_of_mem _ (List.mem_append_right _ h))
  unfold wp_X7_toldOfMole at hq
  refine lv_iload_n hx hb dX7_toldOfMole_0 rfl (lv_at hl 2 rfl) ?_
  obtain ⟨hqA, hqB⟩ := hq
  by_cases n0 : x2 = 0
  · have hq := hqA n0
    refine lv_tableIn (tgt := 40) (off := 39) hx hb dX7_toldOfMole_1 (by rw [n0]; decide) (by rw [n0]; decide) (by rw [n0]; decide) (by decide) ?_
    refine lv_aload_n hx hb dX7_toldOfMole_40 rfl (lv_at hl 0 rfl) ?_
    refine va_get (D := (dC, dI)) (ci := 7) (v := .ref (a 1)) (C := RX7) (T := TX7) (N := 16) hx hb hts iK7 hown hK hP 0 rfl rfl 0 (by decide) lk0 (fun _ h9 => h9) rfl dX7_toldOfMole_41 ?_
    refine lv_iload_n hx hb dX7_toldOfMole_44 rfl (lv_at hl 1 rfl) ?_
    refine lv_iload_n hx hb dX7_toldOfMole_45 rfl (lv_at hl 2 rfl) ?_
    have hFc := xfree_none hS hAe0
    refine va_calli (va_runS (As := [.int x1, .int x2]) (rest := [.ref (a 1)]) ⟨hx, hb, hml, hown, hts⟩ (c_X7_of l dC dI cy  _ x1 x2 _ hq) (va_cwS 2 hts gX7_toldOfMole_X7_of rfl rfl rfl (by decide +kernel) ⟨Nat.le_of_ble_eq_true rfl, Nat.le_of_ble_eq_true rfl⟩) ⟨xPre_blind, xPre_of xP_nil hK (xD_nil (A := A))⟩ rfl rfl hl.1 rfl (lv_room (Nat.le_of_ble_eq_true rfl)) dX7_toldOfMole_46 ⟨Nat.le_of_ble_eq_true rfl, Nat.le_of_ble_eq_true rfl⟩) hS (fun q _ h => hFc q h) hFc (fun r46 u9 t H locs ht hvm hq hB hz1 hk1 hS => ?_)
    have hP := xj_none hP hk1
    obtain ⟨g1, hq⟩ := hq
    refine va_iald hx hb hK hP 1 0 rfl rfl g1 dX7_toldOfMole_49 ?_
    exact W.iret (v := ((X7_s v) r46.toNatClampNeg)) hx hb hr (fun t ht hW => ⟨⟨((X7_s v) r46.toNatClampNeg), (), rfl, hq, (xAt_of hP hK hD ht hW)⟩, hS.F ht⟩) hS.2.2 dX7_toldOfMole_50
  · have hq := hqB n0
    obtain ⟨hqA, hqB⟩ := hq
    by_cases n1 : x2 = 1
    · have hq := hqA n1
      refine lv_tableIn (tgt := 40) (off := 39) hx hb dX7_toldOfMole_1 (by rw [n1]; decide) (by rw [n1]; decide) (by rw [n1]; decide) (by decide) ?_
      refine lv_aload_n hx hb dX7_toldOfMole_40 rfl (lv_at hl 0 rfl) ?_
      refine va_get (D := (dC, dI)) (ci := 7) (v := .ref (a 1)) (C := RX7) (T := TX7) (N := 16) hx hb hts iK7 hown hK hP 0 rfl rfl 0 (by decide) lk0 (fun _ h9 => h9) rfl dX7_toldOfMole_41 ?_
      refine lv_iload_n hx hb dX7_toldOfMole_44 rfl (lv_at hl 1 rfl) ?_
      refine lv_iload_n hx hb dX7_toldOfMole_45 rfl (lv_at hl 2 rfl) ?_
      have hFc := xfree_none hS hAe0
      refine va_calli (va_runS (As := [.int x1, .int x2]) (rest := [.ref (a 1)]) ⟨hx, hb, hml, hown, hts⟩ (c_X7_of l dC dI cy  _ x1 x2 _ hq) (va_cwS 2 hts gX7_toldOfMole_X7_of rfl rfl rfl (by decide +kernel) ⟨Nat.le_of_ble_eq_true rfl, Nat.le_of_ble_eq_true rfl⟩) ⟨xPre_blind, xPre_of xP_nil hK (xD_nil (A := A))⟩ rfl rfl hl.1 rfl (lv_room (Nat.le_of_ble_eq_true rfl)) dX7_toldOfMole_46 ⟨Nat.le_of_ble_eq_true rfl, Nat.le_of_ble_eq_true rfl⟩) hS (fun q _ h => hFc q h) hFc (fun r46 u9 t H locs ht hvm hq hB hz1 hk1 hS => ?_)
      have hP := xj_none hP hk1
      obtain ⟨g2, hq⟩ := hq
      refine va_iald hx hb hK hP 1 0 rfl rfl g2 dX7_toldOfMole_49 ?_
      exact W.iret (v := ((X7_s v) r46.toNatClampNeg)) hx hb hr (fun t ht hW => ⟨⟨((X7_s v) r46.toNatClampNeg), (), rfl, hq, (xAt_of hP hK hD ht hW)⟩, hS.F ht⟩) hS.2.2 dX7_toldOfMole_50
    · have hq := hqB n1
      obtain ⟨hqA, hqB⟩ := hq
      by_cases n2 : x2 = 2
      · have hq := hqA n2
        refine lv_tableIn (tgt := 40) (off := 39) hx hb dX7_toldOfMole_1 (by rw [n2]; decide) (by rw [n2]; decide) (by rw [n2]; decide) (by decide) ?_
        refine lv_aload_n hx hb dX7_toldOfMole_40 rfl (lv_at hl 0 rfl) ?_
        refine va_get (D := (dC, dI)) (ci := 7) (v := .ref (a 1)) (C := RX7) (T := TX7) (N := 16) hx hb hts iK7 hown hK hP 0 rfl rfl 0 (by decide) lk0 (fun _ h9 => h9) rfl dX7_toldOfMole_41 ?_
        refine lv_iload_n hx hb dX7_toldOfMole_44 rfl (lv_at hl 1 rfl) ?_
        refine lv_iload_n hx hb dX7_toldOfMole_45 rfl (lv_at hl 2 rfl) ?_
        have hFc := xfree_none hS hAe0
        refine va_calli (va_runS (As := [.int x1, .int x2]) (rest := [.ref (a 1)]) ⟨hx, hb, hml, hown, hts⟩ (c_X7_of l dC dI cy  _ x1 x2 _ hq) (va_cwS 2 hts gX7_toldOfMole_X7_of rfl rfl rfl (by decide +kernel) ⟨Nat.le_of_ble_eq_true rfl, Nat.le_of_ble_eq_true rfl⟩) ⟨xPre_blind, xPre_of xP_nil hK (xD_nil (A := A))⟩ rfl rfl hl.1 rfl (lv_room (Nat.le_of_ble_eq_true rfl)) dX7_toldOfMole_46 ⟨Nat.le_of_ble_eq_true rfl, Nat.le_of_ble_eq_true rfl⟩) hS (fun q _ h => hFc q h) hFc (fun r46 u9 t H locs ht hvm hq hB hz1 hk1 hS => ?_)
        have hP := xj_none hP hk1
        obtain ⟨g3, hq⟩ := hq
        refine va_iald hx hb hK hP 1 0 rfl rfl g3 dX7_toldOfMole_49 ?_
        exact W.iret (v := ((X7_s v) r46.toNatClampNeg)) hx hb hr (fun t ht hW => ⟨⟨((X7_s v) r46.toNatClampNeg), (), rfl, hq, (xAt_of hP hK hD ht hW)⟩, hS.F ht⟩) hS.2.2 dX7_toldOfMole_50
      · have hq := hqB n2
        obtain ⟨hqA, hqB⟩ := hq
        by_cases n3 : x2 = 3
        · have hq := hqA n3
          refine lv_tableIn (tgt := 51) (off := 50) hx hb dX7_toldOfMole_1 (by rw [n3]; decide) (by rw [n3]; decide) (by rw [n3]; decide) (by decide) ?_
          refine lv_aload_n hx hb dX7_toldOfMole_51 rfl (lv_at hl 0 rfl) ?_
          refine va_get (D := (dC, dI)) (ci := 7) (v := .ref (a 1)) (C := RX7) (T := TX7) (N := 16) hx hb hts iK7 hown hK hP 0 rfl rfl 0 (by decide) lk0 (fun _ h9 => h9) rfl dX7_toldOfMole_52 ?_
          refine lv_iload_n hx hb dX7_toldOfMole_55 rfl (lv_at hl 1 rfl) ?_
          refine lv_iconst (v := 2) hx hb dX7_toldOfMole_56 (by decide) ?_
          have hFc := xfree_none hS hAe0
          refine va_calli (va_runS (As := [.int x1, .int 2]) (rest := [.ref (a 1)]) ⟨hx, hb, hml, hown, hts⟩ (c_X7_of l dC dI cy  _ x1 2 _ hq) (va_cwS 2 hts gX7_toldOfMole_X7_of rfl rfl rfl (by decide +kernel) ⟨Nat.le_of_ble_eq_true rfl, Nat.le_of_ble_eq_true rfl⟩) ⟨xPre_blind, xPre_of xP_nil hK (xD_nil (A := A))⟩ rfl rfl hl.1 rfl (lv_room (Nat.le_of_ble_eq_true rfl)) dX7_toldOfMole_57 ⟨Nat.le_of_ble_eq_true rfl, Nat.le_of_ble_eq_true rfl⟩) hS (fun q _ h => hFc q h) hFc (fun r57 u9 t H locs ht hvm hq hB hz1 hk1 hS => ?_)
          have hP := xj_none hP hk1
          obtain ⟨g4, hq⟩ := hq
          refine va_iald hx hb hK hP 1 0 rfl rfl g4 dX7_toldOfMole_60 ?_
          obtain ⟨hqA, hqB⟩ := hq
          refine lv_if_ne (tgt := 68) hx hb dX7_toldOfMole_61 (by decide) (fun c6 => ?_) (fun c6 => ?_)
          · have hq := hqB c6
            refine lv_aload_n hx hb dX7_toldOfMole_68 rfl (lv_at hl 0 rfl) ?_
            refine va_get (D := (dC, dI)) (ci := 7) (v := .ref (a 1)) (C := RX7) (T := TX7) (N := 16) hx hb hts iK7 hown hK hP 0 rfl rfl 0 (by decide) lk0 (fun _ h9 => h9) rfl dX7_toldOfMole_69 ?_
            refine lv_iload_n hx hb dX7_toldOfMole_72 rfl (lv_at hl 1 rfl) ?_
            refine lv_iconst (v := 3) hx hb dX7_toldOfMole_73 (by decide) ?_
            have hFc := xfree_none hS hAe0
            refine va_calli (va_runS (As := [.int x1, .int 3]) (rest := [.ref (a 1)]) ⟨hx, hb, hml, hown, hts⟩ (c_X7_of l dC dI cy  _ x1 3 _ hq) (va_cwS 2 hts gX7_toldOfMole_X7_of rfl rfl rfl (by decide +kernel) ⟨Nat.le_of_ble_eq_true rfl, Nat.le_of_ble_eq_true rfl⟩) ⟨xPre_blind, xPre_of xP_nil hK (xD_nil (A := A))⟩ rfl rfl hl.1 rfl (lv_room (Nat.le_of_ble_eq_true rfl)) dX7_toldOfMole_74 ⟨Nat.le_of_ble_eq_true rfl, Nat.le_of_ble_eq_true rfl⟩) hS (fun q _ h => hFc q h) hFc (fun r74 u9 t H locs ht hvm hq hB hz1 hk1 hS => ?_)
            have hP := xj_none hP hk1
            obtain ⟨g5, hq⟩ := hq
            refine va_iald hx hb hK hP 1 0 rfl rfl g5 dX7_toldOfMole_77 ?_
            exact W.iret (v := ((X7_s v) r74.toNatClampNeg)) hx hb hr (fun t ht hW => ⟨⟨((X7_s v) r74.toNatClampNeg), (), rfl, hq, (xAt_of hP hK hD ht hW)⟩, hS.F ht⟩) hS.2.2 dX7_toldOfMole_78
          · have hq := hqA c6
            refine lv_iconst (v := (-1)) hx hb dX7_toldOfMole_64 (by decide) ?_
            refine lv_goto (tgt := 78) hx hb dX7_toldOfMole_65 (by decide) ?_
            exact W.iret (v := (-1)) hx hb hr (fun t ht hW => ⟨⟨(-1), (), rfl, hq, (xAt_of hP hK hD ht hW)⟩, hS.F ht⟩) hS.2.2 dX7_toldOfMole_78
        · have hq := hqB n3
          obtain ⟨hqA, hqB⟩ := hq
          by_cases n4 : x2 = 4
          · have hq := hqA n4
            refine lv_tableIn (tgt := 79) (off := 78) hx hb dX7_toldOfMole_1 (by rw [n4]; decide) (by rw [n4]; decide) (by rw [n4]; decide) (by decide) ?_
            refine lv_aload_n hx hb dX7_toldOfMole_79 rfl (lv_at hl 0 rfl) ?_
            refine va_get (D := (dC, dI)) (ci := 7) (v := .ref (a 1)) (C := RX7) (T := TX7) (N := 16) hx hb hts iK7 hown hK hP 0 rfl rfl 0 (by decide) lk0 (fun _ h9 => h9) rfl dX7_toldOfMole_80 ?_
            refine lv_iload_n hx hb dX7_toldOfMole_83 rfl (lv_at hl 1 rfl) ?_
            refine lv_bipush (v := 24) hx hb dX7_toldOfMole_84 (by decide) ?_
            have hFc := xfree_none hS hAe0
            refine va_calli (va_runS (As := [.int x1, .int 24]) (rest := [.ref (a 1)]) ⟨hx, hb, hml, hown, hts⟩ (c_X7_of l dC dI cy  _ x1 24 _ hq) (va_cwS 2 hts gX7_toldOfMole_X7_of rfl rfl rfl (by decide +kernel) ⟨Nat.le_of_ble_eq_true rfl, Nat.le_of_ble_eq_true rfl⟩) ⟨xPre_blind, xPre_of xP_nil hK (xD_nil (A := A))⟩ rfl rfl hl.1 rfl (lv_room (Nat.le_of_ble_eq_true rfl)) dX7_toldOfMole_86 ⟨Nat.le_of_ble_eq_true rfl, Nat.le_of_ble_eq_true rfl⟩) hS (fun q _ h => hFc q h) hFc (fun r86 u9 t H locs ht hvm hq hB hz1 hk1 hS => ?_)
            have hP := xj_none hP hk1
            obtain ⟨g7, hq⟩ := hq
            refine va_iald hx hb hK hP 1 0 rfl rfl g7 dX7_toldOfMole_89 ?_
            exact W.iret (v := ((X7_s v) r86.toNatClampNeg)) hx hb hr (fun t ht hW => ⟨⟨((X7_s v) r86.toNatClampNeg), (), rfl, hq, (xAt_of hP hK hD ht hW)⟩, hS.F ht⟩) hS.2.2 dX7_toldOfMole_90
          · have hq := hqB n4
            obtain ⟨hqA, hqB⟩ := hq
            by_cases n5 : x2 = 5
            · have hq := hqA n5
              refine lv_tableIn (tgt := 91) (off := 90) hx hb dX7_toldOfMole_1 (by rw [n5]; decide) (by rw [n5]; decide) (by rw [n5]; decide) (by decide) ?_
              refine lv_aload_n hx hb dX7_toldOfMole_91 rfl (lv_at hl 0 rfl) ?_
              refine va_get (D := (dC, dI)) (ci := 7) (v := .ref (a 1)) (C := RX7) (T := TX7) (N := 16) hx hb hts iK7 hown hK hP 0 rfl rfl 0 (by decide) lk0 (fun _ h9 => h9) rfl dX7_toldOfMole_92 ?_
              refine lv_iload_n hx hb dX7_toldOfMole_95 rfl (lv_at hl 1 rfl) ?_
              refine lv_bipush (v := 23) hx hb dX7_toldOfMole_96 (by decide) ?_
              have hFc := xfree_none hS hAe0
              refine va_calli (va_runS (As := [.int x1, .int 23]) (rest := [.ref (a 1)]) ⟨hx, hb, hml, hown, hts⟩ (c_X7_of l dC dI cy  _ x1 23 _ hq) (va_cwS 2 hts gX7_toldOfMole_X7_of rfl rfl rfl (by decide +kernel) ⟨Nat.le_of_ble_eq_true rfl, Nat.le_of_ble_eq_true rfl⟩) ⟨xPre_blind, xPre_of xP_nil hK (xD_nil (A := A))⟩ rfl rfl hl.1 rfl (lv_room (Nat.le_of_ble_eq_true rfl)) dX7_toldOfMole_98 ⟨Nat.le_of_ble_eq_true rfl, Nat.le_of_ble_eq_true rfl⟩) hS (fun q _ h => hFc q h) hFc (fun r98 u9 t H locs ht hvm hq hB hz1 hk1 hS => ?_)
              have hP := xj_none hP hk1
              obtain ⟨g8, hq⟩ := hq
              refine va_iald hx hb hK hP 1 0 rfl rfl g8 dX7_toldOfMole_101 ?_
              exact W.iret (v := ((X7_s v) r98.toNatClampNeg)) hx hb hr (fun t ht hW => ⟨⟨((X7_s v) r98.toNatClampNeg), (), rfl, hq, (xAt_of hP hK hD ht hW)⟩, hS.F ht⟩) hS.2.2 dX7_toldOfMole_102
            · have hq := hqB n5
              refine lv_tableOut (tgt := 103) hx hb dX7_toldOfMole_1 (by have e0 := lv_neT n0 (show (0 : Int32).toInt = 0 from by decide); have e1 := lv_neT n1 (show (1 : Int32).toInt = 1 from by decide); have e2 := lv_neT n2 (show (2 : Int32).toInt = 2 from by decide); have e3 := lv_neT n3 (show (3 : Int32).toInt = 3 from by decide); have e4 := lv_neT n4 (show (4 : Int32).toInt = 4 from by decide); have e5 := lv_neT n5 (show (5 : Int32).toInt = 5 from by decide); omega) (by decide) ?_
              refine lv_aload_n hx hb dX7_toldOfMole_103 rfl (lv_at hl 0 rfl) ?_
              refine va_get (D := (dC, dI)) (ci := 7) (v := .ref (a 1)) (C := RX7) (T := TX7) (N := 16) hx hb hts iK7 hown hK hP 0 rfl rfl 0 (by decide) lk0 (fun _ h9 => h9) rfl dX7_toldOfMole_104 ?_
              refine lv_iload_n hx hb dX7_toldOfMole_107 rfl (lv_at hl 1 rfl) ?_
              refine lv_bipush (v := 45) hx hb dX7_toldOfMole_108 (by decide) ?_
              have hFc := xfree_none hS hAe0
              refine va_calli (va_runS (As := [.int x1, .int 45]) (rest := [.ref (a 1)]) ⟨hx, hb, hml, hown, hts⟩ (c_X7_of l dC dI cy  _ x1 45 _ hq) (va_cwS 2 hts gX7_toldOfMole_X7_of rfl rfl rfl (by decide +kernel) ⟨Nat.le_of_ble_eq_true rfl, Nat.le_of_ble_eq_true rfl⟩) ⟨xPre_blind, xPre_of xP_nil hK (xD_nil (A := A))⟩ rfl rfl hl.1 rfl (lv_room (Nat.le_of_ble_eq_true rfl)) dX7_toldOfMole_110 ⟨Nat.le_of_ble_eq_true rfl, Nat.le_of_ble_eq_true rfl⟩) hS (fun q _ h => hFc q h) hFc (fun r110 u9 t H locs ht hvm hq hB hz1 hk1 hS => ?_)
              have hP := xj_none hP hk1
              obtain ⟨g9, hq⟩ := hq
              refine va_iald hx hb hK hP 1 0 rfl rfl g9 dX7_toldOfMole_113 ?_
              exact W.iret (v := ((X7_s v) r110.toNatClampNeg)) hx hb hr (fun t ht hW => ⟨⟨((X7_s v) r110.toNatClampNeg), (), rfl, hq, (xAt_of hP hK hD ht hW)⟩, hS.F ht⟩) hS.2.2 dX7_toldOfMole_114
def wp_X7_moleOf_28 (v : V_X7) (x1 : Int32) (x2 : Int32) (k28_0 : Int32) (Q : Int32 → Int32 → Prop) : Prop :=
  wp_X7_holds v k28_0 (fun r28 z28_v_thrown =>
  ((r28 = 0 → Q 0 z28_v_thrown) ∧
  (¬ r28 = 0 → wp_X7_toldOfMole (X7_s8 v z28_v_thrown) x1 x2 (fun r37 =>
  Q r37 z28_v_thrown))))
def wp_X7_moleOf (v : V_X7) (x1 : Int32) (x2 : Int32) (Q : Int32 → Int32 → Prop) : Prop :=
  wp_X7_isMole v x1 (fun r3 =>
  ((r3 = 0 → wp_X7_moleOf_28 v x1 x2 1  Q) ∧
  (¬ r3 = 0 → wp_X7_in x2 0 6 (fun r17 =>
  ((r17 = 0 → wp_X7_moleOf_28 v x1 x2 2  Q) ∧
  (¬ r17 = 0 → wp_X7_moleOf_28 v x1 x2 0  Q))))))
def q_X7_moleOf (dC : Nat → ClassId) (dI : Nat → Nat → Nat) (cy : Nat → ClassId) (a : Nat → Nat) (v : V_X7) (x1 : Int32) (x2 : Int32) (Q : Int32 → Int32 → Prop) (A : Nat → Prop) : Array Value → State → Outcome → State → Prop := va_Qi (fun (r : Int32) (u : Int32) => Q r u) (fun (u : Int32) t => xAt dC dI cy A (cX7 cy a (X7_s v) (X7_aside v) (X7_kept v) (X7_isKept v) (X7_saved v) (X7_savedMany v) (X7_text v) (X7_length v) u (X7_joint v) (X7_position v) (X7_isWrong v) (X7_isHollow v) (X7_sure v) (X7_away v) (X7_digested v)) t) A
set_option maxHeartbeats 4000000 in
set_option maxRecDepth 100000 in
theorem c_X7_moleOf (l : Launch) (dC : Nat → ClassId) (dI : Nat → Nat → Nat) (cy : Nat → ClassId) (a : Nat → Nat) (sz : Nat) (v : V_X7) (x1 : Int32) (x2 : Int32) (Q : Int32 → Int32 → Prop) (hq : wp_X7_moleOf v x1 x2 Q) : Met l yX7_moleOf wsX7_moleOf ({ frames := 2, cells := 0, slots := 0, locals := 43 } : Room) (va_Pc [.ref (a 0), .int x1, .int x2] (xPre dC dI cy (wX7 cy a v) sz)) (q_X7_moleOf dC dI cy a v x1 x2 Q (va_A (wX7 cy a v) sz)) 0 0 (va_A (wX7 cy a v) sz) := by
  refine Met.ofW (cc := cX7_moleOf) (maxL := 3) (ret := (some .int)) (by decide) rfl ?_
  intro p e s m args below meth c s₁ B hml hv
  obtain ⟨rfl, hsz, hP, hK, hD0⟩ := hv
  have hx := B.exec
  have hb := B.bytes
  have hr := B.returns
  have hts := atoms_spec (ws := wsX7_moleOf) B.pre
  have hown : s.vm.findClass RX7 = some m.cls := findClass_of_methodNamed B.named
  have hlocks := B.notSynchronized
  subst hsz
  have hD := hD0.self (sz := s.heap.size)
  generalize hAe : va_A (wX7 cy a v) s.heap.size = A at hD ⊢
  have hAe0 : ∀ q : Nat, s.heap.size ≤ q → A q := fun q h => by rw [← hAe]; exact Or.inr h
  have hS : va_S A s.heap s.heap [] := va_S.rf
  have hl := lv_entry ([.ref (a 0), .int x1, .int x2]) (n := 3) (Nat.le_of_ble_eq_true rfl)
  rw [lg_entry_eq]
  generalize (lg_sl ([.ref (a 0), .int x1, .int x2]) ++ List.replicate (3 - (lg_sl ([.ref (a 0), .int x1, .int x2])).length) Slot.unset).toArray = ls at hl ⊢
  have hl : lv_has ls 3 [(0, .ref (a 0)), (1, .int x1), (2, .int x2)] := hl
  unfold wp_X7_moleOf at hq
  have J28 : ∀ (k28_0 : Int32) (H : Heap) (locs : List Loc) (ls : Array Slot), wp_X7_moleOf_28 v x1 x2 k28_0 Q → va_P (dC, dI) vwCl (wX7 cy a v) H → va_D A (wX7 cy a v) → va_S A s.heap H locs → lv_has ls 3 [(0, .ref (a 0)), (1, .int x1), (2, .int x2)] → W p l e (headSpec wsX7_moleOf ({ frames := 2, cells := 0, slots := 0, locals := 43 } : Room)).room s m ([.ref (a 0), .int x1, .int x2] : List Value).toArray below meth c H locs 0 0 (MQ below (q_X7_moleOf dC dI cy a v x1 x2 Q A) ([.ref (a 0), .int x1, .int x2] : List Value).toArray s 0 0 A) (F0 m 28 ls [.int k28_0, .ref (a 0)]) := by
    intro k28_0 H locs ls hq hP hD hS hl
    unfold wp_X7_moleOf_28 at hq
    have hFc := xfree_same hS hAe0 (ws := (wX7 cy a v)) hD
    refine va_calli (va_runV (As := [.int k28_0]) (rest := []) ⟨hx, hb, hml, hown, hts⟩ (c_X7_holds l dC dI cy a _ v k28_0 _ hq) (cwV 1 hts gX7_moleOf_X7_holds rfl rfl rfl (by decide +kernel) ⟨Nat.le_of_ble_eq_true rfl, Nat.le_of_ble_eq_true rfl⟩) ⟨xPre_blind, va_recv hK hP (ci := 7) (q0 := 0) rfl rfl, xPre_of hP hK hD⟩ rfl rfl hl.1 rfl (lv_room (Nat.le_of_ble_eq_true rfl)) dX7_moleOf_28 ⟨Nat.le_of_ble_eq_true rfl, Nat.le_of_ble_eq_true rfl⟩) hS (fun q _ h => hFc q h) hFc (fun r28 z28_v_thrown t H locs ht hvm hq hB hz1 hk1 hS => ?_)
    obtain ⟨hP1, -, hD1⟩ := hB
    rw [ht] at hP1
    have hP : va_P (dC, dI) vwCl (cX7 cy a (X7_s v) (X7_aside v) (X7_kept v) (X7_isKept v) (X7_saved v) (X7_savedMany v) (X7_text v) (X7_length v) z28_v_thrown (X7_joint v) (X7_position v) (X7_isWrong v) (X7_isHollow v) (X7_sure v) (X7_away v) (X7_digested v)) H := hP1
    have hD : va_D A (cX7 cy a (X7_s v) (X7_aside v) (X7_kept v) (X7_isKept v) (X7_saved v) (X7_savedMany v) (X7_text v) (X7_length v) z28_v_thrown (X7_joint v) (X7_position v) (X7_isWrong v) (X7_isHollow v) (X7_sure v) (X7_away v) (X7_digested v)) := hD1.weaken (fun _ q _ h => hFc q.1 h)
    obtain ⟨hqA, hqB⟩ := hq
    refine lv_if_eq (tgt := 43) hx hb dX7_moleOf_31 (by decide) (fun c1 => ?_) (fun c1 => ?_)
    · have hq := hqA c1
      refine lv_iconst (v := 0) hx hb dX7_moleOf_43 (by decide) ?_
      exact W.iret (v := 0) hx hb hr (fun t ht hW => ⟨⟨0, z28_v_thrown, rfl, hq, (xAt_of hP hK hD ht hW)⟩, hS.F ht⟩) hS.2.2 dX7_moleOf_44
    · have hq := hqB c1
      refine lv_aload_n hx hb dX7_moleOf_34 rfl (lv_at hl 0 rfl) ?_
      refine lv_iload_n hx hb dX7_moleOf_35 rfl (lv_at hl 1 rfl) ?_
      refine lv_iload_n hx hb dX7_moleOf_36 rfl (lv_at hl 2 rfl) ?_
      have hFc := xfree_same hS hAe0 (ws := (cX7 cy a (X7_s v) (X7_aside v) (X7_kept v) (X7_isKept v) (X7_saved v) (X7_savedMany v) (X7_text v) (X7_length v) z28_v_thrown (X7_joint v) (X7_position v) (X7_isWrong v) (X7_isHollow v) (X7_sure v) (X7_away v) (X7_digested v))) hD
      refine va_calli (va_runV (As := [.int x1, .int x2]) (rest := []) ⟨hx, hb, hml, hown, hts⟩ (c_X7_toldOfMole l dC dI cy a _ (X7_s8 v z28_v_thrown) x1 x2 _ hq) (cwV 2 hts gX7_moleOf_X7_toldOfMole rfl rfl rfl (by decide +kernel) ⟨Nat.le_of_ble_eq_true rfl, Nat.le_of_ble_eq_true rfl⟩) ⟨xPre_blind, va_recv hK hP (ci := 7) (q0 := 0) rfl rfl, xPre_of hP hK hD⟩ rfl rfl hl.1 rfl (lv_room (Nat.le_of_ble_eq_true rfl)) dX7_moleOf_37 ⟨Nat.le_of_ble_eq_true rfl, Nat.le_of_ble_eq_true rfl⟩) hS (fun q _ h => hFc q h) hFc (fun r37 u9 t H locs ht hvm hq hB hz1 hk1 hS => ?_)
      obtain ⟨hP1, -, hD1⟩ := hB
      rw [ht] at hP1
      have hP : va_P (dC, dI) vwCl (cX7 cy a (X7_s v) (X7_aside v) (X7_kept v) (X7_isKept v) (X7_saved v) (X7_savedMany v) (X7_text v) (X7_length v) z28_v_thrown (X7_joint v) (X7_position v) (X7_isWrong v) (X7_isHollow v) (X7_sure v) (X7_away v) (X7_digested v)) H := hP1
      have hD : va_D A (cX7 cy a (X7_s v) (X7_aside v) (X7_kept v) (X7_isKept v) (X7_saved v) (X7_savedMany v) (X7_text v) (X7_length v) z28_v_thrown (X7_joint v) (X7_position v) (X7_isWrong v) (X7_isHollow v) (X7_sure v) (X7_away v) (X7_digested v)) := hD1.weaken (fun _ q _ h => hFc q.1 h)
      refine lv_goto (tgt := 44) hx hb dX7_moleOf_40 (by decide) ?_
      exact W.iret (v := r37) hx hb hr (fun t ht hW => ⟨⟨r37, z28_v_thrown, rfl, hq, (xAt_of hP hK hD ht hW)⟩, hS.F ht⟩) hS.2.2 dX7_moleOf_44
  refine lv_aload_n hx hb dX7_moleOf_0 rfl (lv_at hl 0 rfl) ?_
  refine lv_aload_n hx hb dX7_moleOf_1 rfl (lv_at hl 0 rfl) ?_
  refine lv_iload_n hx hb dX7_moleOf_2 rfl (lv_at hl 1 rfl) ?_
  have hFc := xfree_same hS hAe0 (ws := (wX7 cy a v)) hD
  refine va_calli (va_runV (As := [.int x1]) (rest := [.ref (a 0)]) ⟨hx, hb, hml, hown, hts⟩ (c_X7_isMole l dC dI cy a _ v x1 _ hq) (cwV 1 hts gX7_moleOf_X7_isMole rfl rfl rfl (by decide +kernel) ⟨Nat.le_of_ble_eq_true rfl, Nat.le_of_ble_eq_true rfl⟩) ⟨xPre_blind, va_recv hK hP (ci := 7) (q0 := 0) rfl rfl, xPre_of hP hK hD⟩ rfl rfl hl.1 rfl (lv_room (Nat.le_of_ble_eq_true rfl)) dX7_moleOf_3 ⟨Nat.le_of_ble_eq_true rfl, Nat.le_of_ble_eq_true rfl⟩) hS (fun q _ h => hFc q h) hFc (fun r3 u9 t H locs ht hvm hq hB hz1 hk1 hS => ?_)
  obtain ⟨hP1, -, hD1⟩ := hB
  rw [ht] at hP1
  have hP : va_P (dC, dI) vwCl (wX7 cy a v) H := hP1
  have hD : va_D A (wX7 cy a v) := hD1.weaken (fun _ q _ h => hFc q.1 h)
  obtain ⟨hqA, hqB⟩ := hq
  refine lv_if_ne (tgt := 13) hx hb dX7_moleOf_6 (by decide) (fun c3 => ?_) (fun c3 => ?_)
  · have hq := hqB c3
    refine lv_iload_n hx hb dX7_moleOf_13 rfl (lv_at hl 2 rfl) ?_
    refine lv_iconst (v := 0) hx hb dX7_moleOf_14 (by decide) ?_
    refine lv_bipush (v := 6) hx hb dX7_moleOf_15 (by decide) ?_
    have hFc := xfree_none hS hAe0
    refine va_calli (va_runS (As := [.int x2, .int 0, .int 6]) (rest := [.ref (a 0)]) ⟨hx, hb, hml, hown, hts⟩ (c_X7_in l dC dI cy  _ x2 0 6 _ hq) (va_cwS 3 hts gX7_moleOf_X7_in rfl rfl rfl (by decide +kernel) ⟨Nat.le_of_ble_eq_true rfl, Nat.le_of_ble_eq_true rfl⟩) ⟨xPre_blind, xPre_of xP_nil hK (xD_nil (A := A))⟩ rfl rfl hl.1 rfl (lv_room (Nat.le_of_ble_eq_true rfl)) dX7_moleOf_17 ⟨Nat.le_of_ble_eq_true rfl, Nat.le_of_ble_eq_true rfl⟩) hS (fun q _ h => hFc q h) hFc (fun r17 u9 t H locs ht hvm hq hB hz1 hk1 hS => ?_)
    have hP := xj_none hP hk1
    obtain ⟨hqA, hqB⟩ := hq
    refine lv_if_ne (tgt := 27) hx hb dX7_moleOf_20 (by decide) (fun c2 => ?_) (fun c2 => ?_)
    · have hq := hqB c2
      refine lv_iconst (v := 0) hx hb dX7_moleOf_27 (by decide) ?_
      exact J28 0  _ _ _ hq hP hD hS (lv_sub hl [0, 1, 2] rfl)
    · have hq := hqA c2
      refine lv_iconst (v := 2) hx hb dX7_moleOf_23 (by decide) ?_
      refine lv_goto (tgt := 28) hx hb dX7_moleOf_24 (by decide) ?_
      exact J28 2  _ _ _ hq hP hD hS (lv_sub hl [0, 1, 2] rfl)
  · have hq := hqA c3
    refine lv_iconst (v := 1) hx hb dX7_moleOf_9 (by decide) ?_
    refine lv_goto (tgt := 28) hx hb dX7_moleOf_10 (by decide) ?_
    exact J28 1  _ _ _ hq hP hD hS (lv_sub hl [0, 1, 2] rfl)
def wp_X7_isTunnel (v : V_X7) (x1 : Int32) (Q : Int32 → Prop) : Prop :=
  wp_X7_tunnels v (fun r3 =>
  wp_X7_in x1 0 (r3 - 1) (fun r8 =>
  bz r8 ∧ Q r8))
def q_X7_isTunnel (dC : Nat → ClassId) (dI : Nat → Nat → Nat) (cy : Nat → ClassId) (a : Nat → Nat) (v : V_X7) (x1 : Int32) (Q : Int32 → Prop) (A : Nat → Prop) : Array Value → State → Outcome → State → Prop := va_Qi (fun (r : Int32) (u : Unit) => Q r ) (fun (u : Unit) t => xAt dC dI cy A (wX7 cy a v) t) A
set_option maxHeartbeats 4000000 in
set_option maxRecDepth 100000 in
theorem c_X7_isTunnel (l : Launch) (dC : Nat → ClassId) (dI : Nat → Nat → Nat) (cy : Nat → ClassId) (a : Nat → Nat) (sz : Nat) (v : V_X7) (x1 : Int32) (Q : Int32 → Prop) (hq : wp_X7_isTunnel v x1 Q) : Met l yX7_isTunnel wsX7_isTunnel ({ frames := 1, cells := 0, slots := 0, locals := 22 } : Room) (va_Pc [.ref (a 0), .int x1] (xPre dC dI cy (wX7 cy a v) sz)) (q_X7_isTunnel dC dI cy a v x1 Q (va_A (wX7 cy a v) sz)) 0 0 (va_A (wX7 cy a v) sz) := by
  refine Met.ofW (cc := cX7_isTunnel) (maxL := 2) (ret := (some .boolean)) (by decide) rfl ?_
  intro p e s m args below meth c s₁ B hml hv
  obtain ⟨rfl, hsz, hP, hK, hD0⟩ := hv
  have hx := B.exec
  have hb := B.bytes
  have hr := B.returns
  have hts := atoms_spec (ws := wsX7_isTunnel) B.pre
  have hown : s.vm.findClass RX7 = some m.cls := findClass_of_methodNamed B.named
  have hlocks := B.notSynchronized
  subst hsz
  have hD := hD0.self (sz := s.heap.size)
  generalize hAe : va_A (wX7 cy a v) s.heap.size = A at hD ⊢
  have hAe0 : ∀ q : Nat, s.heap.size ≤ q → A q := fun q h => by rw [← hAe]; exact Or.inr h
  have hS : va_S A s.heap s.heap [] := va_S.rf
  have hl := lv_entry ([.ref (a 0), .int x1]) (n := 2) (Nat.le_of_ble_eq_true rfl)
  rw [lg_entry_eq]
  generalize (lg_sl ([.ref (a 0), .int x1]) ++ List.replicate (2 - (lg_sl ([.ref (a 0), .int x1])).length) Slot.unset).toArray = ls at hl ⊢
  have hl : lv_has ls 2 [(0, .ref (a 0)), (1, .int x1)] := hl
  unfold wp_X7_isTunnel at hq
  refine lv_iload_n hx hb dX7_isTunnel_0 rfl (lv_at hl 1 rfl) ?_
  refine lv_iconst (v := 0) hx hb dX7_isTunnel_1 (by decide) ?_
  refine lv_aload_n hx hb dX7_isTunnel_2 rfl (lv_at hl 0 rfl) ?_
  have hFc := xfree_same hS hAe0 (ws := (wX7 cy a v)) hD
  refine va_calli (va_runV (As := []) (rest := [.int 0, .int x1]) ⟨hx, hb, hml, hown, hts⟩ (c_X7_tunnels l dC dI cy a _ v _ hq) (cwV 0 hts gX7_isTunnel_X7_tunnels rfl rfl rfl (by decide +kernel) ⟨Nat.le_of_ble_eq_true rfl, Nat.le_of_ble_eq_true rfl⟩) ⟨xPre_blind, va_recv hK hP (ci := 7) (q0 := 0) rfl rfl, xPre_of hP hK hD⟩ rfl rfl hl.1 rfl (lv_room (Nat.le_of_ble_eq_true rfl)) dX7_isTunnel_3 ⟨Nat.le_of_ble_eq_true rfl, Nat.le_of_ble_eq_true rfl⟩) hS (fun q _ h => hFc q h) hFc (fun r3 u9 t H locs ht hvm hq hB hz1 hk1 hS => ?_)
  obtain ⟨hP1, -, hD1⟩ := hB
  rw [ht] at hP1
  have hP : va_P (dC, dI) vwCl (wX7 cy a v) H := hP1
  have hD : va_D A (wX7 cy a v) := hD1.weaken (fun _ q _ h => hFc q.1 h)
  refine lv_iconst (v := 1) hx hb dX7_isTunnel_6 (by decide) ?_
  refine lv_isub hx hb dX7_isTunnel_7 ?_
  have hFc := xfree_none hS hAe0
  refine va_calli (va_runS (As := [.int x1, .int 0, .int (r3 - 1)]) (rest := []) ⟨hx, hb, hml, hown, hts⟩ (c_X7_in l dC dI cy  _ x1 0 (r3 - 1) _ hq) (va_cwS 3 hts gX7_isTunnel_X7_in rfl rfl rfl (by decide +kernel) ⟨Nat.le_of_ble_eq_true rfl, Nat.le_of_ble_eq_true rfl⟩) ⟨xPre_blind, xPre_of xP_nil hK (xD_nil (A := A))⟩ rfl rfl hl.1 rfl (lv_room (Nat.le_of_ble_eq_true rfl)) dX7_isTunnel_8 ⟨Nat.le_of_ble_eq_true rfl, Nat.le_of_ble_eq_true rfl⟩) hS (fun q _ h => hFc q h) hFc (fun r8 u9 t H locs ht hvm hq hB hz1 hk1 hS => ?_)
  have hP := xj_none hP hk1
  obtain ⟨g1, hq⟩ := hq
  exact W.zret (v := r8) hx hb hr (bz_nar g1) (fun t ht hW => ⟨⟨r8, (), rfl, hq, (xAt_of hP hK hD ht hW)⟩, hS.F ht⟩) hS.2.2 dX7_isTunnel_11
def wp_X7_toldOfTunnel (v : V_X7) (x1 : Int32) (x2 : Int32) (Q : Int32 → Prop) : Prop :=
  wp_X7_beginOf v x1 (fun r2 =>
  wp_X7_endFrom v r2 (fun r8 =>
  ((x2 = 0 → wp_X7_tuftAt v r2 (fun r19 =>
  Q r19)) ∧
  (¬ x2 = 0 → ((x2 = 1 → wp_X7_tuftAt v r8 (fun r33 =>
  Q r33)) ∧
  (¬ x2 = 1 → Q ((r8 - r2) + 1)))))))
def q_X7_toldOfTunnel (dC : Nat → ClassId) (dI : Nat → Nat → Nat) (cy : Nat → ClassId) (a : Nat → Nat) (v : V_X7) (x1 : Int32) (x2 : Int32) (Q : Int32 → Prop) (A : Nat → Prop) : Array Value → State → Outcome → State → Prop := va_Qi (fun (r : Int32) (u : Unit) => Q r ) (fun (u : Unit) t => xAt dC dI cy A (wX7 cy a v) t) A
set_option maxHeartbeats 4000000 in
set_option maxRecDepth 100000 in
theorem c_X7_toldOfTunnel (l : Launch) (dC : Nat → ClassId) (dI : Nat → Nat → Nat) (cy : Nat → ClassId) (a : Nat → Nat) (sz : Nat) (v : V_X7) (x1 : Int32) (x2 : Int32) (Q : Int32 → Prop) (hq : wp_X7_toldOfTunnel v x1 x2 Q) : Met l yX7_toldOfTunnel wsX7_toldOfTunnel ({ frames := 2, cells := 0, slots := 0, locals := 45 } : Room) (va_Pc [.ref (a 0), .int x1, .int x2] (xPre dC dI cy (wX7 cy a v) sz)) (q_X7_toldOfTunnel dC dI cy a v x1 x2 Q (va_A (wX7 cy a v) sz)) 0 0 (va_A (wX7 cy a v) sz) := by
  refine Met.ofW (cc := cX7_toldOfTunnel) (maxL := 5) (ret := (some .int)) (by decide) rfl ?_
  intro p e s m args below meth c s₁ B hml hv
  obtain ⟨rfl, hsz, hP, hK, hD0⟩ := hv
  have hx := B.exec
  have hb := B.bytes
  have hr := B.returns
  have hts := atoms_spec (ws := wsX7_toldOfTunnel) B.pre
  have hown : s.vm.findClass RX7 = some m.cls := findClass_of_methodNamed B.named
  have hlocks := B.notSynchronized
  subst hsz
  have hD := hD0.self (sz := s.heap.size)
  generalize hAe : va_A (wX7 cy a v) s.heap.size = A at hD ⊢
  have hAe0 : ∀ q : Nat, s.heap.size ≤ q → A q := fun q h => by rw [← hAe]; exact Or.inr h
  have hS : va_S A s.heap s.heap [] := va_S.rf
  have hl := lv_entry ([.ref (a 0), .int x1, .int x2]) (n := 5) (Nat.le_of_ble_eq_true rfl)
  rw [lg_entry_eq]
  generalize (lg_sl ([.ref (a 0), .int x1, .int x2]) ++ List.replicate (5 - (lg_sl ([.ref (a 0), .int x1, .int x2])).length) Slot.unset).toArray = ls at hl ⊢
  have hl : lv_has ls 5 [(0, .ref (a 0)), (1, .int x1), (2, .int x2)] := hl
  unfold wp_X7_toldOfTunnel at hq
  refine lv_aload_n hx hb dX7_toldOfTunnel_0 rfl (lv_at hl 0 rfl) ?_
  refine lv_iload_n hx hb dX7_toldOfTunnel_1 rfl (lv_at hl 1 rfl) ?_
  have hFc := xfree_same hS hAe0 (ws := (wX7 cy a v)) hD
  refine va_calli (va_runV (As := [.int x1]) (rest := []) ⟨hx, hb, hml, hown, hts⟩ (c_X7_beginOf l dC dI cy a _ v x1 _ hq) (cwV 1 hts gX7_toldOfTunnel_X7_beginOf rfl rfl rfl (by decide +kernel) ⟨Nat.le_of_ble_eq_true rfl, Nat.le_of_ble_eq_true rfl⟩) ⟨xPre_blind, va_recv hK hP (ci := 7) (q0 := 0) rfl rfl, xPre_of hP hK hD⟩ rfl rfl hl.1 rfl (lv_room (Nat.le_of_ble_eq_true rfl)) dX7_toldOfTunnel_2 ⟨Nat.le_of_ble_eq_true rfl, Nat.le_of_ble_eq_true rfl⟩) hS (fun q _ h => hFc q h) hFc (fun r2 u9 t H locs ht hvm hq hB hz1 hk1 hS => ?_)
  obtain ⟨hP1, -, hD1⟩ := hB
  rw [ht] at hP1
  have hP : va_P (dC, dI) vwCl (wX7 cy a v) H := hP1
  have hD : va_D A (wX7 cy a v) := hD1.weaken (fun _ q _ h => hFc q.1 h)
  refine lv_istore_n (lv' := [(3, .int r2), (0, .ref (a 0)), (1, .int x1), (2, .int x2)]) hx hb dX7_toldOfTunnel_5 rfl hl (by decide) rfl (fun ls hl => ?_)
  refine lv_aload_n hx hb dX7_toldOfTunnel_6 rfl (lv_at hl 1 rfl) ?_
  refine lv_iload_n hx hb dX7_toldOfTunnel_7 rfl (lv_at hl 0 rfl) ?_
  have hFc := xfree_same hS hAe0 (ws := (wX7 cy a v)) hD
  refine va_calli (va_runV (As := [.int r2]) (rest := []) ⟨hx, hb, hml, hown, hts⟩ (c_X7_endFrom l dC dI cy a _ v r2 _ hq) (cwV 1 hts gX7_toldOfTunnel_X7_endFrom rfl rfl rfl (by decide +kernel) ⟨Nat.le_of_ble_eq_true rfl, Nat.le_of_ble_eq_true rfl⟩) ⟨xPre_blind, va_recv hK hP (ci := 7) (q0 := 0) rfl rfl, xPre_of hP hK hD⟩ rfl rfl hl.1 rfl (lv_room (Nat.le_of_ble_eq_true rfl)) dX7_toldOfTunnel_8 ⟨Nat.le_of_ble_eq_true rfl, Nat.le_of_ble_eq_true rfl⟩) hS (fun q _ h => hFc q h) hFc (fun r8 u9 t H locs ht hvm hq hB hz1 hk1 hS => ?_)
  obtain ⟨hP1, -, hD1⟩ := hB
  rw [ht] at hP1
  have hP : va_P (dC, dI) vwCl (wX7 cy a v) H := hP1
  have hD : va_D A (wX7 cy a v) := hD1.weaken (fun _ q _ h => hFc q.1 h)
  refine lv_istore (lv' := [(4, .int r8), (3, .int r2), (0, .ref (a 0)), (1, .int x1), (2, .int x2)]) hx hb dX7_toldOfTunnel_11 hl (by decide) rfl (fun ls hl => ?_)
  refine lv_iload_n hx hb dX7_toldOfTunnel_13 rfl (lv_at hl 4 rfl) ?_
  obtain ⟨hqA, hqB⟩ := hq
  refine lv_if_ne (tgt := 25) hx hb dX7_toldOfTunnel_14 (by decide) (fun c2 => ?_) (fun c2 => ?_)
  · have hq := hqB c2
    refine lv_iload_n hx hb dX7_toldOfTunnel_25 rfl (lv_at hl 4 rfl) ?_
    refine lv_iconst (v := 1) hx hb dX7_toldOfTunnel_26 (by decide) ?_
    obtain ⟨hqA, hqB⟩ := hq
    refine lv_icmp_ne (tgt := 39) hx hb dX7_toldOfTunnel_27 (by decide) (fun c1 => ?_) (fun c1 => ?_)
    · have hq := hqB c1
      refine lv_iload hx hb dX7_toldOfTunnel_39 (lv_at hl 0 rfl) ?_
      refine lv_iload_n hx hb dX7_toldOfTunnel_41 rfl (lv_at hl 1 rfl) ?_
      refine lv_isub hx hb dX7_toldOfTunnel_42 ?_
      refine lv_iconst (v := 1) hx hb dX7_toldOfTunnel_43 (by decide) ?_
      refine lv_iadd hx hb dX7_toldOfTunnel_44 ?_
      exact W.iret (v := ((r8 - r2) + 1)) hx hb hr (fun t ht hW => ⟨⟨((r8 - r2) + 1), (), rfl, hq, (xAt_of hP hK hD ht hW)⟩, hS.F ht⟩) hS.2.2 dX7_toldOfTunnel_45
    · have hq := hqA c1
      refine lv_aload_n hx hb dX7_toldOfTunnel_30 rfl (lv_at hl 2 rfl) ?_
      refine lv_iload hx hb dX7_toldOfTunnel_31 (lv_at hl 0 rfl) ?_
      have hFc := xfree_same hS hAe0 (ws := (wX7 cy a v)) hD
      refine va_calli (va_runV (As := [.int r8]) (rest := []) ⟨hx, hb, hml, hown, hts⟩ (c_X7_tuftAt l dC dI cy a _ v r8 _ hq) (cwV 1 hts gX7_toldOfTunnel_X7_tuftAt rfl rfl rfl (by decide +kernel) ⟨Nat.le_of_ble_eq_true rfl, Nat.le_of_ble_eq_true rfl⟩) ⟨xPre_blind, va_recv hK hP (ci := 7) (q0 := 0) rfl rfl, xPre_of hP hK hD⟩ rfl rfl hl.1 rfl (lv_room (Nat.le_of_ble_eq_true rfl)) dX7_toldOfTunnel_33 ⟨Nat.le_of_ble_eq_true rfl, Nat.le_of_ble_eq_true rfl⟩) hS (fun q _ h => hFc q h) hFc (fun r33 u9 t H locs ht hvm hq hB hz1 hk1 hS => ?_)
      obtain ⟨hP1, -, hD1⟩ := hB
      rw [ht] at hP1
      have hP : va_P (dC, dI) vwCl (wX7 cy a v) H := hP1
      have hD : va_D A (wX7 cy a v) := hD1.weaken (fun _ q _ h => hFc q.1 h)
      refine lv_goto (tgt := 45) hx hb dX7_toldOfTunnel_36 (by decide) ?_
      exact W.iret (v := r33) hx hb hr (fun t ht hW => ⟨⟨r33, (), rfl, hq, (xAt_of hP hK hD ht hW)⟩, hS.F ht⟩) hS.2.2 dX7_toldOfTunnel_45
  · have hq := hqA c2
    refine lv_aload_n hx hb dX7_toldOfTunnel_17 rfl (lv_at hl 2 rfl) ?_
    refine lv_iload_n hx hb dX7_toldOfTunnel_18 rfl (lv_at hl 1 rfl) ?_
    have hFc := xfree_same hS hAe0 (ws := (wX7 cy a v)) hD
    refine va_calli (va_runV (As := [.int r2]) (rest := []) ⟨hx, hb, hml, hown, hts⟩ (c_X7_tuftAt l dC dI cy a _ v r2 _ hq) (cwV 1 hts gX7_toldOfTunnel_X7_tuftAt rfl rfl rfl (by decide +kernel) ⟨Nat.le_of_ble_eq_true rfl, Nat.le_of_ble_eq_true rfl⟩) ⟨xPre_blind, va_recv hK hP (ci := 7) (q0 := 0) rfl rfl, xPre_of hP hK hD⟩ rfl rfl hl.1 rfl (lv_room (Nat.le_of_ble_eq_true rfl)) dX7_toldOfTunnel_19 ⟨Nat.le_of_ble_eq_true rfl, Nat.le_of_ble_eq_true rfl⟩) hS (fun q _ h => hFc q h) hFc (fun r19 u9 t H locs ht hvm hq hB hz1 hk1 hS => ?_)
    obtain ⟨hP1, -, hD1⟩ := hB
    rw [ht] at hP1
    have hP : va_P (dC, dI) vwCl (wX7 cy a v) H := hP1
    have hD : va_D A (wX7 cy a v) := hD1.weaken (fun _ q _ h => hFc q.1 h)
    refine lv_goto (tgt := 45) hx hb dX7_toldOfTunnel_22 (by decide) ?_
    exact W.iret (v := r19) hx hb hr (fun t ht hW => ⟨⟨r19, (), rfl, hq, (xAt_of hP hK hD ht hW)⟩, hS.F ht⟩) hS.2.2 dX7_toldOfTunnel_45
def wp_X7_tunnel_27 (v : V_X7) (x1 : Int32) (x2 : Int32) (k27_0 : Int32) (Q : Int32 → Int32 → Prop) : Prop :=
  wp_X7_holds v k27_0 (fun r27 z27_v_thrown =>
  ((r27 = 0 → Q 0 z27_v_thrown) ∧
  (¬ r27 = 0 → wp_X7_toldOfTunnel (X7_s8 v z27_v_thrown) x1 x2 (fun r36 =>
  Q r36 z27_v_thrown))))
def wp_X7_tunnel (v : V_X7) (x1 : Int32) (x2 : Int32) (Q : Int32 → Int32 → Prop) : Prop :=
  wp_X7_isTunnel v x1 (fun r3 =>
  ((r3 = 0 → wp_X7_tunnel_27 v x1 x2 1  Q) ∧
  (¬ r3 = 0 → wp_X7_in x2 0 2 (fun r16 =>
  ((r16 = 0 → wp_X7_tunnel_27 v x1 x2 2  Q) ∧
  (¬ r16 = 0 → wp_X7_tunnel_27 v x1 x2 0  Q))))))
def q_X7_tunnel (dC : Nat → ClassId) (dI : Nat → Nat → Nat) (cy : Nat → ClassId) (a : Nat → Nat) (v : V_X7) (x1 : Int32) (x2 : Int32) (Q : Int32 → Int32 → Prop) (A : Nat → Prop) : Array Value → State → Outcome → State → Prop := va_Qi (fun (r : Int32) (u : Int32) => Q r u) (fun (u : Int32) t => xAt dC dI cy A (cX7 cy a (X7_s v) (X7_aside v) (X7_kept v) (X7_isKept v) (X7_saved v) (X7_savedMany v) (X7_text v) (X7_length v) u (X7_joint v) (X7_position v) (X7_isWrong v) (X7_isHollow v) (X7_sure v) (X7_away v) (X7_digested v)) t) A
set_option maxHeartbeats 4000000 in
set_option maxRecDepth 100000 in
theorem c_X7_tunnel (l : Launch) (dC : Nat → ClassId) (dI : Nat → Nat → Nat) (cy : Nat → ClassId) (a : Nat → Nat) (sz : Nat) (v : V_X7) (x1 : Int32) (x2 : Int32) (Q : Int32 → Int32 → Prop) (hq : wp_X7_tunnel v x1 x2 Q) : Met l yX7_tunnel wsX7_tunnel ({ frames := 3, cells := 0, slots := 0, locals := 69 } : Room) (va_Pc [.ref (a 0), .int x1, .int x2] (xPre dC dI cy (wX7 cy a v) sz)) (q_X7_tunnel dC dI cy a v x1 x2 Q (va_A (wX7 cy a v) sz)) 0 0 (va_A (wX7 cy a v) sz) := by
  refine Met.ofW (cc := cX7_tunnel) (maxL := 3) (ret := (some .int)) (by decide) rfl ?_
  intro p e s m args below meth c s₁ B hml hv
  obtain ⟨rfl, hsz, hP, hK, hD0⟩ := hv
  have hx := B.exec
  have hb := B.bytes
  have hr := B.returns
  have hts := atoms_spec (ws := wsX7_tunnel) B.pre
  have hown : s.vm.findClass RX7 = some m.cls := findClass_of_methodNamed B.named
  have hlocks := B.notSynchronized
  subst hsz
  have hD := hD0.self (sz := s.heap.size)
  generalize hAe : va_A (wX7 cy a v) s.heap.size = A at hD ⊢
  have hAe0 : ∀ q : Nat, s.heap.size ≤ q → A q := fun q h => by rw [← hAe]; exact Or.inr h
  have hS : va_S A s.heap s.heap [] := va_S.rf
  have hl := lv_entry ([.ref (a 0), .int x1, .int x2]) (n := 3) (Nat.le_of_ble_eq_true rfl)
  rw [lg_entry_eq]
  generalize (lg_sl ([.ref (a 0), .int x1, .int x2]) ++ List.replicate (3 - (lg_sl ([.ref (a 0), .int x1, .int x2])).length) Slot.unset).toArray = ls at hl ⊢
  have hl : lv_has ls 3 [(0, .ref (a 0)), (1, .int x1), (2, .int x2)] := hl
  unfold wp_X7_tunnel at hq
  have J27 : ∀ (k27_0 : Int32) (H : Heap) (locs : List Loc) (ls : Array Slot), wp_X7_tunnel_27 v x1 x2 k27_0 Q → va_P (dC, dI) vwCl (wX7 cy a v) H → va_D A (wX7 cy a v) → va_S A s.heap H locs → lv_has ls 3 [(0, .ref (a 0)), (1, .int x1), (2, .int x2)] → W p l e (headSpec wsX7_tunnel ({ frames := 3, cells := 0, slots := 0, locals := 69 } : Room)).room s m ([.ref (a 0), .int x1, .int x2] : List Value).toArray below meth c H locs 0 0 (MQ below (q_X7_tunnel dC dI cy a v x1 x2 Q A) ([.ref (a 0), .int x1, .int x2] : List Value).toArray s 0 0 A) (F0 m 27 ls [.int k27_0, .ref (a 0)]) := by
    intro k27_0 H locs ls hq hP hD hS hl
    unfold wp_X7_tunnel_27 at hq
    have hFc := xfree_same hS hAe0 (ws := (wX7 cy a v)) hD
    refine va_calli (va_runV (As := [.int k27_0]) (rest := []) ⟨hx, hb, hml, hown, hts⟩ (c_X7_holds l dC dI cy a _ v k27_0 _ hq) (cwV 1 hts gX7_tunnel_X7_holds rfl rfl rfl (by decide +kernel) ⟨Nat.le_of_ble_eq_true rfl, Nat.le_of_ble_eq_true rfl⟩) ⟨xPre_blind, va_recv hK hP (ci := 7) (q0 := 0) rfl rfl, xPre_of hP hK hD⟩ rfl rfl hl.1 rfl (lv_room (Nat.le_of_ble_eq_true rfl)) dX7_tunnel_27 ⟨Nat.le_of_ble_eq_true rfl, Nat.le_of_ble_eq_true rfl⟩) hS (fun q _ h => hFc q h) hFc (fun r27 z27_v_thrown t H locs ht hvm hq hB hz1 hk1 hS => ?_)
    obtain ⟨hP1, -, hD1⟩ := hB
    rw [ht] at hP1
    have hP : va_P (dC, dI) vwCl (cX7 cy a (X7_s v) (X7_aside v) (X7_kept v) (X7_isKept v) (X7_saved v) (X7_savedMany v) (X7_text v) (X7_length v) z27_v_thrown (X7_joint v) (X7_position v) (X7_isWrong v) (X7_isHollow v) (X7_sure v) (X7_away v) (X7_digested v)) H := hP1
    have hD : va_D A (cX7 cy a (X7_s v) (X7_aside v) (X7_kept v) (X7_isKept v) (X7_saved v) (X7_savedMany v) (X7_text v) (X7_length v) z27_v_thrown (X7_joint v) (X7_position v) (X7_isWrong v) (X7_isHollow v) (X7_sure v) (X7_away v) (X7_digested v)) := hD1.weaken (fun _ q _ h => hFc q.1 h)
    obtain ⟨hqA, hqB⟩ := hq
    refine lv_if_eq (tgt := 42) hx hb dX7_tunnel_30 (by decide) (fun c1 => ?_) (fun c1 => ?_)
    · have hq := hqA c1
      refine lv_iconst (v := 0) hx hb dX7_tunnel_42 (by decide) ?_
      exact W.iret (v := 0) hx hb hr (fun t ht hW => ⟨⟨0, z27_v_thrown, rfl, hq, (xAt_of hP hK hD ht hW)⟩, hS.F ht⟩) hS.2.2 dX7_tunnel_43
    · have hq := hqB c1
      refine lv_aload_n hx hb dX7_tunnel_33 rfl (lv_at hl 0 rfl) ?_
      refine lv_iload_n hx hb dX7_tunnel_34 rfl (lv_at hl 1 rfl) ?_
      refine lv_iload_n hx hb dX7_tunnel_35 rfl (lv_at hl 2 rfl) ?_
      have hFc := xfree_same hS hAe0 (ws := (cX7 cy a (X7_s v) (X7_aside v) (X7_kept v) (X7_isKept v) (X7_saved v) (X7_savedMany v) (X7_text v) (X7_length v) z27_v_thrown (X7_joint v) (X7_position v) (X7_isWrong v) (X7_isHollow v) (X7_sure v) (X7_away v) (X7_digested v))) hD
      refine va_calli (va_runV (As := [.int x1, .int x2]) (rest := []) ⟨hx, hb, hml, hown, hts⟩ (c_X7_toldOfTunnel l dC dI cy a _ (X7_s8 v z27_v_thrown) x1 x2 _ hq) (cwV 2 hts gX7_tunnel_X7_toldOfTunnel rfl rfl rfl (by decide +kernel) ⟨Nat.le_of_ble_eq_true rfl, Nat.le_of_ble_eq_true rfl⟩) ⟨xPre_blind, va_recv hK hP (ci := 7) (q0 := 0) rfl rfl, xPre_of hP hK hD⟩ rfl rfl hl.1 rfl (lv_room (Nat.le_of_ble_eq_true rfl)) dX7_tunnel_36 ⟨Nat.le_of_ble_eq_true rfl, Nat.le_of_ble_eq_true rfl⟩) hS (fun q _ h => hFc q h) hFc (fun r36 u9 t H locs ht hvm hq hB hz1 hk1 hS => ?_)
      obtain ⟨hP1, -, hD1⟩ := hB
      rw [ht] at hP1
      have hP : va_P (dC, dI) vwCl (cX7 cy a (X7_s v) (X7_aside v) (X7_kept v) (X7_isKept v) (X7_saved v) (X7_savedMany v) (X7_text v) (X7_length v) z27_v_thrown (X7_joint v) (X7_position v) (X7_isWrong v) (X7_isHollow v) (X7_sure v) (X7_away v) (X7_digested v)) H := hP1
      have hD : va_D A (cX7 cy a (X7_s v) (X7_aside v) (X7_kept v) (X7_isKept v) (X7_saved v) (X7_savedMany v) (X7_text v) (X7_length v) z27_v_thrown (X7_joint v) (X7_position v) (X7_isWrong v) (X7_isHollow v) (X7_sure v) (X7_away v) (X7_digested v)) := hD1.weaken (fun _ q _ h => hFc q.1 h)
      refine lv_goto (tgt := 43) hx hb dX7_tunnel_39 (by decide) ?_
      exact W.iret (v := r36) hx hb hr (fun t ht hW => ⟨⟨r36, z27_v_thrown, rfl, hq, (xAt_of hP hK hD ht hW)⟩, hS.F ht⟩) hS.2.2 dX7_tunnel_43
  refine lv_aload_n hx hb dX7_tunnel_0 rfl (lv_at hl 0 rfl) ?_
  refine lv_aload_n hx hb dX7_tunnel_1 rfl (lv_at hl 0 rfl) ?_
  refine lv_iload_n hx hb dX7_tunnel_2 rfl (lv_at hl 1 rfl) ?_
  have hFc := xfree_same hS hAe0 (ws := (wX7 cy a v)) hD
  refine va_calli (va_runV (As := [.int x1]) (rest := [.ref (a 0)]) ⟨hx, hb, hml, hown, hts⟩ (c_X7_isTunnel l dC dI cy a _ v x1 _ hq) (cwV 1 hts gX7_tunnel_X7_isTunnel rfl rfl rfl (by decide +kernel) ⟨Nat.le_of_ble_eq_true rfl, Nat.le_of_ble_eq_true rfl⟩) ⟨xPre_blind, va_recv hK hP (ci := 7) (q0 := 0) rfl rfl, xPre_of hP hK hD⟩ rfl rfl hl.1 rfl (lv_room (Nat.le_of_ble_eq_true rfl)) dX7_tunnel_3 ⟨Nat.le_of_ble_eq_true rfl, Nat.le_of_ble_eq_true rfl⟩) hS (fun q _ h => hFc q h) hFc (fun r3 u9 t H locs ht hvm hq hB hz1 hk1 hS => ?_)
  obtain ⟨hP1, -, hD1⟩ := hB
  rw [ht] at hP1
  have hP : va_P (dC, dI) vwCl (wX7 cy a v) H := hP1
  have hD : va_D A (wX7 cy a v) := hD1.weaken (fun _ q _ h => hFc q.1 h)
  obtain ⟨hqA, hqB⟩ := hq
  refine lv_if_ne (tgt := 13) hx hb dX7_tunnel_6 (by decide) (fun c3 => ?_) (fun c3 => ?_)
  · have hq := hqB c3
    refine lv_iload_n hx hb dX7_tunnel_13 rfl (lv_at hl 2 rfl) ?_
    refine lv_iconst (v := 0) hx hb dX7_tunnel_14 (by decide) ?_
    refine lv_iconst (v := 2) hx hb dX7_tunnel_15 (by decide) ?_
    have hFc := xfree_none hS hAe0
    refine va_calli (va_runS (As := [.int x2, .int 0, .int 2]) (rest := [.ref (a 0)]) ⟨hx, hb, hml, hown, hts⟩ (c_X7_in l dC dI cy  _ x2 0 2 _ hq) (va_cwS 3 hts gX7_tunnel_X7_in rfl rfl rfl (by decide +kernel) ⟨Nat.le_of_ble_eq_true rfl, Nat.le_of_ble_eq_true rfl⟩) ⟨xPre_blind, xPre_of xP_nil hK (xD_nil (A := A))⟩ rfl rfl hl.1 rfl (lv_room (Nat.le_of_ble_eq_true rfl)) dX7_tunnel_16 ⟨Nat.le_of_ble_eq_true rfl, Nat.le_of_ble_eq_true rfl⟩) hS (fun q _ h => hFc q h) hFc (fun r16 u9 t H locs ht hvm hq hB hz1 hk1 hS => ?_)
    have hP := xj_none hP hk1
    obtain ⟨hqA, hqB⟩ := hq
    refine lv_if_ne (tgt := 26) hx hb dX7_tunnel_19 (by decide) (fun c2 => ?_) (fun c2 => ?_)
    · have hq := hqB c2
      refine lv_iconst (v := 0) hx hb dX7_tunnel_26 (by decide) ?_
      exact J27 0  _ _ _ hq hP hD hS (lv_sub hl [0, 1, 2] rfl)
    · have hq := hqA c2
      refine lv_iconst (v := 2) hx hb dX7_tunnel_22 (by decide) ?_
      refine lv_goto (tgt := 27) hx hb dX7_tunnel_23 (by decide) ?_
      exact J27 2  _ _ _ hq hP hD hS (lv_sub hl [0, 1, 2] rfl)
  · have hq := hqA c3
    refine lv_iconst (v := 1) hx hb dX7_tunnel_9 (by decide) ?_
    refine lv_goto (tgt := 27) hx hb dX7_tunnel_10 (by decide) ?_
    exact J27 1  _ _ _ hq hP hD hS (lv_sub hl [0, 1, 2] rfl)
def wp_X7_cellOf (v : V_X7) (x1 : Int32) (x2 : Int32) (Q : Int32 → Prop) : Prop :=
  wp_X7_toldOfTunnel v x1 2 (fun r4 =>
  ((r4 ≤ x2 → Q (-1)) ∧
  (¬ r4 ≤ x2 → wp_X7_beginOf v x1 (fun r13 =>
  wp_X7_tuftAt v (r13 + x2) (fun r18 =>
  Q r18)))))
def q_X7_cellOf (dC : Nat → ClassId) (dI : Nat → Nat → Nat) (cy : Nat → ClassId) (a : Nat → Nat) (v : V_X7) (x1 : Int32) (x2 : Int32) (Q : Int32 → Prop) (A : Nat → Prop) : Array Value → State → Outcome → State → Prop := va_Qi (fun (r : Int32) (u : Unit) => Q r ) (fun (u : Unit) t => xAt dC dI cy A (wX7 cy a v) t) A
set_option maxHeartbeats 4000000 in
set_option maxRecDepth 100000 in
theorem c_X7_cellOf (l : Launch) (dC : Nat → ClassId) (dI : Nat → Nat → Nat) (cy : Nat → ClassId) (a : Nat → Nat) (sz : Nat) (v : V_X7) (x1 : Int32) (x2 : Int32) (Q : Int32 → Prop) (hq : wp_X7_cellOf v x1 x2 Q) : Met l yX7_cellOf wsX7_cellOf ({ frames := 3, cells := 0, slots := 0, locals := 69 } : Room) (va_Pc [.ref (a 0), .int x1, .int x2] (xPre dC dI cy (wX7 cy a v) sz)) (q_X7_cellOf dC dI cy a v x1 x2 Q (va_A (wX7 cy a v) sz)) 0 0 (va_A (wX7 cy a v) sz) := by
  refine Met.ofW (cc := cX7_cellOf) (maxL := 3) (ret := (some .int)) (by decide) rfl ?_
  intro p e s m args below meth c s₁ B hml hv
  obtain ⟨rfl, hsz, hP, hK, hD0⟩ := hv
  have hx := B.exec
  have hb := B.bytes
  have hr := B.returns
  have hts := atoms_spec (ws := wsX7_cellOf) B.pre
  have hown : s.vm.findClass RX7 = some m.cls := findClass_of_methodNamed B.named
  have hlocks := B.notSynchronized
  subst hsz
  have hD := hD0.self (sz := s.heap.size)
  generalize hAe : va_A (wX7 cy a v) s.heap.size = A at hD ⊢
  have hAe0 : ∀ q : Nat, s.heap.size ≤ q → A q := fun q h => by rw [← hAe]; exact Or.inr h
  have hS : va_S A s.heap s.heap [] := va_S.rf
  have hl := lv_entry ([.ref (a 0), .int x1, .int x2]) (n := 3) (Nat.le_of_ble_eq_true rfl)
  rw [lg_entry_eq]
  generalize (lg_sl ([.ref (a 0), .int x1, .int x2]) ++ List.replicate (3 - (lg_sl ([.ref (a 0), .int x1, .int x2])).length) Slot.unset).toArray = ls at hl ⊢
  have hl : lv_has ls 3 [(0, .ref (a 0)), (1, .int x1), (2, .int x2)] := hl
  unfold wp_X7_cellOf at hq
  refine lv_iload_n hx hb dX7_cellOf_0 rfl (lv_at hl 2 rfl) ?_
  refine lv_aload_n hx hb dX7_cellOf_1 rfl (lv_at hl 0 rfl) ?_
  refine lv_iload_n hx hb dX7_cellOf_2 rfl (lv_at hl 1 rfl) ?_
  refine lv_iconst (v := 2) hx hb dX7_cellOf_3 (by decide) ?_
  have hFc := xfree_same hS hAe0 (ws := (wX7 cy a v)) hD
  refine va_calli (va_runV (As := [.int x1, .int 2]) (rest := [.int x2]) ⟨hx, hb, hml, hown, hts⟩ (c_X7_toldOfTunnel l dC dI cy a _ v x1 2 _ hq) (cwV 2 hts gX7_cellOf_X7_toldOfTunnel rfl rfl rfl (by decide +kernel) ⟨Nat.le_of_ble_eq_true rfl, Nat.le_of_ble_eq_true rfl⟩) ⟨xPre_blind, va_recv hK hP (ci := 7) (q0 := 0) rfl rfl, xPre_of hP hK hD⟩ rfl rfl hl.1 rfl (lv_room (Nat.le_of_ble_eq_true rfl)) dX7_cellOf_4 ⟨Nat.le_of_ble_eq_true rfl, Nat.le_of_ble_eq_true rfl⟩) hS (fun q _ h => hFc q h) hFc (fun r4 u9 t H locs ht hvm hq hB hz1 hk1 hS => ?_)
  obtain ⟨hP1, -, hD1⟩ := hB
  rw [ht] at hP1
  have hP : va_P (dC, dI) vwCl (wX7 cy a v) H := hP1
  have hD : va_D A (wX7 cy a v) := hD1.weaken (fun _ q _ h => hFc q.1 h)
  obtain ⟨hqA, hqB⟩ := hq
  refine lv_icmp_ge (tgt := 24) hx hb dX7_cellOf_7 (by decide) (fun c1 => ?_) (fun c1 => ?_)
  · have hq := hqA c1
    refine lv_iconst (v := (-1)) hx hb dX7_cellOf_24 (by decide) ?_
    exact W.iret (v := (-1)) hx hb hr (fun t ht hW => ⟨⟨(-1), (), rfl, hq, (xAt_of hP hK hD ht hW)⟩, hS.F ht⟩) hS.2.2 dX7_cellOf_25
  · have hq := hqB c1
    refine lv_aload_n hx hb dX7_cellOf_10 rfl (lv_at hl 0 rfl) ?_
    refine lv_aload_n hx hb dX7_cellOf_11 rfl (lv_at hl 0 rfl) ?_
    refine lv_iload_n hx hb dX7_cellOf_12 rfl (lv_at hl 1 rfl) ?_
    have hFc := xfree_same hS hAe0 (ws := (wX7 cy a v)) hD
    refine va_calli (va_runV (As := [.int x1]) (rest := [.ref (a 0)]) ⟨hx, hb, hml, hown, hts⟩ (c_X7_beginOf l dC dI cy a _ v x1 _ hq) (cwV 1 hts gX7_cellOf_X7_beginOf rfl rfl rfl (by decide +kernel) ⟨Nat.le_of_ble_eq_true rfl, Nat.le_of_ble_eq_true rfl⟩) ⟨xPre_blind, va_recv hK hP (ci := 7) (q0 := 0) rfl rfl, xPre_of hP hK hD⟩ rfl rfl hl.1 rfl (lv_room (Nat.le_of_ble_eq_true rfl)) dX7_cellOf_13 ⟨Nat.le_of_ble_eq_true rfl, Nat.le_of_ble_eq_true rfl⟩) hS (fun q _ h => hFc q h) hFc (fun r13 u9 t H locs ht hvm hq hB hz1 hk1 hS => ?_)
    obtain ⟨hP1, -, hD1⟩ := hB
    rw [ht] at hP1
    have hP : va_P (dC, dI) vwCl (wX7 cy a v) H := hP1
    have hD : va_D A (wX7 cy a v) := hD1.weaken (fun _ q _ h => hFc q.1 h)
    refine lv_iload_n hx hb dX7_cellOf_16 rfl (lv_at hl 2 rfl) ?_
    refine lv_iadd hx hb dX7_cellOf_17 ?_
    have hFc := xfree_same hS hAe0 (ws := (wX7 cy a v)) hD
    refine va_calli (va_runV (As := [.int (r13 + x2)]) (rest := []) ⟨hx, hb, hml, hown, hts⟩ (c_X7_tuftAt l dC dI cy a _ v (r13 + x2) _ hq) (cwV 1 hts gX7_cellOf_X7_tuftAt rfl rfl rfl (by decide +kernel) ⟨Nat.le_of_ble_eq_true rfl, Nat.le_of_ble_eq_true rfl⟩) ⟨xPre_blind, va_recv hK hP (ci := 7) (q0 := 0) rfl rfl, xPre_of hP hK hD⟩ rfl rfl hl.1 rfl (lv_room (Nat.le_of_ble_eq_true rfl)) dX7_cellOf_18 ⟨Nat.le_of_ble_eq_true rfl, Nat.le_of_ble_eq_true rfl⟩) hS (fun q _ h => hFc q h) hFc (fun r18 u9 t H locs ht hvm hq hB hz1 hk1 hS => ?_)
    obtain ⟨hP1, -, hD1⟩ := hB
    rw [ht] at hP1
    have hP : va_P (dC, dI) vwCl (wX7 cy a v) H := hP1
    have hD : va_D A (wX7 cy a v) := hD1.weaken (fun _ q _ h => hFc q.1 h)
    refine lv_goto (tgt := 25) hx hb dX7_cellOf_21 (by decide) ?_
    exact W.iret (v := r18) hx hb hr (fun t ht hW => ⟨⟨r18, (), rfl, hq, (xAt_of hP hK hD ht hW)⟩, hS.F ht⟩) hS.2.2 dX7_cellOf_25
def wp_X7_cell_22 (v : V_X7) (x1 : Int32) (x2 : Int32) (k22_0 : Int32) (Q : Int32 → Int32 → Prop) : Prop :=
  wp_X7_holds v k22_0 (fun r22 z22_v_thrown =>
  ((r22 = 0 → Q 0 z22_v_thrown) ∧
  (¬ r22 = 0 → wp_X7_cellOf (X7_s8 v z22_v_thrown) x1 x2 (fun r31 =>
  Q r31 z22_v_thrown))))
def wp_X7_cell (v : V_X7) (x1 : Int32) (x2 : Int32) (Q : Int32 → Int32 → Prop) : Prop :=
  wp_X7_isTunnel v x1 (fun r3 =>
  ((r3 = 0 → wp_X7_cell_22 v x1 x2 1  Q) ∧
  (¬ r3 = 0 → ((0 ≤ x2 → wp_X7_cell_22 v x1 x2 0  Q) ∧
  (¬ 0 ≤ x2 → wp_X7_cell_22 v x1 x2 2  Q)))))
def q_X7_cell (dC : Nat → ClassId) (dI : Nat → Nat → Nat) (cy : Nat → ClassId) (a : Nat → Nat) (v : V_X7) (x1 : Int32) (x2 : Int32) (Q : Int32 → Int32 → Prop) (A : Nat → Prop) : Array Value → State → Outcome → State → Prop := va_Qi (fun (r : Int32) (u : Int32) => Q r u) (fun (u : Int32) t => xAt dC dI cy A (cX7 cy a (X7_s v) (X7_aside v) (X7_kept v) (X7_isKept v) (X7_saved v) (X7_savedMany v) (X7_text v) (X7_length v) u (X7_joint v) (X7_position v) (X7_isWrong v) (X7_isHollow v) (X7_sure v) (X7_away v) (X7_digested v)) t) A
set_option maxHeartbeats 4000000 in
set_option maxRecDepth 100000 in
theorem c_X7_cell (l : Launch) (dC : Nat → ClassId) (dI : Nat → Nat → Nat) (cy : Nat → ClassId) (a : Nat → Nat) (sz : Nat) (v : V_X7) (x1 : Int32) (x2 : Int32) (Q : Int32 → Int32 → Prop) (hq : wp_X7_cell v x1 x2 Q) : Met l yX7_cell wsX7_cell ({ frames := 4, cells := 0, slots := 0, locals := 91 } : Room) (va_Pc [.ref (a 0), .int x1, .int x2] (xPre dC dI cy (wX7 cy a v) sz)) (q_X7_cell dC dI cy a v x1 x2 Q (va_A (wX7 cy a v) sz)) 0 0 (va_A (wX7 cy a v) sz) := by
  refine Met.ofW (cc := cX7_cell) (maxL := 3) (ret := (some .int)) (by decide) rfl ?_
  intro p e s m args below meth c s₁ B hml hv
  obtain ⟨rfl, hsz, hP, hK, hD0⟩ := hv
  have hx := B.exec
  have hb := B.bytes
  have hr := B.returns
  have hts := atoms_spec (ws := wsX7_cell) B.pre
  have hown : s.vm.findClass RX7 = some m.cls := findClass_of_methodNamed B.named
  have hlocks := B.notSynchronized
  subst hsz
  have hD := hD0.self (sz := s.heap.size)
  generalize hAe : va_A (wX7 cy a v) s.heap.size = A at hD ⊢
  have hAe0 : ∀ q : Nat, s.heap.size ≤ q → A q := fun q h => by rw [← hAe]; exact Or.inr h
  have hS : va_S A s.heap s.heap [] := va_S.rf
  have hl := lv_entry ([.ref (a 0), .int x1, .int x2]) (n := 3) (Nat.le_of_ble_eq_true rfl)
  rw [lg_entry_eq]
  generalize (lg_sl ([.ref (a 0), .int x1, .int x2]) ++ List.replicate (3 - (lg_sl ([.ref (a 0), .int x1, .int x2])).length) Slot.unset).toArray = ls at hl ⊢
  have hl : lv_has ls 3 [(0, .ref (a 0)), (1, .int x1), (2, .int x2)] := hl
  unfold wp_X7_cell at hq
  have J22 : ∀ (k22_0 : Int32) (H : Heap) (locs : List Loc) (ls : Array Slot), wp_X7_cell_22 v x1 x2 k22_0 Q → va_P (dC, dI) vwCl (wX7 cy a v) H → va_D A (wX7 cy a v) → va_S A s.heap H locs → lv_has ls 3 [(0, .ref (a 0)), (1, .int x1), (2, .int x2)] → W p l e (headSpec wsX7_cell ({ frames := 4, cells := 0, slots := 0, locals := 91 } : Room)).room s m ([.ref (a 0), .int x1, .int x2] : List Value).toArray below meth c H locs 0 0 (MQ below (q_X7_cell dC dI cy a v x1 x2 Q A) ([.ref (a 0), .int x1, .int x2] : List Value).toArray s 0 0 A) (F0 m 22 ls [.int k22_0, .ref (a 0)]) := by
    intro k22_0 H locs ls hq hP hD hS hl
    unfold wp_X7_cell_22 at hq
    have hFc := xfree_same hS hAe0 (ws := (wX7 cy a v)) hD
    refine va_calli (va_runV (As := [.int k22_0]) (rest := []) ⟨hx, hb, hml, hown, hts⟩ (c_X7_holds l dC dI cy a _ v k22_0 _ hq) (cwV 1 hts gX7_cell_X7_holds rfl rfl rfl (by decide +kernel) ⟨Nat.le_of_ble_eq_true rfl, Nat.le_of_ble_eq_true rfl⟩) ⟨xPre_blind, va_recv hK hP (ci := 7) (q0 := 0) rfl rfl, xPre_of hP hK hD⟩ rfl rfl hl.1 rfl (lv_room (Nat.le_of_ble_eq_true rfl)) dX7_cell_22 ⟨Nat.le_of_ble_eq_true rfl, Nat.le_of_ble_eq_true rfl⟩) hS (fun q _ h => hFc q h) hFc (fun r22 z22_v_thrown t H locs ht hvm hq hB hz1 hk1 hS => ?_)
    obtain ⟨hP1, -, hD1⟩ := hB
    rw [ht] at hP1
    have hP : va_P (dC, dI) vwCl (cX7 cy a (X7_s v) (X7_aside v) (X7_kept v) (X7_isKept v) (X7_saved v) (X7_savedMany v) (X7_text v) (X7_length v) z22_v_thrown (X7_joint v) (X7_position v) (X7_isWrong v) (X7_isHollow v) (X7_sure v) (X7_away v) (X7_digested v)) H := hP1
    have hD : va_D A (cX7 cy a (X7_s v) (X7_aside v) (X7_kept v) (X7_isKept v) (X7_saved v) (X7_savedMany v) (X7_text v) (X7_length v) z22_v_thrown (X7_joint v) (X7_position v) (X7_isWrong v) (X7_isHollow v) (X7_sure v) (X7_away v) (X7_digested v)) := hD1.weaken (fun _ q _ h => hFc q.1 h)
    obtain ⟨hqA, hqB⟩ := hq
    refine lv_if_eq (tgt := 37) hx hb dX7_cell_25 (by decide) (fun c1 => ?_) (fun c1 => ?_)
    · have hq := hqA c1
      refine lv_iconst (v := 0) hx hb dX7_cell_37 (by decide) ?_
      exact W.iret (v := 0) hx hb hr (fun t ht hW => ⟨⟨0, z22_v_thrown, rfl, hq, (xAt_of hP hK hD ht hW)⟩, hS.F ht⟩) hS.2.2 dX7_cell_38
    · have hq := hqB c1
      refine lv_aload_n hx hb dX7_cell_28 rfl (lv_at hl 0 rfl) ?_
      refine lv_iload_n hx hb dX7_cell_29 rfl (lv_at hl 1 rfl) ?_
      refine lv_iload_n hx hb dX7_cell_30 rfl (lv_at hl 2 rfl) ?_
      have hFc := xfree_same hS hAe0 (ws := (cX7 cy a (X7_s v) (X7_aside v) (X7_kept v) (X7_isKept v) (X7_saved v) (X7_savedMany v) (X7_text v) (X7_length v) z22_v_thrown (X7_joint v) (X7_position v) (X7_isWrong v) (X7_isHollow v) (X7_sure v) (X7_away v) (X7_digested v))) hD
      refine va_calli (va_runV (As := [.int x1, .int x2]) (rest := []) ⟨hx, hb, hml, hown, hts⟩ (c_X7_cellOf l dC dI cy a _ (X7_s8 v z22_v_thrown) x1 x2 _ hq) (cwV 2 hts gX7_cell_X7_cellOf rfl rfl rfl (by decide +kernel) ⟨Nat.le_of_ble_eq_true rfl, Nat.le_of_ble_eq_true rfl⟩) ⟨xPre_blind, va_recv hK hP (ci := 7) (q0 := 0) rfl rfl, xPre_of hP hK hD⟩ rfl rfl hl.1 rfl (lv_room (Nat.le_of_ble_eq_true rfl)) dX7_cell_31 ⟨Nat.le_of_ble_eq_true rfl, Nat.le_of_ble_eq_true rfl⟩) hS (fun q _ h => hFc q h) hFc (fun r31 u9 t H locs ht hvm hq hB hz1 hk1 hS => ?_)
      obtain ⟨hP1, -, hD1⟩ := hB
      rw [ht] at hP1
      have hP : va_P (dC, dI) vwCl (cX7 cy a (X7_s v) (X7_aside v) (X7_kept v) (X7_isKept v) (X7_saved v) (X7_savedMany v) (X7_text v) (X7_length v) z22_v_thrown (X7_joint v) (X7_position v) (X7_isWrong v) (X7_isHollow v) (X7_sure v) (X7_away v) (X7_digested v)) H := hP1
      have hD : va_D A (cX7 cy a (X7_s v) (X7_aside v) (X7_kept v) (X7_isKept v) (X7_saved v) (X7_savedMany v) (X7_text v) (X7_length v) z22_v_thrown (X7_joint v) (X7_position v) (X7_isWrong v) (X7_isHollow v) (X7_sure v) (X7_away v) (X7_digested v)) := hD1.weaken (fun _ q _ h => hFc q.1 h)
      refine lv_goto (tgt := 38) hx hb dX7_cell_34 (by decide) ?_
      exact W.iret (v := r31) hx hb hr (fun t ht hW => ⟨⟨r31, z22_v_thrown, rfl, hq, (xAt_of hP hK hD ht hW)⟩, hS.F ht⟩) hS.2.2 dX7_cell_38
  refine lv_aload_n hx hb dX7_cell_0 rfl (lv_at hl 0 rfl) ?_
  refine lv_aload_n hx hb dX7_cell_1 rfl (lv_at hl 0 rfl) ?_
  refine lv_iload_n hx hb dX7_cell_2 rfl (lv_at hl 1 rfl) ?_
  have hFc := xfree_same hS hAe0 (ws := (wX7 cy a v)) hD
  refine va_calli (va_runV (As := [.int x1]) (rest := [.ref (a 0)]) ⟨hx, hb, hml, hown, hts⟩ (c_X7_isTunnel l dC dI cy a _ v x1 _ hq) (cwV 1 hts gX7_cell_X7_isTunnel rfl rfl rfl (by decide +kernel) ⟨Nat.le_of_ble_eq_true rfl, Nat.le_of_ble_eq_true rfl⟩) ⟨xPre_blind, va_recv hK hP (ci := 7) (q0 := 0) rfl rfl, xPre_of hP hK hD⟩ rfl rfl hl.1 rfl (lv_room (Nat.le_of_ble_eq_true rfl)) dX7_cell_3 ⟨Nat.le_of_ble_eq_true rfl, Nat.le_of_ble_eq_true rfl⟩) hS (fun q _ h => hFc q h) hFc (fun r3 u9 t H locs ht hvm hq hB hz1 hk1 hS => ?_)
  obtain ⟨hP1, -, hD1⟩ := hB
  rw [ht] at hP1
  have hP : va_P (dC, dI) vwCl (wX7 cy a v) H := hP1
  have hD : va_D A (wX7 cy a v) := hD1.weaken (fun _ q _ h => hFc q.1 h)
  obtain ⟨hqA, hqB⟩ := hq
  refine lv_if_ne (tgt := 13) hx hb dX7_cell_6 (by decide) (fun c3 => ?_) (fun c3 => ?_)
  · have hq := hqB c3
    refine lv_iload_n hx hb dX7_cell_13 rfl (lv_at hl 2 rfl) ?_
    obtain ⟨hqA, hqB⟩ := hq
    refine lv_if_ge (tgt := 21) hx hb dX7_cell_14 (by decide) (fun c2 => ?_) (fun c2 => ?_)
    · have hq := hqA c2
      refine lv_iconst (v := 0) hx hb dX7_cell_21 (by decide) ?_
      exact J22 0  _ _ _ hq hP hD hS (lv_sub hl [0, 1, 2] rfl)
    · have hq := hqB c2
      refine lv_iconst (v := 2) hx hb dX7_cell_17 (by decide) ?_
      refine lv_goto (tgt := 22) hx hb dX7_cell_18 (by decide) ?_
      exact J22 2  _ _ _ hq hP hD hS (lv_sub hl [0, 1, 2] rfl)
  · have hq := hqA c3
    refine lv_iconst (v := 1) hx hb dX7_cell_9 (by decide) ?_
    refine lv_goto (tgt := 22) hx hb dX7_cell_10 (by decide) ?_
    exact J22 1  _ _ _ hq hP hD hS (lv_sub hl [0, 1, 2] rfl)
def wp_X7_layAway_228 (v : V_X7) (x1 : Int32) (y42_2 : Int32) (z42_v_away : (Nat → Int32)) (B42 : Int32 → (Nat → Int32) → Prop) (y50_2 : Int32) (y50_3 : Int32) (z50_v_away : (Nat → Int32)) (B50 : Int32 → Int32 → (Nat → Int32) → Prop) (z228_v_away : (Nat → Int32)) (k228_0 : Int32) (Q : (Nat → Int32) → Prop) : Prop :=
  wp_X7_endFrom (X7_s14 v z228_v_away) y50_3 (fun r231 =>
  B50 k228_0 (r231 + 1) z228_v_away)
def wp_X7_layAway_223 (v : V_X7) (x1 : Int32) (y42_2 : Int32) (z42_v_away : (Nat → Int32)) (B42 : Int32 → (Nat → Int32) → Prop) (y50_2 : Int32) (y50_3 : Int32) (z50_v_away : (Nat → Int32)) (B50 : Int32 → Int32 → (Nat → Int32) → Prop) (z223_v_away : (Nat → Int32)) (Q : (Nat → Int32) → Prop) : Prop :=
  wp_X7_layAway_228 v x1 y42_2 z42_v_away B42 y50_2 y50_3 z50_v_away B50 z223_v_away 1  Q
def wp_X7_layAway_213 (v : V_X7) (x1 : Int32) (y42_2 : Int32) (z42_v_away : (Nat → Int32)) (B42 : Int32 → (Nat → Int32) → Prop) (y50_2 : Int32) (y50_3 : Int32) (z50_v_away : (Nat → Int32)) (B50 : Int32 → Int32 → (Nat → Int32) → Prop) (y213_6 : Int32) (z213_v_away : (Nat → Int32)) (k213_0 : Int32) (k213_1 : Int32) (Q : (Nat → Int32) → Prop) : Prop :=
  vp_in k213_1 64 ∧ ((y50_2 = 0 → ((y213_6 = 0 → wp_X7_layAway_228 v x1 y42_2 z42_v_away B42 y50_2 y50_3 z50_v_away B50 (upd z213_v_away k213_1.toNatClampNeg k213_0) 0  Q) ∧
  (¬ y213_6 = 0 → wp_X7_layAway_223 v x1 y42_2 z42_v_away B42 y50_2 y50_3 z50_v_away B50 (upd z213_v_away k213_1.toNatClampNeg k213_0)  Q))) ∧
  (¬ y50_2 = 0 → wp_X7_layAway_223 v x1 y42_2 z42_v_away B42 y50_2 y50_3 z50_v_away B50 (upd z213_v_away k213_1.toNatClampNeg k213_0)  Q))
def wp_X7_layAway_168 (v : V_X7) (x1 : Int32) (y42_2 : Int32) (z42_v_away : (Nat → Int32)) (B42 : Int32 → (Nat → Int32) → Prop) (y50_2 : Int32) (y50_3 : Int32) (z50_v_away : (Nat → Int32)) (B50 : Int32 → Int32 → (Nat → Int32) → Prop) (y168_4 : Int32) (y168_5 : Int32) (y168_6 : Int32) (k168_0 : Int32) (k168_1 : Int32) (Q : (Nat → Int32) → Prop) : Prop :=
  vp_in k168_1 64 ∧ vp_in y168_5 64 ∧ vp_in y168_4 64 ∧ ((((upd z50_v_away k168_1.toNatClampNeg k168_0) y168_4.toNatClampNeg) ≤ (((upd z50_v_away k168_1.toNatClampNeg k168_0) y168_5.toNatClampNeg) + 1) → wp_X7_layAway_213 v x1 y42_2 z42_v_away B42 y50_2 y50_3 z50_v_away B50 y168_6 (upd z50_v_away k168_1.toNatClampNeg k168_0) ((upd z50_v_away k168_1.toNatClampNeg k168_0) y168_4.toNatClampNeg) y168_4  Q) ∧
  (¬ ((upd z50_v_away k168_1.toNatClampNeg k168_0) y168_4.toNatClampNeg) ≤ (((upd z50_v_away k168_1.toNatClampNeg k168_0) y168_5.toNatClampNeg) + 1) → wp_X7_layAway_213 v x1 y42_2 z42_v_away B42 y50_2 y50_3 z50_v_away B50 y168_6 (upd z50_v_away k168_1.toNatClampNeg k168_0) (((upd z50_v_away k168_1.toNatClampNeg k168_0) y168_5.toNatClampNeg) + 1) y168_4  Q))
def wp_X7_layAway_122 (v : V_X7) (x1 : Int32) (y42_2 : Int32) (z42_v_away : (Nat → Int32)) (B42 : Int32 → (Nat → Int32) → Prop) (y50_2 : Int32) (y50_3 : Int32) (z50_v_away : (Nat → Int32)) (B50 : Int32 → Int32 → (Nat → Int32) → Prop) (y122_4 : Int32) (y122_5 : Int32) (k122_0 : Int32) (Q : (Nat → Int32) → Prop) : Prop :=
  vp_in y122_4 64 ∧ vp_in y122_5 64 ∧ (((z50_v_away y122_5.toNatClampNeg) ≤ ((z50_v_away y122_4.toNatClampNeg) + 1) → wp_X7_layAway_168 v x1 y42_2 z42_v_away B42 y50_2 y50_3 z50_v_away B50 y122_4 y122_5 k122_0 (z50_v_away y122_5.toNatClampNeg) y122_5  Q) ∧
  (¬ (z50_v_away y122_5.toNatClampNeg) ≤ ((z50_v_away y122_4.toNatClampNeg) + 1) → wp_X7_layAway_168 v x1 y42_2 z42_v_away B42 y50_2 y50_3 z50_v_away B50 y122_4 y122_5 k122_0 ((z50_v_away y122_4.toNatClampNeg) + 1) y122_5  Q))
def wp_X7_layAway_117 (v : V_X7) (x1 : Int32) (y42_2 : Int32) (z42_v_away : (Nat → Int32)) (B42 : Int32 → (Nat → Int32) → Prop) (y50_2 : Int32) (y50_3 : Int32) (z50_v_away : (Nat → Int32)) (B50 : Int32 → Int32 → (Nat → Int32) → Prop) (y117_4 : Int32) (y117_5 : Int32) (Q : (Nat → Int32) → Prop) : Prop :=
  wp_X7_layAway_122 v x1 y42_2 z42_v_away B42 y50_2 y50_3 z50_v_away B50 y117_4 y117_5 1  Q
def wb_X7_layAway_50 (v : V_X7) (x1 : Int32) (y42_2 : Int32) (z42_v_away : (Nat → Int32)) (B42 : Int32 → (Nat → Int32) → Prop)  (y50_2 : Int32) (y50_3 : Int32) (z50_v_away : (Nat → Int32)) (B50 : Int32 → Int32 → (Nat → Int32) → Prop) (Q : (Nat → Int32) → Prop) : Prop :=
  vp_in 7 1472 ∧ ((((X7_s v) (7 : Int32).toNatClampNeg) ≤ y50_3 → B42 y50_2 z50_v_away) ∧
  (¬ ((X7_s v) (7 : Int32).toNatClampNeg) ≤ y50_3 → wp_X7_tuftAt (X7_s14 v z50_v_away) y50_3 (fun r63 =>
  wp_X7_endFrom (X7_s14 v z50_v_away) y50_3 (fun r71 =>
  wp_X7_tuftAt (X7_s14 v z50_v_away) r71 (fun r74 =>
  vp_in r63 64 ∧ vp_in r74 64 ∧ ((((z50_v_away r63.toNatClampNeg) + 1) < (z50_v_away r74.toNatClampNeg) → wp_X7_layAway_117 v x1 y42_2 z42_v_away B42 y50_2 y50_3 z50_v_away B50 r63 r74  Q) ∧
  (¬ ((z50_v_away r63.toNatClampNeg) + 1) < (z50_v_away r74.toNatClampNeg) → (((z50_v_away r63.toNatClampNeg) ≤ ((z50_v_away r74.toNatClampNeg) + 1) → wp_X7_layAway_122 v x1 y42_2 z42_v_away B42 y50_2 y50_3 z50_v_away B50 r63 r74 0  Q) ∧
  (¬ (z50_v_away r63.toNatClampNeg) ≤ ((z50_v_away r74.toNatClampNeg) + 1) → wp_X7_layAway_117 v x1 y42_2 z42_v_away B42 y50_2 y50_3 z50_v_away B50 r63 r74  Q)))))))))
def wp_X7_layAway_50 (v : V_X7) (x1 : Int32) (y42_2 : Int32) (z42_v_away : (Nat → Int32)) (B42 : Int32 → (Nat → Int32) → Prop)  (y50_2 : Int32) (y50_3 : Int32) (z50_v_away : (Nat → Int32)) (Q : (Nat → Int32) → Prop) : Prop :=
  ∃ (I : Int32 → Int32 → (Nat → Int32) → Prop) (μ : Int32 → Int32 → (Nat → Int32) → Nat), I y50_2 y50_3 z50_v_away ∧ ∀ (s0 : Int32) (s1 : Int32) (s2 : (Nat → Int32)), I s0 s1 s2 → wb_X7_layAway_50 v x1 y42_2 z42_v_away B42  s0 s1 s2 (fun t0 t1 t2 => I t0 t1 t2 ∧ μ t0 t1 t2 < μ s0 s1 s2) Q
def wb_X7_layAway_42 (v : V_X7) (x1 : Int32)  (y42_2 : Int32) (z42_v_away : (Nat → Int32)) (B42 : Int32 → (Nat → Int32) → Prop) (Q : (Nat → Int32) → Prop) : Prop :=
  ((y42_2 = 0 → Q z42_v_away) ∧
  (¬ y42_2 = 0 → wp_X7_layAway_50 v x1 y42_2 z42_v_away B42  0 0 z42_v_away Q))
def wp_X7_layAway_42 (v : V_X7) (x1 : Int32)  (y42_2 : Int32) (z42_v_away : (Nat → Int32)) (Q : (Nat → Int32) → Prop) : Prop :=
  ∃ (I : Int32 → (Nat → Int32) → Prop) (μ : Int32 → (Nat → Int32) → Nat), I y42_2 z42_v_away ∧ ∀ (s0 : Int32) (s1 : (Nat → Int32)), I s0 s1 → wb_X7_layAway_42 v x1  s0 s1 (fun t0 t1 => I t0 t1 ∧ μ t0 t1 < μ s0 s1) Q
def wb_X7_layAway_2 (v : V_X7) (x1 : Int32)  (y2_2 : Int32) (z2_v_away : (Nat → Int32)) (B2 : Int32 → (Nat → Int32) → Prop) (Q : (Nat → Int32) → Prop) : Prop :=
  ((64 ≤ y2_2 → wp_X7_layAway_42 v x1  1 z2_v_away Q) ∧
  (¬ 64 ≤ y2_2 → ((y2_2 = x1 → wp_X7_hasMound (X7_s14 v z2_v_away) y2_2 (fun r20 =>
  ((r20 = 0 → vp_in y2_2 64 ∧ B2 (y2_2 + 1) (upd z2_v_away y2_2.toNatClampNeg 1000)) ∧
  (¬ r20 = 0 → vp_in y2_2 64 ∧ B2 (y2_2 + 1) (upd z2_v_away y2_2.toNatClampNeg 0))))) ∧
  (¬ y2_2 = x1 → vp_in y2_2 64 ∧ B2 (y2_2 + 1) (upd z2_v_away y2_2.toNatClampNeg 1000)))))
def wp_X7_layAway_2 (v : V_X7) (x1 : Int32)  (y2_2 : Int32) (z2_v_away : (Nat → Int32)) (Q : (Nat → Int32) → Prop) : Prop :=
  ∃ (I : Int32 → (Nat → Int32) → Prop) (μ : Int32 → (Nat → Int32) → Nat), I y2_2 z2_v_away ∧ ∀ (s0 : Int32) (s1 : (Nat → Int32)), I s0 s1 → wb_X7_layAway_2 v x1  s0 s1 (fun t0 t1 => I t0 t1 ∧ μ t0 t1 < μ s0 s1) Q
def wp_X7_layAway (v : V_X7) (x1 : Int32) (Q : (Nat → Int32) → Prop) : Prop :=
  wp_X7_layAway_2 v x1  0 (X7_away v) Q
def q_X7_layAway (dC : Nat → ClassId) (dI : Nat → Nat → Nat) (cy : Nat → ClassId) (a : Nat → Nat) (v : V_X7) (x1 : Int32) (Q : (Nat → Int32) → Prop) (A : Nat → Prop) : Array Value → State → Outcome → State → Prop := va_Qv (fun (u : (Nat → Int32)) => Q u) (fun (u : (Nat → Int32)) t => xAt dC dI cy A (cX7 cy a (X7_s v) (X7_aside v) (X7_kept v) (X7_isKept v) (X7_saved v) (X7_savedMany v) (X7_text v) (X7_length v) (X7_thrown v) (X7_joint v) (X7_position v) (X7_isWrong v) (X7_isHollow v) (X7_sure v) u (X7_digested v)) t) A
set_option maxHeartbeats 4000000 in
set_option maxRecDepth 100000 in
theorem c_X7_layAway (l : Launch) (dC : Nat → ClassId) (dI : Nat → Nat → Nat) (cy : Nat → ClassId) (a : Nat → Nat) (sz : Nat) (v : V_X7) (x1 : Int32) (Q : (Nat → Int32) → Prop) (hq : wp_X7_layAway v x1 Q) : Met l yX7_layAway wsX7_layAway ({ frames := 1, cells := 0, slots := 0, locals := 22 } : Room) (va_Pc [.ref (a 0), .int x1] (xPre dC dI cy (wX7 cy a v) sz)) (q_X7_layAway dC dI cy a v x1 Q (va_A (wX7 cy a v) sz)) 0 0 (va_A (wX7 cy a v) sz) := by
  refine Met.ofW (cc := cX7_layAway) (maxL := 7) (ret := none) (by decide) rfl ?_
  intro p e s m args below meth c s₁ B hml hv
  obtain ⟨rfl, hsz, hP, hK, hD0⟩ := hv
  have hx := B.exec
  have hb := B.bytes
  have hr := B.returns
  have hts := atoms_spec (ws := wsX7_layAway) B.pre
  have hown : s.vm.findClass RX7 = some m.cls := findClass_of_methodNamed B.named
  have hlocks := B.notSynchronized
  subst hsz
  have hD := hD0.self (sz := s.heap.size)
  generalize hAe : va_A (wX7 cy a v) s.heap.size = A at hD ⊢
  have hAe0 : ∀ q : Nat, s.heap.size ≤ q → A q := fun q h => by rw [← hAe]; exact Or.inr h
  have hS : va_S A s.heap s.heap [] := va_S.rf
  have hl := lv_entry ([.ref (a 0), .int x1]) (n := 7) (Nat.le_of_ble_eq_true rfl)
  rw [lg_entry_eq]
  generalize (lg_sl ([.ref (a 0), .int x1]) ++ List.replicate (7 - (lg_sl ([.ref (a 0), .int x1])).length) Slot.unset).toArray = ls at hl ⊢
  have hl : lv_has ls 7 [(0, .ref (a 0)), (1, .int x1)] := hl
  have lk0 := hts (Cond.fieldLink RX7 35 "MolesLawnModel" "away" "[I") (List.mem_cons_of_mem _ (List.mem_append_left _ (List.mem_of_getElem? (i := 0) rfl)))
  have lk1 := hts (Cond.fieldLink RX7 7 "MolesLawnModel" "s" "[I") (List.mem_cons_of_mem _ (List.mem_append_left _ (List.mem_of_getElem? (i := 1) rfl)))
  have iK7 : ∀ w ∈ wsX70, w ∈ wsX7_layAway := fun _ h => (List.mem_cons_of_mem _ (List.mem_append_right _ h))
  unfold wp_X7_layAway at hq
  have J42 : ∀  (y42_2 : Int32) (z42_v_away : (Nat → Int32)) (H : Heap) (locs : List Loc) (ls : Array Slot), wp_X7_layAway_42 v x1  y42_2 z42_v_away Q → va_P (dC, dI) vwCl (cX7 cy a (X7_s v) (X7_aside v) (X7_kept v) (X7_isKept v) (X7_saved v) (X7_savedMany v) (X7_text v) (X7_length v) (X7_thrown v) (X7_joint v) (X7_position v) (X7_isWrong v) (X7_isHollow v) (X7_sure v) z42_v_away (X7_digested v)) H → va_D A (cX7 cy a (X7_s v) (X7_aside v) (X7_kept v) (X7_isKept v) (X7_saved v) (X7_savedMany v) (X7_text v) (X7_length v) (X7_thrown v) (X7_joint v) (X7_position v) (X7_isWrong v) (X7_isHollow v) (X7_sure v) z42_v_away (X7_digested v)) → va_S A s.heap H locs → lv_has ls 7 [(0, .ref (a 0)), (2, .int y42_2)] → W p l e (headSpec wsX7_layAway ({ frames := 1, cells := 0, slots := 0, locals := 22 } : Room)).room s m ([.ref (a 0), .int x1] : List Value).toArray below meth c H locs 0 0 (MQ below (q_X7_layAway dC dI cy a v x1 Q A) ([.ref (a 0), .int x1] : List Value).toArray s 0 0 A) (F0 m 42 ls []) := by
    intro  y42_2 z42_v_away H locs ls hq hP hD hS hl
    obtain ⟨I42, μ42, h0, hs42⟩ := hq
    have key : ∀ (n : Nat) (y42_2 : Int32) (z42_v_away : (Nat → Int32)) (H : Heap) (locs : List Loc) (ls : Array Slot), I42 y42_2 z42_v_away → μ42 y42_2 z42_v_away < n → va_P (dC, dI) vwCl (cX7 cy a (X7_s v) (X7_aside v) (X7_kept v) (X7_isKept v) (X7_saved v) (X7_savedMany v) (X7_text v) (X7_length v) (X7_thrown v) (X7_joint v) (X7_position v) (X7_isWrong v) (X7_isHollow v) (X7_sure v) z42_v_away (X7_digested v)) H → va_D A (cX7 cy a (X7_s v) (X7_aside v) (X7_kept v) (X7_isKept v) (X7_saved v) (X7_savedMany v) (X7_text v) (X7_length v) (X7_thrown v) (X7_joint v) (X7_position v) (X7_isWrong v) (X7_isHollow v) (X7_sure v) z42_v_away (X7_digested v)) → va_S A s.heap H locs → lv_has ls 7 [(0, .ref (a 0)), (2, .int y42_2)] → W p l e (headSpec wsX7_layAway ({ frames := 1, cells := 0, slots := 0, locals := 22 } : Room)).room s m ([.ref (a 0), .int x1] : List Value).toArray below meth c H locs 0 0 (MQ below (q_X7_layAway dC dI cy a v x1 Q A) ([.ref (a 0), .int x1] : List Value).toArray s 0 0 A) (F0 m 42 ls []) := by
      intro n
      induction n with
      | zero => intro y42_2 z42_v_away H locs ls _ hm; exact absurd hm (Nat.not_lt_zero _)
      | succ n ih =>
        intro y42_2 z42_v_away H locs ls hI hm hP hD hS hl
        have hq := hs42 y42_2 z42_v_away hI
        generalize hB42 : (fun (t0 : Int32) (t1 : (Nat → Int32)) => I42 t0 t1 ∧ μ42 t0 t1 < μ42 y42_2 z42_v_away) = B42 at hq
        have bk42 : ∀ (y42_2 : Int32) (z42_v_away : (Nat → Int32)) (H : Heap) (locs : List Loc) (ls : Array Slot), B42 y42_2 z42_v_away → va_P (dC, dI) vwCl (cX7 cy a (X7_s v) (X7_aside v) (X7_kept v) (X7_isKept v) (X7_saved v) (X7_savedMany v) (X7_text v) (X7_length v) (X7_thrown v) (X7_joint v) (X7_position v) (X7_isWrong v) (X7_isHollow v) (X7_sure v) z42_v_away (X7_digested v)) H → va_D A (cX7 cy a (X7_s v) (X7_aside v) (X7_kept v) (X7_isKept v) (X7_saved v) (X7_savedMany v) (X7_text v) (X7_length v) (X7_thrown v) (X7_joint v) (X7_position v) (X7_isWrong v) (X7_isHollow v) (X7_sure v) z42_v_away (X7_digested v)) → va_S A s.heap H locs → lv_has ls 7 [(0, .ref (a 0)), (2, .int y42_2)] → W p l e (headSpec wsX7_layAway ({ frames := 1, cells := 0, slots := 0, locals := 22 } : Room)).room s m ([.ref (a 0), .int x1] : List Value).toArray below meth c H locs 0 0 (MQ below (q_X7_layAway dC dI cy a v x1 Q A) ([.ref (a 0), .int x1] : List Value).toArray s 0 0 A) (F0 m 42 ls []) := by
          intro y42_2 z42_v_away H locs ls h
          rw [← hB42] at h
          exact ih y42_2 z42_v_away H locs ls h.1 (Nat.lt_of_lt_of_le h.2 (Nat.le_of_lt_succ hm))
        unfold wb_X7_layAway_42 at hq
        have J50 : ∀  (y50_2 : Int32) (y50_3 : Int32) (z50_v_away : (Nat → Int32)) (H : Heap) (locs : List Loc) (ls : Array Slot), wp_X7_layAway_50 v x1 y42_2 z42_v_away B42  y50_2 y50_3 z50_v_away Q → va_P (dC, dI) vwCl (cX7 cy a (X7_s v) (X7_aside v) (X7_kept v) (X7_isKept v) (X7_saved v) (X7_savedMany v) (X7_text v) (X7_length v) (X7_thrown v) (X7_joint v) (X7_position v) (X7_isWrong v) (X7_isHollow v) (X7_sure v) z50_v_away (X7_digested v)) H → va_D A (cX7 cy a (X7_s v) (X7_aside v) (X7_kept v) (X7_isKept v) (X7_saved v) (X7_savedMany v) (X7_text v) (X7_length v) (X7_thrown v) (X7_joint v) (X7_position v) (X7_isWrong v) (X7_isHollow v) (X7_sure v) z50_v_away (X7_digested v)) → va_S A s.heap H locs → lv_has ls 7 [(0, .ref (a 0)), (2, .int y50_2), (3, .int y50_3)] → W p l e (headSpec wsX7_layAway ({ frames := 1, cells := 0, slots := 0, locals := 22 } : Room)).room s m ([.ref (a 0), .int x1] : List Value).toArray below meth c H locs 0 0 (MQ below (q_X7_layAway dC dI cy a v x1 Q A) ([.ref (a 0), .int x1] : List Value).toArray s 0 0 A) (F0 m 50 ls []) := by
          intro  y50_2 y50_3 z50_v_away H locs ls hq hP hD hS hl
          obtain ⟨I50, μ50, h0, hs50⟩ := hq
          have key : ∀ (n : Nat) (y50_2 : Int32) (y50_3 : Int32) (z50_v_away : (Nat → Int32)) (H : Heap) (locs : List Loc) (ls : Array Slot), I50 y50_2 y50_3 z50_v_away → μ50 y50_2 y50_3 z50_v_away < n → va_P (dC, dI) vwCl (cX7 cy a (X7_s v) (X7_aside v) (X7_kept v) (X7_isKept v) (X7_saved v) (X7_savedMany v) (X7_text v) (X7_length v) (X7_thrown v) (X7_joint v) (X7_position v) (X7_isWrong v) (X7_isHollow v) (X7_sure v) z50_v_away (X7_digested v)) H → va_D A (cX7 cy a (X7_s v) (X7_aside v) (X7_kept v) (X7_isKept v) (X7_saved v) (X7_savedMany v) (X7_text v) (X7_length v) (X7_thrown v) (X7_joint v) (X7_position v) (X7_isWrong v) (X7_isHollow v) (X7_sure v) z50_v_away (X7_digested v)) → va_S A s.heap H locs → lv_has ls 7 [(0, .ref (a 0)), (2, .int y50_2), (3, .int y50_3)] → W p l e (headSpec wsX7_layAway ({ frames := 1, cells := 0, slots := 0, locals := 22 } : Room)).room s m ([.ref (a 0), .int x1] : List Value).toArray below meth c H locs 0 0 (MQ below (q_X7_layAway dC dI cy a v x1 Q A) ([.ref (a 0), .int x1] : List Value).toArray s 0 0 A) (F0 m 50 ls []) := by
            intro n
            induction n with
            | zero => intro y50_2 y50_3 z50_v_away H locs ls _ hm; exact absurd hm (Nat.not_lt_zero _)
            | succ n ih =>
              intro y50_2 y50_3 z50_v_away H locs ls hI hm hP hD hS hl
              have hq := hs50 y50_2 y50_3 z50_v_away hI
              generalize hB50 : (fun (t0 : Int32) (t1 : Int32) (t2 : (Nat → Int32)) => I50 t0 t1 t2 ∧ μ50 t0 t1 t2 < μ50 y50_2 y50_3 z50_v_away) = B50 at hq
              have bk50 : ∀ (y50_2 : Int32) (y50_3 : Int32) (z50_v_away : (Nat → Int32)) (H : Heap) (locs : List Loc) (ls : Array Slot), B50 y50_2 y50_3 z50_v_away → va_P (dC, dI) vwCl (cX7 cy a (X7_s v) (X7_aside v) (X7_kept v) (X7_isKept v) (X7_saved v) (X7_savedMany v) (X7_text v) (X7_length v) (X7_thrown v) (X7_joint v) (X7_position v) (X7_isWrong v) (X7_isHollow v) (X7_sure v) z50_v_away (X7_digested v)) H → va_D A (cX7 cy a (X7_s v) (X7_aside v) (X7_kept v) (X7_isKept v) (X7_saved v) (X7_savedMany v) (X7_text v) (X7_length v) (X7_thrown v) (X7_joint v) (X7_position v) (X7_isWrong v) (X7_isHollow v) (X7_sure v) z50_v_away (X7_digested v)) → va_S A s.heap H locs → lv_has ls 7 [(0, .ref (a 0)), (2, .int y50_2), (3, .int y50_3)] → W p l e (headSpec wsX7_layAway ({ frames := 1, cells := 0, slots := 0, locals := 22 } : Room)).room s m ([.ref (a 0), .int x1] : List Value).toArray below meth c H locs 0 0 (MQ below (q_X7_layAway dC dI cy a v x1 Q A) ([.ref (a 0), .int x1] : List Value).toArray s 0 0 A) (F0 m 50 ls []) := by
                intro y50_2 y50_3 z50_v_away H locs ls h
                rw [← hB50] at h
                exact ih y50_2 y50_3 z50_v_away H locs ls h.1 (Nat.lt_of_lt_of_le h.2 (Nat.le_of_lt_succ hm))
              unfold wb_X7_layAway_50 at hq
              have J228 : ∀ (z228_v_away : (Nat → Int32)) (k228_0 : Int32) (H : Heap) (locs : List Loc) (ls : Array Slot), wp_X7_layAway_228 v x1 y42_2 z42_v_away B42 y50_2 y50_3 z50_v_away B50 z228_v_away k228_0 Q → va_P (dC, dI) vwCl (cX7 cy a (X7_s v) (X7_aside v) (X7_kept v) (X7_isKept v) (X7_saved v) (X7_savedMany v) (X7_text v) (X7_length v) (X7_thrown v) (X7_joint v) (X7_position v) (X7_isWrong v) (X7_isHollow v) (X7_sure v) z228_v_away (X7_digested v)) H → va_D A (cX7 cy a (X7_s v) (X7_aside v) (X7_kept v) (X7_isKept v) (X7_saved v) (X7_savedMany v) (X7_text v) (X7_length v) (X7_thrown v) (X7_joint v) (X7_position v) (X7_isWrong v) (X7_isHollow v) (X7_sure v) z228_v_away (X7_digested v)) → va_S A s.heap H locs → lv_has ls 7 [(0, .ref (a 0)), (3, .int y50_3)] → W p l e (headSpec wsX7_layAway ({ frames := 1, cells := 0, slots := 0, locals := 22 } : Room)).room s m ([.ref (a 0), .int x1] : List Value).toArray below meth c H locs 0 0 (MQ below (q_X7_layAway dC dI cy a v x1 Q A) ([.ref (a 0), .int x1] : List Value).toArray s 0 0 A) (F0 m 228 ls [.int k228_0]) := by
                intro z228_v_away k228_0 H locs ls hq hP hD hS hl
                unfold wp_X7_layAway_228 at hq
                refine lv_istore_n (lv' := [(2, .int k228_0), (0, .ref (a 0)), (3, .int y50_3)]) hx hb dX7_layAway_228 rfl hl (by decide) rfl (fun ls hl => ?_)
                refine lv_aload_n hx hb dX7_layAway_229 rfl (lv_at hl 1 rfl) ?_
                refine lv_iload_n hx hb dX7_layAway_230 rfl (lv_at hl 2 rfl) ?_
                have hFc := xfree_same hS hAe0 (ws := (cX7 cy a (X7_s v) (X7_aside v) (X7_kept v) (X7_isKept v) (X7_saved v) (X7_savedMany v) (X7_text v) (X7_length v) (X7_thrown v) (X7_joint v) (X7_position v) (X7_isWrong v) (X7_isHollow v) (X7_sure v) z228_v_away (X7_digested v))) hD
                refine va_calli (va_runV (As := [.int y50_3]) (rest := []) ⟨hx, hb, hml, hown, hts⟩ (c_X7_endFrom l dC dI cy a _ (X7_s14 v z228_v_away) y50_3 _ hq) (cwV 1 hts gX7_layAway_X7_endFrom rfl rfl rfl (by decide +kernel) ⟨Nat.le_of_ble_eq_true rfl, Nat.le_of_ble_eq_true rfl⟩) ⟨xPre_blind, va_recv hK hP (ci := 7) (q0 := 0) rfl rfl, xPre_of hP hK hD⟩ rfl rfl hl.1 rfl (lv_room (Nat.le_of_ble_eq_true rfl)) dX7_layAway_231 ⟨Nat.le_of_ble_eq_true rfl, Nat.le_of_ble_eq_true rfl⟩) hS (fun q _ h => hFc q h) hFc (fun r231 u9 t H locs ht hvm hq hB hz1 hk1 hS => ?_)
                obtain ⟨hP1, -, hD1⟩ := hB
                rw [ht] at hP1
                have hP : va_P (dC, dI) vwCl (cX7 cy a (X7_s v) (X7_aside v) (X7_kept v) (X7_isKept v) (X7_saved v) (X7_savedMany v) (X7_text v) (X7_length v) (X7_thrown v) (X7_joint v) (X7_position v) (X7_isWrong v) (X7_isHollow v) (X7_sure v) z228_v_away (X7_digested v)) H := hP1
                have hD : va_D A (cX7 cy a (X7_s v) (X7_aside v) (X7_kept v) (X7_isKept v) (X7_saved v) (X7_savedMany v) (X7_text v) (X7_length v) (X7_thrown v) (X7_joint v) (X7_position v) (X7_isWrong v) (X7_isHollow v) (X7_sure v) z228_v_away (X7_digested v)) := hD1.weaken (fun _ q _ h => hFc q.1 h)
                refine lv_iconst (v := 1) hx hb dX7_layAway_234 (by decide) ?_
                refine lv_iadd hx hb dX7_layAway_235 ?_
                refine lv_istore_n (lv' := [(3, .int (r231 + 1)), (2, .int k228_0), (0, .ref (a 0))]) hx hb dX7_layAway_236 rfl hl (by decide) rfl (fun ls hl => ?_)
                refine lv_goto (tgt := 50) hx hb dX7_layAway_237 (by decide) ?_
                exact bk50 k228_0 (r231 + 1) z228_v_away _ _ _ hq hP hD hS (lv_sub hl [2, 1, 0] rfl)
              have J223 : ∀ (z223_v_away : (Nat → Int32)) (H : Heap) (locs : List Loc) (ls : Array Slot), wp_X7_layAway_223 v x1 y42_2 z42_v_away B42 y50_2 y50_3 z50_v_away B50 z223_v_away Q → va_P (dC, dI) vwCl (cX7 cy a (X7_s v) (X7_aside v) (X7_kept v) (X7_isKept v) (X7_saved v) (X7_savedMany v) (X7_text v) (X7_length v) (X7_thrown v) (X7_joint v) (X7_position v) (X7_isWrong v) (X7_isHollow v) (X7_sure v) z223_v_away (X7_digested v)) H → va_D A (cX7 cy a (X7_s v) (X7_aside v) (X7_kept v) (X7_isKept v) (X7_saved v) (X7_savedMany v) (X7_text v) (X7_length v) (X7_thrown v) (X7_joint v) (X7_position v) (X7_isWrong v) (X7_isHollow v) (X7_sure v) z223_v_away (X7_digested v)) → va_S A s.heap H locs → lv_has ls 7 [(0, .ref (a 0)), (3, .int y50_3)] → W p l e (headSpec wsX7_layAway ({ frames := 1, cells := 0, slots := 0, locals := 22 } : Room)).room s m ([.ref (a 0), .int x1] : List Value).toArray below meth c H locs 0 0 (MQ below (q_X7_layAway dC dI cy a v x1 Q A) ([.ref (a 0), .int x1] : List Value).toArray s 0 0 A) (F0 m 223 ls []) := by
                intro z223_v_away H locs ls hq hP hD hS hl
                unfold wp_X7_layAway_223 at hq
                refine lv_iconst (v := 1) hx hb dX7_layAway_223 (by decide) ?_
                refine lv_goto (tgt := 228) hx hb dX7_layAway_224 (by decide) ?_
                exact J228 z223_v_away 1  _ _ _ hq hP hD hS (lv_sub hl [0, 1] rfl)
              have J213 : ∀ (y213_6 : Int32) (z213_v_away : (Nat → Int32)) (k213_0 : Int32) (k213_1 : Int32) (H : Heap) (locs : List Loc) (ls : Array Slot), wp_X7_layAway_213 v x1 y42_2 z42_v_away B42 y50_2 y50_3 z50_v_away B50 y213_6 z213_v_away k213_0 k213_1 Q → va_P (dC, dI) vwCl (cX7 cy a (X7_s v) (X7_aside v) (X7_kept v) (X7_isKept v) (X7_saved v) (X7_savedMany v) (X7_text v) (X7_length v) (X7_thrown v) (X7_joint v) (X7_position v) (X7_isWrong v) (X7_isHollow v) (X7_sure v) z213_v_away (X7_digested v)) H → va_D A (cX7 cy a (X7_s v) (X7_aside v) (X7_kept v) (X7_isKept v) (X7_saved v) (X7_savedMany v) (X7_text v) (X7_length v) (X7_thrown v) (X7_joint v) (X7_position v) (X7_isWrong v) (X7_isHollow v) (X7_sure v) z213_v_away (X7_digested v)) → va_S A s.heap H locs → lv_has ls 7 [(0, .ref (a 0)), (2, .int y50_2), (3, .int y50_3), (6, .int y213_6)] → W p l e (headSpec wsX7_layAway ({ frames := 1, cells := 0, slots := 0, locals := 22 } : Room)).room s m ([.ref (a 0), .int x1] : List Value).toArray below meth c H locs 0 0 (MQ below (q_X7_layAway dC dI cy a v x1 Q A) ([.ref (a 0), .int x1] : List Value).toArray s 0 0 A) (F0 m 213 ls [.int k213_0, .int k213_1, .ref (a 9)]) := by
                intro y213_6 z213_v_away k213_0 k213_1 H locs ls hq hP hD hS hl
                unfold wp_X7_layAway_213 at hq
                obtain ⟨g1, hq⟩ := hq
                refine va_iast hx hb hK hP hD hS 9 0 rfl rfl g1 dX7_layAway_213 (fun H locs hP hD hS => ?_)
                have hP : va_P (dC, dI) vwCl (cX7 cy a (X7_s v) (X7_aside v) (X7_kept v) (X7_isKept v) (X7_saved v) (X7_savedMany v) (X7_text v) (X7_length v) (X7_thrown v) (X7_joint v) (X7_position v) (X7_isWrong v) (X7_isHollow v) (X7_sure v) (upd z213_v_away k213_1.toNatClampNeg k213_0) (X7_digested v)) H := hP
                have hD : va_D A (cX7 cy a (X7_s v) (X7_aside v) (X7_kept v) (X7_isKept v) (X7_saved v) (X7_savedMany v) (X7_text v) (X7_length v) (X7_thrown v) (X7_joint v) (X7_position v) (X7_isWrong v) (X7_isHollow v) (X7_sure v) (upd z213_v_away k213_1.toNatClampNeg k213_0) (X7_digested v)) := hD
                refine lv_iload_n hx hb dX7_layAway_214 rfl (lv_at hl 1 rfl) ?_
                obtain ⟨hqA, hqB⟩ := hq
                refine lv_if_ne (tgt := 223) hx hb dX7_layAway_215 (by decide) (fun c3 => ?_) (fun c3 => ?_)
                · have hq := hqB c3
                  exact J223 (upd z213_v_away k213_1.toNatClampNeg k213_0)  _ _ _ hq hP hD hS (lv_sub hl [0, 2] rfl)
                · have hq := hqA c3
                  refine lv_iload hx hb dX7_layAway_218 (lv_at hl 3 rfl) ?_
                  obtain ⟨hqA, hqB⟩ := hq
                  refine lv_if_eq (tgt := 227) hx hb dX7_layAway_220 (by decide) (fun c2 => ?_) (fun c2 => ?_)
                  · have hq := hqA c2
                    refine lv_iconst (v := 0) hx hb dX7_layAway_227 (by decide) ?_
                    exact J228 (upd z213_v_away k213_1.toNatClampNeg k213_0) 0  _ _ _ hq hP hD hS (lv_sub hl [0, 2] rfl)
                  · have hq := hqB c2
                    exact J223 (upd z213_v_away k213_1.toNatClampNeg k213_0)  _ _ _ hq hP hD hS (lv_sub hl [0, 2] rfl)
              have J168 : ∀ (y168_4 : Int32) (y168_5 : Int32) (y168_6 : Int32) (k168_0 : Int32) (k168_1 : Int32) (H : Heap) (locs : List Loc) (ls : Array Slot), wp_X7_layAway_168 v x1 y42_2 z42_v_away B42 y50_2 y50_3 z50_v_away B50 y168_4 y168_5 y168_6 k168_0 k168_1 Q → va_P (dC, dI) vwCl (cX7 cy a (X7_s v) (X7_aside v) (X7_kept v) (X7_isKept v) (X7_saved v) (X7_savedMany v) (X7_text v) (X7_length v) (X7_thrown v) (X7_joint v) (X7_position v) (X7_isWrong v) (X7_isHollow v) (X7_sure v) z50_v_away (X7_digested v)) H → va_D A (cX7 cy a (X7_s v) (X7_aside v) (X7_kept v) (X7_isKept v) (X7_saved v) (X7_savedMany v) (X7_text v) (X7_length v) (X7_thrown v) (X7_joint v) (X7_position v) (X7_isWrong v) (X7_isHollow v) (X7_sure v) z50_v_away (X7_digested v)) → va_S A s.heap H locs → lv_has ls 7 [(0, .ref (a 0)), (2, .int y50_2), (3, .int y50_3), (4, .int y168_4), (5, .int y168_5), (6, .int y168_6)] → W p l e (headSpec wsX7_layAway ({ frames := 1, cells := 0, slots := 0, locals := 22 } : Room)).room s m ([.ref (a 0), .int x1] : List Value).toArray below meth c H locs 0 0 (MQ below (q_X7_layAway dC dI cy a v x1 Q A) ([.ref (a 0), .int x1] : List Value).toArray s 0 0 A) (F0 m 168 ls [.int k168_0, .int k168_1, .ref (a 9)]) := by
                intro y168_4 y168_5 y168_6 k168_0 k168_1 H locs ls hq hP hD hS hl
                unfold wp_X7_layAway_168 at hq
                obtain ⟨g4, hq⟩ := hq
                refine va_iast hx hb hK hP hD hS 9 0 rfl rfl g4 dX7_layAway_168 (fun H locs hP hD hS => ?_)
                have hP : va_P (dC, dI) vwCl (cX7 cy a (X7_s v) (X7_aside v) (X7_kept v) (X7_isKept v) (X7_saved v) (X7_savedMany v) (X7_text v) (X7_length v) (X7_thrown v) (X7_joint v) (X7_position v) (X7_isWrong v) (X7_isHollow v) (X7_sure v) (upd z50_v_away k168_1.toNatClampNeg k168_0) (X7_digested v)) H := hP
                have hD : va_D A (cX7 cy a (X7_s v) (X7_aside v) (X7_kept v) (X7_isKept v) (X7_saved v) (X7_savedMany v) (X7_text v) (X7_length v) (X7_thrown v) (X7_joint v) (X7_position v) (X7_isWrong v) (X7_isHollow v) (X7_sure v) (upd z50_v_away k168_1.toNatClampNeg k168_0) (X7_digested v)) := hD
                refine lv_aload_n hx hb dX7_layAway_169 rfl (lv_at hl 0 rfl) ?_
                refine va_get (D := (dC, dI)) (ci := 7) (v := .ref (a 9)) (C := RX7) (T := TX7) (N := 16) hx hb hts iK7 hown hK hP 0 rfl rfl 14 (by decide) lk0 (fun _ h9 => h9) rfl dX7_layAway_170 ?_
                refine lv_iload hx hb dX7_layAway_173 (lv_at hl 3 rfl) ?_
                refine lv_aload_n hx hb dX7_layAway_175 rfl (lv_at hl 0 rfl) ?_
                refine va_get (D := (dC, dI)) (ci := 7) (v := .ref (a 9)) (C := RX7) (T := TX7) (N := 16) hx hb hts iK7 hown hK hP 0 rfl rfl 14 (by decide) lk0 (fun _ h9 => h9) rfl dX7_layAway_176 ?_
                refine lv_iload hx hb dX7_layAway_179 (lv_at hl 4 rfl) ?_
                obtain ⟨g5, hq⟩ := hq
                refine va_iald hx hb hK hP 9 0 rfl rfl g5 dX7_layAway_181 ?_
                refine lv_iconst (v := 1) hx hb dX7_layAway_182 (by decide) ?_
                refine lv_iadd hx hb dX7_layAway_183 ?_
                refine lv_aload_n hx hb dX7_layAway_184 rfl (lv_at hl 0 rfl) ?_
                refine va_get (D := (dC, dI)) (ci := 7) (v := .ref (a 9)) (C := RX7) (T := TX7) (N := 16) hx hb hts iK7 hown hK hP 0 rfl rfl 14 (by decide) lk0 (fun _ h9 => h9) rfl dX7_layAway_185 ?_
                refine lv_iload hx hb dX7_layAway_188 (lv_at hl 3 rfl) ?_
                obtain ⟨g6, hq⟩ := hq
                refine va_iald hx hb hK hP 9 0 rfl rfl g6 dX7_layAway_190 ?_
                obtain ⟨hqA, hqB⟩ := hq
                refine lv_icmp_ge (tgt := 206) hx hb dX7_layAway_191 (by decide) (fun c7 => ?_) (fun c7 => ?_)
                · have hq := hqA c7
                  refine lv_aload_n hx hb dX7_layAway_206 rfl (lv_at hl 0 rfl) ?_
                  refine va_get (D := (dC, dI)) (ci := 7) (v := .ref (a 9)) (C := RX7) (T := TX7) (N := 16) hx hb hts iK7 hown hK hP 0 rfl rfl 14 (by decide) lk0 (fun _ h9 => h9) rfl dX7_layAway_207 ?_
                  refine lv_iload hx hb dX7_layAway_210 (lv_at hl 3 rfl) ?_
                  refine va_iald hx hb hK hP 9 0 rfl rfl g6 dX7_layAway_212 ?_
                  exact J213 y168_6 (upd z50_v_away k168_1.toNatClampNeg k168_0) ((upd z50_v_away k168_1.toNatClampNeg k168_0) y168_4.toNatClampNeg) y168_4  _ _ _ hq hP hD hS (lv_sub hl [0, 1, 2, 5] rfl)
                · have hq := hqB c7
                  refine lv_aload_n hx hb dX7_layAway_194 rfl (lv_at hl 0 rfl) ?_
                  refine va_get (D := (dC, dI)) (ci := 7) (v := .ref (a 9)) (C := RX7) (T := TX7) (N := 16) hx hb hts iK7 hown hK hP 0 rfl rfl 14 (by decide) lk0 (fun _ h9 => h9) rfl dX7_layAway_195 ?_
                  refine lv_iload hx hb dX7_layAway_198 (lv_at hl 4 rfl) ?_
                  refine va_iald hx hb hK hP 9 0 rfl rfl g5 dX7_layAway_200 ?_
                  refine lv_iconst (v := 1) hx hb dX7_layAway_201 (by decide) ?_
                  refine lv_iadd hx hb dX7_layAway_202 ?_
                  refine lv_goto (tgt := 213) hx hb dX7_layAway_203 (by decide) ?_
                  exact J213 y168_6 (upd z50_v_away k168_1.toNatClampNeg k168_0) (((upd z50_v_away k168_1.toNatClampNeg k168_0) y168_5.toNatClampNeg) + 1) y168_4  _ _ _ hq hP hD hS (lv_sub hl [0, 1, 2, 5] rfl)
              have J122 : ∀ (y122_4 : Int32) (y122_5 : Int32) (k122_0 : Int32) (H : Heap) (locs : List Loc) (ls : Array Slot), wp_X7_layAway_122 v x1 y42_2 z42_v_away B42 y50_2 y50_3 z50_v_away B50 y122_4 y122_5 k122_0 Q → va_P (dC, dI) vwCl (cX7 cy a (X7_s v) (X7_aside v) (X7_kept v) (X7_isKept v) (X7_saved v) (X7_savedMany v) (X7_text v) (X7_length v) (X7_thrown v) (X7_joint v) (X7_position v) (X7_isWrong v) (X7_isHollow v) (X7_sure v) z50_v_away (X7_digested v)) H → va_D A (cX7 cy a (X7_s v) (X7_aside v) (X7_kept v) (X7_isKept v) (X7_saved v) (X7_savedMany v) (X7_text v) (X7_length v) (X7_thrown v) (X7_joint v) (X7_position v) (X7_isWrong v) (X7_isHollow v) (X7_sure v) z50_v_away (X7_digested v)) → va_S A s.heap H locs → lv_has ls 7 [(0, .ref (a 0)), (2, .int y50_2), (3, .int y50_3), (4, .int y122_4), (5, .int y122_5)] → W p l e (headSpec wsX7_layAway ({ frames := 1, cells := 0, slots := 0, locals := 22 } : Room)).room s m ([.ref (a 0), .int x1] : List Value).toArray below meth c H locs 0 0 (MQ below (q_X7_layAway dC dI cy a v x1 Q A) ([.ref (a 0), .int x1] : List Value).toArray s 0 0 A) (F0 m 122 ls [.int k122_0]) := by
                intro y122_4 y122_5 k122_0 H locs ls hq hP hD hS hl
                unfold wp_X7_layAway_122 at hq
                refine lv_istore (lv' := [(6, .int k122_0), (0, .ref (a 0)), (2, .int y50_2), (3, .int y50_3), (4, .int y122_4), (5, .int y122_5)]) hx hb dX7_layAway_122 hl (by decide) rfl (fun ls hl => ?_)
                refine lv_aload_n hx hb dX7_layAway_124 rfl (lv_at hl 1 rfl) ?_
                refine va_get (D := (dC, dI)) (ci := 7) (v := .ref (a 9)) (C := RX7) (T := TX7) (N := 16) hx hb hts iK7 hown hK hP 0 rfl rfl 14 (by decide) lk0 (fun _ h9 => h9) rfl dX7_layAway_125 ?_
                refine lv_iload hx hb dX7_layAway_128 (lv_at hl 5 rfl) ?_
                refine lv_aload_n hx hb dX7_layAway_130 rfl (lv_at hl 1 rfl) ?_
                refine va_get (D := (dC, dI)) (ci := 7) (v := .ref (a 9)) (C := RX7) (T := TX7) (N := 16) hx hb hts iK7 hown hK hP 0 rfl rfl 14 (by decide) lk0 (fun _ h9 => h9) rfl dX7_layAway_131 ?_
                refine lv_iload hx hb dX7_layAway_134 (lv_at hl 4 rfl) ?_
                obtain ⟨g8, hq⟩ := hq
                refine va_iald hx hb hK hP 9 0 rfl rfl g8 dX7_layAway_136 ?_
                refine lv_iconst (v := 1) hx hb dX7_layAway_137 (by decide) ?_
                refine lv_iadd hx hb dX7_layAway_138 ?_
                refine lv_aload_n hx hb dX7_layAway_139 rfl (lv_at hl 1 rfl) ?_
                refine va_get (D := (dC, dI)) (ci := 7) (v := .ref (a 9)) (C := RX7) (T := TX7) (N := 16) hx hb hts iK7 hown hK hP 0 rfl rfl 14 (by decide) lk0 (fun _ h9 => h9) rfl dX7_layAway_140 ?_
                refine lv_iload hx hb dX7_layAway_143 (lv_at hl 5 rfl) ?_
                obtain ⟨g9, hq⟩ := hq
                refine va_iald hx hb hK hP 9 0 rfl rfl g9 dX7_layAway_145 ?_
                obtain ⟨hqA, hqB⟩ := hq
                refine lv_icmp_ge (tgt := 161) hx hb dX7_layAway_146 (by decide) (fun c10 => ?_) (fun c10 => ?_)
                · have hq := hqA c10
                  refine lv_aload_n hx hb dX7_layAway_161 rfl (lv_at hl 1 rfl) ?_
                  refine va_get (D := (dC, dI)) (ci := 7) (v := .ref (a 9)) (C := RX7) (T := TX7) (N := 16) hx hb hts iK7 hown hK hP 0 rfl rfl 14 (by decide) lk0 (fun _ h9 => h9) rfl dX7_layAway_162 ?_
                  refine lv_iload hx hb dX7_layAway_165 (lv_at hl 5 rfl) ?_
                  refine va_iald hx hb hK hP 9 0 rfl rfl g9 dX7_layAway_167 ?_
                  exact J168 y122_4 y122_5 k122_0 (z50_v_away y122_5.toNatClampNeg) y122_5  _ _ _ hq hP hD hS (lv_sub hl [1, 2, 3, 4, 5, 0] rfl)
                · have hq := hqB c10
                  refine lv_aload_n hx hb dX7_layAway_149 rfl (lv_at hl 1 rfl) ?_
                  refine va_get (D := (dC, dI)) (ci := 7) (v := .ref (a 9)) (C := RX7) (T := TX7) (N := 16) hx hb hts iK7 hown hK hP 0 rfl rfl 14 (by decide) lk0 (fun _ h9 => h9) rfl dX7_layAway_150 ?_
                  refine lv_iload hx hb dX7_layAway_153 (lv_at hl 4 rfl) ?_
                  refine va_iald hx hb hK hP 9 0 rfl rfl g8 dX7_layAway_155 ?_
                  refine lv_iconst (v := 1) hx hb dX7_layAway_156 (by decide) ?_
                  refine lv_iadd hx hb dX7_layAway_157 ?_
                  refine lv_goto (tgt := 168) hx hb dX7_layAway_158 (by decide) ?_
                  exact J168 y122_4 y122_5 k122_0 ((z50_v_away y122_4.toNatClampNeg) + 1) y122_5  _ _ _ hq hP hD hS (lv_sub hl [1, 2, 3, 4, 5, 0] rfl)
              have J117 : ∀ (y117_4 : Int32) (y117_5 : Int32) (H : Heap) (locs : List Loc) (ls : Array Slot), wp_X7_layAway_117 v x1 y42_2 z42_v_away B42 y50_2 y50_3 z50_v_away B50 y117_4 y117_5 Q → va_P (dC, dI) vwCl (cX7 cy a (X7_s v) (X7_aside v) (X7_kept v) (X7_isKept v) (X7_saved v) (X7_savedMany v) (X7_text v) (X7_length v) (X7_thrown v) (X7_joint v) (X7_position v) (X7_isWrong v) (X7_isHollow v) (X7_sure v) z50_v_away (X7_digested v)) H → va_D A (cX7 cy a (X7_s v) (X7_aside v) (X7_kept v) (X7_isKept v) (X7_saved v) (X7_savedMany v) (X7_text v) (X7_length v) (X7_thrown v) (X7_joint v) (X7_position v) (X7_isWrong v) (X7_isHollow v) (X7_sure v) z50_v_away (X7_digested v)) → va_S A s.heap H locs → lv_has ls 7 [(0, .ref (a 0)), (2, .int y50_2), (3, .int y50_3), (4, .int y117_4), (5, .int y117_5)] → W p l e (headSpec wsX7_layAway ({ frames := 1, cells := 0, slots := 0, locals := 22 } : Room)).room s m ([.ref (a 0), .int x1] : List Value).toArray below meth c H locs 0 0 (MQ below (q_X7_layAway dC dI cy a v x1 Q A) ([.ref (a 0), .int x1] : List Value).toArray s 0 0 A) (F0 m 117 ls []) := by
                intro y117_4 y117_5 H locs ls hq hP hD hS hl
                unfold wp_X7_layAway_117 at hq
                refine lv_iconst (v := 1) hx hb dX7_layAway_117 (by decide) ?_
                refine lv_goto (tgt := 122) hx hb dX7_layAway_118 (by decide) ?_
                exact J122 y117_4 y117_5 1  _ _ _ hq hP hD hS (lv_sub hl [0, 1, 2, 3, 4] rfl)
              refine lv_iload_n hx hb dX7_layAway_50 rfl (lv_at hl 2 rfl) ?_
              refine lv_aload_n hx hb dX7_layAway_51 rfl (lv_at hl 0 rfl) ?_
              refine va_get (D := (dC, dI)) (ci := 7) (v := .ref (a 1)) (C := RX7) (T := TX7) (N := 16) hx hb hts iK7 hown hK hP 0 rfl rfl 0 (by decide) lk1 (fun _ h9 => h9) rfl dX7_layAway_52 ?_
              refine lv_bipush (v := 7) hx hb dX7_layAway_55 (by decide) ?_
              obtain ⟨g11, hq⟩ := hq
              refine va_iald hx hb hK hP 1 0 rfl rfl g11 dX7_layAway_57 ?_
              obtain ⟨hqA, hqB⟩ := hq
              refine lv_icmp_ge (tgt := 240) hx hb dX7_layAway_58 (by decide) (fun c16 => ?_) (fun c16 => ?_)
              · have hq := hqA c16
                refine lv_goto (tgt := 42) hx hb dX7_layAway_240 (by decide) ?_
                exact bk42 y50_2 z50_v_away _ _ _ hq hP hD hS (lv_sub hl [0, 1] rfl)
              · have hq := hqB c16
                refine lv_aload_n hx hb dX7_layAway_61 rfl (lv_at hl 0 rfl) ?_
                refine lv_iload_n hx hb dX7_layAway_62 rfl (lv_at hl 2 rfl) ?_
                have hFc := xfree_same hS hAe0 (ws := (cX7 cy a (X7_s v) (X7_aside v) (X7_kept v) (X7_isKept v) (X7_saved v) (X7_savedMany v) (X7_text v) (X7_length v) (X7_thrown v) (X7_joint v) (X7_position v) (X7_isWrong v) (X7_isHollow v) (X7_sure v) z50_v_away (X7_digested v))) hD
                refine va_calli (va_runV (As := [.int y50_3]) (rest := []) ⟨hx, hb, hml, hown, hts⟩ (c_X7_tuftAt l dC dI cy a _ (X7_s14 v z50_v_away) y50_3 _ hq) (cwV 1 hts gX7_layAway_X7_tuftAt rfl rfl rfl (by decide +kernel) ⟨Nat.le_of_ble_eq_true rfl, Nat.le_of_ble_eq_true rfl⟩) ⟨xPre_blind, va_recv hK hP (ci := 7) (q0 := 0) rfl rfl, xPre_of hP hK hD⟩ rfl rfl hl.1 rfl (lv_room (Nat.le_of_ble_eq_true rfl)) dX7_layAway_63 ⟨Nat.le_of_ble_eq_true rfl, Nat.le_of_ble_eq_true rfl⟩) hS (fun q _ h => hFc q h) hFc (fun r63 u9 t H locs ht hvm hq hB hz1 hk1 hS => ?_)
                obtain ⟨hP1, -, hD1⟩ := hB
                rw [ht] at hP1
                have hP : va_P (dC, dI) vwCl (cX7 cy a (X7_s v) (X7_aside v) (X7_kept v) (X7_isKept v) (X7_saved v) (X7_savedMany v) (X7_text v) (X7_length v) (X7_thrown v) (X7_joint v) (X7_position v) (X7_isWrong v) (X7_isHollow v) (X7_sure v) z50_v_away (X7_digested v)) H := hP1
                have hD : va_D A (cX7 cy a (X7_s v) (X7_aside v) (X7_kept v) (X7_isKept v) (X7_saved v) (X7_savedMany v) (X7_text v) (X7_length v) (X7_thrown v) (X7_joint v) (X7_position v) (X7_isWrong v) (X7_isHollow v) (X7_sure v) z50_v_away (X7_digested v)) := hD1.weaken (fun _ q _ h => hFc q.1 h)
                refine lv_istore (lv' := [(4, .int r63), (0, .ref (a 0)), (2, .int y50_2), (3, .int y50_3)]) hx hb dX7_layAway_66 hl (by decide) rfl (fun ls hl => ?_)
                refine lv_aload_n hx hb dX7_layAway_68 rfl (lv_at hl 1 rfl) ?_
                refine lv_aload_n hx hb dX7_layAway_69 rfl (lv_at hl 1 rfl) ?_
                refine lv_iload_n hx hb dX7_layAway_70 rfl (lv_at hl 3 rfl) ?_
                have hFc := xfree_same hS hAe0 (ws := (cX7 cy a (X7_s v) (X7_aside v) (X7_kept v) (X7_isKept v) (X7_saved v) (X7_savedMany v) (X7_text v) (X7_length v) (X7_thrown v) (X7_joint v) (X7_position v) (X7_isWrong v) (X7_isHollow v) (X7_sure v) z50_v_away (X7_digested v))) hD
                refine va_calli (va_runV (As := [.int y50_3]) (rest := [.ref (a 0)]) ⟨hx, hb, hml, hown, hts⟩ (c_X7_endFrom l dC dI cy a _ (X7_s14 v z50_v_away) y50_3 _ hq) (cwV 1 hts gX7_layAway_X7_endFrom rfl rfl rfl (by decide +kernel) ⟨Nat.le_of_ble_eq_true rfl, Nat.le_of_ble_eq_true rfl⟩) ⟨xPre_blind, va_recv hK hP (ci := 7) (q0 := 0) rfl rfl, xPre_of hP hK hD⟩ rfl rfl hl.1 rfl (lv_room (Nat.le_of_ble_eq_true rfl)) dX7_layAway_71 ⟨Nat.le_of_ble_eq_true rfl, Nat.le_of_ble_eq_true rfl⟩) hS (fun q _ h => hFc q h) hFc (fun r71 u9 t H locs ht hvm hq hB hz1 hk1 hS => ?_)
                obtain ⟨hP1, -, hD1⟩ := hB
                rw [ht] at hP1
                have hP : va_P (dC, dI) vwCl (cX7 cy a (X7_s v) (X7_aside v) (X7_kept v) (X7_isKept v) (X7_saved v) (X7_savedMany v) (X7_text v) (X7_length v) (X7_thrown v) (X7_joint v) (X7_position v) (X7_isWrong v) (X7_isHollow v) (X7_sure v) z50_v_away (X7_digested v)) H := hP1
                have hD : va_D A (cX7 cy a (X7_s v) (X7_aside v) (X7_kept v) (X7_isKept v) (X7_saved v) (X7_savedMany v) (X7_text v) (X7_length v) (X7_thrown v) (X7_joint v) (X7_position v) (X7_isWrong v) (X7_isHollow v) (X7_sure v) z50_v_away (X7_digested v)) := hD1.weaken (fun _ q _ h => hFc q.1 h)
                have hFc := xfree_same hS hAe0 (ws := (cX7 cy a (X7_s v) (X7_aside v) (X7_kept v) (X7_isKept v) (X7_saved v) (X7_savedMany v) (X7_text v) (X7_length v) (X7_thrown v) (X7_joint v) (X7_position v) (X7_isWrong v) (X7_isHollow v) (X7_sure v) z50_v_away (X7_digested v))) hD
                refine va_calli (va_runV (As := [.int r71]) (rest := []) ⟨hx, hb, hml, hown, hts⟩ (c_X7_tuftAt l dC dI cy a _ (X7_s14 v z50_v_away) r71 _ hq) (cwV 1 hts gX7_layAway_X7_tuftAt rfl rfl rfl (by decide +kernel) ⟨Nat.le_of_ble_eq_true rfl, Nat.le_of_ble_eq_true rfl⟩) ⟨xPre_blind, va_recv hK hP (ci := 7) (q0 := 0) rfl rfl, xPre_of hP hK hD⟩ rfl rfl hl.1 rfl (lv_room (Nat.le_of_ble_eq_true rfl)) dX7_layAway_74 ⟨Nat.le_of_ble_eq_true rfl, Nat.le_of_ble_eq_true rfl⟩) hS (fun q _ h => hFc q h) hFc (fun r74 u9 t H locs ht hvm hq hB hz1 hk1 hS => ?_)
                obtain ⟨hP1, -, hD1⟩ := hB
                rw [ht] at hP1
                have hP : va_P (dC, dI) vwCl (cX7 cy a (X7_s v) (X7_aside v) (X7_kept v) (X7_isKept v) (X7_saved v) (X7_savedMany v) (X7_text v) (X7_length v) (X7_thrown v) (X7_joint v) (X7_position v) (X7_isWrong v) (X7_isHollow v) (X7_sure v) z50_v_away (X7_digested v)) H := hP1
                have hD : va_D A (cX7 cy a (X7_s v) (X7_aside v) (X7_kept v) (X7_isKept v) (X7_saved v) (X7_savedMany v) (X7_text v) (X7_length v) (X7_thrown v) (X7_joint v) (X7_position v) (X7_isWrong v) (X7_isHollow v) (X7_sure v) z50_v_away (X7_digested v)) := hD1.weaken (fun _ q _ h => hFc q.1 h)
                refine lv_istore (lv' := [(5, .int r74), (4, .int r63), (0, .ref (a 0)), (2, .int y50_2), (3, .int y50_3)]) hx hb dX7_layAway_77 hl (by decide) rfl (fun ls hl => ?_)
                refine lv_aload_n hx hb dX7_layAway_79 rfl (lv_at hl 2 rfl) ?_
                refine va_get (D := (dC, dI)) (ci := 7) (v := .ref (a 9)) (C := RX7) (T := TX7) (N := 16) hx hb hts iK7 hown hK hP 0 rfl rfl 14 (by decide) lk0 (fun _ h9 => h9) rfl dX7_layAway_80 ?_
                refine lv_iload hx hb dX7_layAway_83 (lv_at hl 1 rfl) ?_
                obtain ⟨g12, hq⟩ := hq
                refine va_iald hx hb hK hP 9 0 rfl rfl g12 dX7_layAway_85 ?_
                refine lv_iconst (v := 1) hx hb dX7_layAway_86 (by decide) ?_
                refine lv_iadd hx hb dX7_layAway_87 ?_
                refine lv_aload_n hx hb dX7_layAway_88 rfl (lv_at hl 2 rfl) ?_
                refine va_get (D := (dC, dI)) (ci := 7) (v := .ref (a 9)) (C := RX7) (T := TX7) (N := 16) hx hb hts iK7 hown hK hP 0 rfl rfl 14 (by decide) lk0 (fun _ h9 => h9) rfl dX7_layAway_89 ?_
                refine lv_iload hx hb dX7_layAway_92 (lv_at hl 0 rfl) ?_
                obtain ⟨g13, hq⟩ := hq
                refine va_iald hx hb hK hP 9 0 rfl rfl g13 dX7_layAway_94 ?_
                obtain ⟨hqA, hqB⟩ := hq
                refine lv_icmp_lt (tgt := 117) hx hb dX7_layAway_95 (by decide) (fun c15 => ?_) (fun c15 => ?_)
                · have hq := hqA c15
                  exact J117 r63 r74  _ _ _ hq hP hD hS (lv_sub hl [2, 3, 4, 1, 0] rfl)
                · have hq := hqB c15
                  refine lv_aload_n hx hb dX7_layAway_98 rfl (lv_at hl 2 rfl) ?_
                  refine va_get (D := (dC, dI)) (ci := 7) (v := .ref (a 9)) (C := RX7) (T := TX7) (N := 16) hx hb hts iK7 hown hK hP 0 rfl rfl 14 (by decide) lk0 (fun _ h9 => h9) rfl dX7_layAway_99 ?_
                  refine lv_iload hx hb dX7_layAway_102 (lv_at hl 0 rfl) ?_
                  refine va_iald hx hb hK hP 9 0 rfl rfl g13 dX7_layAway_104 ?_
                  refine lv_iconst (v := 1) hx hb dX7_layAway_105 (by decide) ?_
                  refine lv_iadd hx hb dX7_layAway_106 ?_
                  refine lv_aload_n hx hb dX7_layAway_107 rfl (lv_at hl 2 rfl) ?_
                  refine va_get (D := (dC, dI)) (ci := 7) (v := .ref (a 9)) (C := RX7) (T := TX7) (N := 16) hx hb hts iK7 hown hK hP 0 rfl rfl 14 (by decide) lk0 (fun _ h9 => h9) rfl dX7_layAway_108 ?_
                  refine lv_iload hx hb dX7_layAway_111 (lv_at hl 1 rfl) ?_
                  refine va_iald hx hb hK hP 9 0 rfl rfl g12 dX7_layAway_113 ?_
                  obtain ⟨hqA, hqB⟩ := hq
                  refine lv_icmp_ge (tgt := 121) hx hb dX7_layAway_114 (by decide) (fun c14 => ?_) (fun c14 => ?_)
                  · have hq := hqA c14
                    refine lv_iconst (v := 0) hx hb dX7_layAway_121 (by decide) ?_
                    exact J122 r63 r74 0  _ _ _ hq hP hD hS (lv_sub hl [2, 3, 4, 1, 0] rfl)
                  · have hq := hqB c14
                    exact J117 r63 r74  _ _ _ hq hP hD hS (lv_sub hl [2, 3, 4, 1, 0] rfl)
          exact key _ y50_2 y50_3 z50_v_away H locs ls h0 (Nat.lt_succ_self _) hP hD hS hl
        refine lv_iload_n hx hb dX7_layAway_42 rfl (lv_at hl 1 rfl) ?_
        obtain ⟨hqA, hqB⟩ := hq
        refine lv_if_eq (tgt := 243) hx hb dX7_layAway_43 (by decide) (fun c17 => ?_) (fun c17 => ?_)
        · have hq := hqA c17
          exact W.vret hx hb hr (fun t ht hW => ⟨⟨z42_v_away, rfl, hq, (xAt_of hP hK hD ht hW)⟩, hS.F ht⟩) hS.2.2 dX7_layAway_243
        · have hq := hqB c17
          refine lv_iconst (v := 0) hx hb dX7_layAway_46 (by decide) ?_
          refine lv_istore_n (lv' := [(2, .int 0), (0, .ref (a 0))]) hx hb dX7_layAway_47 rfl hl (by decide) rfl (fun ls hl => ?_)
          refine lv_iconst (v := 0) hx hb dX7_layAway_48 (by decide) ?_
          refine lv_istore_n (lv' := [(3, .int 0), (2, .int 0), (0, .ref (a 0))]) hx hb dX7_layAway_49 rfl hl (by decide) rfl (fun ls hl => ?_)
          exact J50  0 0 z42_v_away _ _ _ hq hP hD hS (lv_sub hl [2, 1, 0] rfl)
    exact key _ y42_2 z42_v_away H locs ls h0 (Nat.lt_succ_self _) hP hD hS hl
  have J2 : ∀  (y2_2 : Int32) (z2_v_away : (Nat → Int32)) (H : Heap) (locs : List Loc) (ls : Array Slot), wp_X7_layAway_2 v x1  y2_2 z2_v_away Q → va_P (dC, dI) vwCl (cX7 cy a (X7_s v) (X7_aside v) (X7_kept v) (X7_isKept v) (X7_saved v) (X7_savedMany v) (X7_text v) (X7_length v) (X7_thrown v) (X7_joint v) (X7_position v) (X7_isWrong v) (X7_isHollow v) (X7_sure v) z2_v_away (X7_digested v)) H → va_D A (cX7 cy a (X7_s v) (X7_aside v) (X7_kept v) (X7_isKept v) (X7_saved v) (X7_savedMany v) (X7_text v) (X7_length v) (X7_thrown v) (X7_joint v) (X7_position v) (X7_isWrong v) (X7_isHollow v) (X7_sure v) z2_v_away (X7_digested v)) → va_S A s.heap H locs → lv_has ls 7 [(0, .ref (a 0)), (1, .int x1), (2, .int y2_2)] → W p l e (headSpec wsX7_layAway ({ frames := 1, cells := 0, slots := 0, locals := 22 } : Room)).room s m ([.ref (a 0), .int x1] : List Value).toArray below meth c H locs 0 0 (MQ below (q_X7_layAway dC dI cy a v x1 Q A) ([.ref (a 0), .int x1] : List Value).toArray s 0 0 A) (F0 m 2 ls []) := by
    intro  y2_2 z2_v_away H locs ls hq hP hD hS hl
    obtain ⟨I2, μ2, h0, hs2⟩ := hq
    have key : ∀ (n : Nat) (y2_2 : Int32) (z2_v_away : (Nat → Int32)) (H : Heap) (locs : List Loc) (ls : Array Slot), I2 y2_2 z2_v_away → μ2 y2_2 z2_v_away < n → va_P (dC, dI) vwCl (cX7 cy a (X7_s v) (X7_aside v) (X7_kept v) (X7_isKept v) (X7_saved v) (X7_savedMany v) (X7_text v) (X7_length v) (X7_thrown v) (X7_joint v) (X7_position v) (X7_isWrong v) (X7_isHollow v) (X7_sure v) z2_v_away (X7_digested v)) H → va_D A (cX7 cy a (X7_s v) (X7_aside v) (X7_kept v) (X7_isKept v) (X7_saved v) (X7_savedMany v) (X7_text v) (X7_length v) (X7_thrown v) (X7_joint v) (X7_position v) (X7_isWrong v) (X7_isHollow v) (X7_sure v) z2_v_away (X7_digested v)) → va_S A s.heap H locs → lv_has ls 7 [(0, .ref (a 0)), (1, .int x1), (2, .int y2_2)] → W p l e (headSpec wsX7_layAway ({ frames := 1, cells := 0, slots := 0, locals := 22 } : Room)).room s m ([.ref (a 0), .int x1] : List Value).toArray below meth c H locs 0 0 (MQ below (q_X7_layAway dC dI cy a v x1 Q A) ([.ref (a 0), .int x1] : List Value).toArray s 0 0 A) (F0 m 2 ls []) := by
      intro n
      induction n with
      | zero => intro y2_2 z2_v_away H locs ls _ hm; exact absurd hm (Nat.not_lt_zero _)
      | succ n ih =>
        intro y2_2 z2_v_away H locs ls hI hm hP hD hS hl
        have hq := hs2 y2_2 z2_v_away hI
        generalize hB2 : (fun (t0 : Int32) (t1 : (Nat → Int32)) => I2 t0 t1 ∧ μ2 t0 t1 < μ2 y2_2 z2_v_away) = B2 at hq
        have bk2 : ∀ (y2_2 : Int32) (z2_v_away : (Nat → Int32)) (H : Heap) (locs : List Loc) (ls : Array Slot), B2 y2_2 z2_v_away → va_P (dC, dI) vwCl (cX7 cy a (X7_s v) (X7_aside v) (X7_kept v) (X7_isKept v) (X7_saved v) (X7_savedMany v) (X7_text v) (X7_length v) (X7_thrown v) (X7_joint v) (X7_position v) (X7_isWrong v) (X7_isHollow v) (X7_sure v) z2_v_away (X7_digested v)) H → va_D A (cX7 cy a (X7_s v) (X7_aside v) (X7_kept v) (X7_isKept v) (X7_saved v) (X7_savedMany v) (X7_text v) (X7_length v) (X7_thrown v) (X7_joint v) (X7_position v) (X7_isWrong v) (X7_isHollow v) (X7_sure v) z2_v_away (X7_digested v)) → va_S A s.heap H locs → lv_has ls 7 [(0, .ref (a 0)), (1, .int x1), (2, .int y2_2)] → W p l e (headSpec wsX7_layAway ({ frames := 1, cells := 0, slots := 0, locals := 22 } : Room)).room s m ([.ref (a 0), .int x1] : List Value).toArray below meth c H locs 0 0 (MQ below (q_X7_layAway dC dI cy a v x1 Q A) ([.ref (a 0), .int x1] : List Value).toArray s 0 0 A) (F0 m 2 ls []) := by
          intro y2_2 z2_v_away H locs ls h
          rw [← hB2] at h
          exact ih y2_2 z2_v_away H locs ls h.1 (Nat.lt_of_lt_of_le h.2 (Nat.le_of_lt_succ hm))
        unfold wb_X7_layAway_2 at hq
        refine lv_iload_n hx hb dX7_layAway_2 rfl (lv_at hl 2 rfl) ?_
        refine lv_bipush (v := 64) hx hb dX7_layAway_3 (by decide) ?_
        obtain ⟨hqA, hqB⟩ := hq
        refine lv_icmp_ge (tgt := 40) hx hb dX7_layAway_5 (by decide) (fun c23 => ?_) (fun c23 => ?_)
        · have hq := hqA c23
          refine lv_iconst (v := 1) hx hb dX7_layAway_40 (by decide) ?_
          refine lv_istore_n (lv' := [(2, .int 1), (0, .ref (a 0)), (1, .int x1)]) hx hb dX7_layAway_41 rfl hl (by decide) rfl (fun ls hl => ?_)
          exact J42  1 z2_v_away _ _ _ hq hP hD hS (lv_sub hl [1, 0] rfl)
        · have hq := hqB c23
          refine lv_aload_n hx hb dX7_layAway_8 rfl (lv_at hl 0 rfl) ?_
          refine va_get (D := (dC, dI)) (ci := 7) (v := .ref (a 9)) (C := RX7) (T := TX7) (N := 16) hx hb hts iK7 hown hK hP 0 rfl rfl 14 (by decide) lk0 (fun _ h9 => h9) rfl dX7_layAway_9 ?_
          refine lv_iload_n hx hb dX7_layAway_12 rfl (lv_at hl 2 rfl) ?_
          refine lv_iload_n hx hb dX7_layAway_13 rfl (lv_at hl 2 rfl) ?_
          refine lv_iload_n hx hb dX7_layAway_14 rfl (lv_at hl 1 rfl) ?_
          obtain ⟨hqA, hqB⟩ := hq
          refine lv_icmp_ne (tgt := 30) hx hb dX7_layAway_15 (by decide) (fun c22 => ?_) (fun c22 => ?_)
          · have hq := hqB c22
            refine lv_sipush (v := 1000) hx hb dX7_layAway_30 (by decide) ?_
            obtain ⟨g18, hq⟩ := hq
            refine va_iast hx hb hK hP hD hS 9 0 rfl rfl g18 dX7_layAway_33 (fun H locs hP hD hS => ?_)
            have hP : va_P (dC, dI) vwCl (cX7 cy a (X7_s v) (X7_aside v) (X7_kept v) (X7_isKept v) (X7_saved v) (X7_savedMany v) (X7_text v) (X7_length v) (X7_thrown v) (X7_joint v) (X7_position v) (X7_isWrong v) (X7_isHollow v) (X7_sure v) (upd z2_v_away y2_2.toNatClampNeg 1000) (X7_digested v)) H := hP
            have hD : va_D A (cX7 cy a (X7_s v) (X7_aside v) (X7_kept v) (X7_isKept v) (X7_saved v) (X7_savedMany v) (X7_text v) (X7_length v) (X7_thrown v) (X7_joint v) (X7_position v) (X7_isWrong v) (X7_isHollow v) (X7_sure v) (upd z2_v_away y2_2.toNatClampNeg 1000) (X7_digested v)) := hD
            refine lv_iinc (v := (y2_2 + 1)) (lv' := [(2, .int (y2_2 + 1)), (0, .ref (a 0)), (1, .int x1)]) hx hb dX7_layAway_34 hl (k := 2) rfl rfl (by decide) rfl (fun ls hl => ?_)
            refine lv_goto (tgt := 2) hx hb dX7_layAway_37 (by decide) ?_
            exact bk2 (y2_2 + 1) (upd z2_v_away y2_2.toNatClampNeg 1000) _ _ _ hq hP hD hS (lv_sub hl [1, 2, 0] rfl)
          · have hq := hqA c22
            refine lv_aload_n hx hb dX7_layAway_18 rfl (lv_at hl 0 rfl) ?_
            refine lv_iload_n hx hb dX7_layAway_19 rfl (lv_at hl 2 rfl) ?_
            have hFc := xfree_same hS hAe0 (ws := (cX7 cy a (X7_s v) (X7_aside v) (X7_kept v) (X7_isKept v) (X7_saved v) (X7_savedMany v) (X7_text v) (X7_length v) (X7_thrown v) (X7_joint v) (X7_position v) (X7_isWrong v) (X7_isHollow v) (X7_sure v) z2_v_away (X7_digested v))) hD
            refine va_calli (va_runV (As := [.int y2_2]) (rest := [.int y2_2, .ref (a 9)]) ⟨hx, hb, hml, hown, hts⟩ (c_X7_hasMound l dC dI cy a _ (X7_s14 v z2_v_away) y2_2 _ hq) (cwV 1 hts gX7_layAway_X7_hasMound rfl rfl rfl (by decide +kernel) ⟨Nat.le_of_ble_eq_true rfl, Nat.le_of_ble_eq_true rfl⟩) ⟨xPre_blind, va_recv hK hP (ci := 7) (q0 := 0) rfl rfl, xPre_of hP hK hD⟩ rfl rfl hl.1 rfl (lv_room (Nat.le_of_ble_eq_true rfl)) dX7_layAway_20 ⟨Nat.le_of_ble_eq_true rfl, Nat.le_of_ble_eq_true rfl⟩) hS (fun q _ h => hFc q h) hFc (fun r20 u9 t H locs ht hvm hq hB hz1 hk1 hS => ?_)
            obtain ⟨hP1, -, hD1⟩ := hB
            rw [ht] at hP1
            have hP : va_P (dC, dI) vwCl (cX7 cy a (X7_s v) (X7_aside v) (X7_kept v) (X7_isKept v) (X7_saved v) (X7_savedMany v) (X7_text v) (X7_length v) (X7_thrown v) (X7_joint v) (X7_position v) (X7_isWrong v) (X7_isHollow v) (X7_sure v) z2_v_away (X7_digested v)) H := hP1
            have hD : va_D A (cX7 cy a (X7_s v) (X7_aside v) (X7_kept v) (X7_isKept v) (X7_saved v) (X7_savedMany v) (X7_text v) (X7_length v) (X7_thrown v) (X7_joint v) (X7_position v) (X7_isWrong v) (X7_isHollow v) (X7_sure v) z2_v_away (X7_digested v)) := hD1.weaken (fun _ q _ h => hFc q.1 h)
            obtain ⟨hqA, hqB⟩ := hq
            refine lv_if_eq (tgt := 30) hx hb dX7_layAway_23 (by decide) (fun c21 => ?_) (fun c21 => ?_)
            · have hq := hqA c21
              refine lv_sipush (v := 1000) hx hb dX7_layAway_30 (by decide) ?_
              obtain ⟨g19, hq⟩ := hq
              refine va_iast hx hb hK hP hD hS 9 0 rfl rfl g19 dX7_layAway_33 (fun H locs hP hD hS => ?_)
              have hP : va_P (dC, dI) vwCl (cX7 cy a (X7_s v) (X7_aside v) (X7_kept v) (X7_isKept v) (X7_saved v) (X7_savedMany v) (X7_text v) (X7_length v) (X7_thrown v) (X7_joint v) (X7_position v) (X7_isWrong v) (X7_isHollow v) (X7_sure v) (upd z2_v_away y2_2.toNatClampNeg 1000) (X7_digested v)) H := hP
              have hD : va_D A (cX7 cy a (X7_s v) (X7_aside v) (X7_kept v) (X7_isKept v) (X7_saved v) (X7_savedMany v) (X7_text v) (X7_length v) (X7_thrown v) (X7_joint v) (X7_position v) (X7_isWrong v) (X7_isHollow v) (X7_sure v) (upd z2_v_away y2_2.toNatClampNeg 1000) (X7_digested v)) := hD
              refine lv_iinc (v := (y2_2 + 1)) (lv' := [(2, .int (y2_2 + 1)), (0, .ref (a 0)), (1, .int x1)]) hx hb dX7_layAway_34 hl (k := 2) rfl rfl (by decide) rfl (fun ls hl => ?_)
              refine lv_goto (tgt := 2) hx hb dX7_layAway_37 (by decide) ?_
              exact bk2 (y2_2 + 1) (upd z2_v_away y2_2.toNatClampNeg 1000) _ _ _ hq hP hD hS (lv_sub hl [1, 2, 0] rfl)
            · have hq := hqB c21
              refine lv_iconst (v := 0) hx hb dX7_layAway_26 (by decide) ?_
              refine lv_goto (tgt := 33) hx hb dX7_layAway_27 (by decide) ?_
              obtain ⟨g20, hq⟩ := hq
              refine va_iast hx hb hK hP hD hS 9 0 rfl rfl g20 dX7_layAway_33 (fun H locs hP hD hS => ?_)
              have hP : va_P (dC, dI) vwCl (cX7 cy a (X7_s v) (X7_aside v) (X7_kept v) (X7_isKept v) (X7_saved v) (X7_savedMany v) (X7_text v) (X7_length v) (X7_thrown v) (X7_joint v) (X7_position v) (X7_isWrong v) (X7_isHollow v) (X7_sure v) (upd z2_v_away y2_2.toNatClampNeg 0) (X7_digested v)) H := hP
              have hD : va_D A (cX7 cy a (X7_s v) (X7_aside v) (X7_kept v) (X7_isKept v) (X7_saved v) (X7_savedMany v) (X7_text v) (X7_length v) (X7_thrown v) (X7_joint v) (X7_position v) (X7_isWrong v) (X7_isHollow v) (X7_sure v) (upd z2_v_away y2_2.toNatClampNeg 0) (X7_digested v)) := hD
              refine lv_iinc (v := (y2_2 + 1)) (lv' := [(2, .int (y2_2 + 1)), (0, .ref (a 0)), (1, .int x1)]) hx hb dX7_layAway_34 hl (k := 2) rfl rfl (by decide) rfl (fun ls hl => ?_)
              refine lv_goto (tgt := 2) hx hb dX7_layAway_37 (by decide) ?_
              exact bk2 (y2_2 + 1) (upd z2_v_away y2_2.toNatClampNeg 0) _ _ _ hq hP hD hS (lv_sub hl [1, 2, 0] rfl)
    exact key _ y2_2 z2_v_away H locs ls h0 (Nat.lt_succ_self _) hP hD hS hl
  refine lv_iconst (v := 0) hx hb dX7_layAway_0 (by decide) ?_
  refine lv_istore_n (lv' := [(2, .int 0), (0, .ref (a 0)), (1, .int x1)]) hx hb dX7_layAway_1 rfl hl (by decide) rfl (fun ls hl => ?_)
  exact J2  0 (X7_away v) _ _ _ hq hP hD hS (lv_sub hl [1, 2, 0] rfl)
def wb_X7_groups_24 (v : V_X7) (y4_1 : Int32) (y4_2 : Int32) (z4_v_away : (Nat → Int32)) (B4 : Int32 → Int32 → (Nat → Int32) → Prop) (z24_v_away : (Nat → Int32)) (y24_3 : Int32) (y24_4 : Int32) (B24 : Int32 → Int32 → Prop) (Q : Int32 → (Nat → Int32) → Prop) : Prop :=
  ((y4_2 ≤ y24_4 → ((y24_3 = 0 → B4 (y4_1 + 0) (y4_2 + 1) z24_v_away) ∧
  (¬ y24_3 = 0 → B4 (y4_1 + 1) (y4_2 + 1) z24_v_away))) ∧
  (¬ y4_2 ≤ y24_4 → ((y24_3 = 0 → B24 0 (y24_4 + 1)) ∧
  (¬ y24_3 = 0 → vp_in y24_4 64 ∧ (((z24_v_away y24_4.toNatClampNeg) = 1000 → B24 1 (y24_4 + 1)) ∧
  (¬ (z24_v_away y24_4.toNatClampNeg) = 1000 → B24 0 (y24_4 + 1)))))))
def wp_X7_groups_24 (v : V_X7) (y4_1 : Int32) (y4_2 : Int32) (z4_v_away : (Nat → Int32)) (B4 : Int32 → Int32 → (Nat → Int32) → Prop) (z24_v_away : (Nat → Int32)) (y24_3 : Int32) (y24_4 : Int32) (Q : Int32 → (Nat → Int32) → Prop) : Prop :=
  ∃ (I : Int32 → Int32 → Prop) (μ : Int32 → Int32 → Nat), I y24_3 y24_4 ∧ ∀ (s0 : Int32) (s1 : Int32), I s0 s1 → wb_X7_groups_24 v y4_1 y4_2 z4_v_away B4 z24_v_away s0 s1 (fun t0 t1 => I t0 t1 ∧ μ t0 t1 < μ s0 s1) Q
def wb_X7_groups_4 (v : V_X7)  (y4_1 : Int32) (y4_2 : Int32) (z4_v_away : (Nat → Int32)) (B4 : Int32 → Int32 → (Nat → Int32) → Prop) (Q : Int32 → (Nat → Int32) → Prop) : Prop :=
  ((64 ≤ y4_2 → Q y4_1 z4_v_away) ∧
  (¬ 64 ≤ y4_2 → wp_X7_layAway (X7_s14 v z4_v_away) y4_2 (fun z12_v_away =>
  wp_X7_hasMound (X7_s14 v z12_v_away) y4_2 (fun r17 =>
  wp_X7_groups_24 v y4_1 y4_2 z4_v_away B4 z12_v_away r17 0 Q))))
def wp_X7_groups_4 (v : V_X7)  (y4_1 : Int32) (y4_2 : Int32) (z4_v_away : (Nat → Int32)) (Q : Int32 → (Nat → Int32) → Prop) : Prop :=
  ∃ (I : Int32 → Int32 → (Nat → Int32) → Prop) (μ : Int32 → Int32 → (Nat → Int32) → Nat), I y4_1 y4_2 z4_v_away ∧ ∀ (s0 : Int32) (s1 : Int32) (s2 : (Nat → Int32)), I s0 s1 s2 → wb_X7_groups_4 v  s0 s1 s2 (fun t0 t1 t2 => I t0 t1 t2 ∧ μ t0 t1 t2 < μ s0 s1 s2) Q
def wp_X7_groups (v : V_X7) (Q : Int32 → (Nat → Int32) → Prop) : Prop :=
  wp_X7_groups_4 v  0 0 (X7_away v) Q
def q_X7_groups (dC : Nat → ClassId) (dI : Nat → Nat → Nat) (cy : Nat → ClassId) (a : Nat → Nat) (v : V_X7) (Q : Int32 → (Nat → Int32) → Prop) (A : Nat → Prop) : Array Value → State → Outcome → State → Prop := va_Qi (fun (r : Int32) (u : (Nat → Int32)) => Q r u) (fun (u : (Nat → Int32)) t => xAt dC dI cy A (cX7 cy a (X7_s v) (X7_aside v) (X7_kept v) (X7_isKept v) (X7_saved v) (X7_savedMany v) (X7_text v) (X7_length v) (X7_thrown v) (X7_joint v) (X7_position v) (X7_isWrong v) (X7_isHollow v) (X7_sure v) u (X7_digested v)) t) A
set_option maxHeartbeats 4000000 in
set_option maxRecDepth 100000 in
theorem c_X7_groups (l : Launch) (dC : Nat → ClassId) (dI : Nat → Nat → Nat) (cy : Nat → ClassId) (a : Nat → Nat) (sz : Nat) (v : V_X7) (Q : Int32 → (Nat → Int32) → Prop) (hq : wp_X7_groups v Q) : Met l yX7_groups wsX7_groups ({ frames := 2, cells := 0, slots := 0, locals := 48 } : Room) (va_Pc [.ref (a 0)] (xPre dC dI cy (wX7 cy a v) sz)) (q_X7_groups dC dI cy a v Q (va_A (wX7 cy a v) sz)) 0 0 (va_A (wX7 cy a v) sz) := by
  refine Met.ofW (cc := cX7_groups) (maxL := 5) (ret := (some .int)) (by decide) rfl ?_
  intro p e s m args below meth c s₁ B hml hv
  obtain ⟨rfl, hsz, hP, hK, hD0⟩ := hv
  have hx := B.exec
  have hb := B.bytes
  have hr := B.returns
  have hts := atoms_spec (ws := wsX7_groups) B.pre
  have hown : s.vm.findClass RX7 = some m.cls := findClass_of_methodNamed B.named
  have hlocks := B.notSynchronized
  subst hsz
  have hD := hD0.self (sz := s.heap.size)
  generalize hAe : va_A (wX7 cy a v) s.heap.size = A at hD ⊢
  have hAe0 : ∀ q : Nat, s.heap.size ≤ q → A q := fun q h => by rw [← hAe]; exact Or.inr h
  have hS : va_S A s.heap s.heap [] := va_S.rf
  have hl := lv_entry ([.ref (a 0)]) (n := 5) (Nat.le_of_ble_eq_true rfl)
  rw [lg_entry_eq]
  generalize (lg_sl ([.ref (a 0)]) ++ List.replicate (5 - (lg_sl ([.ref (a 0)])).length) Slot.unset).toArray = ls at hl ⊢
  have hl : lv_has ls 5 [(0, .ref (a 0))] := hl
  have lk0 := hts (Cond.fieldLink RX7 35 "MolesLawnModel" "away" "[I") (List.mem_cons_of_mem _ (List.mem_append_left _ (List.mem_of_getElem? (i := 0) rfl)))
  have iK7 : ∀ w ∈ wsX70, w ∈ wsX7_groups := fun _ h => (List.mem_cons_of_mem _ (List.mem_append_right _ h))
  unfold wp_X7_groups at hq
  have J4 : ∀  (y4_1 : Int32) (y4_2 : Int32) (z4_v_away : (Nat → Int32)) (H : Heap) (locs : List Loc) (ls : Array Slot), wp_X7_groups_4 v  y4_1 y4_2 z4_v_away Q → va_P (dC, dI) vwCl (cX7 cy a (X7_s v) (X7_aside v) (X7_kept v) (X7_isKept v) (X7_saved v) (X7_savedMany v) (X7_text v) (X7_length v) (X7_thrown v) (X7_joint v) (X7_position v) (X7_isWrong v) (X7_isHollow v) (X7_sure v) z4_v_away (X7_digested v)) H → va_D A (cX7 cy a (X7_s v) (X7_aside v) (X7_kept v) (X7_isKept v) (X7_saved v) (X7_savedMany v) (X7_text v) (X7_length v) (X7_thrown v) (X7_joint v) (X7_position v) (X7_isWrong v) (X7_isHollow v) (X7_sure v) z4_v_away (X7_digested v)) → va_S A s.heap H locs → lv_has ls 5 [(0, .ref (a 0)), (1, .int y4_1), (2, .int y4_2)] → W p l e (headSpec wsX7_groups ({ frames := 2, cells := 0, slots := 0, locals := 48 } : Room)).room s m ([.ref (a 0)] : List Value).toArray below meth c H locs 0 0 (MQ below (q_X7_groups dC dI cy a v Q A) ([.ref (a 0)] : List Value).toArray s 0 0 A) (F0 m 4 ls []) := by
    intro  y4_1 y4_2 z4_v_away H locs ls hq hP hD hS hl
    obtain ⟨I4, μ4, h0, hs4⟩ := hq
    have key : ∀ (n : Nat) (y4_1 : Int32) (y4_2 : Int32) (z4_v_away : (Nat → Int32)) (H : Heap) (locs : List Loc) (ls : Array Slot), I4 y4_1 y4_2 z4_v_away → μ4 y4_1 y4_2 z4_v_away < n → va_P (dC, dI) vwCl (cX7 cy a (X7_s v) (X7_aside v) (X7_kept v) (X7_isKept v) (X7_saved v) (X7_savedMany v) (X7_text v) (X7_length v) (X7_thrown v) (X7_joint v) (X7_position v) (X7_isWrong v) (X7_isHollow v) (X7_sure v) z4_v_away (X7_digested v)) H → va_D A (cX7 cy a (X7_s v) (X7_aside v) (X7_kept v) (X7_isKept v) (X7_saved v) (X7_savedMany v) (X7_text v) (X7_length v) (X7_thrown v) (X7_joint v) (X7_position v) (X7_isWrong v) (X7_isHollow v) (X7_sure v) z4_v_away (X7_digested v)) → va_S A s.heap H locs → lv_has ls 5 [(0, .ref (a 0)), (1, .int y4_1), (2, .int y4_2)] → W p l e (headSpec wsX7_groups ({ frames := 2, cells := 0, slots := 0, locals := 48 } : Room)).room s m ([.ref (a 0)] : List Value).toArray below meth c H locs 0 0 (MQ below (q_X7_groups dC dI cy a v Q A) ([.ref (a 0)] : List Value).toArray s 0 0 A) (F0 m 4 ls []) := by
      intro n
      induction n with
      | zero => intro y4_1 y4_2 z4_v_away H locs ls _ hm; exact absurd hm (Nat.not_lt_zero _)
      | succ n ih =>
        intro y4_1 y4_2 z4_v_away H locs ls hI hm hP hD hS hl
        have hq := hs4 y4_1 y4_2 z4_v_away hI
        generalize hB4 : (fun (t0 : Int32) (t1 : Int32) (t2 : (Nat → Int32)) => I4 t0 t1 t2 ∧ μ4 t0 t1 t2 < μ4 y4_1 y4_2 z4_v_away) = B4 at hq
        have bk4 : ∀ (y4_1 : Int32) (y4_2 : Int32) (z4_v_away : (Nat → Int32)) (H : Heap) (locs : List Loc) (ls : Array Slot), B4 y4_1 y4_2 z4_v_away → va_P (dC, dI) vwCl (cX7 cy a (X7_s v) (X7_aside v) (X7_kept v) (X7_isKept v) (X7_saved v) (X7_savedMany v) (X7_text v) (X7_length v) (X7_thrown v) (X7_joint v) (X7_position v) (X7_isWrong v) (X7_isHollow v) (X7_sure v) z4_v_away (X7_digested v)) H → va_D A (cX7 cy a (X7_s v) (X7_aside v) (X7_kept v) (X7_isKept v) (X7_saved v) (X7_savedMany v) (X7_text v) (X7_length v) (X7_thrown v) (X7_joint v) (X7_position v) (X7_isWrong v) (X7_isHollow v) (X7_sure v) z4_v_away (X7_digested v)) → va_S A s.heap H locs → lv_has ls 5 [(0, .ref (a 0)), (1, .int y4_1), (2, .int y4_2)] → W p l e (headSpec wsX7_groups ({ frames := 2, cells := 0, slots := 0, locals := 48 } : Room)).room s m ([.ref (a 0)] : List Value).toArray below meth c H locs 0 0 (MQ below (q_X7_groups dC dI cy a v Q A) ([.ref (a 0)] : List Value).toArray s 0 0 A) (F0 m 4 ls []) := by
          intro y4_1 y4_2 z4_v_away H locs ls h
          rw [← hB4] at h
          exact ih y4_1 y4_2 z4_v_away H locs ls h.1 (Nat.lt_of_lt_of_le h.2 (Nat.le_of_lt_succ hm))
        unfold wb_X7_groups_4 at hq
        have J24 : ∀ (z24_v_away : (Nat → Int32)) (y24_3 : Int32) (y24_4 : Int32) (H : Heap) (locs : List Loc) (ls : Array Slot), wp_X7_groups_24 v y4_1 y4_2 z4_v_away B4 z24_v_away y24_3 y24_4 Q → va_P (dC, dI) vwCl (cX7 cy a (X7_s v) (X7_aside v) (X7_kept v) (X7_isKept v) (X7_saved v) (X7_savedMany v) (X7_text v) (X7_length v) (X7_thrown v) (X7_joint v) (X7_position v) (X7_isWrong v) (X7_isHollow v) (X7_sure v) z24_v_away (X7_digested v)) H → va_D A (cX7 cy a (X7_s v) (X7_aside v) (X7_kept v) (X7_isKept v) (X7_saved v) (X7_savedMany v) (X7_text v) (X7_length v) (X7_thrown v) (X7_joint v) (X7_position v) (X7_isWrong v) (X7_isHollow v) (X7_sure v) z24_v_away (X7_digested v)) → va_S A s.heap H locs → lv_has ls 5 [(0, .ref (a 0)), (1, .int y4_1), (2, .int y4_2), (3, .int y24_3), (4, .int y24_4)] → W p l e (headSpec wsX7_groups ({ frames := 2, cells := 0, slots := 0, locals := 48 } : Room)).room s m ([.ref (a 0)] : List Value).toArray below meth c H locs 0 0 (MQ below (q_X7_groups dC dI cy a v Q A) ([.ref (a 0)] : List Value).toArray s 0 0 A) (F0 m 24 ls []) := by
          intro z24_v_away y24_3 y24_4 H locs ls hq hP hD hS hl
          obtain ⟨I24, μ24, h0, hs24⟩ := hq
          have key : ∀ (n : Nat) (y24_3 : Int32) (y24_4 : Int32) (H : Heap) (locs : List Loc) (ls : Array Slot), I24 y24_3 y24_4 → μ24 y24_3 y24_4 < n → va_P (dC, dI) vwCl (cX7 cy a (X7_s v) (X7_aside v) (X7_kept v) (X7_isKept v) (X7_saved v) (X7_savedMany v) (X7_text v) (X7_length v) (X7_thrown v) (X7_joint v) (X7_position v) (X7_isWrong v) (X7_isHollow v) (X7_sure v) z24_v_away (X7_digested v)) H → va_D A (cX7 cy a (X7_s v) (X7_aside v) (X7_kept v) (X7_isKept v) (X7_saved v) (X7_savedMany v) (X7_text v) (X7_length v) (X7_thrown v) (X7_joint v) (X7_position v) (X7_isWrong v) (X7_isHollow v) (X7_sure v) z24_v_away (X7_digested v)) → va_S A s.heap H locs → lv_has ls 5 [(0, .ref (a 0)), (1, .int y4_1), (2, .int y4_2), (3, .int y24_3), (4, .int y24_4)] → W p l e (headSpec wsX7_groups ({ frames := 2, cells := 0, slots := 0, locals := 48 } : Room)).room s m ([.ref (a 0)] : List Value).toArray below meth c H locs 0 0 (MQ below (q_X7_groups dC dI cy a v Q A) ([.ref (a 0)] : List Value).toArray s 0 0 A) (F0 m 24 ls []) := by
            intro n
            induction n with
            | zero => intro y24_3 y24_4 H locs ls _ hm; exact absurd hm (Nat.not_lt_zero _)
            | succ n ih =>
              intro y24_3 y24_4 H locs ls hI hm hP hD hS hl
              have hq := hs24 y24_3 y24_4 hI
              generalize hB24 : (fun (t0 : Int32) (t1 : Int32) => I24 t0 t1 ∧ μ24 t0 t1 < μ24 y24_3 y24_4) = B24 at hq
              have bk24 : ∀ (y24_3 : Int32) (y24_4 : Int32) (H : Heap) (locs : List Loc) (ls : Array Slot), B24 y24_3 y24_4 → va_P (dC, dI) vwCl (cX7 cy a (X7_s v) (X7_aside v) (X7_kept v) (X7_isKept v) (X7_saved v) (X7_savedMany v) (X7_text v) (X7_length v) (X7_thrown v) (X7_joint v) (X7_position v) (X7_isWrong v) (X7_isHollow v) (X7_sure v) z24_v_away (X7_digested v)) H → va_D A (cX7 cy a (X7_s v) (X7_aside v) (X7_kept v) (X7_isKept v) (X7_saved v) (X7_savedMany v) (X7_text v) (X7_length v) (X7_thrown v) (X7_joint v) (X7_position v) (X7_isWrong v) (X7_isHollow v) (X7_sure v) z24_v_away (X7_digested v)) → va_S A s.heap H locs → lv_has ls 5 [(0, .ref (a 0)), (1, .int y4_1), (2, .int y4_2), (3, .int y24_3), (4, .int y24_4)] → W p l e (headSpec wsX7_groups ({ frames := 2, cells := 0, slots := 0, locals := 48 } : Room)).room s m ([.ref (a 0)] : List Value).toArray below meth c H locs 0 0 (MQ below (q_X7_groups dC dI cy a v Q A) ([.ref (a 0)] : List Value).toArray s 0 0 A) (F0 m 24 ls []) := by
                intro y24_3 y24_4 H locs ls h
                rw [← hB24] at h
                exact ih y24_3 y24_4 H locs ls h.1 (Nat.lt_of_lt_of_le h.2 (Nat.le_of_lt_succ hm))
              unfold wb_X7_groups_24 at hq
              refine lv_iload hx hb dX7_groups_24 (lv_at hl 4 rfl) ?_
              refine lv_iload_n hx hb dX7_groups_26 rfl (lv_at hl 2 rfl) ?_
              obtain ⟨hqA, hqB⟩ := hq
              refine lv_icmp_ge (tgt := 59) hx hb dX7_groups_27 (by decide) (fun c5 => ?_) (fun c5 => ?_)
              · have hq := hqA c5
                refine lv_iload_n hx hb dX7_groups_59 rfl (lv_at hl 1 rfl) ?_
                refine lv_iload_n hx hb dX7_groups_60 rfl (lv_at hl 3 rfl) ?_
                obtain ⟨hqA, hqB⟩ := hq
                refine lv_if_eq (tgt := 68) hx hb dX7_groups_61 (by decide) (fun c1 => ?_) (fun c1 => ?_)
                · have hq := hqA c1
                  refine lv_iconst (v := 0) hx hb dX7_groups_68 (by decide) ?_
                  refine lv_iadd hx hb dX7_groups_69 ?_
                  refine lv_istore_n (lv' := [(1, .int (y4_1 + 0)), (0, .ref (a 0)), (2, .int y4_2), (3, .int y24_3), (4, .int y24_4)]) hx hb dX7_groups_70 rfl hl (by decide) rfl (fun ls hl => ?_)
                  refine lv_iinc (v := (y4_2 + 1)) (lv' := [(2, .int (y4_2 + 1)), (1, .int (y4_1 + 0)), (0, .ref (a 0)), (3, .int y24_3), (4, .int y24_4)]) hx hb dX7_groups_71 hl (k := 2) rfl rfl (by decide) rfl (fun ls hl => ?_)
                  refine lv_goto (tgt := 4) hx hb dX7_groups_74 (by decide) ?_
                  exact bk4 (y4_1 + 0) (y4_2 + 1) z24_v_away _ _ _ hq hP hD hS (lv_sub hl [2, 1, 0] rfl)
                · have hq := hqB c1
                  refine lv_iconst (v := 1) hx hb dX7_groups_64 (by decide) ?_
                  refine lv_goto (tgt := 69) hx hb dX7_groups_65 (by decide) ?_
                  refine lv_iadd hx hb dX7_groups_69 ?_
                  refine lv_istore_n (lv' := [(1, .int (y4_1 + 1)), (0, .ref (a 0)), (2, .int y4_2), (3, .int y24_3), (4, .int y24_4)]) hx hb dX7_groups_70 rfl hl (by decide) rfl (fun ls hl => ?_)
                  refine lv_iinc (v := (y4_2 + 1)) (lv' := [(2, .int (y4_2 + 1)), (1, .int (y4_1 + 1)), (0, .ref (a 0)), (3, .int y24_3), (4, .int y24_4)]) hx hb dX7_groups_71 hl (k := 2) rfl rfl (by decide) rfl (fun ls hl => ?_)
                  refine lv_goto (tgt := 4) hx hb dX7_groups_74 (by decide) ?_
                  exact bk4 (y4_1 + 1) (y4_2 + 1) z24_v_away _ _ _ hq hP hD hS (lv_sub hl [2, 1, 0] rfl)
              · have hq := hqB c5
                refine lv_iload_n hx hb dX7_groups_30 rfl (lv_at hl 3 rfl) ?_
                obtain ⟨hqA, hqB⟩ := hq
                refine lv_if_eq (tgt := 51) hx hb dX7_groups_31 (by decide) (fun c4 => ?_) (fun c4 => ?_)
                · have hq := hqA c4
                  refine lv_iconst (v := 0) hx hb dX7_groups_51 (by decide) ?_
                  refine lv_istore_n (lv' := [(3, .int 0), (0, .ref (a 0)), (1, .int y4_1), (2, .int y4_2), (4, .int y24_4)]) hx hb dX7_groups_52 rfl hl (by decide) rfl (fun ls hl => ?_)
                  refine lv_iinc (v := (y24_4 + 1)) (lv' := [(4, .int (y24_4 + 1)), (3, .int 0), (0, .ref (a 0)), (1, .int y4_1), (2, .int y4_2)]) hx hb dX7_groups_53 hl (k := 4) rfl rfl (by decide) rfl (fun ls hl => ?_)
                  refine lv_goto (tgt := 24) hx hb dX7_groups_56 (by decide) ?_
                  exact bk24 0 (y24_4 + 1) _ _ _ hq hP hD hS (lv_sub hl [2, 3, 4, 1, 0] rfl)
                · have hq := hqB c4
                  refine lv_aload_n hx hb dX7_groups_34 rfl (lv_at hl 0 rfl) ?_
                  refine va_get (D := (dC, dI)) (ci := 7) (v := .ref (a 9)) (C := RX7) (T := TX7) (N := 16) hx hb hts iK7 hown hK hP 0 rfl rfl 14 (by decide) lk0 (fun _ h9 => h9) rfl dX7_groups_35 ?_
                  refine lv_iload hx hb dX7_groups_38 (lv_at hl 4 rfl) ?_
                  obtain ⟨g2, hq⟩ := hq
                  refine va_iald hx hb hK hP 9 0 rfl rfl g2 dX7_groups_40 ?_
                  refine lv_sipush (v := 1000) hx hb dX7_groups_41 (by decide) ?_
                  obtain ⟨hqA, hqB⟩ := hq
                  refine lv_icmp_ne (tgt := 51) hx hb dX7_groups_44 (by decide) (fun c3 => ?_) (fun c3 => ?_)
                  · have hq := hqB c3
                    refine lv_iconst (v := 0) hx hb dX7_groups_51 (by decide) ?_
                    refine lv_istore_n (lv' := [(3, .int 0), (0, .ref (a 0)), (1, .int y4_1), (2, .int y4_2), (4, .int y24_4)]) hx hb dX7_groups_52 rfl hl (by decide) rfl (fun ls hl => ?_)
                    refine lv_iinc (v := (y24_4 + 1)) (lv' := [(4, .int (y24_4 + 1)), (3, .int 0), (0, .ref (a 0)), (1, .int y4_1), (2, .int y4_2)]) hx hb dX7_groups_53 hl (k := 4) rfl rfl (by decide) rfl (fun ls hl => ?_)
                    refine lv_goto (tgt := 24) hx hb dX7_groups_56 (by decide) ?_
                    exact bk24 0 (y24_4 + 1) _ _ _ hq hP hD hS (lv_sub hl [2, 3, 4, 1, 0] rfl)
                  · have hq := hqA c3
                    refine lv_iconst (v := 1) hx hb dX7_groups_47 (by decide) ?_
                    refine lv_goto (tgt := 52) hx hb dX7_groups_48 (by decide) ?_
                    refine lv_istore_n (lv' := [(3, .int 1), (0, .ref (a 0)), (1, .int y4_1), (2, .int y4_2), (4, .int y24_4)]) hx hb dX7_groups_52 rfl hl (by decide) rfl (fun ls hl => ?_)
                    refine lv_iinc (v := (y24_4 + 1)) (lv' := [(4, .int (y24_4 + 1)), (3, .int 1), (0, .ref (a 0)), (1, .int y4_1), (2, .int y4_2)]) hx hb dX7_groups_53 hl (k := 4) rfl rfl (by decide) rfl (fun ls hl => ?_)
                    refine lv_goto (tgt := 24) hx hb dX7_groups_56 (by decide) ?_
                    exact bk24 1 (y24_4 + 1) _ _ _ hq hP hD hS (lv_sub hl [2, 3, 4, 1, 0] rfl)
          exact key _ y24_3 y24_4 H locs ls h0 (Nat.lt_succ_self _) hP hD hS hl
        refine lv_iload_n hx hb dX7_groups_4 rfl (lv_at hl 2 rfl) ?_
        refine lv_bipush (v := 64) hx hb dX7_groups_5 (by decide) ?_
        obtain ⟨hqA, hqB⟩ := hq
        refine lv_icmp_ge (tgt := 77) hx hb dX7_groups_7 (by decide) (fun c6 => ?_) (fun c6 => ?_)
        · have hq := hqA c6
          refine lv_iload_n hx hb dX7_groups_77 rfl (lv_at hl 1 rfl) ?_
          exact W.iret (v := y4_1) hx hb hr (fun t ht hW => ⟨⟨y4_1, z4_v_away, rfl, hq, (xAt_of hP hK hD ht hW)⟩, hS.F ht⟩) hS.2.2 dX7_groups_78
        · have hq := hqB c6
          refine lv_aload_n hx hb dX7_groups_10 rfl (lv_at hl 0 rfl) ?_
          refine lv_iload_n hx hb dX7_groups_11 rfl (lv_at hl 2 rfl) ?_
          have hFc := xfree_same hS hAe0 (ws := (cX7 cy a (X7_s v) (X7_aside v) (X7_kept v) (X7_isKept v) (X7_saved v) (X7_savedMany v) (X7_text v) (X7_length v) (X7_thrown v) (X7_joint v) (X7_position v) (X7_isWrong v) (X7_isHollow v) (X7_sure v) z4_v_away (X7_digested v))) hD
          refine va_callv (va_runV (As := [.int y4_2]) (rest := []) ⟨hx, hb, hml, hown, hts⟩ (c_X7_layAway l dC dI cy a _ (X7_s14 v z4_v_away) y4_2 _ hq) (cwV 1 hts gX7_groups_X7_layAway rfl rfl rfl (by decide +kernel) ⟨Nat.le_of_ble_eq_true rfl, Nat.le_of_ble_eq_true rfl⟩) ⟨xPre_blind, va_recv hK hP (ci := 7) (q0 := 0) rfl rfl, xPre_of hP hK hD⟩ rfl rfl hl.1 rfl (lv_room (Nat.le_of_ble_eq_true rfl)) dX7_groups_12 ⟨Nat.le_of_ble_eq_true rfl, Nat.le_of_ble_eq_true rfl⟩) hS (fun q _ h => hFc q h) hFc (fun z12_v_away t H locs ht hvm hq hB hz1 hk1 hS => ?_)
          obtain ⟨hP1, -, hD1⟩ := hB
          rw [ht] at hP1
          have hP : va_P (dC, dI) vwCl (cX7 cy a (X7_s v) (X7_aside v) (X7_kept v) (X7_isKept v) (X7_saved v) (X7_savedMany v) (X7_text v) (X7_length v) (X7_thrown v) (X7_joint v) (X7_position v) (X7_isWrong v) (X7_isHollow v) (X7_sure v) z12_v_away (X7_digested v)) H := hP1
          have hD : va_D A (cX7 cy a (X7_s v) (X7_aside v) (X7_kept v) (X7_isKept v) (X7_saved v) (X7_savedMany v) (X7_text v) (X7_length v) (X7_thrown v) (X7_joint v) (X7_position v) (X7_isWrong v) (X7_isHollow v) (X7_sure v) z12_v_away (X7_digested v)) := hD1.weaken (fun _ q _ h => hFc q.1 h)
          refine lv_aload_n hx hb dX7_groups_15 rfl (lv_at hl 0 rfl) ?_
          refine lv_iload_n hx hb dX7_groups_16 rfl (lv_at hl 2 rfl) ?_
          have hFc := xfree_same hS hAe0 (ws := (cX7 cy a (X7_s v) (X7_aside v) (X7_kept v) (X7_isKept v) (X7_saved v) (X7_savedMany v) (X7_text v) (X7_length v) (X7_thrown v) (X7_joint v) (X7_position v) (X7_isWrong v) (X7_isHollow v) (X7_sure v) z12_v_away (X7_digested v))) hD
          refine va_calli (va_runV (As := [.int y4_2]) (rest := []) ⟨hx, hb, hml, hown, hts⟩ (c_X7_hasMound l dC dI cy a _ (X7_s14 v z12_v_away) y4_2 _ hq) (cwV 1 hts gX7_groups_X7_hasMound rfl rfl rfl (by decide +kernel) ⟨Nat.le_of_ble_eq_true rfl, Nat.le_of_ble_eq_true rfl⟩) ⟨xPre_blind, va_recv hK hP (ci := 7) (q0 := 0) rfl rfl, xPre_of hP hK hD⟩ rfl rfl hl.1 rfl (lv_room (Nat.le_of_ble_eq_true rfl)) dX7_groups_17 ⟨Nat.le_of_ble_eq_true rfl, Nat.le_of_ble_eq_true rfl⟩) hS (fun q _ h => hFc q h) hFc (fun r17 u9 t H locs ht hvm hq hB hz1 hk1 hS => ?_)
          obtain ⟨hP1, -, hD1⟩ := hB
          rw [ht] at hP1
          have hP : va_P (dC, dI) vwCl (cX7 cy a (X7_s v) (X7_aside v) (X7_kept v) (X7_isKept v) (X7_saved v) (X7_savedMany v) (X7_text v) (X7_length v) (X7_thrown v) (X7_joint v) (X7_position v) (X7_isWrong v) (X7_isHollow v) (X7_sure v) z12_v_away (X7_digested v)) H := hP1
          have hD : va_D A (cX7 cy a (X7_s v) (X7_aside v) (X7_kept v) (X7_isKept v) (X7_saved v) (X7_savedMany v) (X7_text v) (X7_length v) (X7_thrown v) (X7_joint v) (X7_position v) (X7_isWrong v) (X7_isHollow v) (X7_sure v) z12_v_away (X7_digested v)) := hD1.weaken (fun _ q _ h => hFc q.1 h)
          refine lv_istore_n (lv' := [(3, .int r17), (0, .ref (a 0)), (1, .int y4_1), (2, .int y4_2)]) hx hb dX7_groups_20 rfl hl (by decide) rfl (fun ls hl => ?_)
          refine lv_iconst (v := 0) hx hb dX7_groups_21 (by decide) ?_
          refine lv_istore (lv' := [(4, .int 0), (3, .int r17), (0, .ref (a 0)), (1, .int y4_1), (2, .int y4_2)]) hx hb dX7_groups_22 hl (by decide) rfl (fun ls hl => ?_)
          exact J24 z12_v_away r17 0 _ _ _ hq hP hD hS (lv_sub hl [2, 3, 4, 1, 0] rfl)
    exact key _ y4_1 y4_2 z4_v_away H locs ls h0 (Nat.lt_succ_self _) hP hD hS hl
  refine lv_iconst (v := 0) hx hb dX7_groups_0 (by decide) ?_
  refine lv_istore_n (lv' := [(1, .int 0), (0, .ref (a 0))]) hx hb dX7_groups_1 rfl hl (by decide) rfl (fun ls hl => ?_)
  refine lv_iconst (v := 0) hx hb dX7_groups_2 (by decide) ?_
  refine lv_istore_n (lv' := [(2, .int 0), (1, .int 0), (0, .ref (a 0))]) hx hb dX7_groups_3 rfl hl (by decide) rfl (fun ls hl => ?_)
  exact J4  0 0 (X7_away v) _ _ _ hq hP hD hS (lv_sub hl [2, 1, 0] rfl)
def wb_X7_sumOf_4 (v : V_X7) (x1 : Int32)  (y4_2 : Int32) (y4_3 : Int32) (B4 : Int32 → Int32 → Prop) (Q : Int32 → Prop) : Prop :=
  ((64 ≤ y4_3 → Q y4_2) ∧
  (¬ 64 ≤ y4_3 → vp_in (x1 + y4_3) 1472 ∧ ((((X7_s v) (x1 + y4_3).toNatClampNeg) ≤ 0 → B4 (y4_2 + 0) (y4_3 + 1)) ∧
  (¬ ((X7_s v) (x1 + y4_3).toNatClampNeg) ≤ 0 → B4 (y4_2 + 1) (y4_3 + 1)))))
def wp_X7_sumOf_4 (v : V_X7) (x1 : Int32)  (y4_2 : Int32) (y4_3 : Int32) (Q : Int32 → Prop) : Prop :=
  ∃ (I : Int32 → Int32 → Prop) (μ : Int32 → Int32 → Nat), I y4_2 y4_3 ∧ ∀ (s0 : Int32) (s1 : Int32), I s0 s1 → wb_X7_sumOf_4 v x1  s0 s1 (fun t0 t1 => I t0 t1 ∧ μ t0 t1 < μ s0 s1) Q
def wp_X7_sumOf (v : V_X7) (x1 : Int32) (Q : Int32 → Prop) : Prop :=
  wp_X7_sumOf_4 v x1  0 0 Q
def q_X7_sumOf (dC : Nat → ClassId) (dI : Nat → Nat → Nat) (cy : Nat → ClassId) (a : Nat → Nat) (v : V_X7) (x1 : Int32) (Q : Int32 → Prop) (A : Nat → Prop) : Array Value → State → Outcome → State → Prop := va_Qi (fun (r : Int32) (u : Unit) => Q r ) (fun (u : Unit) t => xAt dC dI cy A (wX7 cy a v) t) A
set_option maxHeartbeats 4000000 in
set_option maxRecDepth 100000 in
theorem c_X7_sumOf (l : Launch) (dC : Nat → ClassId) (dI : Nat → Nat → Nat) (cy : Nat → ClassId) (a : Nat → Nat) (sz : Nat) (v : V_X7) (x1 : Int32) (Q : Int32 → Prop) (hq : wp_X7_sumOf v x1 Q) : Met l yX7_sumOf wsX7_sumOf ({ frames := 0, cells := 0, slots := 0, locals := 0 } : Room) (va_Pc [.ref (a 0), .int x1] (xPre dC dI cy (wX7 cy a v) sz)) (q_X7_sumOf dC dI cy a v x1 Q (va_A (wX7 cy a v) sz)) 0 0 (va_A (wX7 cy a v) sz) := by
  refine Met.ofW (cc := cX7_sumOf) (maxL := 4) (ret := (some .int)) (by decide) rfl ?_
  intro p e s m args below meth c s₁ B hml hv
  obtain ⟨rfl, hsz, hP, hK, hD0⟩ := hv
  have hx := B.exec
  have hb := B.bytes
  have hr := B.returns
  have hts := atoms_spec (ws := wsX7_sumOf) B.pre
  have hown : s.vm.findClass RX7 = some m.cls := findClass_of_methodNamed B.named
  have hlocks := B.notSynchronized
  subst hsz
  have hD := hD0.self (sz := s.heap.size)
  generalize hAe : va_A (wX7 cy a v) s.heap.size = A at hD ⊢
  have hAe0 : ∀ q : Nat, s.heap.size ≤ q → A q := fun q h => by rw [← hAe]; exact Or.inr h
  have hS : va_S A s.heap s.heap [] := va_S.rf
  have hl := lv_entry ([.ref (a 0), .int x1]) (n := 4) (Nat.le_of_ble_eq_true rfl)
  rw [lg_entry_eq]
  generalize (lg_sl ([.ref (a 0), .int x1]) ++ List.replicate (4 - (lg_sl ([.ref (a 0), .int x1])).length) Slot.unset).toArray = ls at hl ⊢
  have hl : lv_has ls 4 [(0, .ref (a 0)), (1, .int x1)] := hl
  have lk0 := hts (Cond.fieldLink RX7 7 "MolesLawnModel" "s" "[I") (List.mem_cons_of_mem _ (List.mem_append_left _ (List.mem_of_getElem? (i := 0) rfl)))
  have iK7 : ∀ w ∈ wsX70, w ∈ wsX7_sumOf := fun _ h => (List.mem_cons_of_mem _ (List.mem_append_right _ h))
  unfold wp_X7_sumOf at hq
  have J4 : ∀  (y4_2 : Int32) (y4_3 : Int32) (H : Heap) (locs : List Loc) (ls : Array Slot), wp_X7_sumOf_4 v x1  y4_2 y4_3 Q → va_P (dC, dI) vwCl (wX7 cy a v) H → va_D A (wX7 cy a v) → va_S A s.heap H locs → lv_has ls 4 [(0, .ref (a 0)), (1, .int x1), (2, .int y4_2), (3, .int y4_3)] → W p l e (headSpec wsX7_sumOf ({ frames := 0, cells := 0, slots := 0, locals := 0 } : Room)).room s m ([.ref (a 0), .int x1] : List Value).toArray below meth c H locs 0 0 (MQ below (q_X7_sumOf dC dI cy a v x1 Q A) ([.ref (a 0), .int x1] : List Value).toArray s 0 0 A) (F0 m 4 ls []) := by
    intro  y4_2 y4_3 H locs ls hq hP hD hS hl
    obtain ⟨I4, μ4, h0, hs4⟩ := hq
    have key : ∀ (n : Nat) (y4_2 : Int32) (y4_3 : Int32) (H : Heap) (locs : List Loc) (ls : Array Slot), I4 y4_2 y4_3 → μ4 y4_2 y4_3 < n → va_P (dC, dI) vwCl (wX7 cy a v) H → va_D A (wX7 cy a v) → va_S A s.heap H locs → lv_has ls 4 [(0, .ref (a 0)), (1, .int x1), (2, .int y4_2), (3, .int y4_3)] → W p l e (headSpec wsX7_sumOf ({ frames := 0, cells := 0, slots := 0, locals := 0 } : Room)).room s m ([.ref (a 0), .int x1] : List Value).toArray below meth c H locs 0 0 (MQ below (q_X7_sumOf dC dI cy a v x1 Q A) ([.ref (a 0), .int x1] : List Value).toArray s 0 0 A) (F0 m 4 ls []) := by
      intro n
      induction n with
      | zero => intro y4_2 y4_3 H locs ls _ hm; exact absurd hm (Nat.not_lt_zero _)
      | succ n ih =>
        intro y4_2 y4_3 H locs ls hI hm hP hD hS hl
        have hq := hs4 y4_2 y4_3 hI
        generalize hB4 : (fun (t0 : Int32) (t1 : Int32) => I4 t0 t1 ∧ μ4 t0 t1 < μ4 y4_2 y4_3) = B4 at hq
        have bk4 : ∀ (y4_2 : Int32) (y4_3 : Int32) (H : Heap) (locs : List Loc) (ls : Array Slot), B4 y4_2 y4_3 → va_P (dC, dI) vwCl (wX7 cy a v) H → va_D A (wX7 cy a v) → va_S A s.heap H locs → lv_has ls 4 [(0, .ref (a 0)), (1, .int x1), (2, .int y4_2), (3, .int y4_3)] → W p l e (headSpec wsX7_sumOf ({ frames := 0, cells := 0, slots := 0, locals := 0 } : Room)).room s m ([.ref (a 0), .int x1] : List Value).toArray below meth c H locs 0 0 (MQ below (q_X7_sumOf dC dI cy a v x1 Q A) ([.ref (a 0), .int x1] : List Value).toArray s 0 0 A) (F0 m 4 ls []) := by
          intro y4_2 y4_3 H locs ls h
          rw [← hB4] at h
          exact ih y4_2 y4_3 H locs ls h.1 (Nat.lt_of_lt_of_le h.2 (Nat.le_of_lt_succ hm))
        unfold wb_X7_sumOf_4 at hq
        refine lv_iload_n hx hb dX7_sumOf_4 rfl (lv_at hl 3 rfl) ?_
        refine lv_bipush (v := 64) hx hb dX7_sumOf_5 (by decide) ?_
        obtain ⟨hqA, hqB⟩ := hq
        refine lv_icmp_ge (tgt := 35) hx hb dX7_sumOf_7 (by decide) (fun c3 => ?_) (fun c3 => ?_)
        · have hq := hqA c3
          refine lv_iload_n hx hb dX7_sumOf_35 rfl (lv_at hl 2 rfl) ?_
          exact W.iret (v := y4_2) hx hb hr (fun t ht hW => ⟨⟨y4_2, (), rfl, hq, (xAt_of hP hK hD ht hW)⟩, hS.F ht⟩) hS.2.2 dX7_sumOf_36
        · have hq := hqB c3
          refine lv_iload_n hx hb dX7_sumOf_10 rfl (lv_at hl 2 rfl) ?_
          refine lv_aload_n hx hb dX7_sumOf_11 rfl (lv_at hl 0 rfl) ?_
          refine va_get (D := (dC, dI)) (ci := 7) (v := .ref (a 1)) (C := RX7) (T := TX7) (N := 16) hx hb hts iK7 hown hK hP 0 rfl rfl 0 (by decide) lk0 (fun _ h9 => h9) rfl dX7_sumOf_12 ?_
          refine lv_iload_n hx hb dX7_sumOf_15 rfl (lv_at hl 1 rfl) ?_
          refine lv_iload_n hx hb dX7_sumOf_16 rfl (lv_at hl 3 rfl) ?_
          refine lv_iadd hx hb dX7_sumOf_17 ?_
          obtain ⟨g1, hq⟩ := hq
          refine va_iald hx hb hK hP 1 0 rfl rfl g1 dX7_sumOf_18 ?_
          obtain ⟨hqA, hqB⟩ := hq
          refine lv_if_le (tgt := 26) hx hb dX7_sumOf_19 (by decide) (fun c2 => ?_) (fun c2 => ?_)
          · have hq := hqA c2
            refine lv_iconst (v := 0) hx hb dX7_sumOf_26 (by decide) ?_
            refine lv_iadd hx hb dX7_sumOf_27 ?_
            refine lv_istore_n (lv' := [(2, .int (y4_2 + 0)), (0, .ref (a 0)), (1, .int x1), (3, .int y4_3)]) hx hb dX7_sumOf_28 rfl hl (by decide) rfl (fun ls hl => ?_)
            refine lv_iinc (v := (y4_3 + 1)) (lv' := [(3, .int (y4_3 + 1)), (2, .int (y4_2 + 0)), (0, .ref (a 0)), (1, .int x1)]) hx hb dX7_sumOf_29 hl (k := 3) rfl rfl (by decide) rfl (fun ls hl => ?_)
            refine lv_goto (tgt := 4) hx hb dX7_sumOf_32 (by decide) ?_
            exact bk4 (y4_2 + 0) (y4_3 + 1) _ _ _ hq hP hD hS (lv_sub hl [2, 3, 1, 0] rfl)
          · have hq := hqB c2
            refine lv_iconst (v := 1) hx hb dX7_sumOf_22 (by decide) ?_
            refine lv_goto (tgt := 27) hx hb dX7_sumOf_23 (by decide) ?_
            refine lv_iadd hx hb dX7_sumOf_27 ?_
            refine lv_istore_n (lv' := [(2, .int (y4_2 + 1)), (0, .ref (a 0)), (1, .int x1), (3, .int y4_3)]) hx hb dX7_sumOf_28 rfl hl (by decide) rfl (fun ls hl => ?_)
            refine lv_iinc (v := (y4_3 + 1)) (lv' := [(3, .int (y4_3 + 1)), (2, .int (y4_2 + 1)), (0, .ref (a 0)), (1, .int x1)]) hx hb dX7_sumOf_29 hl (k := 3) rfl rfl (by decide) rfl (fun ls hl => ?_)
            refine lv_goto (tgt := 4) hx hb dX7_sumOf_32 (by decide) ?_
            exact bk4 (y4_2 + 1) (y4_3 + 1) _ _ _ hq hP hD hS (lv_sub hl [2, 3, 1, 0] rfl)
    exact key _ y4_2 y4_3 H locs ls h0 (Nat.lt_succ_self _) hP hD hS hl
  refine lv_iconst (v := 0) hx hb dX7_sumOf_0 (by decide) ?_
  refine lv_istore_n (lv' := [(2, .int 0), (0, .ref (a 0)), (1, .int x1)]) hx hb dX7_sumOf_1 rfl hl (by decide) rfl (fun ls hl => ?_)
  refine lv_iconst (v := 0) hx hb dX7_sumOf_2 (by decide) ?_
  refine lv_istore_n (lv' := [(3, .int 0), (2, .int 0), (0, .ref (a 0)), (1, .int x1)]) hx hb dX7_sumOf_3 rfl hl (by decide) rfl (fun ls hl => ?_)
  exact J4  0 0 _ _ _ hq hP hD hS (lv_sub hl [2, 3, 1, 0] rfl)
def wp_X7_counted (v : V_X7) (x1 : Int32) (Q : Int32 → (Nat → Int32) → (Nat → Int32) → Prop) : Prop :=
  ((x1 = 0 → vp_in x1 1472 ∧ Q ((X7_s v) x1.toNatClampNeg) (X7_away v) (X7_isHollow v)) ∧
  (¬ x1 = 0 → ((x1 = 1 → vp_in x1 1472 ∧ Q ((X7_s v) x1.toNatClampNeg) (X7_away v) (X7_isHollow v)) ∧
  (¬ x1 = 1 → ((x1 = 2 → vp_in x1 1472 ∧ Q ((X7_s v) x1.toNatClampNeg) (X7_away v) (X7_isHollow v)) ∧
  (¬ x1 = 2 → ((x1 = 3 → wp_X7_sumOf v 8 (fun r82 =>
  Q r82 (X7_away v) (X7_isHollow v))) ∧
  (¬ x1 = 3 → ((x1 = 4 → wp_X7_tunnels v (fun r87 =>
  Q r87 (X7_away v) (X7_isHollow v))) ∧
  (¬ x1 = 4 → ((x1 = 5 → wp_X7_hollow v (fun r92 z92_v_isHollow =>
  Q r92 (X7_away v) z92_v_isHollow)) ∧
  (¬ x1 = 5 → ((x1 = 6 → wp_X7_sumOf v 200 (fun r100 =>
  Q r100 (X7_away v) (X7_isHollow v))) ∧
  (¬ x1 = 6 → ((x1 = 7 → wp_X7_traps v (fun r105 =>
  Q r105 (X7_away v) (X7_isHollow v))) ∧
  (¬ x1 = 7 → ((x1 = 8 → wp_X7_sumOf v 72 (fun r112 =>
  Q r112 (X7_away v) (X7_isHollow v))) ∧
  (¬ x1 = 8 → ((x1 = 9 → vp_in ((3 + x1) - 9) 1472 ∧ Q ((X7_s v) ((3 + x1) - 9).toNatClampNeg) (X7_away v) (X7_isHollow v)) ∧
  (¬ x1 = 9 → ((x1 = 10 → vp_in ((3 + x1) - 9) 1472 ∧ Q ((X7_s v) ((3 + x1) - 9).toNatClampNeg) (X7_away v) (X7_isHollow v)) ∧
  (¬ x1 = 10 → ((x1 = 11 → vp_in ((3 + x1) - 9) 1472 ∧ Q ((X7_s v) ((3 + x1) - 9).toNatClampNeg) (X7_away v) (X7_isHollow v)) ∧
  (¬ x1 = 11 → ((x1 = 12 → wp_X7_groups v (fun r129 z129_v_away =>
  Q r129 z129_v_away (X7_isHollow v))) ∧
  (¬ x1 = 12 → ((x1 = 13 → vp_in 6 1472 ∧ Q ((X7_s v) (6 : Int32).toNatClampNeg) (X7_away v) (X7_isHollow v)) ∧
  (¬ x1 = 13 → Q (X7_savedMany v) (X7_away v) (X7_isHollow v)))))))))))))))))))))))))))))
def q_X7_counted (dC : Nat → ClassId) (dI : Nat → Nat → Nat) (cy : Nat → ClassId) (a : Nat → Nat) (v : V_X7) (x1 : Int32) (Q : Int32 → (Nat → Int32) → (Nat → Int32) → Prop) (A : Nat → Prop) : Array Value → State → Outcome → State → Prop := va_Qi (fun (r : Int32) (u : (Nat → Int32) × (Nat → Int32)) => Q r u.1 u.2) (fun (u : (Nat → Int32) × (Nat → Int32)) t => xAt dC dI cy A (cX7 cy a (X7_s v) (X7_aside v) (X7_kept v) (X7_isKept v) (X7_saved v) (X7_savedMany v) (X7_text v) (X7_length v) (X7_thrown v) (X7_joint v) (X7_position v) (X7_isWrong v) u.2 (X7_sure v) u.1 (X7_digested v)) t) A
set_option maxHeartbeats 4000000 in
set_option maxRecDepth 100000 in
theorem c_X7_counted (l : Launch) (dC : Nat → ClassId) (dI : Nat → Nat → Nat) (cy : Nat → ClassId) (a : Nat → Nat) (sz : Nat) (v : V_X7) (x1 : Int32) (Q : Int32 → (Nat → Int32) → (Nat → Int32) → Prop) (hq : wp_X7_counted v x1 Q) : Met l yX7_counted wsX7_counted ({ frames := 3, cells := 0, slots := 0, locals := 72 } : Room) (va_Pc [.ref (a 0), .int x1] (xPre dC dI cy (wX7 cy a v) sz)) (q_X7_counted dC dI cy a v x1 Q (va_A (wX7 cy a v) sz)) 0 0 (va_A (wX7 cy a v) sz) := by
  refine Met.ofW (cc := cX7_counted) (maxL := 2) (ret := (some .int)) (by decide) rfl ?_
  intro p e s m args below meth c s₁ B hml hv
  obtain ⟨rfl, hsz, hP, hK, hD0⟩ := hv
  have hx := B.exec
  have hb := B.bytes
  have hr := B.returns
  have hts := atoms_spec (ws := wsX7_counted) B.pre
  have hown : s.vm.findClass RX7 = some m.cls := findClass_of_methodNamed B.named
  have hlocks := B.notSynchronized
  subst hsz
  have hD := hD0.self (sz := s.heap.size)
  generalize hAe : va_A (wX7 cy a v) s.heap.size = A at hD ⊢
  have hAe0 : ∀ q : Nat, s.heap.size ≤ q → A q := fun q h => by rw [← hAe]; exact Or.inr h
  have hS : va_S A s.heap s.heap [] := va_S.rf
  have hl := lv_entry ([.ref (a 0), .int x1]) (n := 2) (Nat.le_of_ble_eq_true rfl)
  rw [lg_entry_eq]
  generalize (lg_sl ([.ref (a 0), .int x1]) ++ List.replicate (2 - (lg_sl ([.ref (a 0), .int x1])).length) Slot.unset).toArray = ls at hl ⊢
  have hl : lv_has ls 2 [(0, .ref (a 0)), (1, .int x1)] := hl
  have lk0 := hts (Cond.fieldLink RX7 7 "MolesLawnModel" "s" "[I") (List.mem_cons_of_mem _ (List.mem_append_left _ (List.mem_append_left _ (List.mem_of_getElem? (i := 0) rfl))))
  have lk1 := hts (Cond.fieldLink RX7 46 "MolesLawnModel" "savedMany" "I") (List.mem_cons_of_mem _ (List.mem_append_left _ (List.mem_append_left _ (List.mem_of_getElem? (i := 1) rfl))))
  have iK7 : ∀ w ∈ wsX70, w ∈ wsX7_counted := fun _ h => (List.mem_cons_of_mem _ (List.mem_append_right _ h))
  unfold wp_X7_counted at hq
  refine lv_iload_n hx hb dX7_counted_0 rfl (lv_at hl 1 rfl) ?_
  obtain ⟨hqA, hqB⟩ := hq
  by_cases n0 : x1 = 0
  · have hq := hqA n0
    refine lv_tableIn (tgt := 72) (off := 71) hx hb dX7_counted_1 (by rw [n0]; decide) (by rw [n0]; decide) (by rw [n0]; decide) (by decide) ?_
    refine lv_aload_n hx hb dX7_counted_72 rfl (lv_at hl 0 rfl) ?_
    refine va_get (D := (dC, dI)) (ci := 7) (v := .ref (a 1)) (C := RX7) (T := TX7) (N := 16) hx hb hts iK7 hown hK hP 0 rfl rfl 0 (by decide) lk0 (fun _ h9 => h9) rfl dX7_counted_73 ?_
    refine lv_iload_n hx hb dX7_counted_76 rfl (lv_at hl 1 rfl) ?_
    obtain ⟨g1, hq⟩ := hq
    refine va_iald hx hb hK hP 1 0 rfl rfl g1 dX7_counted_77 ?_
    exact W.iret (v := ((X7_s v) x1.toNatClampNeg)) hx hb hr (fun t ht hW => ⟨⟨((X7_s v) x1.toNatClampNeg), ((X7_away v), (X7_isHollow v)), rfl, hq, (xAt_of hP hK hD ht hW)⟩, hS.F ht⟩) hS.2.2 dX7_counted_78
  · have hq := hqB n0
    obtain ⟨hqA, hqB⟩ := hq
    by_cases n1 : x1 = 1
    · have hq := hqA n1
      refine lv_tableIn (tgt := 72) (off := 71) hx hb dX7_counted_1 (by rw [n1]; decide) (by rw [n1]; decide) (by rw [n1]; decide) (by decide) ?_
      refine lv_aload_n hx hb dX7_counted_72 rfl (lv_at hl 0 rfl) ?_
      refine va_get (D := (dC, dI)) (ci := 7) (v := .ref (a 1)) (C := RX7) (T := TX7) (N := 16) hx hb hts iK7 hown hK hP 0 rfl rfl 0 (by decide) lk0 (fun _ h9 => h9) rfl dX7_counted_73 ?_
      refine lv_iload_n hx hb dX7_counted_76 rfl (lv_at hl 1 rfl) ?_
      obtain ⟨g2, hq⟩ := hq
      refine va_iald hx hb hK hP 1 0 rfl rfl g2 dX7_counted_77 ?_
      exact W.iret (v := ((X7_s v) x1.toNatClampNeg)) hx hb hr (fun t ht hW => ⟨⟨((X7_s v) x1.toNatClampNeg), ((X7_away v), (X7_isHollow v)), rfl, hq, (xAt_of hP hK hD ht hW)⟩, hS.F ht⟩) hS.2.2 dX7_counted_78
    · have hq := hqB n1
      obtain ⟨hqA, hqB⟩ := hq
      by_cases n2 : x1 = 2
      · have hq := hqA n2
        refine lv_tableIn (tgt := 72) (off := 71) hx hb dX7_counted_1 (by rw [n2]; decide) (by rw [n2]; decide) (by rw [n2]; decide) (by decide) ?_
        refine lv_aload_n hx hb dX7_counted_72 rfl (lv_at hl 0 rfl) ?_
        refine va_get (D := (dC, dI)) (ci := 7) (v := .ref (a 1)) (C := RX7) (T := TX7) (N := 16) hx hb hts iK7 hown hK hP 0 rfl rfl 0 (by decide) lk0 (fun _ h9 => h9) rfl dX7_counted_73 ?_
        refine lv_iload_n hx hb dX7_counted_76 rfl (lv_at hl 1 rfl) ?_
        obtain ⟨g3, hq⟩ := hq
        refine va_iald hx hb hK hP 1 0 rfl rfl g3 dX7_counted_77 ?_
        exact W.iret (v := ((X7_s v) x1.toNatClampNeg)) hx hb hr (fun t ht hW => ⟨⟨((X7_s v) x1.toNatClampNeg), ((X7_away v), (X7_isHollow v)), rfl, hq, (xAt_of hP hK hD ht hW)⟩, hS.F ht⟩) hS.2.2 dX7_counted_78
      · have hq := hqB n2
        obtain ⟨hqA, hqB⟩ := hq
        by_cases n3 : x1 = 3
        · have hq := hqA n3
          refine lv_tableIn (tgt := 79) (off := 78) hx hb dX7_counted_1 (by rw [n3]; decide) (by rw [n3]; decide) (by rw [n3]; decide) (by decide) ?_
          refine lv_aload_n hx hb dX7_counted_79 rfl (lv_at hl 0 rfl) ?_
          refine lv_bipush (v := 8) hx hb dX7_counted_80 (by decide) ?_
          have hFc := xfree_same hS hAe0 (ws := (wX7 cy a v)) hD
          refine va_calli (va_runV (As := [.int 8]) (rest := []) ⟨hx, hb, hml, hown, hts⟩ (c_X7_sumOf l dC dI cy a _ v 8 _ hq) (cwV 1 hts gX7_counted_X7_sumOf rfl rfl rfl (by decide +kernel) ⟨Nat.le_of_ble_eq_true rfl, Nat.le_of_ble_eq_true rfl⟩) ⟨xPre_blind, va_recv hK hP (ci := 7) (q0 := 0) rfl rfl, xPre_of hP hK hD⟩ rfl rfl hl.1 rfl (lv_room (Nat.le_of_ble_eq_true rfl)) dX7_counted_82 ⟨Nat.le_of_ble_eq_true rfl, Nat.le_of_ble_eq_true rfl⟩) hS (fun q _ h => hFc q h) hFc (fun r82 u9 t H locs ht hvm hq hB hz1 hk1 hS => ?_)
          obtain ⟨hP1, -, hD1⟩ := hB
          rw [ht] at hP1
          have hP : va_P (dC, dI) vwCl (wX7 cy a v) H := hP1
          have hD : va_D A (wX7 cy a v) := hD1.weaken (fun _ q _ h => hFc q.1 h)
          exact W.iret (v := r82) hx hb hr (fun t ht hW => ⟨⟨r82, ((X7_away v), (X7_isHollow v)), rfl, hq, (xAt_of hP hK hD ht hW)⟩, hS.F ht⟩) hS.2.2 dX7_counted_85
        · have hq := hqB n3
          obtain ⟨hqA, hqB⟩ := hq
          by_cases n4 : x1 = 4
          · have hq := hqA n4
            refine lv_tableIn (tgt := 86) (off := 85) hx hb dX7_counted_1 (by rw [n4]; decide) (by rw [n4]; decide) (by rw [n4]; decide) (by decide) ?_
            refine lv_aload_n hx hb dX7_counted_86 rfl (lv_at hl 0 rfl) ?_
            have hFc := xfree_same hS hAe0 (ws := (wX7 cy a v)) hD
            refine va_calli (va_runV (As := []) (rest := []) ⟨hx, hb, hml, hown, hts⟩ (c_X7_tunnels l dC dI cy a _ v _ hq) (cwV 0 hts gX7_counted_X7_tunnels rfl rfl rfl (by decide +kernel) ⟨Nat.le_of_ble_eq_true rfl, Nat.le_of_ble_eq_true rfl⟩) ⟨xPre_blind, va_recv hK hP (ci := 7) (q0 := 0) rfl rfl, xPre_of hP hK hD⟩ rfl rfl hl.1 rfl (lv_room (Nat.le_of_ble_eq_true rfl)) dX7_counted_87 ⟨Nat.le_of_ble_eq_true rfl, Nat.le_of_ble_eq_true rfl⟩) hS (fun q _ h => hFc q h) hFc (fun r87 u9 t H locs ht hvm hq hB hz1 hk1 hS => ?_)
            obtain ⟨hP1, -, hD1⟩ := hB
            rw [ht] at hP1
            have hP : va_P (dC, dI) vwCl (wX7 cy a v) H := hP1
            have hD : va_D A (wX7 cy a v) := hD1.weaken (fun _ q _ h => hFc q.1 h)
            exact W.iret (v := r87) hx hb hr (fun t ht hW => ⟨⟨r87, ((X7_away v), (X7_isHollow v)), rfl, hq, (xAt_of hP hK hD ht hW)⟩, hS.F ht⟩) hS.2.2 dX7_counted_90
          · have hq := hqB n4
            obtain ⟨hqA, hqB⟩ := hq
            by_cases n5 : x1 = 5
            · have hq := hqA n5
              refine lv_tableIn (tgt := 91) (off := 90) hx hb dX7_counted_1 (by rw [n5]; decide) (by rw [n5]; decide) (by rw [n5]; decide) (by decide) ?_
              refine lv_aload_n hx hb dX7_counted_91 rfl (lv_at hl 0 rfl) ?_
              have hFc := xfree_same hS hAe0 (ws := (wX7 cy a v)) hD
              refine va_calli (va_runV (As := []) (rest := []) ⟨hx, hb, hml, hown, hts⟩ (c_X7_hollow l dC dI cy a _ v _ hq) (cwV 0 hts gX7_counted_X7_hollow rfl rfl rfl (by decide +kernel) ⟨Nat.le_of_ble_eq_true rfl, Nat.le_of_ble_eq_true rfl⟩) ⟨xPre_blind, va_recv hK hP (ci := 7) (q0 := 0) rfl rfl, xPre_of hP hK hD⟩ rfl rfl hl.1 rfl (lv_room (Nat.le_of_ble_eq_true rfl)) dX7_counted_92 ⟨Nat.le_of_ble_eq_true rfl, Nat.le_of_ble_eq_true rfl⟩) hS (fun q _ h => hFc q h) hFc (fun r92 z92_v_isHollow t H locs ht hvm hq hB hz1 hk1 hS => ?_)
              obtain ⟨hP1, -, hD1⟩ := hB
              rw [ht] at hP1
              have hP : va_P (dC, dI) vwCl (cX7 cy a (X7_s v) (X7_aside v) (X7_kept v) (X7_isKept v) (X7_saved v) (X7_savedMany v) (X7_text v) (X7_length v) (X7_thrown v) (X7_joint v) (X7_position v) (X7_isWrong v) z92_v_isHollow (X7_sure v) (X7_away v) (X7_digested v)) H := hP1
              have hD : va_D A (cX7 cy a (X7_s v) (X7_aside v) (X7_kept v) (X7_isKept v) (X7_saved v) (X7_savedMany v) (X7_text v) (X7_length v) (X7_thrown v) (X7_joint v) (X7_position v) (X7_isWrong v) z92_v_isHollow (X7_sure v) (X7_away v) (X7_digested v)) := hD1.weaken (fun _ q _ h => hFc q.1 h)
              exact W.iret (v := r92) hx hb hr (fun t ht hW => ⟨⟨r92, ((X7_away v), z92_v_isHollow), rfl, hq, (xAt_of hP hK hD ht hW)⟩, hS.F ht⟩) hS.2.2 dX7_counted_95
            · have hq := hqB n5
              obtain ⟨hqA, hqB⟩ := hq
              by_cases n6 : x1 = 6
              · have hq := hqA n6
                refine lv_tableIn (tgt := 96) (off := 95) hx hb dX7_counted_1 (by rw [n6]; decide) (by rw [n6]; decide) (by rw [n6]; decide) (by decide) ?_
                refine lv_aload_n hx hb dX7_counted_96 rfl (lv_at hl 0 rfl) ?_
                refine lv_sipush (v := 200) hx hb dX7_counted_97 (by decide) ?_
                have hFc := xfree_same hS hAe0 (ws := (wX7 cy a v)) hD
                refine va_calli (va_runV (As := [.int 200]) (rest := []) ⟨hx, hb, hml, hown, hts⟩ (c_X7_sumOf l dC dI cy a _ v 200 _ hq) (cwV 1 hts gX7_counted_X7_sumOf rfl rfl rfl (by decide +kernel) ⟨Nat.le_of_ble_eq_true rfl, Nat.le_of_ble_eq_true rfl⟩) ⟨xPre_blind, va_recv hK hP (ci := 7) (q0 := 0) rfl rfl, xPre_of hP hK hD⟩ rfl rfl hl.1 rfl (lv_room (Nat.le_of_ble_eq_true rfl)) dX7_counted_100 ⟨Nat.le_of_ble_eq_true rfl, Nat.le_of_ble_eq_true rfl⟩) hS (fun q _ h => hFc q h) hFc (fun r100 u9 t H locs ht hvm hq hB hz1 hk1 hS => ?_)
                obtain ⟨hP1, -, hD1⟩ := hB
                rw [ht] at hP1
                have hP : va_P (dC, dI) vwCl (wX7 cy a v) H := hP1
                have hD : va_D A (wX7 cy a v) := hD1.weaken (fun _ q _ h => hFc q.1 h)
                exact W.iret (v := r100) hx hb hr (fun t ht hW => ⟨⟨r100, ((X7_away v), (X7_isHollow v)), rfl, hq, (xAt_of hP hK hD ht hW)⟩, hS.F ht⟩) hS.2.2 dX7_counted_103
              · have hq := hqB n6
                obtain ⟨hqA, hqB⟩ := hq
                by_cases n7 : x1 = 7
                · have hq := hqA n7
                  refine lv_tableIn (tgt := 104) (off := 103) hx hb dX7_counted_1 (by rw [n7]; decide) (by rw [n7]; decide) (by rw [n7]; decide) (by decide) ?_
                  refine lv_aload_n hx hb dX7_counted_104 rfl (lv_at hl 0 rfl) ?_
                  have hFc := xfree_same hS hAe0 (ws := (wX7 cy a v)) hD
                  refine va_calli (va_runV (As := []) (rest := []) ⟨hx, hb, hml, hown, hts⟩ (c_X7_traps l dC dI cy a _ v _ hq) (cwV 0 hts gX7_counted_X7_traps rfl rfl rfl (by decide +kernel) ⟨Nat.le_of_ble_eq_true rfl, Nat.le_of_ble_eq_true rfl⟩) ⟨xPre_blind, va_recv hK hP (ci := 7) (q0 := 0) rfl rfl, xPre_of hP hK hD⟩ rfl rfl hl.1 rfl (lv_room (Nat.le_of_ble_eq_true rfl)) dX7_counted_105 ⟨Nat.le_of_ble_eq_true rfl, Nat.le_of_ble_eq_true rfl⟩) hS (fun q _ h => hFc q h) hFc (fun r105 u9 t H locs ht hvm hq hB hz1 hk1 hS => ?_)
                  obtain ⟨hP1, -, hD1⟩ := hB
                  rw [ht] at hP1
                  have hP : va_P (dC, dI) vwCl (wX7 cy a v) H := hP1
                  have hD : va_D A (wX7 cy a v) := hD1.weaken (fun _ q _ h => hFc q.1 h)
                  exact W.iret (v := r105) hx hb hr (fun t ht hW => ⟨⟨r105, ((X7_away v), (X7_isHollow v)), rfl, hq, (xAt_of hP hK hD ht hW)⟩, hS.F ht⟩) hS.2.2 dX7_counted_108
                · have hq := hqB n7
                  obtain ⟨hqA, hqB⟩ := hq
                  by_cases n8 : x1 = 8
                  · have hq := hqA n8
                    refine lv_tableIn (tgt := 109) (off := 108) hx hb dX7_counted_1 (by rw [n8]; decide) (by rw [n8]; decide) (by rw [n8]; decide) (by decide) ?_
                    refine lv_aload_n hx hb dX7_counted_109 rfl (lv_at hl 0 rfl) ?_
                    refine lv_bipush (v := 72) hx hb dX7_counted_110 (by decide) ?_
                    have hFc := xfree_same hS hAe0 (ws := (wX7 cy a v)) hD
                    refine va_calli (va_runV (As := [.int 72]) (rest := []) ⟨hx, hb, hml, hown, hts⟩ (c_X7_sumOf l dC dI cy a _ v 72 _ hq) (cwV 1 hts gX7_counted_X7_sumOf rfl rfl rfl (by decide +kernel) ⟨Nat.le_of_ble_eq_true rfl, Nat.le_of_ble_eq_true rfl⟩) ⟨xPre_blind, va_recv hK hP (ci := 7) (q0 := 0) rfl rfl, xPre_of hP hK hD⟩ rfl rfl hl.1 rfl (lv_room (Nat.le_of_ble_eq_true rfl)) dX7_counted_112 ⟨Nat.le_of_ble_eq_true rfl, Nat.le_of_ble_eq_true rfl⟩) hS (fun q _ h => hFc q h) hFc (fun r112 u9 t H locs ht hvm hq hB hz1 hk1 hS => ?_)
                    obtain ⟨hP1, -, hD1⟩ := hB
                    rw [ht] at hP1
                    have hP : va_P (dC, dI) vwCl (wX7 cy a v) H := hP1
                    have hD : va_D A (wX7 cy a v) := hD1.weaken (fun _ q _ h => hFc q.1 h)
                    exact W.iret (v := r112) hx hb hr (fun t ht hW => ⟨⟨r112, ((X7_away v), (X7_isHollow v)), rfl, hq, (xAt_of hP hK hD ht hW)⟩, hS.F ht⟩) hS.2.2 dX7_counted_115
                  · have hq := hqB n8
                    obtain ⟨hqA, hqB⟩ := hq
                    by_cases n9 : x1 = 9
                    · have hq := hqA n9
                      refine lv_tableIn (tgt := 116) (off := 115) hx hb dX7_counted_1 (by rw [n9]; decide) (by rw [n9]; decide) (by rw [n9]; decide) (by decide) ?_
                      refine lv_aload_n hx hb dX7_counted_116 rfl (lv_at hl 0 rfl) ?_
                      refine va_get (D := (dC, dI)) (ci := 7) (v := .ref (a 1)) (C := RX7) (T := TX7) (N := 16) hx hb hts iK7 hown hK hP 0 rfl rfl 0 (by decide) lk0 (fun _ h9 => h9) rfl dX7_counted_117 ?_
                      refine lv_iconst (v := 3) hx hb dX7_counted_120 (by decide) ?_
                      refine lv_iload_n hx hb dX7_counted_121 rfl (lv_at hl 1 rfl) ?_
                      refine lv_iadd hx hb dX7_counted_122 ?_
                      refine lv_bipush (v := 9) hx hb dX7_counted_123 (by decide) ?_
                      refine lv_isub hx hb dX7_counted_125 ?_
                      obtain ⟨g4, hq⟩ := hq
                      refine va_iald hx hb hK hP 1 0 rfl rfl g4 dX7_counted_126 ?_
                      exact W.iret (v := ((X7_s v) ((3 + x1) - 9).toNatClampNeg)) hx hb hr (fun t ht hW => ⟨⟨((X7_s v) ((3 + x1) - 9).toNatClampNeg), ((X7_away v), (X7_isHollow v)), rfl, hq, (xAt_of hP hK hD ht hW)⟩, hS.F ht⟩) hS.2.2 dX7_counted_127
                    · have hq := hqB n9
                      obtain ⟨hqA, hqB⟩ := hq
                      by_cases n10 : x1 = 10
                      · have hq := hqA n10
                        refine lv_tableIn (tgt := 116) (off := 115) hx hb dX7_counted_1 (by rw [n10]; decide) (by rw [n10]; decide) (by rw [n10]; decide) (by decide) ?_
                        refine lv_aload_n hx hb dX7_counted_116 rfl (lv_at hl 0 rfl) ?_
                        refine va_get (D := (dC, dI)) (ci := 7) (v := .ref (a 1)) (C := RX7) (T := TX7) (N := 16) hx hb hts iK7 hown hK hP 0 rfl rfl 0 (by decide) lk0 (fun _ h9 => h9) rfl dX7_counted_117 ?_
                        refine lv_iconst (v := 3) hx hb dX7_counted_120 (by decide) ?_
                        refine lv_iload_n hx hb dX7_counted_121 rfl (lv_at hl 1 rfl) ?_
                        refine lv_iadd hx hb dX7_counted_122 ?_
                        refine lv_bipush (v := 9) hx hb dX7_counted_123 (by decide) ?_
                        refine lv_isub hx hb dX7_counted_125 ?_
                        obtain ⟨g5, hq⟩ := hq
                        refine va_iald hx hb hK hP 1 0 rfl rfl g5 dX7_counted_126 ?_
                        exact W.iret (v := ((X7_s v) ((3 + x1) - 9).toNatClampNeg)) hx hb hr (fun t ht hW => ⟨⟨((X7_s v) ((3 + x1) - 9).toNatClampNeg), ((X7_away v), (X7_isHollow v)), rfl, hq, (xAt_of hP hK hD ht hW)⟩, hS.F ht⟩) hS.2.2 dX7_counted_127
                      · have hq := hqB n10
                        obtain ⟨hqA, hqB⟩ := hq
                        by_cases n11 : x1 = 11
                        · have hq := hqA n11
                          refine lv_tableIn (tgt := 116) (off := 115) hx hb dX7_counted_1 (by rw [n11]; decide) (by rw [n11]; decide) (by rw [n11]; decide) (by decide) ?_
                          refine lv_aload_n hx hb dX7_counted_116 rfl (lv_at hl 0 rfl) ?_
                          refine va_get (D := (dC, dI)) (ci := 7) (v := .ref (a 1)) (C := RX7) (T := TX7) (N := 16) hx hb hts iK7 hown hK hP 0 rfl rfl 0 (by decide) lk0 (fun _ h9 => h9) rfl dX7_counted_117 ?_
                          refine lv_iconst (v := 3) hx hb dX7_counted_120 (by decide) ?_
                          refine lv_iload_n hx hb dX7_counted_121 rfl (lv_at hl 1 rfl) ?_
                          refine lv_iadd hx hb dX7_counted_122 ?_
                          refine lv_bipush (v := 9) hx hb dX7_counted_123 (by decide) ?_
                          refine lv_isub hx hb dX7_counted_125 ?_
                          obtain ⟨g6, hq⟩ := hq
                          refine va_iald hx hb hK hP 1 0 rfl rfl g6 dX7_counted_126 ?_
                          exact W.iret (v := ((X7_s v) ((3 + x1) - 9).toNatClampNeg)) hx hb hr (fun t ht hW => ⟨⟨((X7_s v) ((3 + x1) - 9).toNatClampNeg), ((X7_away v), (X7_isHollow v)), rfl, hq, (xAt_of hP hK hD ht hW)⟩, hS.F ht⟩) hS.2.2 dX7_counted_127
                        · have hq := hqB n11
                          obtain ⟨hqA, hqB⟩ := hq
                          by_cases n12 : x1 = 12
                          · have hq := hqA n12
                            refine lv_tableIn (tgt := 128) (off := 127) hx hb dX7_counted_1 (by rw [n12]; decide) (by rw [n12]; decide) (by rw [n12]; decide) (by decide) ?_
                            refine lv_aload_n hx hb dX7_counted_128 rfl (lv_at hl 0 rfl) ?_
                            have hFc := xfree_same hS hAe0 (ws := (wX7 cy a v)) hD
                            refine va_calli (va_runV (As := []) (rest := []) ⟨hx, hb, hml, hown, hts⟩ (c_X7_groups l dC dI cy a _ v _ hq) (cwV 0 hts gX7_counted_X7_groups rfl rfl rfl (by decide +kernel) ⟨Nat.le_of_ble_eq_true rfl, Nat.le_of_ble_eq_true rfl⟩) ⟨xPre_blind, va_recv hK hP (ci := 7) (q0 := 0) rfl rfl, xPre_of hP hK hD⟩ rfl rfl hl.1 rfl (lv_room (Nat.le_of_ble_eq_true rfl)) dX7_counted_129 ⟨Nat.le_of_ble_eq_true rfl, Nat.le_of_ble_eq_true rfl⟩) hS (fun q _ h => hFc q h) hFc (fun r129 z129_v_away t H locs ht hvm hq hB hz1 hk1 hS => ?_)
                            obtain ⟨hP1, -, hD1⟩ := hB
                            rw [ht] at hP1
                            have hP : va_P (dC, dI) vwCl (cX7 cy a (X7_s v) (X7_aside v) (X7_kept v) (X7_isKept v) (X7_saved v) (X7_savedMany v) (X7_text v) (X7_length v) (X7_thrown v) (X7_joint v) (X7_position v) (X7_isWrong v) (X7_isHollow v) (X7_sure v) z129_v_away (X7_digested v)) H := hP1
                            have hD : va_D A (cX7 cy a (X7_s v) (X7_aside v) (X7_kept v) (X7_isKept v) (X7_saved v) (X7_savedMany v) (X7_text v) (X7_length v) (X7_thrown v) (X7_joint v) (X7_position v) (X7_isWrong v) (X7_isHollow v) (X7_sure v) z129_v_away (X7_digested v)) := hD1.weaken (fun _ q _ h => hFc q.1 h)
                            exact W.iret (v := r129) hx hb hr (fun t ht hW => ⟨⟨r129, (z129_v_away, (X7_isHollow v)), rfl, hq, (xAt_of hP hK hD ht hW)⟩, hS.F ht⟩) hS.2.2 dX7_counted_132
                          · have hq := hqB n12
                            obtain ⟨hqA, hqB⟩ := hq
                            by_cases n13 : x1 = 13
                            · have hq := hqA n13
                              refine lv_tableIn (tgt := 133) (off := 132) hx hb dX7_counted_1 (by rw [n13]; decide) (by rw [n13]; decide) (by rw [n13]; decide) (by decide) ?_
                              refine lv_aload_n hx hb dX7_counted_133 rfl (lv_at hl 0 rfl) ?_
                              refine va_get (D := (dC, dI)) (ci := 7) (v := .ref (a 1)) (C := RX7) (T := TX7) (N := 16) hx hb hts iK7 hown hK hP 0 rfl rfl 0 (by decide) lk0 (fun _ h9 => h9) rfl dX7_counted_134 ?_
                              refine lv_bipush (v := 6) hx hb dX7_counted_137 (by decide) ?_
                              obtain ⟨g7, hq⟩ := hq
                              refine va_iald hx hb hK hP 1 0 rfl rfl g7 dX7_counted_139 ?_
                              exact W.iret (v := ((X7_s v) (6 : Int32).toNatClampNeg)) hx hb hr (fun t ht hW => ⟨⟨((X7_s v) (6 : Int32).toNatClampNeg), ((X7_away v), (X7_isHollow v)), rfl, hq, (xAt_of hP hK hD ht hW)⟩, hS.F ht⟩) hS.2.2 dX7_counted_140
                            · have hq := hqB n13
                              refine lv_tableOut (tgt := 141) hx hb dX7_counted_1 (by have e0 := lv_neT n0 (show (0 : Int32).toInt = 0 from by decide); have e1 := lv_neT n1 (show (1 : Int32).toInt = 1 from by decide); have e2 := lv_neT n2 (show (2 : Int32).toInt = 2 from by decide); have e3 := lv_neT n3 (show (3 : Int32).toInt = 3 from by decide); have e4 := lv_neT n4 (show (4 : Int32).toInt = 4 from by decide); have e5 := lv_neT n5 (show (5 : Int32).toInt = 5 from by decide); have e6 := lv_neT n6 (show (6 : Int32).toInt = 6 from by decide); have e7 := lv_neT n7 (show (7 : Int32).toInt = 7 from by decide); have e8 := lv_neT n8 (show (8 : Int32).toInt = 8 from by decide); have e9 := lv_neT n9 (show (9 : Int32).toInt = 9 from by decide); have e10 := lv_neT n10 (show (10 : Int32).toInt = 10 from by decide); have e11 := lv_neT n11 (show (11 : Int32).toInt = 11 from by decide); have e12 := lv_neT n12 (show (12 : Int32).toInt = 12 from by decide); have e13 := lv_neT n13 (show (13 : Int32).toInt = 13 from by decide); omega) (by decide) ?_
                              refine lv_aload_n hx hb dX7_counted_141 rfl (lv_at hl 0 rfl) ?_
                              refine va_get (D := (dC, dI)) (ci := 7) (v := .int (X7_savedMany v)) (C := RX7) (T := TX7) (N := 16) hx hb hts iK7 hown hK hP 0 rfl rfl 5 (by decide) lk1 (fun _ h9 => h9) rfl dX7_counted_142 ?_
                              exact W.iret (v := (X7_savedMany v)) hx hb hr (fun t ht hW => ⟨⟨(X7_savedMany v), ((X7_away v), (X7_isHollow v)), rfl, hq, (xAt_of hP hK hD ht hW)⟩, hS.F ht⟩) hS.2.2 dX7_counted_145
def wp_X7_count_16 (v : V_X7) (x1 : Int32) (k16_0 : Int32) (Q : Int32 → (Nat → Int32) → (Nat → Int32) → Int32 → Prop) : Prop :=
  wp_X7_holds v k16_0 (fun r16 z16_v_thrown =>
  ((r16 = 0 → Q 0 (X7_away v) (X7_isHollow v) z16_v_thrown) ∧
  (¬ r16 = 0 → wp_X7_counted (X7_s8 v z16_v_thrown) x1 (fun r24 z24_v_away z24_v_isHollow =>
  Q r24 z24_v_away z24_v_isHollow z16_v_thrown))))
def wp_X7_count (v : V_X7) (x1 : Int32) (Q : Int32 → (Nat → Int32) → (Nat → Int32) → Int32 → Prop) : Prop :=
  wp_X7_in x1 0 14 (fun r5 =>
  ((r5 = 0 → wp_X7_count_16 v x1 1  Q) ∧
  (¬ r5 = 0 → wp_X7_count_16 v x1 0  Q)))
def q_X7_count (dC : Nat → ClassId) (dI : Nat → Nat → Nat) (cy : Nat → ClassId) (a : Nat → Nat) (v : V_X7) (x1 : Int32) (Q : Int32 → (Nat → Int32) → (Nat → Int32) → Int32 → Prop) (A : Nat → Prop) : Array Value → State → Outcome → State → Prop := va_Qi (fun (r : Int32) (u : (Nat → Int32) × (Nat → Int32) × Int32) => Q r u.1 u.2.1 u.2.2) (fun (u : (Nat → Int32) × (Nat → Int32) × Int32) t => xAt dC dI cy A (cX7 cy a (X7_s v) (X7_aside v) (X7_kept v) (X7_isKept v) (X7_saved v) (X7_savedMany v) (X7_text v) (X7_length v) u.2.2 (X7_joint v) (X7_position v) (X7_isWrong v) u.2.1 (X7_sure v) u.1 (X7_digested v)) t) A
set_option maxHeartbeats 4000000 in
set_option maxRecDepth 100000 in
theorem c_X7_count (l : Launch) (dC : Nat → ClassId) (dI : Nat → Nat → Nat) (cy : Nat → ClassId) (a : Nat → Nat) (sz : Nat) (v : V_X7) (x1 : Int32) (Q : Int32 → (Nat → Int32) → (Nat → Int32) → Int32 → Prop) (hq : wp_X7_count v x1 Q) : Met l yX7_count wsX7_count ({ frames := 4, cells := 0, slots := 0, locals := 93 } : Room) (va_Pc [.ref (a 0), .int x1] (xPre dC dI cy (wX7 cy a v) sz)) (q_X7_count dC dI cy a v x1 Q (va_A (wX7 cy a v) sz)) 0 0 (va_A (wX7 cy a v) sz) := by
  refine Met.ofW (cc := cX7_count) (maxL := 2) (ret := (some .int)) (by decide) rfl ?_
  intro p e s m args below meth c s₁ B hml hv
  obtain ⟨rfl, hsz, hP, hK, hD0⟩ := hv
  have hx := B.exec
  have hb := B.bytes
  have hr := B.returns
  have hts := atoms_spec (ws := wsX7_count) B.pre
  have hown : s.vm.findClass RX7 = some m.cls := findClass_of_methodNamed B.named
  have hlocks := B.notSynchronized
  subst hsz
  have hD := hD0.self (sz := s.heap.size)
  generalize hAe : va_A (wX7 cy a v) s.heap.size = A at hD ⊢
  have hAe0 : ∀ q : Nat, s.heap.size ≤ q → A q := fun q h => by rw [← hAe]; exact Or.inr h
  have hS : va_S A s.heap s.heap [] := va_S.rf
  have hl := lv_entry ([.ref (a 0), .int x1]) (n := 2) (Nat.le_of_ble_eq_true rfl)
  rw [lg_entry_eq]
  generalize (lg_sl ([.ref (a 0), .int x1]) ++ List.replicate (2 - (lg_sl ([.ref (a 0), .int x1])).length) Slot.unset).toArray = ls at hl ⊢
  have hl : lv_has ls 2 [(0, .ref (a 0)), (1, .int x1)] := hl
  unfold wp_X7_count at hq
  have J16 : ∀ (k16_0 : Int32) (H : Heap) (locs : List Loc) (ls : Array Slot), wp_X7_count_16 v x1 k16_0 Q → va_P (dC, dI) vwCl (wX7 cy a v) H → va_D A (wX7 cy a v) → va_S A s.heap H locs → lv_has ls 2 [(0, .ref (a 0)), (1, .int x1)] → W p l e (headSpec wsX7_count ({ frames := 4, cells := 0, slots := 0, locals := 93 } : Room)).room s m ([.ref (a 0), .int x1] : List Value).toArray below meth c H locs 0 0 (MQ below (q_X7_count dC dI cy a v x1 Q A) ([.ref (a 0), .int x1] : List Value).toArray s 0 0 A) (F0 m 16 ls [.int k16_0, .ref (a 0)]) := by
    intro k16_0 H locs ls hq hP hD hS hl
    unfold wp_X7_count_16 at hq
    have hFc := xfree_same hS hAe0 (ws := (wX7 cy a v)) hD
    refine va_calli (va_runV (As := [.int k16_0]) (rest := []) ⟨hx, hb, hml, hown, hts⟩ (c_X7_holds l dC dI cy a _ v k16_0 _ hq) (cwV 1 hts gX7_count_X7_holds rfl rfl rfl (by decide +kernel) ⟨Nat.le_of_ble_eq_true rfl, Nat.le_of_ble_eq_true rfl⟩) ⟨xPre_blind, va_recv hK hP (ci := 7) (q0 := 0) rfl rfl, xPre_of hP hK hD⟩ rfl rfl hl.1 rfl (lv_room (Nat.le_of_ble_eq_true rfl)) dX7_count_16 ⟨Nat.le_of_ble_eq_true rfl, Nat.le_of_ble_eq_true rfl⟩) hS (fun q _ h => hFc q h) hFc (fun r16 z16_v_thrown t H locs ht hvm hq hB hz1 hk1 hS => ?_)
    obtain ⟨hP1, -, hD1⟩ := hB
    rw [ht] at hP1
    have hP : va_P (dC, dI) vwCl (cX7 cy a (X7_s v) (X7_aside v) (X7_kept v) (X7_isKept v) (X7_saved v) (X7_savedMany v) (X7_text v) (X7_length v) z16_v_thrown (X7_joint v) (X7_position v) (X7_isWrong v) (X7_isHollow v) (X7_sure v) (X7_away v) (X7_digested v)) H := hP1
    have hD : va_D A (cX7 cy a (X7_s v) (X7_aside v) (X7_kept v) (X7_isKept v) (X7_saved v) (X7_savedMany v) (X7_text v) (X7_length v) z16_v_thrown (X7_joint v) (X7_position v) (X7_isWrong v) (X7_isHollow v) (X7_sure v) (X7_away v) (X7_digested v)) := hD1.weaken (fun _ q _ h => hFc q.1 h)
    obtain ⟨hqA, hqB⟩ := hq
    refine lv_if_eq (tgt := 30) hx hb dX7_count_19 (by decide) (fun c1 => ?_) (fun c1 => ?_)
    · have hq := hqA c1
      refine lv_iconst (v := 0) hx hb dX7_count_30 (by decide) ?_
      exact W.iret (v := 0) hx hb hr (fun t ht hW => ⟨⟨0, ((X7_away v), (X7_isHollow v), z16_v_thrown), rfl, hq, (xAt_of hP hK hD ht hW)⟩, hS.F ht⟩) hS.2.2 dX7_count_31
    · have hq := hqB c1
      refine lv_aload_n hx hb dX7_count_22 rfl (lv_at hl 0 rfl) ?_
      refine lv_iload_n hx hb dX7_count_23 rfl (lv_at hl 1 rfl) ?_
      have hFc := xfree_same hS hAe0 (ws := (cX7 cy a (X7_s v) (X7_aside v) (X7_kept v) (X7_isKept v) (X7_saved v) (X7_savedMany v) (X7_text v) (X7_length v) z16_v_thrown (X7_joint v) (X7_position v) (X7_isWrong v) (X7_isHollow v) (X7_sure v) (X7_away v) (X7_digested v))) hD
      refine va_calli (va_runV (As := [.int x1]) (rest := []) ⟨hx, hb, hml, hown, hts⟩ (c_X7_counted l dC dI cy a _ (X7_s8 v z16_v_thrown) x1 _ hq) (cwV 1 hts gX7_count_X7_counted rfl rfl rfl (by decide +kernel) ⟨Nat.le_of_ble_eq_true rfl, Nat.le_of_ble_eq_true rfl⟩) ⟨xPre_blind, va_recv hK hP (ci := 7) (q0 := 0) rfl rfl, xPre_of hP hK hD⟩ rfl rfl hl.1 rfl (lv_room (Nat.le_of_ble_eq_true rfl)) dX7_count_24 ⟨Nat.le_of_ble_eq_true rfl, Nat.le_of_ble_eq_true rfl⟩) hS (fun q _ h => hFc q h) hFc (fun r24 u9 t H locs ht hvm hq hB hz1 hk1 hS => ?_)
      obtain ⟨z24_v_away, z24_v_isHollow⟩ := u9
      obtain ⟨hP1, -, hD1⟩ := hB
      rw [ht] at hP1
      have hP : va_P (dC, dI) vwCl (cX7 cy a (X7_s v) (X7_aside v) (X7_kept v) (X7_isKept v) (X7_saved v) (X7_savedMany v) (X7_text v) (X7_length v) z16_v_thrown (X7_joint v) (X7_position v) (X7_isWrong v) z24_v_isHollow (X7_sure v) z24_v_away (X7_digested v)) H := hP1
      have hD : va_D A (cX7 cy a (X7_s v) (X7_aside v) (X7_kept v) (X7_isKept v) (X7_saved v) (X7_savedMany v) (X7_text v) (X7_length v) z16_v_thrown (X7_joint v) (X7_position v) (X7_isWrong v) z24_v_isHollow (X7_sure v) z24_v_away (X7_digested v)) := hD1.weaken (fun _ q _ h => hFc q.1 h)
      refine lv_goto (tgt := 31) hx hb dX7_count_27 (by decide) ?_
      exact W.iret (v := r24) hx hb hr (fun t ht hW => ⟨⟨r24, (z24_v_away, z24_v_isHollow, z16_v_thrown), rfl, hq, (xAt_of hP hK hD ht hW)⟩, hS.F ht⟩) hS.2.2 dX7_count_31
  refine lv_aload_n hx hb dX7_count_0 rfl (lv_at hl 0 rfl) ?_
  refine lv_iload_n hx hb dX7_count_1 rfl (lv_at hl 1 rfl) ?_
  refine lv_iconst (v := 0) hx hb dX7_count_2 (by decide) ?_
  refine lv_bipush (v := 14) hx hb dX7_count_3 (by decide) ?_
  have hFc := xfree_none hS hAe0
  refine va_calli (va_runS (As := [.int x1, .int 0, .int 14]) (rest := [.ref (a 0)]) ⟨hx, hb, hml, hown, hts⟩ (c_X7_in l dC dI cy  _ x1 0 14 _ hq) (va_cwS 3 hts gX7_count_X7_in rfl rfl rfl (by decide +kernel) ⟨Nat.le_of_ble_eq_true rfl, Nat.le_of_ble_eq_true rfl⟩) ⟨xPre_blind, xPre_of xP_nil hK (xD_nil (A := A))⟩ rfl rfl hl.1 rfl (lv_room (Nat.le_of_ble_eq_true rfl)) dX7_count_5 ⟨Nat.le_of_ble_eq_true rfl, Nat.le_of_ble_eq_true rfl⟩) hS (fun q _ h => hFc q h) hFc (fun r5 u9 t H locs ht hvm hq hB hz1 hk1 hS => ?_)
  have hP := xj_none hP hk1
  obtain ⟨hqA, hqB⟩ := hq
  refine lv_if_eq (tgt := 15) hx hb dX7_count_8 (by decide) (fun c2 => ?_) (fun c2 => ?_)
  · have hq := hqA c2
    refine lv_iconst (v := 1) hx hb dX7_count_15 (by decide) ?_
    exact J16 1  _ _ _ hq hP hD hS (lv_sub hl [0, 1] rfl)
  · have hq := hqB c2
    refine lv_iconst (v := 0) hx hb dX7_count_11 (by decide) ?_
    refine lv_goto (tgt := 16) hx hb dX7_count_12 (by decide) ?_
    exact J16 0  _ _ _ hq hP hD hS (lv_sub hl [0, 1] rfl)
def wp_X7_fewestTo (v : V_X7) (x1 : Int32) (x2 : Int32) (Q : Int32 → (Nat → Int32) → Prop) : Prop :=
  wp_X7_layAway v x1 (fun z2_v_away =>
  wp_X7_hasMound (X7_s14 v z2_v_away) x2 (fun r7 =>
  ((r7 = 0 → Q (-1) z2_v_away) ∧
  (¬ r7 = 0 → vp_in x2 64 ∧ ((1000 ≤ (z2_v_away x2.toNatClampNeg) → Q (-1) z2_v_away) ∧
  (¬ 1000 ≤ (z2_v_away x2.toNatClampNeg) → Q (z2_v_away x2.toNatClampNeg) z2_v_away))))))
def q_X7_fewestTo (dC : Nat → ClassId) (dI : Nat → Nat → Nat) (cy : Nat → ClassId) (a : Nat → Nat) (v : V_X7) (x1 : Int32) (x2 : Int32) (Q : Int32 → (Nat → Int32) → Prop) (A : Nat → Prop) : Array Value → State → Outcome → State → Prop := va_Qi (fun (r : Int32) (u : (Nat → Int32)) => Q r u) (fun (u : (Nat → Int32)) t => xAt dC dI cy A (cX7 cy a (X7_s v) (X7_aside v) (X7_kept v) (X7_isKept v) (X7_saved v) (X7_savedMany v) (X7_text v) (X7_length v) (X7_thrown v) (X7_joint v) (X7_position v) (X7_isWrong v) (X7_isHollow v) (X7_sure v) u (X7_digested v)) t) A
set_option maxHeartbeats 4000000 in
set_option maxRecDepth 100000 in
theorem c_X7_fewestTo (l : Launch) (dC : Nat → ClassId) (dI : Nat → Nat → Nat) (cy : Nat → ClassId) (a : Nat → Nat) (sz : Nat) (v : V_X7) (x1 : Int32) (x2 : Int32) (Q : Int32 → (Nat → Int32) → Prop) (hq : wp_X7_fewestTo v x1 x2 Q) : Met l yX7_fewestTo wsX7_fewestTo ({ frames := 2, cells := 0, slots := 0, locals := 48 } : Room) (va_Pc [.ref (a 0), .int x1, .int x2] (xPre dC dI cy (wX7 cy a v) sz)) (q_X7_fewestTo dC dI cy a v x1 x2 Q (va_A (wX7 cy a v) sz)) 0 0 (va_A (wX7 cy a v) sz) := by
  refine Met.ofW (cc := cX7_fewestTo) (maxL := 3) (ret := (some .int)) (by decide) rfl ?_
  intro p e s m args below meth c s₁ B hml hv
  obtain ⟨rfl, hsz, hP, hK, hD0⟩ := hv
  have hx := B.exec
  have hb := B.bytes
  have hr := B.returns
  have hts := atoms_spec (ws := wsX7_fewestTo) B.pre
  have hown : s.vm.findClass RX7 = some m.cls := findClass_of_methodNamed B.named
  have hlocks := B.notSynchronized
  subst hsz
  have hD := hD0.self (sz := s.heap.size)
  generalize hAe : va_A (wX7 cy a v) s.heap.size = A at hD ⊢
  have hAe0 : ∀ q : Nat, s.heap.size ≤ q → A q := fun q h => by rw [← hAe]; exact Or.inr h
  have hS : va_S A s.heap s.heap [] := va_S.rf
  have hl := lv_entry ([.ref (a 0), .int x1, .int x2]) (n := 3) (Nat.le_of_ble_eq_true rfl)
  rw [lg_entry_eq]
  generalize (lg_sl ([.ref (a 0), .int x1, .int x2]) ++ List.replicate (3 - (lg_sl ([.ref (a 0), .int x1, .int x2])).length) Slot.unset).toArray = ls at hl ⊢
  have hl : lv_has ls 3 [(0, .ref (a 0)), (1, .int x1), (2, .int x2)] := hl
  have lk0 := hts (Cond.fieldLink RX7 35 "MolesLawnModel" "away" "[I") (List.mem_cons_of_mem _ (List.mem_append_left _ (List.mem_of_getElem? (i := 0) rfl)))
  have iK7 : ∀ w ∈ wsX70, w ∈ wsX7_fewestTo := fun _ h => (List.mem_cons_of_mem _ (List.mem_append_right _ h))
  unfold wp_X7_fewestTo at hq
  refine lv_aload_n hx hb dX7_fewestTo_0 rfl (lv_at hl 0 rfl) ?_
  refine lv_iload_n hx hb dX7_fewestTo_1 rfl (lv_at hl 1 rfl) ?_
  have hFc := xfree_same hS hAe0 (ws := (wX7 cy a v)) hD
  refine va_callv (va_runV (As := [.int x1]) (rest := []) ⟨hx, hb, hml, hown, hts⟩ (c_X7_layAway l dC dI cy a _ v x1 _ hq) (cwV 1 hts gX7_fewestTo_X7_layAway rfl rfl rfl (by decide +kernel) ⟨Nat.le_of_ble_eq_true rfl, Nat.le_of_ble_eq_true rfl⟩) ⟨xPre_blind, va_recv hK hP (ci := 7) (q0 := 0) rfl rfl, xPre_of hP hK hD⟩ rfl rfl hl.1 rfl (lv_room (Nat.le_of_ble_eq_true rfl)) dX7_fewestTo_2 ⟨Nat.le_of_ble_eq_true rfl, Nat.le_of_ble_eq_true rfl⟩) hS (fun q _ h => hFc q h) hFc (fun z2_v_away t H locs ht hvm hq hB hz1 hk1 hS => ?_)
  obtain ⟨hP1, -, hD1⟩ := hB
  rw [ht] at hP1
  have hP : va_P (dC, dI) vwCl (cX7 cy a (X7_s v) (X7_aside v) (X7_kept v) (X7_isKept v) (X7_saved v) (X7_savedMany v) (X7_text v) (X7_length v) (X7_thrown v) (X7_joint v) (X7_position v) (X7_isWrong v) (X7_isHollow v) (X7_sure v) z2_v_away (X7_digested v)) H := hP1
  have hD : va_D A (cX7 cy a (X7_s v) (X7_aside v) (X7_kept v) (X7_isKept v) (X7_saved v) (X7_savedMany v) (X7_text v) (X7_length v) (X7_thrown v) (X7_joint v) (X7_position v) (X7_isWrong v) (X7_isHollow v) (X7_sure v) z2_v_away (X7_digested v)) := hD1.weaken (fun _ q _ h => hFc q.1 h)
  refine lv_aload_n hx hb dX7_fewestTo_5 rfl (lv_at hl 0 rfl) ?_
  refine lv_iload_n hx hb dX7_fewestTo_6 rfl (lv_at hl 2 rfl) ?_
  have hFc := xfree_same hS hAe0 (ws := (cX7 cy a (X7_s v) (X7_aside v) (X7_kept v) (X7_isKept v) (X7_saved v) (X7_savedMany v) (X7_text v) (X7_length v) (X7_thrown v) (X7_joint v) (X7_position v) (X7_isWrong v) (X7_isHollow v) (X7_sure v) z2_v_away (X7_digested v))) hD
  refine va_calli (va_runV (As := [.int x2]) (rest := []) ⟨hx, hb, hml, hown, hts⟩ (c_X7_hasMound l dC dI cy a _ (X7_s14 v z2_v_away) x2 _ hq) (cwV 1 hts gX7_fewestTo_X7_hasMound rfl rfl rfl (by decide +kernel) ⟨Nat.le_of_ble_eq_true rfl, Nat.le_of_ble_eq_true rfl⟩) ⟨xPre_blind, va_recv hK hP (ci := 7) (q0 := 0) rfl rfl, xPre_of hP hK hD⟩ rfl rfl hl.1 rfl (lv_room (Nat.le_of_ble_eq_true rfl)) dX7_fewestTo_7 ⟨Nat.le_of_ble_eq_true rfl, Nat.le_of_ble_eq_true rfl⟩) hS (fun q _ h => hFc q h) hFc (fun r7 u9 t H locs ht hvm hq hB hz1 hk1 hS => ?_)
  obtain ⟨hP1, -, hD1⟩ := hB
  rw [ht] at hP1
  have hP : va_P (dC, dI) vwCl (cX7 cy a (X7_s v) (X7_aside v) (X7_kept v) (X7_isKept v) (X7_saved v) (X7_savedMany v) (X7_text v) (X7_length v) (X7_thrown v) (X7_joint v) (X7_position v) (X7_isWrong v) (X7_isHollow v) (X7_sure v) z2_v_away (X7_digested v)) H := hP1
  have hD : va_D A (cX7 cy a (X7_s v) (X7_aside v) (X7_kept v) (X7_isKept v) (X7_saved v) (X7_savedMany v) (X7_text v) (X7_length v) (X7_thrown v) (X7_joint v) (X7_position v) (X7_isWrong v) (X7_isHollow v) (X7_sure v) z2_v_away (X7_digested v)) := hD1.weaken (fun _ q _ h => hFc q.1 h)
  obtain ⟨hqA, hqB⟩ := hq
  refine lv_if_eq (tgt := 34) hx hb dX7_fewestTo_10 (by decide) (fun c3 => ?_) (fun c3 => ?_)
  · have hq := hqA c3
    refine lv_iconst (v := (-1)) hx hb dX7_fewestTo_34 (by decide) ?_
    exact W.iret (v := (-1)) hx hb hr (fun t ht hW => ⟨⟨(-1), z2_v_away, rfl, hq, (xAt_of hP hK hD ht hW)⟩, hS.F ht⟩) hS.2.2 dX7_fewestTo_35
  · have hq := hqB c3
    refine lv_aload_n hx hb dX7_fewestTo_13 rfl (lv_at hl 0 rfl) ?_
    refine va_get (D := (dC, dI)) (ci := 7) (v := .ref (a 9)) (C := RX7) (T := TX7) (N := 16) hx hb hts iK7 hown hK hP 0 rfl rfl 14 (by decide) lk0 (fun _ h9 => h9) rfl dX7_fewestTo_14 ?_
    refine lv_iload_n hx hb dX7_fewestTo_17 rfl (lv_at hl 2 rfl) ?_
    obtain ⟨g1, hq⟩ := hq
    refine va_iald hx hb hK hP 9 0 rfl rfl g1 dX7_fewestTo_18 ?_
    refine lv_sipush (v := 1000) hx hb dX7_fewestTo_19 (by decide) ?_
    obtain ⟨hqA, hqB⟩ := hq
    refine lv_icmp_ge (tgt := 34) hx hb dX7_fewestTo_22 (by decide) (fun c2 => ?_) (fun c2 => ?_)
    · have hq := hqA c2
      refine lv_iconst (v := (-1)) hx hb dX7_fewestTo_34 (by decide) ?_
      exact W.iret (v := (-1)) hx hb hr (fun t ht hW => ⟨⟨(-1), z2_v_away, rfl, hq, (xAt_of hP hK hD ht hW)⟩, hS.F ht⟩) hS.2.2 dX7_fewestTo_35
    · have hq := hqB c2
      refine lv_aload_n hx hb dX7_fewestTo_25 rfl (lv_at hl 0 rfl) ?_
      refine va_get (D := (dC, dI)) (ci := 7) (v := .ref (a 9)) (C := RX7) (T := TX7) (N := 16) hx hb hts iK7 hown hK hP 0 rfl rfl 14 (by decide) lk0 (fun _ h9 => h9) rfl dX7_fewestTo_26 ?_
      refine lv_iload_n hx hb dX7_fewestTo_29 rfl (lv_at hl 2 rfl) ?_
      refine va_iald hx hb hK hP 9 0 rfl rfl g1 dX7_fewestTo_30 ?_
      refine lv_goto (tgt := 35) hx hb dX7_fewestTo_31 (by decide) ?_
      exact W.iret (v := (z2_v_away x2.toNatClampNeg)) hx hb hr (fun t ht hW => ⟨⟨(z2_v_away x2.toNatClampNeg), z2_v_away, rfl, hq, (xAt_of hP hK hD ht hW)⟩, hS.F ht⟩) hS.2.2 dX7_fewestTo_35
def wp_X7_joined_20 (v : V_X7) (x1 : Int32) (x2 : Int32) (k20_0 : Int32) (Q : Int32 → (Nat → Int32) → Int32 → Prop) : Prop :=
  wp_X7_holds v k20_0 (fun r20 z20_v_thrown =>
  ((r20 = 0 → Q 0 (X7_away v) z20_v_thrown) ∧
  (¬ r20 = 0 → wp_X7_fewestTo (X7_s8 v z20_v_thrown) x1 x2 (fun r29 z29_v_away =>
  ((r29 = (-1) → Q 0 z29_v_away z20_v_thrown) ∧
  (¬ r29 = (-1) → Q 1 z29_v_away z20_v_thrown))))))
def wp_X7_joined_19 (v : V_X7) (x1 : Int32) (x2 : Int32)  (Q : Int32 → (Nat → Int32) → Int32 → Prop) : Prop :=
  wp_X7_joined_20 v x1 x2 1  Q
def wp_X7_joined (v : V_X7) (x1 : Int32) (x2 : Int32) (Q : Int32 → (Nat → Int32) → Int32 → Prop) : Prop :=
  wp_X7_isTuft x1 (fun r2 =>
  ((r2 = 0 → wp_X7_joined_19 v x1 x2   Q) ∧
  (¬ r2 = 0 → wp_X7_isTuft x2 (fun r9 =>
  ((r9 = 0 → wp_X7_joined_19 v x1 x2   Q) ∧
  (¬ r9 = 0 → wp_X7_joined_20 v x1 x2 0  Q))))))
def q_X7_joined (dC : Nat → ClassId) (dI : Nat → Nat → Nat) (cy : Nat → ClassId) (a : Nat → Nat) (v : V_X7) (x1 : Int32) (x2 : Int32) (Q : Int32 → (Nat → Int32) → Int32 → Prop) (A : Nat → Prop) : Array Value → State → Outcome → State → Prop := va_Qi (fun (r : Int32) (u : (Nat → Int32) × Int32) => Q r u.1 u.2) (fun (u : (Nat → Int32) × Int32) t => xAt dC dI cy A (cX7 cy a (X7_s v) (X7_aside v) (X7_kept v) (X7_isKept v) (X7_saved v) (X7_savedMany v) (X7_text v) (X7_length v) u.2 (X7_joint v) (X7_position v) (X7_isWrong v) (X7_isHollow v) (X7_sure v) u.1 (X7_digested v)) t) A
set_option maxHeartbeats 4000000 in
set_option maxRecDepth 100000 in
theorem c_X7_joined (l : Launch) (dC : Nat → ClassId) (dI : Nat → Nat → Nat) (cy : Nat → ClassId) (a : Nat → Nat) (sz : Nat) (v : V_X7) (x1 : Int32) (x2 : Int32) (Q : Int32 → (Nat → Int32) → Int32 → Prop) (hq : wp_X7_joined v x1 x2 Q) : Met l yX7_joined wsX7_joined ({ frames := 3, cells := 0, slots := 0, locals := 70 } : Room) (va_Pc [.ref (a 0), .int x1, .int x2] (xPre dC dI cy (wX7 cy a v) sz)) (q_X7_joined dC dI cy a v x1 x2 Q (va_A (wX7 cy a v) sz)) 0 0 (va_A (wX7 cy a v) sz) := by
  refine Met.ofW (cc := cX7_joined) (maxL := 3) (ret := (some .int)) (by decide) rfl ?_
  intro p e s m args below meth c s₁ B hml hv
  obtain ⟨rfl, hsz, hP, hK, hD0⟩ := hv
  have hx := B.exec
  have hb := B.bytes
  have hr := B.returns
  have hts := atoms_spec (ws := wsX7_joined) B.pre
  have hown : s.vm.findClass RX7 = some m.cls := findClass_of_methodNamed B.named
  have hlocks := B.notSynchronized
  subst hsz
  have hD := hD0.self (sz := s.heap.size)
  generalize hAe : va_A (wX7 cy a v) s.heap.size = A at hD ⊢
  have hAe0 : ∀ q : Nat, s.heap.size ≤ q → A q := fun q h => by rw [← hAe]; exact Or.inr h
  have hS : va_S A s.heap s.heap [] := va_S.rf
  have hl := lv_entry ([.ref (a 0), .int x1, .int x2]) (n := 3) (Nat.le_of_ble_eq_true rfl)
  rw [lg_entry_eq]
  generalize (lg_sl ([.ref (a 0), .int x1, .int x2]) ++ List.replicate (3 - (lg_sl ([.ref (a 0), .int x1, .int x2])).length) Slot.unset).toArray = ls at hl ⊢
  have hl : lv_has ls 3 [(0, .ref (a 0)), (1, .int x1), (2, .int x2)] := hl
  unfold wp_X7_joined at hq
  have J20 : ∀ (k20_0 : Int32) (H : Heap) (locs : List Loc) (ls : Array Slot), wp_X7_joined_20 v x1 x2 k20_0 Q → va_P (dC, dI) vwCl (wX7 cy a v) H → va_D A (wX7 cy a v) → va_S A s.heap H locs → lv_has ls 3 [(0, .ref (a 0)), (1, .int x1), (2, .int x2)] → W p l e (headSpec wsX7_joined ({ frames := 3, cells := 0, slots := 0, locals := 70 } : Room)).room s m ([.ref (a 0), .int x1, .int x2] : List Value).toArray below meth c H locs 0 0 (MQ below (q_X7_joined dC dI cy a v x1 x2 Q A) ([.ref (a 0), .int x1, .int x2] : List Value).toArray s 0 0 A) (F0 m 20 ls [.int k20_0, .ref (a 0)]) := by
    intro k20_0 H locs ls hq hP hD hS hl
    unfold wp_X7_joined_20 at hq
    have hFc := xfree_same hS hAe0 (ws := (wX7 cy a v)) hD
    refine va_calli (va_runV (As := [.int k20_0]) (rest := []) ⟨hx, hb, hml, hown, hts⟩ (c_X7_holds l dC dI cy a _ v k20_0 _ hq) (cwV 1 hts gX7_joined_X7_holds rfl rfl rfl (by decide +kernel) ⟨Nat.le_of_ble_eq_true rfl, Nat.le_of_ble_eq_true rfl⟩) ⟨xPre_blind, va_recv hK hP (ci := 7) (q0 := 0) rfl rfl, xPre_of hP hK hD⟩ rfl rfl hl.1 rfl (lv_room (Nat.le_of_ble_eq_true rfl)) dX7_joined_20 ⟨Nat.le_of_ble_eq_true rfl, Nat.le_of_ble_eq_true rfl⟩) hS (fun q _ h => hFc q h) hFc (fun r20 z20_v_thrown t H locs ht hvm hq hB hz1 hk1 hS => ?_)
    obtain ⟨hP1, -, hD1⟩ := hB
    rw [ht] at hP1
    have hP : va_P (dC, dI) vwCl (cX7 cy a (X7_s v) (X7_aside v) (X7_kept v) (X7_isKept v) (X7_saved v) (X7_savedMany v) (X7_text v) (X7_length v) z20_v_thrown (X7_joint v) (X7_position v) (X7_isWrong v) (X7_isHollow v) (X7_sure v) (X7_away v) (X7_digested v)) H := hP1
    have hD : va_D A (cX7 cy a (X7_s v) (X7_aside v) (X7_kept v) (X7_isKept v) (X7_saved v) (X7_savedMany v) (X7_text v) (X7_length v) z20_v_thrown (X7_joint v) (X7_position v) (X7_isWrong v) (X7_isHollow v) (X7_sure v) (X7_away v) (X7_digested v)) := hD1.weaken (fun _ q _ h => hFc q.1 h)
    obtain ⟨hqA, hqB⟩ := hq
    refine lv_if_eq (tgt := 40) hx hb dX7_joined_23 (by decide) (fun c2 => ?_) (fun c2 => ?_)
    · have hq := hqA c2
      refine lv_iconst (v := 0) hx hb dX7_joined_40 (by decide) ?_
      exact W.iret (v := 0) hx hb hr (fun t ht hW => ⟨⟨0, ((X7_away v), z20_v_thrown), rfl, hq, (xAt_of hP hK hD ht hW)⟩, hS.F ht⟩) hS.2.2 dX7_joined_41
    · have hq := hqB c2
      refine lv_aload_n hx hb dX7_joined_26 rfl (lv_at hl 0 rfl) ?_
      refine lv_iload_n hx hb dX7_joined_27 rfl (lv_at hl 1 rfl) ?_
      refine lv_iload_n hx hb dX7_joined_28 rfl (lv_at hl 2 rfl) ?_
      have hFc := xfree_same hS hAe0 (ws := (cX7 cy a (X7_s v) (X7_aside v) (X7_kept v) (X7_isKept v) (X7_saved v) (X7_savedMany v) (X7_text v) (X7_length v) z20_v_thrown (X7_joint v) (X7_position v) (X7_isWrong v) (X7_isHollow v) (X7_sure v) (X7_away v) (X7_digested v))) hD
      refine va_calli (va_runV (As := [.int x1, .int x2]) (rest := []) ⟨hx, hb, hml, hown, hts⟩ (c_X7_fewestTo l dC dI cy a _ (X7_s8 v z20_v_thrown) x1 x2 _ hq) (cwV 2 hts gX7_joined_X7_fewestTo rfl rfl rfl (by decide +kernel) ⟨Nat.le_of_ble_eq_true rfl, Nat.le_of_ble_eq_true rfl⟩) ⟨xPre_blind, va_recv hK hP (ci := 7) (q0 := 0) rfl rfl, xPre_of hP hK hD⟩ rfl rfl hl.1 rfl (lv_room (Nat.le_of_ble_eq_true rfl)) dX7_joined_29 ⟨Nat.le_of_ble_eq_true rfl, Nat.le_of_ble_eq_true rfl⟩) hS (fun q _ h => hFc q h) hFc (fun r29 z29_v_away t H locs ht hvm hq hB hz1 hk1 hS => ?_)
      obtain ⟨hP1, -, hD1⟩ := hB
      rw [ht] at hP1
      have hP : va_P (dC, dI) vwCl (cX7 cy a (X7_s v) (X7_aside v) (X7_kept v) (X7_isKept v) (X7_saved v) (X7_savedMany v) (X7_text v) (X7_length v) z20_v_thrown (X7_joint v) (X7_position v) (X7_isWrong v) (X7_isHollow v) (X7_sure v) z29_v_away (X7_digested v)) H := hP1
      have hD : va_D A (cX7 cy a (X7_s v) (X7_aside v) (X7_kept v) (X7_isKept v) (X7_saved v) (X7_savedMany v) (X7_text v) (X7_length v) z20_v_thrown (X7_joint v) (X7_position v) (X7_isWrong v) (X7_isHollow v) (X7_sure v) z29_v_away (X7_digested v)) := hD1.weaken (fun _ q _ h => hFc q.1 h)
      refine lv_iconst (v := (-1)) hx hb dX7_joined_32 (by decide) ?_
      obtain ⟨hqA, hqB⟩ := hq
      refine lv_icmp_eq (tgt := 40) hx hb dX7_joined_33 (by decide) (fun c1 => ?_) (fun c1 => ?_)
      · have hq := hqA c1
        refine lv_iconst (v := 0) hx hb dX7_joined_40 (by decide) ?_
        exact W.iret (v := 0) hx hb hr (fun t ht hW => ⟨⟨0, (z29_v_away, z20_v_thrown), rfl, hq, (xAt_of hP hK hD ht hW)⟩, hS.F ht⟩) hS.2.2 dX7_joined_41
      · have hq := hqB c1
        refine lv_iconst (v := 1) hx hb dX7_joined_36 (by decide) ?_
        refine lv_goto (tgt := 41) hx hb dX7_joined_37 (by decide) ?_
        exact W.iret (v := 1) hx hb hr (fun t ht hW => ⟨⟨1, (z29_v_away, z20_v_thrown), rfl, hq, (xAt_of hP hK hD ht hW)⟩, hS.F ht⟩) hS.2.2 dX7_joined_41
  have J19 : ∀  (H : Heap) (locs : List Loc) (ls : Array Slot), wp_X7_joined_19 v x1 x2  Q → va_P (dC, dI) vwCl (wX7 cy a v) H → va_D A (wX7 cy a v) → va_S A s.heap H locs → lv_has ls 3 [(0, .ref (a 0)), (1, .int x1), (2, .int x2)] → W p l e (headSpec wsX7_joined ({ frames := 3, cells := 0, slots := 0, locals := 70 } : Room)).room s m ([.ref (a 0), .int x1, .int x2] : List Value).toArray below meth c H locs 0 0 (MQ below (q_X7_joined dC dI cy a v x1 x2 Q A) ([.ref (a 0), .int x1, .int x2] : List Value).toArray s 0 0 A) (F0 m 19 ls [.ref (a 0)]) := by
    intro  H locs ls hq hP hD hS hl
    unfold wp_X7_joined_19 at hq
    refine lv_iconst (v := 1) hx hb dX7_joined_19 (by decide) ?_
    exact J20 1  _ _ _ hq hP hD hS (lv_sub hl [0, 1, 2] rfl)
  refine lv_aload_n hx hb dX7_joined_0 rfl (lv_at hl 0 rfl) ?_
  refine lv_iload_n hx hb dX7_joined_1 rfl (lv_at hl 1 rfl) ?_
  have hFc := xfree_none hS hAe0
  refine va_calli (va_runS (As := [.int x1]) (rest := [.ref (a 0)]) ⟨hx, hb, hml, hown, hts⟩ (c_X7_isTuft l dC dI cy  _ x1 _ hq) (va_cwS 1 hts gX7_joined_X7_isTuft rfl rfl rfl (by decide +kernel) ⟨Nat.le_of_ble_eq_true rfl, Nat.le_of_ble_eq_true rfl⟩) ⟨xPre_blind, xPre_of xP_nil hK (xD_nil (A := A))⟩ rfl rfl hl.1 rfl (lv_room (Nat.le_of_ble_eq_true rfl)) dX7_joined_2 ⟨Nat.le_of_ble_eq_true rfl, Nat.le_of_ble_eq_true rfl⟩) hS (fun q _ h => hFc q h) hFc (fun r2 u9 t H locs ht hvm hq hB hz1 hk1 hS => ?_)
  have hP := xj_none hP hk1
  obtain ⟨hqA, hqB⟩ := hq
  refine lv_if_eq (tgt := 19) hx hb dX7_joined_5 (by decide) (fun c4 => ?_) (fun c4 => ?_)
  · have hq := hqA c4
    exact J19   _ _ _ hq hP hD hS (lv_sub hl [0, 1, 2] rfl)
  · have hq := hqB c4
    refine lv_iload_n hx hb dX7_joined_8 rfl (lv_at hl 2 rfl) ?_
    have hFc := xfree_none hS hAe0
    refine va_calli (va_runS (As := [.int x2]) (rest := [.ref (a 0)]) ⟨hx, hb, hml, hown, hts⟩ (c_X7_isTuft l dC dI cy  _ x2 _ hq) (va_cwS 1 hts gX7_joined_X7_isTuft rfl rfl rfl (by decide +kernel) ⟨Nat.le_of_ble_eq_true rfl, Nat.le_of_ble_eq_true rfl⟩) ⟨xPre_blind, xPre_of xP_nil hK (xD_nil (A := A))⟩ rfl rfl hl.1 rfl (lv_room (Nat.le_of_ble_eq_true rfl)) dX7_joined_9 ⟨Nat.le_of_ble_eq_true rfl, Nat.le_of_ble_eq_true rfl⟩) hS (fun q _ h => hFc q h) hFc (fun r9 u9 t H locs ht hvm hq hB hz1 hk1 hS => ?_)
    have hP := xj_none hP hk1
    obtain ⟨hqA, hqB⟩ := hq
    refine lv_if_eq (tgt := 19) hx hb dX7_joined_12 (by decide) (fun c3 => ?_) (fun c3 => ?_)
    · have hq := hqA c3
      exact J19   _ _ _ hq hP hD hS (lv_sub hl [0, 1, 2] rfl)
    · have hq := hqB c3
      refine lv_iconst (v := 0) hx hb dX7_joined_15 (by decide) ?_
      refine lv_goto (tgt := 20) hx hb dX7_joined_16 (by decide) ?_
      exact J20 0  _ _ _ hq hP hD hS (lv_sub hl [0, 1, 2] rfl)
def wp_X7_fewest_20 (v : V_X7) (x1 : Int32) (x2 : Int32) (k20_0 : Int32) (Q : Int32 → (Nat → Int32) → Int32 → Prop) : Prop :=
  wp_X7_holds v k20_0 (fun r20 z20_v_thrown =>
  ((r20 = 0 → Q 0 (X7_away v) z20_v_thrown) ∧
  (¬ r20 = 0 → wp_X7_fewestTo (X7_s8 v z20_v_thrown) x1 x2 (fun r29 z29_v_away =>
  Q r29 z29_v_away z20_v_thrown))))
def wp_X7_fewest_19 (v : V_X7) (x1 : Int32) (x2 : Int32)  (Q : Int32 → (Nat → Int32) → Int32 → Prop) : Prop :=
  wp_X7_fewest_20 v x1 x2 1  Q
def wp_X7_fewest (v : V_X7) (x1 : Int32) (x2 : Int32) (Q : Int32 → (Nat → Int32) → Int32 → Prop) : Prop :=
  wp_X7_isTuft x1 (fun r2 =>
  ((r2 = 0 → wp_X7_fewest_19 v x1 x2   Q) ∧
  (¬ r2 = 0 → wp_X7_isTuft x2 (fun r9 =>
  ((r9 = 0 → wp_X7_fewest_19 v x1 x2   Q) ∧
  (¬ r9 = 0 → wp_X7_fewest_20 v x1 x2 0  Q))))))
def q_X7_fewest (dC : Nat → ClassId) (dI : Nat → Nat → Nat) (cy : Nat → ClassId) (a : Nat → Nat) (v : V_X7) (x1 : Int32) (x2 : Int32) (Q : Int32 → (Nat → Int32) → Int32 → Prop) (A : Nat → Prop) : Array Value → State → Outcome → State → Prop := va_Qi (fun (r : Int32) (u : (Nat → Int32) × Int32) => Q r u.1 u.2) (fun (u : (Nat → Int32) × Int32) t => xAt dC dI cy A (cX7 cy a (X7_s v) (X7_aside v) (X7_kept v) (X7_isKept v) (X7_saved v) (X7_savedMany v) (X7_text v) (X7_length v) u.2 (X7_joint v) (X7_position v) (X7_isWrong v) (X7_isHollow v) (X7_sure v) u.1 (X7_digested v)) t) A
set_option maxHeartbeats 4000000 in
set_option maxRecDepth 100000 in
theorem c_X7_fewest (l : Launch) (dC : Nat → ClassId) (dI : Nat → Nat → Nat) (cy : Nat → ClassId) (a : Nat → Nat) (sz : Nat) (v : V_X7) (x1 : Int32) (x2 : Int32) (Q : Int32 → (Nat → Int32) → Int32 → Prop) (hq : wp_X7_fewest v x1 x2 Q) : Met l yX7_fewest wsX7_fewest ({ frames := 3, cells := 0, slots := 0, locals := 70 } : Room) (va_Pc [.ref (a 0), .int x1, .int x2] (xPre dC dI cy (wX7 cy a v) sz)) (q_X7_fewest dC dI cy a v x1 x2 Q (va_A (wX7 cy a v) sz)) 0 0 (va_A (wX7 cy a v) sz) := by
  refine Met.ofW (cc := cX7_fewest) (maxL := 3) (ret := (some .int)) (by decide) rfl ?_
  intro p e s m args below meth c s₁ B hml hv
  obtain ⟨rfl, hsz, hP, hK, hD0⟩ := hv
  have hx := B.exec
  have hb := B.bytes
  have hr := B.returns
  have hts := atoms_spec (ws := wsX7_fewest) B.pre
  have hown : s.vm.findClass RX7 = some m.cls := findClass_of_methodNamed B.named
  have hlocks := B.notSynchronized
  subst hsz
  have hD := hD0.self (sz := s.heap.size)
  generalize hAe : va_A (wX7 cy a v) s.heap.size = A at hD ⊢
  have hAe0 : ∀ q : Nat, s.heap.size ≤ q → A q := fun q h => by rw [← hAe]; exact Or.inr h
  have hS : va_S A s.heap s.heap [] := va_S.rf
  have hl := lv_entry ([.ref (a 0), .int x1, .int x2]) (n := 3) (Nat.le_of_ble_eq_true rfl)
  rw [lg_entry_eq]
  generalize (lg_sl ([.ref (a 0), .int x1, .int x2]) ++ List.replicate (3 - (lg_sl ([.ref (a 0), .int x1, .int x2])).length) Slot.unset).toArray = ls at hl ⊢
  have hl : lv_has ls 3 [(0, .ref (a 0)), (1, .int x1), (2, .int x2)] := hl
  unfold wp_X7_fewest at hq
  have J20 : ∀ (k20_0 : Int32) (H : Heap) (locs : List Loc) (ls : Array Slot), wp_X7_fewest_20 v x1 x2 k20_0 Q → va_P (dC, dI) vwCl (wX7 cy a v) H → va_D A (wX7 cy a v) → va_S A s.heap H locs → lv_has ls 3 [(0, .ref (a 0)), (1, .int x1), (2, .int x2)] → W p l e (headSpec wsX7_fewest ({ frames := 3, cells := 0, slots := 0, locals := 70 } : Room)).room s m ([.ref (a 0), .int x1, .int x2] : List Value).toArray below meth c H locs 0 0 (MQ below (q_X7_fewest dC dI cy a v x1 x2 Q A) ([.ref (a 0), .int x1, .int x2] : List Value).toArray s 0 0 A) (F0 m 20 ls [.int k20_0, .ref (a 0)]) := by
    intro k20_0 H locs ls hq hP hD hS hl
    unfold wp_X7_fewest_20 at hq
    have hFc := xfree_same hS hAe0 (ws := (wX7 cy a v)) hD
    refine va_calli (va_runV (As := [.int k20_0]) (rest := []) ⟨hx, hb, hml, hown, hts⟩ (c_X7_holds l dC dI cy a _ v k20_0 _ hq) (cwV 1 hts gX7_fewest_X7_holds rfl rfl rfl (by decide +kernel) ⟨Nat.le_of_ble_eq_true rfl, Nat.le_of_ble_eq_true rfl⟩) ⟨xPre_blind, va_recv hK hP (ci := 7) (q0 := 0) rfl rfl, xPre_of hP hK hD⟩ rfl rfl hl.1 rfl (lv_room (Nat.le_of_ble_eq_true rfl)) dX7_fewest_20 ⟨Nat.le_of_ble_eq_true rfl, Nat.le_of_ble_eq_true rfl⟩) hS (fun q _ h => hFc q h) hFc (fun r20 z20_v_thrown t H locs ht hvm hq hB hz1 hk1 hS => ?_)
    obtain ⟨hP1, -, hD1⟩ := hB
    rw [ht] at hP1
    have hP : va_P (dC, dI) vwCl (cX7 cy a (X7_s v) (X7_aside v) (X7_kept v) (X7_isKept v) (X7_saved v) (X7_savedMany v) (X7_text v) (X7_length v) z20_v_thrown (X7_joint v) (X7_position v) (X7_isWrong v) (X7_isHollow v) (X7_sure v) (X7_away v) (X7_digested v)) H := hP1
    have hD : va_D A (cX7 cy a (X7_s v) (X7_aside v) (X7_kept v) (X7_isKept v) (X7_saved v) (X7_savedMany v) (X7_text v) (X7_length v) z20_v_thrown (X7_joint v) (X7_position v) (X7_isWrong v) (X7_isHollow v) (X7_sure v) (X7_away v) (X7_digested v)) := hD1.weaken (fun _ q _ h => hFc q.1 h)
    obtain ⟨hqA, hqB⟩ := hq
    refine lv_if_eq (tgt := 35) hx hb dX7_fewest_23 (by decide) (fun c1 => ?_) (fun c1 => ?_)
    · have hq := hqA c1
      refine lv_iconst (v := 0) hx hb dX7_fewest_35 (by decide) ?_
      exact W.iret (v := 0) hx hb hr (fun t ht hW => ⟨⟨0, ((X7_away v), z20_v_thrown), rfl, hq, (xAt_of hP hK hD ht hW)⟩, hS.F ht⟩) hS.2.2 dX7_fewest_36
    · have hq := hqB c1
      refine lv_aload_n hx hb dX7_fewest_26 rfl (lv_at hl 0 rfl) ?_
      refine lv_iload_n hx hb dX7_fewest_27 rfl (lv_at hl 1 rfl) ?_
      refine lv_iload_n hx hb dX7_fewest_28 rfl (lv_at hl 2 rfl) ?_
      have hFc := xfree_same hS hAe0 (ws := (cX7 cy a (X7_s v) (X7_aside v) (X7_kept v) (X7_isKept v) (X7_saved v) (X7_savedMany v) (X7_text v) (X7_length v) z20_v_thrown (X7_joint v) (X7_position v) (X7_isWrong v) (X7_isHollow v) (X7_sure v) (X7_away v) (X7_digested v))) hD
      refine va_calli (va_runV (As := [.int x1, .int x2]) (rest := []) ⟨hx, hb, hml, hown, hts⟩ (c_X7_fewestTo l dC dI cy a _ (X7_s8 v z20_v_thrown) x1 x2 _ hq) (cwV 2 hts gX7_fewest_X7_fewestTo rfl rfl rfl (by decide +kernel) ⟨Nat.le_of_ble_eq_true rfl, Nat.le_of_ble_eq_true rfl⟩) ⟨xPre_blind, va_recv hK hP (ci := 7) (q0 := 0) rfl rfl, xPre_of hP hK hD⟩ rfl rfl hl.1 rfl (lv_room (Nat.le_of_ble_eq_true rfl)) dX7_fewest_29 ⟨Nat.le_of_ble_eq_true rfl, Nat.le_of_ble_eq_true rfl⟩) hS (fun q _ h => hFc q h) hFc (fun r29 z29_v_away t H locs ht hvm hq hB hz1 hk1 hS => ?_)
      obtain ⟨hP1, -, hD1⟩ := hB
      rw [ht] at hP1
      have hP : va_P (dC, dI) vwCl (cX7 cy a (X7_s v) (X7_aside v) (X7_kept v) (X7_isKept v) (X7_saved v) (X7_savedMany v) (X7_text v) (X7_length v) z20_v_thrown (X7_joint v) (X7_position v) (X7_isWrong v) (X7_isHollow v) (X7_sure v) z29_v_away (X7_digested v)) H := hP1
      have hD : va_D A (cX7 cy a (X7_s v) (X7_aside v) (X7_kept v) (X7_isKept v) (X7_saved v) (X7_savedMany v) (X7_text v) (X7_length v) z20_v_thrown (X7_joint v) (X7_position v) (X7_isWrong v) (X7_isHollow v) (X7_sure v) z29_v_away (X7_digested v)) := hD1.weaken (fun _ q _ h => hFc q.1 h)
      refine lv_goto (tgt := 36) hx hb dX7_fewest_32 (by decide) ?_
      exact W.iret (v := r29) hx hb hr (fun t ht hW => ⟨⟨r29, (z29_v_away, z20_v_thrown), rfl, hq, (xAt_of hP hK hD ht hW)⟩, hS.F ht⟩) hS.2.2 dX7_fewest_36
  have J19 : ∀  (H : Heap) (locs : List Loc) (ls : Array Slot), wp_X7_fewest_19 v x1 x2  Q → va_P (dC, dI) vwCl (wX7 cy a v) H → va_D A (wX7 cy a v) → va_S A s.heap H locs → lv_has ls 3 [(0, .ref (a 0)), (1, .int x1), (2, .int x2)] → W p l e (headSpec wsX7_fewest ({ frames := 3, cells := 0, slots := 0, locals := 70 } : Room)).room s m ([.ref (a 0), .int x1, .int x2] : List Value).toArray below meth c H locs 0 0 (MQ below (q_X7_fewest dC dI cy a v x1 x2 Q A) ([.ref (a 0), .int x1, .int x2] : List Value).toArray s 0 0 A) (F0 m 19 ls [.ref (a 0)]) := by
    intro  H locs ls hq hP hD hS hl
    unfold wp_X7_fewest_19 at hq
    refine lv_iconst (v := 1) hx hb dX7_fewest_19 (by decide) ?_
    exact J20 1  _ _ _ hq hP hD hS (lv_sub hl [0, 1, 2] rfl)
  refine lv_aload_n hx hb dX7_fewest_0 rfl (lv_at hl 0 rfl) ?_
  refine lv_iload_n hx hb dX7_fewest_1 rfl (lv_at hl 1 rfl) ?_
  have hFc := xfree_none hS hAe0
  refine va_calli (va_runS (As := [.int x1]) (rest := [.ref (a 0)]) ⟨hx, hb, hml, hown, hts⟩ (c_X7_isTuft l dC dI cy  _ x1 _ hq) (va_cwS 1 hts gX7_fewest_X7_isTuft rfl rfl rfl (by decide +kernel) ⟨Nat.le_of_ble_eq_true rfl, Nat.le_of_ble_eq_true rfl⟩) ⟨xPre_blind, xPre_of xP_nil hK (xD_nil (A := A))⟩ rfl rfl hl.1 rfl (lv_room (Nat.le_of_ble_eq_true rfl)) dX7_fewest_2 ⟨Nat.le_of_ble_eq_true rfl, Nat.le_of_ble_eq_true rfl⟩) hS (fun q _ h => hFc q h) hFc (fun r2 u9 t H locs ht hvm hq hB hz1 hk1 hS => ?_)
  have hP := xj_none hP hk1
  obtain ⟨hqA, hqB⟩ := hq
  refine lv_if_eq (tgt := 19) hx hb dX7_fewest_5 (by decide) (fun c3 => ?_) (fun c3 => ?_)
  · have hq := hqA c3
    exact J19   _ _ _ hq hP hD hS (lv_sub hl [0, 1, 2] rfl)
  · have hq := hqB c3
    refine lv_iload_n hx hb dX7_fewest_8 rfl (lv_at hl 2 rfl) ?_
    have hFc := xfree_none hS hAe0
    refine va_calli (va_runS (As := [.int x2]) (rest := [.ref (a 0)]) ⟨hx, hb, hml, hown, hts⟩ (c_X7_isTuft l dC dI cy  _ x2 _ hq) (va_cwS 1 hts gX7_fewest_X7_isTuft rfl rfl rfl (by decide +kernel) ⟨Nat.le_of_ble_eq_true rfl, Nat.le_of_ble_eq_true rfl⟩) ⟨xPre_blind, xPre_of xP_nil hK (xD_nil (A := A))⟩ rfl rfl hl.1 rfl (lv_room (Nat.le_of_ble_eq_true rfl)) dX7_fewest_9 ⟨Nat.le_of_ble_eq_true rfl, Nat.le_of_ble_eq_true rfl⟩) hS (fun q _ h => hFc q h) hFc (fun r9 u9 t H locs ht hvm hq hB hz1 hk1 hS => ?_)
    have hP := xj_none hP hk1
    obtain ⟨hqA, hqB⟩ := hq
    refine lv_if_eq (tgt := 19) hx hb dX7_fewest_12 (by decide) (fun c2 => ?_) (fun c2 => ?_)
    · have hq := hqA c2
      exact J19   _ _ _ hq hP hD hS (lv_sub hl [0, 1, 2] rfl)
    · have hq := hqB c2
      refine lv_iconst (v := 0) hx hb dX7_fewest_15 (by decide) ?_
      refine lv_goto (tgt := 20) hx hb dX7_fewest_16 (by decide) ?_
      exact J20 0  _ _ _ hq hP hD hS (lv_sub hl [0, 1, 2] rfl)
def wp_X7_whenDug_47 (v : V_X7) (x1 : Int32) (x2 : Int32) (z47_v_aside : (Nat → Int32)) (z47_v_isHollow : (Nat → Int32)) (z47_v_s : (Nat → Int32)) (k47_0 : Int32) (Q : Int32 → (Nat → Int32) → (Nat → Int32) → (Nat → Int32) → Prop) : Prop :=
  wp_X7_putBack (z47_v_s, z47_v_aside, (X7_kept v), (X7_isKept v), (X7_saved v), (X7_savedMany v), (X7_text v), (X7_length v), (X7_thrown v), (X7_joint v), (X7_position v), (X7_isWrong v), z47_v_isHollow, (X7_sure v), (X7_away v), (X7_digested v)) (fun z50_v_s =>
  Q k47_0 z47_v_aside z47_v_isHollow z50_v_s)
def wp_X7_whenDug (v : V_X7) (x1 : Int32) (x2 : Int32) (Q : Int32 → (Nat → Int32) → (Nat → Int32) → (Nat → Int32) → Prop) : Prop :=
  wp_X7_putAside v (fun z1_v_aside =>
  vp_in 5 1472 ∧ wp_X7_dug (X7_s1 v z1_v_aside) x1 (fun r13 z13_v_s =>
  ((x2 = 0 → wp_X7_whenDug_47 v x1 x2 z1_v_aside (X7_isHollow v) z13_v_s ((z13_v_s (5 : Int32).toNatClampNeg) - ((X7_s v) (5 : Int32).toNatClampNeg))  Q) ∧
  (¬ x2 = 0 → ((x2 = 1 → wp_X7_whenDug_47 v x1 x2 z1_v_aside (X7_isHollow v) z13_v_s r13  Q) ∧
  (¬ x2 = 1 → wp_X7_hollow (X7_s1 (X7_s0 v z13_v_s) z1_v_aside) (fun r44 z44_v_isHollow =>
  wp_X7_whenDug_47 v x1 x2 z1_v_aside z44_v_isHollow z13_v_s r44  Q)))))))
def q_X7_whenDug (dC : Nat → ClassId) (dI : Nat → Nat → Nat) (cy : Nat → ClassId) (a : Nat → Nat) (v : V_X7) (x1 : Int32) (x2 : Int32) (Q : Int32 → (Nat → Int32) → (Nat → Int32) → (Nat → Int32) → Prop) (A : Nat → Prop) : Array Value → State → Outcome → State → Prop := va_Qi (fun (r : Int32) (u : (Nat → Int32) × (Nat → Int32) × (Nat → Int32)) => Q r u.1 u.2.1 u.2.2) (fun (u : (Nat → Int32) × (Nat → Int32) × (Nat → Int32)) t => xAt dC dI cy A (cX7 cy a u.2.2 u.1 (X7_kept v) (X7_isKept v) (X7_saved v) (X7_savedMany v) (X7_text v) (X7_length v) (X7_thrown v) (X7_joint v) (X7_position v) (X7_isWrong v) u.2.1 (X7_sure v) (X7_away v) (X7_digested v)) t) A
set_option maxHeartbeats 4000000 in
set_option maxRecDepth 100000 in
theorem c_X7_whenDug (l : Launch) (dC : Nat → ClassId) (dI : Nat → Nat → Nat) (cy : Nat → ClassId) (a : Nat → Nat) (sz : Nat) (v : V_X7) (x1 : Int32) (x2 : Int32) (Q : Int32 → (Nat → Int32) → (Nat → Int32) → (Nat → Int32) → Prop) (hq : wp_X7_whenDug v x1 x2 Q) : Met l yX7_whenDug wsX7_whenDug ({ frames := 5, cells := 0, slots := 0, locals := 121 } : Room) (va_Pc [.ref (a 0), .int x1, .int x2] (xPre dC dI cy (wX7 cy a v) sz)) (q_X7_whenDug dC dI cy a v x1 x2 Q (va_A (wX7 cy a v) sz)) 0 0 (va_A (wX7 cy a v) sz) := by
  refine Met.ofW (cc := cX7_whenDug) (maxL := 6) (ret := (some .int)) (by decide) rfl ?_
  intro p e s m args below meth c s₁ B hml hv
  obtain ⟨rfl, hsz, hP, hK, hD0⟩ := hv
  have hx := B.exec
  have hb := B.bytes
  have hr := B.returns
  have hts := atoms_spec (ws := wsX7_whenDug) B.pre
  have hown : s.vm.findClass RX7 = some m.cls := findClass_of_methodNamed B.named
  have hlocks := B.notSynchronized
  subst hsz
  have hD := hD0.self (sz := s.heap.size)
  generalize hAe : va_A (wX7 cy a v) s.heap.size = A at hD ⊢
  have hAe0 : ∀ q : Nat, s.heap.size ≤ q → A q := fun q h => by rw [← hAe]; exact Or.inr h
  have hS : va_S A s.heap s.heap [] := va_S.rf
  have hl := lv_entry ([.ref (a 0), .int x1, .int x2]) (n := 6) (Nat.le_of_ble_eq_true rfl)
  rw [lg_entry_eq]
  generalize (lg_sl ([.ref (a 0), .int x1, .int x2]) ++ List.replicate (6 - (lg_sl ([.ref (a 0), .int x1, .int x2])).length) Slot.unset).toArray = ls at hl ⊢
  have hl : lv_has ls 6 [(0, .ref (a 0)), (1, .int x1), (2, .int x2)] := hl
  have lk0 := hts (Cond.fieldLink RX7 7 "MolesLawnModel" "s" "[I") (List.mem_cons_of_mem _ (List.mem_append_left _ (List.mem_append_left _ (List.mem_of_getElem? (i := 0) rfl))))
  have iK7 : ∀ w ∈ wsX70, w ∈ wsX7_whenDug := fun _ h => (List.mem_cons_of_mem _ (List.mem_append_right _ h))
  unfold wp_X7_whenDug at hq
  have J47 : ∀ (z47_v_aside : (Nat → Int32)) (z47_v_isHollow : (Nat → Int32)) (z47_v_s : (Nat → Int32)) (k47_0 : Int32) (H : Heap) (locs : List Loc) (ls : Array Slot), wp_X7_whenDug_47 v x1 x2 z47_v_aside z47_v_isHollow z47_v_s k47_0 Q → va_P (dC, dI) vwCl (cX7 cy a z47_v_s z47_v_aside (X7_kept v) (X7_isKept v) (X7_saved v) (X7_savedMany v) (X7_text v) (X7_length v) (X7_thrown v) (X7_joint v) (X7_position v) (X7_isWrong v) z47_v_isHollow (X7_sure v) (X7_away v) (X7_digested v)) H → va_D A (cX7 cy a z47_v_s z47_v_aside (X7_kept v) (X7_isKept v) (X7_saved v) (X7_savedMany v) (X7_text v) (X7_length v) (X7_thrown v) (X7_joint v) (X7_position v) (X7_isWrong v) z47_v_isHollow (X7_sure v) (X7_away v) (X7_digested v)) → va_S A s.heap H locs → lv_has ls 6 [(0, .ref (a 0))] → W p l e (headSpec wsX7_whenDug ({ frames := 5, cells := 0, slots := 0, locals := 121 } : Room)).room s m ([.ref (a 0), .int x1, .int x2] : List Value).toArray below meth c H locs 0 0 (MQ below (q_X7_whenDug dC dI cy a v x1 x2 Q A) ([.ref (a 0), .int x1, .int x2] : List Value).toArray s 0 0 A) (F0 m 47 ls [.int k47_0]) := by
    intro z47_v_aside z47_v_isHollow z47_v_s k47_0 H locs ls hq hP hD hS hl
    unfold wp_X7_whenDug_47 at hq
    refine lv_istore (lv' := [(5, .int k47_0), (0, .ref (a 0))]) hx hb dX7_whenDug_47 hl (by decide) rfl (fun ls hl => ?_)
    refine lv_aload_n hx hb dX7_whenDug_49 rfl (lv_at hl 1 rfl) ?_
    have hFc := xfree_same hS hAe0 (ws := (cX7 cy a z47_v_s z47_v_aside (X7_kept v) (X7_isKept v) (X7_saved v) (X7_savedMany v) (X7_text v) (X7_length v) (X7_thrown v) (X7_joint v) (X7_position v) (X7_isWrong v) z47_v_isHollow (X7_sure v) (X7_away v) (X7_digested v))) hD
    refine va_callv (va_runV (As := []) (rest := []) ⟨hx, hb, hml, hown, hts⟩ (c_X7_putBack l dC dI cy a _ (z47_v_s, z47_v_aside, (X7_kept v), (X7_isKept v), (X7_saved v), (X7_savedMany v), (X7_text v), (X7_length v), (X7_thrown v), (X7_joint v), (X7_position v), (X7_isWrong v), z47_v_isHollow, (X7_sure v), (X7_away v), (X7_digested v)) _ hq) (cwV 0 hts gX7_whenDug_X7_putBack rfl rfl rfl (by decide +kernel) ⟨Nat.le_of_ble_eq_true rfl, Nat.le_of_ble_eq_true rfl⟩) ⟨xPre_blind, va_recv hK hP (ci := 7) (q0 := 0) rfl rfl, xPre_of hP hK hD⟩ rfl rfl hl.1 rfl (lv_room (Nat.le_of_ble_eq_true rfl)) dX7_whenDug_50 ⟨Nat.le_of_ble_eq_true rfl, Nat.le_of_ble_eq_true rfl⟩) hS (fun q _ h => hFc q h) hFc (fun z50_v_s t H locs ht hvm hq hB hz1 hk1 hS => ?_)
    obtain ⟨hP1, -, hD1⟩ := hB
    rw [ht] at hP1
    have hP : va_P (dC, dI) vwCl (cX7 cy a z50_v_s z47_v_aside (X7_kept v) (X7_isKept v) (X7_saved v) (X7_savedMany v) (X7_text v) (X7_length v) (X7_thrown v) (X7_joint v) (X7_position v) (X7_isWrong v) z47_v_isHollow (X7_sure v) (X7_away v) (X7_digested v)) H := hP1
    have hD : va_D A (cX7 cy a z50_v_s z47_v_aside (X7_kept v) (X7_isKept v) (X7_saved v) (X7_savedMany v) (X7_text v) (X7_length v) (X7_thrown v) (X7_joint v) (X7_position v) (X7_isWrong v) z47_v_isHollow (X7_sure v) (X7_away v) (X7_digested v)) := hD1.weaken (fun _ q _ h => hFc q.1 h)
    refine lv_iload hx hb dX7_whenDug_53 (lv_at hl 0 rfl) ?_
    exact W.iret (v := k47_0) hx hb hr (fun t ht hW => ⟨⟨k47_0, (z47_v_aside, z47_v_isHollow, z50_v_s), rfl, hq, (xAt_of hP hK hD ht hW)⟩, hS.F ht⟩) hS.2.2 dX7_whenDug_55
  refine lv_aload_n hx hb dX7_whenDug_0 rfl (lv_at hl 0 rfl) ?_
  have hFc := xfree_same hS hAe0 (ws := (wX7 cy a v)) hD
  refine va_callv (va_runV (As := []) (rest := []) ⟨hx, hb, hml, hown, hts⟩ (c_X7_putAside l dC dI cy a _ v _ hq) (cwV 0 hts gX7_whenDug_X7_putAside rfl rfl rfl (by decide +kernel) ⟨Nat.le_of_ble_eq_true rfl, Nat.le_of_ble_eq_true rfl⟩) ⟨xPre_blind, va_recv hK hP (ci := 7) (q0 := 0) rfl rfl, xPre_of hP hK hD⟩ rfl rfl hl.1 rfl (lv_room (Nat.le_of_ble_eq_true rfl)) dX7_whenDug_1 ⟨Nat.le_of_ble_eq_true rfl, Nat.le_of_ble_eq_true rfl⟩) hS (fun q _ h => hFc q h) hFc (fun z1_v_aside t H locs ht hvm hq hB hz1 hk1 hS => ?_)
  obtain ⟨hP1, -, hD1⟩ := hB
  rw [ht] at hP1
  have hP : va_P (dC, dI) vwCl (cX7 cy a (X7_s v) z1_v_aside (X7_kept v) (X7_isKept v) (X7_saved v) (X7_savedMany v) (X7_text v) (X7_length v) (X7_thrown v) (X7_joint v) (X7_position v) (X7_isWrong v) (X7_isHollow v) (X7_sure v) (X7_away v) (X7_digested v)) H := hP1
  have hD : va_D A (cX7 cy a (X7_s v) z1_v_aside (X7_kept v) (X7_isKept v) (X7_saved v) (X7_savedMany v) (X7_text v) (X7_length v) (X7_thrown v) (X7_joint v) (X7_position v) (X7_isWrong v) (X7_isHollow v) (X7_sure v) (X7_away v) (X7_digested v)) := hD1.weaken (fun _ q _ h => hFc q.1 h)
  refine lv_aload_n hx hb dX7_whenDug_4 rfl (lv_at hl 0 rfl) ?_
  refine va_get (D := (dC, dI)) (ci := 7) (v := .ref (a 1)) (C := RX7) (T := TX7) (N := 16) hx hb hts iK7 hown hK hP 0 rfl rfl 0 (by decide) lk0 (fun _ h9 => h9) rfl dX7_whenDug_5 ?_
  refine lv_iconst (v := 5) hx hb dX7_whenDug_8 (by decide) ?_
  obtain ⟨g1, hq⟩ := hq
  refine va_iald hx hb hK hP 1 0 rfl rfl g1 dX7_whenDug_9 ?_
  refine lv_istore_n (lv' := [(3, .int ((X7_s v) (5 : Int32).toNatClampNeg)), (0, .ref (a 0)), (1, .int x1), (2, .int x2)]) hx hb dX7_whenDug_10 rfl hl (by decide) rfl (fun ls hl => ?_)
  refine lv_aload_n hx hb dX7_whenDug_11 rfl (lv_at hl 1 rfl) ?_
  refine lv_iload_n hx hb dX7_whenDug_12 rfl (lv_at hl 2 rfl) ?_
  have hFc := xfree_same hS hAe0 (ws := (cX7 cy a (X7_s v) z1_v_aside (X7_kept v) (X7_isKept v) (X7_saved v) (X7_savedMany v) (X7_text v) (X7_length v) (X7_thrown v) (X7_joint v) (X7_position v) (X7_isWrong v) (X7_isHollow v) (X7_sure v) (X7_away v) (X7_digested v))) hD
  refine va_calli (va_runV (As := [.int x1]) (rest := []) ⟨hx, hb, hml, hown, hts⟩ (c_X7_dug l dC dI cy a _ (X7_s1 v z1_v_aside) x1 _ hq) (cwV 1 hts gX7_whenDug_X7_dug rfl rfl rfl (by decide +kernel) ⟨Nat.le_of_ble_eq_true rfl, Nat.le_of_ble_eq_true rfl⟩) ⟨xPre_blind, va_recv hK hP (ci := 7) (q0 := 0) rfl rfl, xPre_of hP hK hD⟩ rfl rfl hl.1 rfl (lv_room (Nat.le_of_ble_eq_true rfl)) dX7_whenDug_13 ⟨Nat.le_of_ble_eq_true rfl, Nat.le_of_ble_eq_true rfl⟩) hS (fun q _ h => hFc q h) hFc (fun r13 z13_v_s t H locs ht hvm hq hB hz1 hk1 hS => ?_)
  obtain ⟨hP1, -, hD1⟩ := hB
  rw [ht] at hP1
  have hP : va_P (dC, dI) vwCl (cX7 cy a z13_v_s z1_v_aside (X7_kept v) (X7_isKept v) (X7_saved v) (X7_savedMany v) (X7_text v) (X7_length v) (X7_thrown v) (X7_joint v) (X7_position v) (X7_isWrong v) (X7_isHollow v) (X7_sure v) (X7_away v) (X7_digested v)) H := hP1
  have hD : va_D A (cX7 cy a z13_v_s z1_v_aside (X7_kept v) (X7_isKept v) (X7_saved v) (X7_savedMany v) (X7_text v) (X7_length v) (X7_thrown v) (X7_joint v) (X7_position v) (X7_isWrong v) (X7_isHollow v) (X7_sure v) (X7_away v) (X7_digested v)) := hD1.weaken (fun _ q _ h => hFc q.1 h)
  refine lv_istore (lv' := [(4, .int r13), (3, .int ((X7_s v) (5 : Int32).toNatClampNeg)), (0, .ref (a 0)), (1, .int x1), (2, .int x2)]) hx hb dX7_whenDug_16 hl (by decide) rfl (fun ls hl => ?_)
  refine lv_iload_n hx hb dX7_whenDug_18 rfl (lv_at hl 4 rfl) ?_
  obtain ⟨hqA, hqB⟩ := hq
  refine lv_if_ne (tgt := 33) hx hb dX7_whenDug_19 (by decide) (fun c3 => ?_) (fun c3 => ?_)
  · have hq := hqB c3
    refine lv_iload_n hx hb dX7_whenDug_33 rfl (lv_at hl 4 rfl) ?_
    refine lv_iconst (v := 1) hx hb dX7_whenDug_34 (by decide) ?_
    obtain ⟨hqA, hqB⟩ := hq
    refine lv_icmp_ne (tgt := 43) hx hb dX7_whenDug_35 (by decide) (fun c2 => ?_) (fun c2 => ?_)
    · have hq := hqB c2
      refine lv_aload_n hx hb dX7_whenDug_43 rfl (lv_at hl 2 rfl) ?_
      have hFc := xfree_same hS hAe0 (ws := (cX7 cy a z13_v_s z1_v_aside (X7_kept v) (X7_isKept v) (X7_saved v) (X7_savedMany v) (X7_text v) (X7_length v) (X7_thrown v) (X7_joint v) (X7_position v) (X7_isWrong v) (X7_isHollow v) (X7_sure v) (X7_away v) (X7_digested v))) hD
      refine va_calli (va_runV (As := []) (rest := []) ⟨hx, hb, hml, hown, hts⟩ (c_X7_hollow l dC dI cy a _ (X7_s1 (X7_s0 v z13_v_s) z1_v_aside) _ hq) (cwV 0 hts gX7_whenDug_X7_hollow rfl rfl rfl (by decide +kernel) ⟨Nat.le_of_ble_eq_true rfl, Nat.le_of_ble_eq_true rfl⟩) ⟨xPre_blind, va_recv hK hP (ci := 7) (q0 := 0) rfl rfl, xPre_of hP hK hD⟩ rfl rfl hl.1 rfl (lv_room (Nat.le_of_ble_eq_true rfl)) dX7_whenDug_44 ⟨Nat.le_of_ble_eq_true rfl, Nat.le_of_ble_eq_true rfl⟩) hS (fun q _ h => hFc q h) hFc (fun r44 z44_v_isHollow t H locs ht hvm hq hB hz1 hk1 hS => ?_)
      obtain ⟨hP1, -, hD1⟩ := hB
      rw [ht] at hP1
      have hP : va_P (dC, dI) vwCl (cX7 cy a z13_v_s z1_v_aside (X7_kept v) (X7_isKept v) (X7_saved v) (X7_savedMany v) (X7_text v) (X7_length v) (X7_thrown v) (X7_joint v) (X7_position v) (X7_isWrong v) z44_v_isHollow (X7_sure v) (X7_away v) (X7_digested v)) H := hP1
      have hD : va_D A (cX7 cy a z13_v_s z1_v_aside (X7_kept v) (X7_isKept v) (X7_saved v) (X7_savedMany v) (X7_text v) (X7_length v) (X7_thrown v) (X7_joint v) (X7_position v) (X7_isWrong v) z44_v_isHollow (X7_sure v) (X7_away v) (X7_digested v)) := hD1.weaken (fun _ q _ h => hFc q.1 h)
      exact J47 z1_v_aside z44_v_isHollow z13_v_s r44  _ _ _ hq hP hD hS (lv_sub hl [2] rfl)
    · have hq := hqA c2
      refine lv_iload hx hb dX7_whenDug_38 (lv_at hl 0 rfl) ?_
      refine lv_goto (tgt := 47) hx hb dX7_whenDug_40 (by decide) ?_
      exact J47 z1_v_aside (X7_isHollow v) z13_v_s r13  _ _ _ hq hP hD hS (lv_sub hl [2] rfl)
  · have hq := hqA c3
    refine lv_aload_n hx hb dX7_whenDug_22 rfl (lv_at hl 2 rfl) ?_
    refine va_get (D := (dC, dI)) (ci := 7) (v := .ref (a 1)) (C := RX7) (T := TX7) (N := 16) hx hb hts iK7 hown hK hP 0 rfl rfl 0 (by decide) lk0 (fun _ h9 => h9) rfl dX7_whenDug_23 ?_
    refine lv_iconst (v := 5) hx hb dX7_whenDug_26 (by decide) ?_
    refine va_iald hx hb hK hP 1 0 rfl rfl g1 dX7_whenDug_27 ?_
    refine lv_iload_n hx hb dX7_whenDug_28 rfl (lv_at hl 1 rfl) ?_
    refine lv_isub hx hb dX7_whenDug_29 ?_
    refine lv_goto (tgt := 47) hx hb dX7_whenDug_30 (by decide) ?_
    exact J47 z1_v_aside (X7_isHollow v) z13_v_s ((z13_v_s (5 : Int32).toNatClampNeg) - ((X7_s v) (5 : Int32).toNatClampNeg))  _ _ _ hq hP hD hS (lv_sub hl [2] rfl)
def wp_X7_ifDug_26 (v : V_X7) (x1 : Int32) (x2 : Int32) (k26_0 : Int32) (Q : Int32 → (Nat → Int32) → (Nat → Int32) → (Nat → Int32) → Int32 → Prop) : Prop :=
  wp_X7_holds v k26_0 (fun r26 z26_v_thrown =>
  ((r26 = 0 → Q 0 (X7_aside v) (X7_isHollow v) (X7_s v) z26_v_thrown) ∧
  (¬ r26 = 0 → wp_X7_whenDug (X7_s8 v z26_v_thrown) x1 x2 (fun r35 z35_v_aside z35_v_isHollow z35_v_s =>
  Q r35 z35_v_aside z35_v_isHollow z35_v_s z26_v_thrown))))
def wp_X7_ifDug (v : V_X7) (x1 : Int32) (x2 : Int32) (Q : Int32 → (Nat → Int32) → (Nat → Int32) → (Nat → Int32) → Int32 → Prop) : Prop :=
  wp_X7_isTuft x1 (fun r2 =>
  ((r2 = 0 → wp_X7_ifDug_26 v x1 x2 1  Q) ∧
  (¬ r2 = 0 → wp_X7_in x2 0 2 (fun r15 =>
  ((r15 = 0 → wp_X7_ifDug_26 v x1 x2 2  Q) ∧
  (¬ r15 = 0 → wp_X7_ifDug_26 v x1 x2 0  Q))))))
def q_X7_ifDug (dC : Nat → ClassId) (dI : Nat → Nat → Nat) (cy : Nat → ClassId) (a : Nat → Nat) (v : V_X7) (x1 : Int32) (x2 : Int32) (Q : Int32 → (Nat → Int32) → (Nat → Int32) → (Nat → Int32) → Int32 → Prop) (A : Nat → Prop) : Array Value → State → Outcome → State → Prop := va_Qi (fun (r : Int32) (u : (Nat → Int32) × (Nat → Int32) × (Nat → Int32) × Int32) => Q r u.1 u.2.1 u.2.2.1 u.2.2.2) (fun (u : (Nat → Int32) × (Nat → Int32) × (Nat → Int32) × Int32) t => xAt dC dI cy A (cX7 cy a u.2.2.1 u.1 (X7_kept v) (X7_isKept v) (X7_saved v) (X7_savedMany v) (X7_text v) (X7_length v) u.2.2.2 (X7_joint v) (X7_position v) (X7_isWrong v) u.2.1 (X7_sure v) (X7_away v) (X7_digested v)) t) A
set_option maxHeartbeats 4000000 in
set_option maxRecDepth 100000 in
theorem c_X7_ifDug (l : Launch) (dC : Nat → ClassId) (dI : Nat → Nat → Nat) (cy : Nat → ClassId) (a : Nat → Nat) (sz : Nat) (v : V_X7) (x1 : Int32) (x2 : Int32) (Q : Int32 → (Nat → Int32) → (Nat → Int32) → (Nat → Int32) → Int32 → Prop) (hq : wp_X7_ifDug v x1 x2 Q) : Met l yX7_ifDug wsX7_ifDug ({ frames := 6, cells := 0, slots := 0, locals := 146 } : Room) (va_Pc [.ref (a 0), .int x1, .int x2] (xPre dC dI cy (wX7 cy a v) sz)) (q_X7_ifDug dC dI cy a v x1 x2 Q (va_A (wX7 cy a v) sz)) 0 0 (va_A (wX7 cy a v) sz) := by
  refine Met.ofW (cc := cX7_ifDug) (maxL := 3) (ret := (some .int)) (by decide) rfl ?_
  intro p e s m args below meth c s₁ B hml hv
  obtain ⟨rfl, hsz, hP, hK, hD0⟩ := hv
  have hx := B.exec
  have hb := B.bytes
  have hr := B.returns
  have hts := atoms_spec (ws := wsX7_ifDug) B.pre
  have hown : s.vm.findClass RX7 = some m.cls := findClass_of_methodNamed B.named
  have hlocks := B.notSynchronized
  subst hsz
  have hD := hD0.self (sz := s.heap.size)
  generalize hAe : va_A (wX7 cy a v) s.heap.size = A at hD ⊢
  have hAe0 : ∀ q : Nat, s.heap.size ≤ q → A q := fun q h => by rw [← hAe]; exact Or.inr h
  have hS : va_S A s.heap s.heap [] := va_S.rf
  have hl := lv_entry ([.ref (a 0), .int x1, .int x2]) (n := 3) (Nat.le_of_ble_eq_true rfl)
  rw [lg_entry_eq]
  generalize (lg_sl ([.ref (a 0), .int x1, .int x2]) ++ List.replicate (3 - (lg_sl ([.ref (a 0), .int x1, .int x2])).length) Slot.unset).toArray = ls at hl ⊢
  have hl : lv_has ls 3 [(0, .ref (a 0)), (1, .int x1), (2, .int x2)] := hl
  unfold wp_X7_ifDug at hq
  have J26 : ∀ (k26_0 : Int32) (H : Heap) (locs : List Loc) (ls : Array Slot), wp_X7_ifDug_26 v x1 x2 k26_0 Q → va_P (dC, dI) vwCl (wX7 cy a v) H → va_D A (wX7 cy a v) → va_S A s.heap H locs → lv_has ls 3 [(0, .ref (a 0)), (1, .int x1), (2, .int x2)] → W p l e (headSpec wsX7_ifDug ({ frames := 6, cells := 0, slots := 0, locals := 146 } : Room)).room s m ([.ref (a 0), .int x1, .int x2] : List Value).toArray below meth c H locs 0 0 (MQ below (q_X7_ifDug dC dI cy a v x1 x2 Q A) ([.ref (a 0), .int x1, .int x2] : List Value).toArray s 0 0 A) (F0 m 26 ls [.int k26_0, .ref (a 0)]) := by
    intro k26_0 H locs ls hq hP hD hS hl
    unfold wp_X7_ifDug_26 at hq
    have hFc := xfree_same hS hAe0 (ws := (wX7 cy a v)) hD
    refine va_calli (va_runV (As := [.int k26_0]) (rest := []) ⟨hx, hb, hml, hown, hts⟩ (c_X7_holds l dC dI cy a _ v k26_0 _ hq) (cwV 1 hts gX7_ifDug_X7_holds rfl rfl rfl (by decide +kernel) ⟨Nat.le_of_ble_eq_true rfl, Nat.le_of_ble_eq_true rfl⟩) ⟨xPre_blind, va_recv hK hP (ci := 7) (q0 := 0) rfl rfl, xPre_of hP hK hD⟩ rfl rfl hl.1 rfl (lv_room (Nat.le_of_ble_eq_true rfl)) dX7_ifDug_26 ⟨Nat.le_of_ble_eq_true rfl, Nat.le_of_ble_eq_true rfl⟩) hS (fun q _ h => hFc q h) hFc (fun r26 z26_v_thrown t H locs ht hvm hq hB hz1 hk1 hS => ?_)
    obtain ⟨hP1, -, hD1⟩ := hB
    rw [ht] at hP1
    have hP : va_P (dC, dI) vwCl (cX7 cy a (X7_s v) (X7_aside v) (X7_kept v) (X7_isKept v) (X7_saved v) (X7_savedMany v) (X7_text v) (X7_length v) z26_v_thrown (X7_joint v) (X7_position v) (X7_isWrong v) (X7_isHollow v) (X7_sure v) (X7_away v) (X7_digested v)) H := hP1
    have hD : va_D A (cX7 cy a (X7_s v) (X7_aside v) (X7_kept v) (X7_isKept v) (X7_saved v) (X7_savedMany v) (X7_text v) (X7_length v) z26_v_thrown (X7_joint v) (X7_position v) (X7_isWrong v) (X7_isHollow v) (X7_sure v) (X7_away v) (X7_digested v)) := hD1.weaken (fun _ q _ h => hFc q.1 h)
    obtain ⟨hqA, hqB⟩ := hq
    refine lv_if_eq (tgt := 41) hx hb dX7_ifDug_29 (by decide) (fun c1 => ?_) (fun c1 => ?_)
    · have hq := hqA c1
      refine lv_iconst (v := 0) hx hb dX7_ifDug_41 (by decide) ?_
      exact W.iret (v := 0) hx hb hr (fun t ht hW => ⟨⟨0, ((X7_aside v), (X7_isHollow v), (X7_s v), z26_v_thrown), rfl, hq, (xAt_of hP hK hD ht hW)⟩, hS.F ht⟩) hS.2.2 dX7_ifDug_42
    · have hq := hqB c1
      refine lv_aload_n hx hb dX7_ifDug_32 rfl (lv_at hl 0 rfl) ?_
      refine lv_iload_n hx hb dX7_ifDug_33 rfl (lv_at hl 1 rfl) ?_
      refine lv_iload_n hx hb dX7_ifDug_34 rfl (lv_at hl 2 rfl) ?_
      have hFc := xfree_same hS hAe0 (ws := (cX7 cy a (X7_s v) (X7_aside v) (X7_kept v) (X7_isKept v) (X7_saved v) (X7_savedMany v) (X7_text v) (X7_length v) z26_v_thrown (X7_joint v) (X7_position v) (X7_isWrong v) (X7_isHollow v) (X7_sure v) (X7_away v) (X7_digested v))) hD
      refine va_calli (va_runV (As := [.int x1, .int x2]) (rest := []) ⟨hx, hb, hml, hown, hts⟩ (c_X7_whenDug l dC dI cy a _ (X7_s8 v z26_v_thrown) x1 x2 _ hq) (cwV 2 hts gX7_ifDug_X7_whenDug rfl rfl rfl (by decide +kernel) ⟨Nat.le_of_ble_eq_true rfl, Nat.le_of_ble_eq_true rfl⟩) ⟨xPre_blind, va_recv hK hP (ci := 7) (q0 := 0) rfl rfl, xPre_of hP hK hD⟩ rfl rfl hl.1 rfl (lv_room (Nat.le_of_ble_eq_true rfl)) dX7_ifDug_35 ⟨Nat.le_of_ble_eq_true rfl, Nat.le_of_ble_eq_true rfl⟩) hS (fun q _ h => hFc q h) hFc (fun r35 u9 t H locs ht hvm hq hB hz1 hk1 hS => ?_)
      obtain ⟨z35_v_aside, z35_v_isHollow, z35_v_s⟩ := u9
      obtain ⟨hP1, -, hD1⟩ := hB
      rw [ht] at hP1
      have hP : va_P (dC, dI) vwCl (cX7 cy a z35_v_s z35_v_aside (X7_kept v) (X7_isKept v) (X7_saved v) (X7_savedMany v) (X7_text v) (X7_length v) z26_v_thrown (X7_joint v) (X7_position v) (X7_isWrong v) z35_v_isHollow (X7_sure v) (X7_away v) (X7_digested v)) H := hP1
      have hD : va_D A (cX7 cy a z35_v_s z35_v_aside (X7_kept v) (X7_isKept v) (X7_saved v) (X7_savedMany v) (X7_text v) (X7_length v) z26_v_thrown (X7_joint v) (X7_position v) (X7_isWrong v) z35_v_isHollow (X7_sure v) (X7_away v) (X7_digested v)) := hD1.weaken (fun _ q _ h => hFc q.1 h)
      refine lv_goto (tgt := 42) hx hb dX7_ifDug_38 (by decide) ?_
      exact W.iret (v := r35) hx hb hr (fun t ht hW => ⟨⟨r35, (z35_v_aside, z35_v_isHollow, z35_v_s, z26_v_thrown), rfl, hq, (xAt_of hP hK hD ht hW)⟩, hS.F ht⟩) hS.2.2 dX7_ifDug_42
  refine lv_aload_n hx hb dX7_ifDug_0 rfl (lv_at hl 0 rfl) ?_
  refine lv_iload_n hx hb dX7_ifDug_1 rfl (lv_at hl 1 rfl) ?_
  have hFc := xfree_none hS hAe0
  refine va_calli (va_runS (As := [.int x1]) (rest := [.ref (a 0)]) ⟨hx, hb, hml, hown, hts⟩ (c_X7_isTuft l dC dI cy  _ x1 _ hq) (va_cwS 1 hts gX7_ifDug_X7_isTuft rfl rfl rfl (by decide +kernel) ⟨Nat.le_of_ble_eq_true rfl, Nat.le_of_ble_eq_true rfl⟩) ⟨xPre_blind, xPre_of xP_nil hK (xD_nil (A := A))⟩ rfl rfl hl.1 rfl (lv_room (Nat.le_of_ble_eq_true rfl)) dX7_ifDug_2 ⟨Nat.le_of_ble_eq_true rfl, Nat.le_of_ble_eq_true rfl⟩) hS (fun q _ h => hFc q h) hFc (fun r2 u9 t H locs ht hvm hq hB hz1 hk1 hS => ?_)
  have hP := xj_none hP hk1
  obtain ⟨hqA, hqB⟩ := hq
  refine lv_if_ne (tgt := 12) hx hb dX7_ifDug_5 (by decide) (fun c3 => ?_) (fun c3 => ?_)
  · have hq := hqB c3
    refine lv_iload_n hx hb dX7_ifDug_12 rfl (lv_at hl 2 rfl) ?_
    refine lv_iconst (v := 0) hx hb dX7_ifDug_13 (by decide) ?_
    refine lv_iconst (v := 2) hx hb dX7_ifDug_14 (by decide) ?_
    have hFc := xfree_none hS hAe0
    refine va_calli (va_runS (As := [.int x2, .int 0, .int 2]) (rest := [.ref (a 0)]) ⟨hx, hb, hml, hown, hts⟩ (c_X7_in l dC dI cy  _ x2 0 2 _ hq) (va_cwS 3 hts gX7_ifDug_X7_in rfl rfl rfl (by decide +kernel) ⟨Nat.le_of_ble_eq_true rfl, Nat.le_of_ble_eq_true rfl⟩) ⟨xPre_blind, xPre_of xP_nil hK (xD_nil (A := A))⟩ rfl rfl hl.1 rfl (lv_room (Nat.le_of_ble_eq_true rfl)) dX7_ifDug_15 ⟨Nat.le_of_ble_eq_true rfl, Nat.le_of_ble_eq_true rfl⟩) hS (fun q _ h => hFc q h) hFc (fun r15 u9 t H locs ht hvm hq hB hz1 hk1 hS => ?_)
    have hP := xj_none hP hk1
    obtain ⟨hqA, hqB⟩ := hq
    refine lv_if_ne (tgt := 25) hx hb dX7_ifDug_18 (by decide) (fun c2 => ?_) (fun c2 => ?_)
    · have hq := hqB c2
      refine lv_iconst (v := 0) hx hb dX7_ifDug_25 (by decide) ?_
      exact J26 0  _ _ _ hq hP hD hS (lv_sub hl [0, 1, 2] rfl)
    · have hq := hqA c2
      refine lv_iconst (v := 2) hx hb dX7_ifDug_21 (by decide) ?_
      refine lv_goto (tgt := 26) hx hb dX7_ifDug_22 (by decide) ?_
      exact J26 2  _ _ _ hq hP hD hS (lv_sub hl [0, 1, 2] rfl)
  · have hq := hqA c3
    refine lv_iconst (v := 1) hx hb dX7_ifDug_8 (by decide) ?_
    refine lv_goto (tgt := 26) hx hb dX7_ifDug_9 (by decide) ?_
    exact J26 1  _ _ _ hq hP hD hS (lv_sub hl [0, 1, 2] rfl)
def wp_X7_best_48 (v : V_X7) (y6_1 : Int32) (y6_2 : Int32) (y6_3 : Int32) (B6 : Int32 → Int32 → Int32 → Prop) (y48_4 : Int32) (k48_0 : Int32) (Q : Int32 → Prop) : Prop :=
  ((y48_4 ≤ y6_2 → B6 k48_0 y6_2 (y6_3 + 1)) ∧
  (¬ y48_4 ≤ y6_2 → B6 k48_0 y48_4 (y6_3 + 1)))
def wp_X7_best_35 (v : V_X7) (y6_1 : Int32) (y6_2 : Int32) (y6_3 : Int32) (B6 : Int32 → Int32 → Int32 → Prop) (k35_0 : Int32) (Q : Int32 → Prop) : Prop :=
  ((k35_0 ≤ y6_2 → wp_X7_best_48 v y6_1 y6_2 y6_3 B6 k35_0 y6_1  Q) ∧
  (¬ k35_0 ≤ y6_2 → wp_X7_best_48 v y6_1 y6_2 y6_3 B6 k35_0 y6_3  Q))
def wb_X7_best_6 (v : V_X7)  (y6_1 : Int32) (y6_2 : Int32) (y6_3 : Int32) (B6 : Int32 → Int32 → Int32 → Prop) (Q : Int32 → Prop) : Prop :=
  ((64 ≤ y6_3 → Q y6_1) ∧
  (¬ 64 ≤ y6_3 → vp_in (200 + y6_3) 1472 ∧ ((((X7_s v) (200 + y6_3).toNatClampNeg) = 1 → wp_X7_best_35 v y6_1 y6_2 y6_3 B6 0  Q) ∧
  (¬ ((X7_s v) (200 + y6_3).toNatClampNeg) = 1 → wp_X7_tunnelsWith v y6_3 (fun r32 =>
  wp_X7_best_35 v y6_1 y6_2 y6_3 B6 r32  Q)))))
def wp_X7_best_6 (v : V_X7)  (y6_1 : Int32) (y6_2 : Int32) (y6_3 : Int32) (Q : Int32 → Prop) : Prop :=
  ∃ (I : Int32 → Int32 → Int32 → Prop) (μ : Int32 → Int32 → Int32 → Nat), I y6_1 y6_2 y6_3 ∧ ∀ (s0 : Int32) (s1 : Int32) (s2 : Int32), I s0 s1 s2 → wb_X7_best_6 v  s0 s1 s2 (fun t0 t1 t2 => I t0 t1 t2 ∧ μ t0 t1 t2 < μ s0 s1 s2) Q
def wp_X7_best (v : V_X7) (Q : Int32 → Prop) : Prop :=
  wp_X7_best_6 v  (-1) 0 0 Q
def q_X7_best (dC : Nat → ClassId) (dI : Nat → Nat → Nat) (cy : Nat → ClassId) (a : Nat → Nat) (v : V_X7) (Q : Int32 → Prop) (A : Nat → Prop) : Array Value → State → Outcome → State → Prop := va_Qi (fun (r : Int32) (u : Unit) => Q r ) (fun (u : Unit) t => xAt dC dI cy A (wX7 cy a v) t) A
set_option maxHeartbeats 4000000 in
set_option maxRecDepth 100000 in
theorem c_X7_best (l : Launch) (dC : Nat → ClassId) (dI : Nat → Nat → Nat) (cy : Nat → ClassId) (a : Nat → Nat) (sz : Nat) (v : V_X7) (Q : Int32 → Prop) (hq : wp_X7_best v Q) : Met l yX7_best wsX7_best ({ frames := 3, cells := 0, slots := 0, locals := 70 } : Room) (va_Pc [.ref (a 0)] (xPre dC dI cy (wX7 cy a v) sz)) (q_X7_best dC dI cy a v Q (va_A (wX7 cy a v) sz)) 0 0 (va_A (wX7 cy a v) sz) := by
  refine Met.ofW (cc := cX7_best) (maxL := 5) (ret := (some .int)) (by decide) rfl ?_
  intro p e s m args below meth c s₁ B hml hv
  obtain ⟨rfl, hsz, hP, hK, hD0⟩ := hv
  have hx := B.exec
  have hb := B.bytes
  have hr := B.returns
  have hts := atoms_spec (ws := wsX7_best) B.pre
  have hown : s.vm.findClass RX7 = some m.cls := findClass_of_methodNamed B.named
  have hlocks := B.notSynchronized
  subst hsz
  have hD := hD0.self (sz := s.heap.size)
  generalize hAe : va_A (wX7 cy a v) s.heap.size = A at hD ⊢
  have hAe0 : ∀ q : Nat, s.heap.size ≤ q → A q := fun q h => by rw [← hAe]; exact Or.inr h
  have hS : va_S A s.heap s.heap [] := va_S.rf
  have hl := lv_entry ([.ref (a 0)]) (n := 5) (Nat.le_of_ble_eq_true rfl)
  rw [lg_entry_eq]
  generalize (lg_sl ([.ref (a 0)]) ++ List.replicate (5 - (lg_sl ([.ref (a 0)])).length) Slot.unset).toArray = ls at hl ⊢
  have hl : lv_has ls 5 [(0, .ref (a 0))] := hl
  have lk0 := hts (Cond.fieldLink RX7 7 "MolesLawnModel" "s" "[I") (List.mem_cons_of_mem _ (List.mem_append_left _ (List.mem_of_getElem? (i := 0) rfl)))
  have iK7 : ∀ w ∈ wsX70, w ∈ wsX7_best := fun _ h => (List.mem_cons_of_mem _ (List.mem_append_right _ h))
  unfold wp_X7_best at hq
  have J6 : ∀  (y6_1 : Int32) (y6_2 : Int32) (y6_3 : Int32) (H : Heap) (locs : List Loc) (ls : Array Slot), wp_X7_best_6 v  y6_1 y6_2 y6_3 Q → va_P (dC, dI) vwCl (wX7 cy a v) H → va_D A (wX7 cy a v) → va_S A s.heap H locs → lv_has ls 5 [(0, .ref (a 0)), (1, .int y6_1), (2, .int y6_2), (3, .int y6_3)] → W p l e (headSpec wsX7_best ({ frames := 3, cells := 0, slots := 0, locals := 70 } : Room)).room s m ([.ref (a 0)] : List Value).toArray below meth c H locs 0 0 (MQ below (q_X7_best dC dI cy a v Q A) ([.ref (a 0)] : List Value).toArray s 0 0 A) (F0 m 6 ls []) := by
    intro  y6_1 y6_2 y6_3 H locs ls hq hP hD hS hl
    obtain ⟨I6, μ6, h0, hs6⟩ := hq
    have key : ∀ (n : Nat) (y6_1 : Int32) (y6_2 : Int32) (y6_3 : Int32) (H : Heap) (locs : List Loc) (ls : Array Slot), I6 y6_1 y6_2 y6_3 → μ6 y6_1 y6_2 y6_3 < n → va_P (dC, dI) vwCl (wX7 cy a v) H → va_D A (wX7 cy a v) → va_S A s.heap H locs → lv_has ls 5 [(0, .ref (a 0)), (1, .int y6_1), (2, .int y6_2), (3, .int y6_3)] → W p l e (headSpec wsX7_best ({ frames := 3, cells := 0, slots := 0, locals := 70 } : Room)).room s m ([.ref (a 0)] : List Value).toArray below meth c H locs 0 0 (MQ below (q_X7_best dC dI cy a v Q A) ([.ref (a 0)] : List Value).toArray s 0 0 A) (F0 m 6 ls []) := by
      intro n
      induction n with
      | zero => intro y6_1 y6_2 y6_3 H locs ls _ hm; exact absurd hm (Nat.not_lt_zero _)
      | succ n ih =>
        intro y6_1 y6_2 y6_3 H locs ls hI hm hP hD hS hl
        have hq := hs6 y6_1 y6_2 y6_3 hI
        generalize hB6 : (fun (t0 : Int32) (t1 : Int32) (t2 : Int32) => I6 t0 t1 t2 ∧ μ6 t0 t1 t2 < μ6 y6_1 y6_2 y6_3) = B6 at hq
        have bk6 : ∀ (y6_1 : Int32) (y6_2 : Int32) (y6_3 : Int32) (H : Heap) (locs : List Loc) (ls : Array Slot), B6 y6_1 y6_2 y6_3 → va_P (dC, dI) vwCl (wX7 cy a v) H → va_D A (wX7 cy a v) → va_S A s.heap H locs → lv_has ls 5 [(0, .ref (a 0)), (1, .int y6_1), (2, .int y6_2), (3, .int y6_3)] → W p l e (headSpec wsX7_best ({ frames := 3, cells := 0, slots := 0, locals := 70 } : Room)).room s m ([.ref (a 0)] : List Value).toArray below meth c H locs 0 0 (MQ below (q_X7_best dC dI cy a v Q A) ([.ref (a 0)] : List Value).toArray s 0 0 A) (F0 m 6 ls []) := by
          intro y6_1 y6_2 y6_3 H locs ls h
          rw [← hB6] at h
          exact ih y6_1 y6_2 y6_3 H locs ls h.1 (Nat.lt_of_lt_of_le h.2 (Nat.le_of_lt_succ hm))
        unfold wb_X7_best_6 at hq
        have J48 : ∀ (y48_4 : Int32) (k48_0 : Int32) (H : Heap) (locs : List Loc) (ls : Array Slot), wp_X7_best_48 v y6_1 y6_2 y6_3 B6 y48_4 k48_0 Q → va_P (dC, dI) vwCl (wX7 cy a v) H → va_D A (wX7 cy a v) → va_S A s.heap H locs → lv_has ls 5 [(0, .ref (a 0)), (2, .int y6_2), (3, .int y6_3), (4, .int y48_4)] → W p l e (headSpec wsX7_best ({ frames := 3, cells := 0, slots := 0, locals := 70 } : Room)).room s m ([.ref (a 0)] : List Value).toArray below meth c H locs 0 0 (MQ below (q_X7_best dC dI cy a v Q A) ([.ref (a 0)] : List Value).toArray s 0 0 A) (F0 m 48 ls [.int k48_0]) := by
          intro y48_4 k48_0 H locs ls hq hP hD hS hl
          unfold wp_X7_best_48 at hq
          refine lv_istore_n (lv' := [(1, .int k48_0), (0, .ref (a 0)), (2, .int y6_2), (3, .int y6_3), (4, .int y48_4)]) hx hb dX7_best_48 rfl hl (by decide) rfl (fun ls hl => ?_)
          refine lv_iload hx hb dX7_best_49 (lv_at hl 4 rfl) ?_
          refine lv_iload_n hx hb dX7_best_51 rfl (lv_at hl 2 rfl) ?_
          obtain ⟨hqA, hqB⟩ := hq
          refine lv_icmp_le (tgt := 60) hx hb dX7_best_52 (by decide) (fun c1 => ?_) (fun c1 => ?_)
          · have hq := hqA c1
            refine lv_iload_n hx hb dX7_best_60 rfl (lv_at hl 2 rfl) ?_
            refine lv_istore_n (lv' := [(2, .int y6_2), (1, .int k48_0), (0, .ref (a 0)), (3, .int y6_3), (4, .int y48_4)]) hx hb dX7_best_61 rfl hl (by decide) rfl (fun ls hl => ?_)
            refine lv_iinc (v := (y6_3 + 1)) (lv' := [(3, .int (y6_3 + 1)), (2, .int y6_2), (1, .int k48_0), (0, .ref (a 0)), (4, .int y48_4)]) hx hb dX7_best_62 hl (k := 3) rfl rfl (by decide) rfl (fun ls hl => ?_)
            refine lv_goto (tgt := 6) hx hb dX7_best_65 (by decide) ?_
            exact bk6 k48_0 y6_2 (y6_3 + 1) _ _ _ hq hP hD hS (lv_sub hl [3, 2, 1, 0] rfl)
          · have hq := hqB c1
            refine lv_iload hx hb dX7_best_55 (lv_at hl 4 rfl) ?_
            refine lv_goto (tgt := 61) hx hb dX7_best_57 (by decide) ?_
            refine lv_istore_n (lv' := [(2, .int y48_4), (1, .int k48_0), (0, .ref (a 0)), (3, .int y6_3), (4, .int y48_4)]) hx hb dX7_best_61 rfl hl (by decide) rfl (fun ls hl => ?_)
            refine lv_iinc (v := (y6_3 + 1)) (lv' := [(3, .int (y6_3 + 1)), (2, .int y48_4), (1, .int k48_0), (0, .ref (a 0)), (4, .int y48_4)]) hx hb dX7_best_62 hl (k := 3) rfl rfl (by decide) rfl (fun ls hl => ?_)
            refine lv_goto (tgt := 6) hx hb dX7_best_65 (by decide) ?_
            exact bk6 k48_0 y48_4 (y6_3 + 1) _ _ _ hq hP hD hS (lv_sub hl [3, 2, 1, 0] rfl)
        have J35 : ∀ (k35_0 : Int32) (H : Heap) (locs : List Loc) (ls : Array Slot), wp_X7_best_35 v y6_1 y6_2 y6_3 B6 k35_0 Q → va_P (dC, dI) vwCl (wX7 cy a v) H → va_D A (wX7 cy a v) → va_S A s.heap H locs → lv_has ls 5 [(0, .ref (a 0)), (1, .int y6_1), (2, .int y6_2), (3, .int y6_3)] → W p l e (headSpec wsX7_best ({ frames := 3, cells := 0, slots := 0, locals := 70 } : Room)).room s m ([.ref (a 0)] : List Value).toArray below meth c H locs 0 0 (MQ below (q_X7_best dC dI cy a v Q A) ([.ref (a 0)] : List Value).toArray s 0 0 A) (F0 m 35 ls [.int k35_0]) := by
          intro k35_0 H locs ls hq hP hD hS hl
          unfold wp_X7_best_35 at hq
          refine lv_istore (lv' := [(4, .int k35_0), (0, .ref (a 0)), (1, .int y6_1), (2, .int y6_2), (3, .int y6_3)]) hx hb dX7_best_35 hl (by decide) rfl (fun ls hl => ?_)
          refine lv_iload hx hb dX7_best_37 (lv_at hl 0 rfl) ?_
          refine lv_iload_n hx hb dX7_best_39 rfl (lv_at hl 3 rfl) ?_
          obtain ⟨hqA, hqB⟩ := hq
          refine lv_icmp_le (tgt := 47) hx hb dX7_best_40 (by decide) (fun c2 => ?_) (fun c2 => ?_)
          · have hq := hqA c2
            refine lv_iload_n hx hb dX7_best_47 rfl (lv_at hl 2 rfl) ?_
            exact J48 k35_0 y6_1  _ _ _ hq hP hD hS (lv_sub hl [1, 3, 4, 0] rfl)
          · have hq := hqB c2
            refine lv_iload_n hx hb dX7_best_43 rfl (lv_at hl 4 rfl) ?_
            refine lv_goto (tgt := 48) hx hb dX7_best_44 (by decide) ?_
            exact J48 k35_0 y6_3  _ _ _ hq hP hD hS (lv_sub hl [1, 3, 4, 0] rfl)
        refine lv_iload_n hx hb dX7_best_6 rfl (lv_at hl 3 rfl) ?_
        refine lv_bipush (v := 64) hx hb dX7_best_7 (by decide) ?_
        obtain ⟨hqA, hqB⟩ := hq
        refine lv_icmp_ge (tgt := 68) hx hb dX7_best_9 (by decide) (fun c5 => ?_) (fun c5 => ?_)
        · have hq := hqA c5
          refine lv_iload_n hx hb dX7_best_68 rfl (lv_at hl 1 rfl) ?_
          exact W.iret (v := y6_1) hx hb hr (fun t ht hW => ⟨⟨y6_1, (), rfl, hq, (xAt_of hP hK hD ht hW)⟩, hS.F ht⟩) hS.2.2 dX7_best_69
        · have hq := hqB c5
          refine lv_aload_n hx hb dX7_best_12 rfl (lv_at hl 0 rfl) ?_
          refine va_get (D := (dC, dI)) (ci := 7) (v := .ref (a 1)) (C := RX7) (T := TX7) (N := 16) hx hb hts iK7 hown hK hP 0 rfl rfl 0 (by decide) lk0 (fun _ h9 => h9) rfl dX7_best_13 ?_
          refine lv_sipush (v := 200) hx hb dX7_best_16 (by decide) ?_
          refine lv_iload_n hx hb dX7_best_19 rfl (lv_at hl 3 rfl) ?_
          refine lv_iadd hx hb dX7_best_20 ?_
          obtain ⟨g3, hq⟩ := hq
          refine va_iald hx hb hK hP 1 0 rfl rfl g3 dX7_best_21 ?_
          refine lv_iconst (v := 1) hx hb dX7_best_22 (by decide) ?_
          obtain ⟨hqA, hqB⟩ := hq
          refine lv_icmp_ne (tgt := 30) hx hb dX7_best_23 (by decide) (fun c4 => ?_) (fun c4 => ?_)
          · have hq := hqB c4
            refine lv_aload_n hx hb dX7_best_30 rfl (lv_at hl 0 rfl) ?_
            refine lv_iload_n hx hb dX7_best_31 rfl (lv_at hl 3 rfl) ?_
            have hFc := xfree_same hS hAe0 (ws := (wX7 cy a v)) hD
            refine va_calli (va_runV (As := [.int y6_3]) (rest := []) ⟨hx, hb, hml, hown, hts⟩ (c_X7_tunnelsWith l dC dI cy a _ v y6_3 _ hq) (cwV 1 hts gX7_best_X7_tunnelsWith rfl rfl rfl (by decide +kernel) ⟨Nat.le_of_ble_eq_true rfl, Nat.le_of_ble_eq_true rfl⟩) ⟨xPre_blind, va_recv hK hP (ci := 7) (q0 := 0) rfl rfl, xPre_of hP hK hD⟩ rfl rfl hl.1 rfl (lv_room (Nat.le_of_ble_eq_true rfl)) dX7_best_32 ⟨Nat.le_of_ble_eq_true rfl, Nat.le_of_ble_eq_true rfl⟩) hS (fun q _ h => hFc q h) hFc (fun r32 u9 t H locs ht hvm hq hB hz1 hk1 hS => ?_)
            obtain ⟨hP1, -, hD1⟩ := hB
            rw [ht] at hP1
            have hP : va_P (dC, dI) vwCl (wX7 cy a v) H := hP1
            have hD : va_D A (wX7 cy a v) := hD1.weaken (fun _ q _ h => hFc q.1 h)
            exact J35 r32  _ _ _ hq hP hD hS (lv_sub hl [0, 1, 2, 3] rfl)
          · have hq := hqA c4
            refine lv_iconst (v := 0) hx hb dX7_best_26 (by decide) ?_
            refine lv_goto (tgt := 35) hx hb dX7_best_27 (by decide) ?_
            exact J35 0  _ _ _ hq hP hD hS (lv_sub hl [0, 1, 2, 3] rfl)
    exact key _ y6_1 y6_2 y6_3 H locs ls h0 (Nat.lt_succ_self _) hP hD hS hl
  refine lv_iconst (v := (-1)) hx hb dX7_best_0 (by decide) ?_
  refine lv_istore_n (lv' := [(1, .int (-1)), (0, .ref (a 0))]) hx hb dX7_best_1 rfl hl (by decide) rfl (fun ls hl => ?_)
  refine lv_iconst (v := 0) hx hb dX7_best_2 (by decide) ?_
  refine lv_istore_n (lv' := [(2, .int 0), (1, .int (-1)), (0, .ref (a 0))]) hx hb dX7_best_3 rfl hl (by decide) rfl (fun ls hl => ?_)
  refine lv_iconst (v := 0) hx hb dX7_best_4 (by decide) ?_
  refine lv_istore_n (lv' := [(3, .int 0), (2, .int 0), (1, .int (-1)), (0, .ref (a 0))]) hx hb dX7_best_5 rfl hl (by decide) rfl (fun ls hl => ?_)
  exact J6  (-1) 0 0 _ _ _ hq hP hD hS (lv_sub hl [3, 2, 1, 0] rfl)
def wp_X7_bestDig (v : V_X7) (Q : Int32 → Int32 → Prop) : Prop :=
  wp_X7_best (X7_s8 v 0) (fun r6 =>
  Q r6 0)
def q_X7_bestDig (dC : Nat → ClassId) (dI : Nat → Nat → Nat) (cy : Nat → ClassId) (a : Nat → Nat) (v : V_X7) (Q : Int32 → Int32 → Prop) (A : Nat → Prop) : Array Value → State → Outcome → State → Prop := va_Qi (fun (r : Int32) (u : Int32) => Q r u) (fun (u : Int32) t => xAt dC dI cy A (cX7 cy a (X7_s v) (X7_aside v) (X7_kept v) (X7_isKept v) (X7_saved v) (X7_savedMany v) (X7_text v) (X7_length v) u (X7_joint v) (X7_position v) (X7_isWrong v) (X7_isHollow v) (X7_sure v) (X7_away v) (X7_digested v)) t) A
set_option maxHeartbeats 4000000 in
set_option maxRecDepth 100000 in
theorem c_X7_bestDig (l : Launch) (dC : Nat → ClassId) (dI : Nat → Nat → Nat) (cy : Nat → ClassId) (a : Nat → Nat) (sz : Nat) (v : V_X7) (Q : Int32 → Int32 → Prop) (hq : wp_X7_bestDig v Q) : Met l yX7_bestDig wsX7_bestDig ({ frames := 4, cells := 0, slots := 0, locals := 94 } : Room) (va_Pc [.ref (a 0)] (xPre dC dI cy (wX7 cy a v) sz)) (q_X7_bestDig dC dI cy a v Q (va_A (wX7 cy a v) sz)) 0 0 (va_A (wX7 cy a v) sz) := by
  refine Met.ofW (cc := cX7_bestDig) (maxL := 1) (ret := (some .int)) (by decide) rfl ?_
  intro p e s m args below meth c s₁ B hml hv
  obtain ⟨rfl, hsz, hP, hK, hD0⟩ := hv
  have hx := B.exec
  have hb := B.bytes
  have hr := B.returns
  have hts := atoms_spec (ws := wsX7_bestDig) B.pre
  have hown : s.vm.findClass RX7 = some m.cls := findClass_of_methodNamed B.named
  have hlocks := B.notSynchronized
  subst hsz
  have hD := hD0.self (sz := s.heap.size)
  generalize hAe : va_A (wX7 cy a v) s.heap.size = A at hD ⊢
  have hAe0 : ∀ q : Nat, s.heap.size ≤ q → A q := fun q h => by rw [← hAe]; exact Or.inr h
  have hS : va_S A s.heap s.heap [] := va_S.rf
  have hl := lv_entry ([.ref (a 0)]) (n := 1) (Nat.le_of_ble_eq_true rfl)
  rw [lg_entry_eq]
  generalize (lg_sl ([.ref (a 0)]) ++ List.replicate (1 - (lg_sl ([.ref (a 0)])).length) Slot.unset).toArray = ls at hl ⊢
  have hl : lv_has ls 1 [(0, .ref (a 0))] := hl
  have lk0 := hts (Cond.fieldLink RX7 38 "MolesLawnModel" "thrown" "I") (List.mem_cons_of_mem _ (List.mem_append_left _ (List.mem_of_getElem? (i := 0) rfl)))
  have iK7 : ∀ w ∈ wsX70, w ∈ wsX7_bestDig := fun _ h => (List.mem_cons_of_mem _ (List.mem_append_right _ h))
  unfold wp_X7_bestDig at hq
  refine lv_aload_n hx hb dX7_bestDig_0 rfl (lv_at hl 0 rfl) ?_
  refine lv_iconst (v := 0) hx hb dX7_bestDig_1 (by decide) ?_
  refine va_put (D := (dC, dI)) (ci := 7) (v := .int 0) (ty := .int) (C := RX7) (T := TX7) (N := 16) hx hb hts iK7 tyX7 tyX7_ok nmX7 hown hK hP hD hS 0 rfl rfl 8 (by decide) lk0 (fun _ h9 => h9) rfl (by decide +kernel) rfl rfl (Nat.le_of_ble_eq_true rfl) dX7_bestDig_2 (fun H locs hP hD hS => ?_)
  have hP : va_P (dC, dI) vwCl (cX7 cy a (X7_s v) (X7_aside v) (X7_kept v) (X7_isKept v) (X7_saved v) (X7_savedMany v) (X7_text v) (X7_length v) 0 (X7_joint v) (X7_position v) (X7_isWrong v) (X7_isHollow v) (X7_sure v) (X7_away v) (X7_digested v)) H := hP
  have hD : va_D A (cX7 cy a (X7_s v) (X7_aside v) (X7_kept v) (X7_isKept v) (X7_saved v) (X7_savedMany v) (X7_text v) (X7_length v) 0 (X7_joint v) (X7_position v) (X7_isWrong v) (X7_isHollow v) (X7_sure v) (X7_away v) (X7_digested v)) := hD
  refine lv_aload_n hx hb dX7_bestDig_5 rfl (lv_at hl 0 rfl) ?_
  have hFc := xfree_same hS hAe0 (ws := (cX7 cy a (X7_s v) (X7_aside v) (X7_kept v) (X7_isKept v) (X7_saved v) (X7_savedMany v) (X7_text v) (X7_length v) 0 (X7_joint v) (X7_position v) (X7_isWrong v) (X7_isHollow v) (X7_sure v) (X7_away v) (X7_digested v))) hD
  refine va_calli (va_runV (As := []) (rest := []) ⟨hx, hb, hml, hown, hts⟩ (c_X7_best l dC dI cy a _ (X7_s8 v 0) _ hq) (cwV 0 hts gX7_bestDig_X7_best rfl rfl rfl (by decide +kernel) ⟨Nat.le_of_ble_eq_true rfl, Nat.le_of_ble_eq_true rfl⟩) ⟨xPre_blind, va_recv hK hP (ci := 7) (q0 := 0) rfl rfl, xPre_of hP hK hD⟩ rfl rfl hl.1 rfl (lv_room (Nat.le_of_ble_eq_true rfl)) dX7_bestDig_6 ⟨Nat.le_of_ble_eq_true rfl, Nat.le_of_ble_eq_true rfl⟩) hS (fun q _ h => hFc q h) hFc (fun r6 u9 t H locs ht hvm hq hB hz1 hk1 hS => ?_)
  obtain ⟨hP1, -, hD1⟩ := hB
  rw [ht] at hP1
  have hP : va_P (dC, dI) vwCl (cX7 cy a (X7_s v) (X7_aside v) (X7_kept v) (X7_isKept v) (X7_saved v) (X7_savedMany v) (X7_text v) (X7_length v) 0 (X7_joint v) (X7_position v) (X7_isWrong v) (X7_isHollow v) (X7_sure v) (X7_away v) (X7_digested v)) H := hP1
  have hD : va_D A (cX7 cy a (X7_s v) (X7_aside v) (X7_kept v) (X7_isKept v) (X7_saved v) (X7_savedMany v) (X7_text v) (X7_length v) 0 (X7_joint v) (X7_position v) (X7_isWrong v) (X7_isHollow v) (X7_sure v) (X7_away v) (X7_digested v)) := hD1.weaken (fun _ q _ h => hFc q.1 h)
  exact W.iret (v := r6) hx hb hr (fun t ht hW => ⟨⟨r6, 0, rfl, hq, (xAt_of hP hK hD ht hW)⟩, hS.F ht⟩) hS.2.2 dX7_bestDig_9
def wp_X7_passed_47 (v : V_X7) (x1 : Int32) (x2 : Int32) (z47_v_aside : (Nat → Int32)) (z47_v_s : (Nat → Int32)) (k47_0 : Int32) (Q : Int32 → (Nat → Int32) → (Nat → Int32) → Prop) : Prop :=
  wp_X7_putBack (X7_s1 (X7_s0 v z47_v_s) z47_v_aside) (fun z50_v_s =>
  Q k47_0 z47_v_aside z50_v_s)
def wp_X7_passed (v : V_X7) (x1 : Int32) (x2 : Int32) (Q : Int32 → (Nat → Int32) → (Nat → Int32) → Prop) : Prop :=
  wp_X7_putAside v (fun z1_v_aside =>
  vp_in 2 1472 ∧ wp_X7_beats (X7_s1 v z1_v_aside) x1 (fun r13 z13_v_s =>
  ((x2 = 0 → wp_X7_passed_47 v x1 x2 z1_v_aside z13_v_s r13  Q) ∧
  (¬ x2 = 0 → ((x2 = 1 → wp_X7_tunnels (X7_s1 (X7_s0 v z13_v_s) z1_v_aside) (fun r33 =>
  wp_X7_passed_47 v x1 x2 z1_v_aside z13_v_s r33  Q)) ∧
  (¬ x2 = 1 → wp_X7_passed_47 v x1 x2 z1_v_aside z13_v_s ((z13_v_s (2 : Int32).toNatClampNeg) - ((X7_s v) (2 : Int32).toNatClampNeg))  Q))))))
def q_X7_passed (dC : Nat → ClassId) (dI : Nat → Nat → Nat) (cy : Nat → ClassId) (a : Nat → Nat) (v : V_X7) (x1 : Int32) (x2 : Int32) (Q : Int32 → (Nat → Int32) → (Nat → Int32) → Prop) (A : Nat → Prop) : Array Value → State → Outcome → State → Prop := va_Qi (fun (r : Int32) (u : (Nat → Int32) × (Nat → Int32)) => Q r u.1 u.2) (fun (u : (Nat → Int32) × (Nat → Int32)) t => xAt dC dI cy A (cX7 cy a u.2 u.1 (X7_kept v) (X7_isKept v) (X7_saved v) (X7_savedMany v) (X7_text v) (X7_length v) (X7_thrown v) (X7_joint v) (X7_position v) (X7_isWrong v) (X7_isHollow v) (X7_sure v) (X7_away v) (X7_digested v)) t) A
set_option maxHeartbeats 4000000 in
set_option maxRecDepth 100000 in
theorem c_X7_passed (l : Launch) (dC : Nat → ClassId) (dI : Nat → Nat → Nat) (cy : Nat → ClassId) (a : Nat → Nat) (sz : Nat) (v : V_X7) (x1 : Int32) (x2 : Int32) (Q : Int32 → (Nat → Int32) → (Nat → Int32) → Prop) (hq : wp_X7_passed v x1 x2 Q) : Met l yX7_passed wsX7_passed ({ frames := 8, cells := 0, slots := 0, locals := 189 } : Room) (va_Pc [.ref (a 0), .int x1, .int x2] (xPre dC dI cy (wX7 cy a v) sz)) (q_X7_passed dC dI cy a v x1 x2 Q (va_A (wX7 cy a v) sz)) 0 0 (va_A (wX7 cy a v) sz) := by
  refine Met.ofW (cc := cX7_passed) (maxL := 6) (ret := (some .int)) (by decide) rfl ?_
  intro p e s m args below meth c s₁ B hml hv
  obtain ⟨rfl, hsz, hP, hK, hD0⟩ := hv
  have hx := B.exec
  have hb := B.bytes
  have hr := B.returns
  have hts := atoms_spec (ws := wsX7_passed) B.pre
  have hown : s.vm.findClass RX7 = some m.cls := findClass_of_methodNamed B.named
  have hlocks := B.notSynchronized
  subst hsz
  have hD := hD0.self (sz := s.heap.size)
  generalize hAe : va_A (wX7 cy a v) s.heap.size = A at hD ⊢
  have hAe0 : ∀ q : Nat, s.heap.size ≤ q → A q := fun q h => by rw [← hAe]; exact Or.inr h
  have hS : va_S A s.heap s.heap [] := va_S.rf
  have hl := lv_entry ([.ref (a 0), .int x1, .int x2]) (n := 6) (Nat.le_of_ble_eq_true rfl)
  rw [lg_entry_eq]
  generalize (lg_sl ([.ref (a 0), .int x1, .int x2]) ++ List.replicate (6 - (lg_sl ([.ref (a 0), .int x1, .int x2])).length) Slot.unset).toArray = ls at hl ⊢
  have hl : lv_has ls 6 [(0, .ref (a 0)), (1, .int x1), (2, .int x2)] := hl
  have lk0 := hts (Cond.fieldLink RX7 7 "MolesLawnModel" "s" "[I") (List.mem_cons_of_mem _ (List.mem_append_left _ (List.mem_append_left _ (List.mem_of_getElem? (i := 0) rfl))))
  have iK7 : ∀ w ∈ wsX70, w ∈ wsX7_passed := fun _ h => (List.mem_cons_of_mem _ (List.mem_append_right _ h))
  unfold wp_X7_passed at hq
  have J47 : ∀ (z47_v_aside : (Nat → Int32)) (z47_v_s : (Nat → Int32)) (k47_0 : Int32) (H : Heap) (locs : List Loc) (ls : Array Slot), wp_X7_passed_47 v x1 x2 z47_v_aside z47_v_s k47_0 Q → va_P (dC, dI) vwCl (cX7 cy a z47_v_s z47_v_aside (X7_kept v) (X7_isKept v) (X7_saved v) (X7_savedMany v) (X7_text v) (X7_length v) (X7_thrown v) (X7_joint v) (X7_position v) (X7_isWrong v) (X7_isHollow v) (X7_sure v) (X7_away v) (X7_digested v)) H → va_D A (cX7 cy a z47_v_s z47_v_aside (X7_kept v) (X7_isKept v) (X7_saved v) (X7_savedMany v) (X7_text v) (X7_length v) (X7_thrown v) (X7_joint v) (X7_position v) (X7_isWrong v) (X7_isHollow v) (X7_sure v) (X7_away v) (X7_digested v)) → va_S A s.heap H locs → lv_has ls 6 [(0, .ref (a 0))] → W p l e (headSpec wsX7_passed ({ frames := 8, cells := 0, slots := 0, locals := 189 } : Room)).room s m ([.ref (a 0), .int x1, .int x2] : List Value).toArray below meth c H locs 0 0 (MQ below (q_X7_passed dC dI cy a v x1 x2 Q A) ([.ref (a 0), .int x1, .int x2] : List Value).toArray s 0 0 A) (F0 m 47 ls [.int k47_0]) := by
    intro z47_v_aside z47_v_s k47_0 H locs ls hq hP hD hS hl
    unfold wp_X7_passed_47 at hq
    refine lv_istore (lv' := [(5, .int k47_0), (0, .ref (a 0))]) hx hb dX7_passed_47 hl (by decide) rfl (fun ls hl => ?_)
    refine lv_aload_n hx hb dX7_passed_49 rfl (lv_at hl 1 rfl) ?_
    have hFc := xfree_same hS hAe0 (ws := (cX7 cy a z47_v_s z47_v_aside (X7_kept v) (X7_isKept v) (X7_saved v) (X7_savedMany v) (X7_text v) (X7_length v) (X7_thrown v) (X7_joint v) (X7_position v) (X7_isWrong v) (X7_isHollow v) (X7_sure v) (X7_away v) (X7_digested v))) hD
    refine va_callv (va_runV (As := []) (rest := []) ⟨hx, hb, hml, hown, hts⟩ (c_X7_putBack l dC dI cy a _ (X7_s1 (X7_s0 v z47_v_s) z47_v_aside) _ hq) (cwV 0 hts gX7_passed_X7_putBack rfl rfl rfl (by decide +kernel) ⟨Nat.le_of_ble_eq_true rfl, Nat.le_of_ble_eq_true rfl⟩) ⟨xPre_blind, va_recv hK hP (ci := 7) (q0 := 0) rfl rfl, xPre_of hP hK hD⟩ rfl rfl hl.1 rfl (lv_room (Nat.le_of_ble_eq_true rfl)) dX7_passed_50 ⟨Nat.le_of_ble_eq_true rfl, Nat.le_of_ble_eq_true rfl⟩) hS (fun q _ h => hFc q h) hFc (fun z50_v_s t H locs ht hvm hq hB hz1 hk1 hS => ?_)
    obtain ⟨hP1, -, hD1⟩ := hB
    rw [ht] at hP1
    have hP : va_P (dC, dI) vwCl (cX7 cy a z50_v_s z47_v_aside (X7_kept v) (X7_isKept v) (X7_saved v) (X7_savedMany v) (X7_text v) (X7_length v) (X7_thrown v) (X7_joint v) (X7_position v) (X7_isWrong v) (X7_isHollow v) (X7_sure v) (X7_away v) (X7_digested v)) H := hP1
    have hD : va_D A (cX7 cy a z50_v_s z47_v_aside (X7_kept v) (X7_isKept v) (X7_saved v) (X7_savedMany v) (X7_text v) (X7_length v) (X7_thrown v) (X7_joint v) (X7_position v) (X7_isWrong v) (X7_isHollow v) (X7_sure v) (X7_away v) (X7_digested v)) := hD1.weaken (fun _ q _ h => hFc q.1 h)
    refine lv_iload hx hb dX7_passed_53 (lv_at hl 0 rfl) ?_
    exact W.iret (v := k47_0) hx hb hr (fun t ht hW => ⟨⟨k47_0, (z47_v_aside, z50_v_s), rfl, hq, (xAt_of hP hK hD ht hW)⟩, hS.F ht⟩) hS.2.2 dX7_passed_55
  refine lv_aload_n hx hb dX7_passed_0 rfl (lv_at hl 0 rfl) ?_
  have hFc := xfree_same hS hAe0 (ws := (wX7 cy a v)) hD
  refine va_callv (va_runV (As := []) (rest := []) ⟨hx, hb, hml, hown, hts⟩ (c_X7_putAside l dC dI cy a _ v _ hq) (cwV 0 hts gX7_passed_X7_putAside rfl rfl rfl (by decide +kernel) ⟨Nat.le_of_ble_eq_true rfl, Nat.le_of_ble_eq_true rfl⟩) ⟨xPre_blind, va_recv hK hP (ci := 7) (q0 := 0) rfl rfl, xPre_of hP hK hD⟩ rfl rfl hl.1 rfl (lv_room (Nat.le_of_ble_eq_true rfl)) dX7_passed_1 ⟨Nat.le_of_ble_eq_true rfl, Nat.le_of_ble_eq_true rfl⟩) hS (fun q _ h => hFc q h) hFc (fun z1_v_aside t H locs ht hvm hq hB hz1 hk1 hS => ?_)
  obtain ⟨hP1, -, hD1⟩ := hB
  rw [ht] at hP1
  have hP : va_P (dC, dI) vwCl (cX7 cy a (X7_s v) z1_v_aside (X7_kept v) (X7_isKept v) (X7_saved v) (X7_savedMany v) (X7_text v) (X7_length v) (X7_thrown v) (X7_joint v) (X7_position v) (X7_isWrong v) (X7_isHollow v) (X7_sure v) (X7_away v) (X7_digested v)) H := hP1
  have hD : va_D A (cX7 cy a (X7_s v) z1_v_aside (X7_kept v) (X7_isKept v) (X7_saved v) (X7_savedMany v) (X7_text v) (X7_length v) (X7_thrown v) (X7_joint v) (X7_position v) (X7_isWrong v) (X7_isHollow v) (X7_sure v) (X7_away v) (X7_digested v)) := hD1.weaken (fun _ q _ h => hFc q.1 h)
  refine lv_aload_n hx hb dX7_passed_4 rfl (lv_at hl 0 rfl) ?_
  refine va_get (D := (dC, dI)) (ci := 7) (v := .ref (a 1)) (C := RX7) (T := TX7) (N := 16) hx hb hts iK7 hown hK hP 0 rfl rfl 0 (by decide) lk0 (fun _ h9 => h9) rfl dX7_passed_5 ?_
  refine lv_iconst (v := 2) hx hb dX7_passed_8 (by decide) ?_
  obtain ⟨g1, hq⟩ := hq
  refine va_iald hx hb hK hP 1 0 rfl rfl g1 dX7_passed_9 ?_
  refine lv_istore_n (lv' := [(3, .int ((X7_s v) (2 : Int32).toNatClampNeg)), (0, .ref (a 0)), (1, .int x1), (2, .int x2)]) hx hb dX7_passed_10 rfl hl (by decide) rfl (fun ls hl => ?_)
  refine lv_aload_n hx hb dX7_passed_11 rfl (lv_at hl 1 rfl) ?_
  refine lv_iload_n hx hb dX7_passed_12 rfl (lv_at hl 2 rfl) ?_
  have hFc := xfree_same hS hAe0 (ws := (cX7 cy a (X7_s v) z1_v_aside (X7_kept v) (X7_isKept v) (X7_saved v) (X7_savedMany v) (X7_text v) (X7_length v) (X7_thrown v) (X7_joint v) (X7_position v) (X7_isWrong v) (X7_isHollow v) (X7_sure v) (X7_away v) (X7_digested v))) hD
  refine va_calli (va_runV (As := [.int x1]) (rest := []) ⟨hx, hb, hml, hown, hts⟩ (c_X7_beats l dC dI cy a _ (X7_s1 v z1_v_aside) x1 _ hq) (cwV 1 hts gX7_passed_X7_beats rfl rfl rfl (by decide +kernel) ⟨Nat.le_of_ble_eq_true rfl, Nat.le_of_ble_eq_true rfl⟩) ⟨xPre_blind, va_recv hK hP (ci := 7) (q0 := 0) rfl rfl, xPre_of hP hK hD⟩ rfl rfl hl.1 rfl (lv_room (Nat.le_of_ble_eq_true rfl)) dX7_passed_13 ⟨Nat.le_of_ble_eq_true rfl, Nat.le_of_ble_eq_true rfl⟩) hS (fun q _ h => hFc q h) hFc (fun r13 z13_v_s t H locs ht hvm hq hB hz1 hk1 hS => ?_)
  obtain ⟨hP1, -, hD1⟩ := hB
  rw [ht] at hP1
  have hP : va_P (dC, dI) vwCl (cX7 cy a z13_v_s z1_v_aside (X7_kept v) (X7_isKept v) (X7_saved v) (X7_savedMany v) (X7_text v) (X7_length v) (X7_thrown v) (X7_joint v) (X7_position v) (X7_isWrong v) (X7_isHollow v) (X7_sure v) (X7_away v) (X7_digested v)) H := hP1
  have hD : va_D A (cX7 cy a z13_v_s z1_v_aside (X7_kept v) (X7_isKept v) (X7_saved v) (X7_savedMany v) (X7_text v) (X7_length v) (X7_thrown v) (X7_joint v) (X7_position v) (X7_isWrong v) (X7_isHollow v) (X7_sure v) (X7_away v) (X7_digested v)) := hD1.weaken (fun _ q _ h => hFc q.1 h)
  refine lv_istore (lv' := [(4, .int r13), (3, .int ((X7_s v) (2 : Int32).toNatClampNeg)), (0, .ref (a 0)), (1, .int x1), (2, .int x2)]) hx hb dX7_passed_16 hl (by decide) rfl (fun ls hl => ?_)
  refine lv_iload_n hx hb dX7_passed_18 rfl (lv_at hl 4 rfl) ?_
  obtain ⟨hqA, hqB⟩ := hq
  refine lv_if_ne (tgt := 27) hx hb dX7_passed_19 (by decide) (fun c3 => ?_) (fun c3 => ?_)
  · have hq := hqB c3
    refine lv_iload_n hx hb dX7_passed_27 rfl (lv_at hl 4 rfl) ?_
    refine lv_iconst (v := 1) hx hb dX7_passed_28 (by decide) ?_
    obtain ⟨hqA, hqB⟩ := hq
    refine lv_icmp_ne (tgt := 39) hx hb dX7_passed_29 (by decide) (fun c2 => ?_) (fun c2 => ?_)
    · have hq := hqB c2
      refine lv_aload_n hx hb dX7_passed_39 rfl (lv_at hl 2 rfl) ?_
      refine va_get (D := (dC, dI)) (ci := 7) (v := .ref (a 1)) (C := RX7) (T := TX7) (N := 16) hx hb hts iK7 hown hK hP 0 rfl rfl 0 (by decide) lk0 (fun _ h9 => h9) rfl dX7_passed_40 ?_
      refine lv_iconst (v := 2) hx hb dX7_passed_43 (by decide) ?_
      refine va_iald hx hb hK hP 1 0 rfl rfl g1 dX7_passed_44 ?_
      refine lv_iload_n hx hb dX7_passed_45 rfl (lv_at hl 1 rfl) ?_
      refine lv_isub hx hb dX7_passed_46 ?_
      exact J47 z1_v_aside z13_v_s ((z13_v_s (2 : Int32).toNatClampNeg) - ((X7_s v) (2 : Int32).toNatClampNeg))  _ _ _ hq hP hD hS (lv_sub hl [2] rfl)
    · have hq := hqA c2
      refine lv_aload_n hx hb dX7_passed_32 rfl (lv_at hl 2 rfl) ?_
      have hFc := xfree_same hS hAe0 (ws := (cX7 cy a z13_v_s z1_v_aside (X7_kept v) (X7_isKept v) (X7_saved v) (X7_savedMany v) (X7_text v) (X7_length v) (X7_thrown v) (X7_joint v) (X7_position v) (X7_isWrong v) (X7_isHollow v) (X7_sure v) (X7_away v) (X7_digested v))) hD
      refine va_calli (va_runV (As := []) (rest := []) ⟨hx, hb, hml, hown, hts⟩ (c_X7_tunnels l dC dI cy a _ (X7_s1 (X7_s0 v z13_v_s) z1_v_aside) _ hq) (cwV 0 hts gX7_passed_X7_tunnels rfl rfl rfl (by decide +kernel) ⟨Nat.le_of_ble_eq_true rfl, Nat.le_of_ble_eq_true rfl⟩) ⟨xPre_blind, va_recv hK hP (ci := 7) (q0 := 0) rfl rfl, xPre_of hP hK hD⟩ rfl rfl hl.1 rfl (lv_room (Nat.le_of_ble_eq_true rfl)) dX7_passed_33 ⟨Nat.le_of_ble_eq_true rfl, Nat.le_of_ble_eq_true rfl⟩) hS (fun q _ h => hFc q h) hFc (fun r33 u9 t H locs ht hvm hq hB hz1 hk1 hS => ?_)
      obtain ⟨hP1, -, hD1⟩ := hB
      rw [ht] at hP1
      have hP : va_P (dC, dI) vwCl (cX7 cy a z13_v_s z1_v_aside (X7_kept v) (X7_isKept v) (X7_saved v) (X7_savedMany v) (X7_text v) (X7_length v) (X7_thrown v) (X7_joint v) (X7_position v) (X7_isWrong v) (X7_isHollow v) (X7_sure v) (X7_away v) (X7_digested v)) H := hP1
      have hD : va_D A (cX7 cy a z13_v_s z1_v_aside (X7_kept v) (X7_isKept v) (X7_saved v) (X7_savedMany v) (X7_text v) (X7_length v) (X7_thrown v) (X7_joint v) (X7_position v) (X7_isWrong v) (X7_isHollow v) (X7_sure v) (X7_away v) (X7_digested v)) := hD1.weaken (fun _ q _ h => hFc q.1 h)
      refine lv_goto (tgt := 47) hx hb dX7_passed_36 (by decide) ?_
      exact J47 z1_v_aside z13_v_s r33  _ _ _ hq hP hD hS (lv_sub hl [2] rfl)
  · have hq := hqA c3
    refine lv_iload hx hb dX7_passed_22 (lv_at hl 0 rfl) ?_
    refine lv_goto (tgt := 47) hx hb dX7_passed_24 (by decide) ?_
    exact J47 z1_v_aside z13_v_s r13  _ _ _ hq hP hD hS (lv_sub hl [2] rfl)
def wp_X7_ifPassed_25 (v : V_X7) (x1 : Int32) (x2 : Int32) (k25_0 : Int32) (Q : Int32 → (Nat → Int32) → (Nat → Int32) → Int32 → Prop) : Prop :=
  wp_X7_holds v k25_0 (fun r25 z25_v_thrown =>
  ((r25 = 0 → Q 0 (X7_aside v) (X7_s v) z25_v_thrown) ∧
  (¬ r25 = 0 → wp_X7_passed (X7_s8 v z25_v_thrown) x1 x2 (fun r34 z34_v_aside z34_v_s =>
  Q r34 z34_v_aside z34_v_s z25_v_thrown))))
def wp_X7_ifPassed_24 (v : V_X7) (x1 : Int32) (x2 : Int32)  (Q : Int32 → (Nat → Int32) → (Nat → Int32) → Int32 → Prop) : Prop :=
  wp_X7_ifPassed_25 v x1 x2 1  Q
def wp_X7_ifPassed (v : V_X7) (x1 : Int32) (x2 : Int32) (Q : Int32 → (Nat → Int32) → (Nat → Int32) → Int32 → Prop) : Prop :=
  wp_X7_in x1 1 30 (fun r5 =>
  ((r5 = 0 → wp_X7_ifPassed_24 v x1 x2   Q) ∧
  (¬ r5 = 0 → wp_X7_in x2 0 2 (fun r14 =>
  ((r14 = 0 → wp_X7_ifPassed_24 v x1 x2   Q) ∧
  (¬ r14 = 0 → wp_X7_ifPassed_25 v x1 x2 0  Q))))))
def q_X7_ifPassed (dC : Nat → ClassId) (dI : Nat → Nat → Nat) (cy : Nat → ClassId) (a : Nat → Nat) (v : V_X7) (x1 : Int32) (x2 : Int32) (Q : Int32 → (Nat → Int32) → (Nat → Int32) → Int32 → Prop) (A : Nat → Prop) : Array Value → State → Outcome → State → Prop := va_Qi (fun (r : Int32) (u : (Nat → Int32) × (Nat → Int32) × Int32) => Q r u.1 u.2.1 u.2.2) (fun (u : (Nat → Int32) × (Nat → Int32) × Int32) t => xAt dC dI cy A (cX7 cy a u.2.1 u.1 (X7_kept v) (X7_isKept v) (X7_saved v) (X7_savedMany v) (X7_text v) (X7_length v) u.2.2 (X7_joint v) (X7_position v) (X7_isWrong v) (X7_isHollow v) (X7_sure v) (X7_away v) (X7_digested v)) t) A
set_option maxHeartbeats 4000000 in
set_option maxRecDepth 100000 in
theorem c_X7_ifPassed (l : Launch) (dC : Nat → ClassId) (dI : Nat → Nat → Nat) (cy : Nat → ClassId) (a : Nat → Nat) (sz : Nat) (v : V_X7) (x1 : Int32) (x2 : Int32) (Q : Int32 → (Nat → Int32) → (Nat → Int32) → Int32 → Prop) (hq : wp_X7_ifPassed v x1 x2 Q) : Met l yX7_ifPassed wsX7_ifPassed ({ frames := 9, cells := 0, slots := 0, locals := 214 } : Room) (va_Pc [.ref (a 0), .int x1, .int x2] (xPre dC dI cy (wX7 cy a v) sz)) (q_X7_ifPassed dC dI cy a v x1 x2 Q (va_A (wX7 cy a v) sz)) 0 0 (va_A (wX7 cy a v) sz) := by
  refine Met.ofW (cc := cX7_ifPassed) (maxL := 3) (ret := (some .int)) (by decide) rfl ?_
  intro p e s m args below meth c s₁ B hml hv
  obtain ⟨rfl, hsz, hP, hK, hD0⟩ := hv
  have hx := B.exec
  have hb := B.bytes
  have hr := B.returns
  have hts := atoms_spec (ws := wsX7_ifPassed) B.pre
  have hown : s.vm.findClass RX7 = some m.cls := findClass_of_methodNamed B.named
  have hlocks := B.notSynchronized
  subst hsz
  have hD := hD0.self (sz := s.heap.size)
  generalize hAe : va_A (wX7 cy a v) s.heap.size = A at hD ⊢
  have hAe0 : ∀ q : Nat, s.heap.size ≤ q → A q := fun q h => by rw [← hAe]; exact Or.inr h
  have hS : va_S A s.heap s.heap [] := va_S.rf
  have hl := lv_entry ([.ref (a 0), .int x1, .int x2]) (n := 3) (Nat.le_of_ble_eq_true rfl)
  rw [lg_entry_eq]
  generalize (lg_sl ([.ref (a 0), .int x1, .int x2]) ++ List.replicate (3 - (lg_sl ([.ref (a 0), .int x1, .int x2])).length) Slot.unset).toArray = ls at hl ⊢
  have hl : lv_has ls 3 [(0, .ref (a 0)), (1, .int x1), (2, .int x2)] := hl
  unfold wp_X7_ifPassed at hq
  have J25 : ∀ (k25_0 : Int32) (H : Heap) (locs : List Loc) (ls : Array Slot), wp_X7_ifPassed_25 v x1 x2 k25_0 Q → va_P (dC, dI) vwCl (wX7 cy a v) H → va_D A (wX7 cy a v) → va_S A s.heap H locs → lv_has ls 3 [(0, .ref (a 0)), (1, .int x1), (2, .int x2)] → W p l e (headSpec wsX7_ifPassed ({ frames := 9, cells := 0, slots := 0, locals := 214 } : Room)).room s m ([.ref (a 0), .int x1, .int x2] : List Value).toArray below meth c H locs 0 0 (MQ below (q_X7_ifPassed dC dI cy a v x1 x2 Q A) ([.ref (a 0), .int x1, .int x2] : List Value).toArray s 0 0 A) (F0 m 25 ls [.int k25_0, .ref (a 0)]) := by
    intro k25_0 H locs ls hq hP hD hS hl
    unfold wp_X7_ifPassed_25 at hq
    have hFc := xfree_same hS hAe0 (ws := (wX7 cy a v)) hD
    refine va_calli (va_runV (As := [.int k25_0]) (rest := []) ⟨hx, hb, hml, hown, hts⟩ (c_X7_holds l dC dI cy a _ v k25_0 _ hq) (cwV 1 hts gX7_ifPassed_X7_holds rfl rfl rfl (by decide +kernel) ⟨Nat.le_of_ble_eq_true rfl, Nat.le_of_ble_eq_true rfl⟩) ⟨xPre_blind, va_recv hK hP (ci := 7) (q0 := 0) rfl rfl, xPre_of hP hK hD⟩ rfl rfl hl.1 rfl (lv_room (Nat.le_of_ble_eq_true rfl)) dX7_ifPassed_25 ⟨Nat.le_of_ble_eq_true rfl, Nat.le_of_ble_eq_true rfl⟩) hS (fun q _ h => hFc q h) hFc (fun r25 z25_v_thrown t H locs ht hvm hq hB hz1 hk1 hS => ?_)
    obtain ⟨hP1, -, hD1⟩ := hB
    rw [ht] at hP1
    have hP : va_P (dC, dI) vwCl (cX7 cy a (X7_s v) (X7_aside v) (X7_kept v) (X7_isKept v) (X7_saved v) (X7_savedMany v) (X7_text v) (X7_length v) z25_v_thrown (X7_joint v) (X7_position v) (X7_isWrong v) (X7_isHollow v) (X7_sure v) (X7_away v) (X7_digested v)) H := hP1
    have hD : va_D A (cX7 cy a (X7_s v) (X7_aside v) (X7_kept v) (X7_isKept v) (X7_saved v) (X7_savedMany v) (X7_text v) (X7_length v) z25_v_thrown (X7_joint v) (X7_position v) (X7_isWrong v) (X7_isHollow v) (X7_sure v) (X7_away v) (X7_digested v)) := hD1.weaken (fun _ q _ h => hFc q.1 h)
    obtain ⟨hqA, hqB⟩ := hq
    refine lv_if_eq (tgt := 40) hx hb dX7_ifPassed_28 (by decide) (fun c1 => ?_) (fun c1 => ?_)
    · have hq := hqA c1
      refine lv_iconst (v := 0) hx hb dX7_ifPassed_40 (by decide) ?_
      exact W.iret (v := 0) hx hb hr (fun t ht hW => ⟨⟨0, ((X7_aside v), (X7_s v), z25_v_thrown), rfl, hq, (xAt_of hP hK hD ht hW)⟩, hS.F ht⟩) hS.2.2 dX7_ifPassed_41
    · have hq := hqB c1
      refine lv_aload_n hx hb dX7_ifPassed_31 rfl (lv_at hl 0 rfl) ?_
      refine lv_iload_n hx hb dX7_ifPassed_32 rfl (lv_at hl 1 rfl) ?_
      refine lv_iload_n hx hb dX7_ifPassed_33 rfl (lv_at hl 2 rfl) ?_
      have hFc := xfree_same hS hAe0 (ws := (cX7 cy a (X7_s v) (X7_aside v) (X7_kept v) (X7_isKept v) (X7_saved v) (X7_savedMany v) (X7_text v) (X7_length v) z25_v_thrown (X7_joint v) (X7_position v) (X7_isWrong v) (X7_isHollow v) (X7_sure v) (X7_away v) (X7_digested v))) hD
      refine va_calli (va_runV (As := [.int x1, .int x2]) (rest := []) ⟨hx, hb, hml, hown, hts⟩ (c_X7_passed l dC dI cy a _ (X7_s8 v z25_v_thrown) x1 x2 _ hq) (cwV 2 hts gX7_ifPassed_X7_passed rfl rfl rfl (by decide +kernel) ⟨Nat.le_of_ble_eq_true rfl, Nat.le_of_ble_eq_true rfl⟩) ⟨xPre_blind, va_recv hK hP (ci := 7) (q0 := 0) rfl rfl, xPre_of hP hK hD⟩ rfl rfl hl.1 rfl (lv_room (Nat.le_of_ble_eq_true rfl)) dX7_ifPassed_34 ⟨Nat.le_of_ble_eq_true rfl, Nat.le_of_ble_eq_true rfl⟩) hS (fun q _ h => hFc q h) hFc (fun r34 u9 t H locs ht hvm hq hB hz1 hk1 hS => ?_)
      obtain ⟨z34_v_aside, z34_v_s⟩ := u9
      obtain ⟨hP1, -, hD1⟩ := hB
      rw [ht] at hP1
      have hP : va_P (dC, dI) vwCl (cX7 cy a z34_v_s z34_v_aside (X7_kept v) (X7_isKept v) (X7_saved v) (X7_savedMany v) (X7_text v) (X7_length v) z25_v_thrown (X7_joint v) (X7_position v) (X7_isWrong v) (X7_isHollow v) (X7_sure v) (X7_away v) (X7_digested v)) H := hP1
      have hD : va_D A (cX7 cy a z34_v_s z34_v_aside (X7_kept v) (X7_isKept v) (X7_saved v) (X7_savedMany v) (X7_text v) (X7_length v) z25_v_thrown (X7_joint v) (X7_position v) (X7_isWrong v) (X7_isHollow v) (X7_sure v) (X7_away v) (X7_digested v)) := hD1.weaken (fun _ q _ h => hFc q.1 h)
      refine lv_goto (tgt := 41) hx hb dX7_ifPassed_37 (by decide) ?_
      exact W.iret (v := r34) hx hb hr (fun t ht hW => ⟨⟨r34, (z34_v_aside, z34_v_s, z25_v_thrown), rfl, hq, (xAt_of hP hK hD ht hW)⟩, hS.F ht⟩) hS.2.2 dX7_ifPassed_41
  have J24 : ∀  (H : Heap) (locs : List Loc) (ls : Array Slot), wp_X7_ifPassed_24 v x1 x2  Q → va_P (dC, dI) vwCl (wX7 cy a v) H → va_D A (wX7 cy a v) → va_S A s.heap H locs → lv_has ls 3 [(0, .ref (a 0)), (1, .int x1), (2, .int x2)] → W p l e (headSpec wsX7_ifPassed ({ frames := 9, cells := 0, slots := 0, locals := 214 } : Room)).room s m ([.ref (a 0), .int x1, .int x2] : List Value).toArray below meth c H locs 0 0 (MQ below (q_X7_ifPassed dC dI cy a v x1 x2 Q A) ([.ref (a 0), .int x1, .int x2] : List Value).toArray s 0 0 A) (F0 m 24 ls [.ref (a 0)]) := by
    intro  H locs ls hq hP hD hS hl
    unfold wp_X7_ifPassed_24 at hq
    refine lv_iconst (v := 1) hx hb dX7_ifPassed_24 (by decide) ?_
    exact J25 1  _ _ _ hq hP hD hS (lv_sub hl [0, 1, 2] rfl)
  refine lv_aload_n hx hb dX7_ifPassed_0 rfl (lv_at hl 0 rfl) ?_
  refine lv_iload_n hx hb dX7_ifPassed_1 rfl (lv_at hl 1 rfl) ?_
  refine lv_iconst (v := 1) hx hb dX7_ifPassed_2 (by decide) ?_
  refine lv_bipush (v := 30) hx hb dX7_ifPassed_3 (by decide) ?_
  have hFc := xfree_none hS hAe0
  refine va_calli (va_runS (As := [.int x1, .int 1, .int 30]) (rest := [.ref (a 0)]) ⟨hx, hb, hml, hown, hts⟩ (c_X7_in l dC dI cy  _ x1 1 30 _ hq) (va_cwS 3 hts gX7_ifPassed_X7_in rfl rfl rfl (by decide +kernel) ⟨Nat.le_of_ble_eq_true rfl, Nat.le_of_ble_eq_true rfl⟩) ⟨xPre_blind, xPre_of xP_nil hK (xD_nil (A := A))⟩ rfl rfl hl.1 rfl (lv_room (Nat.le_of_ble_eq_true rfl)) dX7_ifPassed_5 ⟨Nat.le_of_ble_eq_true rfl, Nat.le_of_ble_eq_true rfl⟩) hS (fun q _ h => hFc q h) hFc (fun r5 u9 t H locs ht hvm hq hB hz1 hk1 hS => ?_)
  have hP := xj_none hP hk1
  obtain ⟨hqA, hqB⟩ := hq
  refine lv_if_eq (tgt := 24) hx hb dX7_ifPassed_8 (by decide) (fun c3 => ?_) (fun c3 => ?_)
  · have hq := hqA c3
    exact J24   _ _ _ hq hP hD hS (lv_sub hl [0, 1, 2] rfl)
  · have hq := hqB c3
    refine lv_iload_n hx hb dX7_ifPassed_11 rfl (lv_at hl 2 rfl) ?_
    refine lv_iconst (v := 0) hx hb dX7_ifPassed_12 (by decide) ?_
    refine lv_iconst (v := 2) hx hb dX7_ifPassed_13 (by decide) ?_
    have hFc := xfree_none hS hAe0
    refine va_calli (va_runS (As := [.int x2, .int 0, .int 2]) (rest := [.ref (a 0)]) ⟨hx, hb, hml, hown, hts⟩ (c_X7_in l dC dI cy  _ x2 0 2 _ hq) (va_cwS 3 hts gX7_ifPassed_X7_in rfl rfl rfl (by decide +kernel) ⟨Nat.le_of_ble_eq_true rfl, Nat.le_of_ble_eq_true rfl⟩) ⟨xPre_blind, xPre_of xP_nil hK (xD_nil (A := A))⟩ rfl rfl hl.1 rfl (lv_room (Nat.le_of_ble_eq_true rfl)) dX7_ifPassed_14 ⟨Nat.le_of_ble_eq_true rfl, Nat.le_of_ble_eq_true rfl⟩) hS (fun q _ h => hFc q h) hFc (fun r14 u9 t H locs ht hvm hq hB hz1 hk1 hS => ?_)
    have hP := xj_none hP hk1
    obtain ⟨hqA, hqB⟩ := hq
    refine lv_if_eq (tgt := 24) hx hb dX7_ifPassed_17 (by decide) (fun c2 => ?_) (fun c2 => ?_)
    · have hq := hqA c2
      exact J24   _ _ _ hq hP hD hS (lv_sub hl [0, 1, 2] rfl)
    · have hq := hqB c2
      refine lv_iconst (v := 0) hx hb dX7_ifPassed_20 (by decide) ?_
      refine lv_goto (tgt := 25) hx hb dX7_ifPassed_21 (by decide) ?_
      exact J25 0  _ _ _ hq hP hD hS (lv_sub hl [0, 1, 2] rfl)
def wp_X7_whenMound_30 (v : V_X7) (y30_1 : Int32) (y30_2 : Int32) (z30_v_aside : (Nat → Int32)) (z30_v_s : (Nat → Int32)) (Q : Int32 → (Nat → Int32) → (Nat → Int32) → Prop) : Prop :=
  wp_X7_putBack (X7_s1 (X7_s0 v z30_v_s) z30_v_aside) (fun z31_v_s =>
  ((y30_2 ≤ 0 → Q (-1) z30_v_aside z31_v_s) ∧
  (¬ y30_2 ≤ 0 → Q y30_1 z30_v_aside z31_v_s)))
def wb_X7_whenMound_8 (v : V_X7) (z8_v_aside : (Nat → Int32)) (y8_1 : Int32) (y8_2 : Int32) (z8_v_s : (Nat → Int32)) (B8 : Int32 → Int32 → (Nat → Int32) → Prop) (Q : Int32 → (Nat → Int32) → (Nat → Int32) → Prop) : Prop :=
  ((100 ≤ y8_1 → wp_X7_whenMound_30 v y8_1 y8_2 z8_v_aside z8_v_s  Q) ∧
  (¬ 100 ≤ y8_1 → ((y8_2 = 0 → wp_X7_beats (X7_s1 (X7_s0 v z8_v_s) z8_v_aside) 1 (fun r20 z20_v_s =>
  B8 (y8_1 + 1) r20 z20_v_s)) ∧
  (¬ y8_2 = 0 → wp_X7_whenMound_30 v y8_1 y8_2 z8_v_aside z8_v_s  Q))))
def wp_X7_whenMound_8 (v : V_X7) (z8_v_aside : (Nat → Int32)) (y8_1 : Int32) (y8_2 : Int32) (z8_v_s : (Nat → Int32)) (Q : Int32 → (Nat → Int32) → (Nat → Int32) → Prop) : Prop :=
  ∃ (I : Int32 → Int32 → (Nat → Int32) → Prop) (μ : Int32 → Int32 → (Nat → Int32) → Nat), I y8_1 y8_2 z8_v_s ∧ ∀ (s0 : Int32) (s1 : Int32) (s2 : (Nat → Int32)), I s0 s1 s2 → wb_X7_whenMound_8 v z8_v_aside s0 s1 s2 (fun t0 t1 t2 => I t0 t1 t2 ∧ μ t0 t1 t2 < μ s0 s1 s2) Q
def wp_X7_whenMound (v : V_X7) (Q : Int32 → (Nat → Int32) → (Nat → Int32) → Prop) : Prop :=
  wp_X7_putAside v (fun z1_v_aside =>
  wp_X7_whenMound_8 v z1_v_aside 0 0 (X7_s v) Q)
def q_X7_whenMound (dC : Nat → ClassId) (dI : Nat → Nat → Nat) (cy : Nat → ClassId) (a : Nat → Nat) (v : V_X7) (Q : Int32 → (Nat → Int32) → (Nat → Int32) → Prop) (A : Nat → Prop) : Array Value → State → Outcome → State → Prop := va_Qi (fun (r : Int32) (u : (Nat → Int32) × (Nat → Int32)) => Q r u.1 u.2) (fun (u : (Nat → Int32) × (Nat → Int32)) t => xAt dC dI cy A (cX7 cy a u.2 u.1 (X7_kept v) (X7_isKept v) (X7_saved v) (X7_savedMany v) (X7_text v) (X7_length v) (X7_thrown v) (X7_joint v) (X7_position v) (X7_isWrong v) (X7_isHollow v) (X7_sure v) (X7_away v) (X7_digested v)) t) A
set_option maxHeartbeats 4000000 in
set_option maxRecDepth 100000 in
theorem c_X7_whenMound (l : Launch) (dC : Nat → ClassId) (dI : Nat → Nat → Nat) (cy : Nat → ClassId) (a : Nat → Nat) (sz : Nat) (v : V_X7) (Q : Int32 → (Nat → Int32) → (Nat → Int32) → Prop) (hq : wp_X7_whenMound v Q) : Met l yX7_whenMound wsX7_whenMound ({ frames := 8, cells := 0, slots := 0, locals := 189 } : Room) (va_Pc [.ref (a 0)] (xPre dC dI cy (wX7 cy a v) sz)) (q_X7_whenMound dC dI cy a v Q (va_A (wX7 cy a v) sz)) 0 0 (va_A (wX7 cy a v) sz) := by
  refine Met.ofW (cc := cX7_whenMound) (maxL := 3) (ret := (some .int)) (by decide) rfl ?_
  intro p e s m args below meth c s₁ B hml hv
  obtain ⟨rfl, hsz, hP, hK, hD0⟩ := hv
  have hx := B.exec
  have hb := B.bytes
  have hr := B.returns
  have hts := atoms_spec (ws := wsX7_whenMound) B.pre
  have hown : s.vm.findClass RX7 = some m.cls := findClass_of_methodNamed B.named
  have hlocks := B.notSynchronized
  subst hsz
  have hD := hD0.self (sz := s.heap.size)
  generalize hAe : va_A (wX7 cy a v) s.heap.size = A at hD ⊢
  have hAe0 : ∀ q : Nat, s.heap.size ≤ q → A q := fun q h => by rw [← hAe]; exact Or.inr h
  have hS : va_S A s.heap s.heap [] := va_S.rf
  have hl := lv_entry ([.ref (a 0)]) (n := 3) (Nat.le_of_ble_eq_true rfl)
  rw [lg_entry_eq]
  generalize (lg_sl ([.ref (a 0)]) ++ List.replicate (3 - (lg_sl ([.ref (a 0)])).length) Slot.unset).toArray = ls at hl ⊢
  have hl : lv_has ls 3 [(0, .ref (a 0))] := hl
  unfold wp_X7_whenMound at hq
  have J30 : ∀ (y30_1 : Int32) (y30_2 : Int32) (z30_v_aside : (Nat → Int32)) (z30_v_s : (Nat → Int32)) (H : Heap) (locs : List Loc) (ls : Array Slot), wp_X7_whenMound_30 v y30_1 y30_2 z30_v_aside z30_v_s Q → va_P (dC, dI) vwCl (cX7 cy a z30_v_s z30_v_aside (X7_kept v) (X7_isKept v) (X7_saved v) (X7_savedMany v) (X7_text v) (X7_length v) (X7_thrown v) (X7_joint v) (X7_position v) (X7_isWrong v) (X7_isHollow v) (X7_sure v) (X7_away v) (X7_digested v)) H → va_D A (cX7 cy a z30_v_s z30_v_aside (X7_kept v) (X7_isKept v) (X7_saved v) (X7_savedMany v) (X7_text v) (X7_length v) (X7_thrown v) (X7_joint v) (X7_position v) (X7_isWrong v) (X7_isHollow v) (X7_sure v) (X7_away v) (X7_digested v)) → va_S A s.heap H locs → lv_has ls 3 [(0, .ref (a 0)), (1, .int y30_1), (2, .int y30_2)] → W p l e (headSpec wsX7_whenMound ({ frames := 8, cells := 0, slots := 0, locals := 189 } : Room)).room s m ([.ref (a 0)] : List Value).toArray below meth c H locs 0 0 (MQ below (q_X7_whenMound dC dI cy a v Q A) ([.ref (a 0)] : List Value).toArray s 0 0 A) (F0 m 30 ls []) := by
    intro y30_1 y30_2 z30_v_aside z30_v_s H locs ls hq hP hD hS hl
    unfold wp_X7_whenMound_30 at hq
    refine lv_aload_n hx hb dX7_whenMound_30 rfl (lv_at hl 0 rfl) ?_
    have hFc := xfree_same hS hAe0 (ws := (cX7 cy a z30_v_s z30_v_aside (X7_kept v) (X7_isKept v) (X7_saved v) (X7_savedMany v) (X7_text v) (X7_length v) (X7_thrown v) (X7_joint v) (X7_position v) (X7_isWrong v) (X7_isHollow v) (X7_sure v) (X7_away v) (X7_digested v))) hD
    refine va_callv (va_runV (As := []) (rest := []) ⟨hx, hb, hml, hown, hts⟩ (c_X7_putBack l dC dI cy a _ (X7_s1 (X7_s0 v z30_v_s) z30_v_aside) _ hq) (cwV 0 hts gX7_whenMound_X7_putBack rfl rfl rfl (by decide +kernel) ⟨Nat.le_of_ble_eq_true rfl, Nat.le_of_ble_eq_true rfl⟩) ⟨xPre_blind, va_recv hK hP (ci := 7) (q0 := 0) rfl rfl, xPre_of hP hK hD⟩ rfl rfl hl.1 rfl (lv_room (Nat.le_of_ble_eq_true rfl)) dX7_whenMound_31 ⟨Nat.le_of_ble_eq_true rfl, Nat.le_of_ble_eq_true rfl⟩) hS (fun q _ h => hFc q h) hFc (fun z31_v_s t H locs ht hvm hq hB hz1 hk1 hS => ?_)
    obtain ⟨hP1, -, hD1⟩ := hB
    rw [ht] at hP1
    have hP : va_P (dC, dI) vwCl (cX7 cy a z31_v_s z30_v_aside (X7_kept v) (X7_isKept v) (X7_saved v) (X7_savedMany v) (X7_text v) (X7_length v) (X7_thrown v) (X7_joint v) (X7_position v) (X7_isWrong v) (X7_isHollow v) (X7_sure v) (X7_away v) (X7_digested v)) H := hP1
    have hD : va_D A (cX7 cy a z31_v_s z30_v_aside (X7_kept v) (X7_isKept v) (X7_saved v) (X7_savedMany v) (X7_text v) (X7_length v) (X7_thrown v) (X7_joint v) (X7_position v) (X7_isWrong v) (X7_isHollow v) (X7_sure v) (X7_away v) (X7_digested v)) := hD1.weaken (fun _ q _ h => hFc q.1 h)
    refine lv_iload_n hx hb dX7_whenMound_34 rfl (lv_at hl 2 rfl) ?_
    obtain ⟨hqA, hqB⟩ := hq
    refine lv_if_le (tgt := 42) hx hb dX7_whenMound_35 (by decide) (fun c1 => ?_) (fun c1 => ?_)
    · have hq := hqA c1
      refine lv_iconst (v := (-1)) hx hb dX7_whenMound_42 (by decide) ?_
      exact W.iret (v := (-1)) hx hb hr (fun t ht hW => ⟨⟨(-1), (z30_v_aside, z31_v_s), rfl, hq, (xAt_of hP hK hD ht hW)⟩, hS.F ht⟩) hS.2.2 dX7_whenMound_43
    · have hq := hqB c1
      refine lv_iload_n hx hb dX7_whenMound_38 rfl (lv_at hl 1 rfl) ?_
      refine lv_goto (tgt := 43) hx hb dX7_whenMound_39 (by decide) ?_
      exact W.iret (v := y30_1) hx hb hr (fun t ht hW => ⟨⟨y30_1, (z30_v_aside, z31_v_s), rfl, hq, (xAt_of hP hK hD ht hW)⟩, hS.F ht⟩) hS.2.2 dX7_whenMound_43
  have J8 : ∀ (z8_v_aside : (Nat → Int32)) (y8_1 : Int32) (y8_2 : Int32) (z8_v_s : (Nat → Int32)) (H : Heap) (locs : List Loc) (ls : Array Slot), wp_X7_whenMound_8 v z8_v_aside y8_1 y8_2 z8_v_s Q → va_P (dC, dI) vwCl (cX7 cy a z8_v_s z8_v_aside (X7_kept v) (X7_isKept v) (X7_saved v) (X7_savedMany v) (X7_text v) (X7_length v) (X7_thrown v) (X7_joint v) (X7_position v) (X7_isWrong v) (X7_isHollow v) (X7_sure v) (X7_away v) (X7_digested v)) H → va_D A (cX7 cy a z8_v_s z8_v_aside (X7_kept v) (X7_isKept v) (X7_saved v) (X7_savedMany v) (X7_text v) (X7_length v) (X7_thrown v) (X7_joint v) (X7_position v) (X7_isWrong v) (X7_isHollow v) (X7_sure v) (X7_away v) (X7_digested v)) → va_S A s.heap H locs → lv_has ls 3 [(0, .ref (a 0)), (1, .int y8_1), (2, .int y8_2)] → W p l e (headSpec wsX7_whenMound ({ frames := 8, cells := 0, slots := 0, locals := 189 } : Room)).room s m ([.ref (a 0)] : List Value).toArray below meth c H locs 0 0 (MQ below (q_X7_whenMound dC dI cy a v Q A) ([.ref (a 0)] : List Value).toArray s 0 0 A) (F0 m 8 ls []) := by
    intro z8_v_aside y8_1 y8_2 z8_v_s H locs ls hq hP hD hS hl
    obtain ⟨I8, μ8, h0, hs8⟩ := hq
    have key : ∀ (n : Nat) (y8_1 : Int32) (y8_2 : Int32) (z8_v_s : (Nat → Int32)) (H : Heap) (locs : List Loc) (ls : Array Slot), I8 y8_1 y8_2 z8_v_s → μ8 y8_1 y8_2 z8_v_s < n → va_P (dC, dI) vwCl (cX7 cy a z8_v_s z8_v_aside (X7_kept v) (X7_isKept v) (X7_saved v) (X7_savedMany v) (X7_text v) (X7_length v) (X7_thrown v) (X7_joint v) (X7_position v) (X7_isWrong v) (X7_isHollow v) (X7_sure v) (X7_away v) (X7_digested v)) H → va_D A (cX7 cy a z8_v_s z8_v_aside (X7_kept v) (X7_isKept v) (X7_saved v) (X7_savedMany v) (X7_text v) (X7_length v) (X7_thrown v) (X7_joint v) (X7_position v) (X7_isWrong v) (X7_isHollow v) (X7_sure v) (X7_away v) (X7_digested v)) → va_S A s.heap H locs → lv_has ls 3 [(0, .ref (a 0)), (1, .int y8_1), (2, .int y8_2)] → W p l e (headSpec wsX7_whenMound ({ frames := 8, cells := 0, slots := 0, locals := 189 } : Room)).room s m ([.ref (a 0)] : List Value).toArray below meth c H locs 0 0 (MQ below (q_X7_whenMound dC dI cy a v Q A) ([.ref (a 0)] : List Value).toArray s 0 0 A) (F0 m 8 ls []) := by
      intro n
      induction n with
      | zero => intro y8_1 y8_2 z8_v_s H locs ls _ hm; exact absurd hm (Nat.not_lt_zero _)
      | succ n ih =>
        intro y8_1 y8_2 z8_v_s H locs ls hI hm hP hD hS hl
        have hq := hs8 y8_1 y8_2 z8_v_s hI
        generalize hB8 : (fun (t0 : Int32) (t1 : Int32) (t2 : (Nat → Int32)) => I8 t0 t1 t2 ∧ μ8 t0 t1 t2 < μ8 y8_1 y8_2 z8_v_s) = B8 at hq
        have bk8 : ∀ (y8_1 : Int32) (y8_2 : Int32) (z8_v_s : (Nat → Int32)) (H : Heap) (locs : List Loc) (ls : Array Slot), B8 y8_1 y8_2 z8_v_s → va_P (dC, dI) vwCl (cX7 cy a z8_v_s z8_v_aside (X7_kept v) (X7_isKept v) (X7_saved v) (X7_savedMany v) (X7_text v) (X7_length v) (X7_thrown v) (X7_joint v) (X7_position v) (X7_isWrong v) (X7_isHollow v) (X7_sure v) (X7_away v) (X7_digested v)) H → va_D A (cX7 cy a z8_v_s z8_v_aside (X7_kept v) (X7_isKept v) (X7_saved v) (X7_savedMany v) (X7_text v) (X7_length v) (X7_thrown v) (X7_joint v) (X7_position v) (X7_isWrong v) (X7_isHollow v) (X7_sure v) (X7_away v) (X7_digested v)) → va_S A s.heap H locs → lv_has ls 3 [(0, .ref (a 0)), (1, .int y8_1), (2, .int y8_2)] → W p l e (headSpec wsX7_whenMound ({ frames := 8, cells := 0, slots := 0, locals := 189 } : Room)).room s m ([.ref (a 0)] : List Value).toArray below meth c H locs 0 0 (MQ below (q_X7_whenMound dC dI cy a v Q A) ([.ref (a 0)] : List Value).toArray s 0 0 A) (F0 m 8 ls []) := by
          intro y8_1 y8_2 z8_v_s H locs ls h
          rw [← hB8] at h
          exact ih y8_1 y8_2 z8_v_s H locs ls h.1 (Nat.lt_of_lt_of_le h.2 (Nat.le_of_lt_succ hm))
        unfold wb_X7_whenMound_8 at hq
        refine lv_iload_n hx hb dX7_whenMound_8 rfl (lv_at hl 1 rfl) ?_
        refine lv_bipush (v := 100) hx hb dX7_whenMound_9 (by decide) ?_
        obtain ⟨hqA, hqB⟩ := hq
        refine lv_icmp_ge (tgt := 30) hx hb dX7_whenMound_11 (by decide) (fun c3 => ?_) (fun c3 => ?_)
        · have hq := hqA c3
          exact J30 y8_1 y8_2 z8_v_aside z8_v_s  _ _ _ hq hP hD hS (lv_sub hl [0, 1, 2] rfl)
        · have hq := hqB c3
          refine lv_iload_n hx hb dX7_whenMound_14 rfl (lv_at hl 2 rfl) ?_
          obtain ⟨hqA, hqB⟩ := hq
          refine lv_if_ne (tgt := 30) hx hb dX7_whenMound_15 (by decide) (fun c2 => ?_) (fun c2 => ?_)
          · have hq := hqB c2
            exact J30 y8_1 y8_2 z8_v_aside z8_v_s  _ _ _ hq hP hD hS (lv_sub hl [0, 1, 2] rfl)
          · have hq := hqA c2
            refine lv_aload_n hx hb dX7_whenMound_18 rfl (lv_at hl 0 rfl) ?_
            refine lv_iconst (v := 1) hx hb dX7_whenMound_19 (by decide) ?_
            have hFc := xfree_same hS hAe0 (ws := (cX7 cy a z8_v_s z8_v_aside (X7_kept v) (X7_isKept v) (X7_saved v) (X7_savedMany v) (X7_text v) (X7_length v) (X7_thrown v) (X7_joint v) (X7_position v) (X7_isWrong v) (X7_isHollow v) (X7_sure v) (X7_away v) (X7_digested v))) hD
            refine va_calli (va_runV (As := [.int 1]) (rest := []) ⟨hx, hb, hml, hown, hts⟩ (c_X7_beats l dC dI cy a _ (X7_s1 (X7_s0 v z8_v_s) z8_v_aside) 1 _ hq) (cwV 1 hts gX7_whenMound_X7_beats rfl rfl rfl (by decide +kernel) ⟨Nat.le_of_ble_eq_true rfl, Nat.le_of_ble_eq_true rfl⟩) ⟨xPre_blind, va_recv hK hP (ci := 7) (q0 := 0) rfl rfl, xPre_of hP hK hD⟩ rfl rfl hl.1 rfl (lv_room (Nat.le_of_ble_eq_true rfl)) dX7_whenMound_20 ⟨Nat.le_of_ble_eq_true rfl, Nat.le_of_ble_eq_true rfl⟩) hS (fun q _ h => hFc q h) hFc (fun r20 z20_v_s t H locs ht hvm hq hB hz1 hk1 hS => ?_)
            obtain ⟨hP1, -, hD1⟩ := hB
            rw [ht] at hP1
            have hP : va_P (dC, dI) vwCl (cX7 cy a z20_v_s z8_v_aside (X7_kept v) (X7_isKept v) (X7_saved v) (X7_savedMany v) (X7_text v) (X7_length v) (X7_thrown v) (X7_joint v) (X7_position v) (X7_isWrong v) (X7_isHollow v) (X7_sure v) (X7_away v) (X7_digested v)) H := hP1
            have hD : va_D A (cX7 cy a z20_v_s z8_v_aside (X7_kept v) (X7_isKept v) (X7_saved v) (X7_savedMany v) (X7_text v) (X7_length v) (X7_thrown v) (X7_joint v) (X7_position v) (X7_isWrong v) (X7_isHollow v) (X7_sure v) (X7_away v) (X7_digested v)) := hD1.weaken (fun _ q _ h => hFc q.1 h)
            refine lv_istore_n (lv' := [(2, .int r20), (0, .ref (a 0)), (1, .int y8_1)]) hx hb dX7_whenMound_23 rfl hl (by decide) rfl (fun ls hl => ?_)
            refine lv_iinc (v := (y8_1 + 1)) (lv' := [(1, .int (y8_1 + 1)), (2, .int r20), (0, .ref (a 0))]) hx hb dX7_whenMound_24 hl (k := 2) rfl rfl (by decide) rfl (fun ls hl => ?_)
            refine lv_goto (tgt := 8) hx hb dX7_whenMound_27 (by decide) ?_
            exact bk8 (y8_1 + 1) r20 z20_v_s _ _ _ hq hP hD hS (lv_sub hl [2, 0, 1] rfl)
    exact key _ y8_1 y8_2 z8_v_s H locs ls h0 (Nat.lt_succ_self _) hP hD hS hl
  refine lv_aload_n hx hb dX7_whenMound_0 rfl (lv_at hl 0 rfl) ?_
  have hFc := xfree_same hS hAe0 (ws := (wX7 cy a v)) hD
  refine va_callv (va_runV (As := []) (rest := []) ⟨hx, hb, hml, hown, hts⟩ (c_X7_putAside l dC dI cy a _ v _ hq) (cwV 0 hts gX7_whenMound_X7_putAside rfl rfl rfl (by decide +kernel) ⟨Nat.le_of_ble_eq_true rfl, Nat.le_of_ble_eq_true rfl⟩) ⟨xPre_blind, va_recv hK hP (ci := 7) (q0 := 0) rfl rfl, xPre_of hP hK hD⟩ rfl rfl hl.1 rfl (lv_room (Nat.le_of_ble_eq_true rfl)) dX7_whenMound_1 ⟨Nat.le_of_ble_eq_true rfl, Nat.le_of_ble_eq_true rfl⟩) hS (fun q _ h => hFc q h) hFc (fun z1_v_aside t H locs ht hvm hq hB hz1 hk1 hS => ?_)
  obtain ⟨hP1, -, hD1⟩ := hB
  rw [ht] at hP1
  have hP : va_P (dC, dI) vwCl (cX7 cy a (X7_s v) z1_v_aside (X7_kept v) (X7_isKept v) (X7_saved v) (X7_savedMany v) (X7_text v) (X7_length v) (X7_thrown v) (X7_joint v) (X7_position v) (X7_isWrong v) (X7_isHollow v) (X7_sure v) (X7_away v) (X7_digested v)) H := hP1
  have hD : va_D A (cX7 cy a (X7_s v) z1_v_aside (X7_kept v) (X7_isKept v) (X7_saved v) (X7_savedMany v) (X7_text v) (X7_length v) (X7_thrown v) (X7_joint v) (X7_position v) (X7_isWrong v) (X7_isHollow v) (X7_sure v) (X7_away v) (X7_digested v)) := hD1.weaken (fun _ q _ h => hFc q.1 h)
  refine lv_iconst (v := 0) hx hb dX7_whenMound_4 (by decide) ?_
  refine lv_istore_n (lv' := [(1, .int 0), (0, .ref (a 0))]) hx hb dX7_whenMound_5 rfl hl (by decide) rfl (fun ls hl => ?_)
  refine lv_iconst (v := 0) hx hb dX7_whenMound_6 (by decide) ?_
  refine lv_istore_n (lv' := [(2, .int 0), (1, .int 0), (0, .ref (a 0))]) hx hb dX7_whenMound_7 rfl hl (by decide) rfl (fun ls hl => ?_)
  exact J8 z1_v_aside 0 0 (X7_s v) _ _ _ hq hP hD hS (lv_sub hl [2, 1, 0] rfl)
def wp_X7_nextMound (v : V_X7) (Q : Int32 → (Nat → Int32) → (Nat → Int32) → Int32 → Prop) : Prop :=
  wp_X7_whenMound (X7_s8 v 0) (fun r6 z6_v_aside z6_v_s =>
  Q r6 z6_v_aside z6_v_s 0)
def q_X7_nextMound (dC : Nat → ClassId) (dI : Nat → Nat → Nat) (cy : Nat → ClassId) (a : Nat → Nat) (v : V_X7) (Q : Int32 → (Nat → Int32) → (Nat → Int32) → Int32 → Prop) (A : Nat → Prop) : Array Value → State → Outcome → State → Prop := va_Qi (fun (r : Int32) (u : (Nat → Int32) × (Nat → Int32) × Int32) => Q r u.1 u.2.1 u.2.2) (fun (u : (Nat → Int32) × (Nat → Int32) × Int32) t => xAt dC dI cy A (cX7 cy a u.2.1 u.1 (X7_kept v) (X7_isKept v) (X7_saved v) (X7_savedMany v) (X7_text v) (X7_length v) u.2.2 (X7_joint v) (X7_position v) (X7_isWrong v) (X7_isHollow v) (X7_sure v) (X7_away v) (X7_digested v)) t) A
set_option maxHeartbeats 4000000 in
set_option maxRecDepth 100000 in
theorem c_X7_nextMound (l : Launch) (dC : Nat → ClassId) (dI : Nat → Nat → Nat) (cy : Nat → ClassId) (a : Nat → Nat) (sz : Nat) (v : V_X7) (Q : Int32 → (Nat → Int32) → (Nat → Int32) → Int32 → Prop) (hq : wp_X7_nextMound v Q) : Met l yX7_nextMound wsX7_nextMound ({ frames := 9, cells := 0, slots := 0, locals := 211 } : Room) (va_Pc [.ref (a 0)] (xPre dC dI cy (wX7 cy a v) sz)) (q_X7_nextMound dC dI cy a v Q (va_A (wX7 cy a v) sz)) 0 0 (va_A (wX7 cy a v) sz) := by
  refine Met.ofW (cc := cX7_nextMound) (maxL := 1) (ret := (some .int)) (by decide) rfl ?_
  intro p e s m args below meth c s₁ B hml hv
  obtain ⟨rfl, hsz, hP, hK, hD0⟩ := hv
  have hx := B.exec
  have hb := B.bytes
  have hr := B.returns
  have hts := atoms_spec (ws := wsX7_nextMound) B.pre
  have hown : s.vm.findClass RX7 = some m.cls := findClass_of_methodNamed B.named
  have hlocks := B.notSynchronized
  subst hsz
  have hD := hD0.self (sz := s.heap.size)
  generalize hAe : va_A (wX7 cy a v) s.heap.size = A at hD ⊢
  have hAe0 : ∀ q : Nat, s.heap.size ≤ q → A q := fun q h => by rw [← hAe]; exact Or.inr h
  have hS : va_S A s.heap s.heap [] := va_S.rf
  have hl := lv_entry ([.ref (a 0)]) (n := 1) (Nat.le_of_ble_eq_true rfl)
  rw [lg_entry_eq]
  generalize (lg_sl ([.ref (a 0)]) ++ List.replicate (1 - (lg_sl ([.ref (a 0)])).length) Slot.unset).toArray = ls at hl ⊢
  have hl : lv_has ls 1 [(0, .ref (a 0))] := hl
  have lk0 := hts (Cond.fieldLink RX7 38 "MolesLawnModel" "thrown" "I") (List.mem_cons_of_mem _ (List.mem_append_left _ (List.mem_append_left _ (List.mem_of_getElem? (i := 0) rfl))))
  have iK7 : ∀ w ∈ wsX70, w ∈ wsX7_nextMound := fun _ h => (List.mem_cons_of_mem _ (List.mem_append_right _ h))
  unfold wp_X7_nextMound at hq
  refine lv_aload_n hx hb dX7_nextMound_0 rfl (lv_at hl 0 rfl) ?_
  refine lv_iconst (v := 0) hx hb dX7_nextMound_1 (by decide) ?_
  refine va_put (D := (dC, dI)) (ci := 7) (v := .int 0) (ty := .int) (C := RX7) (T := TX7) (N := 16) hx hb hts iK7 tyX7 tyX7_ok nmX7 hown hK hP hD hS 0 rfl rfl 8 (by decide) lk0 (fun _ h9 => h9) rfl (by decide +kernel) rfl rfl (Nat.le_of_ble_eq_true rfl) dX7_nextMound_2 (fun H locs hP hD hS => ?_)
  have hP : va_P (dC, dI) vwCl (cX7 cy a (X7_s v) (X7_aside v) (X7_kept v) (X7_isKept v) (X7_saved v) (X7_savedMany v) (X7_text v) (X7_length v) 0 (X7_joint v) (X7_position v) (X7_isWrong v) (X7_isHollow v) (X7_sure v) (X7_away v) (X7_digested v)) H := hP
  have hD : va_D A (cX7 cy a (X7_s v) (X7_aside v) (X7_kept v) (X7_isKept v) (X7_saved v) (X7_savedMany v) (X7_text v) (X7_length v) 0 (X7_joint v) (X7_position v) (X7_isWrong v) (X7_isHollow v) (X7_sure v) (X7_away v) (X7_digested v)) := hD
  refine lv_aload_n hx hb dX7_nextMound_5 rfl (lv_at hl 0 rfl) ?_
  have hFc := xfree_same hS hAe0 (ws := (cX7 cy a (X7_s v) (X7_aside v) (X7_kept v) (X7_isKept v) (X7_saved v) (X7_savedMany v) (X7_text v) (X7_length v) 0 (X7_joint v) (X7_position v) (X7_isWrong v) (X7_isHollow v) (X7_sure v) (X7_away v) (X7_digested v))) hD
  refine va_calli (va_runV (As := []) (rest := []) ⟨hx, hb, hml, hown, hts⟩ (c_X7_whenMound l dC dI cy a _ (X7_s8 v 0) _ hq) (cwV 0 hts gX7_nextMound_X7_whenMound rfl rfl rfl (by decide +kernel) ⟨Nat.le_of_ble_eq_true rfl, Nat.le_of_ble_eq_true rfl⟩) ⟨xPre_blind, va_recv hK hP (ci := 7) (q0 := 0) rfl rfl, xPre_of hP hK hD⟩ rfl rfl hl.1 rfl (lv_room (Nat.le_of_ble_eq_true rfl)) dX7_nextMound_6 ⟨Nat.le_of_ble_eq_true rfl, Nat.le_of_ble_eq_true rfl⟩) hS (fun q _ h => hFc q h) hFc (fun r6 u9 t H locs ht hvm hq hB hz1 hk1 hS => ?_)
  obtain ⟨z6_v_aside, z6_v_s⟩ := u9
  obtain ⟨hP1, -, hD1⟩ := hB
  rw [ht] at hP1
  have hP : va_P (dC, dI) vwCl (cX7 cy a z6_v_s z6_v_aside (X7_kept v) (X7_isKept v) (X7_saved v) (X7_savedMany v) (X7_text v) (X7_length v) 0 (X7_joint v) (X7_position v) (X7_isWrong v) (X7_isHollow v) (X7_sure v) (X7_away v) (X7_digested v)) H := hP1
  have hD : va_D A (cX7 cy a z6_v_s z6_v_aside (X7_kept v) (X7_isKept v) (X7_saved v) (X7_savedMany v) (X7_text v) (X7_length v) 0 (X7_joint v) (X7_position v) (X7_isWrong v) (X7_isHollow v) (X7_sure v) (X7_away v) (X7_digested v)) := hD1.weaken (fun _ q _ h => hFc q.1 h)
  exact W.iret (v := r6) hx hb hr (fun t ht hW => ⟨⟨r6, (z6_v_aside, z6_v_s, 0), rfl, hq, (xAt_of hP hK hD ht hW)⟩, hS.F ht⟩) hS.2.2 dX7_nextMound_9
def wp_X7_share (v : V_X7) (Q : UInt64 → (Nat → Int32) → Prop) : Prop :=
  wp_X7_hollow v (fun r1 z1_v_isHollow =>
  vf_n64 (FP.ddiv (FP.i2d r1) 4634204016564240384) ∧ Q (FP.ddiv (FP.i2d r1) 4634204016564240384) z1_v_isHollow)
def q_X7_share (dC : Nat → ClassId) (dI : Nat → Nat → Nat) (cy : Nat → ClassId) (a : Nat → Nat) (v : V_X7) (Q : UInt64 → (Nat → Int32) → Prop) (A : Nat → Prop) : Array Value → State → Outcome → State → Prop := va_Qd (fun (r : UInt64) (u : (Nat → Int32)) => Q r u) (fun (u : (Nat → Int32)) t => xAt dC dI cy A (cX7 cy a (X7_s v) (X7_aside v) (X7_kept v) (X7_isKept v) (X7_saved v) (X7_savedMany v) (X7_text v) (X7_length v) (X7_thrown v) (X7_joint v) (X7_position v) (X7_isWrong v) u (X7_sure v) (X7_away v) (X7_digested v)) t) A
set_option maxHeartbeats 4000000 in
set_option maxRecDepth 100000 in
theorem c_X7_share (l : Launch) (dC : Nat → ClassId) (dI : Nat → Nat → Nat) (cy : Nat → ClassId) (a : Nat → Nat) (sz : Nat) (v : V_X7) (Q : UInt64 → (Nat → Int32) → Prop) (hq : wp_X7_share v Q) : Met l yX7_share wsX7_share ({ frames := 3, cells := 0, slots := 0, locals := 65 } : Room) (va_Pc [.ref (a 0)] (xPre dC dI cy (wX7 cy a v) sz)) (q_X7_share dC dI cy a v Q (va_A (wX7 cy a v) sz)) 0 0 (va_A (wX7 cy a v) sz) := by
  refine Met.ofW (cc := cX7_share) (maxL := 1) (ret := (some .double)) (by decide) rfl ?_
  intro p e s m args below meth c s₁ B hml hv
  obtain ⟨rfl, hsz, hP, hK, hD0⟩ := hv
  have hx := B.exec
  have hb := B.bytes
  have hr := B.returns
  have hts := atoms_spec (ws := wsX7_share) B.pre
  have hown : s.vm.findClass RX7 = some m.cls := findClass_of_methodNamed B.named
  have hlocks := B.notSynchronized
  subst hsz
  have hD := hD0.self (sz := s.heap.size)
  generalize hAe : va_A (wX7 cy a v) s.heap.size = A at hD ⊢
  have hAe0 : ∀ q : Nat, s.heap.size ≤ q → A q := fun q h => by rw [← hAe]; exact Or.inr h
  have hS : va_S A s.heap s.heap [] := va_S.rf
  have hl := lv_entry ([.ref (a 0)]) (n := 1) (Nat.le_of_ble_eq_true rfl)
  rw [lg_entry_eq]
  generalize (lg_sl ([.ref (a 0)]) ++ List.replicate (1 - (lg_sl ([.ref (a 0)])).length) Slot.unset).toArray = ls at hl ⊢
  have hl : lv_has ls 1 [(0, .ref (a 0))] := hl
  have lk0 := hts (Cond.constantDouble RX7 275 (4634204016564240384)) (List.mem_cons_of_mem _ (List.mem_append_left _ (List.mem_of_getElem? (i := 0) rfl)))
  unfold wp_X7_share at hq
  refine lv_aload_n hx hb dX7_share_0 rfl (lv_at hl 0 rfl) ?_
  have hFc := xfree_same hS hAe0 (ws := (wX7 cy a v)) hD
  refine va_calli (va_runV (As := []) (rest := []) ⟨hx, hb, hml, hown, hts⟩ (c_X7_hollow l dC dI cy a _ v _ hq) (cwV 0 hts gX7_share_X7_hollow rfl rfl rfl (by decide +kernel) ⟨Nat.le_of_ble_eq_true rfl, Nat.le_of_ble_eq_true rfl⟩) ⟨xPre_blind, va_recv hK hP (ci := 7) (q0 := 0) rfl rfl, xPre_of hP hK hD⟩ rfl rfl hl.1 rfl (lv_room (Nat.le_of_ble_eq_true rfl)) dX7_share_1 ⟨Nat.le_of_ble_eq_true rfl, Nat.le_of_ble_eq_true rfl⟩) hS (fun q _ h => hFc q h) hFc (fun r1 z1_v_isHollow t H locs ht hvm hq hB hz1 hk1 hS => ?_)
  obtain ⟨hP1, -, hD1⟩ := hB
  rw [ht] at hP1
  have hP : va_P (dC, dI) vwCl (cX7 cy a (X7_s v) (X7_aside v) (X7_kept v) (X7_isKept v) (X7_saved v) (X7_savedMany v) (X7_text v) (X7_length v) (X7_thrown v) (X7_joint v) (X7_position v) (X7_isWrong v) z1_v_isHollow (X7_sure v) (X7_away v) (X7_digested v)) H := hP1
  have hD : va_D A (cX7 cy a (X7_s v) (X7_aside v) (X7_kept v) (X7_isKept v) (X7_saved v) (X7_savedMany v) (X7_text v) (X7_length v) (X7_thrown v) (X7_joint v) (X7_position v) (X7_isWrong v) z1_v_isHollow (X7_sure v) (X7_away v) (X7_digested v)) := hD1.weaken (fun _ q _ h => hFc q.1 h)
  refine lv_i2d hx hb dX7_share_4 ?_
  refine lv_ldc2d (v := 4634204016564240384) hx hb hown lk0 dX7_share_5 ?_
  obtain ⟨g1, hq⟩ := hq
  refine lv_ddiv hx hb dX7_share_8 g1 ?_
  exact W.dret (v := (FP.ddiv (FP.i2d r1) 4634204016564240384)) hx hb hr (fun t ht hW => ⟨⟨(FP.ddiv (FP.i2d r1) 4634204016564240384), z1_v_isHollow, rfl, hq, (xAt_of hP hK hD ht hW)⟩, hS.F ht⟩) hS.2.2 dX7_share_9
def wp_X7_hollowShare (v : V_X7) (Q : UInt64 → (Nat → Int32) → Int32 → Prop) : Prop :=
  wp_X7_share (X7_s8 v 0) (fun r6 z6_v_isHollow =>
  Q r6 z6_v_isHollow 0)
def q_X7_hollowShare (dC : Nat → ClassId) (dI : Nat → Nat → Nat) (cy : Nat → ClassId) (a : Nat → Nat) (v : V_X7) (Q : UInt64 → (Nat → Int32) → Int32 → Prop) (A : Nat → Prop) : Array Value → State → Outcome → State → Prop := va_Qd (fun (r : UInt64) (u : (Nat → Int32) × Int32) => Q r u.1 u.2) (fun (u : (Nat → Int32) × Int32) t => xAt dC dI cy A (cX7 cy a (X7_s v) (X7_aside v) (X7_kept v) (X7_isKept v) (X7_saved v) (X7_savedMany v) (X7_text v) (X7_length v) u.2 (X7_joint v) (X7_position v) (X7_isWrong v) u.1 (X7_sure v) (X7_away v) (X7_digested v)) t) A
set_option maxHeartbeats 4000000 in
set_option maxRecDepth 100000 in
theorem c_X7_hollowShare (l : Launch) (dC : Nat → ClassId) (dI : Nat → Nat → Nat) (cy : Nat → ClassId) (a : Nat → Nat) (sz : Nat) (v : V_X7) (Q : UInt64 → (Nat → Int32) → Int32 → Prop) (hq : wp_X7_hollowShare v Q) : Met l yX7_hollowShare wsX7_hollowShare ({ frames := 4, cells := 0, slots := 0, locals := 85 } : Room) (va_Pc [.ref (a 0)] (xPre dC dI cy (wX7 cy a v) sz)) (q_X7_hollowShare dC dI cy a v Q (va_A (wX7 cy a v) sz)) 0 0 (va_A (wX7 cy a v) sz) := by
  refine Met.ofW (cc := cX7_hollowShare) (maxL := 1) (ret := (some .double)) (by decide) rfl ?_
  intro p e s m args below meth c s₁ B hml hv
  obtain ⟨rfl, hsz, hP, hK, hD0⟩ := hv
  have hx := B.exec
  have hb := B.bytes
  have hr := B.returns
  have hts := atoms_spec (ws := wsX7_hollowShare) B.pre
  have hown : s.vm.findClass RX7 = some m.cls := findClass_of_methodNamed B.named
  have hlocks := B.notSynchronized
  subst hsz
  have hD := hD0.self (sz := s.heap.size)
  generalize hAe : va_A (wX7 cy a v) s.heap.size = A at hD ⊢
  have hAe0 : ∀ q : Nat, s.heap.size ≤ q → A q := fun q h => by rw [← hAe]; exact Or.inr h
  have hS : va_S A s.heap s.heap [] := va_S.rf
  have hl := lv_entry ([.ref (a 0)]) (n := 1) (Nat.le_of_ble_eq_true rfl)
  rw [lg_entry_eq]
  generalize (lg_sl ([.ref (a 0)]) ++ List.replicate (1 - (lg_sl ([.ref (a 0)])).length) Slot.unset).toArray = ls at hl ⊢
  have hl : lv_has ls 1 [(0, .ref (a 0))] := hl
  have lk0 := hts (Cond.fieldLink RX7 38 "MolesLawnModel" "thrown" "I") (List.mem_cons_of_mem _ (List.mem_append_left _ (List.mem_of_getElem? (i := 0) rfl)))
  have iK7 : ∀ w ∈ wsX70, w ∈ wsX7_hollowShare := fun _ h => (List.mem_cons_of_mem _ (List.mem_append_right _ h))
  unfold wp_X7_hollowShare at hq
  refine lv_aload_n hx hb dX7_hollowShare_0 rfl (lv_at hl 0 rfl) ?_
  refine lv_iconst (v := 0) hx hb dX7_hollowShare_1 (by decide) ?_
  refine va_put (D := (dC, dI)) (ci := 7) (v := .int 0) (ty := .int) (C := RX7) (T := TX7) (N := 16) hx hb hts iK7 tyX7 tyX7_ok nmX7 hown hK hP hD hS 0 rfl rfl 8 (by decide) lk0 (fun _ h9 => h9) rfl (by decide +kernel) rfl rfl (Nat.le_of_ble_eq_true rfl) dX7_hollowShare_2 (fun H locs hP hD hS => ?_)
  have hP : va_P (dC, dI) vwCl (cX7 cy a (X7_s v) (X7_aside v) (X7_kept v) (X7_isKept v) (X7_saved v) (X7_savedMany v) (X7_text v) (X7_length v) 0 (X7_joint v) (X7_position v) (X7_isWrong v) (X7_isHollow v) (X7_sure v) (X7_away v) (X7_digested v)) H := hP
  have hD : va_D A (cX7 cy a (X7_s v) (X7_aside v) (X7_kept v) (X7_isKept v) (X7_saved v) (X7_savedMany v) (X7_text v) (X7_length v) 0 (X7_joint v) (X7_position v) (X7_isWrong v) (X7_isHollow v) (X7_sure v) (X7_away v) (X7_digested v)) := hD
  refine lv_aload_n hx hb dX7_hollowShare_5 rfl (lv_at hl 0 rfl) ?_
  have hFc := xfree_same hS hAe0 (ws := (cX7 cy a (X7_s v) (X7_aside v) (X7_kept v) (X7_isKept v) (X7_saved v) (X7_savedMany v) (X7_text v) (X7_length v) 0 (X7_joint v) (X7_position v) (X7_isWrong v) (X7_isHollow v) (X7_sure v) (X7_away v) (X7_digested v))) hD
  refine va_calld (va_runV (As := []) (rest := []) ⟨hx, hb, hml, hown, hts⟩ (c_X7_share l dC dI cy a _ (X7_s8 v 0) _ hq) (cwV 0 hts gX7_hollowShare_X7_share rfl rfl rfl (by decide +kernel) ⟨Nat.le_of_ble_eq_true rfl, Nat.le_of_ble_eq_true rfl⟩) ⟨xPre_blind, va_recv hK hP (ci := 7) (q0 := 0) rfl rfl, xPre_of hP hK hD⟩ rfl rfl hl.1 rfl (lv_room (Nat.le_of_ble_eq_true rfl)) dX7_hollowShare_6 ⟨Nat.le_of_ble_eq_true rfl, Nat.le_of_ble_eq_true rfl⟩) hS (fun q _ h => hFc q h) hFc (fun r6 z6_v_isHollow t H locs ht hvm hq hB hz1 hk1 hS => ?_)
  obtain ⟨hP1, -, hD1⟩ := hB
  rw [ht] at hP1
  have hP : va_P (dC, dI) vwCl (cX7 cy a (X7_s v) (X7_aside v) (X7_kept v) (X7_isKept v) (X7_saved v) (X7_savedMany v) (X7_text v) (X7_length v) 0 (X7_joint v) (X7_position v) (X7_isWrong v) z6_v_isHollow (X7_sure v) (X7_away v) (X7_digested v)) H := hP1
  have hD : va_D A (cX7 cy a (X7_s v) (X7_aside v) (X7_kept v) (X7_isKept v) (X7_saved v) (X7_savedMany v) (X7_text v) (X7_length v) 0 (X7_joint v) (X7_position v) (X7_isWrong v) z6_v_isHollow (X7_sure v) (X7_away v) (X7_digested v)) := hD1.weaken (fun _ q _ h => hFc q.1 h)
  exact W.dret (v := r6) hx hb hr (fun t ht hW => ⟨⟨r6, (z6_v_isHollow, 0), rfl, hq, (xAt_of hP hK hD ht hW)⟩, hS.F ht⟩) hS.2.2 dX7_hollowShare_9
def wb_X7_bitsOf_15 (x0 : UInt64)  (y15_2 : Int64) (y15_4 : UInt64) (B15 : Int64 → UInt64 → Prop) (Q : Int64 → Prop) : Prop :=
  ((0 ≤ (Op.cmpValue (FP.dcmp y15_4 FP.dconst1) .g) → vf_n64 (FP.dsub y15_4 FP.dconst1) ∧ vf_n64 (FP.dmul (FP.dsub y15_4 FP.dconst1) 4841369599423283200) ∧ Q ((y15_2 * 4503599627370496) + (FP.d2l (FP.dmul (FP.dsub y15_4 FP.dconst1) 4841369599423283200)))) ∧
  (¬ 0 ≤ (Op.cmpValue (FP.dcmp y15_4 FP.dconst1) .g) → vf_n64 (FP.dmul y15_4 4611686018427387904) ∧ B15 (y15_2 - 1) (FP.dmul y15_4 4611686018427387904)))
def wp_X7_bitsOf_15 (x0 : UInt64)  (y15_2 : Int64) (y15_4 : UInt64) (Q : Int64 → Prop) : Prop :=
  ∃ (I : Int64 → UInt64 → Prop) (μ : Int64 → UInt64 → Nat), I y15_2 y15_4 ∧ ∀ (s0 : Int64) (s1 : UInt64), I s0 s1 → wb_X7_bitsOf_15 x0  s0 s1 (fun t0 t1 => I t0 t1 ∧ μ t0 t1 < μ s0 s1) Q
def wp_X7_bitsOf (x0 : UInt64) (Q : Int64 → Prop) : Prop :=
  (((Op.cmpValue (FP.dcmp x0 FP.dconst0) .l) = 0 → Q 0) ∧
  (¬ (Op.cmpValue (FP.dcmp x0 FP.dconst0) .l) = 0 → wp_X7_bitsOf_15 x0  1023 x0 Q))
def q_X7_bitsOf (dC : Nat → ClassId) (dI : Nat → Nat → Nat) (cy : Nat → ClassId)  (x0 : UInt64) (Q : Int64 → Prop) (A : Nat → Prop) : Array Value → State → Outcome → State → Prop := va_Ql (fun (r : Int64) (u : Unit) => Q r ) (fun (u : Unit) t => xAt dC dI cy A ([] : va_W) t) A
set_option maxHeartbeats 4000000 in
set_option maxRecDepth 100000 in
theorem c_X7_bitsOf (l : Launch) (dC : Nat → ClassId) (dI : Nat → Nat → Nat) (cy : Nat → ClassId)  (sz : Nat) (x0 : UInt64) (Q : Int64 → Prop) (hq : wp_X7_bitsOf x0 Q) : Met l yX7_bitsOf wsX7_bitsOf ({ frames := 0, cells := 0, slots := 0, locals := 0 } : Room) (va_Pc [.double x0] (xPre dC dI cy ([] : va_W) sz)) (q_X7_bitsOf dC dI cy  x0 Q (va_A ([] : va_W) sz)) 0 0 (va_A ([] : va_W) sz) := by
  refine Met.ofW (cc := cX7_bitsOf) (maxL := 6) (ret := (some .long)) (by decide) rfl ?_
  intro p e s m args below meth c s₁ B hml hv
  obtain ⟨rfl, hsz, hP, hK, hD0⟩ := hv
  have hx := B.exec
  have hb := B.bytes
  have hr := B.returns
  have hts := atoms_spec (ws := wsX7_bitsOf) B.pre
  have hown : s.vm.findClass RX7 = some m.cls := findClass_of_methodNamed B.named
  have hlocks := B.notSynchronized
  subst hsz
  have hD := hD0.self (sz := s.heap.size)
  generalize hAe : va_A ([] : va_W) s.heap.size = A at hD ⊢
  have hAe0 : ∀ q : Nat, s.heap.size ≤ q → A q := fun q h => by rw [← hAe]; exact Or.inr h
  have hS : va_S A s.heap s.heap [] := va_S.rf
  have hl := lv_entry ([.double x0]) (n := 6) (Nat.le_of_ble_eq_true rfl)
  rw [lg_entry_eq]
  generalize (lg_sl ([.double x0]) ++ List.replicate (6 - (lg_sl ([.double x0])).length) Slot.unset).toArray = ls at hl ⊢
  have hl : lv_has ls 6 [(0, .double x0)] := hl
  have lk0 := hts (Cond.constantLong RX7 285 (4503599627370496)) (List.mem_cons_of_mem _ (List.mem_of_getElem? (i := 2) rfl))
  have lk1 := hts (Cond.constantDouble RX7 287 (4841369599423283200)) (List.mem_cons_of_mem _ (List.mem_of_getElem? (i := 3) rfl))
  have lk2 := hts (Cond.constantDouble RX7 283 (4611686018427387904)) (List.mem_cons_of_mem _ (List.mem_of_getElem? (i := 1) rfl))
  have lk3 := hts (Cond.constantLong RX7 281 (1023)) (List.mem_cons_of_mem _ (List.mem_of_getElem? (i := 0) rfl))
  unfold wp_X7_bitsOf at hq
  have J15 : ∀  (y15_2 : Int64) (y15_4 : UInt64) (H : Heap) (locs : List Loc) (ls : Array Slot), wp_X7_bitsOf_15 x0  y15_2 y15_4 Q → va_P (dC, dI) vwCl ([]) H → va_D A ([]) → va_S A s.heap H locs → lv_has ls 6 [(2, .long y15_2), (4, .double y15_4)] → W p l e (headSpec wsX7_bitsOf ({ frames := 0, cells := 0, slots := 0, locals := 0 } : Room)).room s m ([.double x0] : List Value).toArray below meth c H locs 0 0 (MQ below (q_X7_bitsOf dC dI cy x0 Q A) ([.double x0] : List Value).toArray s 0 0 A) (F0 m 15 ls []) := by
    intro  y15_2 y15_4 H locs ls hq hP hD hS hl
    obtain ⟨I15, μ15, h0, hs15⟩ := hq
    have key : ∀ (n : Nat) (y15_2 : Int64) (y15_4 : UInt64) (H : Heap) (locs : List Loc) (ls : Array Slot), I15 y15_2 y15_4 → μ15 y15_2 y15_4 < n → va_P (dC, dI) vwCl ([]) H → va_D A ([]) → va_S A s.heap H locs → lv_has ls 6 [(2, .long y15_2), (4, .double y15_4)] → W p l e (headSpec wsX7_bitsOf ({ frames := 0, cells := 0, slots := 0, locals := 0 } : Room)).room s m ([.double x0] : List Value).toArray below meth c H locs 0 0 (MQ below (q_X7_bitsOf dC dI cy x0 Q A) ([.double x0] : List Value).toArray s 0 0 A) (F0 m 15 ls []) := by
      intro n
      induction n with
      | zero => intro y15_2 y15_4 H locs ls _ hm; exact absurd hm (Nat.not_lt_zero _)
      | succ n ih =>
        intro y15_2 y15_4 H locs ls hI hm hP hD hS hl
        have hq := hs15 y15_2 y15_4 hI
        generalize hB15 : (fun (t0 : Int64) (t1 : UInt64) => I15 t0 t1 ∧ μ15 t0 t1 < μ15 y15_2 y15_4) = B15 at hq
        have bk15 : ∀ (y15_2 : Int64) (y15_4 : UInt64) (H : Heap) (locs : List Loc) (ls : Array Slot), B15 y15_2 y15_4 → va_P (dC, dI) vwCl ([]) H → va_D A ([]) → va_S A s.heap H locs → lv_has ls 6 [(2, .long y15_2), (4, .double y15_4)] → W p l e (headSpec wsX7_bitsOf ({ frames := 0, cells := 0, slots := 0, locals := 0 } : Room)).room s m ([.double x0] : List Value).toArray below meth c H locs 0 0 (MQ below (q_X7_bitsOf dC dI cy x0 Q A) ([.double x0] : List Value).toArray s 0 0 A) (F0 m 15 ls []) := by
          intro y15_2 y15_4 H locs ls h
          rw [← hB15] at h
          exact ih y15_2 y15_4 H locs ls h.1 (Nat.lt_of_lt_of_le h.2 (Nat.le_of_lt_succ hm))
        unfold wb_X7_bitsOf_15 at hq
        refine lv_dload hx hb dX7_bitsOf_15 (lv_at hl 1 rfl) ?_
        refine lv_dconst1 hx hb dX7_bitsOf_17 ?_
        refine lv_dcmp hx hb dX7_bitsOf_18 ?_
        obtain ⟨hqA, hqB⟩ := hq
        refine lv_if_ge (tgt := 37) hx hb dX7_bitsOf_19 (by decide) (fun c4 => ?_) (fun c4 => ?_)
        · have hq := hqA c4
          refine lv_lload_n hx hb dX7_bitsOf_37 rfl (lv_at hl 0 rfl) ?_
          refine lv_ldc2 (v := 4503599627370496) hx hb hown lk0 dX7_bitsOf_38 ?_
          refine lv_lmul hx hb dX7_bitsOf_41 ?_
          refine lv_dload hx hb dX7_bitsOf_42 (lv_at hl 1 rfl) ?_
          refine lv_dconst1 hx hb dX7_bitsOf_44 ?_
          obtain ⟨g1, hq⟩ := hq
          refine lv_dsub hx hb dX7_bitsOf_45 g1 ?_
          refine lv_ldc2d (v := 4841369599423283200) hx hb hown lk1 dX7_bitsOf_46 ?_
          obtain ⟨g2, hq⟩ := hq
          refine lv_dmul hx hb dX7_bitsOf_49 g2 ?_
          refine lv_d2l hx hb dX7_bitsOf_50 ?_
          refine lv_ladd hx hb dX7_bitsOf_51 ?_
          exact W.lret (v := ((y15_2 * 4503599627370496) + (FP.d2l (FP.dmul (FP.dsub y15_4 FP.dconst1) 4841369599423283200)))) hx hb hr (fun t ht hW => ⟨⟨((y15_2 * 4503599627370496) + (FP.d2l (FP.dmul (FP.dsub y15_4 FP.dconst1) 4841369599423283200))), (), rfl, hq, (xAt_of hP hK hD ht hW)⟩, hS.F ht⟩) hS.2.2 dX7_bitsOf_52
        · have hq := hqB c4
          refine lv_dload hx hb dX7_bitsOf_22 (lv_at hl 1 rfl) ?_
          refine lv_ldc2d (v := 4611686018427387904) hx hb hown lk2 dX7_bitsOf_24 ?_
          obtain ⟨g3, hq⟩ := hq
          refine lv_dmul hx hb dX7_bitsOf_27 g3 ?_
          refine lv_dstore (lv' := [(4, .double (FP.dmul y15_4 4611686018427387904)), (2, .long y15_2)]) hx hb dX7_bitsOf_28 hl (by decide) rfl (fun ls hl => ?_)
          refine lv_lload_n hx hb dX7_bitsOf_30 rfl (lv_at hl 1 rfl) ?_
          refine lv_lconst (v := 1) hx hb dX7_bitsOf_31 (by decide) ?_
          refine lv_lsub hx hb dX7_bitsOf_32 ?_
          refine lv_lstore_n (lv' := [(2, .long (y15_2 - 1)), (4, .double (FP.dmul y15_4 4611686018427387904))]) hx hb dX7_bitsOf_33 rfl hl (by decide) rfl (fun ls hl => ?_)
          refine lv_goto (tgt := 15) hx hb dX7_bitsOf_34 (by decide) ?_
          exact bk15 (y15_2 - 1) (FP.dmul y15_4 4611686018427387904) _ _ _ hq hP hD hS (lv_sub hl [0, 1] rfl)
    exact key _ y15_2 y15_4 H locs ls h0 (Nat.lt_succ_self _) hP hD hS hl
  refine lv_dload_n hx hb dX7_bitsOf_0 rfl (lv_at hl 0 rfl) ?_
  refine lv_dconst0 hx hb dX7_bitsOf_1 ?_
  refine lv_dcmp hx hb dX7_bitsOf_2 ?_
  obtain ⟨hqA, hqB⟩ := hq
  refine lv_if_ne (tgt := 8) hx hb dX7_bitsOf_3 (by decide) (fun c5 => ?_) (fun c5 => ?_)
  · have hq := hqB c5
    refine lv_ldc2 (v := 1023) hx hb hown lk3 dX7_bitsOf_8 ?_
    refine lv_lstore_n (lv' := [(2, .long 1023), (0, .double x0)]) hx hb dX7_bitsOf_11 rfl hl (by decide) rfl (fun ls hl => ?_)
    refine lv_dload_n hx hb dX7_bitsOf_12 rfl (lv_at hl 1 rfl) ?_
    refine lv_dstore (lv' := [(4, .double x0), (2, .long 1023), (0, .double x0)]) hx hb dX7_bitsOf_13 hl (by decide) rfl (fun ls hl => ?_)
    exact J15  1023 x0 _ _ _ hq hP hD hS (lv_sub hl [1, 0] rfl)
  · have hq := hqA c5
    refine lv_lconst (v := 0) hx hb dX7_bitsOf_6 (by decide) ?_
    exact W.lret (v := 0) hx hb hr (fun t ht hW => ⟨⟨0, (), rfl, hq, (xAt_of hP hK hD ht hW)⟩, hS.F ht⟩) hS.2.2 dX7_bitsOf_7
def wp_X7_digestOne (v : V_X7) (x1 : Int64) (Q : Int64 → Prop) : Prop :=
  Q ((31 * (X7_digested v)) + x1)
def q_X7_digestOne (dC : Nat → ClassId) (dI : Nat → Nat → Nat) (cy : Nat → ClassId) (a : Nat → Nat) (v : V_X7) (x1 : Int64) (Q : Int64 → Prop) (A : Nat → Prop) : Array Value → State → Outcome → State → Prop := va_Qv (fun (u : Int64) => Q u) (fun (u : Int64) t => xAt dC dI cy A (cX7 cy a (X7_s v) (X7_aside v) (X7_kept v) (X7_isKept v) (X7_saved v) (X7_savedMany v) (X7_text v) (X7_length v) (X7_thrown v) (X7_joint v) (X7_position v) (X7_isWrong v) (X7_isHollow v) (X7_sure v) (X7_away v) u) t) A
set_option maxHeartbeats 4000000 in
set_option maxRecDepth 100000 in
theorem c_X7_digestOne (l : Launch) (dC : Nat → ClassId) (dI : Nat → Nat → Nat) (cy : Nat → ClassId) (a : Nat → Nat) (sz : Nat) (v : V_X7) (x1 : Int64) (Q : Int64 → Prop) (hq : wp_X7_digestOne v x1 Q) : Met l yX7_digestOne wsX7_digestOne ({ frames := 0, cells := 0, slots := 0, locals := 0 } : Room) (va_Pc [.ref (a 0), .long x1] (xPre dC dI cy (wX7 cy a v) sz)) (q_X7_digestOne dC dI cy a v x1 Q (va_A (wX7 cy a v) sz)) 0 0 (va_A (wX7 cy a v) sz) := by
  refine Met.ofW (cc := cX7_digestOne) (maxL := 3) (ret := none) (by decide) rfl ?_
  intro p e s m args below meth c s₁ B hml hv
  obtain ⟨rfl, hsz, hP, hK, hD0⟩ := hv
  have hx := B.exec
  have hb := B.bytes
  have hr := B.returns
  have hts := atoms_spec (ws := wsX7_digestOne) B.pre
  have hown : s.vm.findClass RX7 = some m.cls := findClass_of_methodNamed B.named
  have hlocks := B.notSynchronized
  subst hsz
  have hD := hD0.self (sz := s.heap.size)
  generalize hAe : va_A (wX7 cy a v) s.heap.size = A at hD ⊢
  have hAe0 : ∀ q : Nat, s.heap.size ≤ q → A q := fun q h => by rw [← hAe]; exact Or.inr h
  have hS : va_S A s.heap s.heap [] := va_S.rf
  have hl := lv_entry ([.ref (a 0), .long x1]) (n := 3) (Nat.le_of_ble_eq_true rfl)
  rw [lg_entry_eq]
  generalize (lg_sl ([.ref (a 0), .long x1]) ++ List.replicate (3 - (lg_sl ([.ref (a 0), .long x1])).length) Slot.unset).toArray = ls at hl ⊢
  have hl : lv_has ls 3 [(0, .ref (a 0)), (1, .long x1)] := hl
  have lk0 := hts (Cond.constantLong RX7 289 (31)) (List.mem_cons_of_mem _ (List.mem_append_left _ (List.mem_of_getElem? (i := 0) rfl)))
  have lk1 := hts (Cond.fieldLink RX7 291 "MolesLawnModel" "digested" "J") (List.mem_cons_of_mem _ (List.mem_append_left _ (List.mem_of_getElem? (i := 1) rfl)))
  have iK7 : ∀ w ∈ wsX70, w ∈ wsX7_digestOne := fun _ h => (List.mem_cons_of_mem _ (List.mem_append_right _ h))
  unfold wp_X7_digestOne at hq
  refine lv_aload_n hx hb dX7_digestOne_0 rfl (lv_at hl 0 rfl) ?_
  refine lv_ldc2 (v := 31) hx hb hown lk0 dX7_digestOne_1 ?_
  refine lv_aload_n hx hb dX7_digestOne_4 rfl (lv_at hl 0 rfl) ?_
  refine va_get (D := (dC, dI)) (ci := 7) (v := .long (X7_digested v)) (C := RX7) (T := TX7) (N := 16) hx hb hts iK7 hown hK hP 0 rfl rfl 15 (by decide) lk1 (fun _ h9 => h9) rfl dX7_digestOne_5 ?_
  refine lv_lmul hx hb dX7_digestOne_8 ?_
  refine lv_lload_n hx hb dX7_digestOne_9 rfl (lv_at hl 1 rfl) ?_
  refine lv_ladd hx hb dX7_digestOne_10 ?_
  refine va_put (D := (dC, dI)) (ci := 7) (v := .long ((31 * (X7_digested v)) + x1)) (ty := .long) (C := RX7) (T := TX7) (N := 16) hx hb hts iK7 tyX7 tyX7_ok nmX7 hown hK hP hD hS 0 rfl rfl 15 (by decide) lk1 (fun _ h9 => h9) rfl (by decide +kernel) rfl rfl (Nat.le_of_ble_eq_true rfl) dX7_digestOne_11 (fun H locs hP hD hS => ?_)
  have hP : va_P (dC, dI) vwCl (cX7 cy a (X7_s v) (X7_aside v) (X7_kept v) (X7_isKept v) (X7_saved v) (X7_savedMany v) (X7_text v) (X7_length v) (X7_thrown v) (X7_joint v) (X7_position v) (X7_isWrong v) (X7_isHollow v) (X7_sure v) (X7_away v) ((31 * (X7_digested v)) + x1)) H := hP
  have hD : va_D A (cX7 cy a (X7_s v) (X7_aside v) (X7_kept v) (X7_isKept v) (X7_saved v) (X7_savedMany v) (X7_text v) (X7_length v) (X7_thrown v) (X7_joint v) (X7_position v) (X7_isWrong v) (X7_isHollow v) (X7_sure v) (X7_away v) ((31 * (X7_digested v)) + x1)) := hD
  exact W.vret hx hb hr (fun t ht hW => ⟨⟨((31 * (X7_digested v)) + x1), rfl, hq, (xAt_of hP hK hD ht hW)⟩, hS.F ht⟩) hS.2.2 dX7_digestOne_14
def wb_X7_digestLawn_118 (v : V_X7) (z84_v_isHollow : (Nat → Int32)) (z84_v_sure : (Nat → Int32)) (y84_1 : Int32) (z84_v_digested : Int64) (B84 : Int32 → Int64 → Prop)  (y118_2 : Int32) (z118_v_digested : Int64) (B118 : Int32 → Int64 → Prop) (Q : Int64 → (Nat → Int32) → (Nat → Int32) → Prop) : Prop :=
  wp_X7_toldOfTunnel ((X7_s v), (X7_aside v), (X7_kept v), (X7_isKept v), (X7_saved v), (X7_savedMany v), (X7_text v), (X7_length v), (X7_thrown v), (X7_joint v), (X7_position v), (X7_isWrong v), z84_v_isHollow, z84_v_sure, (X7_away v), z118_v_digested) y84_1 2 (fun r122 =>
  ((r122 ≤ y118_2 → B84 (y84_1 + 1) z118_v_digested) ∧
  (¬ r122 ≤ y118_2 → wp_X7_cellOf ((X7_s v), (X7_aside v), (X7_kept v), (X7_isKept v), (X7_saved v), (X7_savedMany v), (X7_text v), (X7_length v), (X7_thrown v), (X7_joint v), (X7_position v), (X7_isWrong v), z84_v_isHollow, z84_v_sure, (X7_away v), z118_v_digested) y84_1 y118_2 (fun r132 =>
  wp_X7_digestOne ((X7_s v), (X7_aside v), (X7_kept v), (X7_isKept v), (X7_saved v), (X7_savedMany v), (X7_text v), (X7_length v), (X7_thrown v), (X7_joint v), (X7_position v), (X7_isWrong v), z84_v_isHollow, z84_v_sure, (X7_away v), z118_v_digested) (r132.toInt64) (fun z136_v_digested =>
  B118 (y118_2 + 1) z136_v_digested)))))
def wp_X7_digestLawn_118 (v : V_X7) (z84_v_isHollow : (Nat → Int32)) (z84_v_sure : (Nat → Int32)) (y84_1 : Int32) (z84_v_digested : Int64) (B84 : Int32 → Int64 → Prop)  (y118_2 : Int32) (z118_v_digested : Int64) (Q : Int64 → (Nat → Int32) → (Nat → Int32) → Prop) : Prop :=
  ∃ (I : Int32 → Int64 → Prop) (μ : Int32 → Int64 → Nat), I y118_2 z118_v_digested ∧ ∀ (s0 : Int32) (s1 : Int64), I s0 s1 → wb_X7_digestLawn_118 v z84_v_isHollow z84_v_sure y84_1 z84_v_digested B84  s0 s1 (fun t0 t1 => I t0 t1 ∧ μ t0 t1 < μ s0 s1) Q
def wb_X7_digestLawn_94 (v : V_X7) (z84_v_isHollow : (Nat → Int32)) (z84_v_sure : (Nat → Int32)) (y84_1 : Int32) (z84_v_digested : Int64) (B84 : Int32 → Int64 → Prop)  (y94_2 : Int32) (z94_v_digested : Int64) (B94 : Int32 → Int64 → Prop) (Q : Int64 → (Nat → Int32) → (Nat → Int32) → Prop) : Prop :=
  ((3 ≤ y94_2 → wp_X7_digestLawn_118 v z84_v_isHollow z84_v_sure y84_1 z84_v_digested B84  0 z94_v_digested Q) ∧
  (¬ 3 ≤ y94_2 → wp_X7_toldOfTunnel ((X7_s v), (X7_aside v), (X7_kept v), (X7_isKept v), (X7_saved v), (X7_savedMany v), (X7_text v), (X7_length v), (X7_thrown v), (X7_joint v), (X7_position v), (X7_isWrong v), z84_v_isHollow, z84_v_sure, (X7_away v), z94_v_digested) y84_1 y94_2 (fun r103 =>
  wp_X7_digestOne ((X7_s v), (X7_aside v), (X7_kept v), (X7_isKept v), (X7_saved v), (X7_savedMany v), (X7_text v), (X7_length v), (X7_thrown v), (X7_joint v), (X7_position v), (X7_isWrong v), z84_v_isHollow, z84_v_sure, (X7_away v), z94_v_digested) (r103.toInt64) (fun z107_v_digested =>
  B94 (y94_2 + 1) z107_v_digested))))
def wp_X7_digestLawn_94 (v : V_X7) (z84_v_isHollow : (Nat → Int32)) (z84_v_sure : (Nat → Int32)) (y84_1 : Int32) (z84_v_digested : Int64) (B84 : Int32 → Int64 → Prop)  (y94_2 : Int32) (z94_v_digested : Int64) (Q : Int64 → (Nat → Int32) → (Nat → Int32) → Prop) : Prop :=
  ∃ (I : Int32 → Int64 → Prop) (μ : Int32 → Int64 → Nat), I y94_2 z94_v_digested ∧ ∀ (s0 : Int32) (s1 : Int64), I s0 s1 → wb_X7_digestLawn_94 v z84_v_isHollow z84_v_sure y84_1 z84_v_digested B84  s0 s1 (fun t0 t1 => I t0 t1 ∧ μ t0 t1 < μ s0 s1) Q
def wb_X7_digestLawn_84 (v : V_X7) (z84_v_isHollow : (Nat → Int32)) (z84_v_sure : (Nat → Int32)) (y84_1 : Int32) (z84_v_digested : Int64) (B84 : Int32 → Int64 → Prop) (Q : Int64 → (Nat → Int32) → (Nat → Int32) → Prop) : Prop :=
  wp_X7_tunnels ((X7_s v), (X7_aside v), (X7_kept v), (X7_isKept v), (X7_saved v), (X7_savedMany v), (X7_text v), (X7_length v), (X7_thrown v), (X7_joint v), (X7_position v), (X7_isWrong v), z84_v_isHollow, z84_v_sure, (X7_away v), z84_v_digested) (fun r86 =>
  ((r86 ≤ y84_1 → Q z84_v_digested z84_v_isHollow z84_v_sure) ∧
  (¬ r86 ≤ y84_1 → wp_X7_digestLawn_94 v z84_v_isHollow z84_v_sure y84_1 z84_v_digested B84  0 z84_v_digested Q)))
def wp_X7_digestLawn_84 (v : V_X7) (z84_v_isHollow : (Nat → Int32)) (z84_v_sure : (Nat → Int32)) (y84_1 : Int32) (z84_v_digested : Int64) (Q : Int64 → (Nat → Int32) → (Nat → Int32) → Prop) : Prop :=
  ∃ (I : Int32 → Int64 → Prop) (μ : Int32 → Int64 → Nat), I y84_1 z84_v_digested ∧ ∀ (s0 : Int32) (s1 : Int64), I s0 s1 → wb_X7_digestLawn_84 v z84_v_isHollow z84_v_sure s0 s1 (fun t0 t1 => I t0 t1 ∧ μ t0 t1 < μ s0 s1) Q
def wb_X7_digestLawn_53 (v : V_X7) (z41_v_isHollow : (Nat → Int32)) (z41_v_sure : (Nat → Int32)) (y41_1 : Int32) (z41_v_digested : Int64) (B41 : Int32 → Int64 → Prop)  (y53_2 : Int32) (z53_v_digested : Int64) (B53 : Int32 → Int64 → Prop) (Q : Int64 → (Nat → Int32) → (Nat → Int32) → Prop) : Prop :=
  ((7 ≤ y53_2 → B41 (y41_1 + 1) z53_v_digested) ∧
  (¬ 7 ≤ y53_2 → wp_X7_toldOfMole ((X7_s v), (X7_aside v), (X7_kept v), (X7_isKept v), (X7_saved v), (X7_savedMany v), (X7_text v), (X7_length v), (X7_thrown v), (X7_joint v), (X7_position v), (X7_isWrong v), z41_v_isHollow, z41_v_sure, (X7_away v), z53_v_digested) y41_1 y53_2 (fun r63 =>
  wp_X7_digestOne ((X7_s v), (X7_aside v), (X7_kept v), (X7_isKept v), (X7_saved v), (X7_savedMany v), (X7_text v), (X7_length v), (X7_thrown v), (X7_joint v), (X7_position v), (X7_isWrong v), z41_v_isHollow, z41_v_sure, (X7_away v), z53_v_digested) (r63.toInt64) (fun z67_v_digested =>
  B53 (y53_2 + 1) z67_v_digested))))
def wp_X7_digestLawn_53 (v : V_X7) (z41_v_isHollow : (Nat → Int32)) (z41_v_sure : (Nat → Int32)) (y41_1 : Int32) (z41_v_digested : Int64) (B41 : Int32 → Int64 → Prop)  (y53_2 : Int32) (z53_v_digested : Int64) (Q : Int64 → (Nat → Int32) → (Nat → Int32) → Prop) : Prop :=
  ∃ (I : Int32 → Int64 → Prop) (μ : Int32 → Int64 → Nat), I y53_2 z53_v_digested ∧ ∀ (s0 : Int32) (s1 : Int64), I s0 s1 → wb_X7_digestLawn_53 v z41_v_isHollow z41_v_sure y41_1 z41_v_digested B41  s0 s1 (fun t0 t1 => I t0 t1 ∧ μ t0 t1 < μ s0 s1) Q
def wb_X7_digestLawn_41 (v : V_X7) (z41_v_isHollow : (Nat → Int32)) (z41_v_sure : (Nat → Int32)) (y41_1 : Int32) (z41_v_digested : Int64) (B41 : Int32 → Int64 → Prop) (Q : Int64 → (Nat → Int32) → (Nat → Int32) → Prop) : Prop :=
  vp_in 1 1472 ∧ ((((X7_s v) (1 : Int32).toNatClampNeg) ≤ y41_1 → wp_X7_digestLawn_84 v z41_v_isHollow z41_v_sure 0 z41_v_digested Q) ∧
  (¬ ((X7_s v) (1 : Int32).toNatClampNeg) ≤ y41_1 → wp_X7_digestLawn_53 v z41_v_isHollow z41_v_sure y41_1 z41_v_digested B41  0 z41_v_digested Q))
def wp_X7_digestLawn_41 (v : V_X7) (z41_v_isHollow : (Nat → Int32)) (z41_v_sure : (Nat → Int32)) (y41_1 : Int32) (z41_v_digested : Int64) (Q : Int64 → (Nat → Int32) → (Nat → Int32) → Prop) : Prop :=
  ∃ (I : Int32 → Int64 → Prop) (μ : Int32 → Int64 → Nat), I y41_1 z41_v_digested ∧ ∀ (s0 : Int32) (s1 : Int64), I s0 s1 → wb_X7_digestLawn_41 v z41_v_isHollow z41_v_sure s0 s1 (fun t0 t1 => I t0 t1 ∧ μ t0 t1 < μ s0 s1) Q
def wb_X7_digestLawn_10 (v : V_X7) (y2_1 : Int32) (z2_v_digested : Int64) (z2_v_isHollow : (Nat → Int32)) (z2_v_sure : (Nat → Int32)) (B2 : Int32 → Int64 → (Nat → Int32) → (Nat → Int32) → Prop)  (y10_2 : Int32) (z10_v_digested : Int64) (z10_v_isHollow : (Nat → Int32)) (z10_v_sure : (Nat → Int32)) (B10 : Int32 → Int64 → (Nat → Int32) → (Nat → Int32) → Prop) (Q : Int64 → (Nat → Int32) → (Nat → Int32) → Prop) : Prop :=
  ((9 ≤ y10_2 → B2 (y2_1 + 1) z10_v_digested z10_v_isHollow z10_v_sure) ∧
  (¬ 9 ≤ y10_2 → wp_X7_toldOfTuft ((X7_s v), (X7_aside v), (X7_kept v), (X7_isKept v), (X7_saved v), (X7_savedMany v), (X7_text v), (X7_length v), (X7_thrown v), (X7_joint v), (X7_position v), (X7_isWrong v), z10_v_isHollow, z10_v_sure, (X7_away v), z10_v_digested) y2_1 y10_2 (fun r20 z20_v_isHollow z20_v_sure =>
  wp_X7_digestOne ((X7_s v), (X7_aside v), (X7_kept v), (X7_isKept v), (X7_saved v), (X7_savedMany v), (X7_text v), (X7_length v), (X7_thrown v), (X7_joint v), (X7_position v), (X7_isWrong v), z20_v_isHollow, z20_v_sure, (X7_away v), z10_v_digested) (r20.toInt64) (fun z24_v_digested =>
  B10 (y10_2 + 1) z24_v_digested z20_v_isHollow z20_v_sure))))
def wp_X7_digestLawn_10 (v : V_X7) (y2_1 : Int32) (z2_v_digested : Int64) (z2_v_isHollow : (Nat → Int32)) (z2_v_sure : (Nat → Int32)) (B2 : Int32 → Int64 → (Nat → Int32) → (Nat → Int32) → Prop)  (y10_2 : Int32) (z10_v_digested : Int64) (z10_v_isHollow : (Nat → Int32)) (z10_v_sure : (Nat → Int32)) (Q : Int64 → (Nat → Int32) → (Nat → Int32) → Prop) : Prop :=
  ∃ (I : Int32 → Int64 → (Nat → Int32) → (Nat → Int32) → Prop) (μ : Int32 → Int64 → (Nat → Int32) → (Nat → Int32) → Nat), I y10_2 z10_v_digested z10_v_isHollow z10_v_sure ∧ ∀ (s0 : Int32) (s1 : Int64) (s2 : (Nat → Int32)) (s3 : (Nat → Int32)), I s0 s1 s2 s3 → wb_X7_digestLawn_10 v y2_1 z2_v_digested z2_v_isHollow z2_v_sure B2  s0 s1 s2 s3 (fun t0 t1 t2 t3 => I t0 t1 t2 t3 ∧ μ t0 t1 t2 t3 < μ s0 s1 s2 s3) Q
def wb_X7_digestLawn_2 (v : V_X7)  (y2_1 : Int32) (z2_v_digested : Int64) (z2_v_isHollow : (Nat → Int32)) (z2_v_sure : (Nat → Int32)) (B2 : Int32 → Int64 → (Nat → Int32) → (Nat → Int32) → Prop) (Q : Int64 → (Nat → Int32) → (Nat → Int32) → Prop) : Prop :=
  ((64 ≤ y2_1 → wp_X7_digestLawn_41 v z2_v_isHollow z2_v_sure 0 z2_v_digested Q) ∧
  (¬ 64 ≤ y2_1 → wp_X7_digestLawn_10 v y2_1 z2_v_digested z2_v_isHollow z2_v_sure B2  0 z2_v_digested z2_v_isHollow z2_v_sure Q))
def wp_X7_digestLawn_2 (v : V_X7)  (y2_1 : Int32) (z2_v_digested : Int64) (z2_v_isHollow : (Nat → Int32)) (z2_v_sure : (Nat → Int32)) (Q : Int64 → (Nat → Int32) → (Nat → Int32) → Prop) : Prop :=
  ∃ (I : Int32 → Int64 → (Nat → Int32) → (Nat → Int32) → Prop) (μ : Int32 → Int64 → (Nat → Int32) → (Nat → Int32) → Nat), I y2_1 z2_v_digested z2_v_isHollow z2_v_sure ∧ ∀ (s0 : Int32) (s1 : Int64) (s2 : (Nat → Int32)) (s3 : (Nat → Int32)), I s0 s1 s2 s3 → wb_X7_digestLawn_2 v  s0 s1 s2 s3 (fun t0 t1 t2 t3 => I t0 t1 t2 t3 ∧ μ t0 t1 t2 t3 < μ s0 s1 s2 s3) Q
def wp_X7_digestLawn (v : V_X7) (Q : Int64 → (Nat → Int32) → (Nat → Int32) → Prop) : Prop :=
  wp_X7_digestLawn_2 v  0 (X7_digested v) (X7_isHollow v) (X7_sure v) Q
def q_X7_digestLawn (dC : Nat → ClassId) (dI : Nat → Nat → Nat) (cy : Nat → ClassId) (a : Nat → Nat) (v : V_X7) (Q : Int64 → (Nat → Int32) → (Nat → Int32) → Prop) (A : Nat → Prop) : Array Value → State → Outcome → State → Prop := va_Qv (fun (u : Int64 × (Nat → Int32) × (Nat → Int32)) => Q u.1 u.2.1 u.2.2) (fun (u : Int64 × (Nat → Int32) × (Nat → Int32)) t => xAt dC dI cy A (cX7 cy a (X7_s v) (X7_aside v) (X7_kept v) (X7_isKept v) (X7_saved v) (X7_savedMany v) (X7_text v) (X7_length v) (X7_thrown v) (X7_joint v) (X7_position v) (X7_isWrong v) u.2.1 u.2.2 (X7_away v) u.1) t) A
set_option maxHeartbeats 4000000 in
set_option maxRecDepth 100000 in
theorem c_X7_digestLawn (l : Launch) (dC : Nat → ClassId) (dI : Nat → Nat → Nat) (cy : Nat → ClassId) (a : Nat → Nat) (sz : Nat) (v : V_X7) (Q : Int64 → (Nat → Int32) → (Nat → Int32) → Prop) (hq : wp_X7_digestLawn v Q) : Met l yX7_digestLawn wsX7_digestLawn ({ frames := 6, cells := 0, slots := 0, locals := 137 } : Room) (va_Pc [.ref (a 0)] (xPre dC dI cy (wX7 cy a v) sz)) (q_X7_digestLawn dC dI cy a v Q (va_A (wX7 cy a v) sz)) 0 0 (va_A (wX7 cy a v) sz) := by
  refine Met.ofW (cc := cX7_digestLawn) (maxL := 3) (ret := none) (by decide) rfl ?_
  intro p e s m args below meth c s₁ B hml hv
  obtain ⟨rfl, hsz, hP, hK, hD0⟩ := hv
  have hx := B.exec
  have hb := B.bytes
  have hr := B.returns
  have hts := atoms_spec (ws := wsX7_digestLawn) B.pre
  have hown : s.vm.findClass RX7 = some m.cls := findClass_of_methodNamed B.named
  have hlocks := B.notSynchronized
  subst hsz
  have hD := hD0.self (sz := s.heap.size)
  generalize hAe : va_A (wX7 cy a v) s.heap.size = A at hD ⊢
  have hAe0 : ∀ q : Nat, s.heap.size ≤ q → A q := fun q h => by rw [← hAe]; exact Or.inr h
  have hS : va_S A s.heap s.heap [] := va_S.rf
  have hl := lv_entry ([.ref (a 0)]) (n := 3) (Nat.le_of_ble_eq_true rfl)
  rw [lg_entry_eq]
  generalize (lg_sl ([.ref (a 0)]) ++ List.replicate (3 - (lg_sl ([.ref (a 0)])).length) Slot.unset).toArray = ls at hl ⊢
  have hl : lv_has ls 3 [(0, .ref (a 0))] := hl
  have lk0 := hts (Cond.fieldLink RX7 7 "MolesLawnModel" "s" "[I") (List.mem_cons_of_mem _ (List.mem_append_left _ (List.mem_append_left _ (List.mem_of_getElem? (i := 0) rfl))))
  have iK7 : ∀ w ∈ wsX70, w ∈ wsX7_digestLawn := fun _ h => (List.mem_cons_of_mem _ (List.mem_append_right _ h))
  unfold wp_X7_digestLawn at hq
  have J84 : ∀ (z84_v_isHollow : (Nat → Int32)) (z84_v_sure : (Nat → Int32)) (y84_1 : Int32) (z84_v_digested : Int64) (H : Heap) (locs : List Loc) (ls : Array Slot), wp_X7_digestLawn_84 v z84_v_isHollow z84_v_sure y84_1 z84_v_digested Q → va_P (dC, dI) vwCl (cX7 cy a (X7_s v) (X7_aside v) (X7_kept v) (X7_isKept v) (X7_saved v) (X7_savedMany v) (X7_text v) (X7_length v) (X7_thrown v) (X7_joint v) (X7_position v) (X7_isWrong v) z84_v_isHollow z84_v_sure (X7_away v) z84_v_digested) H → va_D A (cX7 cy a (X7_s v) (X7_aside v) (X7_kept v) (X7_isKept v) (X7_saved v) (X7_savedMany v) (X7_text v) (X7_length v) (X7_thrown v) (X7_joint v) (X7_position v) (X7_isWrong v) z84_v_isHollow z84_v_sure (X7_away v) z84_v_digested) → va_S A s.heap H locs → lv_has ls 3 [(0, .ref (a 0)), (1, .int y84_1)] → W p l e (headSpec wsX7_digestLawn ({ frames := 6, cells := 0, slots := 0, locals := 137 } : Room)).room s m ([.ref (a 0)] : List Value).toArray below meth c H locs 0 0 (MQ below (q_X7_digestLawn dC dI cy a v Q A) ([.ref (a 0)] : List Value).toArray s 0 0 A) (F0 m 84 ls []) := by
    intro z84_v_isHollow z84_v_sure y84_1 z84_v_digested H locs ls hq hP hD hS hl
    obtain ⟨I84, μ84, h0, hs84⟩ := hq
    have key : ∀ (n : Nat) (y84_1 : Int32) (z84_v_digested : Int64) (H : Heap) (locs : List Loc) (ls : Array Slot), I84 y84_1 z84_v_digested → μ84 y84_1 z84_v_digested < n → va_P (dC, dI) vwCl (cX7 cy a (X7_s v) (X7_aside v) (X7_kept v) (X7_isKept v) (X7_saved v) (X7_savedMany v) (X7_text v) (X7_length v) (X7_thrown v) (X7_joint v) (X7_position v) (X7_isWrong v) z84_v_isHollow z84_v_sure (X7_away v) z84_v_digested) H → va_D A (cX7 cy a (X7_s v) (X7_aside v) (X7_kept v) (X7_isKept v) (X7_saved v) (X7_savedMany v) (X7_text v) (X7_length v) (X7_thrown v) (X7_joint v) (X7_position v) (X7_isWrong v) z84_v_isHollow z84_v_sure (X7_away v) z84_v_digested) → va_S A s.heap H locs → lv_has ls 3 [(0, .ref (a 0)), (1, .int y84_1)] → W p l e (headSpec wsX7_digestLawn ({ frames := 6, cells := 0, slots := 0, locals := 137 } : Room)).room s m ([.ref (a 0)] : List Value).toArray below meth c H locs 0 0 (MQ below (q_X7_digestLawn dC dI cy a v Q A) ([.ref (a 0)] : List Value).toArray s 0 0 A) (F0 m 84 ls []) := by
      intro n
      induction n with
      | zero => intro y84_1 z84_v_digested H locs ls _ hm; exact absurd hm (Nat.not_lt_zero _)
      | succ n ih =>
        intro y84_1 z84_v_digested H locs ls hI hm hP hD hS hl
        have hq := hs84 y84_1 z84_v_digested hI
        generalize hB84 : (fun (t0 : Int32) (t1 : Int64) => I84 t0 t1 ∧ μ84 t0 t1 < μ84 y84_1 z84_v_digested) = B84 at hq
        have bk84 : ∀ (y84_1 : Int32) (z84_v_digested : Int64) (H : Heap) (locs : List Loc) (ls : Array Slot), B84 y84_1 z84_v_digested → va_P (dC, dI) vwCl (cX7 cy a (X7_s v) (X7_aside v) (X7_kept v) (X7_isKept v) (X7_saved v) (X7_savedMany v) (X7_text v) (X7_length v) (X7_thrown v) (X7_joint v) (X7_position v) (X7_isWrong v) z84_v_isHollow z84_v_sure (X7_away v) z84_v_digested) H → va_D A (cX7 cy a (X7_s v) (X7_aside v) (X7_kept v) (X7_isKept v) (X7_saved v) (X7_savedMany v) (X7_text v) (X7_length v) (X7_thrown v) (X7_joint v) (X7_position v) (X7_isWrong v) z84_v_isHollow z84_v_sure (X7_away v) z84_v_digested) → va_S A s.heap H locs → lv_has ls 3 [(0, .ref (a 0)), (1, .int y84_1)] → W p l e (headSpec wsX7_digestLawn ({ frames := 6, cells := 0, slots := 0, locals := 137 } : Room)).room s m ([.ref (a 0)] : List Value).toArray below meth c H locs 0 0 (MQ below (q_X7_digestLawn dC dI cy a v Q A) ([.ref (a 0)] : List Value).toArray s 0 0 A) (F0 m 84 ls []) := by
          intro y84_1 z84_v_digested H locs ls h
          rw [← hB84] at h
          exact ih y84_1 z84_v_digested H locs ls h.1 (Nat.lt_of_lt_of_le h.2 (Nat.le_of_lt_succ hm))
        unfold wb_X7_digestLawn_84 at hq
        have J118 : ∀  (y118_2 : Int32) (z118_v_digested : Int64) (H : Heap) (locs : List Loc) (ls : Array Slot), wp_X7_digestLawn_118 v z84_v_isHollow z84_v_sure y84_1 z84_v_digested B84  y118_2 z118_v_digested Q → va_P (dC, dI) vwCl (cX7 cy a (X7_s v) (X7_aside v) (X7_kept v) (X7_isKept v) (X7_saved v) (X7_savedMany v) (X7_text v) (X7_length v) (X7_thrown v) (X7_joint v) (X7_position v) (X7_isWrong v) z84_v_isHollow z84_v_sure (X7_away v) z118_v_digested) H → va_D A (cX7 cy a (X7_s v) (X7_aside v) (X7_kept v) (X7_isKept v) (X7_saved v) (X7_savedMany v) (X7_text v) (X7_length v) (X7_thrown v) (X7_joint v) (X7_position v) (X7_isWrong v) z84_v_isHollow z84_v_sure (X7_away v) z118_v_digested) → va_S A s.heap H locs → lv_has ls 3 [(0, .ref (a 0)), (1, .int y84_1), (2, .int y118_2)] → W p l e (headSpec wsX7_digestLawn ({ frames := 6, cells := 0, slots := 0, locals := 137 } : Room)).room s m ([.ref (a 0)] : List Value).toArray below meth c H locs 0 0 (MQ below (q_X7_digestLawn dC dI cy a v Q A) ([.ref (a 0)] : List Value).toArray s 0 0 A) (F0 m 118 ls []) := by
          intro  y118_2 z118_v_digested H locs ls hq hP hD hS hl
          obtain ⟨I118, μ118, h0, hs118⟩ := hq
          have key : ∀ (n : Nat) (y118_2 : Int32) (z118_v_digested : Int64) (H : Heap) (locs : List Loc) (ls : Array Slot), I118 y118_2 z118_v_digested → μ118 y118_2 z118_v_digested < n → va_P (dC, dI) vwCl (cX7 cy a (X7_s v) (X7_aside v) (X7_kept v) (X7_isKept v) (X7_saved v) (X7_savedMany v) (X7_text v) (X7_length v) (X7_thrown v) (X7_joint v) (X7_position v) (X7_isWrong v) z84_v_isHollow z84_v_sure (X7_away v) z118_v_digested) H → va_D A (cX7 cy a (X7_s v) (X7_aside v) (X7_kept v) (X7_isKept v) (X7_saved v) (X7_savedMany v) (X7_text v) (X7_length v) (X7_thrown v) (X7_joint v) (X7_position v) (X7_isWrong v) z84_v_isHollow z84_v_sure (X7_away v) z118_v_digested) → va_S A s.heap H locs → lv_has ls 3 [(0, .ref (a 0)), (1, .int y84_1), (2, .int y118_2)] → W p l e (headSpec wsX7_digestLawn ({ frames := 6, cells := 0, slots := 0, locals := 137 } : Room)).room s m ([.ref (a 0)] : List Value).toArray below meth c H locs 0 0 (MQ below (q_X7_digestLawn dC dI cy a v Q A) ([.ref (a 0)] : List Value).toArray s 0 0 A) (F0 m 118 ls []) := by
            intro n
            induction n with
            | zero => intro y118_2 z118_v_digested H locs ls _ hm; exact absurd hm (Nat.not_lt_zero _)
            | succ n ih =>
              intro y118_2 z118_v_digested H locs ls hI hm hP hD hS hl
              have hq := hs118 y118_2 z118_v_digested hI
              generalize hB118 : (fun (t0 : Int32) (t1 : Int64) => I118 t0 t1 ∧ μ118 t0 t1 < μ118 y118_2 z118_v_digested) = B118 at hq
              have bk118 : ∀ (y118_2 : Int32) (z118_v_digested : Int64) (H : Heap) (locs : List Loc) (ls : Array Slot), B118 y118_2 z118_v_digested → va_P (dC, dI) vwCl (cX7 cy a (X7_s v) (X7_aside v) (X7_kept v) (X7_isKept v) (X7_saved v) (X7_savedMany v) (X7_text v) (X7_length v) (X7_thrown v) (X7_joint v) (X7_position v) (X7_isWrong v) z84_v_isHollow z84_v_sure (X7_away v) z118_v_digested) H → va_D A (cX7 cy a (X7_s v) (X7_aside v) (X7_kept v) (X7_isKept v) (X7_saved v) (X7_savedMany v) (X7_text v) (X7_length v) (X7_thrown v) (X7_joint v) (X7_position v) (X7_isWrong v) z84_v_isHollow z84_v_sure (X7_away v) z118_v_digested) → va_S A s.heap H locs → lv_has ls 3 [(0, .ref (a 0)), (1, .int y84_1), (2, .int y118_2)] → W p l e (headSpec wsX7_digestLawn ({ frames := 6, cells := 0, slots := 0, locals := 137 } : Room)).room s m ([.ref (a 0)] : List Value).toArray below meth c H locs 0 0 (MQ below (q_X7_digestLawn dC dI cy a v Q A) ([.ref (a 0)] : List Value).toArray s 0 0 A) (F0 m 118 ls []) := by
                intro y118_2 z118_v_digested H locs ls h
                rw [← hB118] at h
                exact ih y118_2 z118_v_digested H locs ls h.1 (Nat.lt_of_lt_of_le h.2 (Nat.le_of_lt_succ hm))
              unfold wb_X7_digestLawn_118 at hq
              refine lv_iload_n hx hb dX7_digestLawn_118 rfl (lv_at hl 2 rfl) ?_
              refine lv_aload_n hx hb dX7_digestLawn_119 rfl (lv_at hl 0 rfl) ?_
              refine lv_iload_n hx hb dX7_digestLawn_120 rfl (lv_at hl 1 rfl) ?_
              refine lv_iconst (v := 2) hx hb dX7_digestLawn_121 (by decide) ?_
              have hFc := xfree_same hS hAe0 (ws := (cX7 cy a (X7_s v) (X7_aside v) (X7_kept v) (X7_isKept v) (X7_saved v) (X7_savedMany v) (X7_text v) (X7_length v) (X7_thrown v) (X7_joint v) (X7_position v) (X7_isWrong v) z84_v_isHollow z84_v_sure (X7_away v) z118_v_digested)) hD
              refine va_calli (va_runV (As := [.int y84_1, .int 2]) (rest := [.int y118_2]) ⟨hx, hb, hml, hown, hts⟩ (c_X7_toldOfTunnel l dC dI cy a _ ((X7_s v), (X7_aside v), (X7_kept v), (X7_isKept v), (X7_saved v), (X7_savedMany v), (X7_text v), (X7_length v), (X7_thrown v), (X7_joint v), (X7_position v), (X7_isWrong v), z84_v_isHollow, z84_v_sure, (X7_away v), z118_v_digested) y84_1 2 _ hq) (cwV 2 hts gX7_digestLawn_X7_toldOfTunnel rfl rfl rfl (by decide +kernel) ⟨Nat.le_of_ble_eq_true rfl, Nat.le_of_ble_eq_true rfl⟩) ⟨xPre_blind, va_recv hK hP (ci := 7) (q0 := 0) rfl rfl, xPre_of hP hK hD⟩ rfl rfl hl.1 rfl (lv_room (Nat.le_of_ble_eq_true rfl)) dX7_digestLawn_122 ⟨Nat.le_of_ble_eq_true rfl, Nat.le_of_ble_eq_true rfl⟩) hS (fun q _ h => hFc q h) hFc (fun r122 u9 t H locs ht hvm hq hB hz1 hk1 hS => ?_)
              obtain ⟨hP1, -, hD1⟩ := hB
              rw [ht] at hP1
              have hP : va_P (dC, dI) vwCl (cX7 cy a (X7_s v) (X7_aside v) (X7_kept v) (X7_isKept v) (X7_saved v) (X7_savedMany v) (X7_text v) (X7_length v) (X7_thrown v) (X7_joint v) (X7_position v) (X7_isWrong v) z84_v_isHollow z84_v_sure (X7_away v) z118_v_digested) H := hP1
              have hD : va_D A (cX7 cy a (X7_s v) (X7_aside v) (X7_kept v) (X7_isKept v) (X7_saved v) (X7_savedMany v) (X7_text v) (X7_length v) (X7_thrown v) (X7_joint v) (X7_position v) (X7_isWrong v) z84_v_isHollow z84_v_sure (X7_away v) z118_v_digested) := hD1.weaken (fun _ q _ h => hFc q.1 h)
              obtain ⟨hqA, hqB⟩ := hq
              refine lv_icmp_ge (tgt := 145) hx hb dX7_digestLawn_125 (by decide) (fun c1 => ?_) (fun c1 => ?_)
              · have hq := hqA c1
                refine lv_iinc (v := (y84_1 + 1)) (lv' := [(1, .int (y84_1 + 1)), (0, .ref (a 0)), (2, .int y118_2)]) hx hb dX7_digestLawn_145 hl (k := 1) rfl rfl (by decide) rfl (fun ls hl => ?_)
                refine lv_goto (tgt := 84) hx hb dX7_digestLawn_148 (by decide) ?_
                exact bk84 (y84_1 + 1) z118_v_digested _ _ _ hq hP hD hS (lv_sub hl [1, 0] rfl)
              · have hq := hqB c1
                refine lv_aload_n hx hb dX7_digestLawn_128 rfl (lv_at hl 0 rfl) ?_
                refine lv_aload_n hx hb dX7_digestLawn_129 rfl (lv_at hl 0 rfl) ?_
                refine lv_iload_n hx hb dX7_digestLawn_130 rfl (lv_at hl 1 rfl) ?_
                refine lv_iload_n hx hb dX7_digestLawn_131 rfl (lv_at hl 2 rfl) ?_
                have hFc := xfree_same hS hAe0 (ws := (cX7 cy a (X7_s v) (X7_aside v) (X7_kept v) (X7_isKept v) (X7_saved v) (X7_savedMany v) (X7_text v) (X7_length v) (X7_thrown v) (X7_joint v) (X7_position v) (X7_isWrong v) z84_v_isHollow z84_v_sure (X7_away v) z118_v_digested)) hD
                refine va_calli (va_runV (As := [.int y84_1, .int y118_2]) (rest := [.ref (a 0)]) ⟨hx, hb, hml, hown, hts⟩ (c_X7_cellOf l dC dI cy a _ ((X7_s v), (X7_aside v), (X7_kept v), (X7_isKept v), (X7_saved v), (X7_savedMany v), (X7_text v), (X7_length v), (X7_thrown v), (X7_joint v), (X7_position v), (X7_isWrong v), z84_v_isHollow, z84_v_sure, (X7_away v), z118_v_digested) y84_1 y118_2 _ hq) (cwV 2 hts gX7_digestLawn_X7_cellOf rfl rfl rfl (by decide +kernel) ⟨Nat.le_of_ble_eq_true rfl, Nat.le_of_ble_eq_true rfl⟩) ⟨xPre_blind, va_recv hK hP (ci := 7) (q0 := 0) rfl rfl, xPre_of hP hK hD⟩ rfl rfl hl.1 rfl (lv_room (Nat.le_of_ble_eq_true rfl)) dX7_digestLawn_132 ⟨Nat.le_of_ble_eq_true rfl, Nat.le_of_ble_eq_true rfl⟩) hS (fun q _ h => hFc q h) hFc (fun r132 u9 t H locs ht hvm hq hB hz1 hk1 hS => ?_)
                obtain ⟨hP1, -, hD1⟩ := hB
                rw [ht] at hP1
                have hP : va_P (dC, dI) vwCl (cX7 cy a (X7_s v) (X7_aside v) (X7_kept v) (X7_isKept v) (X7_saved v) (X7_savedMany v) (X7_text v) (X7_length v) (X7_thrown v) (X7_joint v) (X7_position v) (X7_isWrong v) z84_v_isHollow z84_v_sure (X7_away v) z118_v_digested) H := hP1
                have hD : va_D A (cX7 cy a (X7_s v) (X7_aside v) (X7_kept v) (X7_isKept v) (X7_saved v) (X7_savedMany v) (X7_text v) (X7_length v) (X7_thrown v) (X7_joint v) (X7_position v) (X7_isWrong v) z84_v_isHollow z84_v_sure (X7_away v) z118_v_digested) := hD1.weaken (fun _ q _ h => hFc q.1 h)
                refine lv_i2l hx hb dX7_digestLawn_135 rfl ?_
                have hFc := xfree_same hS hAe0 (ws := (cX7 cy a (X7_s v) (X7_aside v) (X7_kept v) (X7_isKept v) (X7_saved v) (X7_savedMany v) (X7_text v) (X7_length v) (X7_thrown v) (X7_joint v) (X7_position v) (X7_isWrong v) z84_v_isHollow z84_v_sure (X7_away v) z118_v_digested)) hD
                refine va_callv (va_runV (As := [.long (r132.toInt64)]) (rest := []) ⟨hx, hb, hml, hown, hts⟩ (c_X7_digestOne l dC dI cy a _ ((X7_s v), (X7_aside v), (X7_kept v), (X7_isKept v), (X7_saved v), (X7_savedMany v), (X7_text v), (X7_length v), (X7_thrown v), (X7_joint v), (X7_position v), (X7_isWrong v), z84_v_isHollow, z84_v_sure, (X7_away v), z118_v_digested) (r132.toInt64) _ hq) (cwV 1 hts gX7_digestLawn_X7_digestOne rfl rfl rfl (by decide +kernel) ⟨Nat.le_of_ble_eq_true rfl, Nat.le_of_ble_eq_true rfl⟩) ⟨xPre_blind, va_recv hK hP (ci := 7) (q0 := 0) rfl rfl, xPre_of hP hK hD⟩ rfl rfl hl.1 rfl (lv_room (Nat.le_of_ble_eq_true rfl)) dX7_digestLawn_136 ⟨Nat.le_of_ble_eq_true rfl, Nat.le_of_ble_eq_true rfl⟩) hS (fun q _ h => hFc q h) hFc (fun z136_v_digested t H locs ht hvm hq hB hz1 hk1 hS => ?_)
                obtain ⟨hP1, -, hD1⟩ := hB
                rw [ht] at hP1
                have hP : va_P (dC, dI) vwCl (cX7 cy a (X7_s v) (X7_aside v) (X7_kept v) (X7_isKept v) (X7_saved v) (X7_savedMany v) (X7_text v) (X7_length v) (X7_thrown v) (X7_joint v) (X7_position v) (X7_isWrong v) z84_v_isHollow z84_v_sure (X7_away v) z136_v_digested) H := hP1
                have hD : va_D A (cX7 cy a (X7_s v) (X7_aside v) (X7_kept v) (X7_isKept v) (X7_saved v) (X7_savedMany v) (X7_text v) (X7_length v) (X7_thrown v) (X7_joint v) (X7_position v) (X7_isWrong v) z84_v_isHollow z84_v_sure (X7_away v) z136_v_digested) := hD1.weaken (fun _ q _ h => hFc q.1 h)
                refine lv_iinc (v := (y118_2 + 1)) (lv' := [(2, .int (y118_2 + 1)), (0, .ref (a 0)), (1, .int y84_1)]) hx hb dX7_digestLawn_139 hl (k := 2) rfl rfl (by decide) rfl (fun ls hl => ?_)
                refine lv_goto (tgt := 118) hx hb dX7_digestLawn_142 (by decide) ?_
                exact bk118 (y118_2 + 1) z136_v_digested _ _ _ hq hP hD hS (lv_sub hl [1, 2, 0] rfl)
          exact key _ y118_2 z118_v_digested H locs ls h0 (Nat.lt_succ_self _) hP hD hS hl
        have J94 : ∀  (y94_2 : Int32) (z94_v_digested : Int64) (H : Heap) (locs : List Loc) (ls : Array Slot), wp_X7_digestLawn_94 v z84_v_isHollow z84_v_sure y84_1 z84_v_digested B84  y94_2 z94_v_digested Q → va_P (dC, dI) vwCl (cX7 cy a (X7_s v) (X7_aside v) (X7_kept v) (X7_isKept v) (X7_saved v) (X7_savedMany v) (X7_text v) (X7_length v) (X7_thrown v) (X7_joint v) (X7_position v) (X7_isWrong v) z84_v_isHollow z84_v_sure (X7_away v) z94_v_digested) H → va_D A (cX7 cy a (X7_s v) (X7_aside v) (X7_kept v) (X7_isKept v) (X7_saved v) (X7_savedMany v) (X7_text v) (X7_length v) (X7_thrown v) (X7_joint v) (X7_position v) (X7_isWrong v) z84_v_isHollow z84_v_sure (X7_away v) z94_v_digested) → va_S A s.heap H locs → lv_has ls 3 [(0, .ref (a 0)), (1, .int y84_1), (2, .int y94_2)] → W p l e (headSpec wsX7_digestLawn ({ frames := 6, cells := 0, slots := 0, locals := 137 } : Room)).room s m ([.ref (a 0)] : List Value).toArray below meth c H locs 0 0 (MQ below (q_X7_digestLawn dC dI cy a v Q A) ([.ref (a 0)] : List Value).toArray s 0 0 A) (F0 m 94 ls []) := by
          intro  y94_2 z94_v_digested H locs ls hq hP hD hS hl
          obtain ⟨I94, μ94, h0, hs94⟩ := hq
          have key : ∀ (n : Nat) (y94_2 : Int32) (z94_v_digested : Int64) (H : Heap) (locs : List Loc) (ls : Array Slot), I94 y94_2 z94_v_digested → μ94 y94_2 z94_v_digested < n → va_P (dC, dI) vwCl (cX7 cy a (X7_s v) (X7_aside v) (X7_kept v) (X7_isKept v) (X7_saved v) (X7_savedMany v) (X7_text v) (X7_length v) (X7_thrown v) (X7_joint v) (X7_position v) (X7_isWrong v) z84_v_isHollow z84_v_sure (X7_away v) z94_v_digested) H → va_D A (cX7 cy a (X7_s v) (X7_aside v) (X7_kept v) (X7_isKept v) (X7_saved v) (X7_savedMany v) (X7_text v) (X7_length v) (X7_thrown v) (X7_joint v) (X7_position v) (X7_isWrong v) z84_v_isHollow z84_v_sure (X7_away v) z94_v_digested) → va_S A s.heap H locs → lv_has ls 3 [(0, .ref (a 0)), (1, .int y84_1), (2, .int y94_2)] → W p l e (headSpec wsX7_digestLawn ({ frames := 6, cells := 0, slots := 0, locals := 137 } : Room)).room s m ([.ref (a 0)] : List Value).toArray below meth c H locs 0 0 (MQ below (q_X7_digestLawn dC dI cy a v Q A) ([.ref (a 0)] : List Value).toArray s 0 0 A) (F0 m 94 ls []) := by
            intro n
            induction n with
            | zero => intro y94_2 z94_v_digested H locs ls _ hm; exact absurd hm (Nat.not_lt_zero _)
            | succ n ih =>
              intro y94_2 z94_v_digested H locs ls hI hm hP hD hS hl
              have hq := hs94 y94_2 z94_v_digested hI
              generalize hB94 : (fun (t0 : Int32) (t1 : Int64) => I94 t0 t1 ∧ μ94 t0 t1 < μ94 y94_2 z94_v_digested) = B94 at hq
              have bk94 : ∀ (y94_2 : Int32) (z94_v_digested : Int64) (H : Heap) (locs : List Loc) (ls : Array Slot), B94 y94_2 z94_v_digested → va_P (dC, dI) vwCl (cX7 cy a (X7_s v) (X7_aside v) (X7_kept v) (X7_isKept v) (X7_saved v) (X7_savedMany v) (X7_text v) (X7_length v) (X7_thrown v) (X7_joint v) (X7_position v) (X7_isWrong v) z84_v_isHollow z84_v_sure (X7_away v) z94_v_digested) H → va_D A (cX7 cy a (X7_s v) (X7_aside v) (X7_kept v) (X7_isKept v) (X7_saved v) (X7_savedMany v) (X7_text v) (X7_length v) (X7_thrown v) (X7_joint v) (X7_position v) (X7_isWrong v) z84_v_isHollow z84_v_sure (X7_away v) z94_v_digested) → va_S A s.heap H locs → lv_has ls 3 [(0, .ref (a 0)), (1, .int y84_1), (2, .int y94_2)] → W p l e (headSpec wsX7_digestLawn ({ frames := 6, cells := 0, slots := 0, locals := 137 } : Room)).room s m ([.ref (a 0)] : List Value).toArray below meth c H locs 0 0 (MQ below (q_X7_digestLawn dC dI cy a v Q A) ([.ref (a 0)] : List Value).toArray s 0 0 A) (F0 m 94 ls []) := by
                intro y94_2 z94_v_digested H locs ls h
                rw [← hB94] at h
                exact ih y94_2 z94_v_digested H locs ls h.1 (Nat.lt_of_lt_of_le h.2 (Nat.le_of_lt_succ hm))
              unfold wb_X7_digestLawn_94 at hq
              refine lv_iload_n hx hb dX7_digestLawn_94 rfl (lv_at hl 2 rfl) ?_
              refine lv_iconst (v := 3) hx hb dX7_digestLawn_95 (by decide) ?_
              obtain ⟨hqA, hqB⟩ := hq
              refine lv_icmp_ge (tgt := 116) hx hb dX7_digestLawn_96 (by decide) (fun c2 => ?_) (fun c2 => ?_)
              · have hq := hqA c2
                refine lv_iconst (v := 0) hx hb dX7_digestLawn_116 (by decide) ?_
                refine lv_istore_n (lv' := [(2, .int 0), (0, .ref (a 0)), (1, .int y84_1)]) hx hb dX7_digestLawn_117 rfl hl (by decide) rfl (fun ls hl => ?_)
                exact J118  0 z94_v_digested _ _ _ hq hP hD hS (lv_sub hl [1, 2, 0] rfl)
              · have hq := hqB c2
                refine lv_aload_n hx hb dX7_digestLawn_99 rfl (lv_at hl 0 rfl) ?_
                refine lv_aload_n hx hb dX7_digestLawn_100 rfl (lv_at hl 0 rfl) ?_
                refine lv_iload_n hx hb dX7_digestLawn_101 rfl (lv_at hl 1 rfl) ?_
                refine lv_iload_n hx hb dX7_digestLawn_102 rfl (lv_at hl 2 rfl) ?_
                have hFc := xfree_same hS hAe0 (ws := (cX7 cy a (X7_s v) (X7_aside v) (X7_kept v) (X7_isKept v) (X7_saved v) (X7_savedMany v) (X7_text v) (X7_length v) (X7_thrown v) (X7_joint v) (X7_position v) (X7_isWrong v) z84_v_isHollow z84_v_sure (X7_away v) z94_v_digested)) hD
                refine va_calli (va_runV (As := [.int y84_1, .int y94_2]) (rest := [.ref (a 0)]) ⟨hx, hb, hml, hown, hts⟩ (c_X7_toldOfTunnel l dC dI cy a _ ((X7_s v), (X7_aside v), (X7_kept v), (X7_isKept v), (X7_saved v), (X7_savedMany v), (X7_text v), (X7_length v), (X7_thrown v), (X7_joint v), (X7_position v), (X7_isWrong v), z84_v_isHollow, z84_v_sure, (X7_away v), z94_v_digested) y84_1 y94_2 _ hq) (cwV 2 hts gX7_digestLawn_X7_toldOfTunnel rfl rfl rfl (by decide +kernel) ⟨Nat.le_of_ble_eq_true rfl, Nat.le_of_ble_eq_true rfl⟩) ⟨xPre_blind, va_recv hK hP (ci := 7) (q0 := 0) rfl rfl, xPre_of hP hK hD⟩ rfl rfl hl.1 rfl (lv_room (Nat.le_of_ble_eq_true rfl)) dX7_digestLawn_103 ⟨Nat.le_of_ble_eq_true rfl, Nat.le_of_ble_eq_true rfl⟩) hS (fun q _ h => hFc q h) hFc (fun r103 u9 t H locs ht hvm hq hB hz1 hk1 hS => ?_)
                obtain ⟨hP1, -, hD1⟩ := hB
                rw [ht] at hP1
                have hP : va_P (dC, dI) vwCl (cX7 cy a (X7_s v) (X7_aside v) (X7_kept v) (X7_isKept v) (X7_saved v) (X7_savedMany v) (X7_text v) (X7_length v) (X7_thrown v) (X7_joint v) (X7_position v) (X7_isWrong v) z84_v_isHollow z84_v_sure (X7_away v) z94_v_digested) H := hP1
                have hD : va_D A (cX7 cy a (X7_s v) (X7_aside v) (X7_kept v) (X7_isKept v) (X7_saved v) (X7_savedMany v) (X7_text v) (X7_length v) (X7_thrown v) (X7_joint v) (X7_position v) (X7_isWrong v) z84_v_isHollow z84_v_sure (X7_away v) z94_v_digested) := hD1.weaken (fun _ q _ h => hFc q.1 h)
                refine lv_i2l hx hb dX7_digestLawn_106 rfl ?_
                have hFc := xfree_same hS hAe0 (ws := (cX7 cy a (X7_s v) (X7_aside v) (X7_kept v) (X7_isKept v) (X7_saved v) (X7_savedMany v) (X7_text v) (X7_length v) (X7_thrown v) (X7_joint v) (X7_position v) (X7_isWrong v) z84_v_isHollow z84_v_sure (X7_away v) z94_v_digested)) hD
                refine va_callv (va_runV (As := [.long (r103.toInt64)]) (rest := []) ⟨hx, hb, hml, hown, hts⟩ (c_X7_digestOne l dC dI cy a _ ((X7_s v), (X7_aside v), (X7_kept v), (X7_isKept v), (X7_saved v), (X7_savedMany v), (X7_text v), (X7_length v), (X7_thrown v), (X7_joint v), (X7_position v), (X7_isWrong v), z84_v_isHollow, z84_v_sure, (X7_away v), z94_v_digested) (r103.toInt64) _ hq) (cwV 1 hts gX7_digestLawn_X7_digestOne rfl rfl rfl (by decide +kernel) ⟨Nat.le_of_ble_eq_true rfl, Nat.le_of_ble_eq_true rfl⟩) ⟨xPre_blind, va_recv hK hP (ci := 7) (q0 := 0) rfl rfl, xPre_of hP hK hD⟩ rfl rfl hl.1 rfl (lv_room (Nat.le_of_ble_eq_true rfl)) dX7_digestLawn_107 ⟨Nat.le_of_ble_eq_true rfl, Nat.le_of_ble_eq_true rfl⟩) hS (fun q _ h => hFc q h) hFc (fun z107_v_digested t H locs ht hvm hq hB hz1 hk1 hS => ?_)
                obtain ⟨hP1, -, hD1⟩ := hB
                rw [ht] at hP1
                have hP : va_P (dC, dI) vwCl (cX7 cy a (X7_s v) (X7_aside v) (X7_kept v) (X7_isKept v) (X7_saved v) (X7_savedMany v) (X7_text v) (X7_length v) (X7_thrown v) (X7_joint v) (X7_position v) (X7_isWrong v) z84_v_isHollow z84_v_sure (X7_away v) z107_v_digested) H := hP1
                have hD : va_D A (cX7 cy a (X7_s v) (X7_aside v) (X7_kept v) (X7_isKept v) (X7_saved v) (X7_savedMany v) (X7_text v) (X7_length v) (X7_thrown v) (X7_joint v) (X7_position v) (X7_isWrong v) z84_v_isHollow z84_v_sure (X7_away v) z107_v_digested) := hD1.weaken (fun _ q _ h => hFc q.1 h)
                refine lv_iinc (v := (y94_2 + 1)) (lv' := [(2, .int (y94_2 + 1)), (0, .ref (a 0)), (1, .int y84_1)]) hx hb dX7_digestLawn_110 hl (k := 2) rfl rfl (by decide) rfl (fun ls hl => ?_)
                refine lv_goto (tgt := 94) hx hb dX7_digestLawn_113 (by decide) ?_
                exact bk94 (y94_2 + 1) z107_v_digested _ _ _ hq hP hD hS (lv_sub hl [1, 2, 0] rfl)
          exact key _ y94_2 z94_v_digested H locs ls h0 (Nat.lt_succ_self _) hP hD hS hl
        refine lv_iload_n hx hb dX7_digestLawn_84 rfl (lv_at hl 1 rfl) ?_
        refine lv_aload_n hx hb dX7_digestLawn_85 rfl (lv_at hl 0 rfl) ?_
        have hFc := xfree_same hS hAe0 (ws := (cX7 cy a (X7_s v) (X7_aside v) (X7_kept v) (X7_isKept v) (X7_saved v) (X7_savedMany v) (X7_text v) (X7_length v) (X7_thrown v) (X7_joint v) (X7_position v) (X7_isWrong v) z84_v_isHollow z84_v_sure (X7_away v) z84_v_digested)) hD
        refine va_calli (va_runV (As := []) (rest := [.int y84_1]) ⟨hx, hb, hml, hown, hts⟩ (c_X7_tunnels l dC dI cy a _ ((X7_s v), (X7_aside v), (X7_kept v), (X7_isKept v), (X7_saved v), (X7_savedMany v), (X7_text v), (X7_length v), (X7_thrown v), (X7_joint v), (X7_position v), (X7_isWrong v), z84_v_isHollow, z84_v_sure, (X7_away v), z84_v_digested) _ hq) (cwV 0 hts gX7_digestLawn_X7_tunnels rfl rfl rfl (by decide +kernel) ⟨Nat.le_of_ble_eq_true rfl, Nat.le_of_ble_eq_true rfl⟩) ⟨xPre_blind, va_recv hK hP (ci := 7) (q0 := 0) rfl rfl, xPre_of hP hK hD⟩ rfl rfl hl.1 rfl (lv_room (Nat.le_of_ble_eq_true rfl)) dX7_digestLawn_86 ⟨Nat.le_of_ble_eq_true rfl, Nat.le_of_ble_eq_true rfl⟩) hS (fun q _ h => hFc q h) hFc (fun r86 u9 t H locs ht hvm hq hB hz1 hk1 hS => ?_)
        obtain ⟨hP1, -, hD1⟩ := hB
        rw [ht] at hP1
        have hP : va_P (dC, dI) vwCl (cX7 cy a (X7_s v) (X7_aside v) (X7_kept v) (X7_isKept v) (X7_saved v) (X7_savedMany v) (X7_text v) (X7_length v) (X7_thrown v) (X7_joint v) (X7_position v) (X7_isWrong v) z84_v_isHollow z84_v_sure (X7_away v) z84_v_digested) H := hP1
        have hD : va_D A (cX7 cy a (X7_s v) (X7_aside v) (X7_kept v) (X7_isKept v) (X7_saved v) (X7_savedMany v) (X7_text v) (X7_length v) (X7_thrown v) (X7_joint v) (X7_position v) (X7_isWrong v) z84_v_isHollow z84_v_sure (X7_away v) z84_v_digested) := hD1.weaken (fun _ q _ h => hFc q.1 h)
        obtain ⟨hqA, hqB⟩ := hq
        refine lv_icmp_ge (tgt := 151) hx hb dX7_digestLawn_89 (by decide) (fun c3 => ?_) (fun c3 => ?_)
        · have hq := hqA c3
          exact W.vret hx hb hr (fun t ht hW => ⟨⟨(z84_v_digested, z84_v_isHollow, z84_v_sure), rfl, hq, (xAt_of hP hK hD ht hW)⟩, hS.F ht⟩) hS.2.2 dX7_digestLawn_151
        · have hq := hqB c3
          refine lv_iconst (v := 0) hx hb dX7_digestLawn_92 (by decide) ?_
          refine lv_istore_n (lv' := [(2, .int 0), (0, .ref (a 0)), (1, .int y84_1)]) hx hb dX7_digestLawn_93 rfl hl (by decide) rfl (fun ls hl => ?_)
          exact J94  0 z84_v_digested _ _ _ hq hP hD hS (lv_sub hl [1, 2, 0] rfl)
    exact key _ y84_1 z84_v_digested H locs ls h0 (Nat.lt_succ_self _) hP hD hS hl
  have J41 : ∀ (z41_v_isHollow : (Nat → Int32)) (z41_v_sure : (Nat → Int32)) (y41_1 : Int32) (z41_v_digested : Int64) (H : Heap) (locs : List Loc) (ls : Array Slot), wp_X7_digestLawn_41 v z41_v_isHollow z41_v_sure y41_1 z41_v_digested Q → va_P (dC, dI) vwCl (cX7 cy a (X7_s v) (X7_aside v) (X7_kept v) (X7_isKept v) (X7_saved v) (X7_savedMany v) (X7_text v) (X7_length v) (X7_thrown v) (X7_joint v) (X7_position v) (X7_isWrong v) z41_v_isHollow z41_v_sure (X7_away v) z41_v_digested) H → va_D A (cX7 cy a (X7_s v) (X7_aside v) (X7_kept v) (X7_isKept v) (X7_saved v) (X7_savedMany v) (X7_text v) (X7_length v) (X7_thrown v) (X7_joint v) (X7_position v) (X7_isWrong v) z41_v_isHollow z41_v_sure (X7_away v) z41_v_digested) → va_S A s.heap H locs → lv_has ls 3 [(0, .ref (a 0)), (1, .int y41_1)] → W p l e (headSpec wsX7_digestLawn ({ frames := 6, cells := 0, slots := 0, locals := 137 } : Room)).room s m ([.ref (a 0)] : List Value).toArray below meth c H locs 0 0 (MQ below (q_X7_digestLawn dC dI cy a v Q A) ([.ref (a 0)] : List Value).toArray s 0 0 A) (F0 m 41 ls []) := by
    intro z41_v_isHollow z41_v_sure y41_1 z41_v_digested H locs ls hq hP hD hS hl
    obtain ⟨I41, μ41, h0, hs41⟩ := hq
    have key : ∀ (n : Nat) (y41_1 : Int32) (z41_v_digested : Int64) (H : Heap) (locs : List Loc) (ls : Array Slot), I41 y41_1 z41_v_digested → μ41 y41_1 z41_v_digested < n → va_P (dC, dI) vwCl (cX7 cy a (X7_s v) (X7_aside v) (X7_kept v) (X7_isKept v) (X7_saved v) (X7_savedMany v) (X7_text v) (X7_length v) (X7_thrown v) (X7_joint v) (X7_position v) (X7_isWrong v) z41_v_isHollow z41_v_sure (X7_away v) z41_v_digested) H → va_D A (cX7 cy a (X7_s v) (X7_aside v) (X7_kept v) (X7_isKept v) (X7_saved v) (X7_savedMany v) (X7_text v) (X7_length v) (X7_thrown v) (X7_joint v) (X7_position v) (X7_isWrong v) z41_v_isHollow z41_v_sure (X7_away v) z41_v_digested) → va_S A s.heap H locs → lv_has ls 3 [(0, .ref (a 0)), (1, .int y41_1)] → W p l e (headSpec wsX7_digestLawn ({ frames := 6, cells := 0, slots := 0, locals := 137 } : Room)).room s m ([.ref (a 0)] : List Value).toArray below meth c H locs 0 0 (MQ below (q_X7_digestLawn dC dI cy a v Q A) ([.ref (a 0)] : List Value).toArray s 0 0 A) (F0 m 41 ls []) := by
      intro n
      induction n with
      | zero => intro y41_1 z41_v_digested H locs ls _ hm; exact absurd hm (Nat.not_lt_zero _)
      | succ n ih =>
        intro y41_1 z41_v_digested H locs ls hI hm hP hD hS hl
        have hq := hs41 y41_1 z41_v_digested hI
        generalize hB41 : (fun (t0 : Int32) (t1 : Int64) => I41 t0 t1 ∧ μ41 t0 t1 < μ41 y41_1 z41_v_digested) = B41 at hq
        have bk41 : ∀ (y41_1 : Int32) (z41_v_digested : Int64) (H : Heap) (locs : List Loc) (ls : Array Slot), B41 y41_1 z41_v_digested → va_P (dC, dI) vwCl (cX7 cy a (X7_s v) (X7_aside v) (X7_kept v) (X7_isKept v) (X7_saved v) (X7_savedMany v) (X7_text v) (X7_length v) (X7_thrown v) (X7_joint v) (X7_position v) (X7_isWrong v) z41_v_isHollow z41_v_sure (X7_away v) z41_v_digested) H → va_D A (cX7 cy a (X7_s v) (X7_aside v) (X7_kept v) (X7_isKept v) (X7_saved v) (X7_savedMany v) (X7_text v) (X7_length v) (X7_thrown v) (X7_joint v) (X7_position v) (X7_isWrong v) z41_v_isHollow z41_v_sure (X7_away v) z41_v_digested) → va_S A s.heap H locs → lv_has ls 3 [(0, .ref (a 0)), (1, .int y41_1)] → W p l e (headSpec wsX7_digestLawn ({ frames := 6, cells := 0, slots := 0, locals := 137 } : Room)).room s m ([.ref (a 0)] : List Value).toArray below meth c H locs 0 0 (MQ below (q_X7_digestLawn dC dI cy a v Q A) ([.ref (a 0)] : List Value).toArray s 0 0 A) (F0 m 41 ls []) := by
          intro y41_1 z41_v_digested H locs ls h
          rw [← hB41] at h
          exact ih y41_1 z41_v_digested H locs ls h.1 (Nat.lt_of_lt_of_le h.2 (Nat.le_of_lt_succ hm))
        unfold wb_X7_digestLawn_41 at hq
        have J53 : ∀  (y53_2 : Int32) (z53_v_digested : Int64) (H : Heap) (locs : List Loc) (ls : Array Slot), wp_X7_digestLawn_53 v z41_v_isHollow z41_v_sure y41_1 z41_v_digested B41  y53_2 z53_v_digested Q → va_P (dC, dI) vwCl (cX7 cy a (X7_s v) (X7_aside v) (X7_kept v) (X7_isKept v) (X7_saved v) (X7_savedMany v) (X7_text v) (X7_length v) (X7_thrown v) (X7_joint v) (X7_position v) (X7_isWrong v) z41_v_isHollow z41_v_sure (X7_away v) z53_v_digested) H → va_D A (cX7 cy a (X7_s v) (X7_aside v) (X7_kept v) (X7_isKept v) (X7_saved v) (X7_savedMany v) (X7_text v) (X7_length v) (X7_thrown v) (X7_joint v) (X7_position v) (X7_isWrong v) z41_v_isHollow z41_v_sure (X7_away v) z53_v_digested) → va_S A s.heap H locs → lv_has ls 3 [(0, .ref (a 0)), (1, .int y41_1), (2, .int y53_2)] → W p l e (headSpec wsX7_digestLawn ({ frames := 6, cells := 0, slots := 0, locals := 137 } : Room)).room s m ([.ref (a 0)] : List Value).toArray below meth c H locs 0 0 (MQ below (q_X7_digestLawn dC dI cy a v Q A) ([.ref (a 0)] : List Value).toArray s 0 0 A) (F0 m 53 ls []) := by
          intro  y53_2 z53_v_digested H locs ls hq hP hD hS hl
          obtain ⟨I53, μ53, h0, hs53⟩ := hq
          have key : ∀ (n : Nat) (y53_2 : Int32) (z53_v_digested : Int64) (H : Heap) (locs : List Loc) (ls : Array Slot), I53 y53_2 z53_v_digested → μ53 y53_2 z53_v_digested < n → va_P (dC, dI) vwCl (cX7 cy a (X7_s v) (X7_aside v) (X7_kept v) (X7_isKept v) (X7_saved v) (X7_savedMany v) (X7_text v) (X7_length v) (X7_thrown v) (X7_joint v) (X7_position v) (X7_isWrong v) z41_v_isHollow z41_v_sure (X7_away v) z53_v_digested) H → va_D A (cX7 cy a (X7_s v) (X7_aside v) (X7_kept v) (X7_isKept v) (X7_saved v) (X7_savedMany v) (X7_text v) (X7_length v) (X7_thrown v) (X7_joint v) (X7_position v) (X7_isWrong v) z41_v_isHollow z41_v_sure (X7_away v) z53_v_digested) → va_S A s.heap H locs → lv_has ls 3 [(0, .ref (a 0)), (1, .int y41_1), (2, .int y53_2)] → W p l e (headSpec wsX7_digestLawn ({ frames := 6, cells := 0, slots := 0, locals := 137 } : Room)).room s m ([.ref (a 0)] : List Value).toArray below meth c H locs 0 0 (MQ below (q_X7_digestLawn dC dI cy a v Q A) ([.ref (a 0)] : List Value).toArray s 0 0 A) (F0 m 53 ls []) := by
            intro n
            induction n with
            | zero => intro y53_2 z53_v_digested H locs ls _ hm; exact absurd hm (Nat.not_lt_zero _)
            | succ n ih =>
              intro y53_2 z53_v_digested H locs ls hI hm hP hD hS hl
              have hq := hs53 y53_2 z53_v_digested hI
              generalize hB53 : (fun (t0 : Int32) (t1 : Int64) => I53 t0 t1 ∧ μ53 t0 t1 < μ53 y53_2 z53_v_digested) = B53 at hq
              have bk53 : ∀ (y53_2 : Int32) (z53_v_digested : Int64) (H : Heap) (locs : List Loc) (ls : Array Slot), B53 y53_2 z53_v_digested → va_P (dC, dI) vwCl (cX7 cy a (X7_s v) (X7_aside v) (X7_kept v) (X7_isKept v) (X7_saved v) (X7_savedMany v) (X7_text v) (X7_length v) (X7_thrown v) (X7_joint v) (X7_position v) (X7_isWrong v) z41_v_isHollow z41_v_sure (X7_away v) z53_v_digested) H → va_D A (cX7 cy a (X7_s v) (X7_aside v) (X7_kept v) (X7_isKept v) (X7_saved v) (X7_savedMany v) (X7_text v) (X7_length v) (X7_thrown v) (X7_joint v) (X7_position v) (X7_isWrong v) z41_v_isHollow z41_v_sure (X7_away v) z53_v_digested) → va_S A s.heap H locs → lv_has ls 3 [(0, .ref (a 0)), (1, .int y41_1), (2, .int y53_2)] → W p l e (headSpec wsX7_digestLawn ({ frames := 6, cells := 0, slots := 0, locals := 137 } : Room)).room s m ([.ref (a 0)] : List Value).toArray below meth c H locs 0 0 (MQ below (q_X7_digestLawn dC dI cy a v Q A) ([.ref (a 0)] : List Value).toArray s 0 0 A) (F0 m 53 ls []) := by
                intro y53_2 z53_v_digested H locs ls h
                rw [← hB53] at h
                exact ih y53_2 z53_v_digested H locs ls h.1 (Nat.lt_of_lt_of_le h.2 (Nat.le_of_lt_succ hm))
              unfold wb_X7_digestLawn_53 at hq
              refine lv_iload_n hx hb dX7_digestLawn_53 rfl (lv_at hl 2 rfl) ?_
              refine lv_bipush (v := 7) hx hb dX7_digestLawn_54 (by decide) ?_
              obtain ⟨hqA, hqB⟩ := hq
              refine lv_icmp_ge (tgt := 76) hx hb dX7_digestLawn_56 (by decide) (fun c4 => ?_) (fun c4 => ?_)
              · have hq := hqA c4
                refine lv_iinc (v := (y41_1 + 1)) (lv' := [(1, .int (y41_1 + 1)), (0, .ref (a 0)), (2, .int y53_2)]) hx hb dX7_digestLawn_76 hl (k := 1) rfl rfl (by decide) rfl (fun ls hl => ?_)
                refine lv_goto (tgt := 41) hx hb dX7_digestLawn_79 (by decide) ?_
                exact bk41 (y41_1 + 1) z53_v_digested _ _ _ hq hP hD hS (lv_sub hl [1, 0] rfl)
              · have hq := hqB c4
                refine lv_aload_n hx hb dX7_digestLawn_59 rfl (lv_at hl 0 rfl) ?_
                refine lv_aload_n hx hb dX7_digestLawn_60 rfl (lv_at hl 0 rfl) ?_
                refine lv_iload_n hx hb dX7_digestLawn_61 rfl (lv_at hl 1 rfl) ?_
                refine lv_iload_n hx hb dX7_digestLawn_62 rfl (lv_at hl 2 rfl) ?_
                have hFc := xfree_same hS hAe0 (ws := (cX7 cy a (X7_s v) (X7_aside v) (X7_kept v) (X7_isKept v) (X7_saved v) (X7_savedMany v) (X7_text v) (X7_length v) (X7_thrown v) (X7_joint v) (X7_position v) (X7_isWrong v) z41_v_isHollow z41_v_sure (X7_away v) z53_v_digested)) hD
                refine va_calli (va_runV (As := [.int y41_1, .int y53_2]) (rest := [.ref (a 0)]) ⟨hx, hb, hml, hown, hts⟩ (c_X7_toldOfMole l dC dI cy a _ ((X7_s v), (X7_aside v), (X7_kept v), (X7_isKept v), (X7_saved v), (X7_savedMany v), (X7_text v), (X7_length v), (X7_thrown v), (X7_joint v), (X7_position v), (X7_isWrong v), z41_v_isHollow, z41_v_sure, (X7_away v), z53_v_digested) y41_1 y53_2 _ hq) (cwV 2 hts gX7_digestLawn_X7_toldOfMole rfl rfl rfl (by decide +kernel) ⟨Nat.le_of_ble_eq_true rfl, Nat.le_of_ble_eq_true rfl⟩) ⟨xPre_blind, va_recv hK hP (ci := 7) (q0 := 0) rfl rfl, xPre_of hP hK hD⟩ rfl rfl hl.1 rfl (lv_room (Nat.le_of_ble_eq_true rfl)) dX7_digestLawn_63 ⟨Nat.le_of_ble_eq_true rfl, Nat.le_of_ble_eq_true rfl⟩) hS (fun q _ h => hFc q h) hFc (fun r63 u9 t H locs ht hvm hq hB hz1 hk1 hS => ?_)
                obtain ⟨hP1, -, hD1⟩ := hB
                rw [ht] at hP1
                have hP : va_P (dC, dI) vwCl (cX7 cy a (X7_s v) (X7_aside v) (X7_kept v) (X7_isKept v) (X7_saved v) (X7_savedMany v) (X7_text v) (X7_length v) (X7_thrown v) (X7_joint v) (X7_position v) (X7_isWrong v) z41_v_isHollow z41_v_sure (X7_away v) z53_v_digested) H := hP1
                have hD : va_D A (cX7 cy a (X7_s v) (X7_aside v) (X7_kept v) (X7_isKept v) (X7_saved v) (X7_savedMany v) (X7_text v) (X7_length v) (X7_thrown v) (X7_joint v) (X7_position v) (X7_isWrong v) z41_v_isHollow z41_v_sure (X7_away v) z53_v_digested) := hD1.weaken (fun _ q _ h => hFc q.1 h)
                refine lv_i2l hx hb dX7_digestLawn_66 rfl ?_
                have hFc := xfree_same hS hAe0 (ws := (cX7 cy a (X7_s v) (X7_aside v) (X7_kept v) (X7_isKept v) (X7_saved v) (X7_savedMany v) (X7_text v) (X7_length v) (X7_thrown v) (X7_joint v) (X7_position v) (X7_isWrong v) z41_v_isHollow z41_v_sure (X7_away v) z53_v_digested)) hD
                refine va_callv (va_runV (As := [.long (r63.toInt64)]) (rest := []) ⟨hx, hb, hml, hown, hts⟩ (c_X7_digestOne l dC dI cy a _ ((X7_s v), (X7_aside v), (X7_kept v), (X7_isKept v), (X7_saved v), (X7_savedMany v), (X7_text v), (X7_length v), (X7_thrown v), (X7_joint v), (X7_position v), (X7_isWrong v), z41_v_isHollow, z41_v_sure, (X7_away v), z53_v_digested) (r63.toInt64) _ hq) (cwV 1 hts gX7_digestLawn_X7_digestOne rfl rfl rfl (by decide +kernel) ⟨Nat.le_of_ble_eq_true rfl, Nat.le_of_ble_eq_true rfl⟩) ⟨xPre_blind, va_recv hK hP (ci := 7) (q0 := 0) rfl rfl, xPre_of hP hK hD⟩ rfl rfl hl.1 rfl (lv_room (Nat.le_of_ble_eq_true rfl)) dX7_digestLawn_67 ⟨Nat.le_of_ble_eq_true rfl, Nat.le_of_ble_eq_true rfl⟩) hS (fun q _ h => hFc q h) hFc (fun z67_v_digested t H locs ht hvm hq hB hz1 hk1 hS => ?_)
                obtain ⟨hP1, -, hD1⟩ := hB
                rw [ht] at hP1
                have hP : va_P (dC, dI) vwCl (cX7 cy a (X7_s v) (X7_aside v) (X7_kept v) (X7_isKept v) (X7_saved v) (X7_savedMany v) (X7_text v) (X7_length v) (X7_thrown v) (X7_joint v) (X7_position v) (X7_isWrong v) z41_v_isHollow z41_v_sure (X7_away v) z67_v_digested) H := hP1
                have hD : va_D A (cX7 cy a (X7_s v) (X7_aside v) (X7_kept v) (X7_isKept v) (X7_saved v) (X7_savedMany v) (X7_text v) (X7_length v) (X7_thrown v) (X7_joint v) (X7_position v) (X7_isWrong v) z41_v_isHollow z41_v_sure (X7_away v) z67_v_digested) := hD1.weaken (fun _ q _ h => hFc q.1 h)
                refine lv_iinc (v := (y53_2 + 1)) (lv' := [(2, .int (y53_2 + 1)), (0, .ref (a 0)), (1, .int y41_1)]) hx hb dX7_digestLawn_70 hl (k := 2) rfl rfl (by decide) rfl (fun ls hl => ?_)
                refine lv_goto (tgt := 53) hx hb dX7_digestLawn_73 (by decide) ?_
                exact bk53 (y53_2 + 1) z67_v_digested _ _ _ hq hP hD hS (lv_sub hl [1, 2, 0] rfl)
          exact key _ y53_2 z53_v_digested H locs ls h0 (Nat.lt_succ_self _) hP hD hS hl
        refine lv_iload_n hx hb dX7_digestLawn_41 rfl (lv_at hl 1 rfl) ?_
        refine lv_aload_n hx hb dX7_digestLawn_42 rfl (lv_at hl 0 rfl) ?_
        refine va_get (D := (dC, dI)) (ci := 7) (v := .ref (a 1)) (C := RX7) (T := TX7) (N := 16) hx hb hts iK7 hown hK hP 0 rfl rfl 0 (by decide) lk0 (fun _ h9 => h9) rfl dX7_digestLawn_43 ?_
        refine lv_iconst (v := 1) hx hb dX7_digestLawn_46 (by decide) ?_
        obtain ⟨g5, hq⟩ := hq
        refine va_iald hx hb hK hP 1 0 rfl rfl g5 dX7_digestLawn_47 ?_
        obtain ⟨hqA, hqB⟩ := hq
        refine lv_icmp_ge (tgt := 82) hx hb dX7_digestLawn_48 (by decide) (fun c6 => ?_) (fun c6 => ?_)
        · have hq := hqA c6
          refine lv_iconst (v := 0) hx hb dX7_digestLawn_82 (by decide) ?_
          refine lv_istore_n (lv' := [(1, .int 0), (0, .ref (a 0))]) hx hb dX7_digestLawn_83 rfl hl (by decide) rfl (fun ls hl => ?_)
          exact J84 z41_v_isHollow z41_v_sure 0 z41_v_digested _ _ _ hq hP hD hS (lv_sub hl [1, 0] rfl)
        · have hq := hqB c6
          refine lv_iconst (v := 0) hx hb dX7_digestLawn_51 (by decide) ?_
          refine lv_istore_n (lv' := [(2, .int 0), (0, .ref (a 0)), (1, .int y41_1)]) hx hb dX7_digestLawn_52 rfl hl (by decide) rfl (fun ls hl => ?_)
          exact J53  0 z41_v_digested _ _ _ hq hP hD hS (lv_sub hl [1, 2, 0] rfl)
    exact key _ y41_1 z41_v_digested H locs ls h0 (Nat.lt_succ_self _) hP hD hS hl
  have J2 : ∀  (y2_1 : Int32) (z2_v_digested : Int64) (z2_v_isHollow : (Nat → Int32)) (z2_v_sure : (Nat → Int32)) (H : Heap) (locs : List Loc) (ls : Array Slot), wp_X7_digestLawn_2 v  y2_1 z2_v_digested z2_v_isHollow z2_v_sure Q → va_P (dC, dI) vwCl (cX7 cy a (X7_s v) (X7_aside v) (X7_kept v) (X7_isKept v) (X7_saved v) (X7_savedMany v) (X7_text v) (X7_length v) (X7_thrown v) (X7_joint v) (X7_position v) (X7_isWrong v) z2_v_isHollow z2_v_sure (X7_away v) z2_v_digested) H → va_D A (cX7 cy a (X7_s v) (X7_aside v) (X7_kept v) (X7_isKept v) (X7_saved v) (X7_savedMany v) (X7_text v) (X7_length v) (X7_thrown v) (X7_joint v) (X7_position v) (X7_isWrong v) z2_v_isHollow z2_v_sure (X7_away v) z2_v_digested) → va_S A s.heap H locs → lv_has ls 3 [(0, .ref (a 0)), (1, .int y2_1)] → W p l e (headSpec wsX7_digestLawn ({ frames := 6, cells := 0, slots := 0, locals := 137 } : Room)).room s m ([.ref (a 0)] : List Value).toArray below meth c H locs 0 0 (MQ below (q_X7_digestLawn dC dI cy a v Q A) ([.ref (a 0)] : List Value).toArray s 0 0 A) (F0 m 2 ls []) := by
    intro  y2_1 z2_v_digested z2_v_isHollow z2_v_sure H locs ls hq hP hD hS hl
    obtain ⟨I2, μ2, h0, hs2⟩ := hq
    have key : ∀ (n : Nat) (y2_1 : Int32) (z2_v_digested : Int64) (z2_v_isHollow : (Nat → Int32)) (z2_v_sure : (Nat → Int32)) (H : Heap) (locs : List Loc) (ls : Array Slot), I2 y2_1 z2_v_digested z2_v_isHollow z2_v_sure → μ2 y2_1 z2_v_digested z2_v_isHollow z2_v_sure < n → va_P (dC, dI) vwCl (cX7 cy a (X7_s v) (X7_aside v) (X7_kept v) (X7_isKept v) (X7_saved v) (X7_savedMany v) (X7_text v) (X7_length v) (X7_thrown v) (X7_joint v) (X7_position v) (X7_isWrong v) z2_v_isHollow z2_v_sure (X7_away v) z2_v_digested) H → va_D A (cX7 cy a (X7_s v) (X7_aside v) (X7_kept v) (X7_isKept v) (X7_saved v) (X7_savedMany v) (X7_text v) (X7_length v) (X7_thrown v) (X7_joint v) (X7_position v) (X7_isWrong v) z2_v_isHollow z2_v_sure (X7_away v) z2_v_digested) → va_S A s.heap H locs → lv_has ls 3 [(0, .ref (a 0)), (1, .int y2_1)] → W p l e (headSpec wsX7_digestLawn ({ frames := 6, cells := 0, slots := 0, locals := 137 } : Room)).room s m ([.ref (a 0)] : List Value).toArray below meth c H locs 0 0 (MQ below (q_X7_digestLawn dC dI cy a v Q A) ([.ref (a 0)] : List Value).toArray s 0 0 A) (F0 m 2 ls []) := by
      intro n
      induction n with
      | zero => intro y2_1 z2_v_digested z2_v_isHollow z2_v_sure H locs ls _ hm; exact absurd hm (Nat.not_lt_zero _)
      | succ n ih =>
        intro y2_1 z2_v_digested z2_v_isHollow z2_v_sure H locs ls hI hm hP hD hS hl
        have hq := hs2 y2_1 z2_v_digested z2_v_isHollow z2_v_sure hI
        generalize hB2 : (fun (t0 : Int32) (t1 : Int64) (t2 : (Nat → Int32)) (t3 : (Nat → Int32)) => I2 t0 t1 t2 t3 ∧ μ2 t0 t1 t2 t3 < μ2 y2_1 z2_v_digested z2_v_isHollow z2_v_sure) = B2 at hq
        have bk2 : ∀ (y2_1 : Int32) (z2_v_digested : Int64) (z2_v_isHollow : (Nat → Int32)) (z2_v_sure : (Nat → Int32)) (H : Heap) (locs : List Loc) (ls : Array Slot), B2 y2_1 z2_v_digested z2_v_isHollow z2_v_sure → va_P (dC, dI) vwCl (cX7 cy a (X7_s v) (X7_aside v) (X7_kept v) (X7_isKept v) (X7_saved v) (X7_savedMany v) (X7_text v) (X7_length v) (X7_thrown v) (X7_joint v) (X7_position v) (X7_isWrong v) z2_v_isHollow z2_v_sure (X7_away v) z2_v_digested) H → va_D A (cX7 cy a (X7_s v) (X7_aside v) (X7_kept v) (X7_isKept v) (X7_saved v) (X7_savedMany v) (X7_text v) (X7_length v) (X7_thrown v) (X7_joint v) (X7_position v) (X7_isWrong v) z2_v_isHollow z2_v_sure (X7_away v) z2_v_digested) → va_S A s.heap H locs → lv_has ls 3 [(0, .ref (a 0)), (1, .int y2_1)] → W p l e (headSpec wsX7_digestLawn ({ frames := 6, cells := 0, slots := 0, locals := 137 } : Room)).room s m ([.ref (a 0)] : List Value).toArray below meth c H locs 0 0 (MQ below (q_X7_digestLawn dC dI cy a v Q A) ([.ref (a 0)] : List Value).toArray s 0 0 A) (F0 m 2 ls []) := by
          intro y2_1 z2_v_digested z2_v_isHollow z2_v_sure H locs ls h
          rw [← hB2] at h
          exact ih y2_1 z2_v_digested z2_v_isHollow z2_v_sure H locs ls h.1 (Nat.lt_of_lt_of_le h.2 (Nat.le_of_lt_succ hm))
        unfold wb_X7_digestLawn_2 at hq
        have J10 : ∀  (y10_2 : Int32) (z10_v_digested : Int64) (z10_v_isHollow : (Nat → Int32)) (z10_v_sure : (Nat → Int32)) (H : Heap) (locs : List Loc) (ls : Array Slot), wp_X7_digestLawn_10 v y2_1 z2_v_digested z2_v_isHollow z2_v_sure B2  y10_2 z10_v_digested z10_v_isHollow z10_v_sure Q → va_P (dC, dI) vwCl (cX7 cy a (X7_s v) (X7_aside v) (X7_kept v) (X7_isKept v) (X7_saved v) (X7_savedMany v) (X7_text v) (X7_length v) (X7_thrown v) (X7_joint v) (X7_position v) (X7_isWrong v) z10_v_isHollow z10_v_sure (X7_away v) z10_v_digested) H → va_D A (cX7 cy a (X7_s v) (X7_aside v) (X7_kept v) (X7_isKept v) (X7_saved v) (X7_savedMany v) (X7_text v) (X7_length v) (X7_thrown v) (X7_joint v) (X7_position v) (X7_isWrong v) z10_v_isHollow z10_v_sure (X7_away v) z10_v_digested) → va_S A s.heap H locs → lv_has ls 3 [(0, .ref (a 0)), (1, .int y2_1), (2, .int y10_2)] → W p l e (headSpec wsX7_digestLawn ({ frames := 6, cells := 0, slots := 0, locals := 137 } : Room)).room s m ([.ref (a 0)] : List Value).toArray below meth c H locs 0 0 (MQ below (q_X7_digestLawn dC dI cy a v Q A) ([.ref (a 0)] : List Value).toArray s 0 0 A) (F0 m 10 ls []) := by
          intro  y10_2 z10_v_digested z10_v_isHollow z10_v_sure H locs ls hq hP hD hS hl
          obtain ⟨I10, μ10, h0, hs10⟩ := hq
          have key : ∀ (n : Nat) (y10_2 : Int32) (z10_v_digested : Int64) (z10_v_isHollow : (Nat → Int32)) (z10_v_sure : (Nat → Int32)) (H : Heap) (locs : List Loc) (ls : Array Slot), I10 y10_2 z10_v_digested z10_v_isHollow z10_v_sure → μ10 y10_2 z10_v_digested z10_v_isHollow z10_v_sure < n → va_P (dC, dI) vwCl (cX7 cy a (X7_s v) (X7_aside v) (X7_kept v) (X7_isKept v) (X7_saved v) (X7_savedMany v) (X7_text v) (X7_length v) (X7_thrown v) (X7_joint v) (X7_position v) (X7_isWrong v) z10_v_isHollow z10_v_sure (X7_away v) z10_v_digested) H → va_D A (cX7 cy a (X7_s v) (X7_aside v) (X7_kept v) (X7_isKept v) (X7_saved v) (X7_savedMany v) (X7_text v) (X7_length v) (X7_thrown v) (X7_joint v) (X7_position v) (X7_isWrong v) z10_v_isHollow z10_v_sure (X7_away v) z10_v_digested) → va_S A s.heap H locs → lv_has ls 3 [(0, .ref (a 0)), (1, .int y2_1), (2, .int y10_2)] → W p l e (headSpec wsX7_digestLawn ({ frames := 6, cells := 0, slots := 0, locals := 137 } : Room)).room s m ([.ref (a 0)] : List Value).toArray below meth c H locs 0 0 (MQ below (q_X7_digestLawn dC dI cy a v Q A) ([.ref (a 0)] : List Value).toArray s 0 0 A) (F0 m 10 ls []) := by
            intro n
            induction n with
            | zero => intro y10_2 z10_v_digested z10_v_isHollow z10_v_sure H locs ls _ hm; exact absurd hm (Nat.not_lt_zero _)
            | succ n ih =>
              intro y10_2 z10_v_digested z10_v_isHollow z10_v_sure H locs ls hI hm hP hD hS hl
              have hq := hs10 y10_2 z10_v_digested z10_v_isHollow z10_v_sure hI
              generalize hB10 : (fun (t0 : Int32) (t1 : Int64) (t2 : (Nat → Int32)) (t3 : (Nat → Int32)) => I10 t0 t1 t2 t3 ∧ μ10 t0 t1 t2 t3 < μ10 y10_2 z10_v_digested z10_v_isHollow z10_v_sure) = B10 at hq
              have bk10 : ∀ (y10_2 : Int32) (z10_v_digested : Int64) (z10_v_isHollow : (Nat → Int32)) (z10_v_sure : (Nat → Int32)) (H : Heap) (locs : List Loc) (ls : Array Slot), B10 y10_2 z10_v_digested z10_v_isHollow z10_v_sure → va_P (dC, dI) vwCl (cX7 cy a (X7_s v) (X7_aside v) (X7_kept v) (X7_isKept v) (X7_saved v) (X7_savedMany v) (X7_text v) (X7_length v) (X7_thrown v) (X7_joint v) (X7_position v) (X7_isWrong v) z10_v_isHollow z10_v_sure (X7_away v) z10_v_digested) H → va_D A (cX7 cy a (X7_s v) (X7_aside v) (X7_kept v) (X7_isKept v) (X7_saved v) (X7_savedMany v) (X7_text v) (X7_length v) (X7_thrown v) (X7_joint v) (X7_position v) (X7_isWrong v) z10_v_isHollow z10_v_sure (X7_away v) z10_v_digested) → va_S A s.heap H locs → lv_has ls 3 [(0, .ref (a 0)), (1, .int y2_1), (2, .int y10_2)] → W p l e (headSpec wsX7_digestLawn ({ frames := 6, cells := 0, slots := 0, locals := 137 } : Room)).room s m ([.ref (a 0)] : List Value).toArray below meth c H locs 0 0 (MQ below (q_X7_digestLawn dC dI cy a v Q A) ([.ref (a 0)] : List Value).toArray s 0 0 A) (F0 m 10 ls []) := by
                intro y10_2 z10_v_digested z10_v_isHollow z10_v_sure H locs ls h
                rw [← hB10] at h
                exact ih y10_2 z10_v_digested z10_v_isHollow z10_v_sure H locs ls h.1 (Nat.lt_of_lt_of_le h.2 (Nat.le_of_lt_succ hm))
              unfold wb_X7_digestLawn_10 at hq
              refine lv_iload_n hx hb dX7_digestLawn_10 rfl (lv_at hl 2 rfl) ?_
              refine lv_bipush (v := 9) hx hb dX7_digestLawn_11 (by decide) ?_
              obtain ⟨hqA, hqB⟩ := hq
              refine lv_icmp_ge (tgt := 33) hx hb dX7_digestLawn_13 (by decide) (fun c7 => ?_) (fun c7 => ?_)
              · have hq := hqA c7
                refine lv_iinc (v := (y2_1 + 1)) (lv' := [(1, .int (y2_1 + 1)), (0, .ref (a 0)), (2, .int y10_2)]) hx hb dX7_digestLawn_33 hl (k := 1) rfl rfl (by decide) rfl (fun ls hl => ?_)
                refine lv_goto (tgt := 2) hx hb dX7_digestLawn_36 (by decide) ?_
                exact bk2 (y2_1 + 1) z10_v_digested z10_v_isHollow z10_v_sure _ _ _ hq hP hD hS (lv_sub hl [1, 0] rfl)
              · have hq := hqB c7
                refine lv_aload_n hx hb dX7_digestLawn_16 rfl (lv_at hl 0 rfl) ?_
                refine lv_aload_n hx hb dX7_digestLawn_17 rfl (lv_at hl 0 rfl) ?_
                refine lv_iload_n hx hb dX7_digestLawn_18 rfl (lv_at hl 1 rfl) ?_
                refine lv_iload_n hx hb dX7_digestLawn_19 rfl (lv_at hl 2 rfl) ?_
                have hFc := xfree_same hS hAe0 (ws := (cX7 cy a (X7_s v) (X7_aside v) (X7_kept v) (X7_isKept v) (X7_saved v) (X7_savedMany v) (X7_text v) (X7_length v) (X7_thrown v) (X7_joint v) (X7_position v) (X7_isWrong v) z10_v_isHollow z10_v_sure (X7_away v) z10_v_digested)) hD
                refine va_calli (va_runV (As := [.int y2_1, .int y10_2]) (rest := [.ref (a 0)]) ⟨hx, hb, hml, hown, hts⟩ (c_X7_toldOfTuft l dC dI cy a _ ((X7_s v), (X7_aside v), (X7_kept v), (X7_isKept v), (X7_saved v), (X7_savedMany v), (X7_text v), (X7_length v), (X7_thrown v), (X7_joint v), (X7_position v), (X7_isWrong v), z10_v_isHollow, z10_v_sure, (X7_away v), z10_v_digested) y2_1 y10_2 _ hq) (cwV 2 hts gX7_digestLawn_X7_toldOfTuft rfl rfl rfl (by decide +kernel) ⟨Nat.le_of_ble_eq_true rfl, Nat.le_of_ble_eq_true rfl⟩) ⟨xPre_blind, va_recv hK hP (ci := 7) (q0 := 0) rfl rfl, xPre_of hP hK hD⟩ rfl rfl hl.1 rfl (lv_room (Nat.le_of_ble_eq_true rfl)) dX7_digestLawn_20 ⟨Nat.le_of_ble_eq_true rfl, Nat.le_of_ble_eq_true rfl⟩) hS (fun q _ h => hFc q h) hFc (fun r20 u9 t H locs ht hvm hq hB hz1 hk1 hS => ?_)
                obtain ⟨z20_v_isHollow, z20_v_sure⟩ := u9
                obtain ⟨hP1, -, hD1⟩ := hB
                rw [ht] at hP1
                have hP : va_P (dC, dI) vwCl (cX7 cy a (X7_s v) (X7_aside v) (X7_kept v) (X7_isKept v) (X7_saved v) (X7_savedMany v) (X7_text v) (X7_length v) (X7_thrown v) (X7_joint v) (X7_position v) (X7_isWrong v) z20_v_isHollow z20_v_sure (X7_away v) z10_v_digested) H := hP1
                have hD : va_D A (cX7 cy a (X7_s v) (X7_aside v) (X7_kept v) (X7_isKept v) (X7_saved v) (X7_savedMany v) (X7_text v) (X7_length v) (X7_thrown v) (X7_joint v) (X7_position v) (X7_isWrong v) z20_v_isHollow z20_v_sure (X7_away v) z10_v_digested) := hD1.weaken (fun _ q _ h => hFc q.1 h)
                refine lv_i2l hx hb dX7_digestLawn_23 rfl ?_
                have hFc := xfree_same hS hAe0 (ws := (cX7 cy a (X7_s v) (X7_aside v) (X7_kept v) (X7_isKept v) (X7_saved v) (X7_savedMany v) (X7_text v) (X7_length v) (X7_thrown v) (X7_joint v) (X7_position v) (X7_isWrong v) z20_v_isHollow z20_v_sure (X7_away v) z10_v_digested)) hD
                refine va_callv (va_runV (As := [.long (r20.toInt64)]) (rest := []) ⟨hx, hb, hml, hown, hts⟩ (c_X7_digestOne l dC dI cy a _ ((X7_s v), (X7_aside v), (X7_kept v), (X7_isKept v), (X7_saved v), (X7_savedMany v), (X7_text v), (X7_length v), (X7_thrown v), (X7_joint v), (X7_position v), (X7_isWrong v), z20_v_isHollow, z20_v_sure, (X7_away v), z10_v_digested) (r20.toInt64) _ hq) (cwV 1 hts gX7_digestLawn_X7_digestOne rfl rfl rfl (by decide +kernel) ⟨Nat.le_of_ble_eq_true rfl, Nat.le_of_ble_eq_true rfl⟩) ⟨xPre_blind, va_recv hK hP (ci := 7) (q0 := 0) rfl rfl, xPre_of hP hK hD⟩ rfl rfl hl.1 rfl (lv_room (Nat.le_of_ble_eq_true rfl)) dX7_digestLawn_24 ⟨Nat.le_of_ble_eq_true rfl, Nat.le_of_ble_eq_true rfl⟩) hS (fun q _ h => hFc q h) hFc (fun z24_v_digested t H locs ht hvm hq hB hz1 hk1 hS => ?_)
                obtain ⟨hP1, -, hD1⟩ := hB
                rw [ht] at hP1
                have hP : va_P (dC, dI) vwCl (cX7 cy a (X7_s v) (X7_aside v) (X7_kept v) (X7_isKept v) (X7_saved v) (X7_savedMany v) (X7_text v) (X7_length v) (X7_thrown v) (X7_joint v) (X7_position v) (X7_isWrong v) z20_v_isHollow z20_v_sure (X7_away v) z24_v_digested) H := hP1
                have hD : va_D A (cX7 cy a (X7_s v) (X7_aside v) (X7_kept v) (X7_isKept v) (X7_saved v) (X7_savedMany v) (X7_text v) (X7_length v) (X7_thrown v) (X7_joint v) (X7_position v) (X7_isWrong v) z20_v_isHollow z20_v_sure (X7_away v) z24_v_digested) := hD1.weaken (fun _ q _ h => hFc q.1 h)
                refine lv_iinc (v := (y10_2 + 1)) (lv' := [(2, .int (y10_2 + 1)), (0, .ref (a 0)), (1, .int y2_1)]) hx hb dX7_digestLawn_27 hl (k := 2) rfl rfl (by decide) rfl (fun ls hl => ?_)
                refine lv_goto (tgt := 10) hx hb dX7_digestLawn_30 (by decide) ?_
                exact bk10 (y10_2 + 1) z24_v_digested z20_v_isHollow z20_v_sure _ _ _ hq hP hD hS (lv_sub hl [1, 2, 0] rfl)
          exact key _ y10_2 z10_v_digested z10_v_isHollow z10_v_sure H locs ls h0 (Nat.lt_succ_self _) hP hD hS hl
        refine lv_iload_n hx hb dX7_digestLawn_2 rfl (lv_at hl 1 rfl) ?_
        refine lv_bipush (v := 64) hx hb dX7_digestLawn_3 (by decide) ?_
        obtain ⟨hqA, hqB⟩ := hq
        refine lv_icmp_ge (tgt := 39) hx hb dX7_digestLawn_5 (by decide) (fun c8 => ?_) (fun c8 => ?_)
        · have hq := hqA c8
          refine lv_iconst (v := 0) hx hb dX7_digestLawn_39 (by decide) ?_
          refine lv_istore_n (lv' := [(1, .int 0), (0, .ref (a 0))]) hx hb dX7_digestLawn_40 rfl hl (by decide) rfl (fun ls hl => ?_)
          exact J41 z2_v_isHollow z2_v_sure 0 z2_v_digested _ _ _ hq hP hD hS (lv_sub hl [1, 0] rfl)
        · have hq := hqB c8
          refine lv_iconst (v := 0) hx hb dX7_digestLawn_8 (by decide) ?_
          refine lv_istore_n (lv' := [(2, .int 0), (0, .ref (a 0)), (1, .int y2_1)]) hx hb dX7_digestLawn_9 rfl hl (by decide) rfl (fun ls hl => ?_)
          exact J10  0 z2_v_digested z2_v_isHollow z2_v_sure _ _ _ hq hP hD hS (lv_sub hl [1, 2, 0] rfl)
    exact key _ y2_1 z2_v_digested z2_v_isHollow z2_v_sure H locs ls h0 (Nat.lt_succ_self _) hP hD hS hl
  refine lv_iconst (v := 0) hx hb dX7_digestLawn_0 (by decide) ?_
  refine lv_istore_n (lv' := [(1, .int 0), (0, .ref (a 0))]) hx hb dX7_digestLawn_1 rfl hl (by decide) rfl (fun ls hl => ?_)
  exact J2  0 (X7_digested v) (X7_isHollow v) (X7_sure v) _ _ _ hq hP hD hS (lv_sub hl [1, 0] rfl)
def wb_X7_digestMounds_56 (v : V_X7) (z56_v_away : (Nat → Int32)) (y56_2 : Int32) (z56_v_aside : (Nat → Int32)) (z56_v_digested : Int64) (z56_v_isHollow : (Nat → Int32)) (z56_v_s : (Nat → Int32)) (B56 : Int32 → (Nat → Int32) → Int64 → (Nat → Int32) → (Nat → Int32) → Prop) (Q : (Nat → Int32) → (Nat → Int32) → Int64 → (Nat → Int32) → (Nat → Int32) → Prop) : Prop :=
  ((64 ≤ y56_2 → Q z56_v_aside z56_v_away z56_v_digested z56_v_isHollow z56_v_s) ∧
  (¬ 64 ≤ y56_2 → wp_X7_whenDug (z56_v_s, z56_v_aside, (X7_kept v), (X7_isKept v), (X7_saved v), (X7_savedMany v), (X7_text v), (X7_length v), (X7_thrown v), (X7_joint v), (X7_position v), (X7_isWrong v), z56_v_isHollow, (X7_sure v), z56_v_away, z56_v_digested) y56_2 0 (fun r66 z66_v_aside z66_v_isHollow z66_v_s =>
  wp_X7_digestOne (z66_v_s, z66_v_aside, (X7_kept v), (X7_isKept v), (X7_saved v), (X7_savedMany v), (X7_text v), (X7_length v), (X7_thrown v), (X7_joint v), (X7_position v), (X7_isWrong v), z66_v_isHollow, (X7_sure v), z56_v_away, z56_v_digested) (r66.toInt64) (fun z70_v_digested =>
  B56 (y56_2 + 1) z66_v_aside z70_v_digested z66_v_isHollow z66_v_s))))
def wp_X7_digestMounds_56 (v : V_X7) (z56_v_away : (Nat → Int32)) (y56_2 : Int32) (z56_v_aside : (Nat → Int32)) (z56_v_digested : Int64) (z56_v_isHollow : (Nat → Int32)) (z56_v_s : (Nat → Int32)) (Q : (Nat → Int32) → (Nat → Int32) → Int64 → (Nat → Int32) → (Nat → Int32) → Prop) : Prop :=
  ∃ (I : Int32 → (Nat → Int32) → Int64 → (Nat → Int32) → (Nat → Int32) → Prop) (μ : Int32 → (Nat → Int32) → Int64 → (Nat → Int32) → (Nat → Int32) → Nat), I y56_2 z56_v_aside z56_v_digested z56_v_isHollow z56_v_s ∧ ∀ (s0 : Int32) (s1 : (Nat → Int32)) (s2 : Int64) (s3 : (Nat → Int32)) (s4 : (Nat → Int32)), I s0 s1 s2 s3 s4 → wb_X7_digestMounds_56 v z56_v_away s0 s1 s2 s3 s4 (fun t0 t1 t2 t3 t4 => I t0 t1 t2 t3 t4 ∧ μ t0 t1 t2 t3 t4 < μ s0 s1 s2 s3 s4) Q
def wp_X7_digestMounds_28 (v : V_X7) (y4_1 : Int32) (y4_2 : Int32) (z4_v_away : (Nat → Int32)) (z4_v_digested : Int64) (B4 : Int32 → Int32 → (Nat → Int32) → Int64 → Prop) (k28_0 : Int32) (Q : (Nat → Int32) → (Nat → Int32) → Int64 → (Nat → Int32) → (Nat → Int32) → Prop) : Prop :=
  wp_X7_hasMound (X7_s15 (X7_s14 v z4_v_away) z4_v_digested) y4_2 (fun r31 =>
  ((r31 = 0 → B4 k28_0 (y4_2 + 1) z4_v_away z4_v_digested) ∧
  (¬ r31 = 0 → wp_X7_fewestTo (X7_s15 (X7_s14 v z4_v_away) z4_v_digested) y4_2 k28_0 (fun r41 z41_v_away =>
  wp_X7_digestOne (X7_s15 (X7_s14 v z41_v_away) z4_v_digested) (r41.toInt64) (fun z45_v_digested =>
  B4 k28_0 (y4_2 + 1) z41_v_away z45_v_digested)))))
def wp_X7_digestMounds_27 (v : V_X7) (y4_1 : Int32) (y4_2 : Int32) (z4_v_away : (Nat → Int32)) (z4_v_digested : Int64) (B4 : Int32 → Int32 → (Nat → Int32) → Int64 → Prop)  (Q : (Nat → Int32) → (Nat → Int32) → Int64 → (Nat → Int32) → (Nat → Int32) → Prop) : Prop :=
  wp_X7_digestMounds_28 v y4_1 y4_2 z4_v_away z4_v_digested B4 y4_1  Q
def wb_X7_digestMounds_4 (v : V_X7)  (y4_1 : Int32) (y4_2 : Int32) (z4_v_away : (Nat → Int32)) (z4_v_digested : Int64) (B4 : Int32 → Int32 → (Nat → Int32) → Int64 → Prop) (Q : (Nat → Int32) → (Nat → Int32) → Int64 → (Nat → Int32) → (Nat → Int32) → Prop) : Prop :=
  ((64 ≤ y4_2 → wp_X7_digestMounds_56 v z4_v_away 0 (X7_aside v) z4_v_digested (X7_isHollow v) (X7_s v) Q) ∧
  (¬ 64 ≤ y4_2 → ((y4_1 = (-1) → wp_X7_hasMound (X7_s15 (X7_s14 v z4_v_away) z4_v_digested) y4_2 (fun r17 =>
  ((r17 = 0 → wp_X7_digestMounds_27 v y4_1 y4_2 z4_v_away z4_v_digested B4   Q) ∧
  (¬ r17 = 0 → wp_X7_digestMounds_28 v y4_1 y4_2 z4_v_away z4_v_digested B4 y4_2  Q)))) ∧
  (¬ y4_1 = (-1) → wp_X7_digestMounds_27 v y4_1 y4_2 z4_v_away z4_v_digested B4   Q))))
def wp_X7_digestMounds_4 (v : V_X7)  (y4_1 : Int32) (y4_2 : Int32) (z4_v_away : (Nat → Int32)) (z4_v_digested : Int64) (Q : (Nat → Int32) → (Nat → Int32) → Int64 → (Nat → Int32) → (Nat → Int32) → Prop) : Prop :=
  ∃ (I : Int32 → Int32 → (Nat → Int32) → Int64 → Prop) (μ : Int32 → Int32 → (Nat → Int32) → Int64 → Nat), I y4_1 y4_2 z4_v_away z4_v_digested ∧ ∀ (s0 : Int32) (s1 : Int32) (s2 : (Nat → Int32)) (s3 : Int64), I s0 s1 s2 s3 → wb_X7_digestMounds_4 v  s0 s1 s2 s3 (fun t0 t1 t2 t3 => I t0 t1 t2 t3 ∧ μ t0 t1 t2 t3 < μ s0 s1 s2 s3) Q
def wp_X7_digestMounds (v : V_X7) (Q : (Nat → Int32) → (Nat → Int32) → Int64 → (Nat → Int32) → (Nat → Int32) → Prop) : Prop :=
  wp_X7_digestMounds_4 v  (-1) 0 (X7_away v) (X7_digested v) Q
def q_X7_digestMounds (dC : Nat → ClassId) (dI : Nat → Nat → Nat) (cy : Nat → ClassId) (a : Nat → Nat) (v : V_X7) (Q : (Nat → Int32) → (Nat → Int32) → Int64 → (Nat → Int32) → (Nat → Int32) → Prop) (A : Nat → Prop) : Array Value → State → Outcome → State → Prop := va_Qv (fun (u : (Nat → Int32) × (Nat → Int32) × Int64 × (Nat → Int32) × (Nat → Int32)) => Q u.1 u.2.1 u.2.2.1 u.2.2.2.1 u.2.2.2.2) (fun (u : (Nat → Int32) × (Nat → Int32) × Int64 × (Nat → Int32) × (Nat → Int32)) t => xAt dC dI cy A (cX7 cy a u.2.2.2.2 u.1 (X7_kept v) (X7_isKept v) (X7_saved v) (X7_savedMany v) (X7_text v) (X7_length v) (X7_thrown v) (X7_joint v) (X7_position v) (X7_isWrong v) u.2.2.2.1 (X7_sure v) u.2.1 u.2.2.1) t) A
set_option maxHeartbeats 4000000 in
set_option maxRecDepth 100000 in
theorem c_X7_digestMounds (l : Launch) (dC : Nat → ClassId) (dI : Nat → Nat → Nat) (cy : Nat → ClassId) (a : Nat → Nat) (sz : Nat) (v : V_X7) (Q : (Nat → Int32) → (Nat → Int32) → Int64 → (Nat → Int32) → (Nat → Int32) → Prop) (hq : wp_X7_digestMounds v Q) : Met l yX7_digestMounds wsX7_digestMounds ({ frames := 6, cells := 0, slots := 0, locals := 146 } : Room) (va_Pc [.ref (a 0)] (xPre dC dI cy (wX7 cy a v) sz)) (q_X7_digestMounds dC dI cy a v Q (va_A (wX7 cy a v) sz)) 0 0 (va_A (wX7 cy a v) sz) := by
  refine Met.ofW (cc := cX7_digestMounds) (maxL := 3) (ret := none) (by decide) rfl ?_
  intro p e s m args below meth c s₁ B hml hv
  obtain ⟨rfl, hsz, hP, hK, hD0⟩ := hv
  have hx := B.exec
  have hb := B.bytes
  have hr := B.returns
  have hts := atoms_spec (ws := wsX7_digestMounds) B.pre
  have hown : s.vm.findClass RX7 = some m.cls := findClass_of_methodNamed B.named
  have hlocks := B.notSynchronized
  subst hsz
  have hD := hD0.self (sz := s.heap.size)
  generalize hAe : va_A (wX7 cy a v) s.heap.size = A at hD ⊢
  have hAe0 : ∀ q : Nat, s.heap.size ≤ q → A q := fun q h => by rw [← hAe]; exact Or.inr h
  have hS : va_S A s.heap s.heap [] := va_S.rf
  have hl := lv_entry ([.ref (a 0)]) (n := 3) (Nat.le_of_ble_eq_true rfl)
  rw [lg_entry_eq]
  generalize (lg_sl ([.ref (a 0)]) ++ List.replicate (3 - (lg_sl ([.ref (a 0)])).length) Slot.unset).toArray = ls at hl ⊢
  have hl : lv_has ls 3 [(0, .ref (a 0))] := hl
  unfold wp_X7_digestMounds at hq
  have J56 : ∀ (z56_v_away : (Nat → Int32)) (y56_2 : Int32) (z56_v_aside : (Nat → Int32)) (z56_v_digested : Int64) (z56_v_isHollow : (Nat → Int32)) (z56_v_s : (Nat → Int32)) (H : Heap) (locs : List Loc) (ls : Array Slot), wp_X7_digestMounds_56 v z56_v_away y56_2 z56_v_aside z56_v_digested z56_v_isHollow z56_v_s Q → va_P (dC, dI) vwCl (cX7 cy a z56_v_s z56_v_aside (X7_kept v) (X7_isKept v) (X7_saved v) (X7_savedMany v) (X7_text v) (X7_length v) (X7_thrown v) (X7_joint v) (X7_position v) (X7_isWrong v) z56_v_isHollow (X7_sure v) z56_v_away z56_v_digested) H → va_D A (cX7 cy a z56_v_s z56_v_aside (X7_kept v) (X7_isKept v) (X7_saved v) (X7_savedMany v) (X7_text v) (X7_length v) (X7_thrown v) (X7_joint v) (X7_position v) (X7_isWrong v) z56_v_isHollow (X7_sure v) z56_v_away z56_v_digested) → va_S A s.heap H locs → lv_has ls 3 [(0, .ref (a 0)), (2, .int y56_2)] → W p l e (headSpec wsX7_digestMounds ({ frames := 6, cells := 0, slots := 0, locals := 146 } : Room)).room s m ([.ref (a 0)] : List Value).toArray below meth c H locs 0 0 (MQ below (q_X7_digestMounds dC dI cy a v Q A) ([.ref (a 0)] : List Value).toArray s 0 0 A) (F0 m 56 ls []) := by
    intro z56_v_away y56_2 z56_v_aside z56_v_digested z56_v_isHollow z56_v_s H locs ls hq hP hD hS hl
    obtain ⟨I56, μ56, h0, hs56⟩ := hq
    have key : ∀ (n : Nat) (y56_2 : Int32) (z56_v_aside : (Nat → Int32)) (z56_v_digested : Int64) (z56_v_isHollow : (Nat → Int32)) (z56_v_s : (Nat → Int32)) (H : Heap) (locs : List Loc) (ls : Array Slot), I56 y56_2 z56_v_aside z56_v_digested z56_v_isHollow z56_v_s → μ56 y56_2 z56_v_aside z56_v_digested z56_v_isHollow z56_v_s < n → va_P (dC, dI) vwCl (cX7 cy a z56_v_s z56_v_aside (X7_kept v) (X7_isKept v) (X7_saved v) (X7_savedMany v) (X7_text v) (X7_length v) (X7_thrown v) (X7_joint v) (X7_position v) (X7_isWrong v) z56_v_isHollow (X7_sure v) z56_v_away z56_v_digested) H → va_D A (cX7 cy a z56_v_s z56_v_aside (X7_kept v) (X7_isKept v) (X7_saved v) (X7_savedMany v) (X7_text v) (X7_length v) (X7_thrown v) (X7_joint v) (X7_position v) (X7_isWrong v) z56_v_isHollow (X7_sure v) z56_v_away z56_v_digested) → va_S A s.heap H locs → lv_has ls 3 [(0, .ref (a 0)), (2, .int y56_2)] → W p l e (headSpec wsX7_digestMounds ({ frames := 6, cells := 0, slots := 0, locals := 146 } : Room)).room s m ([.ref (a 0)] : List Value).toArray below meth c H locs 0 0 (MQ below (q_X7_digestMounds dC dI cy a v Q A) ([.ref (a 0)] : List Value).toArray s 0 0 A) (F0 m 56 ls []) := by
      intro n
      induction n with
      | zero => intro y56_2 z56_v_aside z56_v_digested z56_v_isHollow z56_v_s H locs ls _ hm; exact absurd hm (Nat.not_lt_zero _)
      | succ n ih =>
        intro y56_2 z56_v_aside z56_v_digested z56_v_isHollow z56_v_s H locs ls hI hm hP hD hS hl
        have hq := hs56 y56_2 z56_v_aside z56_v_digested z56_v_isHollow z56_v_s hI
        generalize hB56 : (fun (t0 : Int32) (t1 : (Nat → Int32)) (t2 : Int64) (t3 : (Nat → Int32)) (t4 : (Nat → Int32)) => I56 t0 t1 t2 t3 t4 ∧ μ56 t0 t1 t2 t3 t4 < μ56 y56_2 z56_v_aside z56_v_digested z56_v_isHollow z56_v_s) = B56 at hq
        have bk56 : ∀ (y56_2 : Int32) (z56_v_aside : (Nat → Int32)) (z56_v_digested : Int64) (z56_v_isHollow : (Nat → Int32)) (z56_v_s : (Nat → Int32)) (H : Heap) (locs : List Loc) (ls : Array Slot), B56 y56_2 z56_v_aside z56_v_digested z56_v_isHollow z56_v_s → va_P (dC, dI) vwCl (cX7 cy a z56_v_s z56_v_aside (X7_kept v) (X7_isKept v) (X7_saved v) (X7_savedMany v) (X7_text v) (X7_length v) (X7_thrown v) (X7_joint v) (X7_position v) (X7_isWrong v) z56_v_isHollow (X7_sure v) z56_v_away z56_v_digested) H → va_D A (cX7 cy a z56_v_s z56_v_aside (X7_kept v) (X7_isKept v) (X7_saved v) (X7_savedMany v) (X7_text v) (X7_length v) (X7_thrown v) (X7_joint v) (X7_position v) (X7_isWrong v) z56_v_isHollow (X7_sure v) z56_v_away z56_v_digested) → va_S A s.heap H locs → lv_has ls 3 [(0, .ref (a 0)), (2, .int y56_2)] → W p l e (headSpec wsX7_digestMounds ({ frames := 6, cells := 0, slots := 0, locals := 146 } : Room)).room s m ([.ref (a 0)] : List Value).toArray below meth c H locs 0 0 (MQ below (q_X7_digestMounds dC dI cy a v Q A) ([.ref (a 0)] : List Value).toArray s 0 0 A) (F0 m 56 ls []) := by
          intro y56_2 z56_v_aside z56_v_digested z56_v_isHollow z56_v_s H locs ls h
          rw [← hB56] at h
          exact ih y56_2 z56_v_aside z56_v_digested z56_v_isHollow z56_v_s H locs ls h.1 (Nat.lt_of_lt_of_le h.2 (Nat.le_of_lt_succ hm))
        unfold wb_X7_digestMounds_56 at hq
        refine lv_iload_n hx hb dX7_digestMounds_56 rfl (lv_at hl 1 rfl) ?_
        refine lv_bipush (v := 64) hx hb dX7_digestMounds_57 (by decide) ?_
        obtain ⟨hqA, hqB⟩ := hq
        refine lv_icmp_ge (tgt := 79) hx hb dX7_digestMounds_59 (by decide) (fun c1 => ?_) (fun c1 => ?_)
        · have hq := hqA c1
          exact W.vret hx hb hr (fun t ht hW => ⟨⟨(z56_v_aside, z56_v_away, z56_v_digested, z56_v_isHollow, z56_v_s), rfl, hq, (xAt_of hP hK hD ht hW)⟩, hS.F ht⟩) hS.2.2 dX7_digestMounds_79
        · have hq := hqB c1
          refine lv_aload_n hx hb dX7_digestMounds_62 rfl (lv_at hl 0 rfl) ?_
          refine lv_aload_n hx hb dX7_digestMounds_63 rfl (lv_at hl 0 rfl) ?_
          refine lv_iload_n hx hb dX7_digestMounds_64 rfl (lv_at hl 1 rfl) ?_
          refine lv_iconst (v := 0) hx hb dX7_digestMounds_65 (by decide) ?_
          have hFc := xfree_same hS hAe0 (ws := (cX7 cy a z56_v_s z56_v_aside (X7_kept v) (X7_isKept v) (X7_saved v) (X7_savedMany v) (X7_text v) (X7_length v) (X7_thrown v) (X7_joint v) (X7_position v) (X7_isWrong v) z56_v_isHollow (X7_sure v) z56_v_away z56_v_digested)) hD
          refine va_calli (va_runV (As := [.int y56_2, .int 0]) (rest := [.ref (a 0)]) ⟨hx, hb, hml, hown, hts⟩ (c_X7_whenDug l dC dI cy a _ (z56_v_s, z56_v_aside, (X7_kept v), (X7_isKept v), (X7_saved v), (X7_savedMany v), (X7_text v), (X7_length v), (X7_thrown v), (X7_joint v), (X7_position v), (X7_isWrong v), z56_v_isHollow, (X7_sure v), z56_v_away, z56_v_digested) y56_2 0 _ hq) (cwV 2 hts gX7_digestMounds_X7_whenDug rfl rfl rfl (by decide +kernel) ⟨Nat.le_of_ble_eq_true rfl, Nat.le_of_ble_eq_true rfl⟩) ⟨xPre_blind, va_recv hK hP (ci := 7) (q0 := 0) rfl rfl, xPre_of hP hK hD⟩ rfl rfl hl.1 rfl (lv_room (Nat.le_of_ble_eq_true rfl)) dX7_digestMounds_66 ⟨Nat.le_of_ble_eq_true rfl, Nat.le_of_ble_eq_true rfl⟩) hS (fun q _ h => hFc q h) hFc (fun r66 u9 t H locs ht hvm hq hB hz1 hk1 hS => ?_)
          obtain ⟨z66_v_aside, z66_v_isHollow, z66_v_s⟩ := u9
          obtain ⟨hP1, -, hD1⟩ := hB
          rw [ht] at hP1
          have hP : va_P (dC, dI) vwCl (cX7 cy a z66_v_s z66_v_aside (X7_kept v) (X7_isKept v) (X7_saved v) (X7_savedMany v) (X7_text v) (X7_length v) (X7_thrown v) (X7_joint v) (X7_position v) (X7_isWrong v) z66_v_isHollow (X7_sure v) z56_v_away z56_v_digested) H := hP1
          have hD : va_D A (cX7 cy a z66_v_s z66_v_aside (X7_kept v) (X7_isKept v) (X7_saved v) (X7_savedMany v) (X7_text v) (X7_length v) (X7_thrown v) (X7_joint v) (X7_position v) (X7_isWrong v) z66_v_isHollow (X7_sure v) z56_v_away z56_v_digested) := hD1.weaken (fun _ q _ h => hFc q.1 h)
          refine lv_i2l hx hb dX7_digestMounds_69 rfl ?_
          have hFc := xfree_same hS hAe0 (ws := (cX7 cy a z66_v_s z66_v_aside (X7_kept v) (X7_isKept v) (X7_saved v) (X7_savedMany v) (X7_text v) (X7_length v) (X7_thrown v) (X7_joint v) (X7_position v) (X7_isWrong v) z66_v_isHollow (X7_sure v) z56_v_away z56_v_digested)) hD
          refine va_callv (va_runV (As := [.long (r66.toInt64)]) (rest := []) ⟨hx, hb, hml, hown, hts⟩ (c_X7_digestOne l dC dI cy a _ (z66_v_s, z66_v_aside, (X7_kept v), (X7_isKept v), (X7_saved v), (X7_savedMany v), (X7_text v), (X7_length v), (X7_thrown v), (X7_joint v), (X7_position v), (X7_isWrong v), z66_v_isHollow, (X7_sure v), z56_v_away, z56_v_digested) (r66.toInt64) _ hq) (cwV 1 hts gX7_digestMounds_X7_digestOne rfl rfl rfl (by decide +kernel) ⟨Nat.le_of_ble_eq_true rfl, Nat.le_of_ble_eq_true rfl⟩) ⟨xPre_blind, va_recv hK hP (ci := 7) (q0 := 0) rfl rfl, xPre_of hP hK hD⟩ rfl rfl hl.1 rfl (lv_room (Nat.le_of_ble_eq_true rfl)) dX7_digestMounds_70 ⟨Nat.le_of_ble_eq_true rfl, Nat.le_of_ble_eq_true rfl⟩) hS (fun q _ h => hFc q h) hFc (fun z70_v_digested t H locs ht hvm hq hB hz1 hk1 hS => ?_)
          obtain ⟨hP1, -, hD1⟩ := hB
          rw [ht] at hP1
          have hP : va_P (dC, dI) vwCl (cX7 cy a z66_v_s z66_v_aside (X7_kept v) (X7_isKept v) (X7_saved v) (X7_savedMany v) (X7_text v) (X7_length v) (X7_thrown v) (X7_joint v) (X7_position v) (X7_isWrong v) z66_v_isHollow (X7_sure v) z56_v_away z70_v_digested) H := hP1
          have hD : va_D A (cX7 cy a z66_v_s z66_v_aside (X7_kept v) (X7_isKept v) (X7_saved v) (X7_savedMany v) (X7_text v) (X7_length v) (X7_thrown v) (X7_joint v) (X7_position v) (X7_isWrong v) z66_v_isHollow (X7_sure v) z56_v_away z70_v_digested) := hD1.weaken (fun _ q _ h => hFc q.1 h)
          refine lv_iinc (v := (y56_2 + 1)) (lv' := [(2, .int (y56_2 + 1)), (0, .ref (a 0))]) hx hb dX7_digestMounds_73 hl (k := 1) rfl rfl (by decide) rfl (fun ls hl => ?_)
          refine lv_goto (tgt := 56) hx hb dX7_digestMounds_76 (by decide) ?_
          exact bk56 (y56_2 + 1) z66_v_aside z70_v_digested z66_v_isHollow z66_v_s _ _ _ hq hP hD hS (lv_sub hl [1, 0] rfl)
    exact key _ y56_2 z56_v_aside z56_v_digested z56_v_isHollow z56_v_s H locs ls h0 (Nat.lt_succ_self _) hP hD hS hl
  have J4 : ∀  (y4_1 : Int32) (y4_2 : Int32) (z4_v_away : (Nat → Int32)) (z4_v_digested : Int64) (H : Heap) (locs : List Loc) (ls : Array Slot), wp_X7_digestMounds_4 v  y4_1 y4_2 z4_v_away z4_v_digested Q → va_P (dC, dI) vwCl (cX7 cy a (X7_s v) (X7_aside v) (X7_kept v) (X7_isKept v) (X7_saved v) (X7_savedMany v) (X7_text v) (X7_length v) (X7_thrown v) (X7_joint v) (X7_position v) (X7_isWrong v) (X7_isHollow v) (X7_sure v) z4_v_away z4_v_digested) H → va_D A (cX7 cy a (X7_s v) (X7_aside v) (X7_kept v) (X7_isKept v) (X7_saved v) (X7_savedMany v) (X7_text v) (X7_length v) (X7_thrown v) (X7_joint v) (X7_position v) (X7_isWrong v) (X7_isHollow v) (X7_sure v) z4_v_away z4_v_digested) → va_S A s.heap H locs → lv_has ls 3 [(0, .ref (a 0)), (1, .int y4_1), (2, .int y4_2)] → W p l e (headSpec wsX7_digestMounds ({ frames := 6, cells := 0, slots := 0, locals := 146 } : Room)).room s m ([.ref (a 0)] : List Value).toArray below meth c H locs 0 0 (MQ below (q_X7_digestMounds dC dI cy a v Q A) ([.ref (a 0)] : List Value).toArray s 0 0 A) (F0 m 4 ls []) := by
    intro  y4_1 y4_2 z4_v_away z4_v_digested H locs ls hq hP hD hS hl
    obtain ⟨I4, μ4, h0, hs4⟩ := hq
    have key : ∀ (n : Nat) (y4_1 : Int32) (y4_2 : Int32) (z4_v_away : (Nat → Int32)) (z4_v_digested : Int64) (H : Heap) (locs : List Loc) (ls : Array Slot), I4 y4_1 y4_2 z4_v_away z4_v_digested → μ4 y4_1 y4_2 z4_v_away z4_v_digested < n → va_P (dC, dI) vwCl (cX7 cy a (X7_s v) (X7_aside v) (X7_kept v) (X7_isKept v) (X7_saved v) (X7_savedMany v) (X7_text v) (X7_length v) (X7_thrown v) (X7_joint v) (X7_position v) (X7_isWrong v) (X7_isHollow v) (X7_sure v) z4_v_away z4_v_digested) H → va_D A (cX7 cy a (X7_s v) (X7_aside v) (X7_kept v) (X7_isKept v) (X7_saved v) (X7_savedMany v) (X7_text v) (X7_length v) (X7_thrown v) (X7_joint v) (X7_position v) (X7_isWrong v) (X7_isHollow v) (X7_sure v) z4_v_away z4_v_digested) → va_S A s.heap H locs → lv_has ls 3 [(0, .ref (a 0)), (1, .int y4_1), (2, .int y4_2)] → W p l e (headSpec wsX7_digestMounds ({ frames := 6, cells := 0, slots := 0, locals := 146 } : Room)).room s m ([.ref (a 0)] : List Value).toArray below meth c H locs 0 0 (MQ below (q_X7_digestMounds dC dI cy a v Q A) ([.ref (a 0)] : List Value).toArray s 0 0 A) (F0 m 4 ls []) := by
      intro n
      induction n with
      | zero => intro y4_1 y4_2 z4_v_away z4_v_digested H locs ls _ hm; exact absurd hm (Nat.not_lt_zero _)
      | succ n ih =>
        intro y4_1 y4_2 z4_v_away z4_v_digested H locs ls hI hm hP hD hS hl
        have hq := hs4 y4_1 y4_2 z4_v_away z4_v_digested hI
        generalize hB4 : (fun (t0 : Int32) (t1 : Int32) (t2 : (Nat → Int32)) (t3 : Int64) => I4 t0 t1 t2 t3 ∧ μ4 t0 t1 t2 t3 < μ4 y4_1 y4_2 z4_v_away z4_v_digested) = B4 at hq
        have bk4 : ∀ (y4_1 : Int32) (y4_2 : Int32) (z4_v_away : (Nat → Int32)) (z4_v_digested : Int64) (H : Heap) (locs : List Loc) (ls : Array Slot), B4 y4_1 y4_2 z4_v_away z4_v_digested → va_P (dC, dI) vwCl (cX7 cy a (X7_s v) (X7_aside v) (X7_kept v) (X7_isKept v) (X7_saved v) (X7_savedMany v) (X7_text v) (X7_length v) (X7_thrown v) (X7_joint v) (X7_position v) (X7_isWrong v) (X7_isHollow v) (X7_sure v) z4_v_away z4_v_digested) H → va_D A (cX7 cy a (X7_s v) (X7_aside v) (X7_kept v) (X7_isKept v) (X7_saved v) (X7_savedMany v) (X7_text v) (X7_length v) (X7_thrown v) (X7_joint v) (X7_position v) (X7_isWrong v) (X7_isHollow v) (X7_sure v) z4_v_away z4_v_digested) → va_S A s.heap H locs → lv_has ls 3 [(0, .ref (a 0)), (1, .int y4_1), (2, .int y4_2)] → W p l e (headSpec wsX7_digestMounds ({ frames := 6, cells := 0, slots := 0, locals := 146 } : Room)).room s m ([.ref (a 0)] : List Value).toArray below meth c H locs 0 0 (MQ below (q_X7_digestMounds dC dI cy a v Q A) ([.ref (a 0)] : List Value).toArray s 0 0 A) (F0 m 4 ls []) := by
          intro y4_1 y4_2 z4_v_away z4_v_digested H locs ls h
          rw [← hB4] at h
          exact ih y4_1 y4_2 z4_v_away z4_v_digested H locs ls h.1 (Nat.lt_of_lt_of_le h.2 (Nat.le_of_lt_succ hm))
        unfold wb_X7_digestMounds_4 at hq
        have J28 : ∀ (k28_0 : Int32) (H : Heap) (locs : List Loc) (ls : Array Slot), wp_X7_digestMounds_28 v y4_1 y4_2 z4_v_away z4_v_digested B4 k28_0 Q → va_P (dC, dI) vwCl (cX7 cy a (X7_s v) (X7_aside v) (X7_kept v) (X7_isKept v) (X7_saved v) (X7_savedMany v) (X7_text v) (X7_length v) (X7_thrown v) (X7_joint v) (X7_position v) (X7_isWrong v) (X7_isHollow v) (X7_sure v) z4_v_away z4_v_digested) H → va_D A (cX7 cy a (X7_s v) (X7_aside v) (X7_kept v) (X7_isKept v) (X7_saved v) (X7_savedMany v) (X7_text v) (X7_length v) (X7_thrown v) (X7_joint v) (X7_position v) (X7_isWrong v) (X7_isHollow v) (X7_sure v) z4_v_away z4_v_digested) → va_S A s.heap H locs → lv_has ls 3 [(0, .ref (a 0)), (2, .int y4_2)] → W p l e (headSpec wsX7_digestMounds ({ frames := 6, cells := 0, slots := 0, locals := 146 } : Room)).room s m ([.ref (a 0)] : List Value).toArray below meth c H locs 0 0 (MQ below (q_X7_digestMounds dC dI cy a v Q A) ([.ref (a 0)] : List Value).toArray s 0 0 A) (F0 m 28 ls [.int k28_0]) := by
          intro k28_0 H locs ls hq hP hD hS hl
          unfold wp_X7_digestMounds_28 at hq
          refine lv_istore_n (lv' := [(1, .int k28_0), (0, .ref (a 0)), (2, .int y4_2)]) hx hb dX7_digestMounds_28 rfl hl (by decide) rfl (fun ls hl => ?_)
          refine lv_aload_n hx hb dX7_digestMounds_29 rfl (lv_at hl 1 rfl) ?_
          refine lv_iload_n hx hb dX7_digestMounds_30 rfl (lv_at hl 2 rfl) ?_
          have hFc := xfree_same hS hAe0 (ws := (cX7 cy a (X7_s v) (X7_aside v) (X7_kept v) (X7_isKept v) (X7_saved v) (X7_savedMany v) (X7_text v) (X7_length v) (X7_thrown v) (X7_joint v) (X7_position v) (X7_isWrong v) (X7_isHollow v) (X7_sure v) z4_v_away z4_v_digested)) hD
          refine va_calli (va_runV (As := [.int y4_2]) (rest := []) ⟨hx, hb, hml, hown, hts⟩ (c_X7_hasMound l dC dI cy a _ (X7_s15 (X7_s14 v z4_v_away) z4_v_digested) y4_2 _ hq) (cwV 1 hts gX7_digestMounds_X7_hasMound rfl rfl rfl (by decide +kernel) ⟨Nat.le_of_ble_eq_true rfl, Nat.le_of_ble_eq_true rfl⟩) ⟨xPre_blind, va_recv hK hP (ci := 7) (q0 := 0) rfl rfl, xPre_of hP hK hD⟩ rfl rfl hl.1 rfl (lv_room (Nat.le_of_ble_eq_true rfl)) dX7_digestMounds_31 ⟨Nat.le_of_ble_eq_true rfl, Nat.le_of_ble_eq_true rfl⟩) hS (fun q _ h => hFc q h) hFc (fun r31 u9 t H locs ht hvm hq hB hz1 hk1 hS => ?_)
          obtain ⟨hP1, -, hD1⟩ := hB
          rw [ht] at hP1
          have hP : va_P (dC, dI) vwCl (cX7 cy a (X7_s v) (X7_aside v) (X7_kept v) (X7_isKept v) (X7_saved v) (X7_savedMany v) (X7_text v) (X7_length v) (X7_thrown v) (X7_joint v) (X7_position v) (X7_isWrong v) (X7_isHollow v) (X7_sure v) z4_v_away z4_v_digested) H := hP1
          have hD : va_D A (cX7 cy a (X7_s v) (X7_aside v) (X7_kept v) (X7_isKept v) (X7_saved v) (X7_savedMany v) (X7_text v) (X7_length v) (X7_thrown v) (X7_joint v) (X7_position v) (X7_isWrong v) (X7_isHollow v) (X7_sure v) z4_v_away z4_v_digested) := hD1.weaken (fun _ q _ h => hFc q.1 h)
          obtain ⟨hqA, hqB⟩ := hq
          refine lv_if_eq (tgt := 48) hx hb dX7_digestMounds_34 (by decide) (fun c2 => ?_) (fun c2 => ?_)
          · have hq := hqA c2
            refine lv_iinc (v := (y4_2 + 1)) (lv' := [(2, .int (y4_2 + 1)), (1, .int k28_0), (0, .ref (a 0))]) hx hb dX7_digestMounds_48 hl (k := 2) rfl rfl (by decide) rfl (fun ls hl => ?_)
            refine lv_goto (tgt := 4) hx hb dX7_digestMounds_51 (by decide) ?_
            exact bk4 k28_0 (y4_2 + 1) z4_v_away z4_v_digested _ _ _ hq hP hD hS (lv_sub hl [2, 1, 0] rfl)
          · have hq := hqB c2
            refine lv_aload_n hx hb dX7_digestMounds_37 rfl (lv_at hl 1 rfl) ?_
            refine lv_aload_n hx hb dX7_digestMounds_38 rfl (lv_at hl 1 rfl) ?_
            refine lv_iload_n hx hb dX7_digestMounds_39 rfl (lv_at hl 2 rfl) ?_
            refine lv_iload_n hx hb dX7_digestMounds_40 rfl (lv_at hl 0 rfl) ?_
            have hFc := xfree_same hS hAe0 (ws := (cX7 cy a (X7_s v) (X7_aside v) (X7_kept v) (X7_isKept v) (X7_saved v) (X7_savedMany v) (X7_text v) (X7_length v) (X7_thrown v) (X7_joint v) (X7_position v) (X7_isWrong v) (X7_isHollow v) (X7_sure v) z4_v_away z4_v_digested)) hD
            refine va_calli (va_runV (As := [.int y4_2, .int k28_0]) (rest := [.ref (a 0)]) ⟨hx, hb, hml, hown, hts⟩ (c_X7_fewestTo l dC dI cy a _ (X7_s15 (X7_s14 v z4_v_away) z4_v_digested) y4_2 k28_0 _ hq) (cwV 2 hts gX7_digestMounds_X7_fewestTo rfl rfl rfl (by decide +kernel) ⟨Nat.le_of_ble_eq_true rfl, Nat.le_of_ble_eq_true rfl⟩) ⟨xPre_blind, va_recv hK hP (ci := 7) (q0 := 0) rfl rfl, xPre_of hP hK hD⟩ rfl rfl hl.1 rfl (lv_room (Nat.le_of_ble_eq_true rfl)) dX7_digestMounds_41 ⟨Nat.le_of_ble_eq_true rfl, Nat.le_of_ble_eq_true rfl⟩) hS (fun q _ h => hFc q h) hFc (fun r41 z41_v_away t H locs ht hvm hq hB hz1 hk1 hS => ?_)
            obtain ⟨hP1, -, hD1⟩ := hB
            rw [ht] at hP1
            have hP : va_P (dC, dI) vwCl (cX7 cy a (X7_s v) (X7_aside v) (X7_kept v) (X7_isKept v) (X7_saved v) (X7_savedMany v) (X7_text v) (X7_length v) (X7_thrown v) (X7_joint v) (X7_position v) (X7_isWrong v) (X7_isHollow v) (X7_sure v) z41_v_away z4_v_digested) H := hP1
            have hD : va_D A (cX7 cy a (X7_s v) (X7_aside v) (X7_kept v) (X7_isKept v) (X7_saved v) (X7_savedMany v) (X7_text v) (X7_length v) (X7_thrown v) (X7_joint v) (X7_position v) (X7_isWrong v) (X7_isHollow v) (X7_sure v) z41_v_away z4_v_digested) := hD1.weaken (fun _ q _ h => hFc q.1 h)
            refine lv_i2l hx hb dX7_digestMounds_44 rfl ?_
            have hFc := xfree_same hS hAe0 (ws := (cX7 cy a (X7_s v) (X7_aside v) (X7_kept v) (X7_isKept v) (X7_saved v) (X7_savedMany v) (X7_text v) (X7_length v) (X7_thrown v) (X7_joint v) (X7_position v) (X7_isWrong v) (X7_isHollow v) (X7_sure v) z41_v_away z4_v_digested)) hD
            refine va_callv (va_runV (As := [.long (r41.toInt64)]) (rest := []) ⟨hx, hb, hml, hown, hts⟩ (c_X7_digestOne l dC dI cy a _ (X7_s15 (X7_s14 v z41_v_away) z4_v_digested) (r41.toInt64) _ hq) (cwV 1 hts gX7_digestMounds_X7_digestOne rfl rfl rfl (by decide +kernel) ⟨Nat.le_of_ble_eq_true rfl, Nat.le_of_ble_eq_true rfl⟩) ⟨xPre_blind, va_recv hK hP (ci := 7) (q0 := 0) rfl rfl, xPre_of hP hK hD⟩ rfl rfl hl.1 rfl (lv_room (Nat.le_of_ble_eq_true rfl)) dX7_digestMounds_45 ⟨Nat.le_of_ble_eq_true rfl, Nat.le_of_ble_eq_true rfl⟩) hS (fun q _ h => hFc q h) hFc (fun z45_v_digested t H locs ht hvm hq hB hz1 hk1 hS => ?_)
            obtain ⟨hP1, -, hD1⟩ := hB
            rw [ht] at hP1
            have hP : va_P (dC, dI) vwCl (cX7 cy a (X7_s v) (X7_aside v) (X7_kept v) (X7_isKept v) (X7_saved v) (X7_savedMany v) (X7_text v) (X7_length v) (X7_thrown v) (X7_joint v) (X7_position v) (X7_isWrong v) (X7_isHollow v) (X7_sure v) z41_v_away z45_v_digested) H := hP1
            have hD : va_D A (cX7 cy a (X7_s v) (X7_aside v) (X7_kept v) (X7_isKept v) (X7_saved v) (X7_savedMany v) (X7_text v) (X7_length v) (X7_thrown v) (X7_joint v) (X7_position v) (X7_isWrong v) (X7_isHollow v) (X7_sure v) z41_v_away z45_v_digested) := hD1.weaken (fun _ q _ h => hFc q.1 h)
            refine lv_iinc (v := (y4_2 + 1)) (lv' := [(2, .int (y4_2 + 1)), (1, .int k28_0), (0, .ref (a 0))]) hx hb dX7_digestMounds_48 hl (k := 2) rfl rfl (by decide) rfl (fun ls hl => ?_)
            refine lv_goto (tgt := 4) hx hb dX7_digestMounds_51 (by decide) ?_
            exact bk4 k28_0 (y4_2 + 1) z41_v_away z45_v_digested _ _ _ hq hP hD hS (lv_sub hl [2, 1, 0] rfl)
        have J27 : ∀  (H : Heap) (locs : List Loc) (ls : Array Slot), wp_X7_digestMounds_27 v y4_1 y4_2 z4_v_away z4_v_digested B4  Q → va_P (dC, dI) vwCl (cX7 cy a (X7_s v) (X7_aside v) (X7_kept v) (X7_isKept v) (X7_saved v) (X7_savedMany v) (X7_text v) (X7_length v) (X7_thrown v) (X7_joint v) (X7_position v) (X7_isWrong v) (X7_isHollow v) (X7_sure v) z4_v_away z4_v_digested) H → va_D A (cX7 cy a (X7_s v) (X7_aside v) (X7_kept v) (X7_isKept v) (X7_saved v) (X7_savedMany v) (X7_text v) (X7_length v) (X7_thrown v) (X7_joint v) (X7_position v) (X7_isWrong v) (X7_isHollow v) (X7_sure v) z4_v_away z4_v_digested) → va_S A s.heap H locs → lv_has ls 3 [(0, .ref (a 0)), (1, .int y4_1), (2, .int y4_2)] → W p l e (headSpec wsX7_digestMounds ({ frames := 6, cells := 0, slots := 0, locals := 146 } : Room)).room s m ([.ref (a 0)] : List Value).toArray below meth c H locs 0 0 (MQ below (q_X7_digestMounds dC dI cy a v Q A) ([.ref (a 0)] : List Value).toArray s 0 0 A) (F0 m 27 ls []) := by
          intro  H locs ls hq hP hD hS hl
          unfold wp_X7_digestMounds_27 at hq
          refine lv_iload_n hx hb dX7_digestMounds_27 rfl (lv_at hl 1 rfl) ?_
          exact J28 y4_1  _ _ _ hq hP hD hS (lv_sub hl [0, 2] rfl)
        refine lv_iload_n hx hb dX7_digestMounds_4 rfl (lv_at hl 2 rfl) ?_
        refine lv_bipush (v := 64) hx hb dX7_digestMounds_5 (by decide) ?_
        obtain ⟨hqA, hqB⟩ := hq
        refine lv_icmp_ge (tgt := 54) hx hb dX7_digestMounds_7 (by decide) (fun c5 => ?_) (fun c5 => ?_)
        · have hq := hqA c5
          refine lv_iconst (v := 0) hx hb dX7_digestMounds_54 (by decide) ?_
          refine lv_istore_n (lv' := [(2, .int 0), (0, .ref (a 0)), (1, .int y4_1)]) hx hb dX7_digestMounds_55 rfl hl (by decide) rfl (fun ls hl => ?_)
          exact J56 z4_v_away 0 (X7_aside v) z4_v_digested (X7_isHollow v) (X7_s v) _ _ _ hq hP hD hS (lv_sub hl [1, 0] rfl)
        · have hq := hqB c5
          refine lv_iload_n hx hb dX7_digestMounds_10 rfl (lv_at hl 1 rfl) ?_
          refine lv_iconst (v := (-1)) hx hb dX7_digestMounds_11 (by decide) ?_
          obtain ⟨hqA, hqB⟩ := hq
          refine lv_icmp_ne (tgt := 27) hx hb dX7_digestMounds_12 (by decide) (fun c4 => ?_) (fun c4 => ?_)
          · have hq := hqB c4
            exact J27   _ _ _ hq hP hD hS (lv_sub hl [0, 1, 2] rfl)
          · have hq := hqA c4
            refine lv_aload_n hx hb dX7_digestMounds_15 rfl (lv_at hl 0 rfl) ?_
            refine lv_iload_n hx hb dX7_digestMounds_16 rfl (lv_at hl 2 rfl) ?_
            have hFc := xfree_same hS hAe0 (ws := (cX7 cy a (X7_s v) (X7_aside v) (X7_kept v) (X7_isKept v) (X7_saved v) (X7_savedMany v) (X7_text v) (X7_length v) (X7_thrown v) (X7_joint v) (X7_position v) (X7_isWrong v) (X7_isHollow v) (X7_sure v) z4_v_away z4_v_digested)) hD
            refine va_calli (va_runV (As := [.int y4_2]) (rest := []) ⟨hx, hb, hml, hown, hts⟩ (c_X7_hasMound l dC dI cy a _ (X7_s15 (X7_s14 v z4_v_away) z4_v_digested) y4_2 _ hq) (cwV 1 hts gX7_digestMounds_X7_hasMound rfl rfl rfl (by decide +kernel) ⟨Nat.le_of_ble_eq_true rfl, Nat.le_of_ble_eq_true rfl⟩) ⟨xPre_blind, va_recv hK hP (ci := 7) (q0 := 0) rfl rfl, xPre_of hP hK hD⟩ rfl rfl hl.1 rfl (lv_room (Nat.le_of_ble_eq_true rfl)) dX7_digestMounds_17 ⟨Nat.le_of_ble_eq_true rfl, Nat.le_of_ble_eq_true rfl⟩) hS (fun q _ h => hFc q h) hFc (fun r17 u9 t H locs ht hvm hq hB hz1 hk1 hS => ?_)
            obtain ⟨hP1, -, hD1⟩ := hB
            rw [ht] at hP1
            have hP : va_P (dC, dI) vwCl (cX7 cy a (X7_s v) (X7_aside v) (X7_kept v) (X7_isKept v) (X7_saved v) (X7_savedMany v) (X7_text v) (X7_length v) (X7_thrown v) (X7_joint v) (X7_position v) (X7_isWrong v) (X7_isHollow v) (X7_sure v) z4_v_away z4_v_digested) H := hP1
            have hD : va_D A (cX7 cy a (X7_s v) (X7_aside v) (X7_kept v) (X7_isKept v) (X7_saved v) (X7_savedMany v) (X7_text v) (X7_length v) (X7_thrown v) (X7_joint v) (X7_position v) (X7_isWrong v) (X7_isHollow v) (X7_sure v) z4_v_away z4_v_digested) := hD1.weaken (fun _ q _ h => hFc q.1 h)
            obtain ⟨hqA, hqB⟩ := hq
            refine lv_if_eq (tgt := 27) hx hb dX7_digestMounds_20 (by decide) (fun c3 => ?_) (fun c3 => ?_)
            · have hq := hqA c3
              exact J27   _ _ _ hq hP hD hS (lv_sub hl [0, 1, 2] rfl)
            · have hq := hqB c3
              refine lv_iload_n hx hb dX7_digestMounds_23 rfl (lv_at hl 2 rfl) ?_
              refine lv_goto (tgt := 28) hx hb dX7_digestMounds_24 (by decide) ?_
              exact J28 y4_2  _ _ _ hq hP hD hS (lv_sub hl [0, 2] rfl)
    exact key _ y4_1 y4_2 z4_v_away z4_v_digested H locs ls h0 (Nat.lt_succ_self _) hP hD hS hl
  refine lv_iconst (v := (-1)) hx hb dX7_digestMounds_0 (by decide) ?_
  refine lv_istore_n (lv' := [(1, .int (-1)), (0, .ref (a 0))]) hx hb dX7_digestMounds_1 rfl hl (by decide) rfl (fun ls hl => ?_)
  refine lv_iconst (v := 0) hx hb dX7_digestMounds_2 (by decide) ?_
  refine lv_istore_n (lv' := [(2, .int 0), (1, .int (-1)), (0, .ref (a 0))]) hx hb dX7_digestMounds_3 rfl hl (by decide) rfl (fun ls hl => ?_)
  exact J4  (-1) 0 (X7_away v) (X7_digested v) _ _ _ hq hP hD hS (lv_sub hl [2, 1, 0] rfl)
def wb_X7_digest_108 (v : V_X7) (z108_v_aside : (Nat → Int32)) (z108_v_away : (Nat → Int32)) (z108_v_isHollow : (Nat → Int32)) (z108_v_s : (Nat → Int32)) (z108_v_sure : (Nat → Int32)) (z108_v_thrown : Int32) (y108_1 : Int32) (z108_v_digested : Int64) (B108 : Int32 → Int64 → Prop) (Q : Int64 → (Nat → Int32) → (Nat → Int32) → Int64 → (Nat → Int32) → (Nat → Int32) → (Nat → Int32) → Int32 → Prop) : Prop :=
  (((X7_length v) ≤ y108_1 → Q z108_v_digested z108_v_aside z108_v_away z108_v_digested z108_v_isHollow z108_v_s z108_v_sure z108_v_thrown) ∧
  (¬ (X7_length v) ≤ y108_1 → vp_in y108_1 60 ∧ wp_X7_digestOne (z108_v_s, z108_v_aside, (X7_kept v), (X7_isKept v), (X7_saved v), (X7_savedMany v), (X7_text v), (X7_length v), z108_v_thrown, (X7_joint v), (X7_position v), (X7_isWrong v), z108_v_isHollow, z108_v_sure, z108_v_away, z108_v_digested) (((X7_text v) y108_1.toNatClampNeg).toInt64) (fun z124_v_digested =>
  B108 (y108_1 + 1) z124_v_digested)))
def wp_X7_digest_108 (v : V_X7) (z108_v_aside : (Nat → Int32)) (z108_v_away : (Nat → Int32)) (z108_v_isHollow : (Nat → Int32)) (z108_v_s : (Nat → Int32)) (z108_v_sure : (Nat → Int32)) (z108_v_thrown : Int32) (y108_1 : Int32) (z108_v_digested : Int64) (Q : Int64 → (Nat → Int32) → (Nat → Int32) → Int64 → (Nat → Int32) → (Nat → Int32) → (Nat → Int32) → Int32 → Prop) : Prop :=
  ∃ (I : Int32 → Int64 → Prop) (μ : Int32 → Int64 → Nat), I y108_1 z108_v_digested ∧ ∀ (s0 : Int32) (s1 : Int64), I s0 s1 → wb_X7_digest_108 v z108_v_aside z108_v_away z108_v_isHollow z108_v_s z108_v_sure z108_v_thrown s0 s1 (fun t0 t1 => I t0 t1 ∧ μ t0 t1 < μ s0 s1) Q
def wb_X7_digest_55 (v : V_X7) (z55_v_away : (Nat → Int32)) (z55_v_isHollow : (Nat → Int32)) (z55_v_sure : (Nat → Int32)) (z55_v_thrown : Int32) (y55_1 : Int32) (z55_v_aside : (Nat → Int32)) (z55_v_digested : Int64) (z55_v_s : (Nat → Int32)) (B55 : Int32 → (Nat → Int32) → Int64 → (Nat → Int32) → Prop) (Q : Int64 → (Nat → Int32) → (Nat → Int32) → Int64 → (Nat → Int32) → (Nat → Int32) → (Nat → Int32) → Int32 → Prop) : Prop :=
  ((3 ≤ y55_1 → wp_X7_whenMound (z55_v_s, z55_v_aside, (X7_kept v), (X7_isKept v), (X7_saved v), (X7_savedMany v), (X7_text v), (X7_length v), z55_v_thrown, (X7_joint v), (X7_position v), (X7_isWrong v), z55_v_isHollow, z55_v_sure, z55_v_away, z55_v_digested) (fun r79 z79_v_aside z79_v_s =>
  wp_X7_digestOne (z79_v_s, z79_v_aside, (X7_kept v), (X7_isKept v), (X7_saved v), (X7_savedMany v), (X7_text v), (X7_length v), z55_v_thrown, (X7_joint v), (X7_position v), (X7_isWrong v), z55_v_isHollow, z55_v_sure, z55_v_away, z55_v_digested) (r79.toInt64) (fun z83_v_digested =>
  wp_X7_share (z79_v_s, z79_v_aside, (X7_kept v), (X7_isKept v), (X7_saved v), (X7_savedMany v), (X7_text v), (X7_length v), z55_v_thrown, (X7_joint v), (X7_position v), (X7_isWrong v), z55_v_isHollow, z55_v_sure, z55_v_away, z83_v_digested) (fun r88 z88_v_isHollow =>
  wp_X7_bitsOf r88 (fun r91 =>
  wp_X7_digestOne (z79_v_s, z79_v_aside, (X7_kept v), (X7_isKept v), (X7_saved v), (X7_savedMany v), (X7_text v), (X7_length v), z55_v_thrown, (X7_joint v), (X7_position v), (X7_isWrong v), z88_v_isHollow, z55_v_sure, z55_v_away, z83_v_digested) r91 (fun z94_v_digested =>
  wp_X7_digestOne (z79_v_s, z79_v_aside, (X7_kept v), (X7_isKept v), (X7_saved v), (X7_savedMany v), (X7_text v), (X7_length v), z55_v_thrown, (X7_joint v), (X7_position v), (X7_isWrong v), z88_v_isHollow, z55_v_sure, z55_v_away, z94_v_digested) ((X7_length v).toInt64) (fun z103_v_digested =>
  wp_X7_digest_108 v z79_v_aside z55_v_away z88_v_isHollow z79_v_s z55_v_sure z55_v_thrown 0 z103_v_digested Q))))))) ∧
  (¬ 3 ≤ y55_1 → wp_X7_passed (z55_v_s, z55_v_aside, (X7_kept v), (X7_isKept v), (X7_saved v), (X7_savedMany v), (X7_text v), (X7_length v), z55_v_thrown, (X7_joint v), (X7_position v), (X7_isWrong v), z55_v_isHollow, z55_v_sure, z55_v_away, z55_v_digested) 5 y55_1 (fun r64 z64_v_aside z64_v_s =>
  wp_X7_digestOne (z64_v_s, z64_v_aside, (X7_kept v), (X7_isKept v), (X7_saved v), (X7_savedMany v), (X7_text v), (X7_length v), z55_v_thrown, (X7_joint v), (X7_position v), (X7_isWrong v), z55_v_isHollow, z55_v_sure, z55_v_away, z55_v_digested) (r64.toInt64) (fun z68_v_digested =>
  B55 (y55_1 + 1) z64_v_aside z68_v_digested z64_v_s))))
def wp_X7_digest_55 (v : V_X7) (z55_v_away : (Nat → Int32)) (z55_v_isHollow : (Nat → Int32)) (z55_v_sure : (Nat → Int32)) (z55_v_thrown : Int32) (y55_1 : Int32) (z55_v_aside : (Nat → Int32)) (z55_v_digested : Int64) (z55_v_s : (Nat → Int32)) (Q : Int64 → (Nat → Int32) → (Nat → Int32) → Int64 → (Nat → Int32) → (Nat → Int32) → (Nat → Int32) → Int32 → Prop) : Prop :=
  ∃ (I : Int32 → (Nat → Int32) → Int64 → (Nat → Int32) → Prop) (μ : Int32 → (Nat → Int32) → Int64 → (Nat → Int32) → Nat), I y55_1 z55_v_aside z55_v_digested z55_v_s ∧ ∀ (s0 : Int32) (s1 : (Nat → Int32)) (s2 : Int64) (s3 : (Nat → Int32)), I s0 s1 s2 s3 → wb_X7_digest_55 v z55_v_away z55_v_isHollow z55_v_sure z55_v_thrown s0 s1 s2 s3 (fun t0 t1 t2 t3 => I t0 t1 t2 t3 ∧ μ t0 t1 t2 t3 < μ s0 s1 s2 s3) Q
def wb_X7_digest_14 (v : V_X7) (z14_v_thrown : Int32) (y14_1 : Int32) (z14_v_away : (Nat → Int32)) (z14_v_digested : Int64) (z14_v_isHollow : (Nat → Int32)) (B14 : Int32 → (Nat → Int32) → Int64 → (Nat → Int32) → Prop) (Q : Int64 → (Nat → Int32) → (Nat → Int32) → Int64 → (Nat → Int32) → (Nat → Int32) → (Nat → Int32) → Int32 → Prop) : Prop :=
  ((15 ≤ y14_1 → wp_X7_digestLawn ((X7_s v), (X7_aside v), (X7_kept v), (X7_isKept v), (X7_saved v), (X7_savedMany v), (X7_text v), (X7_length v), z14_v_thrown, (X7_joint v), (X7_position v), (X7_isWrong v), z14_v_isHollow, (X7_sure v), z14_v_away, z14_v_digested) (fun z37_v_digested z37_v_isHollow z37_v_sure =>
  wp_X7_digestMounds ((X7_s v), (X7_aside v), (X7_kept v), (X7_isKept v), (X7_saved v), (X7_savedMany v), (X7_text v), (X7_length v), z14_v_thrown, (X7_joint v), (X7_position v), (X7_isWrong v), z37_v_isHollow, z37_v_sure, z14_v_away, z37_v_digested) (fun z41_v_aside z41_v_away z41_v_digested z41_v_isHollow z41_v_s =>
  wp_X7_best (z41_v_s, z41_v_aside, (X7_kept v), (X7_isKept v), (X7_saved v), (X7_savedMany v), (X7_text v), (X7_length v), z14_v_thrown, (X7_joint v), (X7_position v), (X7_isWrong v), z41_v_isHollow, z37_v_sure, z41_v_away, z41_v_digested) (fun r46 =>
  wp_X7_digestOne (z41_v_s, z41_v_aside, (X7_kept v), (X7_isKept v), (X7_saved v), (X7_savedMany v), (X7_text v), (X7_length v), z14_v_thrown, (X7_joint v), (X7_position v), (X7_isWrong v), z41_v_isHollow, z37_v_sure, z41_v_away, z41_v_digested) (r46.toInt64) (fun z50_v_digested =>
  wp_X7_digest_55 v z41_v_away z41_v_isHollow z37_v_sure z14_v_thrown 0 z41_v_aside z50_v_digested z41_v_s Q))))) ∧
  (¬ 15 ≤ y14_1 → wp_X7_counted ((X7_s v), (X7_aside v), (X7_kept v), (X7_isKept v), (X7_saved v), (X7_savedMany v), (X7_text v), (X7_length v), z14_v_thrown, (X7_joint v), (X7_position v), (X7_isWrong v), z14_v_isHollow, (X7_sure v), z14_v_away, z14_v_digested) y14_1 (fun r23 z23_v_away z23_v_isHollow =>
  wp_X7_digestOne ((X7_s v), (X7_aside v), (X7_kept v), (X7_isKept v), (X7_saved v), (X7_savedMany v), (X7_text v), (X7_length v), z14_v_thrown, (X7_joint v), (X7_position v), (X7_isWrong v), z23_v_isHollow, (X7_sure v), z23_v_away, z14_v_digested) (r23.toInt64) (fun z27_v_digested =>
  B14 (y14_1 + 1) z23_v_away z27_v_digested z23_v_isHollow))))
def wp_X7_digest_14 (v : V_X7) (z14_v_thrown : Int32) (y14_1 : Int32) (z14_v_away : (Nat → Int32)) (z14_v_digested : Int64) (z14_v_isHollow : (Nat → Int32)) (Q : Int64 → (Nat → Int32) → (Nat → Int32) → Int64 → (Nat → Int32) → (Nat → Int32) → (Nat → Int32) → Int32 → Prop) : Prop :=
  ∃ (I : Int32 → (Nat → Int32) → Int64 → (Nat → Int32) → Prop) (μ : Int32 → (Nat → Int32) → Int64 → (Nat → Int32) → Nat), I y14_1 z14_v_away z14_v_digested z14_v_isHollow ∧ ∀ (s0 : Int32) (s1 : (Nat → Int32)) (s2 : Int64) (s3 : (Nat → Int32)), I s0 s1 s2 s3 → wb_X7_digest_14 v z14_v_thrown s0 s1 s2 s3 (fun t0 t1 t2 t3 => I t0 t1 t2 t3 ∧ μ t0 t1 t2 t3 < μ s0 s1 s2 s3) Q
def wp_X7_digest (v : V_X7) (Q : Int64 → (Nat → Int32) → (Nat → Int32) → Int64 → (Nat → Int32) → (Nat → Int32) → (Nat → Int32) → Int32 → Prop) : Prop :=
  wp_X7_digest_14 v 0 0 (X7_away v) 3631 (X7_isHollow v) Q
def q_X7_digest (dC : Nat → ClassId) (dI : Nat → Nat → Nat) (cy : Nat → ClassId) (a : Nat → Nat) (v : V_X7) (Q : Int64 → (Nat → Int32) → (Nat → Int32) → Int64 → (Nat → Int32) → (Nat → Int32) → (Nat → Int32) → Int32 → Prop) (A : Nat → Prop) : Array Value → State → Outcome → State → Prop := va_Ql (fun (r : Int64) (u : (Nat → Int32) × (Nat → Int32) × Int64 × (Nat → Int32) × (Nat → Int32) × (Nat → Int32) × Int32) => Q r u.1 u.2.1 u.2.2.1 u.2.2.2.1 u.2.2.2.2.1 u.2.2.2.2.2.1 u.2.2.2.2.2.2) (fun (u : (Nat → Int32) × (Nat → Int32) × Int64 × (Nat → Int32) × (Nat → Int32) × (Nat → Int32) × Int32) t => xAt dC dI cy A (cX7 cy a u.2.2.2.2.1 u.1 (X7_kept v) (X7_isKept v) (X7_saved v) (X7_savedMany v) (X7_text v) (X7_length v) u.2.2.2.2.2.2 (X7_joint v) (X7_position v) (X7_isWrong v) u.2.2.2.1 u.2.2.2.2.2.1 u.2.1 u.2.2.1) t) A
set_option maxHeartbeats 4000000 in
set_option maxRecDepth 100000 in
theorem c_X7_digest (l : Launch) (dC : Nat → ClassId) (dI : Nat → Nat → Nat) (cy : Nat → ClassId) (a : Nat → Nat) (sz : Nat) (v : V_X7) (Q : Int64 → (Nat → Int32) → (Nat → Int32) → Int64 → (Nat → Int32) → (Nat → Int32) → (Nat → Int32) → Int32 → Prop) (hq : wp_X7_digest v Q) : Met l yX7_digest wsX7_digest ({ frames := 9, cells := 0, slots := 0, locals := 214 } : Room) (va_Pc [.ref (a 0)] (xPre dC dI cy (wX7 cy a v) sz)) (q_X7_digest dC dI cy a v Q (va_A (wX7 cy a v) sz)) 0 0 (va_A (wX7 cy a v) sz) := by
  refine Met.ofW (cc := cX7_digest) (maxL := 2) (ret := (some .long)) (by decide) rfl ?_
  intro p e s m args below meth c s₁ B hml hv
  obtain ⟨rfl, hsz, hP, hK, hD0⟩ := hv
  have hx := B.exec
  have hb := B.bytes
  have hr := B.returns
  have hts := atoms_spec (ws := wsX7_digest) B.pre
  have hown : s.vm.findClass RX7 = some m.cls := findClass_of_methodNamed B.named
  have hlocks := B.notSynchronized
  subst hsz
  have hD := hD0.self (sz := s.heap.size)
  generalize hAe : va_A (wX7 cy a v) s.heap.size = A at hD ⊢
  have hAe0 : ∀ q : Nat, s.heap.size ≤ q → A q := fun q h => by rw [← hAe]; exact Or.inr h
  have hS : va_S A s.heap s.heap [] := va_S.rf
  have hl := lv_entry ([.ref (a 0)]) (n := 2) (Nat.le_of_ble_eq_true rfl)
  rw [lg_entry_eq]
  generalize (lg_sl ([.ref (a 0)]) ++ List.replicate (2 - (lg_sl ([.ref (a 0)])).length) Slot.unset).toArray = ls at hl ⊢
  have hl : lv_has ls 2 [(0, .ref (a 0))] := hl
  have lk0 := hts (Cond.fieldLink RX7 167 "MolesLawnModel" "length" "I") (List.mem_cons_of_mem _ (List.mem_append_left _ (List.mem_append_left _ (List.mem_of_getElem? (i := 3) rfl))))
  have lk1 := hts (Cond.fieldLink RX7 291 "MolesLawnModel" "digested" "J") (List.mem_cons_of_mem _ (List.mem_append_left _ (List.mem_append_left _ (List.mem_of_getElem? (i := 2) rfl))))
  have lk2 := hts (Cond.fieldLink RX7 22 "MolesLawnModel" "text" "[I") (List.mem_cons_of_mem _ (List.mem_append_left _ (List.mem_append_left _ (List.mem_of_getElem? (i := 4) rfl))))
  have lk3 := hts (Cond.fieldLink RX7 38 "MolesLawnModel" "thrown" "I") (List.mem_cons_of_mem _ (List.mem_append_left _ (List.mem_append_left _ (List.mem_of_getElem? (i := 0) rfl))))
  have lk4 := hts (Cond.constantLong RX7 299 (3631)) (List.mem_cons_of_mem _ (List.mem_append_left _ (List.mem_append_left _ (List.mem_of_getElem? (i := 1) rfl))))
  have iK7 : ∀ w ∈ wsX70, w ∈ wsX7_digest := fun _ h => (List.mem_cons_of_mem _ (List.mem_append_right _ h))
  unfold wp_X7_digest at hq
  have J108 : ∀ (z108_v_aside : (Nat → Int32)) (z108_v_away : (Nat → Int32)) (z108_v_isHollow : (Nat → Int32)) (z108_v_s : (Nat → Int32)) (z108_v_sure : (Nat → Int32)) (z108_v_thrown : Int32) (y108_1 : Int32) (z108_v_digested : Int64) (H : Heap) (locs : List Loc) (ls : Array Slot), wp_X7_digest_108 v z108_v_aside z108_v_away z108_v_isHollow z108_v_s z108_v_sure z108_v_thrown y108_1 z108_v_digested Q → va_P (dC, dI) vwCl (cX7 cy a z108_v_s z108_v_aside (X7_kept v) (X7_isKept v) (X7_saved v) (X7_savedMany v) (X7_text v) (X7_length v) z108_v_thrown (X7_joint v) (X7_position v) (X7_isWrong v) z108_v_isHollow z108_v_sure z108_v_away z108_v_digested) H → va_D A (cX7 cy a z108_v_s z108_v_aside (X7_kept v) (X7_isKept v) (X7_saved v) (X7_savedMany v) (X7_text v) (X7_length v) z108_v_thrown (X7_joint v) (X7_position v) (X7_isWrong v) z108_v_isHollow z108_v_sure z108_v_away z108_v_digested) → va_S A s.heap H locs → lv_has ls 2 [(0, .ref (a 0)), (1, .int y108_1)] → W p l e (headSpec wsX7_digest ({ frames := 9, cells := 0, slots := 0, locals := 214 } : Room)).room s m ([.ref (a 0)] : List Value).toArray below meth c H locs 0 0 (MQ below (q_X7_digest dC dI cy a v Q A) ([.ref (a 0)] : List Value).toArray s 0 0 A) (F0 m 108 ls []) := by
    intro z108_v_aside z108_v_away z108_v_isHollow z108_v_s z108_v_sure z108_v_thrown y108_1 z108_v_digested H locs ls hq hP hD hS hl
    obtain ⟨I108, μ108, h0, hs108⟩ := hq
    have key : ∀ (n : Nat) (y108_1 : Int32) (z108_v_digested : Int64) (H : Heap) (locs : List Loc) (ls : Array Slot), I108 y108_1 z108_v_digested → μ108 y108_1 z108_v_digested < n → va_P (dC, dI) vwCl (cX7 cy a z108_v_s z108_v_aside (X7_kept v) (X7_isKept v) (X7_saved v) (X7_savedMany v) (X7_text v) (X7_length v) z108_v_thrown (X7_joint v) (X7_position v) (X7_isWrong v) z108_v_isHollow z108_v_sure z108_v_away z108_v_digested) H → va_D A (cX7 cy a z108_v_s z108_v_aside (X7_kept v) (X7_isKept v) (X7_saved v) (X7_savedMany v) (X7_text v) (X7_length v) z108_v_thrown (X7_joint v) (X7_position v) (X7_isWrong v) z108_v_isHollow z108_v_sure z108_v_away z108_v_digested) → va_S A s.heap H locs → lv_has ls 2 [(0, .ref (a 0)), (1, .int y108_1)] → W p l e (headSpec wsX7_digest ({ frames := 9, cells := 0, slots := 0, locals := 214 } : Room)).room s m ([.ref (a 0)] : List Value).toArray below meth c H locs 0 0 (MQ below (q_X7_digest dC dI cy a v Q A) ([.ref (a 0)] : List Value).toArray s 0 0 A) (F0 m 108 ls []) := by
      intro n
      induction n with
      | zero => intro y108_1 z108_v_digested H locs ls _ hm; exact absurd hm (Nat.not_lt_zero _)
      | succ n ih =>
        intro y108_1 z108_v_digested H locs ls hI hm hP hD hS hl
        have hq := hs108 y108_1 z108_v_digested hI
        generalize hB108 : (fun (t0 : Int32) (t1 : Int64) => I108 t0 t1 ∧ μ108 t0 t1 < μ108 y108_1 z108_v_digested) = B108 at hq
        have bk108 : ∀ (y108_1 : Int32) (z108_v_digested : Int64) (H : Heap) (locs : List Loc) (ls : Array Slot), B108 y108_1 z108_v_digested → va_P (dC, dI) vwCl (cX7 cy a z108_v_s z108_v_aside (X7_kept v) (X7_isKept v) (X7_saved v) (X7_savedMany v) (X7_text v) (X7_length v) z108_v_thrown (X7_joint v) (X7_position v) (X7_isWrong v) z108_v_isHollow z108_v_sure z108_v_away z108_v_digested) H → va_D A (cX7 cy a z108_v_s z108_v_aside (X7_kept v) (X7_isKept v) (X7_saved v) (X7_savedMany v) (X7_text v) (X7_length v) z108_v_thrown (X7_joint v) (X7_position v) (X7_isWrong v) z108_v_isHollow z108_v_sure z108_v_away z108_v_digested) → va_S A s.heap H locs → lv_has ls 2 [(0, .ref (a 0)), (1, .int y108_1)] → W p l e (headSpec wsX7_digest ({ frames := 9, cells := 0, slots := 0, locals := 214 } : Room)).room s m ([.ref (a 0)] : List Value).toArray below meth c H locs 0 0 (MQ below (q_X7_digest dC dI cy a v Q A) ([.ref (a 0)] : List Value).toArray s 0 0 A) (F0 m 108 ls []) := by
          intro y108_1 z108_v_digested H locs ls h
          rw [← hB108] at h
          exact ih y108_1 z108_v_digested H locs ls h.1 (Nat.lt_of_lt_of_le h.2 (Nat.le_of_lt_succ hm))
        unfold wb_X7_digest_108 at hq
        refine lv_iload_n hx hb dX7_digest_108 rfl (lv_at hl 1 rfl) ?_
        refine lv_aload_n hx hb dX7_digest_109 rfl (lv_at hl 0 rfl) ?_
        refine va_get (D := (dC, dI)) (ci := 7) (v := .int (X7_length v)) (C := RX7) (T := TX7) (N := 16) hx hb hts iK7 hown hK hP 0 rfl rfl 7 (by decide) lk0 (fun _ h9 => h9) rfl dX7_digest_110 ?_
        obtain ⟨hqA, hqB⟩ := hq
        refine lv_icmp_ge (tgt := 133) hx hb dX7_digest_113 (by decide) (fun c2 => ?_) (fun c2 => ?_)
        · have hq := hqA c2
          refine lv_aload_n hx hb dX7_digest_133 rfl (lv_at hl 0 rfl) ?_
          refine va_get (D := (dC, dI)) (ci := 7) (v := .long z108_v_digested) (C := RX7) (T := TX7) (N := 16) hx hb hts iK7 hown hK hP 0 rfl rfl 15 (by decide) lk1 (fun _ h9 => h9) rfl dX7_digest_134 ?_
          exact W.lret (v := z108_v_digested) hx hb hr (fun t ht hW => ⟨⟨z108_v_digested, (z108_v_aside, z108_v_away, z108_v_digested, z108_v_isHollow, z108_v_s, z108_v_sure, z108_v_thrown), rfl, hq, (xAt_of hP hK hD ht hW)⟩, hS.F ht⟩) hS.2.2 dX7_digest_137
        · have hq := hqB c2
          refine lv_aload_n hx hb dX7_digest_116 rfl (lv_at hl 0 rfl) ?_
          refine lv_aload_n hx hb dX7_digest_117 rfl (lv_at hl 0 rfl) ?_
          refine va_get (D := (dC, dI)) (ci := 7) (v := .ref (a 5)) (C := RX7) (T := TX7) (N := 16) hx hb hts iK7 hown hK hP 0 rfl rfl 6 (by decide) lk2 (fun _ h9 => h9) rfl dX7_digest_118 ?_
          refine lv_iload_n hx hb dX7_digest_121 rfl (lv_at hl 1 rfl) ?_
          obtain ⟨g1, hq⟩ := hq
          refine va_iald hx hb hK hP 5 0 rfl rfl g1 dX7_digest_122 ?_
          refine lv_i2l hx hb dX7_digest_123 rfl ?_
          have hFc := xfree_same hS hAe0 (ws := (cX7 cy a z108_v_s z108_v_aside (X7_kept v) (X7_isKept v) (X7_saved v) (X7_savedMany v) (X7_text v) (X7_length v) z108_v_thrown (X7_joint v) (X7_position v) (X7_isWrong v) z108_v_isHollow z108_v_sure z108_v_away z108_v_digested)) hD
          refine va_callv (va_runV (As := [.long (((X7_text v) y108_1.toNatClampNeg).toInt64)]) (rest := []) ⟨hx, hb, hml, hown, hts⟩ (c_X7_digestOne l dC dI cy a _ (z108_v_s, z108_v_aside, (X7_kept v), (X7_isKept v), (X7_saved v), (X7_savedMany v), (X7_text v), (X7_length v), z108_v_thrown, (X7_joint v), (X7_position v), (X7_isWrong v), z108_v_isHollow, z108_v_sure, z108_v_away, z108_v_digested) (((X7_text v) y108_1.toNatClampNeg).toInt64) _ hq) (cwV 1 hts gX7_digest_X7_digestOne rfl rfl rfl (by decide +kernel) ⟨Nat.le_of_ble_eq_true rfl, Nat.le_of_ble_eq_true rfl⟩) ⟨xPre_blind, va_recv hK hP (ci := 7) (q0 := 0) rfl rfl, xPre_of hP hK hD⟩ rfl rfl hl.1 rfl (lv_room (Nat.le_of_ble_eq_true rfl)) dX7_digest_124 ⟨Nat.le_of_ble_eq_true rfl, Nat.le_of_ble_eq_true rfl⟩) hS (fun q _ h => hFc q h) hFc (fun z124_v_digested t H locs ht hvm hq hB hz1 hk1 hS => ?_)
          obtain ⟨hP1, -, hD1⟩ := hB
          rw [ht] at hP1
          have hP : va_P (dC, dI) vwCl (cX7 cy a z108_v_s z108_v_aside (X7_kept v) (X7_isKept v) (X7_saved v) (X7_savedMany v) (X7_text v) (X7_length v) z108_v_thrown (X7_joint v) (X7_position v) (X7_isWrong v) z108_v_isHollow z108_v_sure z108_v_away z124_v_digested) H := hP1
          have hD : va_D A (cX7 cy a z108_v_s z108_v_aside (X7_kept v) (X7_isKept v) (X7_saved v) (X7_savedMany v) (X7_text v) (X7_length v) z108_v_thrown (X7_joint v) (X7_position v) (X7_isWrong v) z108_v_isHollow z108_v_sure z108_v_away z124_v_digested) := hD1.weaken (fun _ q _ h => hFc q.1 h)
          refine lv_iinc (v := (y108_1 + 1)) (lv' := [(1, .int (y108_1 + 1)), (0, .ref (a 0))]) hx hb dX7_digest_127 hl (k := 1) rfl rfl (by decide) rfl (fun ls hl => ?_)
          refine lv_goto (tgt := 108) hx hb dX7_digest_130 (by decide) ?_
          exact bk108 (y108_1 + 1) z124_v_digested _ _ _ hq hP hD hS (lv_sub hl [1, 0] rfl)
    exact key _ y108_1 z108_v_digested H locs ls h0 (Nat.lt_succ_self _) hP hD hS hl
  have J55 : ∀ (z55_v_away : (Nat → Int32)) (z55_v_isHollow : (Nat → Int32)) (z55_v_sure : (Nat → Int32)) (z55_v_thrown : Int32) (y55_1 : Int32) (z55_v_aside : (Nat → Int32)) (z55_v_digested : Int64) (z55_v_s : (Nat → Int32)) (H : Heap) (locs : List Loc) (ls : Array Slot), wp_X7_digest_55 v z55_v_away z55_v_isHollow z55_v_sure z55_v_thrown y55_1 z55_v_aside z55_v_digested z55_v_s Q → va_P (dC, dI) vwCl (cX7 cy a z55_v_s z55_v_aside (X7_kept v) (X7_isKept v) (X7_saved v) (X7_savedMany v) (X7_text v) (X7_length v) z55_v_thrown (X7_joint v) (X7_position v) (X7_isWrong v) z55_v_isHollow z55_v_sure z55_v_away z55_v_digested) H → va_D A (cX7 cy a z55_v_s z55_v_aside (X7_kept v) (X7_isKept v) (X7_saved v) (X7_savedMany v) (X7_text v) (X7_length v) z55_v_thrown (X7_joint v) (X7_position v) (X7_isWrong v) z55_v_isHollow z55_v_sure z55_v_away z55_v_digested) → va_S A s.heap H locs → lv_has ls 2 [(0, .ref (a 0)), (1, .int y55_1)] → W p l e (headSpec wsX7_digest ({ frames := 9, cells := 0, slots := 0, locals := 214 } : Room)).room s m ([.ref (a 0)] : List Value).toArray below meth c H locs 0 0 (MQ below (q_X7_digest dC dI cy a v Q A) ([.ref (a 0)] : List Value).toArray s 0 0 A) (F0 m 55 ls []) := by
    intro z55_v_away z55_v_isHollow z55_v_sure z55_v_thrown y55_1 z55_v_aside z55_v_digested z55_v_s H locs ls hq hP hD hS hl
    obtain ⟨I55, μ55, h0, hs55⟩ := hq
    have key : ∀ (n : Nat) (y55_1 : Int32) (z55_v_aside : (Nat → Int32)) (z55_v_digested : Int64) (z55_v_s : (Nat → Int32)) (H : Heap) (locs : List Loc) (ls : Array Slot), I55 y55_1 z55_v_aside z55_v_digested z55_v_s → μ55 y55_1 z55_v_aside z55_v_digested z55_v_s < n → va_P (dC, dI) vwCl (cX7 cy a z55_v_s z55_v_aside (X7_kept v) (X7_isKept v) (X7_saved v) (X7_savedMany v) (X7_text v) (X7_length v) z55_v_thrown (X7_joint v) (X7_position v) (X7_isWrong v) z55_v_isHollow z55_v_sure z55_v_away z55_v_digested) H → va_D A (cX7 cy a z55_v_s z55_v_aside (X7_kept v) (X7_isKept v) (X7_saved v) (X7_savedMany v) (X7_text v) (X7_length v) z55_v_thrown (X7_joint v) (X7_position v) (X7_isWrong v) z55_v_isHollow z55_v_sure z55_v_away z55_v_digested) → va_S A s.heap H locs → lv_has ls 2 [(0, .ref (a 0)), (1, .int y55_1)] → W p l e (headSpec wsX7_digest ({ frames := 9, cells := 0, slots := 0, locals := 214 } : Room)).room s m ([.ref (a 0)] : List Value).toArray below meth c H locs 0 0 (MQ below (q_X7_digest dC dI cy a v Q A) ([.ref (a 0)] : List Value).toArray s 0 0 A) (F0 m 55 ls []) := by
      intro n
      induction n with
      | zero => intro y55_1 z55_v_aside z55_v_digested z55_v_s H locs ls _ hm; exact absurd hm (Nat.not_lt_zero _)
      | succ n ih =>
        intro y55_1 z55_v_aside z55_v_digested z55_v_s H locs ls hI hm hP hD hS hl
        have hq := hs55 y55_1 z55_v_aside z55_v_digested z55_v_s hI
        generalize hB55 : (fun (t0 : Int32) (t1 : (Nat → Int32)) (t2 : Int64) (t3 : (Nat → Int32)) => I55 t0 t1 t2 t3 ∧ μ55 t0 t1 t2 t3 < μ55 y55_1 z55_v_aside z55_v_digested z55_v_s) = B55 at hq
        have bk55 : ∀ (y55_1 : Int32) (z55_v_aside : (Nat → Int32)) (z55_v_digested : Int64) (z55_v_s : (Nat → Int32)) (H : Heap) (locs : List Loc) (ls : Array Slot), B55 y55_1 z55_v_aside z55_v_digested z55_v_s → va_P (dC, dI) vwCl (cX7 cy a z55_v_s z55_v_aside (X7_kept v) (X7_isKept v) (X7_saved v) (X7_savedMany v) (X7_text v) (X7_length v) z55_v_thrown (X7_joint v) (X7_position v) (X7_isWrong v) z55_v_isHollow z55_v_sure z55_v_away z55_v_digested) H → va_D A (cX7 cy a z55_v_s z55_v_aside (X7_kept v) (X7_isKept v) (X7_saved v) (X7_savedMany v) (X7_text v) (X7_length v) z55_v_thrown (X7_joint v) (X7_position v) (X7_isWrong v) z55_v_isHollow z55_v_sure z55_v_away z55_v_digested) → va_S A s.heap H locs → lv_has ls 2 [(0, .ref (a 0)), (1, .int y55_1)] → W p l e (headSpec wsX7_digest ({ frames := 9, cells := 0, slots := 0, locals := 214 } : Room)).room s m ([.ref (a 0)] : List Value).toArray below meth c H locs 0 0 (MQ below (q_X7_digest dC dI cy a v Q A) ([.ref (a 0)] : List Value).toArray s 0 0 A) (F0 m 55 ls []) := by
          intro y55_1 z55_v_aside z55_v_digested z55_v_s H locs ls h
          rw [← hB55] at h
          exact ih y55_1 z55_v_aside z55_v_digested z55_v_s H locs ls h.1 (Nat.lt_of_lt_of_le h.2 (Nat.le_of_lt_succ hm))
        unfold wb_X7_digest_55 at hq
        refine lv_iload_n hx hb dX7_digest_55 rfl (lv_at hl 1 rfl) ?_
        refine lv_iconst (v := 3) hx hb dX7_digest_56 (by decide) ?_
        obtain ⟨hqA, hqB⟩ := hq
        refine lv_icmp_ge (tgt := 77) hx hb dX7_digest_57 (by decide) (fun c3 => ?_) (fun c3 => ?_)
        · have hq := hqA c3
          refine lv_aload_n hx hb dX7_digest_77 rfl (lv_at hl 0 rfl) ?_
          refine lv_aload_n hx hb dX7_digest_78 rfl (lv_at hl 0 rfl) ?_
          have hFc := xfree_same hS hAe0 (ws := (cX7 cy a z55_v_s z55_v_aside (X7_kept v) (X7_isKept v) (X7_saved v) (X7_savedMany v) (X7_text v) (X7_length v) z55_v_thrown (X7_joint v) (X7_position v) (X7_isWrong v) z55_v_isHollow z55_v_sure z55_v_away z55_v_digested)) hD
          refine va_calli (va_runV (As := []) (rest := [.ref (a 0)]) ⟨hx, hb, hml, hown, hts⟩ (c_X7_whenMound l dC dI cy a _ (z55_v_s, z55_v_aside, (X7_kept v), (X7_isKept v), (X7_saved v), (X7_savedMany v), (X7_text v), (X7_length v), z55_v_thrown, (X7_joint v), (X7_position v), (X7_isWrong v), z55_v_isHollow, z55_v_sure, z55_v_away, z55_v_digested) _ hq) (cwV 0 hts gX7_digest_X7_whenMound rfl rfl rfl (by decide +kernel) ⟨Nat.le_of_ble_eq_true rfl, Nat.le_of_ble_eq_true rfl⟩) ⟨xPre_blind, va_recv hK hP (ci := 7) (q0 := 0) rfl rfl, xPre_of hP hK hD⟩ rfl rfl hl.1 rfl (lv_room (Nat.le_of_ble_eq_true rfl)) dX7_digest_79 ⟨Nat.le_of_ble_eq_true rfl, Nat.le_of_ble_eq_true rfl⟩) hS (fun q _ h => hFc q h) hFc (fun r79 u9 t H locs ht hvm hq hB hz1 hk1 hS => ?_)
          obtain ⟨z79_v_aside, z79_v_s⟩ := u9
          obtain ⟨hP1, -, hD1⟩ := hB
          rw [ht] at hP1
          have hP : va_P (dC, dI) vwCl (cX7 cy a z79_v_s z79_v_aside (X7_kept v) (X7_isKept v) (X7_saved v) (X7_savedMany v) (X7_text v) (X7_length v) z55_v_thrown (X7_joint v) (X7_position v) (X7_isWrong v) z55_v_isHollow z55_v_sure z55_v_away z55_v_digested) H := hP1
          have hD : va_D A (cX7 cy a z79_v_s z79_v_aside (X7_kept v) (X7_isKept v) (X7_saved v) (X7_savedMany v) (X7_text v) (X7_length v) z55_v_thrown (X7_joint v) (X7_position v) (X7_isWrong v) z55_v_isHollow z55_v_sure z55_v_away z55_v_digested) := hD1.weaken (fun _ q _ h => hFc q.1 h)
          refine lv_i2l hx hb dX7_digest_82 rfl ?_
          have hFc := xfree_same hS hAe0 (ws := (cX7 cy a z79_v_s z79_v_aside (X7_kept v) (X7_isKept v) (X7_saved v) (X7_savedMany v) (X7_text v) (X7_length v) z55_v_thrown (X7_joint v) (X7_position v) (X7_isWrong v) z55_v_isHollow z55_v_sure z55_v_away z55_v_digested)) hD
          refine va_callv (va_runV (As := [.long (r79.toInt64)]) (rest := []) ⟨hx, hb, hml, hown, hts⟩ (c_X7_digestOne l dC dI cy a _ (z79_v_s, z79_v_aside, (X7_kept v), (X7_isKept v), (X7_saved v), (X7_savedMany v), (X7_text v), (X7_length v), z55_v_thrown, (X7_joint v), (X7_position v), (X7_isWrong v), z55_v_isHollow, z55_v_sure, z55_v_away, z55_v_digested) (r79.toInt64) _ hq) (cwV 1 hts gX7_digest_X7_digestOne rfl rfl rfl (by decide +kernel) ⟨Nat.le_of_ble_eq_true rfl, Nat.le_of_ble_eq_true rfl⟩) ⟨xPre_blind, va_recv hK hP (ci := 7) (q0 := 0) rfl rfl, xPre_of hP hK hD⟩ rfl rfl hl.1 rfl (lv_room (Nat.le_of_ble_eq_true rfl)) dX7_digest_83 ⟨Nat.le_of_ble_eq_true rfl, Nat.le_of_ble_eq_true rfl⟩) hS (fun q _ h => hFc q h) hFc (fun z83_v_digested t H locs ht hvm hq hB hz1 hk1 hS => ?_)
          obtain ⟨hP1, -, hD1⟩ := hB
          rw [ht] at hP1
          have hP : va_P (dC, dI) vwCl (cX7 cy a z79_v_s z79_v_aside (X7_kept v) (X7_isKept v) (X7_saved v) (X7_savedMany v) (X7_text v) (X7_length v) z55_v_thrown (X7_joint v) (X7_position v) (X7_isWrong v) z55_v_isHollow z55_v_sure z55_v_away z83_v_digested) H := hP1
          have hD : va_D A (cX7 cy a z79_v_s z79_v_aside (X7_kept v) (X7_isKept v) (X7_saved v) (X7_savedMany v) (X7_text v) (X7_length v) z55_v_thrown (X7_joint v) (X7_position v) (X7_isWrong v) z55_v_isHollow z55_v_sure z55_v_away z83_v_digested) := hD1.weaken (fun _ q _ h => hFc q.1 h)
          refine lv_aload_n hx hb dX7_digest_86 rfl (lv_at hl 0 rfl) ?_
          refine lv_aload_n hx hb dX7_digest_87 rfl (lv_at hl 0 rfl) ?_
          have hFc := xfree_same hS hAe0 (ws := (cX7 cy a z79_v_s z79_v_aside (X7_kept v) (X7_isKept v) (X7_saved v) (X7_savedMany v) (X7_text v) (X7_length v) z55_v_thrown (X7_joint v) (X7_position v) (X7_isWrong v) z55_v_isHollow z55_v_sure z55_v_away z83_v_digested)) hD
          refine va_calld (va_runV (As := []) (rest := [.ref (a 0)]) ⟨hx, hb, hml, hown, hts⟩ (c_X7_share l dC dI cy a _ (z79_v_s, z79_v_aside, (X7_kept v), (X7_isKept v), (X7_saved v), (X7_savedMany v), (X7_text v), (X7_length v), z55_v_thrown, (X7_joint v), (X7_position v), (X7_isWrong v), z55_v_isHollow, z55_v_sure, z55_v_away, z83_v_digested) _ hq) (cwV 0 hts gX7_digest_X7_share rfl rfl rfl (by decide +kernel) ⟨Nat.le_of_ble_eq_true rfl, Nat.le_of_ble_eq_true rfl⟩) ⟨xPre_blind, va_recv hK hP (ci := 7) (q0 := 0) rfl rfl, xPre_of hP hK hD⟩ rfl rfl hl.1 rfl (lv_room (Nat.le_of_ble_eq_true rfl)) dX7_digest_88 ⟨Nat.le_of_ble_eq_true rfl, Nat.le_of_ble_eq_true rfl⟩) hS (fun q _ h => hFc q h) hFc (fun r88 z88_v_isHollow t H locs ht hvm hq hB hz1 hk1 hS => ?_)
          obtain ⟨hP1, -, hD1⟩ := hB
          rw [ht] at hP1
          have hP : va_P (dC, dI) vwCl (cX7 cy a z79_v_s z79_v_aside (X7_kept v) (X7_isKept v) (X7_saved v) (X7_savedMany v) (X7_text v) (X7_length v) z55_v_thrown (X7_joint v) (X7_position v) (X7_isWrong v) z88_v_isHollow z55_v_sure z55_v_away z83_v_digested) H := hP1
          have hD : va_D A (cX7 cy a z79_v_s z79_v_aside (X7_kept v) (X7_isKept v) (X7_saved v) (X7_savedMany v) (X7_text v) (X7_length v) z55_v_thrown (X7_joint v) (X7_position v) (X7_isWrong v) z88_v_isHollow z55_v_sure z55_v_away z83_v_digested) := hD1.weaken (fun _ q _ h => hFc q.1 h)
          have hFc := xfree_none hS hAe0
          refine va_calll (va_runS (As := [.double r88]) (rest := [.ref (a 0)]) ⟨hx, hb, hml, hown, hts⟩ (c_X7_bitsOf l dC dI cy  _ r88 _ hq) (va_cwS 1 hts gX7_digest_X7_bitsOf rfl rfl rfl (by decide +kernel) ⟨Nat.le_of_ble_eq_true rfl, Nat.le_of_ble_eq_true rfl⟩) ⟨xPre_blind, xPre_of xP_nil hK (xD_nil (A := A))⟩ rfl rfl hl.1 rfl (lv_room (Nat.le_of_ble_eq_true rfl)) dX7_digest_91 ⟨Nat.le_of_ble_eq_true rfl, Nat.le_of_ble_eq_true rfl⟩) hS (fun q _ h => hFc q h) hFc (fun r91 u9 t H locs ht hvm hq hB hz1 hk1 hS => ?_)
          have hP := xj_none hP hk1
          have hFc := xfree_same hS hAe0 (ws := (cX7 cy a z79_v_s z79_v_aside (X7_kept v) (X7_isKept v) (X7_saved v) (X7_savedMany v) (X7_text v) (X7_length v) z55_v_thrown (X7_joint v) (X7_position v) (X7_isWrong v) z88_v_isHollow z55_v_sure z55_v_away z83_v_digested)) hD
          refine va_callv (va_runV (As := [.long r91]) (rest := []) ⟨hx, hb, hml, hown, hts⟩ (c_X7_digestOne l dC dI cy a _ (z79_v_s, z79_v_aside, (X7_kept v), (X7_isKept v), (X7_saved v), (X7_savedMany v), (X7_text v), (X7_length v), z55_v_thrown, (X7_joint v), (X7_position v), (X7_isWrong v), z88_v_isHollow, z55_v_sure, z55_v_away, z83_v_digested) r91 _ hq) (cwV 1 hts gX7_digest_X7_digestOne rfl rfl rfl (by decide +kernel) ⟨Nat.le_of_ble_eq_true rfl, Nat.le_of_ble_eq_true rfl⟩) ⟨xPre_blind, va_recv hK hP (ci := 7) (q0 := 0) rfl rfl, xPre_of hP hK hD⟩ rfl rfl hl.1 rfl (lv_room (Nat.le_of_ble_eq_true rfl)) dX7_digest_94 ⟨Nat.le_of_ble_eq_true rfl, Nat.le_of_ble_eq_true rfl⟩) hS (fun q _ h => hFc q h) hFc (fun z94_v_digested t H locs ht hvm hq hB hz1 hk1 hS => ?_)
          obtain ⟨hP1, -, hD1⟩ := hB
          rw [ht] at hP1
          have hP : va_P (dC, dI) vwCl (cX7 cy a z79_v_s z79_v_aside (X7_kept v) (X7_isKept v) (X7_saved v) (X7_savedMany v) (X7_text v) (X7_length v) z55_v_thrown (X7_joint v) (X7_position v) (X7_isWrong v) z88_v_isHollow z55_v_sure z55_v_away z94_v_digested) H := hP1
          have hD : va_D A (cX7 cy a z79_v_s z79_v_aside (X7_kept v) (X7_isKept v) (X7_saved v) (X7_savedMany v) (X7_text v) (X7_length v) z55_v_thrown (X7_joint v) (X7_position v) (X7_isWrong v) z88_v_isHollow z55_v_sure z55_v_away z94_v_digested) := hD1.weaken (fun _ q _ h => hFc q.1 h)
          refine lv_aload_n hx hb dX7_digest_97 rfl (lv_at hl 0 rfl) ?_
          refine lv_aload_n hx hb dX7_digest_98 rfl (lv_at hl 0 rfl) ?_
          refine va_get (D := (dC, dI)) (ci := 7) (v := .int (X7_length v)) (C := RX7) (T := TX7) (N := 16) hx hb hts iK7 hown hK hP 0 rfl rfl 7 (by decide) lk0 (fun _ h9 => h9) rfl dX7_digest_99 ?_
          refine lv_i2l hx hb dX7_digest_102 rfl ?_
          have hFc := xfree_same hS hAe0 (ws := (cX7 cy a z79_v_s z79_v_aside (X7_kept v) (X7_isKept v) (X7_saved v) (X7_savedMany v) (X7_text v) (X7_length v) z55_v_thrown (X7_joint v) (X7_position v) (X7_isWrong v) z88_v_isHollow z55_v_sure z55_v_away z94_v_digested)) hD
          refine va_callv (va_runV (As := [.long ((X7_length v).toInt64)]) (rest := []) ⟨hx, hb, hml, hown, hts⟩ (c_X7_digestOne l dC dI cy a _ (z79_v_s, z79_v_aside, (X7_kept v), (X7_isKept v), (X7_saved v), (X7_savedMany v), (X7_text v), (X7_length v), z55_v_thrown, (X7_joint v), (X7_position v), (X7_isWrong v), z88_v_isHollow, z55_v_sure, z55_v_away, z94_v_digested) ((X7_length v).toInt64) _ hq) (cwV 1 hts gX7_digest_X7_digestOne rfl rfl rfl (by decide +kernel) ⟨Nat.le_of_ble_eq_true rfl, Nat.le_of_ble_eq_true rfl⟩) ⟨xPre_blind, va_recv hK hP (ci := 7) (q0 := 0) rfl rfl, xPre_of hP hK hD⟩ rfl rfl hl.1 rfl (lv_room (Nat.le_of_ble_eq_true rfl)) dX7_digest_103 ⟨Nat.le_of_ble_eq_true rfl, Nat.le_of_ble_eq_true rfl⟩) hS (fun q _ h => hFc q h) hFc (fun z103_v_digested t H locs ht hvm hq hB hz1 hk1 hS => ?_)
          obtain ⟨hP1, -, hD1⟩ := hB
          rw [ht] at hP1
          have hP : va_P (dC, dI) vwCl (cX7 cy a z79_v_s z79_v_aside (X7_kept v) (X7_isKept v) (X7_saved v) (X7_savedMany v) (X7_text v) (X7_length v) z55_v_thrown (X7_joint v) (X7_position v) (X7_isWrong v) z88_v_isHollow z55_v_sure z55_v_away z103_v_digested) H := hP1
          have hD : va_D A (cX7 cy a z79_v_s z79_v_aside (X7_kept v) (X7_isKept v) (X7_saved v) (X7_savedMany v) (X7_text v) (X7_length v) z55_v_thrown (X7_joint v) (X7_position v) (X7_isWrong v) z88_v_isHollow z55_v_sure z55_v_away z103_v_digested) := hD1.weaken (fun _ q _ h => hFc q.1 h)
          refine lv_iconst (v := 0) hx hb dX7_digest_106 (by decide) ?_
          refine lv_istore_n (lv' := [(1, .int 0), (0, .ref (a 0))]) hx hb dX7_digest_107 rfl hl (by decide) rfl (fun ls hl => ?_)
          exact J108 z79_v_aside z55_v_away z88_v_isHollow z79_v_s z55_v_sure z55_v_thrown 0 z103_v_digested _ _ _ hq hP hD hS (lv_sub hl [1, 0] rfl)
        · have hq := hqB c3
          refine lv_aload_n hx hb dX7_digest_60 rfl (lv_at hl 0 rfl) ?_
          refine lv_aload_n hx hb dX7_digest_61 rfl (lv_at hl 0 rfl) ?_
          refine lv_iconst (v := 5) hx hb dX7_digest_62 (by decide) ?_
          refine lv_iload_n hx hb dX7_digest_63 rfl (lv_at hl 1 rfl) ?_
          have hFc := xfree_same hS hAe0 (ws := (cX7 cy a z55_v_s z55_v_aside (X7_kept v) (X7_isKept v) (X7_saved v) (X7_savedMany v) (X7_text v) (X7_length v) z55_v_thrown (X7_joint v) (X7_position v) (X7_isWrong v) z55_v_isHollow z55_v_sure z55_v_away z55_v_digested)) hD
          refine va_calli (va_runV (As := [.int 5, .int y55_1]) (rest := [.ref (a 0)]) ⟨hx, hb, hml, hown, hts⟩ (c_X7_passed l dC dI cy a _ (z55_v_s, z55_v_aside, (X7_kept v), (X7_isKept v), (X7_saved v), (X7_savedMany v), (X7_text v), (X7_length v), z55_v_thrown, (X7_joint v), (X7_position v), (X7_isWrong v), z55_v_isHollow, z55_v_sure, z55_v_away, z55_v_digested) 5 y55_1 _ hq) (cwV 2 hts gX7_digest_X7_passed rfl rfl rfl (by decide +kernel) ⟨Nat.le_of_ble_eq_true rfl, Nat.le_of_ble_eq_true rfl⟩) ⟨xPre_blind, va_recv hK hP (ci := 7) (q0 := 0) rfl rfl, xPre_of hP hK hD⟩ rfl rfl hl.1 rfl (lv_room (Nat.le_of_ble_eq_true rfl)) dX7_digest_64 ⟨Nat.le_of_ble_eq_true rfl, Nat.le_of_ble_eq_true rfl⟩) hS (fun q _ h => hFc q h) hFc (fun r64 u9 t H locs ht hvm hq hB hz1 hk1 hS => ?_)
          obtain ⟨z64_v_aside, z64_v_s⟩ := u9
          obtain ⟨hP1, -, hD1⟩ := hB
          rw [ht] at hP1
          have hP : va_P (dC, dI) vwCl (cX7 cy a z64_v_s z64_v_aside (X7_kept v) (X7_isKept v) (X7_saved v) (X7_savedMany v) (X7_text v) (X7_length v) z55_v_thrown (X7_joint v) (X7_position v) (X7_isWrong v) z55_v_isHollow z55_v_sure z55_v_away z55_v_digested) H := hP1
          have hD : va_D A (cX7 cy a z64_v_s z64_v_aside (X7_kept v) (X7_isKept v) (X7_saved v) (X7_savedMany v) (X7_text v) (X7_length v) z55_v_thrown (X7_joint v) (X7_position v) (X7_isWrong v) z55_v_isHollow z55_v_sure z55_v_away z55_v_digested) := hD1.weaken (fun _ q _ h => hFc q.1 h)
          refine lv_i2l hx hb dX7_digest_67 rfl ?_
          have hFc := xfree_same hS hAe0 (ws := (cX7 cy a z64_v_s z64_v_aside (X7_kept v) (X7_isKept v) (X7_saved v) (X7_savedMany v) (X7_text v) (X7_length v) z55_v_thrown (X7_joint v) (X7_position v) (X7_isWrong v) z55_v_isHollow z55_v_sure z55_v_away z55_v_digested)) hD
          refine va_callv (va_runV (As := [.long (r64.toInt64)]) (rest := []) ⟨hx, hb, hml, hown, hts⟩ (c_X7_digestOne l dC dI cy a _ (z64_v_s, z64_v_aside, (X7_kept v), (X7_isKept v), (X7_saved v), (X7_savedMany v), (X7_text v), (X7_length v), z55_v_thrown, (X7_joint v), (X7_position v), (X7_isWrong v), z55_v_isHollow, z55_v_sure, z55_v_away, z55_v_digested) (r64.toInt64) _ hq) (cwV 1 hts gX7_digest_X7_digestOne rfl rfl rfl (by decide +kernel) ⟨Nat.le_of_ble_eq_true rfl, Nat.le_of_ble_eq_true rfl⟩) ⟨xPre_blind, va_recv hK hP (ci := 7) (q0 := 0) rfl rfl, xPre_of hP hK hD⟩ rfl rfl hl.1 rfl (lv_room (Nat.le_of_ble_eq_true rfl)) dX7_digest_68 ⟨Nat.le_of_ble_eq_true rfl, Nat.le_of_ble_eq_true rfl⟩) hS (fun q _ h => hFc q h) hFc (fun z68_v_digested t H locs ht hvm hq hB hz1 hk1 hS => ?_)
          obtain ⟨hP1, -, hD1⟩ := hB
          rw [ht] at hP1
          have hP : va_P (dC, dI) vwCl (cX7 cy a z64_v_s z64_v_aside (X7_kept v) (X7_isKept v) (X7_saved v) (X7_savedMany v) (X7_text v) (X7_length v) z55_v_thrown (X7_joint v) (X7_position v) (X7_isWrong v) z55_v_isHollow z55_v_sure z55_v_away z68_v_digested) H := hP1
          have hD : va_D A (cX7 cy a z64_v_s z64_v_aside (X7_kept v) (X7_isKept v) (X7_saved v) (X7_savedMany v) (X7_text v) (X7_length v) z55_v_thrown (X7_joint v) (X7_position v) (X7_isWrong v) z55_v_isHollow z55_v_sure z55_v_away z68_v_digested) := hD1.weaken (fun _ q _ h => hFc q.1 h)
          refine lv_iinc (v := (y55_1 + 1)) (lv' := [(1, .int (y55_1 + 1)), (0, .ref (a 0))]) hx hb dX7_digest_71 hl (k := 1) rfl rfl (by decide) rfl (fun ls hl => ?_)
          refine lv_goto (tgt := 55) hx hb dX7_digest_74 (by decide) ?_
          exact bk55 (y55_1 + 1) z64_v_aside z68_v_digested z64_v_s _ _ _ hq hP hD hS (lv_sub hl [1, 0] rfl)
    exact key _ y55_1 z55_v_aside z55_v_digested z55_v_s H locs ls h0 (Nat.lt_succ_self _) hP hD hS hl
  have J14 : ∀ (z14_v_thrown : Int32) (y14_1 : Int32) (z14_v_away : (Nat → Int32)) (z14_v_digested : Int64) (z14_v_isHollow : (Nat → Int32)) (H : Heap) (locs : List Loc) (ls : Array Slot), wp_X7_digest_14 v z14_v_thrown y14_1 z14_v_away z14_v_digested z14_v_isHollow Q → va_P (dC, dI) vwCl (cX7 cy a (X7_s v) (X7_aside v) (X7_kept v) (X7_isKept v) (X7_saved v) (X7_savedMany v) (X7_text v) (X7_length v) z14_v_thrown (X7_joint v) (X7_position v) (X7_isWrong v) z14_v_isHollow (X7_sure v) z14_v_away z14_v_digested) H → va_D A (cX7 cy a (X7_s v) (X7_aside v) (X7_kept v) (X7_isKept v) (X7_saved v) (X7_savedMany v) (X7_text v) (X7_length v) z14_v_thrown (X7_joint v) (X7_position v) (X7_isWrong v) z14_v_isHollow (X7_sure v) z14_v_away z14_v_digested) → va_S A s.heap H locs → lv_has ls 2 [(0, .ref (a 0)), (1, .int y14_1)] → W p l e (headSpec wsX7_digest ({ frames := 9, cells := 0, slots := 0, locals := 214 } : Room)).room s m ([.ref (a 0)] : List Value).toArray below meth c H locs 0 0 (MQ below (q_X7_digest dC dI cy a v Q A) ([.ref (a 0)] : List Value).toArray s 0 0 A) (F0 m 14 ls []) := by
    intro z14_v_thrown y14_1 z14_v_away z14_v_digested z14_v_isHollow H locs ls hq hP hD hS hl
    obtain ⟨I14, μ14, h0, hs14⟩ := hq
    have key : ∀ (n : Nat) (y14_1 : Int32) (z14_v_away : (Nat → Int32)) (z14_v_digested : Int64) (z14_v_isHollow : (Nat → Int32)) (H : Heap) (locs : List Loc) (ls : Array Slot), I14 y14_1 z14_v_away z14_v_digested z14_v_isHollow → μ14 y14_1 z14_v_away z14_v_digested z14_v_isHollow < n → va_P (dC, dI) vwCl (cX7 cy a (X7_s v) (X7_aside v) (X7_kept v) (X7_isKept v) (X7_saved v) (X7_savedMany v) (X7_text v) (X7_length v) z14_v_thrown (X7_joint v) (X7_position v) (X7_isWrong v) z14_v_isHollow (X7_sure v) z14_v_away z14_v_digested) H → va_D A (cX7 cy a (X7_s v) (X7_aside v) (X7_kept v) (X7_isKept v) (X7_saved v) (X7_savedMany v) (X7_text v) (X7_length v) z14_v_thrown (X7_joint v) (X7_position v) (X7_isWrong v) z14_v_isHollow (X7_sure v) z14_v_away z14_v_digested) → va_S A s.heap H locs → lv_has ls 2 [(0, .ref (a 0)), (1, .int y14_1)] → W p l e (headSpec wsX7_digest ({ frames := 9, cells := 0, slots := 0, locals := 214 } : Room)).room s m ([.ref (a 0)] : List Value).toArray below meth c H locs 0 0 (MQ below (q_X7_digest dC dI cy a v Q A) ([.ref (a 0)] : List Value).toArray s 0 0 A) (F0 m 14 ls []) := by
      intro n
      induction n with
      | zero => intro y14_1 z14_v_away z14_v_digested z14_v_isHollow H locs ls _ hm; exact absurd hm (Nat.not_lt_zero _)
      | succ n ih =>
        intro y14_1 z14_v_away z14_v_digested z14_v_isHollow H locs ls hI hm hP hD hS hl
        have hq := hs14 y14_1 z14_v_away z14_v_digested z14_v_isHollow hI
        generalize hB14 : (fun (t0 : Int32) (t1 : (Nat → Int32)) (t2 : Int64) (t3 : (Nat → Int32)) => I14 t0 t1 t2 t3 ∧ μ14 t0 t1 t2 t3 < μ14 y14_1 z14_v_away z14_v_digested z14_v_isHollow) = B14 at hq
        have bk14 : ∀ (y14_1 : Int32) (z14_v_away : (Nat → Int32)) (z14_v_digested : Int64) (z14_v_isHollow : (Nat → Int32)) (H : Heap) (locs : List Loc) (ls : Array Slot), B14 y14_1 z14_v_away z14_v_digested z14_v_isHollow → va_P (dC, dI) vwCl (cX7 cy a (X7_s v) (X7_aside v) (X7_kept v) (X7_isKept v) (X7_saved v) (X7_savedMany v) (X7_text v) (X7_length v) z14_v_thrown (X7_joint v) (X7_position v) (X7_isWrong v) z14_v_isHollow (X7_sure v) z14_v_away z14_v_digested) H → va_D A (cX7 cy a (X7_s v) (X7_aside v) (X7_kept v) (X7_isKept v) (X7_saved v) (X7_savedMany v) (X7_text v) (X7_length v) z14_v_thrown (X7_joint v) (X7_position v) (X7_isWrong v) z14_v_isHollow (X7_sure v) z14_v_away z14_v_digested) → va_S A s.heap H locs → lv_has ls 2 [(0, .ref (a 0)), (1, .int y14_1)] → W p l e (headSpec wsX7_digest ({ frames := 9, cells := 0, slots := 0, locals := 214 } : Room)).room s m ([.ref (a 0)] : List Value).toArray below meth c H locs 0 0 (MQ below (q_X7_digest dC dI cy a v Q A) ([.ref (a 0)] : List Value).toArray s 0 0 A) (F0 m 14 ls []) := by
          intro y14_1 z14_v_away z14_v_digested z14_v_isHollow H locs ls h
          rw [← hB14] at h
          exact ih y14_1 z14_v_away z14_v_digested z14_v_isHollow H locs ls h.1 (Nat.lt_of_lt_of_le h.2 (Nat.le_of_lt_succ hm))
        unfold wb_X7_digest_14 at hq
        refine lv_iload_n hx hb dX7_digest_14 rfl (lv_at hl 1 rfl) ?_
        refine lv_bipush (v := 15) hx hb dX7_digest_15 (by decide) ?_
        obtain ⟨hqA, hqB⟩ := hq
        refine lv_icmp_ge (tgt := 36) hx hb dX7_digest_17 (by decide) (fun c4 => ?_) (fun c4 => ?_)
        · have hq := hqA c4
          refine lv_aload_n hx hb dX7_digest_36 rfl (lv_at hl 0 rfl) ?_
          have hFc := xfree_same hS hAe0 (ws := (cX7 cy a (X7_s v) (X7_aside v) (X7_kept v) (X7_isKept v) (X7_saved v) (X7_savedMany v) (X7_text v) (X7_length v) z14_v_thrown (X7_joint v) (X7_position v) (X7_isWrong v) z14_v_isHollow (X7_sure v) z14_v_away z14_v_digested)) hD
          refine va_callv (va_runV (As := []) (rest := []) ⟨hx, hb, hml, hown, hts⟩ (c_X7_digestLawn l dC dI cy a _ ((X7_s v), (X7_aside v), (X7_kept v), (X7_isKept v), (X7_saved v), (X7_savedMany v), (X7_text v), (X7_length v), z14_v_thrown, (X7_joint v), (X7_position v), (X7_isWrong v), z14_v_isHollow, (X7_sure v), z14_v_away, z14_v_digested) _ hq) (cwV 0 hts gX7_digest_X7_digestLawn rfl rfl rfl (by decide +kernel) ⟨Nat.le_of_ble_eq_true rfl, Nat.le_of_ble_eq_true rfl⟩) ⟨xPre_blind, va_recv hK hP (ci := 7) (q0 := 0) rfl rfl, xPre_of hP hK hD⟩ rfl rfl hl.1 rfl (lv_room (Nat.le_of_ble_eq_true rfl)) dX7_digest_37 ⟨Nat.le_of_ble_eq_true rfl, Nat.le_of_ble_eq_true rfl⟩) hS (fun q _ h => hFc q h) hFc (fun u9 t H locs ht hvm hq hB hz1 hk1 hS => ?_)
          obtain ⟨z37_v_digested, z37_v_isHollow, z37_v_sure⟩ := u9
          obtain ⟨hP1, -, hD1⟩ := hB
          rw [ht] at hP1
          have hP : va_P (dC, dI) vwCl (cX7 cy a (X7_s v) (X7_aside v) (X7_kept v) (X7_isKept v) (X7_saved v) (X7_savedMany v) (X7_text v) (X7_length v) z14_v_thrown (X7_joint v) (X7_position v) (X7_isWrong v) z37_v_isHollow z37_v_sure z14_v_away z37_v_digested) H := hP1
          have hD : va_D A (cX7 cy a (X7_s v) (X7_aside v) (X7_kept v) (X7_isKept v) (X7_saved v) (X7_savedMany v) (X7_text v) (X7_length v) z14_v_thrown (X7_joint v) (X7_position v) (X7_isWrong v) z37_v_isHollow z37_v_sure z14_v_away z37_v_digested) := hD1.weaken (fun _ q _ h => hFc q.1 h)
          refine lv_aload_n hx hb dX7_digest_40 rfl (lv_at hl 0 rfl) ?_
          have hFc := xfree_same hS hAe0 (ws := (cX7 cy a (X7_s v) (X7_aside v) (X7_kept v) (X7_isKept v) (X7_saved v) (X7_savedMany v) (X7_text v) (X7_length v) z14_v_thrown (X7_joint v) (X7_position v) (X7_isWrong v) z37_v_isHollow z37_v_sure z14_v_away z37_v_digested)) hD
          refine va_callv (va_runV (As := []) (rest := []) ⟨hx, hb, hml, hown, hts⟩ (c_X7_digestMounds l dC dI cy a _ ((X7_s v), (X7_aside v), (X7_kept v), (X7_isKept v), (X7_saved v), (X7_savedMany v), (X7_text v), (X7_length v), z14_v_thrown, (X7_joint v), (X7_position v), (X7_isWrong v), z37_v_isHollow, z37_v_sure, z14_v_away, z37_v_digested) _ hq) (cwV 0 hts gX7_digest_X7_digestMounds rfl rfl rfl (by decide +kernel) ⟨Nat.le_of_ble_eq_true rfl, Nat.le_of_ble_eq_true rfl⟩) ⟨xPre_blind, va_recv hK hP (ci := 7) (q0 := 0) rfl rfl, xPre_of hP hK hD⟩ rfl rfl hl.1 rfl (lv_room (Nat.le_of_ble_eq_true rfl)) dX7_digest_41 ⟨Nat.le_of_ble_eq_true rfl, Nat.le_of_ble_eq_true rfl⟩) hS (fun q _ h => hFc q h) hFc (fun u9 t H locs ht hvm hq hB hz1 hk1 hS => ?_)
          obtain ⟨z41_v_aside, z41_v_away, z41_v_digested, z41_v_isHollow, z41_v_s⟩ := u9
          obtain ⟨hP1, -, hD1⟩ := hB
          rw [ht] at hP1
          have hP : va_P (dC, dI) vwCl (cX7 cy a z41_v_s z41_v_aside (X7_kept v) (X7_isKept v) (X7_saved v) (X7_savedMany v) (X7_text v) (X7_length v) z14_v_thrown (X7_joint v) (X7_position v) (X7_isWrong v) z41_v_isHollow z37_v_sure z41_v_away z41_v_digested) H := hP1
          have hD : va_D A (cX7 cy a z41_v_s z41_v_aside (X7_kept v) (X7_isKept v) (X7_saved v) (X7_savedMany v) (X7_text v) (X7_length v) z14_v_thrown (X7_joint v) (X7_position v) (X7_isWrong v) z41_v_isHollow z37_v_sure z41_v_away z41_v_digested) := hD1.weaken (fun _ q _ h => hFc q.1 h)
          refine lv_aload_n hx hb dX7_digest_44 rfl (lv_at hl 0 rfl) ?_
          refine lv_aload_n hx hb dX7_digest_45 rfl (lv_at hl 0 rfl) ?_
          have hFc := xfree_same hS hAe0 (ws := (cX7 cy a z41_v_s z41_v_aside (X7_kept v) (X7_isKept v) (X7_saved v) (X7_savedMany v) (X7_text v) (X7_length v) z14_v_thrown (X7_joint v) (X7_position v) (X7_isWrong v) z41_v_isHollow z37_v_sure z41_v_away z41_v_digested)) hD
          refine va_calli (va_runV (As := []) (rest := [.ref (a 0)]) ⟨hx, hb, hml, hown, hts⟩ (c_X7_best l dC dI cy a _ (z41_v_s, z41_v_aside, (X7_kept v), (X7_isKept v), (X7_saved v), (X7_savedMany v), (X7_text v), (X7_length v), z14_v_thrown, (X7_joint v), (X7_position v), (X7_isWrong v), z41_v_isHollow, z37_v_sure, z41_v_away, z41_v_digested) _ hq) (cwV 0 hts gX7_digest_X7_best rfl rfl rfl (by decide +kernel) ⟨Nat.le_of_ble_eq_true rfl, Nat.le_of_ble_eq_true rfl⟩) ⟨xPre_blind, va_recv hK hP (ci := 7) (q0 := 0) rfl rfl, xPre_of hP hK hD⟩ rfl rfl hl.1 rfl (lv_room (Nat.le_of_ble_eq_true rfl)) dX7_digest_46 ⟨Nat.le_of_ble_eq_true rfl, Nat.le_of_ble_eq_true rfl⟩) hS (fun q _ h => hFc q h) hFc (fun r46 u9 t H locs ht hvm hq hB hz1 hk1 hS => ?_)
          obtain ⟨hP1, -, hD1⟩ := hB
          rw [ht] at hP1
          have hP : va_P (dC, dI) vwCl (cX7 cy a z41_v_s z41_v_aside (X7_kept v) (X7_isKept v) (X7_saved v) (X7_savedMany v) (X7_text v) (X7_length v) z14_v_thrown (X7_joint v) (X7_position v) (X7_isWrong v) z41_v_isHollow z37_v_sure z41_v_away z41_v_digested) H := hP1
          have hD : va_D A (cX7 cy a z41_v_s z41_v_aside (X7_kept v) (X7_isKept v) (X7_saved v) (X7_savedMany v) (X7_text v) (X7_length v) z14_v_thrown (X7_joint v) (X7_position v) (X7_isWrong v) z41_v_isHollow z37_v_sure z41_v_away z41_v_digested) := hD1.weaken (fun _ q _ h => hFc q.1 h)
          refine lv_i2l hx hb dX7_digest_49 rfl ?_
          have hFc := xfree_same hS hAe0 (ws := (cX7 cy a z41_v_s z41_v_aside (X7_kept v) (X7_isKept v) (X7_saved v) (X7_savedMany v) (X7_text v) (X7_length v) z14_v_thrown (X7_joint v) (X7_position v) (X7_isWrong v) z41_v_isHollow z37_v_sure z41_v_away z41_v_digested)) hD
          refine va_callv (va_runV (As := [.long (r46.toInt64)]) (rest := []) ⟨hx, hb, hml, hown, hts⟩ (c_X7_digestOne l dC dI cy a _ (z41_v_s, z41_v_aside, (X7_kept v), (X7_isKept v), (X7_saved v), (X7_savedMany v), (X7_text v), (X7_length v), z14_v_thrown, (X7_joint v), (X7_position v), (X7_isWrong v), z41_v_isHollow, z37_v_sure, z41_v_away, z41_v_digested) (r46.toInt64) _ hq) (cwV 1 hts gX7_digest_X7_digestOne rfl rfl rfl (by decide +kernel) ⟨Nat.le_of_ble_eq_true rfl, Nat.le_of_ble_eq_true rfl⟩) ⟨xPre_blind, va_recv hK hP (ci := 7) (q0 := 0) rfl rfl, xPre_of hP hK hD⟩ rfl rfl hl.1 rfl (lv_room (Nat.le_of_ble_eq_true rfl)) dX7_digest_50 ⟨Nat.le_of_ble_eq_true rfl, Nat.le_of_ble_eq_true rfl⟩) hS (fun q _ h => hFc q h) hFc (fun z50_v_digested t H locs ht hvm hq hB hz1 hk1 hS => ?_)
          obtain ⟨hP1, -, hD1⟩ := hB
          rw [ht] at hP1
          have hP : va_P (dC, dI) vwCl (cX7 cy a z41_v_s z41_v_aside (X7_kept v) (X7_isKept v) (X7_saved v) (X7_savedMany v) (X7_text v) (X7_length v) z14_v_thrown (X7_joint v) (X7_position v) (X7_isWrong v) z41_v_isHollow z37_v_sure z41_v_away z50_v_digested) H := hP1
          have hD : va_D A (cX7 cy a z41_v_s z41_v_aside (X7_kept v) (X7_isKept v) (X7_saved v) (X7_savedMany v) (X7_text v) (X7_length v) z14_v_thrown (X7_joint v) (X7_position v) (X7_isWrong v) z41_v_isHollow z37_v_sure z41_v_away z50_v_digested) := hD1.weaken (fun _ q _ h => hFc q.1 h)
          refine lv_iconst (v := 0) hx hb dX7_digest_53 (by decide) ?_
          refine lv_istore_n (lv' := [(1, .int 0), (0, .ref (a 0))]) hx hb dX7_digest_54 rfl hl (by decide) rfl (fun ls hl => ?_)
          exact J55 z41_v_away z41_v_isHollow z37_v_sure z14_v_thrown 0 z41_v_aside z50_v_digested z41_v_s _ _ _ hq hP hD hS (lv_sub hl [1, 0] rfl)
        · have hq := hqB c4
          refine lv_aload_n hx hb dX7_digest_20 rfl (lv_at hl 0 rfl) ?_
          refine lv_aload_n hx hb dX7_digest_21 rfl (lv_at hl 0 rfl) ?_
          refine lv_iload_n hx hb dX7_digest_22 rfl (lv_at hl 1 rfl) ?_
          have hFc := xfree_same hS hAe0 (ws := (cX7 cy a (X7_s v) (X7_aside v) (X7_kept v) (X7_isKept v) (X7_saved v) (X7_savedMany v) (X7_text v) (X7_length v) z14_v_thrown (X7_joint v) (X7_position v) (X7_isWrong v) z14_v_isHollow (X7_sure v) z14_v_away z14_v_digested)) hD
          refine va_calli (va_runV (As := [.int y14_1]) (rest := [.ref (a 0)]) ⟨hx, hb, hml, hown, hts⟩ (c_X7_counted l dC dI cy a _ ((X7_s v), (X7_aside v), (X7_kept v), (X7_isKept v), (X7_saved v), (X7_savedMany v), (X7_text v), (X7_length v), z14_v_thrown, (X7_joint v), (X7_position v), (X7_isWrong v), z14_v_isHollow, (X7_sure v), z14_v_away, z14_v_digested) y14_1 _ hq) (cwV 1 hts gX7_digest_X7_counted rfl rfl rfl (by decide +kernel) ⟨Nat.le_of_ble_eq_true rfl, Nat.le_of_ble_eq_true rfl⟩) ⟨xPre_blind, va_recv hK hP (ci := 7) (q0 := 0) rfl rfl, xPre_of hP hK hD⟩ rfl rfl hl.1 rfl (lv_room (Nat.le_of_ble_eq_true rfl)) dX7_digest_23 ⟨Nat.le_of_ble_eq_true rfl, Nat.le_of_ble_eq_true rfl⟩) hS (fun q _ h => hFc q h) hFc (fun r23 u9 t H locs ht hvm hq hB hz1 hk1 hS => ?_)
          obtain ⟨z23_v_away, z23_v_isHollow⟩ := u9
          obtain ⟨hP1, -, hD1⟩ := hB
          rw [ht] at hP1
          have hP : va_P (dC, dI) vwCl (cX7 cy a (X7_s v) (X7_aside v) (X7_kept v) (X7_isKept v) (X7_saved v) (X7_savedMany v) (X7_text v) (X7_length v) z14_v_thrown (X7_joint v) (X7_position v) (X7_isWrong v) z23_v_isHollow (X7_sure v) z23_v_away z14_v_digested) H := hP1
          have hD : va_D A (cX7 cy a (X7_s v) (X7_aside v) (X7_kept v) (X7_isKept v) (X7_saved v) (X7_savedMany v) (X7_text v) (X7_length v) z14_v_thrown (X7_joint v) (X7_position v) (X7_isWrong v) z23_v_isHollow (X7_sure v) z23_v_away z14_v_digested) := hD1.weaken (fun _ q _ h => hFc q.1 h)
          refine lv_i2l hx hb dX7_digest_26 rfl ?_
          have hFc := xfree_same hS hAe0 (ws := (cX7 cy a (X7_s v) (X7_aside v) (X7_kept v) (X7_isKept v) (X7_saved v) (X7_savedMany v) (X7_text v) (X7_length v) z14_v_thrown (X7_joint v) (X7_position v) (X7_isWrong v) z23_v_isHollow (X7_sure v) z23_v_away z14_v_digested)) hD
          refine va_callv (va_runV (As := [.long (r23.toInt64)]) (rest := []) ⟨hx, hb, hml, hown, hts⟩ (c_X7_digestOne l dC dI cy a _ ((X7_s v), (X7_aside v), (X7_kept v), (X7_isKept v), (X7_saved v), (X7_savedMany v), (X7_text v), (X7_length v), z14_v_thrown, (X7_joint v), (X7_position v), (X7_isWrong v), z23_v_isHollow, (X7_sure v), z23_v_away, z14_v_digested) (r23.toInt64) _ hq) (cwV 1 hts gX7_digest_X7_digestOne rfl rfl rfl (by decide +kernel) ⟨Nat.le_of_ble_eq_true rfl, Nat.le_of_ble_eq_true rfl⟩) ⟨xPre_blind, va_recv hK hP (ci := 7) (q0 := 0) rfl rfl, xPre_of hP hK hD⟩ rfl rfl hl.1 rfl (lv_room (Nat.le_of_ble_eq_true rfl)) dX7_digest_27 ⟨Nat.le_of_ble_eq_true rfl, Nat.le_of_ble_eq_true rfl⟩) hS (fun q _ h => hFc q h) hFc (fun z27_v_digested t H locs ht hvm hq hB hz1 hk1 hS => ?_)
          obtain ⟨hP1, -, hD1⟩ := hB
          rw [ht] at hP1
          have hP : va_P (dC, dI) vwCl (cX7 cy a (X7_s v) (X7_aside v) (X7_kept v) (X7_isKept v) (X7_saved v) (X7_savedMany v) (X7_text v) (X7_length v) z14_v_thrown (X7_joint v) (X7_position v) (X7_isWrong v) z23_v_isHollow (X7_sure v) z23_v_away z27_v_digested) H := hP1
          have hD : va_D A (cX7 cy a (X7_s v) (X7_aside v) (X7_kept v) (X7_isKept v) (X7_saved v) (X7_savedMany v) (X7_text v) (X7_length v) z14_v_thrown (X7_joint v) (X7_position v) (X7_isWrong v) z23_v_isHollow (X7_sure v) z23_v_away z27_v_digested) := hD1.weaken (fun _ q _ h => hFc q.1 h)
          refine lv_iinc (v := (y14_1 + 1)) (lv' := [(1, .int (y14_1 + 1)), (0, .ref (a 0))]) hx hb dX7_digest_30 hl (k := 1) rfl rfl (by decide) rfl (fun ls hl => ?_)
          refine lv_goto (tgt := 14) hx hb dX7_digest_33 (by decide) ?_
          exact bk14 (y14_1 + 1) z23_v_away z27_v_digested z23_v_isHollow _ _ _ hq hP hD hS (lv_sub hl [1, 0] rfl)
    exact key _ y14_1 z14_v_away z14_v_digested z14_v_isHollow H locs ls h0 (Nat.lt_succ_self _) hP hD hS hl
  refine lv_aload_n hx hb dX7_digest_0 rfl (lv_at hl 0 rfl) ?_
  refine lv_iconst (v := 0) hx hb dX7_digest_1 (by decide) ?_
  refine va_put (D := (dC, dI)) (ci := 7) (v := .int 0) (ty := .int) (C := RX7) (T := TX7) (N := 16) hx hb hts iK7 tyX7 tyX7_ok nmX7 hown hK hP hD hS 0 rfl rfl 8 (by decide) lk3 (fun _ h9 => h9) rfl (by decide +kernel) rfl rfl (Nat.le_of_ble_eq_true rfl) dX7_digest_2 (fun H locs hP hD hS => ?_)
  have hP : va_P (dC, dI) vwCl (cX7 cy a (X7_s v) (X7_aside v) (X7_kept v) (X7_isKept v) (X7_saved v) (X7_savedMany v) (X7_text v) (X7_length v) 0 (X7_joint v) (X7_position v) (X7_isWrong v) (X7_isHollow v) (X7_sure v) (X7_away v) (X7_digested v)) H := hP
  have hD : va_D A (cX7 cy a (X7_s v) (X7_aside v) (X7_kept v) (X7_isKept v) (X7_saved v) (X7_savedMany v) (X7_text v) (X7_length v) 0 (X7_joint v) (X7_position v) (X7_isWrong v) (X7_isHollow v) (X7_sure v) (X7_away v) (X7_digested v)) := hD
  refine lv_aload_n hx hb dX7_digest_5 rfl (lv_at hl 0 rfl) ?_
  refine lv_ldc2 (v := 3631) hx hb hown lk4 dX7_digest_6 ?_
  refine va_put (D := (dC, dI)) (ci := 7) (v := .long 3631) (ty := .long) (C := RX7) (T := TX7) (N := 16) hx hb hts iK7 tyX7 tyX7_ok nmX7 hown hK hP hD hS 0 rfl rfl 15 (by decide) lk1 (fun _ h9 => h9) rfl (by decide +kernel) rfl rfl (Nat.le_of_ble_eq_true rfl) dX7_digest_9 (fun H locs hP hD hS => ?_)
  have hP : va_P (dC, dI) vwCl (cX7 cy a (X7_s v) (X7_aside v) (X7_kept v) (X7_isKept v) (X7_saved v) (X7_savedMany v) (X7_text v) (X7_length v) 0 (X7_joint v) (X7_position v) (X7_isWrong v) (X7_isHollow v) (X7_sure v) (X7_away v) 3631) H := hP
  have hD : va_D A (cX7 cy a (X7_s v) (X7_aside v) (X7_kept v) (X7_isKept v) (X7_saved v) (X7_savedMany v) (X7_text v) (X7_length v) 0 (X7_joint v) (X7_position v) (X7_isWrong v) (X7_isHollow v) (X7_sure v) (X7_away v) 3631) := hD
  refine lv_iconst (v := 0) hx hb dX7_digest_12 (by decide) ?_
  refine lv_istore_n (lv' := [(1, .int 0), (0, .ref (a 0))]) hx hb dX7_digest_13 rfl hl (by decide) rfl (fun ls hl => ?_)
  exact J14 0 0 (X7_away v) 3631 (X7_isHollow v) _ _ _ hq hP hD hS (lv_sub hl [1, 0] rfl)
