def wb_X6_mostCrossed_6 (v : V_X6)  (y6_1 : Int32) (y6_2 : Int32) (y6_3 : Int32) (B6 : Int32 → Int32 → Int32 → Prop) (Q : Int32 → Prop) : Prop :=
  ((64 ≤ y6_3 → Q y6_1) ∧
  (¬ 64 ≤ y6_3 → vp_in y6_3 64 ∧ ((((X0_opened (X6_lawn v)) y6_3.toNatClampNeg) = 0 → ((((X4_crossings (X6_survey v)) y6_3.toNatClampNeg) ≤ y6_2 → B6 y6_1 y6_2 (y6_3 + 1)) ∧
  (¬ ((X4_crossings (X6_survey v)) y6_3.toNatClampNeg) ≤ y6_2 → B6 y6_3 ((X4_crossings (X6_survey v)) y6_3.toNatClampNeg) (y6_3 + 1)))) ∧
  (¬ ((X0_opened (X6_lawn v)) y6_3.toNatClampNeg) = 0 → B6 y6_1 y6_2 (y6_3 + 1)))))
def wp_X6_mostCrossed_6 (v : V_X6)  (y6_1 : Int32) (y6_2 : Int32) (y6_3 : Int32) (Q : Int32 → Prop) : Prop :=
  ∃ (I : Int32 → Int32 → Int32 → Prop) (μ : Int32 → Int32 → Int32 → Nat), I y6_1 y6_2 y6_3 ∧ ∀ (s0 : Int32) (s1 : Int32) (s2 : Int32), I s0 s1 s2 → wb_X6_mostCrossed_6 v  s0 s1 s2 (fun t0 t1 t2 => I t0 t1 t2 ∧ μ t0 t1 t2 < μ s0 s1 s2) Q
def wp_X6_mostCrossed (v : V_X6) (Q : Int32 → Prop) : Prop :=
  wp_X6_mostCrossed_6 v  (-1) 0 0 Q
def q_X6_mostCrossed (dC : Nat → ClassId) (dI : Nat → Nat → Nat) (cy : Nat → ClassId) (a : Nat → Nat) (v : V_X6) (Q : Int32 → Prop) (A : Nat → Prop) : Array Value → State → Outcome → State → Prop := va_Qi (fun (r : Int32) (u : Unit) => Q r ) (fun (u : Unit) t => xAt dC dI cy A (wX6 cy a v) t) A
set_option maxHeartbeats 4000000 in
set_option maxRecDepth 100000 in
theorem c_X6_mostCrossed (l : Launch) (dC : Nat → ClassId) (dI : Nat → Nat → Nat) (cy : Nat → ClassId) (a : Nat → Nat) (sz : Nat) (v : V_X6) (Q : Int32 → Prop) (hq : wp_X6_mostCrossed v Q) : Met l yX6_mostCrossed wsX6_mostCrossed ({ frames := 0, cells := 0, slots := 0, locals := 0 } : Room) (va_Pc [.ref (a 0)] (xPre dC dI cy (wX6 cy a v) sz)) (q_X6_mostCrossed dC dI cy a v Q (va_A (wX6 cy a v) sz)) 0 0 (va_A (wX6 cy a v) sz) := by
  refine Met.ofW (cc := cX6_mostCrossed) (maxL := 4) (ret := (some .int)) (by decide) rfl ?_
  intro p e s m args below meth c s₁ B hml hv
  obtain ⟨rfl, hsz, hP, hK, hD0⟩ := hv
  have hx := B.exec
  have hb := B.bytes
  have hr := B.returns
  have hts := atoms_spec (ws := wsX6_mostCrossed) B.pre
  have hown : s.vm.findClass RX6 = some m.cls := findClass_of_methodNamed B.named
  have hlocks := B.notSynchronized
  subst hsz
  have hD := hD0.self (sz := s.heap.size)
  generalize hAe : va_A (wX6 cy a v) s.heap.size = A at hD ⊢
  have hAe0 : ∀ q : Nat, s.heap.size ≤ q → A q := fun q h => by rw [← hAe]; exact Or.inr h
  have hS : va_S A s.heap s.heap [] := va_S.rf
  have hl := lv_entry ([.ref (a 0)]) (n := 4) (Nat.le_of_ble_eq_true rfl)
  rw [lg_entry_eq]
  generalize (lg_sl ([.ref (a 0)]) ++ List.replicate (4 - (lg_sl ([.ref (a 0)])).length) Slot.unset).toArray = ls at hl ⊢
  have hl : lv_has ls 4 [(0, .ref (a 0))] := hl
  have lk0 := hts (Cond.fieldLink RX6 15 "MolesLawn" "lawn" "LMolesLawn$Lawn;") (List.mem_cons_of_mem _ (List.mem_append_left _ (List.mem_append_left _ (List.mem_append_left _ (List.mem_of_getElem? (i := 0) rfl)))))
  have lk1 := hts (Cond.fieldLink RX6 294 "MolesLawn$Lawn" "opened" "[Z") (List.mem_cons_of_mem _ (List.mem_append_left _ (List.mem_append_left _ (List.mem_append_left _ (List.mem_of_getElem? (i := 1) rfl)))))
  have lk2 := hts (Cond.fieldLink RX6 41 "MolesLawn" "survey" "LMolesLawn$Survey;") (List.mem_cons_of_mem _ (List.mem_append_left _ (List.mem_append_left _ (List.mem_append_left _ (List.mem_of_getElem? (i := 2) rfl)))))
  have lk3 := hts (Cond.fieldLink RX6 300 "MolesLawn$Survey" "crossings" "[I") (List.mem_cons_of_mem _ (List.mem_append_left _ (List.mem_append_left _ (List.mem_append_left _ (List.mem_of_getElem? (i := 3) rfl)))))
  have iK0 : ∀ w ∈ wsX00, w ∈ wsX6_mostCrossed := fun _ h => (List.mem_cons_of_mem _ (List.mem_append_left _ (List.mem_append_right _ h)))
  have iK4 : ∀ w ∈ wsX40, w ∈ wsX6_mostCrossed := fun _ h => (List.mem_cons_of_mem _ (List.mem_append_right _ h))
  have iK6 : ∀ w ∈ wsX60, w ∈ wsX6_mostCrossed := fun _ h => (List.mem_cons_of_mem _ (List.mem_append_left _ (List.mem_append_left _ (List.mem_append_right _ h))))
  unfold wp_X6_mostCrossed at hq
  have J6 : ∀  (y6_1 : Int32) (y6_2 : Int32) (y6_3 : Int32) (H : Heap) (locs : List Loc) (ls : Array Slot), wp_X6_mostCrossed_6 v  y6_1 y6_2 y6_3 Q → va_P (dC, dI) vwCl (wX6 cy a v) H → va_D A (wX6 cy a v) → va_S A s.heap H locs → lv_has ls 4 [(0, .ref (a 0)), (1, .int y6_1), (2, .int y6_2), (3, .int y6_3)] → W p l e (headSpec wsX6_mostCrossed ({ frames := 0, cells := 0, slots := 0, locals := 0 } : Room)).room s m ([.ref (a 0)] : List Value).toArray below meth c H locs 0 0 (MQ below (q_X6_mostCrossed dC dI cy a v Q A) ([.ref (a 0)] : List Value).toArray s 0 0 A) (F0 m 6 ls []) := by
    intro  y6_1 y6_2 y6_3 H locs ls hq hP hD hS hl
    obtain ⟨I6, μ6, h0, hs6⟩ := hq
    have key : ∀ (n : Nat) (y6_1 : Int32) (y6_2 : Int32) (y6_3 : Int32) (H : Heap) (locs : List Loc) (ls : Array Slot), I6 y6_1 y6_2 y6_3 → μ6 y6_1 y6_2 y6_3 < n → va_P (dC, dI) vwCl (wX6 cy a v) H → va_D A (wX6 cy a v) → va_S A s.heap H locs → lv_has ls 4 [(0, .ref (a 0)), (1, .int y6_1), (2, .int y6_2), (3, .int y6_3)] → W p l e (headSpec wsX6_mostCrossed ({ frames := 0, cells := 0, slots := 0, locals := 0 } : Room)).room s m ([.ref (a 0)] : List Value).toArray below meth c H locs 0 0 (MQ below (q_X6_mostCrossed dC dI cy a v Q A) ([.ref (a 0)] : List Value).toArray s 0 0 A) (F0 m 6 ls []) := by
      intro n
      induction n with
      | zero => intro y6_1 y6_2 y6_3 H locs ls _ hm; exact absurd hm (Nat.not_lt_zero _)
      | succ n ih =>
        intro y6_1 y6_2 y6_3 H locs ls hI hm hP hD hS hl
        have hq := hs6 y6_1 y6_2 y6_3 hI
        generalize hB6 : (fun (t0 : Int32) (t1 : Int32) (t2 : Int32) => I6 t0 t1 t2 ∧ μ6 t0 t1 t2 < μ6 y6_1 y6_2 y6_3) = B6 at hq
        have bk6 : ∀ (y6_1 : Int32) (y6_2 : Int32) (y6_3 : Int32) (H : Heap) (locs : List Loc) (ls : Array Slot), B6 y6_1 y6_2 y6_3 → va_P (dC, dI) vwCl (wX6 cy a v) H → va_D A (wX6 cy a v) → va_S A s.heap H locs → lv_has ls 4 [(0, .ref (a 0)), (1, .int y6_1), (2, .int y6_2), (3, .int y6_3)] → W p l e (headSpec wsX6_mostCrossed ({ frames := 0, cells := 0, slots := 0, locals := 0 } : Room)).room s m ([.ref (a 0)] : List Value).toArray below meth c H locs 0 0 (MQ below (q_X6_mostCrossed dC dI cy a v Q A) ([.ref (a 0)] : List Value).toArray s 0 0 A) (F0 m 6 ls []) := by
          intro y6_1 y6_2 y6_3 H locs ls h
          rw [← hB6] at h
          exact ih y6_1 y6_2 y6_3 H locs ls h.1 (Nat.lt_of_lt_of_le h.2 (Nat.le_of_lt_succ hm))
        unfold wb_X6_mostCrossed_6 at hq
        refine lv_iload_n hx hb dX6_mostCrossed_6 rfl (lv_at hl 3 rfl) ?_
        refine lv_bipush (v := 64) hx hb dX6_mostCrossed_7 (by decide) ?_
        obtain ⟨hqA, hqB⟩ := hq
        refine lv_icmp_ge (tgt := 55) hx hb dX6_mostCrossed_9 (by decide) (fun c4 => ?_) (fun c4 => ?_)
        · have hq := hqA c4
          refine lv_iload_n hx hb dX6_mostCrossed_55 rfl (lv_at hl 1 rfl) ?_
          exact W.iret (v := y6_1) hx hb hr (fun t ht hW => ⟨⟨y6_1, (), rfl, hq, (xAt_of hP hK hD ht hW)⟩, hS.F ht⟩) hS.2.2 dX6_mostCrossed_56
        · have hq := hqB c4
          refine lv_aload_n hx hb dX6_mostCrossed_12 rfl (lv_at hl 0 rfl) ?_
          refine va_get (D := (dC, dI)) (ci := 6) (v := .ref (a 4)) (C := RX6) (T := TX6) (N := 9) hx hb hts iK6 hown hK hP 0 rfl rfl 0 (by decide) lk0 (fun _ h9 => h9) rfl dX6_mostCrossed_13 ?_
          refine va_get (D := (dC, dI)) (ci := 0) (v := .ref (a 6)) (C := RX0) (T := TX0) (N := 14) hx hb hts iK0 hown hK hP 4 rfl rfl 1 (by decide) lk1 (fun _ h9 => h9) rfl dX6_mostCrossed_16 ?_
          refine lv_iload_n hx hb dX6_mostCrossed_19 rfl (lv_at hl 3 rfl) ?_
          obtain ⟨g1, hq⟩ := hq
          refine va_zald hx hb hK hP 6 1 rfl rfl g1 dX6_mostCrossed_20 ?_
          obtain ⟨hqA, hqB⟩ := hq
          refine lv_if_ne (tgt := 49) hx hb dX6_mostCrossed_21 (by decide) (fun c3 => ?_) (fun c3 => ?_)
          · have hq := hqB c3
            refine lv_iinc (v := (y6_3 + 1)) (lv' := [(3, .int (y6_3 + 1)), (0, .ref (a 0)), (1, .int y6_1), (2, .int y6_2)]) hx hb dX6_mostCrossed_49 hl (k := 3) rfl rfl (by decide) rfl (fun ls hl => ?_)
            refine lv_goto (tgt := 6) hx hb dX6_mostCrossed_52 (by decide) ?_
            exact bk6 y6_1 y6_2 (y6_3 + 1) _ _ _ hq hP hD hS (lv_sub hl [1, 2, 3, 0] rfl)
          · have hq := hqA c3
            refine lv_aload_n hx hb dX6_mostCrossed_24 rfl (lv_at hl 0 rfl) ?_
            refine va_get (D := (dC, dI)) (ci := 6) (v := .ref (a 196)) (C := RX6) (T := TX6) (N := 9) hx hb hts iK6 hown hK hP 0 rfl rfl 5 (by decide) lk2 (fun _ h9 => h9) rfl dX6_mostCrossed_25 ?_
            refine va_get (D := (dC, dI)) (ci := 4) (v := .ref (a 198)) (C := RX4) (T := TX4) (N := 4) hx hb hts iK4 hown hK hP 196 rfl rfl 1 (by decide) lk3 (fun _ h9 => h9) rfl dX6_mostCrossed_28 ?_
            refine lv_iload_n hx hb dX6_mostCrossed_31 rfl (lv_at hl 3 rfl) ?_
            refine va_iald hx hb hK hP 198 0 rfl rfl g1 dX6_mostCrossed_32 ?_
            refine lv_iload_n hx hb dX6_mostCrossed_33 rfl (lv_at hl 2 rfl) ?_
            obtain ⟨hqA, hqB⟩ := hq
            refine lv_icmp_le (tgt := 49) hx hb dX6_mostCrossed_34 (by decide) (fun c2 => ?_) (fun c2 => ?_)
            · have hq := hqA c2
              refine lv_iinc (v := (y6_3 + 1)) (lv' := [(3, .int (y6_3 + 1)), (0, .ref (a 0)), (1, .int y6_1), (2, .int y6_2)]) hx hb dX6_mostCrossed_49 hl (k := 3) rfl rfl (by decide) rfl (fun ls hl => ?_)
              refine lv_goto (tgt := 6) hx hb dX6_mostCrossed_52 (by decide) ?_
              exact bk6 y6_1 y6_2 (y6_3 + 1) _ _ _ hq hP hD hS (lv_sub hl [1, 2, 3, 0] rfl)
            · have hq := hqB c2
              refine lv_aload_n hx hb dX6_mostCrossed_37 rfl (lv_at hl 0 rfl) ?_
              refine va_get (D := (dC, dI)) (ci := 6) (v := .ref (a 196)) (C := RX6) (T := TX6) (N := 9) hx hb hts iK6 hown hK hP 0 rfl rfl 5 (by decide) lk2 (fun _ h9 => h9) rfl dX6_mostCrossed_38 ?_
              refine va_get (D := (dC, dI)) (ci := 4) (v := .ref (a 198)) (C := RX4) (T := TX4) (N := 4) hx hb hts iK4 hown hK hP 196 rfl rfl 1 (by decide) lk3 (fun _ h9 => h9) rfl dX6_mostCrossed_41 ?_
              refine lv_iload_n hx hb dX6_mostCrossed_44 rfl (lv_at hl 3 rfl) ?_
              refine va_iald hx hb hK hP 198 0 rfl rfl g1 dX6_mostCrossed_45 ?_
              refine lv_istore_n (lv' := [(2, .int ((X4_crossings (X6_survey v)) y6_3.toNatClampNeg)), (0, .ref (a 0)), (1, .int y6_1), (3, .int y6_3)]) hx hb dX6_mostCrossed_46 rfl hl (by decide) rfl (fun ls hl => ?_)
              refine lv_iload_n hx hb dX6_mostCrossed_47 rfl (lv_at hl 3 rfl) ?_
              refine lv_istore_n (lv' := [(1, .int y6_3), (2, .int ((X4_crossings (X6_survey v)) y6_3.toNatClampNeg)), (0, .ref (a 0)), (3, .int y6_3)]) hx hb dX6_mostCrossed_48 rfl hl (by decide) rfl (fun ls hl => ?_)
              refine lv_iinc (v := (y6_3 + 1)) (lv' := [(3, .int (y6_3 + 1)), (1, .int y6_3), (2, .int ((X4_crossings (X6_survey v)) y6_3.toNatClampNeg)), (0, .ref (a 0))]) hx hb dX6_mostCrossed_49 hl (k := 3) rfl rfl (by decide) rfl (fun ls hl => ?_)
              refine lv_goto (tgt := 6) hx hb dX6_mostCrossed_52 (by decide) ?_
              exact bk6 y6_3 ((X4_crossings (X6_survey v)) y6_3.toNatClampNeg) (y6_3 + 1) _ _ _ hq hP hD hS (lv_sub hl [3, 1, 2, 0] rfl)
    exact key _ y6_1 y6_2 y6_3 H locs ls h0 (Nat.lt_succ_self _) hP hD hS hl
  refine lv_iconst (v := (-1)) hx hb dX6_mostCrossed_0 (by decide) ?_
  refine lv_istore_n (lv' := [(1, .int (-1)), (0, .ref (a 0))]) hx hb dX6_mostCrossed_1 rfl hl (by decide) rfl (fun ls hl => ?_)
  refine lv_iconst (v := 0) hx hb dX6_mostCrossed_2 (by decide) ?_
  refine lv_istore_n (lv' := [(2, .int 0), (1, .int (-1)), (0, .ref (a 0))]) hx hb dX6_mostCrossed_3 rfl hl (by decide) rfl (fun ls hl => ?_)
  refine lv_iconst (v := 0) hx hb dX6_mostCrossed_4 (by decide) ?_
  refine lv_istore_n (lv' := [(3, .int 0), (2, .int 0), (1, .int (-1)), (0, .ref (a 0))]) hx hb dX6_mostCrossed_5 rfl hl (by decide) rfl (fun ls hl => ?_)
  exact J6  (-1) 0 0 _ _ _ hq hP hD hS (lv_sub hl [3, 2, 1, 0] rfl)
