def wp_X6_numberOfTrial (v : V_X6) (x1 : Int32) (Q : Int32 → Prop) : Prop :=
  ((x1 = 0 → Q ((X0_risen (X6_trial v)) - (X0_risen (X6_lawn v)))) ∧
  (¬ x1 = 0 → ((x1 = 1 → Q (X3_size (X0_tunnels (X6_trial v)))) ∧
  (¬ x1 = 1 → Q ((X0_caught (X6_trial v)) - (X0_caught (X6_lawn v)))))))
def q_X6_numberOfTrial (dC : Nat → ClassId) (dI : Nat → Nat → Nat) (cy : Nat → ClassId) (a : Nat → Nat) (v : V_X6) (x1 : Int32) (Q : Int32 → Prop) (A : Nat → Prop) : Array Value → State → Outcome → State → Prop := va_Qi (fun (r : Int32) (u : Unit) => Q r ) (fun (u : Unit) t => xAt dC dI cy A (wX6 cy a v) t) A
set_option maxHeartbeats 4000000 in
set_option maxRecDepth 100000 in
theorem c_X6_numberOfTrial (l : Launch) (dC : Nat → ClassId) (dI : Nat → Nat → Nat) (cy : Nat → ClassId) (a : Nat → Nat) (sz : Nat) (v : V_X6) (x1 : Int32) (Q : Int32 → Prop) (hq : wp_X6_numberOfTrial v x1 Q) : Met l yX6_numberOfTrial wsX6_numberOfTrial ({ frames := 0, cells := 0, slots := 0, locals := 0 } : Room) (va_Pc [.ref (a 0), .int x1] (xPre dC dI cy (wX6 cy a v) sz)) (q_X6_numberOfTrial dC dI cy a v x1 Q (va_A (wX6 cy a v) sz)) 0 0 (va_A (wX6 cy a v) sz) := by
  refine Met.ofW (cc := cX6_numberOfTrial) (maxL := 2) (ret := (some .int)) (by decide) rfl ?_
  intro p e s m args below meth c s₁ B hml hv
  obtain ⟨rfl, hsz, hP, hK, hD0⟩ := hv
  have hx := B.exec
  have hb := B.bytes
  have hr := B.returns
  have hts := atoms_spec (ws := wsX6_numberOfTrial) B.pre
  have hown : s.vm.findClass RX6 = some m.cls := findClass_of_methodNamed B.named
  have hlocks := B.notSynchronized
  subst hsz
  have hD := hD0.self (sz := s.heap.size)
  generalize hAe : va_A (wX6 cy a v) s.heap.size = A at hD ⊢
  have hAe0 : ∀ q : Nat, s.heap.size ≤ q → A q := fun q h => by rw [← hAe]; exact Or.inr h
  have hS : va_S A s.heap s.heap [] := va_S.rf
  have hl := lv_entry ([.ref (a 0), .int x1]) (n := 2) (Nat.le_of_ble_eq_true rfl)
  rw [lg_entry_eq]
  generalize (lg_sl ([.ref (a 0), .int x1]) ++ List.replicate (2 - (lg_sl ([.ref (a 0), .int x1])).length) Slot.unset).toArray = ls at hl ⊢
  have hl : lv_has ls 2 [(0, .ref (a 0)), (1, .int x1)] := hl
  have lk0 := hts (Cond.fieldLink RX6 24 "MolesLawn" "trial" "LMolesLawn$Lawn;") (List.mem_cons_of_mem _ (List.mem_append_left _ (List.mem_append_left _ (List.mem_append_left _ (List.mem_of_getElem? (i := 0) rfl)))))
  have lk1 := hts (Cond.fieldLink RX6 103 "MolesLawn$Lawn" "risen" "I") (List.mem_cons_of_mem _ (List.mem_append_left _ (List.mem_append_left _ (List.mem_append_left _ (List.mem_of_getElem? (i := 1) rfl)))))
  have lk2 := hts (Cond.fieldLink RX6 15 "MolesLawn" "lawn" "LMolesLawn$Lawn;") (List.mem_cons_of_mem _ (List.mem_append_left _ (List.mem_append_left _ (List.mem_append_left _ (List.mem_of_getElem? (i := 2) rfl)))))
  have lk3 := hts (Cond.fieldLink RX6 187 "MolesLawn$Lawn" "tunnels" "LMolesLawn$Rows;") (List.mem_cons_of_mem _ (List.mem_append_left _ (List.mem_append_left _ (List.mem_append_left _ (List.mem_of_getElem? (i := 3) rfl)))))
  have lk4 := hts (Cond.fieldLink RX6 191 "MolesLawn$Rows" "size" "I") (List.mem_cons_of_mem _ (List.mem_append_left _ (List.mem_append_left _ (List.mem_append_left _ (List.mem_of_getElem? (i := 4) rfl)))))
  have lk5 := hts (Cond.fieldLink RX6 309 "MolesLawn$Lawn" "caught" "I") (List.mem_cons_of_mem _ (List.mem_append_left _ (List.mem_append_left _ (List.mem_append_left _ (List.mem_of_getElem? (i := 5) rfl)))))
  have iK0 : ∀ w ∈ wsX00, w ∈ wsX6_numberOfTrial := fun _ h => (List.mem_cons_of_mem _ (List.mem_append_left _ (List.mem_append_right _ h)))
  have iK3 : ∀ w ∈ wsX30, w ∈ wsX6_numberOfTrial := fun _ h => (List.mem_cons_of_mem _ (List.mem_append_right _ h))
  have iK6 : ∀ w ∈ wsX60, w ∈ wsX6_numberOfTrial := fun _ h => (List.mem_cons_of_mem _ (List.mem_append_left _ (List.mem_append_left _ (List.mem_append_right _ h))))
  unfold wp_X6_numberOfTrial at hq
  refine lv_iload_n hx hb dX6_numberOfTrial_0 rfl (lv_at hl 1 rfl) ?_
  obtain ⟨hqA, hqB⟩ := hq
  by_cases n0 : x1 = 0
  · have hq := hqA n0
    refine lv_lookup (tgt := 28) (off := 27) hx hb dX6_numberOfTrial_1 (by decide) (by rw [n0]; decide) (by decide) ?_
    refine lv_aload_n hx hb dX6_numberOfTrial_28 rfl (lv_at hl 0 rfl) ?_
    refine va_get (D := (dC, dI)) (ci := 6) (v := .ref (a 46)) (C := RX6) (T := TX6) (N := 9) hx hb hts iK6 hown hK hP 0 rfl rfl 2 (by decide) lk0 (fun _ h9 => h9) rfl dX6_numberOfTrial_29 ?_
    refine va_get (D := (dC, dI)) (ci := 0) (v := .int (X0_risen (X6_trial v))) (C := RX0) (T := TX0) (N := 14) hx hb hts iK0 hown hK hP 46 rfl rfl 12 (by decide) lk1 (fun _ h9 => h9) rfl dX6_numberOfTrial_32 ?_
    refine lv_aload_n hx hb dX6_numberOfTrial_35 rfl (lv_at hl 0 rfl) ?_
    refine va_get (D := (dC, dI)) (ci := 6) (v := .ref (a 4)) (C := RX6) (T := TX6) (N := 9) hx hb hts iK6 hown hK hP 0 rfl rfl 0 (by decide) lk2 (fun _ h9 => h9) rfl dX6_numberOfTrial_36 ?_
    refine va_get (D := (dC, dI)) (ci := 0) (v := .int (X0_risen (X6_lawn v))) (C := RX0) (T := TX0) (N := 14) hx hb hts iK0 hown hK hP 4 rfl rfl 12 (by decide) lk1 (fun _ h9 => h9) rfl dX6_numberOfTrial_39 ?_
    refine lv_isub hx hb dX6_numberOfTrial_42 ?_
    exact W.iret (v := ((X0_risen (X6_trial v)) - (X0_risen (X6_lawn v)))) hx hb hr (fun t ht hW => ⟨⟨((X0_risen (X6_trial v)) - (X0_risen (X6_lawn v))), (), rfl, hq, (xAt_of hP hK hD ht hW)⟩, hS.F ht⟩) hS.2.2 dX6_numberOfTrial_43
  · have hq := hqB n0
    obtain ⟨hqA, hqB⟩ := hq
    by_cases n1 : x1 = 1
    · have hq := hqA n1
      refine lv_lookup (tgt := 44) (off := 43) hx hb dX6_numberOfTrial_1 (by decide) (by rw [n1]; decide) (by decide) ?_
      refine lv_aload_n hx hb dX6_numberOfTrial_44 rfl (lv_at hl 0 rfl) ?_
      refine va_get (D := (dC, dI)) (ci := 6) (v := .ref (a 46)) (C := RX6) (T := TX6) (N := 9) hx hb hts iK6 hown hK hP 0 rfl rfl 2 (by decide) lk0 (fun _ h9 => h9) rfl dX6_numberOfTrial_45 ?_
      refine va_get (D := (dC, dI)) (ci := 0) (v := .ref (a 51)) (C := RX0) (T := TX0) (N := 14) hx hb hts iK0 hown hK hP 46 rfl rfl 4 (by decide) lk3 (fun _ h9 => h9) rfl dX6_numberOfTrial_48 ?_
      refine va_get (D := (dC, dI)) (ci := 3) (v := .int (X3_size (X0_tunnels (X6_trial v)))) (C := RX3) (T := TX3) (N := 4) hx hb hts iK3 hown hK hP 51 rfl rfl 3 (by decide) lk4 (fun _ h9 => h9) rfl dX6_numberOfTrial_51 ?_
      exact W.iret (v := (X3_size (X0_tunnels (X6_trial v)))) hx hb hr (fun t ht hW => ⟨⟨(X3_size (X0_tunnels (X6_trial v))), (), rfl, hq, (xAt_of hP hK hD ht hW)⟩, hS.F ht⟩) hS.2.2 dX6_numberOfTrial_54
    · have hq := hqB n1
      refine lv_lookup (tgt := 55) (off := 54) hx hb dX6_numberOfTrial_1 (by decide) (by show Op.lookupswitch.offset [(0, 27), (1, 43)] 54 _ = _; rw [lv_osw n0 (show (0 : Int32).toInt = 0 from by decide)]; rw [lv_osw n1 (show (1 : Int32).toInt = 1 from by decide)]; rfl) (by decide) ?_
      refine lv_aload_n hx hb dX6_numberOfTrial_55 rfl (lv_at hl 0 rfl) ?_
      refine va_get (D := (dC, dI)) (ci := 6) (v := .ref (a 46)) (C := RX6) (T := TX6) (N := 9) hx hb hts iK6 hown hK hP 0 rfl rfl 2 (by decide) lk0 (fun _ h9 => h9) rfl dX6_numberOfTrial_56 ?_
      refine va_get (D := (dC, dI)) (ci := 0) (v := .int (X0_caught (X6_trial v))) (C := RX0) (T := TX0) (N := 14) hx hb hts iK0 hown hK hP 46 rfl rfl 10 (by decide) lk5 (fun _ h9 => h9) rfl dX6_numberOfTrial_59 ?_
      refine lv_aload_n hx hb dX6_numberOfTrial_62 rfl (lv_at hl 0 rfl) ?_
      refine va_get (D := (dC, dI)) (ci := 6) (v := .ref (a 4)) (C := RX6) (T := TX6) (N := 9) hx hb hts iK6 hown hK hP 0 rfl rfl 0 (by decide) lk2 (fun _ h9 => h9) rfl dX6_numberOfTrial_63 ?_
      refine va_get (D := (dC, dI)) (ci := 0) (v := .int (X0_caught (X6_lawn v))) (C := RX0) (T := TX0) (N := 14) hx hb hts iK0 hown hK hP 4 rfl rfl 10 (by decide) lk5 (fun _ h9 => h9) rfl dX6_numberOfTrial_66 ?_
      refine lv_isub hx hb dX6_numberOfTrial_69 ?_
      exact W.iret (v := ((X0_caught (X6_trial v)) - (X0_caught (X6_lawn v)))) hx hb hr (fun t ht hW => ⟨⟨((X0_caught (X6_trial v)) - (X0_caught (X6_lawn v))), (), rfl, hq, (xAt_of hP hK hD ht hW)⟩, hS.F ht⟩) hS.2.2 dX6_numberOfTrial_70
