def wp_X6_checkMole (v : V_X6) (x1 : Int32) (Q : Prop) (QX : String → Prop) : Prop :=
  ((x1 < 0 → QX "java/lang/IndexOutOfBoundsException") ∧
  (¬ x1 < 0 → ((x1 < (X0_moleCount (X6_lawn v)) → Q) ∧
  (¬ x1 < (X0_moleCount (X6_lawn v)) → QX "java/lang/IndexOutOfBoundsException"))))
def q_X6_checkMole (dC : Nat → ClassId) (dI : Nat → Nat → Nat) (cy : Nat → ClassId) (a : Nat → Nat) (v : V_X6) (x1 : Int32) (Q : Prop) (A : Nat → Prop) : Array Value → State → Outcome → State → Prop := va_Qv (fun (u : Unit) => Q ) (fun (u : Unit) t => xAt dC dI cy A (wX6 cy a v) t) A
set_option maxHeartbeats 4000000 in
set_option maxRecDepth 100000 in
theorem c_X6_checkMole (l : Launch) (dC : Nat → ClassId) (dI : Nat → Nat → Nat) (cy : Nat → ClassId) (a : Nat → Nat) (sz : Nat) (v : V_X6) (x1 : Int32) (Q : Prop) (QX : String → Prop) (hl9 : l.stackTraces = false) (hq : wp_X6_checkMole v x1 Q QX) : vx_Met l yX6_checkMole wsX6_checkMole ({ frames := 6, cells := 1, slots := 6, locals := 102 } : Room) (va_Pc [.ref (a 0), .int x1] (xPreX dC dI cy (wX6 cy a v) sz)) (q_X6_checkMole dC dI cy a v x1 Q (va_A (wX6 cy a v) sz)) (xX dC dI cy (va_A (wX6 cy a v) sz) (wX6 cy a v) QX) 1 6 (va_A (wX6 cy a v) sz) := by
  refine vx_ofW (cc := cX6_checkMole) (maxL := 2) (ret := none) (by decide) rfl ?_
  intro p e s m args below meth c s₁ B hml hexc hv
  obtain ⟨rfl, hsz, hP, hK, hD0, hE⟩ := hv
  have hx := B.exec
  have hb := B.bytes
  have hr := B.returns
  have hts := atoms_spec (ws := wsX6_checkMole) B.pre
  have hown : s.vm.findClass RX6 = some m.cls := findClass_of_methodNamed B.named
  have hlocks := B.notSynchronized
  subst hsz
  have hD := hD0.self (sz := s.heap.size)
  generalize hAe : va_A (wX6 cy a v) s.heap.size = A at hD hE ⊢
  have hAe0 : ∀ q : Nat, s.heap.size ≤ q → A q := fun q h => by rw [← hAe]; exact Or.inr h
  have hS : va_S A s.heap s.heap [] := va_S.rf
  have hl := lv_entry ([.ref (a 0), .int x1]) (n := 2) (Nat.le_of_ble_eq_true rfl)
  rw [lg_entry_eq]
  generalize (lg_sl ([.ref (a 0), .int x1]) ++ List.replicate (2 - (lg_sl ([.ref (a 0), .int x1])).length) Slot.unset).toArray = ls at hl ⊢
  have hl : lv_has ls 2 [(0, .ref (a 0)), (1, .int x1)] := hl
  have lk0 := hts (Cond.classLink RX6 274 "java/lang/IndexOutOfBoundsException") (List.mem_cons_of_mem _ (List.mem_append_left _ (List.mem_append_left _ (List.mem_append_left _ (List.mem_of_getElem? (i := 0) rfl)))))
  have lk1 := hts (Cond.initialized "java/lang/IndexOutOfBoundsException") (List.mem_cons_of_mem _ (List.mem_append_left _ (List.mem_append_left _ (List.mem_append_left _ (List.mem_of_getElem? (i := 1) rfl)))))
  have lk2 := hts (Cond.fieldLink RX6 15 "MolesLawn" "lawn" "LMolesLawn$Lawn;") (List.mem_cons_of_mem _ (List.mem_append_left _ (List.mem_append_left _ (List.mem_append_left _ (List.mem_of_getElem? (i := 2) rfl)))))
  have lk3 := hts (Cond.fieldLink RX6 56 "MolesLawn$Lawn" "moleCount" "I") (List.mem_cons_of_mem _ (List.mem_append_left _ (List.mem_append_left _ (List.mem_append_left _ (List.mem_of_getElem? (i := 3) rfl)))))
  have iK0 : ∀ w ∈ wsX00, w ∈ wsX6_checkMole := fun _ h => (List.mem_cons_of_mem _ (List.mem_append_left _ (List.mem_append_right _ h)))
  have iK6 : ∀ w ∈ wsX60, w ∈ wsX6_checkMole := fun _ h => (List.mem_cons_of_mem _ (List.mem_append_left _ (List.mem_append_left _ (List.mem_append_right _ h))))
  unfold wp_X6_checkMole at hq
  refine lv_iload_n hx hb dX6_checkMole_0 rfl (lv_at hl 1 rfl) ?_
  obtain ⟨hqA, hqB⟩ := hq
  refine lv_if_lt (tgt := 15) hx hb dX6_checkMole_1 (by decide) (fun c2 => ?_) (fun c2 => ?_)
  · have hq := hqA c2
    obtain ⟨sa, hsa⟩ := hE.2.2.2.2.2 (279, "no such mole") (List.mem_of_getElem? (i := 15) rfl)
    exact vx_throwSW (cls := "java/lang/IndexOutOfBoundsException") (names := ["java/lang/RuntimeException", "java/lang/Exception"]) hx hb hl9 hown (by decide +kernel) (by decide +kernel) lk0 lk1 hsa (vx_hat (fun w h => hts w (List.mem_cons_of_mem _ (List.mem_append_right _ h))) xbad_278 (xhat hE (List.mem_of_getElem? (i := 0) rfl))) xok_274_278 hE.2.1 hE.2.2.1 hS (hl.1.trans hml.symm) dX6_checkMole_15 dX6_checkMole_18 dX6_checkMole_19 dX6_checkMole_22 dX6_checkMole_25 (fun x h => (hexc x h).elim) (Nat.le_of_ble_eq_true rfl) (Nat.le_of_ble_eq_true rfl) (Nat.le_of_ble_eq_true rfl) (Nat.le_of_ble_eq_true rfl) hlocks (xX_thr hP hK hD hS hq) hS.2.2 (Nat.le_of_ble_eq_true rfl) (Nat.le_of_ble_eq_true rfl)
  · have hq := hqB c2
    refine lv_iload_n hx hb dX6_checkMole_4 rfl (lv_at hl 1 rfl) ?_
    refine lv_aload_n hx hb dX6_checkMole_5 rfl (lv_at hl 0 rfl) ?_
    refine va_get (D := (dC, dI)) (ci := 6) (v := .ref (a 4)) (C := RX6) (T := TX6) (N := 9) hx hb hts iK6 hown hK hP 0 rfl rfl 0 (by decide) lk2 (fun _ h9 => h9) rfl dX6_checkMole_6 ?_
    refine va_get (D := (dC, dI)) (ci := 0) (v := .int (X0_moleCount (X6_lawn v))) (C := RX0) (T := TX0) (N := 14) hx hb hts iK0 hown hK hP 4 rfl rfl 7 (by decide) lk3 (fun _ h9 => h9) rfl dX6_checkMole_9 ?_
    obtain ⟨hqA, hqB⟩ := hq
    refine lv_icmp_lt (tgt := 26) hx hb dX6_checkMole_12 (by decide) (fun c1 => ?_) (fun c1 => ?_)
    · have hq := hqA c1
      refine vx_ret ?_
      refine W.widen (k := 1) (n := 6) (Nat.le_of_ble_eq_true rfl) (Nat.le_of_ble_eq_true rfl) ?_
      exact W.vret hx hb hr (fun t ht hW => ⟨⟨(), rfl, hq, (xAt_of hP hK hD ht hW)⟩, hS.F ht⟩) hS.2.2 dX6_checkMole_26
    · have hq := hqB c1
      obtain ⟨sa, hsa⟩ := hE.2.2.2.2.2 (279, "no such mole") (List.mem_of_getElem? (i := 15) rfl)
      exact vx_throwSW (cls := "java/lang/IndexOutOfBoundsException") (names := ["java/lang/RuntimeException", "java/lang/Exception"]) hx hb hl9 hown (by decide +kernel) (by decide +kernel) lk0 lk1 hsa (vx_hat (fun w h => hts w (List.mem_cons_of_mem _ (List.mem_append_right _ h))) xbad_278 (xhat hE (List.mem_of_getElem? (i := 0) rfl))) xok_274_278 hE.2.1 hE.2.2.1 hS (hl.1.trans hml.symm) dX6_checkMole_15 dX6_checkMole_18 dX6_checkMole_19 dX6_checkMole_22 dX6_checkMole_25 (fun x h => (hexc x h).elim) (Nat.le_of_ble_eq_true rfl) (Nat.le_of_ble_eq_true rfl) (Nat.le_of_ble_eq_true rfl) (Nat.le_of_ble_eq_true rfl) hlocks (xX_thr hP hK hD hS hq) hS.2.2 (Nat.le_of_ble_eq_true rfl) (Nat.le_of_ble_eq_true rfl)
