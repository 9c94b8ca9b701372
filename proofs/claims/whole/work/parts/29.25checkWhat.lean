def wp_X6_checkWhat (v : V_X6) (x1 : Int32) (x2 : Int32) (Q : Prop) (QX : String → Prop) : Prop :=
  ((x1 < 0 → QX "java/lang/IllegalArgumentException") ∧
  (¬ x1 < 0 → ((x1 ≤ x2 → Q) ∧
  (¬ x1 ≤ x2 → QX "java/lang/IllegalArgumentException"))))
def q_X6_checkWhat (dC : Nat → ClassId) (dI : Nat → Nat → Nat) (cy : Nat → ClassId) (a : Nat → Nat) (v : V_X6) (x1 : Int32) (x2 : Int32) (Q : Prop) (A : Nat → Prop) : Array Value → State → Outcome → State → Prop := va_Qv (fun (u : Unit) => Q ) (fun (u : Unit) t => xAt dC dI cy A (wX6 cy a v) t) A
set_option maxHeartbeats 4000000 in
set_option maxRecDepth 100000 in
theorem c_X6_checkWhat (l : Launch) (dC : Nat → ClassId) (dI : Nat → Nat → Nat) (cy : Nat → ClassId) (a : Nat → Nat) (sz : Nat) (v : V_X6) (x1 : Int32) (x2 : Int32) (Q : Prop) (QX : String → Prop) (hl9 : l.stackTraces = false) (hq : wp_X6_checkWhat v x1 x2 Q QX) : vx_Met l yX6_checkWhat wsX6_checkWhat ({ frames := 6, cells := 1, slots := 6, locals := 102 } : Room) (va_Pc [.ref (a 0), .int x1, .int x2] (xPreX dC dI cy (wX6 cy a v) sz)) (q_X6_checkWhat dC dI cy a v x1 x2 Q (va_A (wX6 cy a v) sz)) (xX dC dI cy (va_A (wX6 cy a v) sz) (wX6 cy a v) QX) 1 6 (va_A (wX6 cy a v) sz) := by
  refine vx_ofW (cc := cX6_checkWhat) (maxL := 3) (ret := none) (by decide) rfl ?_
  intro p e s m args below meth c s₁ B hml hexc hv
  obtain ⟨rfl, hsz, hP, hK, hD0, hE⟩ := hv
  have hx := B.exec
  have hb := B.bytes
  have hr := B.returns
  have hts := atoms_spec (ws := wsX6_checkWhat) B.pre
  have hown : s.vm.findClass RX6 = some m.cls := findClass_of_methodNamed B.named
  have hlocks := B.notSynchronized
  subst hsz
  have hD := hD0.self (sz := s.heap.size)
  generalize hAe : va_A (wX6 cy a v) s.heap.size = A at hD hE ⊢
  have hAe0 : ∀ q : Nat, s.heap.size ≤ q → A q := fun q h => by rw [← hAe]; exact Or.inr h
  have hS : va_S A s.heap s.heap [] := va_S.rf
  have hl := lv_entry ([.ref (a 0), .int x1, .int x2]) (n := 3) (Nat.le_of_ble_eq_true rfl)
  rw [lg_entry_eq]
  generalize (lg_sl ([.ref (a 0), .int x1, .int x2]) ++ List.replicate (3 - (lg_sl ([.ref (a 0), .int x1, .int x2])).length) Slot.unset).toArray = ls at hl ⊢
  have hl : lv_has ls 3 [(0, .ref (a 0)), (1, .int x1), (2, .int x2)] := hl
  have lk0 := hts (Cond.classLink RX6 81 "java/lang/IllegalArgumentException") (List.mem_cons_of_mem _ (List.mem_append_left _ (List.mem_of_getElem? (i := 0) rfl)))
  have lk1 := hts (Cond.initialized "java/lang/IllegalArgumentException") (List.mem_cons_of_mem _ (List.mem_append_left _ (List.mem_of_getElem? (i := 1) rfl)))
  unfold wp_X6_checkWhat at hq
  refine lv_iload_n hx hb dX6_checkWhat_0 rfl (lv_at hl 1 rfl) ?_
  obtain ⟨hqA, hqB⟩ := hq
  refine lv_if_lt (tgt := 9) hx hb dX6_checkWhat_1 (by decide) (fun c2 => ?_) (fun c2 => ?_)
  · have hq := hqA c2
    obtain ⟨sa, hsa⟩ := hE.2.2.2.2.2 (285, "no such number") (List.mem_of_getElem? (i := 18) rfl)
    exact vx_throwSW (cls := "java/lang/IllegalArgumentException") (names := ["java/lang/RuntimeException", "java/lang/Exception"]) hx hb hl9 hown (by decide +kernel) (by decide +kernel) lk0 lk1 hsa (vx_hat (fun w h => hts w (List.mem_cons_of_mem _ (List.mem_append_right _ h))) xbad_85 (xhat hE (List.mem_of_getElem? (i := 1) rfl))) xok_81_85 hE.2.1 hE.2.2.1 hS (hl.1.trans hml.symm) dX6_checkWhat_9 dX6_checkWhat_12 dX6_checkWhat_13 dX6_checkWhat_16 dX6_checkWhat_19 (fun x h => (hexc x h).elim) (Nat.le_of_ble_eq_true rfl) (Nat.le_of_ble_eq_true rfl) (Nat.le_of_ble_eq_true rfl) (Nat.le_of_ble_eq_true rfl) hlocks (xX_thr hP hK hD hS hq) hS.2.2 (Nat.le_of_ble_eq_true rfl) (Nat.le_of_ble_eq_true rfl)
  · have hq := hqB c2
    refine lv_iload_n hx hb dX6_checkWhat_4 rfl (lv_at hl 1 rfl) ?_
    refine lv_iload_n hx hb dX6_checkWhat_5 rfl (lv_at hl 2 rfl) ?_
    obtain ⟨hqA, hqB⟩ := hq
    refine lv_icmp_le (tgt := 20) hx hb dX6_checkWhat_6 (by decide) (fun c1 => ?_) (fun c1 => ?_)
    · have hq := hqA c1
      refine vx_ret ?_
      refine W.widen (k := 1) (n := 6) (Nat.le_of_ble_eq_true rfl) (Nat.le_of_ble_eq_true rfl) ?_
      exact W.vret hx hb hr (fun t ht hW => ⟨⟨(), rfl, hq, (xAt_of hP hK hD ht hW)⟩, hS.F ht⟩) hS.2.2 dX6_checkWhat_20
    · have hq := hqB c1
      obtain ⟨sa, hsa⟩ := hE.2.2.2.2.2 (285, "no such number") (List.mem_of_getElem? (i := 18) rfl)
      exact vx_throwSW (cls := "java/lang/IllegalArgumentException") (names := ["java/lang/RuntimeException", "java/lang/Exception"]) hx hb hl9 hown (by decide +kernel) (by decide +kernel) lk0 lk1 hsa (vx_hat (fun w h => hts w (List.mem_cons_of_mem _ (List.mem_append_right _ h))) xbad_85 (xhat hE (List.mem_of_getElem? (i := 1) rfl))) xok_81_85 hE.2.1 hE.2.2.1 hS (hl.1.trans hml.symm) dX6_checkWhat_9 dX6_checkWhat_12 dX6_checkWhat_13 dX6_checkWhat_16 dX6_checkWhat_19 (fun x h => (hexc x h).elim) (Nat.le_of_ble_eq_true rfl) (Nat.le_of_ble_eq_true rfl) (Nat.le_of_ble_eq_true rfl) (Nat.le_of_ble_eq_true rfl) hlocks (xX_thr hP hK hD hS hq) hS.2.2 (Nat.le_of_ble_eq_true rfl) (Nat.le_of_ble_eq_true rfl)
