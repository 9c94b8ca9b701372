def wp_L_low (x0 : Int32) (x1 : Int32) (Q : Int32 → Prop) : Prop :=
  ¬ x1 = 0 ∧ Q ((x0 &&& 2147483647) - (x0 &&& 2147483647) / x1 * x1)
def q_L_low (dC : Nat → ClassId) (dI : Nat → Nat → Nat) (cy : Nat → ClassId)  (x0 : Int32) (x1 : Int32) (Q : Int32 → Prop) (A : Nat → Prop) : Array Value → State → Outcome → State → Prop := va_Qi (fun (r : Int32) (u : Unit) => Q r ) (fun (u : Unit) t => xAt dC dI cy A ([] : va_W) t) A
set_option maxHeartbeats 4000000 in
set_option maxRecDepth 100000 in
theorem c_L_low (l : Launch) (dC : Nat → ClassId) (dI : Nat → Nat → Nat) (cy : Nat → ClassId)  (sz : Nat) (x0 : Int32) (x1 : Int32) (Q : Int32 → Prop) (hq : wp_L_low x0 x1 Q) : Met l yL_low wsL_low ({ frames := 0, cells := 0, slots := 0, locals := 0 } : Room) (va_Pc [.int x0, .int x1] (xPre dC dI cy ([] : va_W) sz)) (q_L_low dC dI cy  x0 x1 Q (va_A ([] : va_W) sz)) 0 0 (va_A ([] : va_W) sz) := by
  refine Met.ofW (cc := cL_low) (maxL := 2) (ret := (some .int)) (by decide) rfl ?_
  intro p e s m args below meth c s₁ B hml hv
  obtain ⟨rfl, hsz, hP, hK, hD0⟩ := hv
  have hx := B.exec
  have hb := B.bytes
  have hr := B.returns
  have hts := atoms_spec (ws := wsL_low) B.pre
  have hown : s.vm.findClass RL = some m.cls := findClass_of_methodNamed B.named
  have hlocks := B.notSynchronized
  subst hsz
  have hD := hD0.self (sz := s.heap.size)
  generalize hAe : va_A ([] : va_W) s.heap.size = A at hD ⊢
  have hAe0 : ∀ q : Nat, s.heap.size ≤ q → A q := fun q h => by rw [← hAe]; exact Or.inr h
  have hS : va_S A s.heap s.heap [] := va_S.rf
  have hl := lv_entry ([.int x0, .int x1]) (n := 2) (Nat.le_of_ble_eq_true rfl)
  rw [lg_entry_eq]
  generalize (lg_sl ([.int x0, .int x1]) ++ List.replicate (2 - (lg_sl ([.int x0, .int x1])).length) Slot.unset).toArray = ls at hl ⊢
  have hl : lv_has ls 2 [(0, .int x0), (1, .int x1)] := hl
  have lk0 := hts (Cond.constant RL 8 (2147483647)) (List.mem_cons_of_mem _ (List.mem_of_getElem? (i := 0) rfl))
  unfold wp_L_low at hq
  refine lv_iload_n hx hb dL_low_0 rfl (lv_at hl 0 rfl) ?_
  refine lv_ldc (v := 2147483647) hx hb hown lk0 dL_low_1 ?_
  refine lv_iand hx hb dL_low_3 ?_
  refine lv_iload_n hx hb dL_low_4 rfl (lv_at hl 1 rfl) ?_
  obtain ⟨g1, hq⟩ := hq
  refine lv_irem hx hb dL_low_5 g1 ?_
  exact W.iret (v := ((x0 &&& 2147483647) - (x0 &&& 2147483647) / x1 * x1)) hx hb hr (fun t ht hW => ⟨⟨((x0 &&& 2147483647) - (x0 &&& 2147483647) / x1 * x1), (), rfl, hq, (xAt_of hP hK hD ht hW)⟩, hS.F ht⟩) hS.2.2 dL_low_6
