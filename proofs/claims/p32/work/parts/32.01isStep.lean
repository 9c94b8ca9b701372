def wp_L_isStep (x0 : Int32) (x1 : Int32) (Q : Int32 → Prop) : Prop :=
  ((((((x0 / 8) - (x1 / 8)) * ((x0 / 8) - (x1 / 8))) + (((x0 - x0 / 8 * 8) - (x1 - x1 / 8 * 8)) * ((x0 - x0 / 8 * 8) - (x1 - x1 / 8 * 8)))) = 1 → Q 1) ∧
  (¬ ((((x0 / 8) - (x1 / 8)) * ((x0 / 8) - (x1 / 8))) + (((x0 - x0 / 8 * 8) - (x1 - x1 / 8 * 8)) * ((x0 - x0 / 8 * 8) - (x1 - x1 / 8 * 8)))) = 1 → Q 0))
def q_L_isStep (dC : Nat → ClassId) (dI : Nat → Nat → Nat) (cy : Nat → ClassId)  (x0 : Int32) (x1 : Int32) (Q : Int32 → Prop) (A : Nat → Prop) : Array Value → State → Outcome → State → Prop := va_Qi (fun (r : Int32) (u : Unit) => Q r ) (fun (u : Unit) t => xAt dC dI cy A ([] : va_W) t) A
set_option maxHeartbeats 4000000 in
set_option maxRecDepth 100000 in
theorem c_L_isStep (l : Launch) (dC : Nat → ClassId) (dI : Nat → Nat → Nat) (cy : Nat → ClassId)  (sz : Nat) (x0 : Int32) (x1 : Int32) (Q : Int32 → Prop) (hq : wp_L_isStep x0 x1 Q) : Met l yL_isStep wsL_isStep ({ frames := 0, cells := 0, slots := 0, locals := 0 } : Room) (va_Pc [.int x0, .int x1] (xPre dC dI cy ([] : va_W) sz)) (q_L_isStep dC dI cy  x0 x1 Q (va_A ([] : va_W) sz)) 0 0 (va_A ([] : va_W) sz) := by
  refine Met.ofW (cc := cL_isStep) (maxL := 4) (ret := (some .boolean)) (by decide) rfl ?_
  intro p e s m args below meth c s₁ B hml hv
  obtain ⟨rfl, hsz, hP, hK, hD0⟩ := hv
  have hx := B.exec
  have hb := B.bytes
  have hr := B.returns
  have hts := atoms_spec (ws := wsL_isStep) B.pre
  have hown : s.vm.findClass RL = some m.cls := findClass_of_methodNamed B.named
  have hlocks := B.notSynchronized
  subst hsz
  have hD := hD0.self (sz := s.heap.size)
  generalize hAe : va_A ([] : va_W) s.heap.size = A at hD ⊢
  have hAe0 : ∀ q : Nat, s.heap.size ≤ q → A q := fun q h => by rw [← hAe]; exact Or.inr h
  have hS : va_S A s.heap s.heap [] := va_S.rf
  have hl := lv_entry ([.int x0, .int x1]) (n := 4) (Nat.le_of_ble_eq_true rfl)
  rw [lg_entry_eq]
  generalize (lg_sl ([.int x0, .int x1]) ++ List.replicate (4 - (lg_sl ([.int x0, .int x1])).length) Slot.unset).toArray = ls at hl ⊢
  have hl : lv_has ls 4 [(0, .int x0), (1, .int x1)] := hl
  unfold wp_L_isStep at hq
  refine lv_iload_n hx hb dL_isStep_0 rfl (lv_at hl 0 rfl) ?_
  refine lv_bipush (v := 8) hx hb dL_isStep_1 (by decide) ?_
  refine lv_idiv hx hb dL_isStep_3 (by decide) ?_
  refine lv_iload_n hx hb dL_isStep_4 rfl (lv_at hl 1 rfl) ?_
  refine lv_bipush (v := 8) hx hb dL_isStep_5 (by decide) ?_
  refine lv_idiv hx hb dL_isStep_7 (by decide) ?_
  refine lv_isub hx hb dL_isStep_8 ?_
  refine lv_istore_n (lv' := [(2, .int ((x0 / 8) - (x1 / 8))), (0, .int x0), (1, .int x1)]) hx hb dL_isStep_9 rfl hl (by decide) rfl (fun ls hl => ?_)
  refine lv_iload_n hx hb dL_isStep_10 rfl (lv_at hl 1 rfl) ?_
  refine lv_bipush (v := 8) hx hb dL_isStep_11 (by decide) ?_
  refine lv_irem hx hb dL_isStep_13 (by decide) ?_
  refine lv_iload_n hx hb dL_isStep_14 rfl (lv_at hl 2 rfl) ?_
  refine lv_bipush (v := 8) hx hb dL_isStep_15 (by decide) ?_
  refine lv_irem hx hb dL_isStep_17 (by decide) ?_
  refine lv_isub hx hb dL_isStep_18 ?_
  refine lv_istore_n (lv' := [(3, .int ((x0 - x0 / 8 * 8) - (x1 - x1 / 8 * 8))), (2, .int ((x0 / 8) - (x1 / 8))), (0, .int x0), (1, .int x1)]) hx hb dL_isStep_19 rfl hl (by decide) rfl (fun ls hl => ?_)
  refine lv_iload_n hx hb dL_isStep_20 rfl (lv_at hl 1 rfl) ?_
  refine lv_iload_n hx hb dL_isStep_21 rfl (lv_at hl 1 rfl) ?_
  refine lv_imul hx hb dL_isStep_22 ?_
  refine lv_iload_n hx hb dL_isStep_23 rfl (lv_at hl 0 rfl) ?_
  refine lv_iload_n hx hb dL_isStep_24 rfl (lv_at hl 0 rfl) ?_
  refine lv_imul hx hb dL_isStep_25 ?_
  refine lv_iadd hx hb dL_isStep_26 ?_
  refine lv_iconst (v := 1) hx hb dL_isStep_27 (by decide) ?_
  obtain ⟨hqA, hqB⟩ := hq
  refine lv_icmp_ne (tgt := 35) hx hb dL_isStep_28 (by decide) (fun c1 => ?_) (fun c1 => ?_)
  · have hq := hqB c1
    refine lv_iconst (v := 0) hx hb dL_isStep_35 (by decide) ?_
    exact W.zret (v := 0) hx hb hr rfl (fun t ht hW => ⟨⟨0, (), rfl, hq, (xAt_of hP hK hD ht hW)⟩, hS.F ht⟩) hS.2.2 dL_isStep_36
  · have hq := hqA c1
    refine lv_iconst (v := 1) hx hb dL_isStep_31 (by decide) ?_
    refine lv_goto (tgt := 36) hx hb dL_isStep_32 (by decide) ?_
    exact W.zret (v := 1) hx hb hr rfl (fun t ht hW => ⟨⟨1, (), rfl, hq, (xAt_of hP hK hD ht hW)⟩, hS.F ht⟩) hS.2.2 dL_isStep_36
