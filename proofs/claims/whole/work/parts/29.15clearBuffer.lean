def wp_X6_clearBuffer (v : V_X6) (Q : Int32 → V_X5 → Prop) : Prop :=
  Q (X5_length (X6_text v)) (X5_s1 (X6_text v) 0)
def q_X6_clearBuffer (dC : Nat → ClassId) (dI : Nat → Nat → Nat) (cy : Nat → ClassId) (a : Nat → Nat) (v : V_X6) (Q : Int32 → V_X5 → Prop) (A : Nat → Prop) : Array Value → State → Outcome → State → Prop := va_Qi (fun (r : Int32) (u : V_X5) => Q r u) (fun (u : V_X5) t => xAt dC dI cy A (cX6 cy a (X6_lawn v) (X6_snapshot v) (X6_trial v) (X6_savedR v) (X6_saved v) u (X6_survey v) (X6_paths v) (X6_snapshotTaken v) (X6_savedCount v) (X6_spareR v)) t) A
set_option maxHeartbeats 4000000 in
set_option maxRecDepth 100000 in
theorem c_X6_clearBuffer (l : Launch) (dC : Nat → ClassId) (dI : Nat → Nat → Nat) (cy : Nat → ClassId) (a : Nat → Nat) (sz : Nat) (v : V_X6) (Q : Int32 → V_X5 → Prop) (hq : wp_X6_clearBuffer v Q) : Met l yX6_clearBuffer wsX6_clearBuffer ({ frames := 0, cells := 0, slots := 0, locals := 0 } : Room) (va_Pc [.ref (a 0)] (xPre dC dI cy (wX6 cy a v) sz)) (q_X6_clearBuffer dC dI cy a v Q (va_A (wX6 cy a v) sz)) 0 0 (va_A (wX6 cy a v) sz) := by
  refine Met.ofW (cc := cX6_clearBuffer) (maxL := 2) (ret := (some .int)) (by decide) rfl ?_
  intro p e s m args below meth c s₁ B hml hv
  obtain ⟨rfl, hsz, hP, hK, hD0⟩ := hv
  have hx := B.exec
  have hb := B.bytes
  have hr := B.returns
  have hts := atoms_spec (ws := wsX6_clearBuffer) B.pre
  have hown : s.vm.findClass RX6 = some m.cls := findClass_of_methodNamed B.named
  have hlocks := B.notSynchronized
  subst hsz
  have hD := hD0.self (sz := s.heap.size)
  generalize hAe : va_A (wX6 cy a v) s.heap.size = A at hD ⊢
  have hAe0 : ∀ q : Nat, s.heap.size ≤ q → A q := fun q h => by rw [← hAe]; exact Or.inr h
  have hS : va_S A s.heap s.heap [] := va_S.rf
  have hl := lv_entry ([.ref (a 0)]) (n := 2) (Nat.le_of_ble_eq_true rfl)
  rw [lg_entry_eq]
  generalize (lg_sl ([.ref (a 0)]) ++ List.replicate (2 - (lg_sl ([.ref (a 0)])).length) Slot.unset).toArray = ls at hl ⊢
  have hl : lv_has ls 2 [(0, .ref (a 0))] := hl
  have lk0 := hts (Cond.fieldLink RX6 34 "MolesLawn" "text" "LMolesLawn$Text;") (List.mem_cons_of_mem _ (List.mem_append_left _ (List.mem_append_left _ (List.mem_of_getElem? (i := 0) rfl))))
  have lk1 := hts (Cond.fieldLink RX6 148 "MolesLawn$Text" "length" "I") (List.mem_cons_of_mem _ (List.mem_append_left _ (List.mem_append_left _ (List.mem_of_getElem? (i := 1) rfl))))
  have iK5 : ∀ w ∈ wsX50, w ∈ wsX6_clearBuffer := fun _ h => (List.mem_cons_of_mem _ (List.mem_append_right _ h))
  have iK6 : ∀ w ∈ wsX60, w ∈ wsX6_clearBuffer := fun _ h => (List.mem_cons_of_mem _ (List.mem_append_left _ (List.mem_append_right _ h)))
  unfold wp_X6_clearBuffer at hq
  refine lv_aload_n hx hb dX6_clearBuffer_0 rfl (lv_at hl 0 rfl) ?_
  refine va_get (D := (dC, dI)) (ci := 6) (v := .ref (a 194)) (C := RX6) (T := TX6) (N := 9) hx hb hts iK6 hown hK hP 0 rfl rfl 4 (by decide) lk0 (fun _ h9 => h9) rfl dX6_clearBuffer_1 ?_
  refine va_get (D := (dC, dI)) (ci := 5) (v := .int (X5_length (X6_text v))) (C := RX5) (T := TX5) (N := 2) hx hb hts iK5 hown hK hP 194 rfl rfl 1 (by decide) lk1 (fun _ h9 => h9) rfl dX6_clearBuffer_4 ?_
  refine lv_istore_n (lv' := [(1, .int (X5_length (X6_text v))), (0, .ref (a 0))]) hx hb dX6_clearBuffer_7 rfl hl (by decide) rfl (fun ls hl => ?_)
  refine lv_aload_n hx hb dX6_clearBuffer_8 rfl (lv_at hl 1 rfl) ?_
  refine va_get (D := (dC, dI)) (ci := 6) (v := .ref (a 194)) (C := RX6) (T := TX6) (N := 9) hx hb hts iK6 hown hK hP 0 rfl rfl 4 (by decide) lk0 (fun _ h9 => h9) rfl dX6_clearBuffer_9 ?_
  refine lv_iconst (v := 0) hx hb dX6_clearBuffer_12 (by decide) ?_
  refine va_put (D := (dC, dI)) (ci := 5) (v := .int 0) (ty := .int) (C := RX5) (T := TX5) (N := 2) hx hb hts iK5 tyX5 tyX5_ok nmX5 hown hK hP hD hS 194 rfl rfl 1 (by decide) lk1 (fun _ h9 => h9) rfl (by decide +kernel) rfl rfl (Nat.le_of_ble_eq_true rfl) dX6_clearBuffer_13 (fun H locs hP hD hS => ?_)
  have hP : va_P (dC, dI) vwCl (cX6 cy a (X6_lawn v) (X6_snapshot v) (X6_trial v) (X6_savedR v) (X6_saved v) ((X5_codes (X6_text v)), 0) (X6_survey v) (X6_paths v) (X6_snapshotTaken v) (X6_savedCount v) (X6_spareR v)) H := hP
  have hD : va_D A (cX6 cy a (X6_lawn v) (X6_snapshot v) (X6_trial v) (X6_savedR v) (X6_saved v) ((X5_codes (X6_text v)), 0) (X6_survey v) (X6_paths v) (X6_snapshotTaken v) (X6_savedCount v) (X6_spareR v)) := hD
  refine lv_iload_n hx hb dX6_clearBuffer_16 rfl (lv_at hl 0 rfl) ?_
  exact W.iret (v := (X5_length (X6_text v))) hx hb hr (fun t ht hW => ⟨⟨(X5_length (X6_text v)), (X5_s1 (X6_text v) 0), rfl, hq, (xAt_of hP hK hD ht hW)⟩, hS.F ht⟩) hS.2.2 dX6_clearBuffer_17
