abbrev V_X7 : Type := (Nat → Int32) × (Nat → Int32) × (Nat → Int32) × Int32 × (Nat → Int32) × Int32 × (Nat → Int32) × Int32 × Int32 × (Nat → Int32) × Int32 × Int32 × (Nat → Int32) × (Nat → Int32) × (Nat → Int32) × Int64
abbrev X7_s (v : V_X7) : Nat → Int32 := v.1
abbrev X7_aside (v : V_X7) : Nat → Int32 := v.2.1
abbrev X7_kept (v : V_X7) : Nat → Int32 := v.2.2.1
abbrev X7_isKept (v : V_X7) : Int32 := v.2.2.2.1
abbrev X7_saved (v : V_X7) : Nat → Int32 := v.2.2.2.2.1
abbrev X7_savedMany (v : V_X7) : Int32 := v.2.2.2.2.2.1
abbrev X7_text (v : V_X7) : Nat → Int32 := v.2.2.2.2.2.2.1
abbrev X7_length (v : V_X7) : Int32 := v.2.2.2.2.2.2.2.1
abbrev X7_thrown (v : V_X7) : Int32 := v.2.2.2.2.2.2.2.2.1
abbrev X7_joint (v : V_X7) : Nat → Int32 := v.2.2.2.2.2.2.2.2.2.1
abbrev X7_position (v : V_X7) : Int32 := v.2.2.2.2.2.2.2.2.2.2.1
abbrev X7_isWrong (v : V_X7) : Int32 := v.2.2.2.2.2.2.2.2.2.2.2.1
abbrev X7_isHollow (v : V_X7) : Nat → Int32 := v.2.2.2.2.2.2.2.2.2.2.2.2.1
abbrev X7_sure (v : V_X7) : Nat → Int32 := v.2.2.2.2.2.2.2.2.2.2.2.2.2.1
abbrev X7_away (v : V_X7) : Nat → Int32 := v.2.2.2.2.2.2.2.2.2.2.2.2.2.2.1
abbrev X7_digested (v : V_X7) : Int64 := v.2.2.2.2.2.2.2.2.2.2.2.2.2.2.2
abbrev X7_s0 (v : V_X7) (x : Nat → Int32) : V_X7 := (x, v.2.1, v.2.2.1, v.2.2.2.1, v.2.2.2.2.1, v.2.2.2.2.2.1, v.2.2.2.2.2.2.1, v.2.2.2.2.2.2.2.1, v.2.2.2.2.2.2.2.2.1, v.2.2.2.2.2.2.2.2.2.1, v.2.2.2.2.2.2.2.2.2.2.1, v.2.2.2.2.2.2.2.2.2.2.2.1, v.2.2.2.2.2.2.2.2.2.2.2.2.1, v.2.2.2.2.2.2.2.2.2.2.2.2.2.1, v.2.2.2.2.2.2.2.2.2.2.2.2.2.2.1, v.2.2.2.2.2.2.2.2.2.2.2.2.2.2.2)
abbrev X7_s1 (v : V_X7) (x : Nat → Int32) : V_X7 := (v.1, x, v.2.2.1, v.2.2.2.1, v.2.2.2.2.1, v.2.2.2.2.2.1, v.2.2.2.2.2.2.1, v.2.2.2.2.2.2.2.1, v.2.2.2.2.2.2.2.2.1, v.2.2.2.2.2.2.2.2.2.1, v.2.2.2.2.2.2.2.2.2.2.1, v.2.2.2.2.2.2.2.2.2.2.2.1, v.2.2.2.2.2.2.2.2.2.2.2.2.1, v.2.2.2.2.2.2.2.2.2.2.2.2.2.1, v.2.2.2.2.2.2.2.2.2.2.2.2.2.2.1, v.2.2.2.2.2.2.2.2.2.2.2.2.2.2.2)
abbrev X7_s2 (v : V_X7) (x : Nat → Int32) : V_X7 := (v.1, v.2.1, x, v.2.2.2.1, v.2.2.2.2.1, v.2.2.2.2.2.1, v.2.2.2.2.2.2.1, v.2.2.2.2.2.2.2.1, v.2.2.2.2.2.2.2.2.1, v.2.2.2.2.2.2.2.2.2.1, v.2.2.2.2.2.2.2.2.2.2.1, v.2.2.2.2.2.2.2.2.2.2.2.1, v.2.2.2.2.2.2.2.2.2.2.2.2.1, v.2.2.2.2.2.2.2.2.2.2.2.2.2.1, v.2.2.2.2.2.2.2.2.2.2.2.2.2.2.1, v.2.2.2.2.2.2.2.2.2.2.2.2.2.2.2)
abbrev X7_s3 (v : V_X7) (x : Int32) : V_X7 := (v.1, v.2.1, v.2.2.1, x, v.2.2.2.2.1, v.2.2.2.2.2.1, v.2.2.2.2.2.2.1, v.2.2.2.2.2.2.2.1, v.2.2.2.2.2.2.2.2.1, v.2.2.2.2.2.2.2.2.2.1, v.2.2.2.2.2.2.2.2.2.2.1, v.2.2.2.2.2.2.2.2.2.2.2.1, v.2.2.2.2.2.2.2.2.2.2.2.2.1, v.2.2.2.2.2.2.2.2.2.2.2.2.2.1, v.2.2.2.2.2.2.2.2.2.2.2.2.2.2.1, v.2.2.2.2.2.2.2.2.2.2.2.2.2.2.2)
abbrev X7_s4 (v : V_X7) (x : Nat → Int32) : V_X7 := (v.1, v.2.1, v.2.2.1, v.2.2.2.1, x, v.2.2.2.2.2.1, v.2.2.2.2.2.2.1, v.2.2.2.2.2.2.2.1, v.2.2.2.2.2.2.2.2.1, v.2.2.2.2.2.2.2.2.2.1, v.2.2.2.2.2.2.2.2.2.2.1, v.2.2.2.2.2.2.2.2.2.2.2.1, v.2.2.2.2.2.2.2.2.2.2.2.2.1, v.2.2.2.2.2.2.2.2.2.2.2.2.2.1, v.2.2.2.2.2.2.2.2.2.2.2.2.2.2.1, v.2.2.2.2.2.2.2.2.2.2.2.2.2.2.2)
abbrev X7_s5 (v : V_X7) (x : Int32) : V_X7 := (v.1, v.2.1, v.2.2.1, v.2.2.2.1, v.2.2.2.2.1, x, v.2.2.2.2.2.2.1, v.2.2.2.2.2.2.2.1, v.2.2.2.2.2.2.2.2.1, v.2.2.2.2.2.2.2.2.2.1, v.2.2.2.2.2.2.2.2.2.2.1, v.2.2.2.2.2.2.2.2.2.2.2.1, v.2.2.2.2.2.2.2.2.2.2.2.2.1, v.2.2.2.2.2.2.2.2.2.2.2.2.2.1, v.2.2.2.2.2.2.2.2.2.2.2.2.2.2.1, v.2.2.2.2.2.2.2.2.2.2.2.2.2.2.2)
abbrev X7_s6 (v : V_X7) (x : Nat → Int32) : V_X7 := (v.1, v.2.1, v.2.2.1, v.2.2.2.1, v.2.2.2.2.1, v.2.2.2.2.2.1, x, v.2.2.2.2.2.2.2.1, v.2.2.2.2.2.2.2.2.1, v.2.2.2.2.2.2.2.2.2.1, v.2.2.2.2.2.2.2.2.2.2.1, v.2.2.2.2.2.2.2.2.2.2.2.1, v.2.2.2.2.2.2.2.2.2.2.2.2.1, v.2.2.2.2.2.2.2.2.2.2.2.2.2.1, v.2.2.2.2.2.2.2.2.2.2.2.2.2.2.1, v.2.2.2.2.2.2.2.2.2.2.2.2.2.2.2)
abbrev X7_s7 (v : V_X7) (x : Int32) : V_X7 := (v.1, v.2.1, v.2.2.1, v.2.2.2.1, v.2.2.2.2.1, v.2.2.2.2.2.1, v.2.2.2.2.2.2.1, x, v.2.2.2.2.2.2.2.2.1, v.2.2.2.2.2.2.2.2.2.1, v.2.2.2.2.2.2.2.2.2.2.1, v.2.2.2.2.2.2.2.2.2.2.2.1, v.2.2.2.2.2.2.2.2.2.2.2.2.1, v.2.2.2.2.2.2.2.2.2.2.2.2.2.1, v.2.2.2.2.2.2.2.2.2.2.2.2.2.2.1, v.2.2.2.2.2.2.2.2.2.2.2.2.2.2.2)
abbrev X7_s8 (v : V_X7) (x : Int32) : V_X7 := (v.1, v.2.1, v.2.2.1, v.2.2.2.1, v.2.2.2.2.1, v.2.2.2.2.2.1, v.2.2.2.2.2.2.1, v.2.2.2.2.2.2.2.1, x, v.2.2.2.2.2.2.2.2.2.1, v.2.2.2.2.2.2.2.2.2.2.1, v.2.2.2.2.2.2.2.2.2.2.2.1, v.2.2.2.2.2.2.2.2.2.2.2.2.1, v.2.2.2.2.2.2.2.2.2.2.2.2.2.1, v.2.2.2.2.2.2.2.2.2.2.2.2.2.2.1, v.2.2.2.2.2.2.2.2.2.2.2.2.2.2.2)
abbrev X7_s9 (v : V_X7) (x : Nat → Int32) : V_X7 := (v.1, v.2.1, v.2.2.1, v.2.2.2.1, v.2.2.2.2.1, v.2.2.2.2.2.1, v.2.2.2.2.2.2.1, v.2.2.2.2.2.2.2.1, v.2.2.2.2.2.2.2.2.1, x, v.2.2.2.2.2.2.2.2.2.2.1, v.2.2.2.2.2.2.2.2.2.2.2.1, v.2.2.2.2.2.2.2.2.2.2.2.2.1, v.2.2.2.2.2.2.2.2.2.2.2.2.2.1, v.2.2.2.2.2.2.2.2.2.2.2.2.2.2.1, v.2.2.2.2.2.2.2.2.2.2.2.2.2.2.2)
abbrev X7_s10 (v : V_X7) (x : Int32) : V_X7 := (v.1, v.2.1, v.2.2.1, v.2.2.2.1, v.2.2.2.2.1, v.2.2.2.2.2.1, v.2.2.2.2.2.2.1, v.2.2.2.2.2.2.2.1, v.2.2.2.2.2.2.2.2.1, v.2.2.2.2.2.2.2.2.2.1, x, v.2.2.2.2.2.2.2.2.2.2.2.1, v.2.2.2.2.2.2.2.2.2.2.2.2.1, v.2.2.2.2.2.2.2.2.2.2.2.2.2.1, v.2.2.2.2.2.2.2.2.2.2.2.2.2.2.1, v.2.2.2.2.2.2.2.2.2.2.2.2.2.2.2)
abbrev X7_s11 (v : V_X7) (x : Int32) : V_X7 := (v.1, v.2.1, v.2.2.1, v.2.2.2.1, v.2.2.2.2.1, v.2.2.2.2.2.1, v.2.2.2.2.2.2.1, v.2.2.2.2.2.2.2.1, v.2.2.2.2.2.2.2.2.1, v.2.2.2.2.2.2.2.2.2.1, v.2.2.2.2.2.2.2.2.2.2.1, x, v.2.2.2.2.2.2.2.2.2.2.2.2.1, v.2.2.2.2.2.2.2.2.2.2.2.2.2.1, v.2.2.2.2.2.2.2.2.2.2.2.2.2.2.1, v.2.2.2.2.2.2.2.2.2.2.2.2.2.2.2)
abbrev X7_s12 (v : V_X7) (x : Nat → Int32) : V_X7 := (v.1, v.2.1, v.2.2.1, v.2.2.2.1, v.2.2.2.2.1, v.2.2.2.2.2.1, v.2.2.2.2.2.2.1, v.2.2.2.2.2.2.2.1, v.2.2.2.2.2.2.2.2.1, v.2.2.2.2.2.2.2.2.2.1, v.2.2.2.2.2.2.2.2.2.2.1, v.2.2.2.2.2.2.2.2.2.2.2.1, x, v.2.2.2.2.2.2.2.2.2.2.2.2.2.1, v.2.2.2.2.2.2.2.2.2.2.2.2.2.2.1, v.2.2.2.2.2.2.2.2.2.2.2.2.2.2.2)
abbrev X7_s13 (v : V_X7) (x : Nat → Int32) : V_X7 := (v.1, v.2.1, v.2.2.1, v.2.2.2.1, v.2.2.2.2.1, v.2.2.2.2.2.1, v.2.2.2.2.2.2.1, v.2.2.2.2.2.2.2.1, v.2.2.2.2.2.2.2.2.1, v.2.2.2.2.2.2.2.2.2.1, v.2.2.2.2.2.2.2.2.2.2.1, v.2.2.2.2.2.2.2.2.2.2.2.1, v.2.2.2.2.2.2.2.2.2.2.2.2.1, x, v.2.2.2.2.2.2.2.2.2.2.2.2.2.2.1, v.2.2.2.2.2.2.2.2.2.2.2.2.2.2.2)
abbrev X7_s14 (v : V_X7) (x : Nat → Int32) : V_X7 := (v.1, v.2.1, v.2.2.1, v.2.2.2.1, v.2.2.2.2.1, v.2.2.2.2.2.1, v.2.2.2.2.2.2.1, v.2.2.2.2.2.2.2.1, v.2.2.2.2.2.2.2.2.1, v.2.2.2.2.2.2.2.2.2.1, v.2.2.2.2.2.2.2.2.2.2.1, v.2.2.2.2.2.2.2.2.2.2.2.1, v.2.2.2.2.2.2.2.2.2.2.2.2.1, v.2.2.2.2.2.2.2.2.2.2.2.2.2.1, x, v.2.2.2.2.2.2.2.2.2.2.2.2.2.2.2)
abbrev X7_s15 (v : V_X7) (x : Int64) : V_X7 := (v.1, v.2.1, v.2.2.1, v.2.2.2.1, v.2.2.2.2.1, v.2.2.2.2.2.1, v.2.2.2.2.2.2.1, v.2.2.2.2.2.2.2.1, v.2.2.2.2.2.2.2.2.1, v.2.2.2.2.2.2.2.2.2.1, v.2.2.2.2.2.2.2.2.2.2.1, v.2.2.2.2.2.2.2.2.2.2.2.1, v.2.2.2.2.2.2.2.2.2.2.2.2.1, v.2.2.2.2.2.2.2.2.2.2.2.2.2.1, v.2.2.2.2.2.2.2.2.2.2.2.2.2.2.1, x)
abbrev cX7 (cy : Nat → ClassId) (a : Nat → Nat) (e_s : Nat → Int32) (e_aside : Nat → Int32) (e_kept : Nat → Int32) (e_isKept : Int32) (e_saved : Nat → Int32) (e_savedMany : Int32) (e_text : Nat → Int32) (e_length : Int32) (e_thrown : Int32) (e_joint : Nat → Int32) (e_position : Int32) (e_isWrong : Int32) (e_isHollow : Nat → Int32) (e_sure : Nat → Int32) (e_away : Nat → Int32) (e_digested : Int64) : va_W := [(a 0, .inr (7, [.ref (a 1), .ref (a 2), .ref (a 3), .int e_isKept, .ref (a 4), .int e_savedMany, .ref (a 5), .int e_length, .int e_thrown, .ref (a 6), .int e_position, .int e_isWrong, .ref (a 7), .ref (a 8), .ref (a 9), .long e_digested])), (a 1, .inl (cy 0, 1472, .inl e_s)), (a 2, .inl (cy 0, 1472, .inl e_aside)), (a 3, .inl (cy 0, 1472, .inl e_kept)), (a 4, .inl (cy 0, 8832, .inl e_saved)), (a 5, .inl (cy 0, 60, .inl e_text)), (a 6, .inl (cy 0, 1024, .inl e_joint)), (a 7, .inl (cy 1, 64, .inl e_isHollow)), (a 8, .inl (cy 0, 64, .inl e_sure)), (a 9, .inl (cy 0, 64, .inl e_away))]
abbrev wX7 (cy : Nat → ClassId) (a : Nat → Nat) (v : V_X7) : va_W := cX7 cy a (X7_s v) (X7_aside v) (X7_kept v) (X7_isKept v) (X7_saved v) (X7_savedMany v) (X7_text v) (X7_length v) (X7_thrown v) (X7_joint v) (X7_position v) (X7_isWrong v) (X7_isHollow v) (X7_sure v) (X7_away v) (X7_digested v)
def wp_X7_thrown (v : V_X7) (Q : Int32 → Prop) : Prop :=
  Q (X7_thrown v)
def q_X7_thrown (dC : Nat → ClassId) (dI : Nat → Nat → Nat) (cy : Nat → ClassId) (a : Nat → Nat) (v : V_X7) (Q : Int32 → Prop) (A : Nat → Prop) : Array Value → State → Outcome → State → Prop := va_Qi (fun (r : Int32) (u : Unit) => Q r ) (fun (u : Unit) t => xAt dC dI cy A (wX7 cy a v) t) A
set_option maxHeartbeats 4000000 in
set_option maxRecDepth 100000 in
theorem c_X7_thrown (l : Launch) (dC : Nat → ClassId) (dI : Nat → Nat → Nat) (cy : Nat → ClassId) (a : Nat → Nat) (sz : Nat) (v : V_X7) (Q : Int32 → Prop) (hq : wp_X7_thrown v Q) : Met l yX7_thrown wsX7_thrown ({ frames := 0, cells := 0, slots := 0, locals := 0 } : Room) (va_Pc [.ref (a 0)] (xPre dC dI cy (wX7 cy a v) sz)) (q_X7_thrown dC dI cy a v Q (va_A (wX7 cy a v) sz)) 0 0 (va_A (wX7 cy a v) sz) := by
  refine Met.ofW (cc := cX7_thrown) (maxL := 1) (ret := (some .int)) (by decide) rfl ?_
  intro p e s m args below meth c s₁ B hml hv
  obtain ⟨rfl, hsz, hP, hK, hD0⟩ := hv
  have hx := B.exec
  have hb := B.bytes
  have hr := B.returns
  have hts := atoms_spec (ws := wsX7_thrown) B.pre
  have hown : s.vm.findClass RX7 = some m.cls := findClass_of_methodNamed B.named
  have hlocks := B.notSynchronized
  subst hsz
  have hD := hD0.self (sz := s.heap.size)
  generalize hAe : va_A (wX7 cy a v) s.heap.size = A at hD ⊢
  have hAe0 : ∀ q : Nat, s.heap.size ≤ q → A q := fun q h => by rw [← hAe]; exact Or.inr h
  have hS : va_S A s.heap s.heap [] := va_S.rf
  have hl := lv_entry ([.ref (a 0)]) (n := 1) (Nat.le_of_ble_eq_true rfl)
  rw [lg_entry_eq]
  generalize (lg_sl ([.ref (a 0)]) ++ List.replicate (1 - (lg_sl ([.ref (a 0)])).length) Slot.unset).toArray = ls at hl ⊢
  have hl : lv_has ls 1 [(0, .ref (a 0))] := hl
  have lk0 := hts (Cond.fieldLink RX7 38 "MolesLawnModel" "thrown" "I") (List.mem_cons_of_mem _ (List.mem_append_left _ (List.mem_of_getElem? (i := 0) rfl)))
  have iK7 : ∀ w ∈ wsX70, w ∈ wsX7_thrown := fun _ h => (List.mem_cons_of_mem _ (List.mem_append_right _ h))
  unfold wp_X7_thrown at hq
  refine lv_aload_n hx hb dX7_thrown_0 rfl (lv_at hl 0 rfl) ?_
  refine va_get (D := (dC, dI)) (ci := 7) (v := .int (X7_thrown v)) (C := RX7) (T := TX7) (N := 16) hx hb hts iK7 hown hK hP 0 rfl rfl 8 (by decide) lk0 (fun _ h9 => h9) rfl dX7_thrown_1 ?_
  exact W.iret (v := (X7_thrown v)) hx hb hr (fun t ht hW => ⟨⟨(X7_thrown v), (), rfl, hq, (xAt_of hP hK hD ht hW)⟩, hS.F ht⟩) hS.2.2 dX7_thrown_4
def wp_X7_in (x0 : Int32) (x1 : Int32) (x2 : Int32) (Q : Int32 → Prop) : Prop :=
  ((x0 < x1 → Q 0) ∧
  (¬ x0 < x1 → ((x2 < x0 → Q 0) ∧
  (¬ x2 < x0 → Q 1))))
def q_X7_in (dC : Nat → ClassId) (dI : Nat → Nat → Nat) (cy : Nat → ClassId)  (x0 : Int32) (x1 : Int32) (x2 : Int32) (Q : Int32 → Prop) (A : Nat → Prop) : Array Value → State → Outcome → State → Prop := va_Qi (fun (r : Int32) (u : Unit) => Q r ) (fun (u : Unit) t => xAt dC dI cy A ([] : va_W) t) A
set_option maxHeartbeats 4000000 in
set_option maxRecDepth 100000 in
theorem c_X7_in (l : Launch) (dC : Nat → ClassId) (dI : Nat → Nat → Nat) (cy : Nat → ClassId)  (sz : Nat) (x0 : Int32) (x1 : Int32) (x2 : Int32) (Q : Int32 → Prop) (hq : wp_X7_in x0 x1 x2 Q) : Met l yX7_in wsX7_in ({ frames := 0, cells := 0, slots := 0, locals := 0 } : Room) (va_Pc [.int x0, .int x1, .int x2] (xPre dC dI cy ([] : va_W) sz)) (q_X7_in dC dI cy  x0 x1 x2 Q (va_A ([] : va_W) sz)) 0 0 (va_A ([] : va_W) sz) := by
  refine Met.ofW (cc := cX7_in) (maxL := 3) (ret := (some .boolean)) (by decide) rfl ?_
  intro p e s m args below meth c s₁ B hml hv
  obtain ⟨rfl, hsz, hP, hK, hD0⟩ := hv
  have hx := B.exec
  have hb := B.bytes
  have hr := B.returns
  have hts := atoms_spec (ws := wsX7_in) B.pre
  have hown : s.vm.findClass RX7 = some m.cls := findClass_of_methodNamed B.named
  have hlocks := B.notSynchronized
  subst hsz
  have hD := hD0.self (sz := s.heap.size)
  generalize hAe : va_A ([] : va_W) s.heap.size = A at hD ⊢
  have hAe0 : ∀ q : Nat, s.heap.size ≤ q → A q := fun q h => by rw [← hAe]; exact Or.inr h
  have hS : va_S A s.heap s.heap [] := va_S.rf
  have hl := lv_entry ([.int x0, .int x1, .int x2]) (n := 3) (Nat.le_of_ble_eq_true rfl)
  rw [lg_entry_eq]
  generalize (lg_sl ([.int x0, .int x1, .int x2]) ++ List.replicate (3 - (lg_sl ([.int x0, .int x1, .int x2])).length) Slot.unset).toArray = ls at hl ⊢
  have hl : lv_has ls 3 [(0, .int x0), (1, .int x1), (2, .int x2)] := hl
  unfold wp_X7_in at hq
  refine lv_iload_n hx hb dX7_in_0 rfl (lv_at hl 0 rfl) ?_
  refine lv_iload_n hx hb dX7_in_1 rfl (lv_at hl 1 rfl) ?_
  obtain ⟨hqA, hqB⟩ := hq
  refine lv_icmp_lt (tgt := 14) hx hb dX7_in_2 (by decide) (fun c2 => ?_) (fun c2 => ?_)
  · have hq := hqA c2
    refine lv_iconst (v := 0) hx hb dX7_in_14 (by decide) ?_
    exact W.zret (v := 0) hx hb hr rfl (fun t ht hW => ⟨⟨0, (), rfl, hq, (xAt_of hP hK hD ht hW)⟩, hS.F ht⟩) hS.2.2 dX7_in_15
  · have hq := hqB c2
    refine lv_iload_n hx hb dX7_in_5 rfl (lv_at hl 0 rfl) ?_
    refine lv_iload_n hx hb dX7_in_6 rfl (lv_at hl 2 rfl) ?_
    obtain ⟨hqA, hqB⟩ := hq
    refine lv_icmp_gt (tgt := 14) hx hb dX7_in_7 (by decide) (fun c1 => ?_) (fun c1 => ?_)
    · have hq := hqA c1
      refine lv_iconst (v := 0) hx hb dX7_in_14 (by decide) ?_
      exact W.zret (v := 0) hx hb hr rfl (fun t ht hW => ⟨⟨0, (), rfl, hq, (xAt_of hP hK hD ht hW)⟩, hS.F ht⟩) hS.2.2 dX7_in_15
    · have hq := hqB c1
      refine lv_iconst (v := 1) hx hb dX7_in_10 (by decide) ?_
      refine lv_goto (tgt := 15) hx hb dX7_in_11 (by decide) ?_
      exact W.zret (v := 1) hx hb hr rfl (fun t ht hW => ⟨⟨1, (), rfl, hq, (xAt_of hP hK hD ht hW)⟩, hS.F ht⟩) hS.2.2 dX7_in_15
def wp_X7_holds (v : V_X7) (x1 : Int32) (Q : Int32 → Int32 → Prop) : Prop :=
  ((x1 = 0 → Q 1 x1) ∧
  (¬ x1 = 0 → Q 0 x1))
def q_X7_holds (dC : Nat → ClassId) (dI : Nat → Nat → Nat) (cy : Nat → ClassId) (a : Nat → Nat) (v : V_X7) (x1 : Int32) (Q : Int32 → Int32 → Prop) (A : Nat → Prop) : Array Value → State → Outcome → State → Prop := va_Qi (fun (r : Int32) (u : Int32) => Q r u) (fun (u : Int32) t => xAt dC dI cy A (cX7 cy a (X7_s v) (X7_aside v) (X7_kept v) (X7_isKept v) (X7_saved v) (X7_savedMany v) (X7_text v) (X7_length v) u (X7_joint v) (X7_position v) (X7_isWrong v) (X7_isHollow v) (X7_sure v) (X7_away v) (X7_digested v)) t) A
set_option maxHeartbeats 4000000 in
set_option maxRecDepth 100000 in
theorem c_X7_holds (l : Launch) (dC : Nat → ClassId) (dI : Nat → Nat → Nat) (cy : Nat → ClassId) (a : Nat → Nat) (sz : Nat) (v : V_X7) (x1 : Int32) (Q : Int32 → Int32 → Prop) (hq : wp_X7_holds v x1 Q) : Met l yX7_holds wsX7_holds ({ frames := 0, cells := 0, slots := 0, locals := 0 } : Room) (va_Pc [.ref (a 0), .int x1] (xPre dC dI cy (wX7 cy a v) sz)) (q_X7_holds dC dI cy a v x1 Q (va_A (wX7 cy a v) sz)) 0 0 (va_A (wX7 cy a v) sz) := by
  refine Met.ofW (cc := cX7_holds) (maxL := 2) (ret := (some .boolean)) (by decide) rfl ?_
  intro p e s m args below meth c s₁ B hml hv
  obtain ⟨rfl, hsz, hP, hK, hD0⟩ := hv
  have hx := B.exec
  have hb := B.bytes
  have hr := B.returns
  have hts := atoms_spec (ws := wsX7_holds) B.pre
  have hown : s.vm.findClass RX7 = some m.cls := findClass_of_methodNamed B.named
  have hlocks := B.notSynchronized
  subst hsz
  have hD := hD0.self (sz := s.heap.size)
  generalize hAe : va_A (wX7 cy a v) s.heap.size = A at hD ⊢
  have hAe0 : ∀ q : Nat, s.heap.size ≤ q → A q := fun q h => by rw [← hAe]; exact Or.inr h
  have hS : va_S A s.heap s.heap [] := va_S.rf
  have hl := lv_entry ([.ref (a 0), .int x1]) (n := 2) (Nat.le_of_ble_eq_true rfl)
  rw [lg_entry_eq]
  generalize (lg_sl ([.ref (a 0), .int x1]) ++ List.replicate (2 - (lg_sl ([.ref (a 0), .int x1])).length) Slot.unset).toArray = ls at hl ⊢
  have hl : lv_has ls 2 [(0, .ref (a 0)), (1, .int x1)] := hl
  have lk0 := hts (Cond.fieldLink RX7 38 "MolesLawnModel" "thrown" "I") (List.mem_cons_of_mem _ (List.mem_append_left _ (List.mem_of_getElem? (i := 0) rfl)))
  have iK7 : ∀ w ∈ wsX70, w ∈ wsX7_holds := fun _ h => (List.mem_cons_of_mem _ (List.mem_append_right _ h))
  unfold wp_X7_holds at hq
  refine lv_aload_n hx hb dX7_holds_0 rfl (lv_at hl 0 rfl) ?_
  refine lv_iload_n hx hb dX7_holds_1 rfl (lv_at hl 1 rfl) ?_
  refine va_put (D := (dC, dI)) (ci := 7) (v := .int x1) (ty := .int) (C := RX7) (T := TX7) (N := 16) hx hb hts iK7 tyX7 tyX7_ok nmX7 hown hK hP hD hS 0 rfl rfl 8 (by decide) lk0 (fun _ h9 => h9) rfl (by decide +kernel) rfl rfl (Nat.le_of_ble_eq_true rfl) dX7_holds_2 (fun H locs hP hD hS => ?_)
  have hP : va_P (dC, dI) vwCl (cX7 cy a (X7_s v) (X7_aside v) (X7_kept v) (X7_isKept v) (X7_saved v) (X7_savedMany v) (X7_text v) (X7_length v) x1 (X7_joint v) (X7_position v) (X7_isWrong v) (X7_isHollow v) (X7_sure v) (X7_away v) (X7_digested v)) H := hP
  have hD : va_D A (cX7 cy a (X7_s v) (X7_aside v) (X7_kept v) (X7_isKept v) (X7_saved v) (X7_savedMany v) (X7_text v) (X7_length v) x1 (X7_joint v) (X7_position v) (X7_isWrong v) (X7_isHollow v) (X7_sure v) (X7_away v) (X7_digested v)) := hD
  refine lv_iload_n hx hb dX7_holds_5 rfl (lv_at hl 1 rfl) ?_
  obtain ⟨hqA, hqB⟩ := hq
  refine lv_if_ne (tgt := 13) hx hb dX7_holds_6 (by decide) (fun c1 => ?_) (fun c1 => ?_)
  · have hq := hqB c1
    refine lv_iconst (v := 0) hx hb dX7_holds_13 (by decide) ?_
    exact W.zret (v := 0) hx hb hr rfl (fun t ht hW => ⟨⟨0, x1, rfl, hq, (xAt_of hP hK hD ht hW)⟩, hS.F ht⟩) hS.2.2 dX7_holds_14
  · have hq := hqA c1
    refine lv_iconst (v := 1) hx hb dX7_holds_9 (by decide) ?_
    refine lv_goto (tgt := 14) hx hb dX7_holds_10 (by decide) ?_
    exact W.zret (v := 1) hx hb hr rfl (fun t ht hW => ⟨⟨1, x1, rfl, hq, (xAt_of hP hK hD ht hW)⟩, hS.F ht⟩) hS.2.2 dX7_holds_14
def wp_X7_isTuft (x0 : Int32) (Q : Int32 → Prop) : Prop :=
  wp_X7_in x0 0 63 (fun r4 =>
  bz r4 ∧ Q r4)
def q_X7_isTuft (dC : Nat → ClassId) (dI : Nat → Nat → Nat) (cy : Nat → ClassId)  (x0 : Int32) (Q : Int32 → Prop) (A : Nat → Prop) : Array Value → State → Outcome → State → Prop := va_Qi (fun (r : Int32) (u : Unit) => Q r ) (fun (u : Unit) t => xAt dC dI cy A ([] : va_W) t) A
set_option maxHeartbeats 4000000 in
set_option maxRecDepth 100000 in
theorem c_X7_isTuft (l : Launch) (dC : Nat → ClassId) (dI : Nat → Nat → Nat) (cy : Nat → ClassId)  (sz : Nat) (x0 : Int32) (Q : Int32 → Prop) (hq : wp_X7_isTuft x0 Q) : Met l yX7_isTuft wsX7_isTuft ({ frames := 1, cells := 0, slots := 0, locals := 22 } : Room) (va_Pc [.int x0] (xPre dC dI cy ([] : va_W) sz)) (q_X7_isTuft dC dI cy  x0 Q (va_A ([] : va_W) sz)) 0 0 (va_A ([] : va_W) sz) := by
  refine Met.ofW (cc := cX7_isTuft) (maxL := 1) (ret := (some .boolean)) (by decide) rfl ?_
  intro p e s m args below meth c s₁ B hml hv
  obtain ⟨rfl, hsz, hP, hK, hD0⟩ := hv
  have hx := B.exec
  have hb := B.bytes
  have hr := B.returns
  have hts := atoms_spec (ws := wsX7_isTuft) B.pre
  have hown : s.vm.findClass RX7 = some m.cls := findClass_of_methodNamed B.named
  have hlocks := B.notSynchronized
  subst hsz
  have hD := hD0.self (sz := s.heap.size)
  generalize hAe : va_A ([] : va_W) s.heap.size = A at hD ⊢
  have hAe0 : ∀ q : Nat, s.heap.size ≤ q → A q := fun q h => by rw [← hAe]; exact Or.inr h
  have hS : va_S A s.heap s.heap [] := va_S.rf
  have hl := lv_entry ([.int x0]) (n := 1) (Nat.le_of_ble_eq_true rfl)
  rw [lg_entry_eq]
  generalize (lg_sl ([.int x0]) ++ List.replicate (1 - (lg_sl ([.int x0])).length) Slot.unset).toArray = ls at hl ⊢
  have hl : lv_has ls 1 [(0, .int x0)] := hl
  unfold wp_X7_isTuft at hq
  refine lv_iload_n hx hb dX7_isTuft_0 rfl (lv_at hl 0 rfl) ?_
  refine lv_iconst (v := 0) hx hb dX7_isTuft_1 (by decide) ?_
  refine lv_bipush (v := 63) hx hb dX7_isTuft_2 (by decide) ?_
  have hFc := xfree_none hS hAe0
  refine va_calli (va_runS (As := [.int x0, .int 0, .int 63]) (rest := []) ⟨hx, hb, hml, hown, hts⟩ (c_X7_in l dC dI cy  _ x0 0 63 _ hq) (va_cwS 3 hts gX7_isTuft_X7_in rfl rfl rfl (by decide +kernel) ⟨Nat.le_of_ble_eq_true rfl, Nat.le_of_ble_eq_true rfl⟩) ⟨xPre_blind, xPre_of xP_nil hK (xD_nil (A := A))⟩ rfl rfl hl.1 rfl (lv_room (Nat.le_of_ble_eq_true rfl)) dX7_isTuft_4 ⟨Nat.le_of_ble_eq_true rfl, Nat.le_of_ble_eq_true rfl⟩) hS (fun q _ h => hFc q h) hFc (fun r4 u9 t H locs ht hvm hq hB hz1 hk1 hS => ?_)
  have hP := xj_none hP hk1
  obtain ⟨g1, hq⟩ := hq
  exact W.zret (v := r4) hx hb hr (bz_nar g1) (fun t ht hW => ⟨⟨r4, (), rfl, hq, (xAt_of hP hK hD ht hW)⟩, hS.F ht⟩) hS.2.2 dX7_isTuft_7
def wp_X7_isMole (v : V_X7) (x1 : Int32) (Q : Int32 → Prop) : Prop :=
  vp_in 1 1472 ∧ wp_X7_in x1 0 (((X7_s v) (1 : Int32).toNatClampNeg) - 1) (fun r10 =>
  bz r10 ∧ Q r10)
def q_X7_isMole (dC : Nat → ClassId) (dI : Nat → Nat → Nat) (cy : Nat → ClassId) (a : Nat → Nat) (v : V_X7) (x1 : Int32) (Q : Int32 → Prop) (A : Nat → Prop) : Array Value → State → Outcome → State → Prop := va_Qi (fun (r : Int32) (u : Unit) => Q r ) (fun (u : Unit) t => xAt dC dI cy A (wX7 cy a v) t) A
set_option maxHeartbeats 4000000 in
set_option maxRecDepth 100000 in
theorem c_X7_isMole (l : Launch) (dC : Nat → ClassId) (dI : Nat → Nat → Nat) (cy : Nat → ClassId) (a : Nat → Nat) (sz : Nat) (v : V_X7) (x1 : Int32) (Q : Int32 → Prop) (hq : wp_X7_isMole v x1 Q) : Met l yX7_isMole wsX7_isMole ({ frames := 1, cells := 0, slots := 0, locals := 22 } : Room) (va_Pc [.ref (a 0), .int x1] (xPre dC dI cy (wX7 cy a v) sz)) (q_X7_isMole dC dI cy a v x1 Q (va_A (wX7 cy a v) sz)) 0 0 (va_A (wX7 cy a v) sz) := by
  refine Met.ofW (cc := cX7_isMole) (maxL := 2) (ret := (some .boolean)) (by decide) rfl ?_
  intro p e s m args below meth c s₁ B hml hv
  obtain ⟨rfl, hsz, hP, hK, hD0⟩ := hv
  have hx := B.exec
  have hb := B.bytes
  have hr := B.returns
  have hts := atoms_spec (ws := wsX7_isMole) B.pre
  have hown : s.vm.findClass RX7 = some m.cls := findClass_of_methodNamed B.named
  have hlocks := B.notSynchronized
  subst hsz
  have hD := hD0.self (sz := s.heap.size)
  generalize hAe : va_A (wX7 cy a v) s.heap.size = A at hD ⊢
  have hAe0 : ∀ q : Nat, s.heap.size ≤ q → A q := fun q h => by rw [← hAe]; exact Or.inr h
  have hS : va_S A s.heap s.heap [] := va_S.rf
  have hl := lv_entry ([.ref (a 0), .int x1]) (n := 2) (Nat.le_of_ble_eq_true rfl)
  rw [lg_entry_eq]
  generalize (lg_sl ([.ref (a 0), .int x1]) ++ List.replicate (2 - (lg_sl ([.ref (a 0), .int x1])).length) Slot.unset).toArray = ls at hl ⊢
  have hl : lv_has ls 2 [(0, .ref (a 0)), (1, .int x1)] := hl
  have lk0 := hts (Cond.fieldLink RX7 7 "MolesLawnModel" "s" "[I") (List.mem_cons_of_mem _ (List.mem_append_left _ (List.mem_of_getElem? (i := 0) rfl)))
  have iK7 : ∀ w ∈ wsX70, w ∈ wsX7_isMole := fun _ h => (List.mem_cons_of_mem _ (List.mem_append_right _ h))
  unfold wp_X7_isMole at hq
  refine lv_iload_n hx hb dX7_isMole_0 rfl (lv_at hl 1 rfl) ?_
  refine lv_iconst (v := 0) hx hb dX7_isMole_1 (by decide) ?_
  refine lv_aload_n hx hb dX7_isMole_2 rfl (lv_at hl 0 rfl) ?_
  refine va_get (D := (dC, dI)) (ci := 7) (v := .ref (a 1)) (C := RX7) (T := TX7) (N := 16) hx hb hts iK7 hown hK hP 0 rfl rfl 0 (by decide) lk0 (fun _ h9 => h9) rfl dX7_isMole_3 ?_
  refine lv_iconst (v := 1) hx hb dX7_isMole_6 (by decide) ?_
  obtain ⟨g1, hq⟩ := hq
  refine va_iald hx hb hK hP 1 0 rfl rfl g1 dX7_isMole_7 ?_
  refine lv_iconst (v := 1) hx hb dX7_isMole_8 (by decide) ?_
  refine lv_isub hx hb dX7_isMole_9 ?_
  have hFc := xfree_none hS hAe0
  refine va_calli (va_runS (As := [.int x1, .int 0, .int (((X7_s v) (1 : Int32).toNatClampNeg) - 1)]) (rest := []) ⟨hx, hb, hml, hown, hts⟩ (c_X7_in l dC dI cy  _ x1 0 (((X7_s v) (1 : Int32).toNatClampNeg) - 1) _ hq) (va_cwS 3 hts gX7_isMole_X7_in rfl rfl rfl (by decide +kernel) ⟨Nat.le_of_ble_eq_true rfl, Nat.le_of_ble_eq_true rfl⟩) ⟨xPre_blind, xPre_of xP_nil hK (xD_nil (A := A))⟩ rfl rfl hl.1 rfl (lv_room (Nat.le_of_ble_eq_true rfl)) dX7_isMole_10 ⟨Nat.le_of_ble_eq_true rfl, Nat.le_of_ble_eq_true rfl⟩) hS (fun q _ h => hFc q h) hFc (fun r10 u9 t H locs ht hvm hq hB hz1 hk1 hS => ?_)
  have hP := xj_none hP hk1
  obtain ⟨g2, hq⟩ := hq
  exact W.zret (v := r10) hx hb hr (bz_nar g2) (fun t ht hW => ⟨⟨r10, (), rfl, hq, (xAt_of hP hK hD ht hW)⟩, hS.F ht⟩) hS.2.2 dX7_isMole_13
def wp_X7_of (x0 : Int32) (x1 : Int32) (Q : Int32 → Prop) : Prop :=
  Q ((264 + (46 * x0)) + x1)
def q_X7_of (dC : Nat → ClassId) (dI : Nat → Nat → Nat) (cy : Nat → ClassId)  (x0 : Int32) (x1 : Int32) (Q : Int32 → Prop) (A : Nat → Prop) : Array Value → State → Outcome → State → Prop := va_Qi (fun (r : Int32) (u : Unit) => Q r ) (fun (u : Unit) t => xAt dC dI cy A ([] : va_W) t) A
set_option maxHeartbeats 4000000 in
set_option maxRecDepth 100000 in
theorem c_X7_of (l : Launch) (dC : Nat → ClassId) (dI : Nat → Nat → Nat) (cy : Nat → ClassId)  (sz : Nat) (x0 : Int32) (x1 : Int32) (Q : Int32 → Prop) (hq : wp_X7_of x0 x1 Q) : Met l yX7_of wsX7_of ({ frames := 0, cells := 0, slots := 0, locals := 0 } : Room) (va_Pc [.int x0, .int x1] (xPre dC dI cy ([] : va_W) sz)) (q_X7_of dC dI cy  x0 x1 Q (va_A ([] : va_W) sz)) 0 0 (va_A ([] : va_W) sz) := by
  refine Met.ofW (cc := cX7_of) (maxL := 2) (ret := (some .int)) (by decide) rfl ?_
  intro p e s m args below meth c s₁ B hml hv
  obtain ⟨rfl, hsz, hP, hK, hD0⟩ := hv
  have hx := B.exec
  have hb := B.bytes
  have hr := B.returns
  have hts := atoms_spec (ws := wsX7_of) B.pre
  have hown : s.vm.findClass RX7 = some m.cls := findClass_of_methodNamed B.named
  have hlocks := B.notSynchronized
  subst hsz
  have hD := hD0.self (sz := s.heap.size)
  generalize hAe : va_A ([] : va_W) s.heap.size = A at hD ⊢
  have hAe0 : ∀ q : Nat, s.heap.size ≤ q → A q := fun q h => by rw [← hAe]; exact Or.inr h
  have hS : va_S A s.heap s.heap [] := va_S.rf
  have hl := lv_entry ([.int x0, .int x1]) (n := 2) (Nat.le_of_ble_eq_true rfl)
  rw [lg_entry_eq]
  generalize (lg_sl ([.int x0, .int x1]) ++ List.replicate (2 - (lg_sl ([.int x0, .int x1])).length) Slot.unset).toArray = ls at hl ⊢
  have hl : lv_has ls 2 [(0, .int x0), (1, .int x1)] := hl
  unfold wp_X7_of at hq
  refine lv_sipush (v := 264) hx hb dX7_of_0 (by decide) ?_
  refine lv_bipush (v := 46) hx hb dX7_of_3 (by decide) ?_
  refine lv_iload_n hx hb dX7_of_5 rfl (lv_at hl 0 rfl) ?_
  refine lv_imul hx hb dX7_of_6 ?_
  refine lv_iadd hx hb dX7_of_7 ?_
  refine lv_iload_n hx hb dX7_of_8 rfl (lv_at hl 1 rfl) ?_
  refine lv_iadd hx hb dX7_of_9 ?_
  exact W.iret (v := ((264 + (46 * x0)) + x1)) hx hb hr (fun t ht hW => ⟨⟨((264 + (46 * x0)) + x1), (), rfl, hq, (xAt_of hP hK hD ht hW)⟩, hS.F ht⟩) hS.2.2 dX7_of_10
def wp_X7_hasMound (v : V_X7) (x1 : Int32) (Q : Int32 → Prop) : Prop :=
  vp_in (8 + x1) 1472 ∧ ((((X7_s v) (8 + x1).toNatClampNeg) = 1 → Q 1) ∧
  (¬ ((X7_s v) (8 + x1).toNatClampNeg) = 1 → Q 0))
def q_X7_hasMound (dC : Nat → ClassId) (dI : Nat → Nat → Nat) (cy : Nat → ClassId) (a : Nat → Nat) (v : V_X7) (x1 : Int32) (Q : Int32 → Prop) (A : Nat → Prop) : Array Value → State → Outcome → State → Prop := va_Qi (fun (r : Int32) (u : Unit) => Q r ) (fun (u : Unit) t => xAt dC dI cy A (wX7 cy a v) t) A
set_option maxHeartbeats 4000000 in
set_option maxRecDepth 100000 in
theorem c_X7_hasMound (l : Launch) (dC : Nat → ClassId) (dI : Nat → Nat → Nat) (cy : Nat → ClassId) (a : Nat → Nat) (sz : Nat) (v : V_X7) (x1 : Int32) (Q : Int32 → Prop) (hq : wp_X7_hasMound v x1 Q) : Met l yX7_hasMound wsX7_hasMound ({ frames := 0, cells := 0, slots := 0, locals := 0 } : Room) (va_Pc [.ref (a 0), .int x1] (xPre dC dI cy (wX7 cy a v) sz)) (q_X7_hasMound dC dI cy a v x1 Q (va_A (wX7 cy a v) sz)) 0 0 (va_A (wX7 cy a v) sz) := by
  refine Met.ofW (cc := cX7_hasMound) (maxL := 2) (ret := (some .boolean)) (by decide) rfl ?_
  intro p e s m args below meth c s₁ B hml hv
  obtain ⟨rfl, hsz, hP, hK, hD0⟩ := hv
  have hx := B.exec
  have hb := B.bytes
  have hr := B.returns
  have hts := atoms_spec (ws := wsX7_hasMound) B.pre
  have hown : s.vm.findClass RX7 = some m.cls := findClass_of_methodNamed B.named
  have hlocks := B.notSynchronized
  subst hsz
  have hD := hD0.self (sz := s.heap.size)
  generalize hAe : va_A (wX7 cy a v) s.heap.size = A at hD ⊢
  have hAe0 : ∀ q : Nat, s.heap.size ≤ q → A q := fun q h => by rw [← hAe]; exact Or.inr h
  have hS : va_S A s.heap s.heap [] := va_S.rf
  have hl := lv_entry ([.ref (a 0), .int x1]) (n := 2) (Nat.le_of_ble_eq_true rfl)
  rw [lg_entry_eq]
  generalize (lg_sl ([.ref (a 0), .int x1]) ++ List.replicate (2 - (lg_sl ([.ref (a 0), .int x1])).length) Slot.unset).toArray = ls at hl ⊢
  have hl : lv_has ls 2 [(0, .ref (a 0)), (1, .int x1)] := hl
  have lk0 := hts (Cond.fieldLink RX7 7 "MolesLawnModel" "s" "[I") (List.mem_cons_of_mem _ (List.mem_append_left _ (List.mem_of_getElem? (i := 0) rfl)))
  have iK7 : ∀ w ∈ wsX70, w ∈ wsX7_hasMound := fun _ h => (List.mem_cons_of_mem _ (List.mem_append_right _ h))
  unfold wp_X7_hasMound at hq
  refine lv_aload_n hx hb dX7_hasMound_0 rfl (lv_at hl 0 rfl) ?_
  refine va_get (D := (dC, dI)) (ci := 7) (v := .ref (a 1)) (C := RX7) (T := TX7) (N := 16) hx hb hts iK7 hown hK hP 0 rfl rfl 0 (by decide) lk0 (fun _ h9 => h9) rfl dX7_hasMound_1 ?_
  refine lv_bipush (v := 8) hx hb dX7_hasMound_4 (by decide) ?_
  refine lv_iload_n hx hb dX7_hasMound_6 rfl (lv_at hl 1 rfl) ?_
  refine lv_iadd hx hb dX7_hasMound_7 ?_
  obtain ⟨g1, hq⟩ := hq
  refine va_iald hx hb hK hP 1 0 rfl rfl g1 dX7_hasMound_8 ?_
  refine lv_iconst (v := 1) hx hb dX7_hasMound_9 (by decide) ?_
  obtain ⟨hqA, hqB⟩ := hq
  refine lv_icmp_ne (tgt := 17) hx hb dX7_hasMound_10 (by decide) (fun c2 => ?_) (fun c2 => ?_)
  · have hq := hqB c2
    refine lv_iconst (v := 0) hx hb dX7_hasMound_17 (by decide) ?_
    exact W.zret (v := 0) hx hb hr rfl (fun t ht hW => ⟨⟨0, (), rfl, hq, (xAt_of hP hK hD ht hW)⟩, hS.F ht⟩) hS.2.2 dX7_hasMound_18
  · have hq := hqA c2
    refine lv_iconst (v := 1) hx hb dX7_hasMound_13 (by decide) ?_
    refine lv_goto (tgt := 18) hx hb dX7_hasMound_14 (by decide) ?_
    exact W.zret (v := 1) hx hb hr rfl (fun t ht hW => ⟨⟨1, (), rfl, hq, (xAt_of hP hK hD ht hW)⟩, hS.F ht⟩) hS.2.2 dX7_hasMound_18
def wb_X7_save_52 (v : V_X7) (z52_v_savedMany : Int32) (y52_1 : Int32) (z52_v_saved : (Nat → Int32)) (B52 : Int32 → (Nat → Int32) → Prop) (Q : (Nat → Int32) → Int32 → Prop) : Prop :=
  ((1472 ≤ y52_1 → Q z52_v_saved (z52_v_savedMany + 1)) ∧
  (¬ 1472 ≤ y52_1 → vp_in y52_1 1472 ∧ vp_in ((1472 * z52_v_savedMany) + y52_1) 8832 ∧ B52 (y52_1 + 1) (upd z52_v_saved ((1472 * z52_v_savedMany) + y52_1).toNatClampNeg ((X7_s v) y52_1.toNatClampNeg))))
def wp_X7_save_52 (v : V_X7) (z52_v_savedMany : Int32) (y52_1 : Int32) (z52_v_saved : (Nat → Int32)) (Q : (Nat → Int32) → Int32 → Prop) : Prop :=
  ∃ (I : Int32 → (Nat → Int32) → Prop) (μ : Int32 → (Nat → Int32) → Nat), I y52_1 z52_v_saved ∧ ∀ (s0 : Int32) (s1 : (Nat → Int32)), I s0 s1 → wb_X7_save_52 v z52_v_savedMany s0 s1 (fun t0 t1 => I t0 t1 ∧ μ t0 t1 < μ s0 s1) Q
def wb_X7_save_11 (v : V_X7)  (y11_1 : Int32) (z11_v_saved : (Nat → Int32)) (B11 : Int32 → (Nat → Int32) → Prop) (Q : (Nat → Int32) → Int32 → Prop) : Prop :=
  ((7360 ≤ y11_1 → wp_X7_save_52 v ((X7_savedMany v) - 1) 0 z11_v_saved Q) ∧
  (¬ 7360 ≤ y11_1 → vp_in (1472 + y11_1) 8832 ∧ vp_in y11_1 8832 ∧ B11 (y11_1 + 1) (upd z11_v_saved y11_1.toNatClampNeg (z11_v_saved (1472 + y11_1).toNatClampNeg))))
def wp_X7_save_11 (v : V_X7)  (y11_1 : Int32) (z11_v_saved : (Nat → Int32)) (Q : (Nat → Int32) → Int32 → Prop) : Prop :=
  ∃ (I : Int32 → (Nat → Int32) → Prop) (μ : Int32 → (Nat → Int32) → Nat), I y11_1 z11_v_saved ∧ ∀ (s0 : Int32) (s1 : (Nat → Int32)), I s0 s1 → wb_X7_save_11 v  s0 s1 (fun t0 t1 => I t0 t1 ∧ μ t0 t1 < μ s0 s1) Q
def wp_X7_save (v : V_X7) (Q : (Nat → Int32) → Int32 → Prop) : Prop :=
  (((X7_savedMany v) = 6 → wp_X7_save_11 v  0 (X7_saved v) Q) ∧
  (¬ (X7_savedMany v) = 6 → wp_X7_save_52 v (X7_savedMany v) 0 (X7_saved v) Q))
def q_X7_save (dC : Nat → ClassId) (dI : Nat → Nat → Nat) (cy : Nat → ClassId) (a : Nat → Nat) (v : V_X7) (Q : (Nat → Int32) → Int32 → Prop) (A : Nat → Prop) : Array Value → State → Outcome → State → Prop := va_Qv (fun (u : (Nat → Int32) × Int32) => Q u.1 u.2) (fun (u : (Nat → Int32) × Int32) t => xAt dC dI cy A (cX7 cy a (X7_s v) (X7_aside v) (X7_kept v) (X7_isKept v) u.1 u.2 (X7_text v) (X7_length v) (X7_thrown v) (X7_joint v) (X7_position v) (X7_isWrong v) (X7_isHollow v) (X7_sure v) (X7_away v) (X7_digested v)) t) A
set_option maxHeartbeats 4000000 in
set_option maxRecDepth 100000 in
theorem c_X7_save (l : Launch) (dC : Nat → ClassId) (dI : Nat → Nat → Nat) (cy : Nat → ClassId) (a : Nat → Nat) (sz : Nat) (v : V_X7) (Q : (Nat → Int32) → Int32 → Prop) (hq : wp_X7_save v Q) : Met l yX7_save wsX7_save ({ frames := 0, cells := 0, slots := 0, locals := 0 } : Room) (va_Pc [.ref (a 0)] (xPre dC dI cy (wX7 cy a v) sz)) (q_X7_save dC dI cy a v Q (va_A (wX7 cy a v) sz)) 0 0 (va_A (wX7 cy a v) sz) := by
  refine Met.ofW (cc := cX7_save) (maxL := 2) (ret := none) (by decide) rfl ?_
  intro p e s m args below meth c s₁ B hml hv
  obtain ⟨rfl, hsz, hP, hK, hD0⟩ := hv
  have hx := B.exec
  have hb := B.bytes
  have hr := B.returns
  have hts := atoms_spec (ws := wsX7_save) B.pre
  have hown : s.vm.findClass RX7 = some m.cls := findClass_of_methodNamed B.named
  have hlocks := B.notSynchronized
  subst hsz
  have hD := hD0.self (sz := s.heap.size)
  generalize hAe : va_A (wX7 cy a v) s.heap.size = A at hD ⊢
  have hAe0 : ∀ q : Nat, s.heap.size ≤ q → A q := fun q h => by rw [← hAe]; exact Or.inr h
  have hS : va_S A s.heap s.heap [] := va_S.rf
  have hl := lv_entry ([.ref (a 0)]) (n := 2) (Nat.le_of_ble_eq_true rfl)
  rw [lg_entry_eq]
  generalize (lg_sl ([.ref (a 0)]) ++ List.replicate (2 - (lg_sl ([.ref (a 0)])).length) Slot.unset).toArray = ls at hl ⊢
  have hl : lv_has ls 2 [(0, .ref (a 0))] := hl
  have lk0 := hts (Cond.fieldLink RX7 46 "MolesLawnModel" "savedMany" "I") (List.mem_cons_of_mem _ (List.mem_append_left _ (List.mem_of_getElem? (i := 0) rfl)))
  have lk1 := hts (Cond.fieldLink RX7 19 "MolesLawnModel" "saved" "[I") (List.mem_cons_of_mem _ (List.mem_append_left _ (List.mem_of_getElem? (i := 1) rfl)))
  have lk2 := hts (Cond.fieldLink RX7 7 "MolesLawnModel" "s" "[I") (List.mem_cons_of_mem _ (List.mem_append_left _ (List.mem_of_getElem? (i := 2) rfl)))
  have iK7 : ∀ w ∈ wsX70, w ∈ wsX7_save := fun _ h => (List.mem_cons_of_mem _ (List.mem_append_right _ h))
  unfold wp_X7_save at hq
  have J52 : ∀ (z52_v_savedMany : Int32) (y52_1 : Int32) (z52_v_saved : (Nat → Int32)) (H : Heap) (locs : List Loc) (ls : Array Slot), wp_X7_save_52 v z52_v_savedMany y52_1 z52_v_saved Q → va_P (dC, dI) vwCl (cX7 cy a (X7_s v) (X7_aside v) (X7_kept v) (X7_isKept v) z52_v_saved z52_v_savedMany (X7_text v) (X7_length v) (X7_thrown v) (X7_joint v) (X7_position v) (X7_isWrong v) (X7_isHollow v) (X7_sure v) (X7_away v) (X7_digested v)) H → va_D A (cX7 cy a (X7_s v) (X7_aside v) (X7_kept v) (X7_isKept v) z52_v_saved z52_v_savedMany (X7_text v) (X7_length v) (X7_thrown v) (X7_joint v) (X7_position v) (X7_isWrong v) (X7_isHollow v) (X7_sure v) (X7_away v) (X7_digested v)) → va_S A s.heap H locs → lv_has ls 2 [(0, .ref (a 0)), (1, .int y52_1)] → W p l e (headSpec wsX7_save ({ frames := 0, cells := 0, slots := 0, locals := 0 } : Room)).room s m ([.ref (a 0)] : List Value).toArray below meth c H locs 0 0 (MQ below (q_X7_save dC dI cy a v Q A) ([.ref (a 0)] : List Value).toArray s 0 0 A) (F0 m 52 ls []) := by
    intro z52_v_savedMany y52_1 z52_v_saved H locs ls hq hP hD hS hl
    obtain ⟨I52, μ52, h0, hs52⟩ := hq
    have key : ∀ (n : Nat) (y52_1 : Int32) (z52_v_saved : (Nat → Int32)) (H : Heap) (locs : List Loc) (ls : Array Slot), I52 y52_1 z52_v_saved → μ52 y52_1 z52_v_saved < n → va_P (dC, dI) vwCl (cX7 cy a (X7_s v) (X7_aside v) (X7_kept v) (X7_isKept v) z52_v_saved z52_v_savedMany (X7_text v) (X7_length v) (X7_thrown v) (X7_joint v) (X7_position v) (X7_isWrong v) (X7_isHollow v) (X7_sure v) (X7_away v) (X7_digested v)) H → va_D A (cX7 cy a (X7_s v) (X7_aside v) (X7_kept v) (X7_isKept v) z52_v_saved z52_v_savedMany (X7_text v) (X7_length v) (X7_thrown v) (X7_joint v) (X7_position v) (X7_isWrong v) (X7_isHollow v) (X7_sure v) (X7_away v) (X7_digested v)) → va_S A s.heap H locs → lv_has ls 2 [(0, .ref (a 0)), (1, .int y52_1)] → W p l e (headSpec wsX7_save ({ frames := 0, cells := 0, slots := 0, locals := 0 } : Room)).room s m ([.ref (a 0)] : List Value).toArray below meth c H locs 0 0 (MQ below (q_X7_save dC dI cy a v Q A) ([.ref (a 0)] : List Value).toArray s 0 0 A) (F0 m 52 ls []) := by
      intro n
      induction n with
      | zero => intro y52_1 z52_v_saved H locs ls _ hm; exact absurd hm (Nat.not_lt_zero _)
      | succ n ih =>
        intro y52_1 z52_v_saved H locs ls hI hm hP hD hS hl
        have hq := hs52 y52_1 z52_v_saved hI
        generalize hB52 : (fun (t0 : Int32) (t1 : (Nat → Int32)) => I52 t0 t1 ∧ μ52 t0 t1 < μ52 y52_1 z52_v_saved) = B52 at hq
        have bk52 : ∀ (y52_1 : Int32) (z52_v_saved : (Nat → Int32)) (H : Heap) (locs : List Loc) (ls : Array Slot), B52 y52_1 z52_v_saved → va_P (dC, dI) vwCl (cX7 cy a (X7_s v) (X7_aside v) (X7_kept v) (X7_isKept v) z52_v_saved z52_v_savedMany (X7_text v) (X7_length v) (X7_thrown v) (X7_joint v) (X7_position v) (X7_isWrong v) (X7_isHollow v) (X7_sure v) (X7_away v) (X7_digested v)) H → va_D A (cX7 cy a (X7_s v) (X7_aside v) (X7_kept v) (X7_isKept v) z52_v_saved z52_v_savedMany (X7_text v) (X7_length v) (X7_thrown v) (X7_joint v) (X7_position v) (X7_isWrong v) (X7_isHollow v) (X7_sure v) (X7_away v) (X7_digested v)) → va_S A s.heap H locs → lv_has ls 2 [(0, .ref (a 0)), (1, .int y52_1)] → W p l e (headSpec wsX7_save ({ frames := 0, cells := 0, slots := 0, locals := 0 } : Room)).room s m ([.ref (a 0)] : List Value).toArray below meth c H locs 0 0 (MQ below (q_X7_save dC dI cy a v Q A) ([.ref (a 0)] : List Value).toArray s 0 0 A) (F0 m 52 ls []) := by
          intro y52_1 z52_v_saved H locs ls h
          rw [← hB52] at h
          exact ih y52_1 z52_v_saved H locs ls h.1 (Nat.lt_of_lt_of_le h.2 (Nat.le_of_lt_succ hm))
        unfold wb_X7_save_52 at hq
        refine lv_iload_n hx hb dX7_save_52 rfl (lv_at hl 1 rfl) ?_
        refine lv_sipush (v := 1472) hx hb dX7_save_53 (by decide) ?_
        obtain ⟨hqA, hqB⟩ := hq
        refine lv_icmp_ge (tgt := 86) hx hb dX7_save_56 (by decide) (fun c3 => ?_) (fun c3 => ?_)
        · have hq := hqA c3
          refine lv_aload_n hx hb dX7_save_86 rfl (lv_at hl 0 rfl) ?_
          refine lv_dup hx hb dX7_save_87 rfl ?_
          refine va_get (D := (dC, dI)) (ci := 7) (v := .int z52_v_savedMany) (C := RX7) (T := TX7) (N := 16) hx hb hts iK7 hown hK hP 0 rfl rfl 5 (by decide) lk0 (fun _ h9 => h9) rfl dX7_save_88 ?_
          refine lv_iconst (v := 1) hx hb dX7_save_91 (by decide) ?_
          refine lv_iadd hx hb dX7_save_92 ?_
          refine va_put (D := (dC, dI)) (ci := 7) (v := .int (z52_v_savedMany + 1)) (ty := .int) (C := RX7) (T := TX7) (N := 16) hx hb hts iK7 tyX7 tyX7_ok nmX7 hown hK hP hD hS 0 rfl rfl 5 (by decide) lk0 (fun _ h9 => h9) rfl (by decide +kernel) rfl rfl (Nat.le_of_ble_eq_true rfl) dX7_save_93 (fun H locs hP hD hS => ?_)
          have hP : va_P (dC, dI) vwCl (cX7 cy a (X7_s v) (X7_aside v) (X7_kept v) (X7_isKept v) z52_v_saved (z52_v_savedMany + 1) (X7_text v) (X7_length v) (X7_thrown v) (X7_joint v) (X7_position v) (X7_isWrong v) (X7_isHollow v) (X7_sure v) (X7_away v) (X7_digested v)) H := hP
          have hD : va_D A (cX7 cy a (X7_s v) (X7_aside v) (X7_kept v) (X7_isKept v) z52_v_saved (z52_v_savedMany + 1) (X7_text v) (X7_length v) (X7_thrown v) (X7_joint v) (X7_position v) (X7_isWrong v) (X7_isHollow v) (X7_sure v) (X7_away v) (X7_digested v)) := hD
          exact W.vret hx hb hr (fun t ht hW => ⟨⟨(z52_v_saved, (z52_v_savedMany + 1)), rfl, hq, (xAt_of hP hK hD ht hW)⟩, hS.F ht⟩) hS.2.2 dX7_save_96
        · have hq := hqB c3
          refine lv_aload_n hx hb dX7_save_59 rfl (lv_at hl 0 rfl) ?_
          refine va_get (D := (dC, dI)) (ci := 7) (v := .ref (a 4)) (C := RX7) (T := TX7) (N := 16) hx hb hts iK7 hown hK hP 0 rfl rfl 4 (by decide) lk1 (fun _ h9 => h9) rfl dX7_save_60 ?_
          refine lv_sipush (v := 1472) hx hb dX7_save_63 (by decide) ?_
          refine lv_aload_n hx hb dX7_save_66 rfl (lv_at hl 0 rfl) ?_
          refine va_get (D := (dC, dI)) (ci := 7) (v := .int z52_v_savedMany) (C := RX7) (T := TX7) (N := 16) hx hb hts iK7 hown hK hP 0 rfl rfl 5 (by decide) lk0 (fun _ h9 => h9) rfl dX7_save_67 ?_
          refine lv_imul hx hb dX7_save_70 ?_
          refine lv_iload_n hx hb dX7_save_71 rfl (lv_at hl 1 rfl) ?_
          refine lv_iadd hx hb dX7_save_72 ?_
          refine lv_aload_n hx hb dX7_save_73 rfl (lv_at hl 0 rfl) ?_
          refine va_get (D := (dC, dI)) (ci := 7) (v := .ref (a 1)) (C := RX7) (T := TX7) (N := 16) hx hb hts iK7 hown hK hP 0 rfl rfl 0 (by decide) lk2 (fun _ h9 => h9) rfl dX7_save_74 ?_
          refine lv_iload_n hx hb dX7_save_77 rfl (lv_at hl 1 rfl) ?_
          obtain ⟨g1, hq⟩ := hq
          refine va_iald hx hb hK hP 1 0 rfl rfl g1 dX7_save_78 ?_
          obtain ⟨g2, hq⟩ := hq
          refine va_iast hx hb hK hP hD hS 4 0 rfl rfl g2 dX7_save_79 (fun H locs hP hD hS => ?_)
          have hP : va_P (dC, dI) vwCl (cX7 cy a (X7_s v) (X7_aside v) (X7_kept v) (X7_isKept v) (upd z52_v_saved ((1472 * z52_v_savedMany) + y52_1).toNatClampNeg ((X7_s v) y52_1.toNatClampNeg)) z52_v_savedMany (X7_text v) (X7_length v) (X7_thrown v) (X7_joint v) (X7_position v) (X7_isWrong v) (X7_isHollow v) (X7_sure v) (X7_away v) (X7_digested v)) H := hP
          have hD : va_D A (cX7 cy a (X7_s v) (X7_aside v) (X7_kept v) (X7_isKept v) (upd z52_v_saved ((1472 * z52_v_savedMany) + y52_1).toNatClampNeg ((X7_s v) y52_1.toNatClampNeg)) z52_v_savedMany (X7_text v) (X7_length v) (X7_thrown v) (X7_joint v) (X7_position v) (X7_isWrong v) (X7_isHollow v) (X7_sure v) (X7_away v) (X7_digested v)) := hD
          refine lv_iinc (v := (y52_1 + 1)) (lv' := [(1, .int (y52_1 + 1)), (0, .ref (a 0))]) hx hb dX7_save_80 hl (k := 1) rfl rfl (by decide) rfl (fun ls hl => ?_)
          refine lv_goto (tgt := 52) hx hb dX7_save_83 (by decide) ?_
          exact bk52 (y52_1 + 1) (upd z52_v_saved ((1472 * z52_v_savedMany) + y52_1).toNatClampNeg ((X7_s v) y52_1.toNatClampNeg)) _ _ _ hq hP hD hS (lv_sub hl [1, 0] rfl)
    exact key _ y52_1 z52_v_saved H locs ls h0 (Nat.lt_succ_self _) hP hD hS hl
  have J11 : ∀  (y11_1 : Int32) (z11_v_saved : (Nat → Int32)) (H : Heap) (locs : List Loc) (ls : Array Slot), wp_X7_save_11 v  y11_1 z11_v_saved Q → va_P (dC, dI) vwCl (cX7 cy a (X7_s v) (X7_aside v) (X7_kept v) (X7_isKept v) z11_v_saved (X7_savedMany v) (X7_text v) (X7_length v) (X7_thrown v) (X7_joint v) (X7_position v) (X7_isWrong v) (X7_isHollow v) (X7_sure v) (X7_away v) (X7_digested v)) H → va_D A (cX7 cy a (X7_s v) (X7_aside v) (X7_kept v) (X7_isKept v) z11_v_saved (X7_savedMany v) (X7_text v) (X7_length v) (X7_thrown v) (X7_joint v) (X7_position v) (X7_isWrong v) (X7_isHollow v) (X7_sure v) (X7_away v) (X7_digested v)) → va_S A s.heap H locs → lv_has ls 2 [(0, .ref (a 0)), (1, .int y11_1)] → W p l e (headSpec wsX7_save ({ frames := 0, cells := 0, slots := 0, locals := 0 } : Room)).room s m ([.ref (a 0)] : List Value).toArray below meth c H locs 0 0 (MQ below (q_X7_save dC dI cy a v Q A) ([.ref (a 0)] : List Value).toArray s 0 0 A) (F0 m 11 ls []) := by
    intro  y11_1 z11_v_saved H locs ls hq hP hD hS hl
    obtain ⟨I11, μ11, h0, hs11⟩ := hq
    have key : ∀ (n : Nat) (y11_1 : Int32) (z11_v_saved : (Nat → Int32)) (H : Heap) (locs : List Loc) (ls : Array Slot), I11 y11_1 z11_v_saved → μ11 y11_1 z11_v_saved < n → va_P (dC, dI) vwCl (cX7 cy a (X7_s v) (X7_aside v) (X7_kept v) (X7_isKept v) z11_v_saved (X7_savedMany v) (X7_text v) (X7_length v) (X7_thrown v) (X7_joint v) (X7_position v) (X7_isWrong v) (X7_isHollow v) (X7_sure v) (X7_away v) (X7_digested v)) H → va_D A (cX7 cy a (X7_s v) (X7_aside v) (X7_kept v) (X7_isKept v) z11_v_saved (X7_savedMany v) (X7_text v) (X7_length v) (X7_thrown v) (X7_joint v) (X7_position v) (X7_isWrong v) (X7_isHollow v) (X7_sure v) (X7_away v) (X7_digested v)) → va_S A s.heap H locs → lv_has ls 2 [(0, .ref (a 0)), (1, .int y11_1)] → W p l e (headSpec wsX7_save ({ frames := 0, cells := 0, slots := 0, locals := 0 } : Room)).room s m ([.ref (a 0)] : List Value).toArray below meth c H locs 0 0 (MQ below (q_X7_save dC dI cy a v Q A) ([.ref (a 0)] : List Value).toArray s 0 0 A) (F0 m 11 ls []) := by
      intro n
      induction n with
      | zero => intro y11_1 z11_v_saved H locs ls _ hm; exact absurd hm (Nat.not_lt_zero _)
      | succ n ih =>
        intro y11_1 z11_v_saved H locs ls hI hm hP hD hS hl
        have hq := hs11 y11_1 z11_v_saved hI
        generalize hB11 : (fun (t0 : Int32) (t1 : (Nat → Int32)) => I11 t0 t1 ∧ μ11 t0 t1 < μ11 y11_1 z11_v_saved) = B11 at hq
        have bk11 : ∀ (y11_1 : Int32) (z11_v_saved : (Nat → Int32)) (H : Heap) (locs : List Loc) (ls : Array Slot), B11 y11_1 z11_v_saved → va_P (dC, dI) vwCl (cX7 cy a (X7_s v) (X7_aside v) (X7_kept v) (X7_isKept v) z11_v_saved (X7_savedMany v) (X7_text v) (X7_length v) (X7_thrown v) (X7_joint v) (X7_position v) (X7_isWrong v) (X7_isHollow v) (X7_sure v) (X7_away v) (X7_digested v)) H → va_D A (cX7 cy a (X7_s v) (X7_aside v) (X7_kept v) (X7_isKept v) z11_v_saved (X7_savedMany v) (X7_text v) (X7_length v) (X7_thrown v) (X7_joint v) (X7_position v) (X7_isWrong v) (X7_isHollow v) (X7_sure v) (X7_away v) (X7_digested v)) → va_S A s.heap H locs → lv_has ls 2 [(0, .ref (a 0)), (1, .int y11_1)] → W p l e (headSpec wsX7_save ({ frames := 0, cells := 0, slots := 0, locals := 0 } : Room)).room s m ([.ref (a 0)] : List Value).toArray below meth c H locs 0 0 (MQ below (q_X7_save dC dI cy a v Q A) ([.ref (a 0)] : List Value).toArray s 0 0 A) (F0 m 11 ls []) := by
          intro y11_1 z11_v_saved H locs ls h
          rw [← hB11] at h
          exact ih y11_1 z11_v_saved H locs ls h.1 (Nat.lt_of_lt_of_le h.2 (Nat.le_of_lt_succ hm))
        unfold wb_X7_save_11 at hq
        refine lv_iload_n hx hb dX7_save_11 rfl (lv_at hl 1 rfl) ?_
        refine lv_sipush (v := 7360) hx hb dX7_save_12 (by decide) ?_
        obtain ⟨hqA, hqB⟩ := hq
        refine lv_icmp_ge (tgt := 40) hx hb dX7_save_15 (by decide) (fun c6 => ?_) (fun c6 => ?_)
        · have hq := hqA c6
          refine lv_aload_n hx hb dX7_save_40 rfl (lv_at hl 0 rfl) ?_
          refine lv_dup hx hb dX7_save_41 rfl ?_
          refine va_get (D := (dC, dI)) (ci := 7) (v := .int (X7_savedMany v)) (C := RX7) (T := TX7) (N := 16) hx hb hts iK7 hown hK hP 0 rfl rfl 5 (by decide) lk0 (fun _ h9 => h9) rfl dX7_save_42 ?_
          refine lv_iconst (v := 1) hx hb dX7_save_45 (by decide) ?_
          refine lv_isub hx hb dX7_save_46 ?_
          refine va_put (D := (dC, dI)) (ci := 7) (v := .int ((X7_savedMany v) - 1)) (ty := .int) (C := RX7) (T := TX7) (N := 16) hx hb hts iK7 tyX7 tyX7_ok nmX7 hown hK hP hD hS 0 rfl rfl 5 (by decide) lk0 (fun _ h9 => h9) rfl (by decide +kernel) rfl rfl (Nat.le_of_ble_eq_true rfl) dX7_save_47 (fun H locs hP hD hS => ?_)
          have hP : va_P (dC, dI) vwCl (cX7 cy a (X7_s v) (X7_aside v) (X7_kept v) (X7_isKept v) z11_v_saved ((X7_savedMany v) - 1) (X7_text v) (X7_length v) (X7_thrown v) (X7_joint v) (X7_position v) (X7_isWrong v) (X7_isHollow v) (X7_sure v) (X7_away v) (X7_digested v)) H := hP
          have hD : va_D A (cX7 cy a (X7_s v) (X7_aside v) (X7_kept v) (X7_isKept v) z11_v_saved ((X7_savedMany v) - 1) (X7_text v) (X7_length v) (X7_thrown v) (X7_joint v) (X7_position v) (X7_isWrong v) (X7_isHollow v) (X7_sure v) (X7_away v) (X7_digested v)) := hD
          refine lv_iconst (v := 0) hx hb dX7_save_50 (by decide) ?_
          refine lv_istore_n (lv' := [(1, .int 0), (0, .ref (a 0))]) hx hb dX7_save_51 rfl hl (by decide) rfl (fun ls hl => ?_)
          exact J52 ((X7_savedMany v) - 1) 0 z11_v_saved _ _ _ hq hP hD hS (lv_sub hl [1, 0] rfl)
        · have hq := hqB c6
          refine lv_aload_n hx hb dX7_save_18 rfl (lv_at hl 0 rfl) ?_
          refine va_get (D := (dC, dI)) (ci := 7) (v := .ref (a 4)) (C := RX7) (T := TX7) (N := 16) hx hb hts iK7 hown hK hP 0 rfl rfl 4 (by decide) lk1 (fun _ h9 => h9) rfl dX7_save_19 ?_
          refine lv_iload_n hx hb dX7_save_22 rfl (lv_at hl 1 rfl) ?_
          refine lv_aload_n hx hb dX7_save_23 rfl (lv_at hl 0 rfl) ?_
          refine va_get (D := (dC, dI)) (ci := 7) (v := .ref (a 4)) (C := RX7) (T := TX7) (N := 16) hx hb hts iK7 hown hK hP 0 rfl rfl 4 (by decide) lk1 (fun _ h9 => h9) rfl dX7_save_24 ?_
          refine lv_sipush (v := 1472) hx hb dX7_save_27 (by decide) ?_
          refine lv_iload_n hx hb dX7_save_30 rfl (lv_at hl 1 rfl) ?_
          refine lv_iadd hx hb dX7_save_31 ?_
          obtain ⟨g4, hq⟩ := hq
          refine va_iald hx hb hK hP 4 0 rfl rfl g4 dX7_save_32 ?_
          obtain ⟨g5, hq⟩ := hq
          refine va_iast hx hb hK hP hD hS 4 0 rfl rfl g5 dX7_save_33 (fun H locs hP hD hS => ?_)
          have hP : va_P (dC, dI) vwCl (cX7 cy a (X7_s v) (X7_aside v) (X7_kept v) (X7_isKept v) (upd z11_v_saved y11_1.toNatClampNeg (z11_v_saved (1472 + y11_1).toNatClampNeg)) (X7_savedMany v) (X7_text v) (X7_length v) (X7_thrown v) (X7_joint v) (X7_position v) (X7_isWrong v) (X7_isHollow v) (X7_sure v) (X7_away v) (X7_digested v)) H := hP
          have hD : va_D A (cX7 cy a (X7_s v) (X7_aside v) (X7_kept v) (X7_isKept v) (upd z11_v_saved y11_1.toNatClampNeg (z11_v_saved (1472 + y11_1).toNatClampNeg)) (X7_savedMany v) (X7_text v) (X7_length v) (X7_thrown v) (X7_joint v) (X7_position v) (X7_isWrong v) (X7_isHollow v) (X7_sure v) (X7_away v) (X7_digested v)) := hD
          refine lv_iinc (v := (y11_1 + 1)) (lv' := [(1, .int (y11_1 + 1)), (0, .ref (a 0))]) hx hb dX7_save_34 hl (k := 1) rfl rfl (by decide) rfl (fun ls hl => ?_)
          refine lv_goto (tgt := 11) hx hb dX7_save_37 (by decide) ?_
          exact bk11 (y11_1 + 1) (upd z11_v_saved y11_1.toNatClampNeg (z11_v_saved (1472 + y11_1).toNatClampNeg)) _ _ _ hq hP hD hS (lv_sub hl [1, 0] rfl)
    exact key _ y11_1 z11_v_saved H locs ls h0 (Nat.lt_succ_self _) hP hD hS hl
  refine lv_aload_n hx hb dX7_save_0 rfl (lv_at hl 0 rfl) ?_
  refine va_get (D := (dC, dI)) (ci := 7) (v := .int (X7_savedMany v)) (C := RX7) (T := TX7) (N := 16) hx hb hts iK7 hown hK hP 0 rfl rfl 5 (by decide) lk0 (fun _ h9 => h9) rfl dX7_save_1 ?_
  refine lv_bipush (v := 6) hx hb dX7_save_4 (by decide) ?_
  obtain ⟨hqA, hqB⟩ := hq
  refine lv_icmp_ne (tgt := 50) hx hb dX7_save_6 (by decide) (fun c7 => ?_) (fun c7 => ?_)
  · have hq := hqB c7
    refine lv_iconst (v := 0) hx hb dX7_save_50 (by decide) ?_
    refine lv_istore_n (lv' := [(1, .int 0), (0, .ref (a 0))]) hx hb dX7_save_51 rfl hl (by decide) rfl (fun ls hl => ?_)
    exact J52 (X7_savedMany v) 0 (X7_saved v) _ _ _ hq hP hD hS (lv_sub hl [1, 0] rfl)
  · have hq := hqA c7
    refine lv_iconst (v := 0) hx hb dX7_save_9 (by decide) ?_
    refine lv_istore_n (lv' := [(1, .int 0), (0, .ref (a 0))]) hx hb dX7_save_10 rfl hl (by decide) rfl (fun ls hl => ?_)
    exact J11  0 (X7_saved v) _ _ _ hq hP hD hS (lv_sub hl [1, 0] rfl)
def wb_X7_putAside_2 (v : V_X7)  (y2_1 : Int32) (z2_v_aside : (Nat → Int32)) (B2 : Int32 → (Nat → Int32) → Prop) (Q : (Nat → Int32) → Prop) : Prop :=
  ((1472 ≤ y2_1 → Q z2_v_aside) ∧
  (¬ 1472 ≤ y2_1 → vp_in y2_1 1472 ∧ B2 (y2_1 + 1) (upd z2_v_aside y2_1.toNatClampNeg ((X7_s v) y2_1.toNatClampNeg))))
def wp_X7_putAside_2 (v : V_X7)  (y2_1 : Int32) (z2_v_aside : (Nat → Int32)) (Q : (Nat → Int32) → Prop) : Prop :=
  ∃ (I : Int32 → (Nat → Int32) → Prop) (μ : Int32 → (Nat → Int32) → Nat), I y2_1 z2_v_aside ∧ ∀ (s0 : Int32) (s1 : (Nat → Int32)), I s0 s1 → wb_X7_putAside_2 v  s0 s1 (fun t0 t1 => I t0 t1 ∧ μ t0 t1 < μ s0 s1) Q
def wp_X7_putAside (v : V_X7) (Q : (Nat → Int32) → Prop) : Prop :=
  wp_X7_putAside_2 v  0 (X7_aside v) Q
def q_X7_putAside (dC : Nat → ClassId) (dI : Nat → Nat → Nat) (cy : Nat → ClassId) (a : Nat → Nat) (v : V_X7) (Q : (Nat → Int32) → Prop) (A : Nat → Prop) : Array Value → State → Outcome → State → Prop := va_Qv (fun (u : (Nat → Int32)) => Q u) (fun (u : (Nat → Int32)) t => xAt dC dI cy A (cX7 cy a (X7_s v) u (X7_kept v) (X7_isKept v) (X7_saved v) (X7_savedMany v) (X7_text v) (X7_length v) (X7_thrown v) (X7_joint v) (X7_position v) (X7_isWrong v) (X7_isHollow v) (X7_sure v) (X7_away v) (X7_digested v)) t) A
set_option maxHeartbeats 4000000 in
set_option maxRecDepth 100000 in
theorem c_X7_putAside (l : Launch) (dC : Nat → ClassId) (dI : Nat → Nat → Nat) (cy : Nat → ClassId) (a : Nat → Nat) (sz : Nat) (v : V_X7) (Q : (Nat → Int32) → Prop) (hq : wp_X7_putAside v Q) : Met l yX7_putAside wsX7_putAside ({ frames := 0, cells := 0, slots := 0, locals := 0 } : Room) (va_Pc [.ref (a 0)] (xPre dC dI cy (wX7 cy a v) sz)) (q_X7_putAside dC dI cy a v Q (va_A (wX7 cy a v) sz)) 0 0 (va_A (wX7 cy a v) sz) := by
  refine Met.ofW (cc := cX7_putAside) (maxL := 2) (ret := none) (by decide) rfl ?_
  intro p e s m args below meth c s₁ B hml hv
  obtain ⟨rfl, hsz, hP, hK, hD0⟩ := hv
  have hx := B.exec
  have hb := B.bytes
  have hr := B.returns
  have hts := atoms_spec (ws := wsX7_putAside) B.pre
  have hown : s.vm.findClass RX7 = some m.cls := findClass_of_methodNamed B.named
  have hlocks := B.notSynchronized
  subst hsz
  have hD := hD0.self (sz := s.heap.size)
  generalize hAe : va_A (wX7 cy a v) s.heap.size = A at hD ⊢
  have hAe0 : ∀ q : Nat, s.heap.size ≤ q → A q := fun q h => by rw [← hAe]; exact Or.inr h
  have hS : va_S A s.heap s.heap [] := va_S.rf
  have hl := lv_entry ([.ref (a 0)]) (n := 2) (Nat.le_of_ble_eq_true rfl)
  rw [lg_entry_eq]
  generalize (lg_sl ([.ref (a 0)]) ++ List.replicate (2 - (lg_sl ([.ref (a 0)])).length) Slot.unset).toArray = ls at hl ⊢
  have hl : lv_has ls 2 [(0, .ref (a 0))] := hl
  have lk0 := hts (Cond.fieldLink RX7 13 "MolesLawnModel" "aside" "[I") (List.mem_cons_of_mem _ (List.mem_append_left _ (List.mem_of_getElem? (i := 0) rfl)))
  have lk1 := hts (Cond.fieldLink RX7 7 "MolesLawnModel" "s" "[I") (List.mem_cons_of_mem _ (List.mem_append_left _ (List.mem_of_getElem? (i := 1) rfl)))
  have iK7 : ∀ w ∈ wsX70, w ∈ wsX7_putAside := fun _ h => (List.mem_cons_of_mem _ (List.mem_append_right _ h))
  unfold wp_X7_putAside at hq
  have J2 : ∀  (y2_1 : Int32) (z2_v_aside : (Nat → Int32)) (H : Heap) (locs : List Loc) (ls : Array Slot), wp_X7_putAside_2 v  y2_1 z2_v_aside Q → va_P (dC, dI) vwCl (cX7 cy a (X7_s v) z2_v_aside (X7_kept v) (X7_isKept v) (X7_saved v) (X7_savedMany v) (X7_text v) (X7_length v) (X7_thrown v) (X7_joint v) (X7_position v) (X7_isWrong v) (X7_isHollow v) (X7_sure v) (X7_away v) (X7_digested v)) H → va_D A (cX7 cy a (X7_s v) z2_v_aside (X7_kept v) (X7_isKept v) (X7_saved v) (X7_savedMany v) (X7_text v) (X7_length v) (X7_thrown v) (X7_joint v) (X7_position v) (X7_isWrong v) (X7_isHollow v) (X7_sure v) (X7_away v) (X7_digested v)) → va_S A s.heap H locs → lv_has ls 2 [(0, .ref (a 0)), (1, .int y2_1)] → W p l e (headSpec wsX7_putAside ({ frames := 0, cells := 0, slots := 0, locals := 0 } : Room)).room s m ([.ref (a 0)] : List Value).toArray below meth c H locs 0 0 (MQ below (q_X7_putAside dC dI cy a v Q A) ([.ref (a 0)] : List Value).toArray s 0 0 A) (F0 m 2 ls []) := by
    intro  y2_1 z2_v_aside H locs ls hq hP hD hS hl
    obtain ⟨I2, μ2, h0, hs2⟩ := hq
    have key : ∀ (n : Nat) (y2_1 : Int32) (z2_v_aside : (Nat → Int32)) (H : Heap) (locs : List Loc) (ls : Array Slot), I2 y2_1 z2_v_aside → μ2 y2_1 z2_v_aside < n → va_P (dC, dI) vwCl (cX7 cy a (X7_s v) z2_v_aside (X7_kept v) (X7_isKept v) (X7_saved v) (X7_savedMany v) (X7_text v) (X7_length v) (X7_thrown v) (X7_joint v) (X7_position v) (X7_isWrong v) (X7_isHollow v) (X7_sure v) (X7_away v) (X7_digested v)) H → va_D A (cX7 cy a (X7_s v) z2_v_aside (X7_kept v) (X7_isKept v) (X7_saved v) (X7_savedMany v) (X7_text v) (X7_length v) (X7_thrown v) (X7_joint v) (X7_position v) (X7_isWrong v) (X7_isHollow v) (X7_sure v) (X7_away v) (X7_digested v)) → va_S A s.heap H locs → lv_has ls 2 [(0, .ref (a 0)), (1, .int y2_1)] → W p l e (headSpec wsX7_putAside ({ frames := 0, cells := 0, slots := 0, locals := 0 } : Room)).room s m ([.ref (a 0)] : List Value).toArray below meth c H locs 0 0 (MQ below (q_X7_putAside dC dI cy a v Q A) ([.ref (a 0)] : List Value).toArray s 0 0 A) (F0 m 2 ls []) := by
      intro n
      induction n with
      | zero => intro y2_1 z2_v_aside H locs ls _ hm; exact absurd hm (Nat.not_lt_zero _)
      | succ n ih =>
        intro y2_1 z2_v_aside H locs ls hI hm hP hD hS hl
        have hq := hs2 y2_1 z2_v_aside hI
        generalize hB2 : (fun (t0 : Int32) (t1 : (Nat → Int32)) => I2 t0 t1 ∧ μ2 t0 t1 < μ2 y2_1 z2_v_aside) = B2 at hq
        have bk2 : ∀ (y2_1 : Int32) (z2_v_aside : (Nat → Int32)) (H : Heap) (locs : List Loc) (ls : Array Slot), B2 y2_1 z2_v_aside → va_P (dC, dI) vwCl (cX7 cy a (X7_s v) z2_v_aside (X7_kept v) (X7_isKept v) (X7_saved v) (X7_savedMany v) (X7_text v) (X7_length v) (X7_thrown v) (X7_joint v) (X7_position v) (X7_isWrong v) (X7_isHollow v) (X7_sure v) (X7_away v) (X7_digested v)) H → va_D A (cX7 cy a (X7_s v) z2_v_aside (X7_kept v) (X7_isKept v) (X7_saved v) (X7_savedMany v) (X7_text v) (X7_length v) (X7_thrown v) (X7_joint v) (X7_position v) (X7_isWrong v) (X7_isHollow v) (X7_sure v) (X7_away v) (X7_digested v)) → va_S A s.heap H locs → lv_has ls 2 [(0, .ref (a 0)), (1, .int y2_1)] → W p l e (headSpec wsX7_putAside ({ frames := 0, cells := 0, slots := 0, locals := 0 } : Room)).room s m ([.ref (a 0)] : List Value).toArray below meth c H locs 0 0 (MQ below (q_X7_putAside dC dI cy a v Q A) ([.ref (a 0)] : List Value).toArray s 0 0 A) (F0 m 2 ls []) := by
          intro y2_1 z2_v_aside H locs ls h
          rw [← hB2] at h
          exact ih y2_1 z2_v_aside H locs ls h.1 (Nat.lt_of_lt_of_le h.2 (Nat.le_of_lt_succ hm))
        unfold wb_X7_putAside_2 at hq
        refine lv_iload_n hx hb dX7_putAside_2 rfl (lv_at hl 1 rfl) ?_
        refine lv_sipush (v := 1472) hx hb dX7_putAside_3 (by decide) ?_
        obtain ⟨hqA, hqB⟩ := hq
        refine lv_icmp_ge (tgt := 27) hx hb dX7_putAside_6 (by decide) (fun c2 => ?_) (fun c2 => ?_)
        · have hq := hqA c2
          exact W.vret hx hb hr (fun t ht hW => ⟨⟨z2_v_aside, rfl, hq, (xAt_of hP hK hD ht hW)⟩, hS.F ht⟩) hS.2.2 dX7_putAside_27
        · have hq := hqB c2
          refine lv_aload_n hx hb dX7_putAside_9 rfl (lv_at hl 0 rfl) ?_
          refine va_get (D := (dC, dI)) (ci := 7) (v := .ref (a 2)) (C := RX7) (T := TX7) (N := 16) hx hb hts iK7 hown hK hP 0 rfl rfl 1 (by decide) lk0 (fun _ h9 => h9) rfl dX7_putAside_10 ?_
          refine lv_iload_n hx hb dX7_putAside_13 rfl (lv_at hl 1 rfl) ?_
          refine lv_aload_n hx hb dX7_putAside_14 rfl (lv_at hl 0 rfl) ?_
          refine va_get (D := (dC, dI)) (ci := 7) (v := .ref (a 1)) (C := RX7) (T := TX7) (N := 16) hx hb hts iK7 hown hK hP 0 rfl rfl 0 (by decide) lk1 (fun _ h9 => h9) rfl dX7_putAside_15 ?_
          refine lv_iload_n hx hb dX7_putAside_18 rfl (lv_at hl 1 rfl) ?_
          obtain ⟨g1, hq⟩ := hq
          refine va_iald hx hb hK hP 1 0 rfl rfl g1 dX7_putAside_19 ?_
          refine va_iast hx hb hK hP hD hS 2 0 rfl rfl g1 dX7_putAside_20 (fun H locs hP hD hS => ?_)
          have hP : va_P (dC, dI) vwCl (cX7 cy a (X7_s v) (upd z2_v_aside y2_1.toNatClampNeg ((X7_s v) y2_1.toNatClampNeg)) (X7_kept v) (X7_isKept v) (X7_saved v) (X7_savedMany v) (X7_text v) (X7_length v) (X7_thrown v) (X7_joint v) (X7_position v) (X7_isWrong v) (X7_isHollow v) (X7_sure v) (X7_away v) (X7_digested v)) H := hP
          have hD : va_D A (cX7 cy a (X7_s v) (upd z2_v_aside y2_1.toNatClampNeg ((X7_s v) y2_1.toNatClampNeg)) (X7_kept v) (X7_isKept v) (X7_saved v) (X7_savedMany v) (X7_text v) (X7_length v) (X7_thrown v) (X7_joint v) (X7_position v) (X7_isWrong v) (X7_isHollow v) (X7_sure v) (X7_away v) (X7_digested v)) := hD
          refine lv_iinc (v := (y2_1 + 1)) (lv' := [(1, .int (y2_1 + 1)), (0, .ref (a 0))]) hx hb dX7_putAside_21 hl (k := 1) rfl rfl (by decide) rfl (fun ls hl => ?_)
          refine lv_goto (tgt := 2) hx hb dX7_putAside_24 (by decide) ?_
          exact bk2 (y2_1 + 1) (upd z2_v_aside y2_1.toNatClampNeg ((X7_s v) y2_1.toNatClampNeg)) _ _ _ hq hP hD hS (lv_sub hl [1, 0] rfl)
    exact key _ y2_1 z2_v_aside H locs ls h0 (Nat.lt_succ_self _) hP hD hS hl
  refine lv_iconst (v := 0) hx hb dX7_putAside_0 (by decide) ?_
  refine lv_istore_n (lv' := [(1, .int 0), (0, .ref (a 0))]) hx hb dX7_putAside_1 rfl hl (by decide) rfl (fun ls hl => ?_)
  exact J2  0 (X7_aside v) _ _ _ hq hP hD hS (lv_sub hl [1, 0] rfl)
def wb_X7_putBack_2 (v : V_X7)  (y2_1 : Int32) (z2_v_s : (Nat → Int32)) (B2 : Int32 → (Nat → Int32) → Prop) (Q : (Nat → Int32) → Prop) : Prop :=
  ((1472 ≤ y2_1 → Q z2_v_s) ∧
  (¬ 1472 ≤ y2_1 → vp_in y2_1 1472 ∧ B2 (y2_1 + 1) (upd z2_v_s y2_1.toNatClampNeg ((X7_aside v) y2_1.toNatClampNeg))))
def wp_X7_putBack_2 (v : V_X7)  (y2_1 : Int32) (z2_v_s : (Nat → Int32)) (Q : (Nat → Int32) → Prop) : Prop :=
  ∃ (I : Int32 → (Nat → Int32) → Prop) (μ : Int32 → (Nat → Int32) → Nat), I y2_1 z2_v_s ∧ ∀ (s0 : Int32) (s1 : (Nat → Int32)), I s0 s1 → wb_X7_putBack_2 v  s0 s1 (fun t0 t1 => I t0 t1 ∧ μ t0 t1 < μ s0 s1) Q
def wp_X7_putBack (v : V_X7) (Q : (Nat → Int32) → Prop) : Prop :=
  wp_X7_putBack_2 v  0 (X7_s v) Q
def q_X7_putBack (dC : Nat → ClassId) (dI : Nat → Nat → Nat) (cy : Nat → ClassId) (a : Nat → Nat) (v : V_X7) (Q : (Nat → Int32) → Prop) (A : Nat → Prop) : Array Value → State → Outcome → State → Prop := va_Qv (fun (u : (Nat → Int32)) => Q u) (fun (u : (Nat → Int32)) t => xAt dC dI cy A (cX7 cy a u (X7_aside v) (X7_kept v) (X7_isKept v) (X7_saved v) (X7_savedMany v) (X7_text v) (X7_length v) (X7_thrown v) (X7_joint v) (X7_position v) (X7_isWrong v) (X7_isHollow v) (X7_sure v) (X7_away v) (X7_digested v)) t) A
set_option maxHeartbeats 4000000 in
set_option maxRecDepth 100000 in
theorem c_X7_putBack (l : Launch) (dC : Nat → ClassId) (dI : Nat → Nat → Nat) (cy : Nat → ClassId) (a : Nat → Nat) (sz : Nat) (v : V_X7) (Q : (Nat → Int32) → Prop) (hq : wp_X7_putBack v Q) : Met l yX7_putBack wsX7_putBack ({ frames := 0, cells := 0, slots := 0, locals := 0 } : Room) (va_Pc [.ref (a 0)] (xPre dC dI cy (wX7 cy a v) sz)) (q_X7_putBack dC dI cy a v Q (va_A (wX7 cy a v) sz)) 0 0 (va_A (wX7 cy a v) sz) := by
  refine Met.ofW (cc := cX7_putBack) (maxL := 2) (ret := none) (by decide) rfl ?_
  intro p e s m args below meth c s₁ B hml hv
  obtain ⟨rfl, hsz, hP, hK, hD0⟩ := hv
  have hx := B.exec
  have hb := B.bytes
  have hr := B.returns
  have hts := atoms_spec (ws := wsX7_putBack) B.pre
  have hown : s.vm.findClass RX7 = some m.cls := findClass_of_methodNamed B.named
  have hlocks := B.notSynchronized
  subst hsz
  have hD := hD0.self (sz := s.heap.size)
  generalize hAe : va_A (wX7 cy a v) s.heap.size = A at hD ⊢
  have hAe0 : ∀ q : Nat, s.heap.size ≤ q → A q := fun q h => by rw [← hAe]; exact Or.inr h
  have hS : va_S A s.heap s.heap [] := va_S.rf
  have hl := lv_entry ([.ref (a 0)]) (n := 2) (Nat.le_of_ble_eq_true rfl)
  rw [lg_entry_eq]
  generalize (lg_sl ([.ref (a 0)]) ++ List.replicate (2 - (lg_sl ([.ref (a 0)])).length) Slot.unset).toArray = ls at hl ⊢
  have hl : lv_has ls 2 [(0, .ref (a 0))] := hl
  have lk0 := hts (Cond.fieldLink RX7 7 "MolesLawnModel" "s" "[I") (List.mem_cons_of_mem _ (List.mem_append_left _ (List.mem_of_getElem? (i := 0) rfl)))
  have lk1 := hts (Cond.fieldLink RX7 13 "MolesLawnModel" "aside" "[I") (List.mem_cons_of_mem _ (List.mem_append_left _ (List.mem_of_getElem? (i := 1) rfl)))
  have iK7 : ∀ w ∈ wsX70, w ∈ wsX7_putBack := fun _ h => (List.mem_cons_of_mem _ (List.mem_append_right _ h))
  unfold wp_X7_putBack at hq
  have J2 : ∀  (y2_1 : Int32) (z2_v_s : (Nat → Int32)) (H : Heap) (locs : List Loc) (ls : Array Slot), wp_X7_putBack_2 v  y2_1 z2_v_s Q → va_P (dC, dI) vwCl (cX7 cy a z2_v_s (X7_aside v) (X7_kept v) (X7_isKept v) (X7_saved v) (X7_savedMany v) (X7_text v) (X7_length v) (X7_thrown v) (X7_joint v) (X7_position v) (X7_isWrong v) (X7_isHollow v) (X7_sure v) (X7_away v) (X7_digested v)) H → va_D A (cX7 cy a z2_v_s (X7_aside v) (X7_kept v) (X7_isKept v) (X7_saved v) (X7_savedMany v) (X7_text v) (X7_length v) (X7_thrown v) (X7_joint v) (X7_position v) (X7_isWrong v) (X7_isHollow v) (X7_sure v) (X7_away v) (X7_digested v)) → va_S A s.heap H locs → lv_has ls 2 [(0, .ref (a 0)), (1, .int y2_1)] → W p l e (headSpec wsX7_putBack ({ frames := 0, cells := 0, slots := 0, locals := 0 } : Room)).room s m ([.ref (a 0)] : List Value).toArray below meth c H locs 0 0 (MQ below (q_X7_putBack dC dI cy a v Q A) ([.ref (a 0)] : List Value).toArray s 0 0 A) (F0 m 2 ls []) := by
    intro  y2_1 z2_v_s H locs ls hq hP hD hS hl
    obtain ⟨I2, μ2, h0, hs2⟩ := hq
    have key : ∀ (n : Nat) (y2_1 : Int32) (z2_v_s : (Nat → Int32)) (H : Heap) (locs : List Loc) (ls : Array Slot), I2 y2_1 z2_v_s → μ2 y2_1 z2_v_s < n → va_P (dC, dI) vwCl (cX7 cy a z2_v_s (X7_aside v) (X7_kept v) (X7_isKept v) (X7_saved v) (X7_savedMany v) (X7_text v) (X7_length v) (X7_thrown v) (X7_joint v) (X7_position v) (X7_isWrong v) (X7_isHollow v) (X7_sure v) (X7_away v) (X7_digested v)) H → va_D A (cX7 cy a z2_v_s (X7_aside v) (X7_kept v) (X7_isKept v) (X7_saved v) (X7_savedMany v) (X7_text v) (X7_length v) (X7_thrown v) (X7_joint v) (X7_position v) (X7_isWrong v) (X7_isHollow v) (X7_sure v) (X7_away v) (X7_digested v)) → va_S A s.heap H locs → lv_has ls 2 [(0, .ref (a 0)), (1, .int y2_1)] → W p l e (headSpec wsX7_putBack ({ frames := 0, cells := 0, slots := 0, locals := 0 } : Room)).room s m ([.ref (a 0)] : List Value).toArray below meth c H locs 0 0 (MQ below (q_X7_putBack dC dI cy a v Q A) ([.ref (a 0)] : List Value).toArray s 0 0 A) (F0 m 2 ls []) := by
      intro n
      induction n with
      | zero => intro y2_1 z2_v_s H locs ls _ hm; exact absurd hm (Nat.not_lt_zero _)
      | succ n ih =>
        intro y2_1 z2_v_s H locs ls hI hm hP hD hS hl
        have hq := hs2 y2_1 z2_v_s hI
        generalize hB2 : (fun (t0 : Int32) (t1 : (Nat → Int32)) => I2 t0 t1 ∧ μ2 t0 t1 < μ2 y2_1 z2_v_s) = B2 at hq
        have bk2 : ∀ (y2_1 : Int32) (z2_v_s : (Nat → Int32)) (H : Heap) (locs : List Loc) (ls : Array Slot), B2 y2_1 z2_v_s → va_P (dC, dI) vwCl (cX7 cy a z2_v_s (X7_aside v) (X7_kept v) (X7_isKept v) (X7_saved v) (X7_savedMany v) (X7_text v) (X7_length v) (X7_thrown v) (X7_joint v) (X7_position v) (X7_isWrong v) (X7_isHollow v) (X7_sure v) (X7_away v) (X7_digested v)) H → va_D A (cX7 cy a z2_v_s (X7_aside v) (X7_kept v) (X7_isKept v) (X7_saved v) (X7_savedMany v) (X7_text v) (X7_length v) (X7_thrown v) (X7_joint v) (X7_position v) (X7_isWrong v) (X7_isHollow v) (X7_sure v) (X7_away v) (X7_digested v)) → va_S A s.heap H locs → lv_has ls 2 [(0, .ref (a 0)), (1, .int y2_1)] → W p l e (headSpec wsX7_putBack ({ frames := 0, cells := 0, slots := 0, locals := 0 } : Room)).room s m ([.ref (a 0)] : List Value).toArray below meth c H locs 0 0 (MQ below (q_X7_putBack dC dI cy a v Q A) ([.ref (a 0)] : List Value).toArray s 0 0 A) (F0 m 2 ls []) := by
          intro y2_1 z2_v_s H locs ls h
          rw [← hB2] at h
          exact ih y2_1 z2_v_s H locs ls h.1 (Nat.lt_of_lt_of_le h.2 (Nat.le_of_lt_succ hm))
        unfold wb_X7_putBack_2 at hq
        refine lv_iload_n hx hb dX7_putBack_2 rfl (lv_at hl 1 rfl) ?_
        refine lv_sipush (v := 1472) hx hb dX7_putBack_3 (by decide) ?_
        obtain ⟨hqA, hqB⟩ := hq
        refine lv_icmp_ge (tgt := 27) hx hb dX7_putBack_6 (by decide) (fun c2 => ?_) (fun c2 => ?_)
        · have hq := hqA c2
          exact W.vret hx hb hr (fun t ht hW => ⟨⟨z2_v_s, rfl, hq, (xAt_of hP hK hD ht hW)⟩, hS.F ht⟩) hS.2.2 dX7_putBack_27
        · have hq := hqB c2
          refine lv_aload_n hx hb dX7_putBack_9 rfl (lv_at hl 0 rfl) ?_
          refine va_get (D := (dC, dI)) (ci := 7) (v := .ref (a 1)) (C := RX7) (T := TX7) (N := 16) hx hb hts iK7 hown hK hP 0 rfl rfl 0 (by decide) lk0 (fun _ h9 => h9) rfl dX7_putBack_10 ?_
          refine lv_iload_n hx hb dX7_putBack_13 rfl (lv_at hl 1 rfl) ?_
          refine lv_aload_n hx hb dX7_putBack_14 rfl (lv_at hl 0 rfl) ?_
          refine va_get (D := (dC, dI)) (ci := 7) (v := .ref (a 2)) (C := RX7) (T := TX7) (N := 16) hx hb hts iK7 hown hK hP 0 rfl rfl 1 (by decide) lk1 (fun _ h9 => h9) rfl dX7_putBack_15 ?_
          refine lv_iload_n hx hb dX7_putBack_18 rfl (lv_at hl 1 rfl) ?_
          obtain ⟨g1, hq⟩ := hq
          refine va_iald hx hb hK hP 2 0 rfl rfl g1 dX7_putBack_19 ?_
          refine va_iast hx hb hK hP hD hS 1 0 rfl rfl g1 dX7_putBack_20 (fun H locs hP hD hS => ?_)
          have hP : va_P (dC, dI) vwCl (cX7 cy a (upd z2_v_s y2_1.toNatClampNeg ((X7_aside v) y2_1.toNatClampNeg)) (X7_aside v) (X7_kept v) (X7_isKept v) (X7_saved v) (X7_savedMany v) (X7_text v) (X7_length v) (X7_thrown v) (X7_joint v) (X7_position v) (X7_isWrong v) (X7_isHollow v) (X7_sure v) (X7_away v) (X7_digested v)) H := hP
          have hD : va_D A (cX7 cy a (upd z2_v_s y2_1.toNatClampNeg ((X7_aside v) y2_1.toNatClampNeg)) (X7_aside v) (X7_kept v) (X7_isKept v) (X7_saved v) (X7_savedMany v) (X7_text v) (X7_length v) (X7_thrown v) (X7_joint v) (X7_position v) (X7_isWrong v) (X7_isHollow v) (X7_sure v) (X7_away v) (X7_digested v)) := hD
          refine lv_iinc (v := (y2_1 + 1)) (lv' := [(1, .int (y2_1 + 1)), (0, .ref (a 0))]) hx hb dX7_putBack_21 hl (k := 1) rfl rfl (by decide) rfl (fun ls hl => ?_)
          refine lv_goto (tgt := 2) hx hb dX7_putBack_24 (by decide) ?_
          exact bk2 (y2_1 + 1) (upd z2_v_s y2_1.toNatClampNeg ((X7_aside v) y2_1.toNatClampNeg)) _ _ _ hq hP hD hS (lv_sub hl [1, 0] rfl)
    exact key _ y2_1 z2_v_s H locs ls h0 (Nat.lt_succ_self _) hP hD hS hl
  refine lv_iconst (v := 0) hx hb dX7_putBack_0 (by decide) ?_
  refine lv_istore_n (lv' := [(1, .int 0), (0, .ref (a 0))]) hx hb dX7_putBack_1 rfl hl (by decide) rfl (fun ls hl => ?_)
  exact J2  0 (X7_s v) _ _ _ hq hP hD hS (lv_sub hl [1, 0] rfl)
def wp_X7_tuftAt (v : V_X7) (x1 : Int32) (Q : Int32 → Prop) : Prop :=
  vp_in (448 + x1) 1472 ∧ Q (((X7_s v) (448 + x1).toNatClampNeg) - ((X7_s v) (448 + x1).toNatClampNeg) / 64 * 64)
def q_X7_tuftAt (dC : Nat → ClassId) (dI : Nat → Nat → Nat) (cy : Nat → ClassId) (a : Nat → Nat) (v : V_X7) (x1 : Int32) (Q : Int32 → Prop) (A : Nat → Prop) : Array Value → State → Outcome → State → Prop := va_Qi (fun (r : Int32) (u : Unit) => Q r ) (fun (u : Unit) t => xAt dC dI cy A (wX7 cy a v) t) A
set_option maxHeartbeats 4000000 in
set_option maxRecDepth 100000 in
theorem c_X7_tuftAt (l : Launch) (dC : Nat → ClassId) (dI : Nat → Nat → Nat) (cy : Nat → ClassId) (a : Nat → Nat) (sz : Nat) (v : V_X7) (x1 : Int32) (Q : Int32 → Prop) (hq : wp_X7_tuftAt v x1 Q) : Met l yX7_tuftAt wsX7_tuftAt ({ frames := 0, cells := 0, slots := 0, locals := 0 } : Room) (va_Pc [.ref (a 0), .int x1] (xPre dC dI cy (wX7 cy a v) sz)) (q_X7_tuftAt dC dI cy a v x1 Q (va_A (wX7 cy a v) sz)) 0 0 (va_A (wX7 cy a v) sz) := by
  refine Met.ofW (cc := cX7_tuftAt) (maxL := 2) (ret := (some .int)) (by decide) rfl ?_
  intro p e s m args below meth c s₁ B hml hv
  obtain ⟨rfl, hsz, hP, hK, hD0⟩ := hv
  have hx := B.exec
  have hb := B.bytes
  have hr := B.returns
  have hts := atoms_spec (ws := wsX7_tuftAt) B.pre
  have hown : s.vm.findClass RX7 = some m.cls := findClass_of_methodNamed B.named
  have hlocks := B.notSynchronized
  subst hsz
  have hD := hD0.self (sz := s.heap.size)
  generalize hAe : va_A (wX7 cy a v) s.heap.size = A at hD ⊢
  have hAe0 : ∀ q : Nat, s.heap.size ≤ q → A q := fun q h => by rw [← hAe]; exact Or.inr h
  have hS : va_S A s.heap s.heap [] := va_S.rf
  have hl := lv_entry ([.ref (a 0), .int x1]) (n := 2) (Nat.le_of_ble_eq_true rfl)
  rw [lg_entry_eq]
  generalize (lg_sl ([.ref (a 0), .int x1]) ++ List.replicate (2 - (lg_sl ([.ref (a 0), .int x1])).length) Slot.unset).toArray = ls at hl ⊢
  have hl : lv_has ls 2 [(0, .ref (a 0)), (1, .int x1)] := hl
  have lk0 := hts (Cond.fieldLink RX7 7 "MolesLawnModel" "s" "[I") (List.mem_cons_of_mem _ (List.mem_append_left _ (List.mem_of_getElem? (i := 0) rfl)))
  have iK7 : ∀ w ∈ wsX70, w ∈ wsX7_tuftAt := fun _ h => (List.mem_cons_of_mem _ (List.mem_append_right _ h))
  unfold wp_X7_tuftAt at hq
  refine lv_aload_n hx hb dX7_tuftAt_0 rfl (lv_at hl 0 rfl) ?_
  refine va_get (D := (dC, dI)) (ci := 7) (v := .ref (a 1)) (C := RX7) (T := TX7) (N := 16) hx hb hts iK7 hown hK hP 0 rfl rfl 0 (by decide) lk0 (fun _ h9 => h9) rfl dX7_tuftAt_1 ?_
  refine lv_sipush (v := 448) hx hb dX7_tuftAt_4 (by decide) ?_
  refine lv_iload_n hx hb dX7_tuftAt_7 rfl (lv_at hl 1 rfl) ?_
  refine lv_iadd hx hb dX7_tuftAt_8 ?_
  obtain ⟨g1, hq⟩ := hq
  refine va_iald hx hb hK hP 1 0 rfl rfl g1 dX7_tuftAt_9 ?_
  refine lv_bipush (v := 64) hx hb dX7_tuftAt_10 (by decide) ?_
  refine lv_irem hx hb dX7_tuftAt_12 (by decide) ?_
  exact W.iret (v := (((X7_s v) (448 + x1).toNatClampNeg) - ((X7_s v) (448 + x1).toNatClampNeg) / 64 * 64)) hx hb hr (fun t ht hW => ⟨⟨(((X7_s v) (448 + x1).toNatClampNeg) - ((X7_s v) (448 + x1).toNatClampNeg) / 64 * 64), (), rfl, hq, (xAt_of hP hK hD ht hW)⟩, hS.F ht⟩) hS.2.2 dX7_tuftAt_13
def wb_X7_endFrom_2 (v : V_X7) (x1 : Int32)  (y2_2 : Int32) (B2 : Int32 → Prop) (Q : Int32 → Prop) : Prop :=
  vp_in (448 + y2_2) 1472 ∧ ((64 ≤ ((X7_s v) (448 + y2_2).toNatClampNeg) → Q y2_2) ∧
  (¬ 64 ≤ ((X7_s v) (448 + y2_2).toNatClampNeg) → B2 (y2_2 + 1)))
def wp_X7_endFrom_2 (v : V_X7) (x1 : Int32)  (y2_2 : Int32) (Q : Int32 → Prop) : Prop :=
  ∃ (I : Int32 → Prop) (μ : Int32 → Nat), I y2_2 ∧ ∀ (s0 : Int32), I s0 → wb_X7_endFrom_2 v x1  s0 (fun t0 => I t0 ∧ μ t0 < μ s0) Q
def wp_X7_endFrom (v : V_X7) (x1 : Int32) (Q : Int32 → Prop) : Prop :=
  wp_X7_endFrom_2 v x1  x1 Q
def q_X7_endFrom (dC : Nat → ClassId) (dI : Nat → Nat → Nat) (cy : Nat → ClassId) (a : Nat → Nat) (v : V_X7) (x1 : Int32) (Q : Int32 → Prop) (A : Nat → Prop) : Array Value → State → Outcome → State → Prop := va_Qi (fun (r : Int32) (u : Unit) => Q r ) (fun (u : Unit) t => xAt dC dI cy A (wX7 cy a v) t) A
set_option maxHeartbeats 4000000 in
set_option maxRecDepth 100000 in
theorem c_X7_endFrom (l : Launch) (dC : Nat → ClassId) (dI : Nat → Nat → Nat) (cy : Nat → ClassId) (a : Nat → Nat) (sz : Nat) (v : V_X7) (x1 : Int32) (Q : Int32 → Prop) (hq : wp_X7_endFrom v x1 Q) : Met l yX7_endFrom wsX7_endFrom ({ frames := 0, cells := 0, slots := 0, locals := 0 } : Room) (va_Pc [.ref (a 0), .int x1] (xPre dC dI cy (wX7 cy a v) sz)) (q_X7_endFrom dC dI cy a v x1 Q (va_A (wX7 cy a v) sz)) 0 0 (va_A (wX7 cy a v) sz) := by
  refine Met.ofW (cc := cX7_endFrom) (maxL := 3) (ret := (some .int)) (by decide) rfl ?_
  intro p e s m args below meth c s₁ B hml hv
  obtain ⟨rfl, hsz, hP, hK, hD0⟩ := hv
  have hx := B.exec
  have hb := B.bytes
  have hr := B.returns
  have hts := atoms_spec (ws := wsX7_endFrom) B.pre
  have hown : s.vm.findClass RX7 = some m.cls := findClass_of_methodNamed B.named
  have hlocks := B.notSynchronized
  subst hsz
  have hD := hD0.self (sz := s.heap.size)
  generalize hAe : va_A (wX7 cy a v) s.heap.size = A at hD ⊢
  have hAe0 : ∀ q : Nat, s.heap.size ≤ q → A q := fun q h => by rw [← hAe]; exact Or.inr h
  have hS : va_S A s.heap s.heap [] := va_S.rf
  have hl := lv_entry ([.ref (a 0), .int x1]) (n := 3) (Nat.le_of_ble_eq_true rfl)
  rw [lg_entry_eq]
  generalize (lg_sl ([.ref (a 0), .int x1]) ++ List.replicate (3 - (lg_sl ([.ref (a 0), .int x1])).length) Slot.unset).toArray = ls at hl ⊢
  have hl : lv_has ls 3 [(0, .ref (a 0)), (1, .int x1)] := hl
  have lk0 := hts (Cond.fieldLink RX7 7 "MolesLawnModel" "s" "[I") (List.mem_cons_of_mem _ (List.mem_append_left _ (List.mem_of_getElem? (i := 0) rfl)))
  have iK7 : ∀ w ∈ wsX70, w ∈ wsX7_endFrom := fun _ h => (List.mem_cons_of_mem _ (List.mem_append_right _ h))
  unfold wp_X7_endFrom at hq
  have J2 : ∀  (y2_2 : Int32) (H : Heap) (locs : List Loc) (ls : Array Slot), wp_X7_endFrom_2 v x1  y2_2 Q → va_P (dC, dI) vwCl (wX7 cy a v) H → va_D A (wX7 cy a v) → va_S A s.heap H locs → lv_has ls 3 [(0, .ref (a 0)), (2, .int y2_2)] → W p l e (headSpec wsX7_endFrom ({ frames := 0, cells := 0, slots := 0, locals := 0 } : Room)).room s m ([.ref (a 0), .int x1] : List Value).toArray below meth c H locs 0 0 (MQ below (q_X7_endFrom dC dI cy a v x1 Q A) ([.ref (a 0), .int x1] : List Value).toArray s 0 0 A) (F0 m 2 ls []) := by
    intro  y2_2 H locs ls hq hP hD hS hl
    obtain ⟨I2, μ2, h0, hs2⟩ := hq
    have key : ∀ (n : Nat) (y2_2 : Int32) (H : Heap) (locs : List Loc) (ls : Array Slot), I2 y2_2 → μ2 y2_2 < n → va_P (dC, dI) vwCl (wX7 cy a v) H → va_D A (wX7 cy a v) → va_S A s.heap H locs → lv_has ls 3 [(0, .ref (a 0)), (2, .int y2_2)] → W p l e (headSpec wsX7_endFrom ({ frames := 0, cells := 0, slots := 0, locals := 0 } : Room)).room s m ([.ref (a 0), .int x1] : List Value).toArray below meth c H locs 0 0 (MQ below (q_X7_endFrom dC dI cy a v x1 Q A) ([.ref (a 0), .int x1] : List Value).toArray s 0 0 A) (F0 m 2 ls []) := by
      intro n
      induction n with
      | zero => intro y2_2 H locs ls _ hm; exact absurd hm (Nat.not_lt_zero _)
      | succ n ih =>
        intro y2_2 H locs ls hI hm hP hD hS hl
        have hq := hs2 y2_2 hI
        generalize hB2 : (fun (t0 : Int32) => I2 t0 ∧ μ2 t0 < μ2 y2_2) = B2 at hq
        have bk2 : ∀ (y2_2 : Int32) (H : Heap) (locs : List Loc) (ls : Array Slot), B2 y2_2 → va_P (dC, dI) vwCl (wX7 cy a v) H → va_D A (wX7 cy a v) → va_S A s.heap H locs → lv_has ls 3 [(0, .ref (a 0)), (2, .int y2_2)] → W p l e (headSpec wsX7_endFrom ({ frames := 0, cells := 0, slots := 0, locals := 0 } : Room)).room s m ([.ref (a 0), .int x1] : List Value).toArray below meth c H locs 0 0 (MQ below (q_X7_endFrom dC dI cy a v x1 Q A) ([.ref (a 0), .int x1] : List Value).toArray s 0 0 A) (F0 m 2 ls []) := by
          intro y2_2 H locs ls h
          rw [← hB2] at h
          exact ih y2_2 H locs ls h.1 (Nat.lt_of_lt_of_le h.2 (Nat.le_of_lt_succ hm))
        unfold wb_X7_endFrom_2 at hq
        refine lv_aload_n hx hb dX7_endFrom_2 rfl (lv_at hl 0 rfl) ?_
        refine va_get (D := (dC, dI)) (ci := 7) (v := .ref (a 1)) (C := RX7) (T := TX7) (N := 16) hx hb hts iK7 hown hK hP 0 rfl rfl 0 (by decide) lk0 (fun _ h9 => h9) rfl dX7_endFrom_3 ?_
        refine lv_sipush (v := 448) hx hb dX7_endFrom_6 (by decide) ?_
        refine lv_iload_n hx hb dX7_endFrom_9 rfl (lv_at hl 1 rfl) ?_
        refine lv_iadd hx hb dX7_endFrom_10 ?_
        obtain ⟨g1, hq⟩ := hq
        refine va_iald hx hb hK hP 1 0 rfl rfl g1 dX7_endFrom_11 ?_
        refine lv_bipush (v := 64) hx hb dX7_endFrom_12 (by decide) ?_
        obtain ⟨hqA, hqB⟩ := hq
        refine lv_icmp_ge (tgt := 23) hx hb dX7_endFrom_14 (by decide) (fun c2 => ?_) (fun c2 => ?_)
        · have hq := hqA c2
          refine lv_iload_n hx hb dX7_endFrom_23 rfl (lv_at hl 1 rfl) ?_
          exact W.iret (v := y2_2) hx hb hr (fun t ht hW => ⟨⟨y2_2, (), rfl, hq, (xAt_of hP hK hD ht hW)⟩, hS.F ht⟩) hS.2.2 dX7_endFrom_24
        · have hq := hqB c2
          refine lv_iinc (v := (y2_2 + 1)) (lv' := [(2, .int (y2_2 + 1)), (0, .ref (a 0))]) hx hb dX7_endFrom_17 hl (k := 1) rfl rfl (by decide) rfl (fun ls hl => ?_)
          refine lv_goto (tgt := 2) hx hb dX7_endFrom_20 (by decide) ?_
          exact bk2 (y2_2 + 1) _ _ _ hq hP hD hS (lv_sub hl [1, 0] rfl)
    exact key _ y2_2 H locs ls h0 (Nat.lt_succ_self _) hP hD hS hl
  refine lv_iload_n hx hb dX7_endFrom_0 rfl (lv_at hl 1 rfl) ?_
  refine lv_istore_n (lv' := [(2, .int x1), (0, .ref (a 0)), (1, .int x1)]) hx hb dX7_endFrom_1 rfl hl (by decide) rfl (fun ls hl => ?_)
  exact J2  x1 _ _ _ hq hP hD hS (lv_sub hl [1, 0] rfl)
def wb_X7_tunnels_4 (v : V_X7)  (y4_1 : Int32) (y4_2 : Int32) (B4 : Int32 → Int32 → Prop) (Q : Int32 → Prop) : Prop :=
  vp_in 7 1472 ∧ ((((X7_s v) (7 : Int32).toNatClampNeg) ≤ y4_2 → Q y4_1) ∧
  (¬ ((X7_s v) (7 : Int32).toNatClampNeg) ≤ y4_2 → vp_in (448 + y4_2) 1472 ∧ ((64 ≤ ((X7_s v) (448 + y4_2).toNatClampNeg) → B4 (y4_1 + 1) (y4_2 + 1)) ∧
  (¬ 64 ≤ ((X7_s v) (448 + y4_2).toNatClampNeg) → B4 (y4_1 + 0) (y4_2 + 1)))))
def wp_X7_tunnels_4 (v : V_X7)  (y4_1 : Int32) (y4_2 : Int32) (Q : Int32 → Prop) : Prop :=
  ∃ (I : Int32 → Int32 → Prop) (μ : Int32 → Int32 → Nat), I y4_1 y4_2 ∧ ∀ (s0 : Int32) (s1 : Int32), I s0 s1 → wb_X7_tunnels_4 v  s0 s1 (fun t0 t1 => I t0 t1 ∧ μ t0 t1 < μ s0 s1) Q
def wp_X7_tunnels (v : V_X7) (Q : Int32 → Prop) : Prop :=
  wp_X7_tunnels_4 v  0 0 Q
def q_X7_tunnels (dC : Nat → ClassId) (dI : Nat → Nat → Nat) (cy : Nat → ClassId) (a : Nat → Nat) (v : V_X7) (Q : Int32 → Prop) (A : Nat → Prop) : Array Value → State → Outcome → State → Prop := va_Qi (fun (r : Int32) (u : Unit) => Q r ) (fun (u : Unit) t => xAt dC dI cy A (wX7 cy a v) t) A
set_option maxHeartbeats 4000000 in
set_option maxRecDepth 100000 in
theorem c_X7_tunnels (l : Launch) (dC : Nat → ClassId) (dI : Nat → Nat → Nat) (cy : Nat → ClassId) (a : Nat → Nat) (sz : Nat) (v : V_X7) (Q : Int32 → Prop) (hq : wp_X7_tunnels v Q) : Met l yX7_tunnels wsX7_tunnels ({ frames := 0, cells := 0, slots := 0, locals := 0 } : Room) (va_Pc [.ref (a 0)] (xPre dC dI cy (wX7 cy a v) sz)) (q_X7_tunnels dC dI cy a v Q (va_A (wX7 cy a v) sz)) 0 0 (va_A (wX7 cy a v) sz) := by
  refine Met.ofW (cc := cX7_tunnels) (maxL := 3) (ret := (some .int)) (by decide) rfl ?_
  intro p e s m args below meth c s₁ B hml hv
  obtain ⟨rfl, hsz, hP, hK, hD0⟩ := hv
  have hx := B.exec
  have hb := B.bytes
  have hr := B.returns
  have hts := atoms_spec (ws := wsX7_tunnels) B.pre
  have hown : s.vm.findClass RX7 = some m.cls := findClass_of_methodNamed B.named
  have hlocks := B.notSynchronized
  subst hsz
  have hD := hD0.self (sz := s.heap.size)
  generalize hAe : va_A (wX7 cy a v) s.heap.size = A at hD ⊢
  have hAe0 : ∀ q : Nat, s.heap.size ≤ q → A q := fun q h => by rw [← hAe]; exact Or.inr h
  have hS : va_S A s.heap s.heap [] := va_S.rf
  have hl := lv_entry ([.ref (a 0)]) (n := 3) (Nat.le_of_ble_eq_true rfl)
  rw [lg_entry_eq]
  generalize (lg_sl ([.ref (a 0)]) ++ List.replicate (3 - (lg_sl ([.ref (a 0)])).length) Slot.unset).toArray = ls at hl ⊢
  have hl : lv_has ls 3 [(0, .ref (a 0))] := hl
  have lk0 := hts (Cond.fieldLink RX7 7 "MolesLawnModel" "s" "[I") (List.mem_cons_of_mem _ (List.mem_append_left _ (List.mem_of_getElem? (i := 0) rfl)))
  have iK7 : ∀ w ∈ wsX70, w ∈ wsX7_tunnels := fun _ h => (List.mem_cons_of_mem _ (List.mem_append_right _ h))
  unfold wp_X7_tunnels at hq
  have J4 : ∀  (y4_1 : Int32) (y4_2 : Int32) (H : Heap) (locs : List Loc) (ls : Array Slot), wp_X7_tunnels_4 v  y4_1 y4_2 Q → va_P (dC, dI) vwCl (wX7 cy a v) H → va_D A (wX7 cy a v) → va_S A s.heap H locs → lv_has ls 3 [(0, .ref (a 0)), (1, .int y4_1), (2, .int y4_2)] → W p l e (headSpec wsX7_tunnels ({ frames := 0, cells := 0, slots := 0, locals := 0 } : Room)).room s m ([.ref (a 0)] : List Value).toArray below meth c H locs 0 0 (MQ below (q_X7_tunnels dC dI cy a v Q A) ([.ref (a 0)] : List Value).toArray s 0 0 A) (F0 m 4 ls []) := by
    intro  y4_1 y4_2 H locs ls hq hP hD hS hl
    obtain ⟨I4, μ4, h0, hs4⟩ := hq
    have key : ∀ (n : Nat) (y4_1 : Int32) (y4_2 : Int32) (H : Heap) (locs : List Loc) (ls : Array Slot), I4 y4_1 y4_2 → μ4 y4_1 y4_2 < n → va_P (dC, dI) vwCl (wX7 cy a v) H → va_D A (wX7 cy a v) → va_S A s.heap H locs → lv_has ls 3 [(0, .ref (a 0)), (1, .int y4_1), (2, .int y4_2)] → W p l e (headSpec wsX7_tunnels ({ frames := 0, cells := 0, slots := 0, locals := 0 } : Room)).room s m ([.ref (a 0)] : List Value).toArray below meth c H locs 0 0 (MQ below (q_X7_tunnels dC dI cy a v Q A) ([.ref (a 0)] : List Value).toArray s 0 0 A) (F0 m 4 ls []) := by
      intro n
      induction n with
      | zero => intro y4_1 y4_2 H locs ls _ hm; exact absurd hm (Nat.not_lt_zero _)
      | succ n ih =>
        intro y4_1 y4_2 H locs ls hI hm hP hD hS hl
        have hq := hs4 y4_1 y4_2 hI
        generalize hB4 : (fun (t0 : Int32) (t1 : Int32) => I4 t0 t1 ∧ μ4 t0 t1 < μ4 y4_1 y4_2) = B4 at hq
        have bk4 : ∀ (y4_1 : Int32) (y4_2 : Int32) (H : Heap) (locs : List Loc) (ls : Array Slot), B4 y4_1 y4_2 → va_P (dC, dI) vwCl (wX7 cy a v) H → va_D A (wX7 cy a v) → va_S A s.heap H locs → lv_has ls 3 [(0, .ref (a 0)), (1, .int y4_1), (2, .int y4_2)] → W p l e (headSpec wsX7_tunnels ({ frames := 0, cells := 0, slots := 0, locals := 0 } : Room)).room s m ([.ref (a 0)] : List Value).toArray below meth c H locs 0 0 (MQ below (q_X7_tunnels dC dI cy a v Q A) ([.ref (a 0)] : List Value).toArray s 0 0 A) (F0 m 4 ls []) := by
          intro y4_1 y4_2 H locs ls h
          rw [← hB4] at h
          exact ih y4_1 y4_2 H locs ls h.1 (Nat.lt_of_lt_of_le h.2 (Nat.le_of_lt_succ hm))
        unfold wb_X7_tunnels_4 at hq
        refine lv_iload_n hx hb dX7_tunnels_4 rfl (lv_at hl 2 rfl) ?_
        refine lv_aload_n hx hb dX7_tunnels_5 rfl (lv_at hl 0 rfl) ?_
        refine va_get (D := (dC, dI)) (ci := 7) (v := .ref (a 1)) (C := RX7) (T := TX7) (N := 16) hx hb hts iK7 hown hK hP 0 rfl rfl 0 (by decide) lk0 (fun _ h9 => h9) rfl dX7_tunnels_6 ?_
        refine lv_bipush (v := 7) hx hb dX7_tunnels_9 (by decide) ?_
        obtain ⟨g1, hq⟩ := hq
        refine va_iald hx hb hK hP 1 0 rfl rfl g1 dX7_tunnels_11 ?_
        obtain ⟨hqA, hqB⟩ := hq
        refine lv_icmp_ge (tgt := 44) hx hb dX7_tunnels_12 (by decide) (fun c4 => ?_) (fun c4 => ?_)
        · have hq := hqA c4
          refine lv_iload_n hx hb dX7_tunnels_44 rfl (lv_at hl 1 rfl) ?_
          exact W.iret (v := y4_1) hx hb hr (fun t ht hW => ⟨⟨y4_1, (), rfl, hq, (xAt_of hP hK hD ht hW)⟩, hS.F ht⟩) hS.2.2 dX7_tunnels_45
        · have hq := hqB c4
          refine lv_iload_n hx hb dX7_tunnels_15 rfl (lv_at hl 1 rfl) ?_
          refine lv_aload_n hx hb dX7_tunnels_16 rfl (lv_at hl 0 rfl) ?_
          refine va_get (D := (dC, dI)) (ci := 7) (v := .ref (a 1)) (C := RX7) (T := TX7) (N := 16) hx hb hts iK7 hown hK hP 0 rfl rfl 0 (by decide) lk0 (fun _ h9 => h9) rfl dX7_tunnels_17 ?_
          refine lv_sipush (v := 448) hx hb dX7_tunnels_20 (by decide) ?_
          refine lv_iload_n hx hb dX7_tunnels_23 rfl (lv_at hl 2 rfl) ?_
          refine lv_iadd hx hb dX7_tunnels_24 ?_
          obtain ⟨g2, hq⟩ := hq
          refine va_iald hx hb hK hP 1 0 rfl rfl g2 dX7_tunnels_25 ?_
          refine lv_bipush (v := 64) hx hb dX7_tunnels_26 (by decide) ?_
          obtain ⟨hqA, hqB⟩ := hq
          refine lv_icmp_ge (tgt := 35) hx hb dX7_tunnels_28 (by decide) (fun c3 => ?_) (fun c3 => ?_)
          · have hq := hqA c3
            refine lv_iconst (v := 1) hx hb dX7_tunnels_35 (by decide) ?_
            refine lv_iadd hx hb dX7_tunnels_36 ?_
            refine lv_istore_n (lv' := [(1, .int (y4_1 + 1)), (0, .ref (a 0)), (2, .int y4_2)]) hx hb dX7_tunnels_37 rfl hl (by decide) rfl (fun ls hl => ?_)
            refine lv_iinc (v := (y4_2 + 1)) (lv' := [(2, .int (y4_2 + 1)), (1, .int (y4_1 + 1)), (0, .ref (a 0))]) hx hb dX7_tunnels_38 hl (k := 2) rfl rfl (by decide) rfl (fun ls hl => ?_)
            refine lv_goto (tgt := 4) hx hb dX7_tunnels_41 (by decide) ?_
            exact bk4 (y4_1 + 1) (y4_2 + 1) _ _ _ hq hP hD hS (lv_sub hl [2, 1, 0] rfl)
          · have hq := hqB c3
            refine lv_iconst (v := 0) hx hb dX7_tunnels_31 (by decide) ?_
            refine lv_goto (tgt := 36) hx hb dX7_tunnels_32 (by decide) ?_
            refine lv_iadd hx hb dX7_tunnels_36 ?_
            refine lv_istore_n (lv' := [(1, .int (y4_1 + 0)), (0, .ref (a 0)), (2, .int y4_2)]) hx hb dX7_tunnels_37 rfl hl (by decide) rfl (fun ls hl => ?_)
            refine lv_iinc (v := (y4_2 + 1)) (lv' := [(2, .int (y4_2 + 1)), (1, .int (y4_1 + 0)), (0, .ref (a 0))]) hx hb dX7_tunnels_38 hl (k := 2) rfl rfl (by decide) rfl (fun ls hl => ?_)
            refine lv_goto (tgt := 4) hx hb dX7_tunnels_41 (by decide) ?_
            exact bk4 (y4_1 + 0) (y4_2 + 1) _ _ _ hq hP hD hS (lv_sub hl [2, 1, 0] rfl)
    exact key _ y4_1 y4_2 H locs ls h0 (Nat.lt_succ_self _) hP hD hS hl
  refine lv_iconst (v := 0) hx hb dX7_tunnels_0 (by decide) ?_
  refine lv_istore_n (lv' := [(1, .int 0), (0, .ref (a 0))]) hx hb dX7_tunnels_1 rfl hl (by decide) rfl (fun ls hl => ?_)
  refine lv_iconst (v := 0) hx hb dX7_tunnels_2 (by decide) ?_
  refine lv_istore_n (lv' := [(2, .int 0), (1, .int 0), (0, .ref (a 0))]) hx hb dX7_tunnels_3 rfl hl (by decide) rfl (fun ls hl => ?_)
  exact J4  0 0 _ _ _ hq hP hD hS (lv_sub hl [2, 1, 0] rfl)
def wb_X7_beginOf_4 (v : V_X7) (x1 : Int32)  (y4_2 : Int32) (y4_3 : Int32) (B4 : Int32 → Int32 → Prop) (Q : Int32 → Prop) : Prop :=
  ((x1 ≤ y4_3 → Q y4_2) ∧
  (¬ x1 ≤ y4_3 → wp_X7_endFrom v y4_2 (fun r11 =>
  B4 (r11 + 1) (y4_3 + 1))))
def wp_X7_beginOf_4 (v : V_X7) (x1 : Int32)  (y4_2 : Int32) (y4_3 : Int32) (Q : Int32 → Prop) : Prop :=
  ∃ (I : Int32 → Int32 → Prop) (μ : Int32 → Int32 → Nat), I y4_2 y4_3 ∧ ∀ (s0 : Int32) (s1 : Int32), I s0 s1 → wb_X7_beginOf_4 v x1  s0 s1 (fun t0 t1 => I t0 t1 ∧ μ t0 t1 < μ s0 s1) Q
def wp_X7_beginOf (v : V_X7) (x1 : Int32) (Q : Int32 → Prop) : Prop :=
  wp_X7_beginOf_4 v x1  0 0 Q
def q_X7_beginOf (dC : Nat → ClassId) (dI : Nat → Nat → Nat) (cy : Nat → ClassId) (a : Nat → Nat) (v : V_X7) (x1 : Int32) (Q : Int32 → Prop) (A : Nat → Prop) : Array Value → State → Outcome → State → Prop := va_Qi (fun (r : Int32) (u : Unit) => Q r ) (fun (u : Unit) t => xAt dC dI cy A (wX7 cy a v) t) A
set_option maxHeartbeats 4000000 in
set_option maxRecDepth 100000 in
theorem c_X7_beginOf (l : Launch) (dC : Nat → ClassId) (dI : Nat → Nat → Nat) (cy : Nat → ClassId) (a : Nat → Nat) (sz : Nat) (v : V_X7) (x1 : Int32) (Q : Int32 → Prop) (hq : wp_X7_beginOf v x1 Q) : Met l yX7_beginOf wsX7_beginOf ({ frames := 1, cells := 0, slots := 0, locals := 22 } : Room) (va_Pc [.ref (a 0), .int x1] (xPre dC dI cy (wX7 cy a v) sz)) (q_X7_beginOf dC dI cy a v x1 Q (va_A (wX7 cy a v) sz)) 0 0 (va_A (wX7 cy a v) sz) := by
  refine Met.ofW (cc := cX7_beginOf) (maxL := 4) (ret := (some .int)) (by decide) rfl ?_
  intro p e s m args below meth c s₁ B hml hv
  obtain ⟨rfl, hsz, hP, hK, hD0⟩ := hv
  have hx := B.exec
  have hb := B.bytes
  have hr := B.returns
  have hts := atoms_spec (ws := wsX7_beginOf) B.pre
  have hown : s.vm.findClass RX7 = some m.cls := findClass_of_methodNamed B.named
  have hlocks := B.notSynchronized
  subst hsz
  have hD := hD0.self (sz := s.heap.size)
  generalize hAe : va_A (wX7 cy a v) s.heap.size = A at hD ⊢
  have hAe0 : ∀ q : Nat, s.heap.size ≤ q → A q := fun q h => by rw [← hAe]; exact Or.inr h
  have hS : va_S A s.heap s.heap [] := va_S.rf
  have hl := lv_entry ([.ref (a 0), .int x1]) (n := 4) (Nat.le_of_ble_eq_true rfl)
  rw [lg_entry_eq]
  generalize (lg_sl ([.ref (a 0), .int x1]) ++ List.replicate (4 - (lg_sl ([.ref (a 0), .int x1])).length) Slot.unset).toArray = ls at hl ⊢
  have hl : lv_has ls 4 [(0, .ref (a 0)), (1, .int x1)] := hl
  unfold wp_X7_beginOf at hq
  have J4 : ∀  (y4_2 : Int32) (y4_3 : Int32) (H : Heap) (locs : List Loc) (ls : Array Slot), wp_X7_beginOf_4 v x1  y4_2 y4_3 Q → va_P (dC, dI) vwCl (wX7 cy a v) H → va_D A (wX7 cy a v) → va_S A s.heap H locs → lv_has ls 4 [(0, .ref (a 0)), (1, .int x1), (2, .int y4_2), (3, .int y4_3)] → W p l e (headSpec wsX7_beginOf ({ frames := 1, cells := 0, slots := 0, locals := 22 } : Room)).room s m ([.ref (a 0), .int x1] : List Value).toArray below meth c H locs 0 0 (MQ below (q_X7_beginOf dC dI cy a v x1 Q A) ([.ref (a 0), .int x1] : List Value).toArray s 0 0 A) (F0 m 4 ls []) := by
    intro  y4_2 y4_3 H locs ls hq hP hD hS hl
    obtain ⟨I4, μ4, h0, hs4⟩ := hq
    have key : ∀ (n : Nat) (y4_2 : Int32) (y4_3 : Int32) (H : Heap) (locs : List Loc) (ls : Array Slot), I4 y4_2 y4_3 → μ4 y4_2 y4_3 < n → va_P (dC, dI) vwCl (wX7 cy a v) H → va_D A (wX7 cy a v) → va_S A s.heap H locs → lv_has ls 4 [(0, .ref (a 0)), (1, .int x1), (2, .int y4_2), (3, .int y4_3)] → W p l e (headSpec wsX7_beginOf ({ frames := 1, cells := 0, slots := 0, locals := 22 } : Room)).room s m ([.ref (a 0), .int x1] : List Value).toArray below meth c H locs 0 0 (MQ below (q_X7_beginOf dC dI cy a v x1 Q A) ([.ref (a 0), .int x1] : List Value).toArray s 0 0 A) (F0 m 4 ls []) := by
      intro n
      induction n with
      | zero => intro y4_2 y4_3 H locs ls _ hm; exact absurd hm (Nat.not_lt_zero _)
      | succ n ih =>
        intro y4_2 y4_3 H locs ls hI hm hP hD hS hl
        have hq := hs4 y4_2 y4_3 hI
        generalize hB4 : (fun (t0 : Int32) (t1 : Int32) => I4 t0 t1 ∧ μ4 t0 t1 < μ4 y4_2 y4_3) = B4 at hq
        have bk4 : ∀ (y4_2 : Int32) (y4_3 : Int32) (H : Heap) (locs : List Loc) (ls : Array Slot), B4 y4_2 y4_3 → va_P (dC, dI) vwCl (wX7 cy a v) H → va_D A (wX7 cy a v) → va_S A s.heap H locs → lv_has ls 4 [(0, .ref (a 0)), (1, .int x1), (2, .int y4_2), (3, .int y4_3)] → W p l e (headSpec wsX7_beginOf ({ frames := 1, cells := 0, slots := 0, locals := 22 } : Room)).room s m ([.ref (a 0), .int x1] : List Value).toArray below meth c H locs 0 0 (MQ below (q_X7_beginOf dC dI cy a v x1 Q A) ([.ref (a 0), .int x1] : List Value).toArray s 0 0 A) (F0 m 4 ls []) := by
          intro y4_2 y4_3 H locs ls h
          rw [← hB4] at h
          exact ih y4_2 y4_3 H locs ls h.1 (Nat.lt_of_lt_of_le h.2 (Nat.le_of_lt_succ hm))
        unfold wb_X7_beginOf_4 at hq
        refine lv_iload_n hx hb dX7_beginOf_4 rfl (lv_at hl 3 rfl) ?_
        refine lv_iload_n hx hb dX7_beginOf_5 rfl (lv_at hl 1 rfl) ?_
        obtain ⟨hqA, hqB⟩ := hq
        refine lv_icmp_ge (tgt := 23) hx hb dX7_beginOf_6 (by decide) (fun c1 => ?_) (fun c1 => ?_)
        · have hq := hqA c1
          refine lv_iload_n hx hb dX7_beginOf_23 rfl (lv_at hl 2 rfl) ?_
          exact W.iret (v := y4_2) hx hb hr (fun t ht hW => ⟨⟨y4_2, (), rfl, hq, (xAt_of hP hK hD ht hW)⟩, hS.F ht⟩) hS.2.2 dX7_beginOf_24
        · have hq := hqB c1
          refine lv_aload_n hx hb dX7_beginOf_9 rfl (lv_at hl 0 rfl) ?_
          refine lv_iload_n hx hb dX7_beginOf_10 rfl (lv_at hl 2 rfl) ?_
          have hFc := xfree_same hS hAe0 (ws := (wX7 cy a v)) hD
          refine va_calli (va_runV (As := [.int y4_2]) (rest := []) ⟨hx, hb, hml, hown, hts⟩ (c_X7_endFrom l dC dI cy a _ v y4_2 _ hq) (cwV 1 hts gX7_beginOf_X7_endFrom rfl rfl rfl (by decide +kernel) ⟨Nat.le_of_ble_eq_true rfl, Nat.le_of_ble_eq_true rfl⟩) ⟨xPre_blind, va_recv hK hP (ci := 7) (q0 := 0) rfl rfl, xPre_of hP hK hD⟩ rfl rfl hl.1 rfl (lv_room (Nat.le_of_ble_eq_true rfl)) dX7_beginOf_11 ⟨Nat.le_of_ble_eq_true rfl, Nat.le_of_ble_eq_true rfl⟩) hS (fun q _ h => hFc q h) hFc (fun r11 u9 t H locs ht hvm hq hB hz1 hk1 hS => ?_)
          obtain ⟨hP1, -, hD1⟩ := hB
          rw [ht] at hP1
          have hP : va_P (dC, dI) vwCl (wX7 cy a v) H := hP1
          have hD : va_D A (wX7 cy a v) := hD1.weaken (fun _ q _ h => hFc q.1 h)
          refine lv_iconst (v := 1) hx hb dX7_beginOf_14 (by decide) ?_
          refine lv_iadd hx hb dX7_beginOf_15 ?_
          refine lv_istore_n (lv' := [(2, .int (r11 + 1)), (0, .ref (a 0)), (1, .int x1), (3, .int y4_3)]) hx hb dX7_beginOf_16 rfl hl (by decide) rfl (fun ls hl => ?_)
          refine lv_iinc (v := (y4_3 + 1)) (lv' := [(3, .int (y4_3 + 1)), (2, .int (r11 + 1)), (0, .ref (a 0)), (1, .int x1)]) hx hb dX7_beginOf_17 hl (k := 3) rfl rfl (by decide) rfl (fun ls hl => ?_)
          refine lv_goto (tgt := 4) hx hb dX7_beginOf_20 (by decide) ?_
          exact bk4 (r11 + 1) (y4_3 + 1) _ _ _ hq hP hD hS (lv_sub hl [2, 3, 1, 0] rfl)
    exact key _ y4_2 y4_3 H locs ls h0 (Nat.lt_succ_self _) hP hD hS hl
  refine lv_iconst (v := 0) hx hb dX7_beginOf_0 (by decide) ?_
  refine lv_istore_n (lv' := [(2, .int 0), (0, .ref (a 0)), (1, .int x1)]) hx hb dX7_beginOf_1 rfl hl (by decide) rfl (fun ls hl => ?_)
  refine lv_iconst (v := 0) hx hb dX7_beginOf_2 (by decide) ?_
  refine lv_istore_n (lv' := [(3, .int 0), (2, .int 0), (0, .ref (a 0)), (1, .int x1)]) hx hb dX7_beginOf_3 rfl hl (by decide) rfl (fun ls hl => ?_)
  exact J4  0 0 _ _ _ hq hP hD hS (lv_sub hl [2, 3, 1, 0] rfl)
def wb_X7_shifts_111 (v : V_X7) (x1 : Int32) (x2 : Int32)  (y111_3 : Int32) (z111_v_s : (Nat → Int32)) (B111 : Int32 → (Nat → Int32) → Prop) (Q : (Nat → Int32) → Prop) : Prop :=
  vp_in 7 1472 ∧ ((((z111_v_s (7 : Int32).toNatClampNeg) - x2) ≤ y111_3 → Q z111_v_s) ∧
  (¬ ((z111_v_s (7 : Int32).toNatClampNeg) - x2) ≤ y111_3 → vp_in (448 + y111_3) 1472 ∧ B111 (y111_3 + 1) (upd z111_v_s (448 + y111_3).toNatClampNeg 0)))
def wp_X7_shifts_111 (v : V_X7) (x1 : Int32) (x2 : Int32)  (y111_3 : Int32) (z111_v_s : (Nat → Int32)) (Q : (Nat → Int32) → Prop) : Prop :=
  ∃ (I : Int32 → (Nat → Int32) → Prop) (μ : Int32 → (Nat → Int32) → Nat), I y111_3 z111_v_s ∧ ∀ (s0 : Int32) (s1 : (Nat → Int32)), I s0 s1 → wb_X7_shifts_111 v x1 x2  s0 s1 (fun t0 t1 => I t0 t1 ∧ μ t0 t1 < μ s0 s1) Q
def wp_X7_shifts_92 (v : V_X7) (x1 : Int32) (x2 : Int32) (z92_v_s : (Nat → Int32)) (Q : (Nat → Int32) → Prop) : Prop :=
  vp_in 7 1472 ∧ wp_X7_shifts_111 v x1 x2  ((upd z92_v_s (7 : Int32).toNatClampNeg ((z92_v_s (7 : Int32).toNatClampNeg) + x2)) (7 : Int32).toNatClampNeg) (upd z92_v_s (7 : Int32).toNatClampNeg ((z92_v_s (7 : Int32).toNatClampNeg) + x2)) Q
def wb_X7_shifts_49 (v : V_X7) (x1 : Int32) (x2 : Int32)  (y49_3 : Int32) (z49_v_s : (Nat → Int32)) (B49 : Int32 → (Nat → Int32) → Prop) (Q : (Nat → Int32) → Prop) : Prop :=
  vp_in 7 1472 ∧ (((z49_v_s (7 : Int32).toNatClampNeg) ≤ y49_3 → wp_X7_shifts_92 v x1 x2 z49_v_s  Q) ∧
  (¬ (z49_v_s (7 : Int32).toNatClampNeg) ≤ y49_3 → ((0 ≤ x2 → wp_X7_shifts_92 v x1 x2 z49_v_s  Q) ∧
  (¬ 0 ≤ x2 → vp_in (448 + y49_3) 1472 ∧ vp_in ((448 + y49_3) + x2) 1472 ∧ B49 (y49_3 + 1) (upd z49_v_s ((448 + y49_3) + x2).toNatClampNeg (z49_v_s (448 + y49_3).toNatClampNeg))))))
def wp_X7_shifts_49 (v : V_X7) (x1 : Int32) (x2 : Int32)  (y49_3 : Int32) (z49_v_s : (Nat → Int32)) (Q : (Nat → Int32) → Prop) : Prop :=
  ∃ (I : Int32 → (Nat → Int32) → Prop) (μ : Int32 → (Nat → Int32) → Nat), I y49_3 z49_v_s ∧ ∀ (s0 : Int32) (s1 : (Nat → Int32)), I s0 s1 → wb_X7_shifts_49 v x1 x2  s0 s1 (fun t0 t1 => I t0 t1 ∧ μ t0 t1 < μ s0 s1) Q
def wb_X7_shifts_10 (v : V_X7) (x1 : Int32) (x2 : Int32)  (y10_3 : Int32) (z10_v_s : (Nat → Int32)) (B10 : Int32 → (Nat → Int32) → Prop) (Q : (Nat → Int32) → Prop) : Prop :=
  ((y10_3 < x1 → wp_X7_shifts_49 v x1 x2  x1 z10_v_s Q) ∧
  (¬ y10_3 < x1 → ((x2 ≤ 0 → wp_X7_shifts_49 v x1 x2  x1 z10_v_s Q) ∧
  (¬ x2 ≤ 0 → vp_in (448 + y10_3) 1472 ∧ vp_in ((448 + y10_3) + x2) 1472 ∧ B10 (y10_3 + (-1)) (upd z10_v_s ((448 + y10_3) + x2).toNatClampNeg (z10_v_s (448 + y10_3).toNatClampNeg))))))
def wp_X7_shifts_10 (v : V_X7) (x1 : Int32) (x2 : Int32)  (y10_3 : Int32) (z10_v_s : (Nat → Int32)) (Q : (Nat → Int32) → Prop) : Prop :=
  ∃ (I : Int32 → (Nat → Int32) → Prop) (μ : Int32 → (Nat → Int32) → Nat), I y10_3 z10_v_s ∧ ∀ (s0 : Int32) (s1 : (Nat → Int32)), I s0 s1 → wb_X7_shifts_10 v x1 x2  s0 s1 (fun t0 t1 => I t0 t1 ∧ μ t0 t1 < μ s0 s1) Q
def wp_X7_shifts (v : V_X7) (x1 : Int32) (x2 : Int32) (Q : (Nat → Int32) → Prop) : Prop :=
  vp_in 7 1472 ∧ wp_X7_shifts_10 v x1 x2  (((X7_s v) (7 : Int32).toNatClampNeg) - 1) (X7_s v) Q
def q_X7_shifts (dC : Nat → ClassId) (dI : Nat → Nat → Nat) (cy : Nat → ClassId) (a : Nat → Nat) (v : V_X7) (x1 : Int32) (x2 : Int32) (Q : (Nat → Int32) → Prop) (A : Nat → Prop) : Array Value → State → Outcome → State → Prop := va_Qv (fun (u : (Nat → Int32)) => Q u) (fun (u : (Nat → Int32)) t => xAt dC dI cy A (cX7 cy a u (X7_aside v) (X7_kept v) (X7_isKept v) (X7_saved v) (X7_savedMany v) (X7_text v) (X7_length v) (X7_thrown v) (X7_joint v) (X7_position v) (X7_isWrong v) (X7_isHollow v) (X7_sure v) (X7_away v) (X7_digested v)) t) A
set_option maxHeartbeats 4000000 in
set_option maxRecDepth 100000 in
theorem c_X7_shifts (l : Launch) (dC : Nat → ClassId) (dI : Nat → Nat → Nat) (cy : Nat → ClassId) (a : Nat → Nat) (sz : Nat) (v : V_X7) (x1 : Int32) (x2 : Int32) (Q : (Nat → Int32) → Prop) (hq : wp_X7_shifts v x1 x2 Q) : Met l yX7_shifts wsX7_shifts ({ frames := 0, cells := 0, slots := 0, locals := 0 } : Room) (va_Pc [.ref (a 0), .int x1, .int x2] (xPre dC dI cy (wX7 cy a v) sz)) (q_X7_shifts dC dI cy a v x1 x2 Q (va_A (wX7 cy a v) sz)) 0 0 (va_A (wX7 cy a v) sz) := by
  refine Met.ofW (cc := cX7_shifts) (maxL := 4) (ret := none) (by decide) rfl ?_
  intro p e s m args below meth c s₁ B hml hv
  obtain ⟨rfl, hsz, hP, hK, hD0⟩ := hv
  have hx := B.exec
  have hb := B.bytes
  have hr := B.returns
  have hts := atoms_spec (ws := wsX7_shifts) B.pre
  have hown : s.vm.findClass RX7 = some m.cls := findClass_of_methodNamed B.named
  have hlocks := B.notSynchronized
  subst hsz
  have hD := hD0.self (sz := s.heap.size)
  generalize hAe : va_A (wX7 cy a v) s.heap.size = A at hD ⊢
  have hAe0 : ∀ q : Nat, s.heap.size ≤ q → A q := fun q h => by rw [← hAe]; exact Or.inr h
  have hS : va_S A s.heap s.heap [] := va_S.rf
  have hl := lv_entry ([.ref (a 0), .int x1, .int x2]) (n := 4) (Nat.le_of_ble_eq_true rfl)
  rw [lg_entry_eq]
  generalize (lg_sl ([.ref (a 0), .int x1, .int x2]) ++ List.replicate (4 - (lg_sl ([.ref (a 0), .int x1, .int x2])).length) Slot.unset).toArray = ls at hl ⊢
  have hl : lv_has ls 4 [(0, .ref (a 0)), (1, .int x1), (2, .int x2)] := hl
  have lk0 := hts (Cond.fieldLink RX7 7 "MolesLawnModel" "s" "[I") (List.mem_cons_of_mem _ (List.mem_append_left _ (List.mem_of_getElem? (i := 0) rfl)))
  have iK7 : ∀ w ∈ wsX70, w ∈ wsX7_shifts := fun _ h => (List.mem_cons_of_mem _ (List.mem_append_right _ h))
  unfold wp_X7_shifts at hq
  have J111 : ∀  (y111_3 : Int32) (z111_v_s : (Nat → Int32)) (H : Heap) (locs : List Loc) (ls : Array Slot), wp_X7_shifts_111 v x1 x2  y111_3 z111_v_s Q → va_P (dC, dI) vwCl (cX7 cy a z111_v_s (X7_aside v) (X7_kept v) (X7_isKept v) (X7_saved v) (X7_savedMany v) (X7_text v) (X7_length v) (X7_thrown v) (X7_joint v) (X7_position v) (X7_isWrong v) (X7_isHollow v) (X7_sure v) (X7_away v) (X7_digested v)) H → va_D A (cX7 cy a z111_v_s (X7_aside v) (X7_kept v) (X7_isKept v) (X7_saved v) (X7_savedMany v) (X7_text v) (X7_length v) (X7_thrown v) (X7_joint v) (X7_position v) (X7_isWrong v) (X7_isHollow v) (X7_sure v) (X7_away v) (X7_digested v)) → va_S A s.heap H locs → lv_has ls 4 [(0, .ref (a 0)), (2, .int x2), (3, .int y111_3)] → W p l e (headSpec wsX7_shifts ({ frames := 0, cells := 0, slots := 0, locals := 0 } : Room)).room s m ([.ref (a 0), .int x1, .int x2] : List Value).toArray below meth c H locs 0 0 (MQ below (q_X7_shifts dC dI cy a v x1 x2 Q A) ([.ref (a 0), .int x1, .int x2] : List Value).toArray s 0 0 A) (F0 m 111 ls []) := by
    intro  y111_3 z111_v_s H locs ls hq hP hD hS hl
    obtain ⟨I111, μ111, h0, hs111⟩ := hq
    have key : ∀ (n : Nat) (y111_3 : Int32) (z111_v_s : (Nat → Int32)) (H : Heap) (locs : List Loc) (ls : Array Slot), I111 y111_3 z111_v_s → μ111 y111_3 z111_v_s < n → va_P (dC, dI) vwCl (cX7 cy a z111_v_s (X7_aside v) (X7_kept v) (X7_isKept v) (X7_saved v) (X7_savedMany v) (X7_text v) (X7_length v) (X7_thrown v) (X7_joint v) (X7_position v) (X7_isWrong v) (X7_isHollow v) (X7_sure v) (X7_away v) (X7_digested v)) H → va_D A (cX7 cy a z111_v_s (X7_aside v) (X7_kept v) (X7_isKept v) (X7_saved v) (X7_savedMany v) (X7_text v) (X7_length v) (X7_thrown v) (X7_joint v) (X7_position v) (X7_isWrong v) (X7_isHollow v) (X7_sure v) (X7_away v) (X7_digested v)) → va_S A s.heap H locs → lv_has ls 4 [(0, .ref (a 0)), (2, .int x2), (3, .int y111_3)] → W p l e (headSpec wsX7_shifts ({ frames := 0, cells := 0, slots := 0, locals := 0 } : Room)).room s m ([.ref (a 0), .int x1, .int x2] : List Value).toArray below meth c H locs 0 0 (MQ below (q_X7_shifts dC dI cy a v x1 x2 Q A) ([.ref (a 0), .int x1, .int x2] : List Value).toArray s 0 0 A) (F0 m 111 ls []) := by
      intro n
      induction n with
      | zero => intro y111_3 z111_v_s H locs ls _ hm; exact absurd hm (Nat.not_lt_zero _)
      | succ n ih =>
        intro y111_3 z111_v_s H locs ls hI hm hP hD hS hl
        have hq := hs111 y111_3 z111_v_s hI
        generalize hB111 : (fun (t0 : Int32) (t1 : (Nat → Int32)) => I111 t0 t1 ∧ μ111 t0 t1 < μ111 y111_3 z111_v_s) = B111 at hq
        have bk111 : ∀ (y111_3 : Int32) (z111_v_s : (Nat → Int32)) (H : Heap) (locs : List Loc) (ls : Array Slot), B111 y111_3 z111_v_s → va_P (dC, dI) vwCl (cX7 cy a z111_v_s (X7_aside v) (X7_kept v) (X7_isKept v) (X7_saved v) (X7_savedMany v) (X7_text v) (X7_length v) (X7_thrown v) (X7_joint v) (X7_position v) (X7_isWrong v) (X7_isHollow v) (X7_sure v) (X7_away v) (X7_digested v)) H → va_D A (cX7 cy a z111_v_s (X7_aside v) (X7_kept v) (X7_isKept v) (X7_saved v) (X7_savedMany v) (X7_text v) (X7_length v) (X7_thrown v) (X7_joint v) (X7_position v) (X7_isWrong v) (X7_isHollow v) (X7_sure v) (X7_away v) (X7_digested v)) → va_S A s.heap H locs → lv_has ls 4 [(0, .ref (a 0)), (2, .int x2), (3, .int y111_3)] → W p l e (headSpec wsX7_shifts ({ frames := 0, cells := 0, slots := 0, locals := 0 } : Room)).room s m ([.ref (a 0), .int x1, .int x2] : List Value).toArray below meth c H locs 0 0 (MQ below (q_X7_shifts dC dI cy a v x1 x2 Q A) ([.ref (a 0), .int x1, .int x2] : List Value).toArray s 0 0 A) (F0 m 111 ls []) := by
          intro y111_3 z111_v_s H locs ls h
          rw [← hB111] at h
          exact ih y111_3 z111_v_s H locs ls h.1 (Nat.lt_of_lt_of_le h.2 (Nat.le_of_lt_succ hm))
        unfold wb_X7_shifts_111 at hq
        refine lv_iload_n hx hb dX7_shifts_111 rfl (lv_at hl 2 rfl) ?_
        refine lv_aload_n hx hb dX7_shifts_112 rfl (lv_at hl 0 rfl) ?_
        refine va_get (D := (dC, dI)) (ci := 7) (v := .ref (a 1)) (C := RX7) (T := TX7) (N := 16) hx hb hts iK7 hown hK hP 0 rfl rfl 0 (by decide) lk0 (fun _ h9 => h9) rfl dX7_shifts_113 ?_
        refine lv_bipush (v := 7) hx hb dX7_shifts_116 (by decide) ?_
        obtain ⟨g1, hq⟩ := hq
        refine va_iald hx hb hK hP 1 0 rfl rfl g1 dX7_shifts_118 ?_
        refine lv_iload_n hx hb dX7_shifts_119 rfl (lv_at hl 1 rfl) ?_
        refine lv_isub hx hb dX7_shifts_120 ?_
        obtain ⟨hqA, hqB⟩ := hq
        refine lv_icmp_ge (tgt := 141) hx hb dX7_shifts_121 (by decide) (fun c3 => ?_) (fun c3 => ?_)
        · have hq := hqA c3
          exact W.vret hx hb hr (fun t ht hW => ⟨⟨z111_v_s, rfl, hq, (xAt_of hP hK hD ht hW)⟩, hS.F ht⟩) hS.2.2 dX7_shifts_141
        · have hq := hqB c3
          refine lv_aload_n hx hb dX7_shifts_124 rfl (lv_at hl 0 rfl) ?_
          refine va_get (D := (dC, dI)) (ci := 7) (v := .ref (a 1)) (C := RX7) (T := TX7) (N := 16) hx hb hts iK7 hown hK hP 0 rfl rfl 0 (by decide) lk0 (fun _ h9 => h9) rfl dX7_shifts_125 ?_
          refine lv_sipush (v := 448) hx hb dX7_shifts_128 (by decide) ?_
          refine lv_iload_n hx hb dX7_shifts_131 rfl (lv_at hl 2 rfl) ?_
          refine lv_iadd hx hb dX7_shifts_132 ?_
          refine lv_iconst (v := 0) hx hb dX7_shifts_133 (by decide) ?_
          obtain ⟨g2, hq⟩ := hq
          refine va_iast hx hb hK hP hD hS 1 0 rfl rfl g2 dX7_shifts_134 (fun H locs hP hD hS => ?_)
          have hP : va_P (dC, dI) vwCl (cX7 cy a (upd z111_v_s (448 + y111_3).toNatClampNeg 0) (X7_aside v) (X7_kept v) (X7_isKept v) (X7_saved v) (X7_savedMany v) (X7_text v) (X7_length v) (X7_thrown v) (X7_joint v) (X7_position v) (X7_isWrong v) (X7_isHollow v) (X7_sure v) (X7_away v) (X7_digested v)) H := hP
          have hD : va_D A (cX7 cy a (upd z111_v_s (448 + y111_3).toNatClampNeg 0) (X7_aside v) (X7_kept v) (X7_isKept v) (X7_saved v) (X7_savedMany v) (X7_text v) (X7_length v) (X7_thrown v) (X7_joint v) (X7_position v) (X7_isWrong v) (X7_isHollow v) (X7_sure v) (X7_away v) (X7_digested v)) := hD
          refine lv_iinc (v := (y111_3 + 1)) (lv' := [(3, .int (y111_3 + 1)), (0, .ref (a 0)), (2, .int x2)]) hx hb dX7_shifts_135 hl (k := 2) rfl rfl (by decide) rfl (fun ls hl => ?_)
          refine lv_goto (tgt := 111) hx hb dX7_shifts_138 (by decide) ?_
          exact bk111 (y111_3 + 1) (upd z111_v_s (448 + y111_3).toNatClampNeg 0) _ _ _ hq hP hD hS (lv_sub hl [1, 2, 0] rfl)
    exact key _ y111_3 z111_v_s H locs ls h0 (Nat.lt_succ_self _) hP hD hS hl
  have J92 : ∀ (z92_v_s : (Nat → Int32)) (H : Heap) (locs : List Loc) (ls : Array Slot), wp_X7_shifts_92 v x1 x2 z92_v_s Q → va_P (dC, dI) vwCl (cX7 cy a z92_v_s (X7_aside v) (X7_kept v) (X7_isKept v) (X7_saved v) (X7_savedMany v) (X7_text v) (X7_length v) (X7_thrown v) (X7_joint v) (X7_position v) (X7_isWrong v) (X7_isHollow v) (X7_sure v) (X7_away v) (X7_digested v)) H → va_D A (cX7 cy a z92_v_s (X7_aside v) (X7_kept v) (X7_isKept v) (X7_saved v) (X7_savedMany v) (X7_text v) (X7_length v) (X7_thrown v) (X7_joint v) (X7_position v) (X7_isWrong v) (X7_isHollow v) (X7_sure v) (X7_away v) (X7_digested v)) → va_S A s.heap H locs → lv_has ls 4 [(0, .ref (a 0)), (2, .int x2)] → W p l e (headSpec wsX7_shifts ({ frames := 0, cells := 0, slots := 0, locals := 0 } : Room)).room s m ([.ref (a 0), .int x1, .int x2] : List Value).toArray below meth c H locs 0 0 (MQ below (q_X7_shifts dC dI cy a v x1 x2 Q A) ([.ref (a 0), .int x1, .int x2] : List Value).toArray s 0 0 A) (F0 m 92 ls []) := by
    intro z92_v_s H locs ls hq hP hD hS hl
    unfold wp_X7_shifts_92 at hq
    refine lv_aload_n hx hb dX7_shifts_92 rfl (lv_at hl 0 rfl) ?_
    refine va_get (D := (dC, dI)) (ci := 7) (v := .ref (a 1)) (C := RX7) (T := TX7) (N := 16) hx hb hts iK7 hown hK hP 0 rfl rfl 0 (by decide) lk0 (fun _ h9 => h9) rfl dX7_shifts_93 ?_
    refine lv_bipush (v := 7) hx hb dX7_shifts_96 (by decide) ?_
    refine lv_dup2_11 hx hb dX7_shifts_98 rfl rfl ?_
    obtain ⟨g4, hq⟩ := hq
    refine va_iald hx hb hK hP 1 0 rfl rfl g4 dX7_shifts_99 ?_
    refine lv_iload_n hx hb dX7_shifts_100 rfl (lv_at hl 1 rfl) ?_
    refine lv_iadd hx hb dX7_shifts_101 ?_
    refine va_iast hx hb hK hP hD hS 1 0 rfl rfl g4 dX7_shifts_102 (fun H locs hP hD hS => ?_)
    have hP : va_P (dC, dI) vwCl (cX7 cy a (upd z92_v_s (7 : Int32).toNatClampNeg ((z92_v_s (7 : Int32).toNatClampNeg) + x2)) (X7_aside v) (X7_kept v) (X7_isKept v) (X7_saved v) (X7_savedMany v) (X7_text v) (X7_length v) (X7_thrown v) (X7_joint v) (X7_position v) (X7_isWrong v) (X7_isHollow v) (X7_sure v) (X7_away v) (X7_digested v)) H := hP
    have hD : va_D A (cX7 cy a (upd z92_v_s (7 : Int32).toNatClampNeg ((z92_v_s (7 : Int32).toNatClampNeg) + x2)) (X7_aside v) (X7_kept v) (X7_isKept v) (X7_saved v) (X7_savedMany v) (X7_text v) (X7_length v) (X7_thrown v) (X7_joint v) (X7_position v) (X7_isWrong v) (X7_isHollow v) (X7_sure v) (X7_away v) (X7_digested v)) := hD
    refine lv_aload_n hx hb dX7_shifts_103 rfl (lv_at hl 0 rfl) ?_
    refine va_get (D := (dC, dI)) (ci := 7) (v := .ref (a 1)) (C := RX7) (T := TX7) (N := 16) hx hb hts iK7 hown hK hP 0 rfl rfl 0 (by decide) lk0 (fun _ h9 => h9) rfl dX7_shifts_104 ?_
    refine lv_bipush (v := 7) hx hb dX7_shifts_107 (by decide) ?_
    refine va_iald hx hb hK hP 1 0 rfl rfl g4 dX7_shifts_109 ?_
    refine lv_istore_n (lv' := [(3, .int ((upd z92_v_s (7 : Int32).toNatClampNeg ((z92_v_s (7 : Int32).toNatClampNeg) + x2)) (7 : Int32).toNatClampNeg)), (0, .ref (a 0)), (2, .int x2)]) hx hb dX7_shifts_110 rfl hl (by decide) rfl (fun ls hl => ?_)
    exact J111  ((upd z92_v_s (7 : Int32).toNatClampNeg ((z92_v_s (7 : Int32).toNatClampNeg) + x2)) (7 : Int32).toNatClampNeg) (upd z92_v_s (7 : Int32).toNatClampNeg ((z92_v_s (7 : Int32).toNatClampNeg) + x2)) _ _ _ hq hP hD hS (lv_sub hl [1, 2, 0] rfl)
  have J49 : ∀  (y49_3 : Int32) (z49_v_s : (Nat → Int32)) (H : Heap) (locs : List Loc) (ls : Array Slot), wp_X7_shifts_49 v x1 x2  y49_3 z49_v_s Q → va_P (dC, dI) vwCl (cX7 cy a z49_v_s (X7_aside v) (X7_kept v) (X7_isKept v) (X7_saved v) (X7_savedMany v) (X7_text v) (X7_length v) (X7_thrown v) (X7_joint v) (X7_position v) (X7_isWrong v) (X7_isHollow v) (X7_sure v) (X7_away v) (X7_digested v)) H → va_D A (cX7 cy a z49_v_s (X7_aside v) (X7_kept v) (X7_isKept v) (X7_saved v) (X7_savedMany v) (X7_text v) (X7_length v) (X7_thrown v) (X7_joint v) (X7_position v) (X7_isWrong v) (X7_isHollow v) (X7_sure v) (X7_away v) (X7_digested v)) → va_S A s.heap H locs → lv_has ls 4 [(0, .ref (a 0)), (2, .int x2), (3, .int y49_3)] → W p l e (headSpec wsX7_shifts ({ frames := 0, cells := 0, slots := 0, locals := 0 } : Room)).room s m ([.ref (a 0), .int x1, .int x2] : List Value).toArray below meth c H locs 0 0 (MQ below (q_X7_shifts dC dI cy a v x1 x2 Q A) ([.ref (a 0), .int x1, .int x2] : List Value).toArray s 0 0 A) (F0 m 49 ls []) := by
    intro  y49_3 z49_v_s H locs ls hq hP hD hS hl
    obtain ⟨I49, μ49, h0, hs49⟩ := hq
    have key : ∀ (n : Nat) (y49_3 : Int32) (z49_v_s : (Nat → Int32)) (H : Heap) (locs : List Loc) (ls : Array Slot), I49 y49_3 z49_v_s → μ49 y49_3 z49_v_s < n → va_P (dC, dI) vwCl (cX7 cy a z49_v_s (X7_aside v) (X7_kept v) (X7_isKept v) (X7_saved v) (X7_savedMany v) (X7_text v) (X7_length v) (X7_thrown v) (X7_joint v) (X7_position v) (X7_isWrong v) (X7_isHollow v) (X7_sure v) (X7_away v) (X7_digested v)) H → va_D A (cX7 cy a z49_v_s (X7_aside v) (X7_kept v) (X7_isKept v) (X7_saved v) (X7_savedMany v) (X7_text v) (X7_length v) (X7_thrown v) (X7_joint v) (X7_position v) (X7_isWrong v) (X7_isHollow v) (X7_sure v) (X7_away v) (X7_digested v)) → va_S A s.heap H locs → lv_has ls 4 [(0, .ref (a 0)), (2, .int x2), (3, .int y49_3)] → W p l e (headSpec wsX7_shifts ({ frames := 0, cells := 0, slots := 0, locals := 0 } : Room)).room s m ([.ref (a 0), .int x1, .int x2] : List Value).toArray below meth c H locs 0 0 (MQ below (q_X7_shifts dC dI cy a v x1 x2 Q A) ([.ref (a 0), .int x1, .int x2] : List Value).toArray s 0 0 A) (F0 m 49 ls []) := by
      intro n
      induction n with
      | zero => intro y49_3 z49_v_s H locs ls _ hm; exact absurd hm (Nat.not_lt_zero _)
      | succ n ih =>
        intro y49_3 z49_v_s H locs ls hI hm hP hD hS hl
        have hq := hs49 y49_3 z49_v_s hI
        generalize hB49 : (fun (t0 : Int32) (t1 : (Nat → Int32)) => I49 t0 t1 ∧ μ49 t0 t1 < μ49 y49_3 z49_v_s) = B49 at hq
        have bk49 : ∀ (y49_3 : Int32) (z49_v_s : (Nat → Int32)) (H : Heap) (locs : List Loc) (ls : Array Slot), B49 y49_3 z49_v_s → va_P (dC, dI) vwCl (cX7 cy a z49_v_s (X7_aside v) (X7_kept v) (X7_isKept v) (X7_saved v) (X7_savedMany v) (X7_text v) (X7_length v) (X7_thrown v) (X7_joint v) (X7_position v) (X7_isWrong v) (X7_isHollow v) (X7_sure v) (X7_away v) (X7_digested v)) H → va_D A (cX7 cy a z49_v_s (X7_aside v) (X7_kept v) (X7_isKept v) (X7_saved v) (X7_savedMany v) (X7_text v) (X7_length v) (X7_thrown v) (X7_joint v) (X7_position v) (X7_isWrong v) (X7_isHollow v) (X7_sure v) (X7_away v) (X7_digested v)) → va_S A s.heap H locs → lv_has ls 4 [(0, .ref (a 0)), (2, .int x2), (3, .int y49_3)] → W p l e (headSpec wsX7_shifts ({ frames := 0, cells := 0, slots := 0, locals := 0 } : Room)).room s m ([.ref (a 0), .int x1, .int x2] : List Value).toArray below meth c H locs 0 0 (MQ below (q_X7_shifts dC dI cy a v x1 x2 Q A) ([.ref (a 0), .int x1, .int x2] : List Value).toArray s 0 0 A) (F0 m 49 ls []) := by
          intro y49_3 z49_v_s H locs ls h
          rw [← hB49] at h
          exact ih y49_3 z49_v_s H locs ls h.1 (Nat.lt_of_lt_of_le h.2 (Nat.le_of_lt_succ hm))
        unfold wb_X7_shifts_49 at hq
        refine lv_iload_n hx hb dX7_shifts_49 rfl (lv_at hl 2 rfl) ?_
        refine lv_aload_n hx hb dX7_shifts_50 rfl (lv_at hl 0 rfl) ?_
        refine va_get (D := (dC, dI)) (ci := 7) (v := .ref (a 1)) (C := RX7) (T := TX7) (N := 16) hx hb hts iK7 hown hK hP 0 rfl rfl 0 (by decide) lk0 (fun _ h9 => h9) rfl dX7_shifts_51 ?_
        refine lv_bipush (v := 7) hx hb dX7_shifts_54 (by decide) ?_
        obtain ⟨g5, hq⟩ := hq
        refine va_iald hx hb hK hP 1 0 rfl rfl g5 dX7_shifts_56 ?_
        obtain ⟨hqA, hqB⟩ := hq
        refine lv_icmp_ge (tgt := 92) hx hb dX7_shifts_57 (by decide) (fun c9 => ?_) (fun c9 => ?_)
        · have hq := hqA c9
          exact J92 z49_v_s  _ _ _ hq hP hD hS (lv_sub hl [0, 1] rfl)
        · have hq := hqB c9
          refine lv_iload_n hx hb dX7_shifts_60 rfl (lv_at hl 1 rfl) ?_
          obtain ⟨hqA, hqB⟩ := hq
          refine lv_if_ge (tgt := 92) hx hb dX7_shifts_61 (by decide) (fun c8 => ?_) (fun c8 => ?_)
          · have hq := hqA c8
            exact J92 z49_v_s  _ _ _ hq hP hD hS (lv_sub hl [0, 1] rfl)
          · have hq := hqB c8
            refine lv_aload_n hx hb dX7_shifts_64 rfl (lv_at hl 0 rfl) ?_
            refine va_get (D := (dC, dI)) (ci := 7) (v := .ref (a 1)) (C := RX7) (T := TX7) (N := 16) hx hb hts iK7 hown hK hP 0 rfl rfl 0 (by decide) lk0 (fun _ h9 => h9) rfl dX7_shifts_65 ?_
            refine lv_sipush (v := 448) hx hb dX7_shifts_68 (by decide) ?_
            refine lv_iload_n hx hb dX7_shifts_71 rfl (lv_at hl 2 rfl) ?_
            refine lv_iadd hx hb dX7_shifts_72 ?_
            refine lv_iload_n hx hb dX7_shifts_73 rfl (lv_at hl 1 rfl) ?_
            refine lv_iadd hx hb dX7_shifts_74 ?_
            refine lv_aload_n hx hb dX7_shifts_75 rfl (lv_at hl 0 rfl) ?_
            refine va_get (D := (dC, dI)) (ci := 7) (v := .ref (a 1)) (C := RX7) (T := TX7) (N := 16) hx hb hts iK7 hown hK hP 0 rfl rfl 0 (by decide) lk0 (fun _ h9 => h9) rfl dX7_shifts_76 ?_
            refine lv_sipush (v := 448) hx hb dX7_shifts_79 (by decide) ?_
            refine lv_iload_n hx hb dX7_shifts_82 rfl (lv_at hl 2 rfl) ?_
            refine lv_iadd hx hb dX7_shifts_83 ?_
            obtain ⟨g6, hq⟩ := hq
            refine va_iald hx hb hK hP 1 0 rfl rfl g6 dX7_shifts_84 ?_
            obtain ⟨g7, hq⟩ := hq
            refine va_iast hx hb hK hP hD hS 1 0 rfl rfl g7 dX7_shifts_85 (fun H locs hP hD hS => ?_)
            have hP : va_P (dC, dI) vwCl (cX7 cy a (upd z49_v_s ((448 + y49_3) + x2).toNatClampNeg (z49_v_s (448 + y49_3).toNatClampNeg)) (X7_aside v) (X7_kept v) (X7_isKept v) (X7_saved v) (X7_savedMany v) (X7_text v) (X7_length v) (X7_thrown v) (X7_joint v) (X7_position v) (X7_isWrong v) (X7_isHollow v) (X7_sure v) (X7_away v) (X7_digested v)) H := hP
            have hD : va_D A (cX7 cy a (upd z49_v_s ((448 + y49_3) + x2).toNatClampNeg (z49_v_s (448 + y49_3).toNatClampNeg)) (X7_aside v) (X7_kept v) (X7_isKept v) (X7_saved v) (X7_savedMany v) (X7_text v) (X7_length v) (X7_thrown v) (X7_joint v) (X7_position v) (X7_isWrong v) (X7_isHollow v) (X7_sure v) (X7_away v) (X7_digested v)) := hD
            refine lv_iinc (v := (y49_3 + 1)) (lv' := [(3, .int (y49_3 + 1)), (0, .ref (a 0)), (2, .int x2)]) hx hb dX7_shifts_86 hl (k := 2) rfl rfl (by decide) rfl (fun ls hl => ?_)
            refine lv_goto (tgt := 49) hx hb dX7_shifts_89 (by decide) ?_
            exact bk49 (y49_3 + 1) (upd z49_v_s ((448 + y49_3) + x2).toNatClampNeg (z49_v_s (448 + y49_3).toNatClampNeg)) _ _ _ hq hP hD hS (lv_sub hl [1, 2, 0] rfl)
    exact key _ y49_3 z49_v_s H locs ls h0 (Nat.lt_succ_self _) hP hD hS hl
  have J10 : ∀  (y10_3 : Int32) (z10_v_s : (Nat → Int32)) (H : Heap) (locs : List Loc) (ls : Array Slot), wp_X7_shifts_10 v x1 x2  y10_3 z10_v_s Q → va_P (dC, dI) vwCl (cX7 cy a z10_v_s (X7_aside v) (X7_kept v) (X7_isKept v) (X7_saved v) (X7_savedMany v) (X7_text v) (X7_length v) (X7_thrown v) (X7_joint v) (X7_position v) (X7_isWrong v) (X7_isHollow v) (X7_sure v) (X7_away v) (X7_digested v)) H → va_D A (cX7 cy a z10_v_s (X7_aside v) (X7_kept v) (X7_isKept v) (X7_saved v) (X7_savedMany v) (X7_text v) (X7_length v) (X7_thrown v) (X7_joint v) (X7_position v) (X7_isWrong v) (X7_isHollow v) (X7_sure v) (X7_away v) (X7_digested v)) → va_S A s.heap H locs → lv_has ls 4 [(0, .ref (a 0)), (1, .int x1), (2, .int x2), (3, .int y10_3)] → W p l e (headSpec wsX7_shifts ({ frames := 0, cells := 0, slots := 0, locals := 0 } : Room)).room s m ([.ref (a 0), .int x1, .int x2] : List Value).toArray below meth c H locs 0 0 (MQ below (q_X7_shifts dC dI cy a v x1 x2 Q A) ([.ref (a 0), .int x1, .int x2] : List Value).toArray s 0 0 A) (F0 m 10 ls []) := by
    intro  y10_3 z10_v_s H locs ls hq hP hD hS hl
    obtain ⟨I10, μ10, h0, hs10⟩ := hq
    have key : ∀ (n : Nat) (y10_3 : Int32) (z10_v_s : (Nat → Int32)) (H : Heap) (locs : List Loc) (ls : Array Slot), I10 y10_3 z10_v_s → μ10 y10_3 z10_v_s < n → va_P (dC, dI) vwCl (cX7 cy a z10_v_s (X7_aside v) (X7_kept v) (X7_isKept v) (X7_saved v) (X7_savedMany v) (X7_text v) (X7_length v) (X7_thrown v) (X7_joint v) (X7_position v) (X7_isWrong v) (X7_isHollow v) (X7_sure v) (X7_away v) (X7_digested v)) H → va_D A (cX7 cy a z10_v_s (X7_aside v) (X7_kept v) (X7_isKept v) (X7_saved v) (X7_savedMany v) (X7_text v) (X7_length v) (X7_thrown v) (X7_joint v) (X7_position v) (X7_isWrong v) (X7_isHollow v) (X7_sure v) (X7_away v) (X7_digested v)) → va_S A s.heap H locs → lv_has ls 4 [(0, .ref (a 0)), (1, .int x1), (2, .int x2), (3, .int y10_3)] → W p l e (headSpec wsX7_shifts ({ frames := 0, cells := 0, slots := 0, locals := 0 } : Room)).room s m ([.ref (a 0), .int x1, .int x2] : List Value).toArray below meth c H locs 0 0 (MQ below (q_X7_shifts dC dI cy a v x1 x2 Q A) ([.ref (a 0), .int x1, .int x2] : List Value).toArray s 0 0 A) (F0 m 10 ls []) := by
      intro n
      induction n with
      | zero => intro y10_3 z10_v_s H locs ls _ hm; exact absurd hm (Nat.not_lt_zero _)
      | succ n ih =>
        intro y10_3 z10_v_s H locs ls hI hm hP hD hS hl
        have hq := hs10 y10_3 z10_v_s hI
        generalize hB10 : (fun (t0 : Int32) (t1 : (Nat → Int32)) => I10 t0 t1 ∧ μ10 t0 t1 < μ10 y10_3 z10_v_s) = B10 at hq
        have bk10 : ∀ (y10_3 : Int32) (z10_v_s : (Nat → Int32)) (H : Heap) (locs : List Loc) (ls : Array Slot), B10 y10_3 z10_v_s → va_P (dC, dI) vwCl (cX7 cy a z10_v_s (X7_aside v) (X7_kept v) (X7_isKept v) (X7_saved v) (X7_savedMany v) (X7_text v) (X7_length v) (X7_thrown v) (X7_joint v) (X7_position v) (X7_isWrong v) (X7_isHollow v) (X7_sure v) (X7_away v) (X7_digested v)) H → va_D A (cX7 cy a z10_v_s (X7_aside v) (X7_kept v) (X7_isKept v) (X7_saved v) (X7_savedMany v) (X7_text v) (X7_length v) (X7_thrown v) (X7_joint v) (X7_position v) (X7_isWrong v) (X7_isHollow v) (X7_sure v) (X7_away v) (X7_digested v)) → va_S A s.heap H locs → lv_has ls 4 [(0, .ref (a 0)), (1, .int x1), (2, .int x2), (3, .int y10_3)] → W p l e (headSpec wsX7_shifts ({ frames := 0, cells := 0, slots := 0, locals := 0 } : Room)).room s m ([.ref (a 0), .int x1, .int x2] : List Value).toArray below meth c H locs 0 0 (MQ below (q_X7_shifts dC dI cy a v x1 x2 Q A) ([.ref (a 0), .int x1, .int x2] : List Value).toArray s 0 0 A) (F0 m 10 ls []) := by
          intro y10_3 z10_v_s H locs ls h
          rw [← hB10] at h
          exact ih y10_3 z10_v_s H locs ls h.1 (Nat.lt_of_lt_of_le h.2 (Nat.le_of_lt_succ hm))
        unfold wb_X7_shifts_10 at hq
        refine lv_iload_n hx hb dX7_shifts_10 rfl (lv_at hl 3 rfl) ?_
        refine lv_iload_n hx hb dX7_shifts_11 rfl (lv_at hl 1 rfl) ?_
        obtain ⟨hqA, hqB⟩ := hq
        refine lv_icmp_lt (tgt := 47) hx hb dX7_shifts_12 (by decide) (fun c13 => ?_) (fun c13 => ?_)
        · have hq := hqA c13
          refine lv_iload_n hx hb dX7_shifts_47 rfl (lv_at hl 1 rfl) ?_
          refine lv_istore_n (lv' := [(3, .int x1), (0, .ref (a 0)), (1, .int x1), (2, .int x2)]) hx hb dX7_shifts_48 rfl hl (by decide) rfl (fun ls hl => ?_)
          exact J49  x1 z10_v_s _ _ _ hq hP hD hS (lv_sub hl [1, 3, 0] rfl)
        · have hq := hqB c13
          refine lv_iload_n hx hb dX7_shifts_15 rfl (lv_at hl 2 rfl) ?_
          obtain ⟨hqA, hqB⟩ := hq
          refine lv_if_le (tgt := 47) hx hb dX7_shifts_16 (by decide) (fun c12 => ?_) (fun c12 => ?_)
          · have hq := hqA c12
            refine lv_iload_n hx hb dX7_shifts_47 rfl (lv_at hl 1 rfl) ?_
            refine lv_istore_n (lv' := [(3, .int x1), (0, .ref (a 0)), (1, .int x1), (2, .int x2)]) hx hb dX7_shifts_48 rfl hl (by decide) rfl (fun ls hl => ?_)
            exact J49  x1 z10_v_s _ _ _ hq hP hD hS (lv_sub hl [1, 3, 0] rfl)
          · have hq := hqB c12
            refine lv_aload_n hx hb dX7_shifts_19 rfl (lv_at hl 0 rfl) ?_
            refine va_get (D := (dC, dI)) (ci := 7) (v := .ref (a 1)) (C := RX7) (T := TX7) (N := 16) hx hb hts iK7 hown hK hP 0 rfl rfl 0 (by decide) lk0 (fun _ h9 => h9) rfl dX7_shifts_20 ?_
            refine lv_sipush (v := 448) hx hb dX7_shifts_23 (by decide) ?_
            refine lv_iload_n hx hb dX7_shifts_26 rfl (lv_at hl 3 rfl) ?_
            refine lv_iadd hx hb dX7_shifts_27 ?_
            refine lv_iload_n hx hb dX7_shifts_28 rfl (lv_at hl 2 rfl) ?_
            refine lv_iadd hx hb dX7_shifts_29 ?_
            refine lv_aload_n hx hb dX7_shifts_30 rfl (lv_at hl 0 rfl) ?_
            refine va_get (D := (dC, dI)) (ci := 7) (v := .ref (a 1)) (C := RX7) (T := TX7) (N := 16) hx hb hts iK7 hown hK hP 0 rfl rfl 0 (by decide) lk0 (fun _ h9 => h9) rfl dX7_shifts_31 ?_
            refine lv_sipush (v := 448) hx hb dX7_shifts_34 (by decide) ?_
            refine lv_iload_n hx hb dX7_shifts_37 rfl (lv_at hl 3 rfl) ?_
            refine lv_iadd hx hb dX7_shifts_38 ?_
            obtain ⟨g10, hq⟩ := hq
            refine va_iald hx hb hK hP 1 0 rfl rfl g10 dX7_shifts_39 ?_
            obtain ⟨g11, hq⟩ := hq
            refine va_iast hx hb hK hP hD hS 1 0 rfl rfl g11 dX7_shifts_40 (fun H locs hP hD hS => ?_)
            have hP : va_P (dC, dI) vwCl (cX7 cy a (upd z10_v_s ((448 + y10_3) + x2).toNatClampNeg (z10_v_s (448 + y10_3).toNatClampNeg)) (X7_aside v) (X7_kept v) (X7_isKept v) (X7_saved v) (X7_savedMany v) (X7_text v) (X7_length v) (X7_thrown v) (X7_joint v) (X7_position v) (X7_isWrong v) (X7_isHollow v) (X7_sure v) (X7_away v) (X7_digested v)) H := hP
            have hD : va_D A (cX7 cy a (upd z10_v_s ((448 + y10_3) + x2).toNatClampNeg (z10_v_s (448 + y10_3).toNatClampNeg)) (X7_aside v) (X7_kept v) (X7_isKept v) (X7_saved v) (X7_savedMany v) (X7_text v) (X7_length v) (X7_thrown v) (X7_joint v) (X7_position v) (X7_isWrong v) (X7_isHollow v) (X7_sure v) (X7_away v) (X7_digested v)) := hD
            refine lv_iinc (v := (y10_3 + (-1))) (lv' := [(3, .int (y10_3 + (-1))), (0, .ref (a 0)), (1, .int x1), (2, .int x2)]) hx hb dX7_shifts_41 hl (k := 3) rfl rfl (by decide) rfl (fun ls hl => ?_)
            refine lv_goto (tgt := 10) hx hb dX7_shifts_44 (by decide) ?_
            exact bk10 (y10_3 + (-1)) (upd z10_v_s ((448 + y10_3) + x2).toNatClampNeg (z10_v_s (448 + y10_3).toNatClampNeg)) _ _ _ hq hP hD hS (lv_sub hl [1, 2, 3, 0] rfl)
    exact key _ y10_3 z10_v_s H locs ls h0 (Nat.lt_succ_self _) hP hD hS hl
  refine lv_aload_n hx hb dX7_shifts_0 rfl (lv_at hl 0 rfl) ?_
  refine va_get (D := (dC, dI)) (ci := 7) (v := .ref (a 1)) (C := RX7) (T := TX7) (N := 16) hx hb hts iK7 hown hK hP 0 rfl rfl 0 (by decide) lk0 (fun _ h9 => h9) rfl dX7_shifts_1 ?_
  refine lv_bipush (v := 7) hx hb dX7_shifts_4 (by decide) ?_
  obtain ⟨g14, hq⟩ := hq
  refine va_iald hx hb hK hP 1 0 rfl rfl g14 dX7_shifts_6 ?_
  refine lv_iconst (v := 1) hx hb dX7_shifts_7 (by decide) ?_
  refine lv_isub hx hb dX7_shifts_8 ?_
  refine lv_istore_n (lv' := [(3, .int (((X7_s v) (7 : Int32).toNatClampNeg) - 1)), (0, .ref (a 0)), (1, .int x1), (2, .int x2)]) hx hb dX7_shifts_9 rfl hl (by decide) rfl (fun ls hl => ?_)
  exact J10  (((X7_s v) (7 : Int32).toNatClampNeg) - 1) (X7_s v) _ _ _ hq hP hD hS (lv_sub hl [1, 2, 3, 0] rfl)
def wb_X7_find_6 (v : V_X7) (x1 : Int32) (x2 : Int32) (x3 : Int32) (x4 : Int32)  (y6_5 : Int32) (y6_6 : Int32) (B6 : Int32 → Int32 → Prop) (Q : Int32 → Prop) : Prop :=
  ((x3 < y6_6 → Q y6_5) ∧
  (¬ x3 < y6_6 → wp_X7_tuftAt v y6_6 (fun r15 =>
  ((r15 = x1 → ((x4 = 0 → ((y6_5 = (-1) → B6 y6_6 (y6_6 + 1)) ∧
  (¬ y6_5 = (-1) → B6 y6_5 (y6_6 + 1)))) ∧
  (¬ x4 = 0 → B6 y6_6 (y6_6 + 1)))) ∧
  (¬ r15 = x1 → B6 y6_5 (y6_6 + 1))))))
def wp_X7_find_6 (v : V_X7) (x1 : Int32) (x2 : Int32) (x3 : Int32) (x4 : Int32)  (y6_5 : Int32) (y6_6 : Int32) (Q : Int32 → Prop) : Prop :=
  ∃ (I : Int32 → Int32 → Prop) (μ : Int32 → Int32 → Nat), I y6_5 y6_6 ∧ ∀ (s0 : Int32) (s1 : Int32), I s0 s1 → wb_X7_find_6 v x1 x2 x3 x4  s0 s1 (fun t0 t1 => I t0 t1 ∧ μ t0 t1 < μ s0 s1) Q
def wp_X7_find (v : V_X7) (x1 : Int32) (x2 : Int32) (x3 : Int32) (x4 : Int32) (Q : Int32 → Prop) : Prop :=
  wp_X7_find_6 v x1 x2 x3 x4  (-1) x2 Q
def q_X7_find (dC : Nat → ClassId) (dI : Nat → Nat → Nat) (cy : Nat → ClassId) (a : Nat → Nat) (v : V_X7) (x1 : Int32) (x2 : Int32) (x3 : Int32) (x4 : Int32) (Q : Int32 → Prop) (A : Nat → Prop) : Array Value → State → Outcome → State → Prop := va_Qi (fun (r : Int32) (u : Unit) => Q r ) (fun (u : Unit) t => xAt dC dI cy A (wX7 cy a v) t) A
set_option maxHeartbeats 4000000 in
set_option maxRecDepth 100000 in
theorem c_X7_find (l : Launch) (dC : Nat → ClassId) (dI : Nat → Nat → Nat) (cy : Nat → ClassId) (a : Nat → Nat) (sz : Nat) (v : V_X7) (x1 : Int32) (x2 : Int32) (x3 : Int32) (x4 : Int32) (Q : Int32 → Prop) (hq : wp_X7_find v x1 x2 x3 x4 Q) : Met l yX7_find wsX7_find ({ frames := 1, cells := 0, slots := 0, locals := 21 } : Room) (va_Pc [.ref (a 0), .int x1, .int x2, .int x3, .int x4] (xPre dC dI cy (wX7 cy a v) sz)) (q_X7_find dC dI cy a v x1 x2 x3 x4 Q (va_A (wX7 cy a v) sz)) 0 0 (va_A (wX7 cy a v) sz) := by
  refine Met.ofW (cc := cX7_find) (maxL := 7) (ret := (some .int)) (by decide) rfl ?_
  intro p e s m args below meth c s₁ B hml hv
  obtain ⟨rfl, hsz, hP, hK, hD0⟩ := hv
  have hx := B.exec
  have hb := B.bytes
  have hr := B.returns
  have hts := atoms_spec (ws := wsX7_find) B.pre
  have hown : s.vm.findClass RX7 = some m.cls := findClass_of_methodNamed B.named
  have hlocks := B.notSynchronized
  subst hsz
  have hD := hD0.self (sz := s.heap.size)
  generalize hAe : va_A (wX7 cy a v) s.heap.size = A at hD ⊢
  have hAe0 : ∀ q : Nat, s.heap.size ≤ q → A q := fun q h => by rw [← hAe]; exact Or.inr h
  have hS : va_S A s.heap s.heap [] := va_S.rf
  have hl := lv_entry ([.ref (a 0), .int x1, .int x2, .int x3, .int x4]) (n := 7) (Nat.le_of_ble_eq_true rfl)
  rw [lg_entry_eq]
  generalize (lg_sl ([.ref (a 0), .int x1, .int x2, .int x3, .int x4]) ++ List.replicate (7 - (lg_sl ([.ref (a 0), .int x1, .int x2, .int x3, .int x4])).length) Slot.unset).toArray = ls at hl ⊢
  have hl : lv_has ls 7 [(0, .ref (a 0)), (1, .int x1), (2, .int x2), (3, .int x3), (4, .int x4)] := hl
  unfold wp_X7_find at hq
  have J6 : ∀  (y6_5 : Int32) (y6_6 : Int32) (H : Heap) (locs : List Loc) (ls : Array Slot), wp_X7_find_6 v x1 x2 x3 x4  y6_5 y6_6 Q → va_P (dC, dI) vwCl (wX7 cy a v) H → va_D A (wX7 cy a v) → va_S A s.heap H locs → lv_has ls 7 [(0, .ref (a 0)), (1, .int x1), (3, .int x3), (4, .int x4), (5, .int y6_5), (6, .int y6_6)] → W p l e (headSpec wsX7_find ({ frames := 1, cells := 0, slots := 0, locals := 21 } : Room)).room s m ([.ref (a 0), .int x1, .int x2, .int x3, .int x4] : List Value).toArray below meth c H locs 0 0 (MQ below (q_X7_find dC dI cy a v x1 x2 x3 x4 Q A) ([.ref (a 0), .int x1, .int x2, .int x3, .int x4] : List Value).toArray s 0 0 A) (F0 m 6 ls []) := by
    intro  y6_5 y6_6 H locs ls hq hP hD hS hl
    obtain ⟨I6, μ6, h0, hs6⟩ := hq
    have key : ∀ (n : Nat) (y6_5 : Int32) (y6_6 : Int32) (H : Heap) (locs : List Loc) (ls : Array Slot), I6 y6_5 y6_6 → μ6 y6_5 y6_6 < n → va_P (dC, dI) vwCl (wX7 cy a v) H → va_D A (wX7 cy a v) → va_S A s.heap H locs → lv_has ls 7 [(0, .ref (a 0)), (1, .int x1), (3, .int x3), (4, .int x4), (5, .int y6_5), (6, .int y6_6)] → W p l e (headSpec wsX7_find ({ frames := 1, cells := 0, slots := 0, locals := 21 } : Room)).room s m ([.ref (a 0), .int x1, .int x2, .int x3, .int x4] : List Value).toArray below meth c H locs 0 0 (MQ below (q_X7_find dC dI cy a v x1 x2 x3 x4 Q A) ([.ref (a 0), .int x1, .int x2, .int x3, .int x4] : List Value).toArray s 0 0 A) (F0 m 6 ls []) := by
      intro n
      induction n with
      | zero => intro y6_5 y6_6 H locs ls _ hm; exact absurd hm (Nat.not_lt_zero _)
      | succ n ih =>
        intro y6_5 y6_6 H locs ls hI hm hP hD hS hl
        have hq := hs6 y6_5 y6_6 hI
        generalize hB6 : (fun (t0 : Int32) (t1 : Int32) => I6 t0 t1 ∧ μ6 t0 t1 < μ6 y6_5 y6_6) = B6 at hq
        have bk6 : ∀ (y6_5 : Int32) (y6_6 : Int32) (H : Heap) (locs : List Loc) (ls : Array Slot), B6 y6_5 y6_6 → va_P (dC, dI) vwCl (wX7 cy a v) H → va_D A (wX7 cy a v) → va_S A s.heap H locs → lv_has ls 7 [(0, .ref (a 0)), (1, .int x1), (3, .int x3), (4, .int x4), (5, .int y6_5), (6, .int y6_6)] → W p l e (headSpec wsX7_find ({ frames := 1, cells := 0, slots := 0, locals := 21 } : Room)).room s m ([.ref (a 0), .int x1, .int x2, .int x3, .int x4] : List Value).toArray below meth c H locs 0 0 (MQ below (q_X7_find dC dI cy a v x1 x2 x3 x4 Q A) ([.ref (a 0), .int x1, .int x2, .int x3, .int x4] : List Value).toArray s 0 0 A) (F0 m 6 ls []) := by
          intro y6_5 y6_6 H locs ls h
          rw [← hB6] at h
          exact ih y6_5 y6_6 H locs ls h.1 (Nat.lt_of_lt_of_le h.2 (Nat.le_of_lt_succ hm))
        unfold wb_X7_find_6 at hq
        refine lv_iload hx hb dX7_find_6 (lv_at hl 5 rfl) ?_
        refine lv_iload_n hx hb dX7_find_8 rfl (lv_at hl 2 rfl) ?_
        obtain ⟨hqA, hqB⟩ := hq
        refine lv_icmp_gt (tgt := 48) hx hb dX7_find_9 (by decide) (fun c4 => ?_) (fun c4 => ?_)
        · have hq := hqA c4
          refine lv_iload hx hb dX7_find_48 (lv_at hl 4 rfl) ?_
          exact W.iret (v := y6_5) hx hb hr (fun t ht hW => ⟨⟨y6_5, (), rfl, hq, (xAt_of hP hK hD ht hW)⟩, hS.F ht⟩) hS.2.2 dX7_find_50
        · have hq := hqB c4
          refine lv_aload_n hx hb dX7_find_12 rfl (lv_at hl 0 rfl) ?_
          refine lv_iload hx hb dX7_find_13 (lv_at hl 5 rfl) ?_
          have hFc := xfree_same hS hAe0 (ws := (wX7 cy a v)) hD
          refine va_calli (va_runV (As := [.int y6_6]) (rest := []) ⟨hx, hb, hml, hown, hts⟩ (c_X7_tuftAt l dC dI cy a _ v y6_6 _ hq) (cwV 1 hts gX7_find_X7_tuftAt rfl rfl rfl (by decide +kernel) ⟨Nat.le_of_ble_eq_true rfl, Nat.le_of_ble_eq_true rfl⟩) ⟨xPre_blind, va_recv hK hP (ci := 7) (q0 := 0) rfl rfl, xPre_of hP hK hD⟩ rfl rfl hl.1 rfl (lv_room (Nat.le_of_ble_eq_true rfl)) dX7_find_15 ⟨Nat.le_of_ble_eq_true rfl, Nat.le_of_ble_eq_true rfl⟩) hS (fun q _ h => hFc q h) hFc (fun r15 u9 t H locs ht hvm hq hB hz1 hk1 hS => ?_)
          obtain ⟨hP1, -, hD1⟩ := hB
          rw [ht] at hP1
          have hP : va_P (dC, dI) vwCl (wX7 cy a v) H := hP1
          have hD : va_D A (wX7 cy a v) := hD1.weaken (fun _ q _ h => hFc q.1 h)
          refine lv_iload_n hx hb dX7_find_18 rfl (lv_at hl 1 rfl) ?_
          obtain ⟨hqA, hqB⟩ := hq
          refine lv_icmp_ne (tgt := 38) hx hb dX7_find_19 (by decide) (fun c3 => ?_) (fun c3 => ?_)
          · have hq := hqB c3
            refine lv_iload hx hb dX7_find_38 (lv_at hl 4 rfl) ?_
            refine lv_istore (lv' := [(5, .int y6_5), (0, .ref (a 0)), (1, .int x1), (3, .int x3), (4, .int x4), (6, .int y6_6)]) hx hb dX7_find_40 hl (by decide) rfl (fun ls hl => ?_)
            refine lv_iinc (v := (y6_6 + 1)) (lv' := [(6, .int (y6_6 + 1)), (5, .int y6_5), (0, .ref (a 0)), (1, .int x1), (3, .int x3), (4, .int x4)]) hx hb dX7_find_42 hl (k := 5) rfl rfl (by decide) rfl (fun ls hl => ?_)
            refine lv_goto (tgt := 6) hx hb dX7_find_45 (by decide) ?_
            exact bk6 y6_5 (y6_6 + 1) _ _ _ hq hP hD hS (lv_sub hl [2, 3, 4, 5, 1, 0] rfl)
          · have hq := hqA c3
            refine lv_iload hx hb dX7_find_22 (lv_at hl 3 rfl) ?_
            obtain ⟨hqA, hqB⟩ := hq
            refine lv_if_ne (tgt := 33) hx hb dX7_find_24 (by decide) (fun c2 => ?_) (fun c2 => ?_)
            · have hq := hqB c2
              refine lv_iload hx hb dX7_find_33 (lv_at hl 5 rfl) ?_
              refine lv_goto (tgt := 40) hx hb dX7_find_35 (by decide) ?_
              refine lv_istore (lv' := [(5, .int y6_6), (0, .ref (a 0)), (1, .int x1), (3, .int x3), (4, .int x4), (6, .int y6_6)]) hx hb dX7_find_40 hl (by decide) rfl (fun ls hl => ?_)
              refine lv_iinc (v := (y6_6 + 1)) (lv' := [(6, .int (y6_6 + 1)), (5, .int y6_6), (0, .ref (a 0)), (1, .int x1), (3, .int x3), (4, .int x4)]) hx hb dX7_find_42 hl (k := 5) rfl rfl (by decide) rfl (fun ls hl => ?_)
              refine lv_goto (tgt := 6) hx hb dX7_find_45 (by decide) ?_
              exact bk6 y6_6 (y6_6 + 1) _ _ _ hq hP hD hS (lv_sub hl [2, 3, 4, 5, 1, 0] rfl)
            · have hq := hqA c2
              refine lv_iload hx hb dX7_find_27 (lv_at hl 4 rfl) ?_
              refine lv_iconst (v := (-1)) hx hb dX7_find_29 (by decide) ?_
              obtain ⟨hqA, hqB⟩ := hq
              refine lv_icmp_ne (tgt := 38) hx hb dX7_find_30 (by decide) (fun c1 => ?_) (fun c1 => ?_)
              · have hq := hqB c1
                refine lv_iload hx hb dX7_find_38 (lv_at hl 4 rfl) ?_
                refine lv_istore (lv' := [(5, .int y6_5), (0, .ref (a 0)), (1, .int x1), (3, .int x3), (4, .int x4), (6, .int y6_6)]) hx hb dX7_find_40 hl (by decide) rfl (fun ls hl => ?_)
                refine lv_iinc (v := (y6_6 + 1)) (lv' := [(6, .int (y6_6 + 1)), (5, .int y6_5), (0, .ref (a 0)), (1, .int x1), (3, .int x3), (4, .int x4)]) hx hb dX7_find_42 hl (k := 5) rfl rfl (by decide) rfl (fun ls hl => ?_)
                refine lv_goto (tgt := 6) hx hb dX7_find_45 (by decide) ?_
                exact bk6 y6_5 (y6_6 + 1) _ _ _ hq hP hD hS (lv_sub hl [2, 3, 4, 5, 1, 0] rfl)
              · have hq := hqA c1
                refine lv_iload hx hb dX7_find_33 (lv_at hl 5 rfl) ?_
                refine lv_goto (tgt := 40) hx hb dX7_find_35 (by decide) ?_
                refine lv_istore (lv' := [(5, .int y6_6), (0, .ref (a 0)), (1, .int x1), (3, .int x3), (4, .int x4), (6, .int y6_6)]) hx hb dX7_find_40 hl (by decide) rfl (fun ls hl => ?_)
                refine lv_iinc (v := (y6_6 + 1)) (lv' := [(6, .int (y6_6 + 1)), (5, .int y6_6), (0, .ref (a 0)), (1, .int x1), (3, .int x3), (4, .int x4)]) hx hb dX7_find_42 hl (k := 5) rfl rfl (by decide) rfl (fun ls hl => ?_)
                refine lv_goto (tgt := 6) hx hb dX7_find_45 (by decide) ?_
                exact bk6 y6_6 (y6_6 + 1) _ _ _ hq hP hD hS (lv_sub hl [2, 3, 4, 5, 1, 0] rfl)
    exact key _ y6_5 y6_6 H locs ls h0 (Nat.lt_succ_self _) hP hD hS hl
  refine lv_iconst (v := (-1)) hx hb dX7_find_0 (by decide) ?_
  refine lv_istore (lv' := [(5, .int (-1)), (0, .ref (a 0)), (1, .int x1), (2, .int x2), (3, .int x3), (4, .int x4)]) hx hb dX7_find_1 hl (by decide) rfl (fun ls hl => ?_)
  refine lv_iload_n hx hb dX7_find_3 rfl (lv_at hl 3 rfl) ?_
  refine lv_istore (lv' := [(6, .int x2), (5, .int (-1)), (0, .ref (a 0)), (1, .int x1), (2, .int x2), (3, .int x3), (4, .int x4)]) hx hb dX7_find_4 hl (by decide) rfl (fun ls hl => ?_)
  exact J6  (-1) x2 _ _ _ hq hP hD hS (lv_sub hl [2, 3, 5, 6, 1, 0] rfl)
def wp_X7_splits_106 (v : V_X7) (x1 : Int32) (y2_2 : Int32) (z2_v_s : (Nat → Int32)) (B2 : Int32 → (Nat → Int32) → Prop) (y106_4 : Int32) (z106_v_s : (Nat → Int32)) (Q : (Nat → Int32) → Prop) : Prop :=
  wp_X7_endFrom (X7_s0 v z106_v_s) (y106_4 + 1) (fun r111 =>
  B2 (r111 + 1) z106_v_s)
def wb_X7_splits_2 (v : V_X7) (x1 : Int32)  (y2_2 : Int32) (z2_v_s : (Nat → Int32)) (B2 : Int32 → (Nat → Int32) → Prop) (Q : (Nat → Int32) → Prop) : Prop :=
  vp_in 7 1472 ∧ (((z2_v_s (7 : Int32).toNatClampNeg) ≤ y2_2 → Q z2_v_s) ∧
  (¬ (z2_v_s (7 : Int32).toNatClampNeg) ≤ y2_2 → wp_X7_endFrom (X7_s0 v z2_v_s) y2_2 (fun r15 =>
  wp_X7_find (X7_s0 v z2_v_s) x1 y2_2 r15 0 (fun r24 =>
  ((r24 = (-1) → B2 (r15 + 1) z2_v_s) ∧
  (¬ r24 = (-1) → wp_X7_find (X7_s0 v z2_v_s) x1 y2_2 r15 1 (fun r40 =>
  vp_in (448 + r24) 1472 ∧ ((r24 = r40 → wp_X7_shifts (X7_s0 v (upd z2_v_s (448 + r24).toNatClampNeg (x1 + 64))) (r24 + 1) 1 (fun z73_v_s =>
  vp_in ((448 + r24) + 1) 1472 ∧ wp_X7_splits_106 v x1 y2_2 z2_v_s B2 r24 (upd z73_v_s ((448 + r24) + 1).toNatClampNeg x1)  Q)) ∧
  (¬ r24 = r40 → wp_X7_shifts (X7_s0 v (upd z2_v_s (448 + r24).toNatClampNeg (x1 + 64))) r40 ((r24 + 1) - r40) (fun z103_v_s =>
  wp_X7_splits_106 v x1 y2_2 z2_v_s B2 r24 z103_v_s  Q))))))))))
def wp_X7_splits_2 (v : V_X7) (x1 : Int32)  (y2_2 : Int32) (z2_v_s : (Nat → Int32)) (Q : (Nat → Int32) → Prop) : Prop :=
  ∃ (I : Int32 → (Nat → Int32) → Prop) (μ : Int32 → (Nat → Int32) → Nat), I y2_2 z2_v_s ∧ ∀ (s0 : Int32) (s1 : (Nat → Int32)), I s0 s1 → wb_X7_splits_2 v x1  s0 s1 (fun t0 t1 => I t0 t1 ∧ μ t0 t1 < μ s0 s1) Q
def wp_X7_splits (v : V_X7) (x1 : Int32) (Q : (Nat → Int32) → Prop) : Prop :=
  wp_X7_splits_2 v x1  0 (X7_s v) Q
def q_X7_splits (dC : Nat → ClassId) (dI : Nat → Nat → Nat) (cy : Nat → ClassId) (a : Nat → Nat) (v : V_X7) (x1 : Int32) (Q : (Nat → Int32) → Prop) (A : Nat → Prop) : Array Value → State → Outcome → State → Prop := va_Qv (fun (u : (Nat → Int32)) => Q u) (fun (u : (Nat → Int32)) t => xAt dC dI cy A (cX7 cy a u (X7_aside v) (X7_kept v) (X7_isKept v) (X7_saved v) (X7_savedMany v) (X7_text v) (X7_length v) (X7_thrown v) (X7_joint v) (X7_position v) (X7_isWrong v) (X7_isHollow v) (X7_sure v) (X7_away v) (X7_digested v)) t) A
set_option maxHeartbeats 4000000 in
set_option maxRecDepth 100000 in
theorem c_X7_splits (l : Launch) (dC : Nat → ClassId) (dI : Nat → Nat → Nat) (cy : Nat → ClassId) (a : Nat → Nat) (sz : Nat) (v : V_X7) (x1 : Int32) (Q : (Nat → Int32) → Prop) (hq : wp_X7_splits v x1 Q) : Met l yX7_splits wsX7_splits ({ frames := 2, cells := 0, slots := 0, locals := 47 } : Room) (va_Pc [.ref (a 0), .int x1] (xPre dC dI cy (wX7 cy a v) sz)) (q_X7_splits dC dI cy a v x1 Q (va_A (wX7 cy a v) sz)) 0 0 (va_A (wX7 cy a v) sz) := by
  refine Met.ofW (cc := cX7_splits) (maxL := 6) (ret := none) (by decide) rfl ?_
  intro p e s m args below meth c s₁ B hml hv
  obtain ⟨rfl, hsz, hP, hK, hD0⟩ := hv
  have hx := B.exec
  have hb := B.bytes
  have hr := B.returns
  have hts := atoms_spec (ws := wsX7_splits) B.pre
  have hown : s.vm.findClass RX7 = some m.cls := findClass_of_methodNamed B.named
  have hlocks := B.notSynchronized
  subst hsz
  have hD := hD0.self (sz := s.heap.size)
  generalize hAe : va_A (wX7 cy a v) s.heap.size = A at hD ⊢
  have hAe0 : ∀ q : Nat, s.heap.size ≤ q → A q := fun q h => by rw [← hAe]; exact Or.inr h
  have hS : va_S A s.heap s.heap [] := va_S.rf
  have hl := lv_entry ([.ref (a 0), .int x1]) (n := 6) (Nat.le_of_ble_eq_true rfl)
  rw [lg_entry_eq]
  generalize (lg_sl ([.ref (a 0), .int x1]) ++ List.replicate (6 - (lg_sl ([.ref (a 0), .int x1])).length) Slot.unset).toArray = ls at hl ⊢
  have hl : lv_has ls 6 [(0, .ref (a 0)), (1, .int x1)] := hl
  have lk0 := hts (Cond.fieldLink RX7 7 "MolesLawnModel" "s" "[I") (List.mem_cons_of_mem _ (List.mem_append_left _ (List.mem_of_getElem? (i := 0) rfl)))
  have iK7 : ∀ w ∈ wsX70, w ∈ wsX7_splits := fun _ h => (List.mem_cons_of_mem _ (List.mem_append_right _ h))
  unfold wp_X7_splits at hq
  have J2 : ∀  (y2_2 : Int32) (z2_v_s : (Nat → Int32)) (H : Heap) (locs : List Loc) (ls : Array Slot), wp_X7_splits_2 v x1  y2_2 z2_v_s Q → va_P (dC, dI) vwCl (cX7 cy a z2_v_s (X7_aside v) (X7_kept v) (X7_isKept v) (X7_saved v) (X7_savedMany v) (X7_text v) (X7_length v) (X7_thrown v) (X7_joint v) (X7_position v) (X7_isWrong v) (X7_isHollow v) (X7_sure v) (X7_away v) (X7_digested v)) H → va_D A (cX7 cy a z2_v_s (X7_aside v) (X7_kept v) (X7_isKept v) (X7_saved v) (X7_savedMany v) (X7_text v) (X7_length v) (X7_thrown v) (X7_joint v) (X7_position v) (X7_isWrong v) (X7_isHollow v) (X7_sure v) (X7_away v) (X7_digested v)) → va_S A s.heap H locs → lv_has ls 6 [(0, .ref (a 0)), (1, .int x1), (2, .int y2_2)] → W p l e (headSpec wsX7_splits ({ frames := 2, cells := 0, slots := 0, locals := 47 } : Room)).room s m ([.ref (a 0), .int x1] : List Value).toArray below meth c H locs 0 0 (MQ below (q_X7_splits dC dI cy a v x1 Q A) ([.ref (a 0), .int x1] : List Value).toArray s 0 0 A) (F0 m 2 ls []) := by
    intro  y2_2 z2_v_s H locs ls hq hP hD hS hl
    obtain ⟨I2, μ2, h0, hs2⟩ := hq
    have key : ∀ (n : Nat) (y2_2 : Int32) (z2_v_s : (Nat → Int32)) (H : Heap) (locs : List Loc) (ls : Array Slot), I2 y2_2 z2_v_s → μ2 y2_2 z2_v_s < n → va_P (dC, dI) vwCl (cX7 cy a z2_v_s (X7_aside v) (X7_kept v) (X7_isKept v) (X7_saved v) (X7_savedMany v) (X7_text v) (X7_length v) (X7_thrown v) (X7_joint v) (X7_position v) (X7_isWrong v) (X7_isHollow v) (X7_sure v) (X7_away v) (X7_digested v)) H → va_D A (cX7 cy a z2_v_s (X7_aside v) (X7_kept v) (X7_isKept v) (X7_saved v) (X7_savedMany v) (X7_text v) (X7_length v) (X7_thrown v) (X7_joint v) (X7_position v) (X7_isWrong v) (X7_isHollow v) (X7_sure v) (X7_away v) (X7_digested v)) → va_S A s.heap H locs → lv_has ls 6 [(0, .ref (a 0)), (1, .int x1), (2, .int y2_2)] → W p l e (headSpec wsX7_splits ({ frames := 2, cells := 0, slots := 0, locals := 47 } : Room)).room s m ([.ref (a 0), .int x1] : List Value).toArray below meth c H locs 0 0 (MQ below (q_X7_splits dC dI cy a v x1 Q A) ([.ref (a 0), .int x1] : List Value).toArray s 0 0 A) (F0 m 2 ls []) := by
      intro n
      induction n with
      | zero => intro y2_2 z2_v_s H locs ls _ hm; exact absurd hm (Nat.not_lt_zero _)
      | succ n ih =>
        intro y2_2 z2_v_s H locs ls hI hm hP hD hS hl
        have hq := hs2 y2_2 z2_v_s hI
        generalize hB2 : (fun (t0 : Int32) (t1 : (Nat → Int32)) => I2 t0 t1 ∧ μ2 t0 t1 < μ2 y2_2 z2_v_s) = B2 at hq
        have bk2 : ∀ (y2_2 : Int32) (z2_v_s : (Nat → Int32)) (H : Heap) (locs : List Loc) (ls : Array Slot), B2 y2_2 z2_v_s → va_P (dC, dI) vwCl (cX7 cy a z2_v_s (X7_aside v) (X7_kept v) (X7_isKept v) (X7_saved v) (X7_savedMany v) (X7_text v) (X7_length v) (X7_thrown v) (X7_joint v) (X7_position v) (X7_isWrong v) (X7_isHollow v) (X7_sure v) (X7_away v) (X7_digested v)) H → va_D A (cX7 cy a z2_v_s (X7_aside v) (X7_kept v) (X7_isKept v) (X7_saved v) (X7_savedMany v) (X7_text v) (X7_length v) (X7_thrown v) (X7_joint v) (X7_position v) (X7_isWrong v) (X7_isHollow v) (X7_sure v) (X7_away v) (X7_digested v)) → va_S A s.heap H locs → lv_has ls 6 [(0, .ref (a 0)), (1, .int x1), (2, .int y2_2)] → W p l e (headSpec wsX7_splits ({ frames := 2, cells := 0, slots := 0, locals := 47 } : Room)).room s m ([.ref (a 0), .int x1] : List Value).toArray below meth c H locs 0 0 (MQ below (q_X7_splits dC dI cy a v x1 Q A) ([.ref (a 0), .int x1] : List Value).toArray s 0 0 A) (F0 m 2 ls []) := by
          intro y2_2 z2_v_s H locs ls h
          rw [← hB2] at h
          exact ih y2_2 z2_v_s H locs ls h.1 (Nat.lt_of_lt_of_le h.2 (Nat.le_of_lt_succ hm))
        unfold wb_X7_splits_2 at hq
        have J106 : ∀ (y106_4 : Int32) (z106_v_s : (Nat → Int32)) (H : Heap) (locs : List Loc) (ls : Array Slot), wp_X7_splits_106 v x1 y2_2 z2_v_s B2 y106_4 z106_v_s Q → va_P (dC, dI) vwCl (cX7 cy a z106_v_s (X7_aside v) (X7_kept v) (X7_isKept v) (X7_saved v) (X7_savedMany v) (X7_text v) (X7_length v) (X7_thrown v) (X7_joint v) (X7_position v) (X7_isWrong v) (X7_isHollow v) (X7_sure v) (X7_away v) (X7_digested v)) H → va_D A (cX7 cy a z106_v_s (X7_aside v) (X7_kept v) (X7_isKept v) (X7_saved v) (X7_savedMany v) (X7_text v) (X7_length v) (X7_thrown v) (X7_joint v) (X7_position v) (X7_isWrong v) (X7_isHollow v) (X7_sure v) (X7_away v) (X7_digested v)) → va_S A s.heap H locs → lv_has ls 6 [(0, .ref (a 0)), (1, .int x1), (4, .int y106_4)] → W p l e (headSpec wsX7_splits ({ frames := 2, cells := 0, slots := 0, locals := 47 } : Room)).room s m ([.ref (a 0), .int x1] : List Value).toArray below meth c H locs 0 0 (MQ below (q_X7_splits dC dI cy a v x1 Q A) ([.ref (a 0), .int x1] : List Value).toArray s 0 0 A) (F0 m 106 ls []) := by
          intro y106_4 z106_v_s H locs ls hq hP hD hS hl
          unfold wp_X7_splits_106 at hq
          refine lv_aload_n hx hb dX7_splits_106 rfl (lv_at hl 0 rfl) ?_
          refine lv_iload hx hb dX7_splits_107 (lv_at hl 2 rfl) ?_
          refine lv_iconst (v := 1) hx hb dX7_splits_109 (by decide) ?_
          refine lv_iadd hx hb dX7_splits_110 ?_
          have hFc := xfree_same hS hAe0 (ws := (cX7 cy a z106_v_s (X7_aside v) (X7_kept v) (X7_isKept v) (X7_saved v) (X7_savedMany v) (X7_text v) (X7_length v) (X7_thrown v) (X7_joint v) (X7_position v) (X7_isWrong v) (X7_isHollow v) (X7_sure v) (X7_away v) (X7_digested v))) hD
          refine va_calli (va_runV (As := [.int (y106_4 + 1)]) (rest := []) ⟨hx, hb, hml, hown, hts⟩ (c_X7_endFrom l dC dI cy a _ (X7_s0 v z106_v_s) (y106_4 + 1) _ hq) (cwV 1 hts gX7_splits_X7_endFrom rfl rfl rfl (by decide +kernel) ⟨Nat.le_of_ble_eq_true rfl, Nat.le_of_ble_eq_true rfl⟩) ⟨xPre_blind, va_recv hK hP (ci := 7) (q0 := 0) rfl rfl, xPre_of hP hK hD⟩ rfl rfl hl.1 rfl (lv_room (Nat.le_of_ble_eq_true rfl)) dX7_splits_111 ⟨Nat.le_of_ble_eq_true rfl, Nat.le_of_ble_eq_true rfl⟩) hS (fun q _ h => hFc q h) hFc (fun r111 u9 t H locs ht hvm hq hB hz1 hk1 hS => ?_)
          obtain ⟨hP1, -, hD1⟩ := hB
          rw [ht] at hP1
          have hP : va_P (dC, dI) vwCl (cX7 cy a z106_v_s (X7_aside v) (X7_kept v) (X7_isKept v) (X7_saved v) (X7_savedMany v) (X7_text v) (X7_length v) (X7_thrown v) (X7_joint v) (X7_position v) (X7_isWrong v) (X7_isHollow v) (X7_sure v) (X7_away v) (X7_digested v)) H := hP1
          have hD : va_D A (cX7 cy a z106_v_s (X7_aside v) (X7_kept v) (X7_isKept v) (X7_saved v) (X7_savedMany v) (X7_text v) (X7_length v) (X7_thrown v) (X7_joint v) (X7_position v) (X7_isWrong v) (X7_isHollow v) (X7_sure v) (X7_away v) (X7_digested v)) := hD1.weaken (fun _ q _ h => hFc q.1 h)
          refine lv_istore_n (lv' := [(3, .int r111), (0, .ref (a 0)), (1, .int x1), (4, .int y106_4)]) hx hb dX7_splits_114 rfl hl (by decide) rfl (fun ls hl => ?_)
          refine lv_iload_n hx hb dX7_splits_115 rfl (lv_at hl 0 rfl) ?_
          refine lv_iconst (v := 1) hx hb dX7_splits_116 (by decide) ?_
          refine lv_iadd hx hb dX7_splits_117 ?_
          refine lv_istore_n (lv' := [(2, .int (r111 + 1)), (3, .int r111), (0, .ref (a 0)), (1, .int x1), (4, .int y106_4)]) hx hb dX7_splits_118 rfl hl (by decide) rfl (fun ls hl => ?_)
          refine lv_goto (tgt := 2) hx hb dX7_splits_119 (by decide) ?_
          exact bk2 (r111 + 1) z106_v_s _ _ _ hq hP hD hS (lv_sub hl [2, 3, 0] rfl)
        refine lv_iload_n hx hb dX7_splits_2 rfl (lv_at hl 2 rfl) ?_
        refine lv_aload_n hx hb dX7_splits_3 rfl (lv_at hl 0 rfl) ?_
        refine va_get (D := (dC, dI)) (ci := 7) (v := .ref (a 1)) (C := RX7) (T := TX7) (N := 16) hx hb hts iK7 hown hK hP 0 rfl rfl 0 (by decide) lk0 (fun _ h9 => h9) rfl dX7_splits_4 ?_
        refine lv_bipush (v := 7) hx hb dX7_splits_7 (by decide) ?_
        obtain ⟨g1, hq⟩ := hq
        refine va_iald hx hb hK hP 1 0 rfl rfl g1 dX7_splits_9 ?_
        obtain ⟨hqA, hqB⟩ := hq
        refine lv_icmp_ge (tgt := 122) hx hb dX7_splits_10 (by decide) (fun c6 => ?_) (fun c6 => ?_)
        · have hq := hqA c6
          exact W.vret hx hb hr (fun t ht hW => ⟨⟨z2_v_s, rfl, hq, (xAt_of hP hK hD ht hW)⟩, hS.F ht⟩) hS.2.2 dX7_splits_122
        · have hq := hqB c6
          refine lv_aload_n hx hb dX7_splits_13 rfl (lv_at hl 0 rfl) ?_
          refine lv_iload_n hx hb dX7_splits_14 rfl (lv_at hl 2 rfl) ?_
          have hFc := xfree_same hS hAe0 (ws := (cX7 cy a z2_v_s (X7_aside v) (X7_kept v) (X7_isKept v) (X7_saved v) (X7_savedMany v) (X7_text v) (X7_length v) (X7_thrown v) (X7_joint v) (X7_position v) (X7_isWrong v) (X7_isHollow v) (X7_sure v) (X7_away v) (X7_digested v))) hD
          refine va_calli (va_runV (As := [.int y2_2]) (rest := []) ⟨hx, hb, hml, hown, hts⟩ (c_X7_endFrom l dC dI cy a _ (X7_s0 v z2_v_s) y2_2 _ hq) (cwV 1 hts gX7_splits_X7_endFrom rfl rfl rfl (by decide +kernel) ⟨Nat.le_of_ble_eq_true rfl, Nat.le_of_ble_eq_true rfl⟩) ⟨xPre_blind, va_recv hK hP (ci := 7) (q0 := 0) rfl rfl, xPre_of hP hK hD⟩ rfl rfl hl.1 rfl (lv_room (Nat.le_of_ble_eq_true rfl)) dX7_splits_15 ⟨Nat.le_of_ble_eq_true rfl, Nat.le_of_ble_eq_true rfl⟩) hS (fun q _ h => hFc q h) hFc (fun r15 u9 t H locs ht hvm hq hB hz1 hk1 hS => ?_)
          obtain ⟨hP1, -, hD1⟩ := hB
          rw [ht] at hP1
          have hP : va_P (dC, dI) vwCl (cX7 cy a z2_v_s (X7_aside v) (X7_kept v) (X7_isKept v) (X7_saved v) (X7_savedMany v) (X7_text v) (X7_length v) (X7_thrown v) (X7_joint v) (X7_position v) (X7_isWrong v) (X7_isHollow v) (X7_sure v) (X7_away v) (X7_digested v)) H := hP1
          have hD : va_D A (cX7 cy a z2_v_s (X7_aside v) (X7_kept v) (X7_isKept v) (X7_saved v) (X7_savedMany v) (X7_text v) (X7_length v) (X7_thrown v) (X7_joint v) (X7_position v) (X7_isWrong v) (X7_isHollow v) (X7_sure v) (X7_away v) (X7_digested v)) := hD1.weaken (fun _ q _ h => hFc q.1 h)
          refine lv_istore_n (lv' := [(3, .int r15), (0, .ref (a 0)), (1, .int x1), (2, .int y2_2)]) hx hb dX7_splits_18 rfl hl (by decide) rfl (fun ls hl => ?_)
          refine lv_aload_n hx hb dX7_splits_19 rfl (lv_at hl 1 rfl) ?_
          refine lv_iload_n hx hb dX7_splits_20 rfl (lv_at hl 2 rfl) ?_
          refine lv_iload_n hx hb dX7_splits_21 rfl (lv_at hl 3 rfl) ?_
          refine lv_iload_n hx hb dX7_splits_22 rfl (lv_at hl 0 rfl) ?_
          refine lv_iconst (v := 0) hx hb dX7_splits_23 (by decide) ?_
          have hFc := xfree_same hS hAe0 (ws := (cX7 cy a z2_v_s (X7_aside v) (X7_kept v) (X7_isKept v) (X7_saved v) (X7_savedMany v) (X7_text v) (X7_length v) (X7_thrown v) (X7_joint v) (X7_position v) (X7_isWrong v) (X7_isHollow v) (X7_sure v) (X7_away v) (X7_digested v))) hD
          refine va_calli (va_runV (As := [.int x1, .int y2_2, .int r15, .int 0]) (rest := []) ⟨hx, hb, hml, hown, hts⟩ (c_X7_find l dC dI cy a _ (X7_s0 v z2_v_s) x1 y2_2 r15 0 _ hq) (cwV 4 hts gX7_splits_X7_find rfl rfl rfl (by decide +kernel) ⟨Nat.le_of_ble_eq_true rfl, Nat.le_of_ble_eq_true rfl⟩) ⟨xPre_blind, va_recv hK hP (ci := 7) (q0 := 0) rfl rfl, xPre_of hP hK hD⟩ rfl rfl hl.1 rfl (lv_room (Nat.le_of_ble_eq_true rfl)) dX7_splits_24 ⟨Nat.le_of_ble_eq_true rfl, Nat.le_of_ble_eq_true rfl⟩) hS (fun q _ h => hFc q h) hFc (fun r24 u9 t H locs ht hvm hq hB hz1 hk1 hS => ?_)
          obtain ⟨hP1, -, hD1⟩ := hB
          rw [ht] at hP1
          have hP : va_P (dC, dI) vwCl (cX7 cy a z2_v_s (X7_aside v) (X7_kept v) (X7_isKept v) (X7_saved v) (X7_savedMany v) (X7_text v) (X7_length v) (X7_thrown v) (X7_joint v) (X7_position v) (X7_isWrong v) (X7_isHollow v) (X7_sure v) (X7_away v) (X7_digested v)) H := hP1
          have hD : va_D A (cX7 cy a z2_v_s (X7_aside v) (X7_kept v) (X7_isKept v) (X7_saved v) (X7_savedMany v) (X7_text v) (X7_length v) (X7_thrown v) (X7_joint v) (X7_position v) (X7_isWrong v) (X7_isHollow v) (X7_sure v) (X7_away v) (X7_digested v)) := hD1.weaken (fun _ q _ h => hFc q.1 h)
          refine lv_istore (lv' := [(4, .int r24), (3, .int r15), (0, .ref (a 0)), (1, .int x1), (2, .int y2_2)]) hx hb dX7_splits_27 hl (by decide) rfl (fun ls hl => ?_)
          refine lv_iload hx hb dX7_splits_29 (lv_at hl 0 rfl) ?_
          refine lv_iconst (v := (-1)) hx hb dX7_splits_31 (by decide) ?_
          obtain ⟨hqA, hqB⟩ := hq
          refine lv_icmp_eq (tgt := 115) hx hb dX7_splits_32 (by decide) (fun c5 => ?_) (fun c5 => ?_)
          · have hq := hqA c5
            refine lv_iload_n hx hb dX7_splits_115 rfl (lv_at hl 1 rfl) ?_
            refine lv_iconst (v := 1) hx hb dX7_splits_116 (by decide) ?_
            refine lv_iadd hx hb dX7_splits_117 ?_
            refine lv_istore_n (lv' := [(2, .int (r15 + 1)), (4, .int r24), (3, .int r15), (0, .ref (a 0)), (1, .int x1)]) hx hb dX7_splits_118 rfl hl (by decide) rfl (fun ls hl => ?_)
            refine lv_goto (tgt := 2) hx hb dX7_splits_119 (by decide) ?_
            exact bk2 (r15 + 1) z2_v_s _ _ _ hq hP hD hS (lv_sub hl [3, 4, 0] rfl)
          · have hq := hqB c5
            refine lv_aload_n hx hb dX7_splits_35 rfl (lv_at hl 2 rfl) ?_
            refine lv_iload_n hx hb dX7_splits_36 rfl (lv_at hl 3 rfl) ?_
            refine lv_iload_n hx hb dX7_splits_37 rfl (lv_at hl 4 rfl) ?_
            refine lv_iload_n hx hb dX7_splits_38 rfl (lv_at hl 1 rfl) ?_
            refine lv_iconst (v := 1) hx hb dX7_splits_39 (by decide) ?_
            have hFc := xfree_same hS hAe0 (ws := (cX7 cy a z2_v_s (X7_aside v) (X7_kept v) (X7_isKept v) (X7_saved v) (X7_savedMany v) (X7_text v) (X7_length v) (X7_thrown v) (X7_joint v) (X7_position v) (X7_isWrong v) (X7_isHollow v) (X7_sure v) (X7_away v) (X7_digested v))) hD
            refine va_calli (va_runV (As := [.int x1, .int y2_2, .int r15, .int 1]) (rest := []) ⟨hx, hb, hml, hown, hts⟩ (c_X7_find l dC dI cy a _ (X7_s0 v z2_v_s) x1 y2_2 r15 1 _ hq) (cwV 4 hts gX7_splits_X7_find rfl rfl rfl (by decide +kernel) ⟨Nat.le_of_ble_eq_true rfl, Nat.le_of_ble_eq_true rfl⟩) ⟨xPre_blind, va_recv hK hP (ci := 7) (q0 := 0) rfl rfl, xPre_of hP hK hD⟩ rfl rfl hl.1 rfl (lv_room (Nat.le_of_ble_eq_true rfl)) dX7_splits_40 ⟨Nat.le_of_ble_eq_true rfl, Nat.le_of_ble_eq_true rfl⟩) hS (fun q _ h => hFc q h) hFc (fun r40 u9 t H locs ht hvm hq hB hz1 hk1 hS => ?_)
            obtain ⟨hP1, -, hD1⟩ := hB
            rw [ht] at hP1
            have hP : va_P (dC, dI) vwCl (cX7 cy a z2_v_s (X7_aside v) (X7_kept v) (X7_isKept v) (X7_saved v) (X7_savedMany v) (X7_text v) (X7_length v) (X7_thrown v) (X7_joint v) (X7_position v) (X7_isWrong v) (X7_isHollow v) (X7_sure v) (X7_away v) (X7_digested v)) H := hP1
            have hD : va_D A (cX7 cy a z2_v_s (X7_aside v) (X7_kept v) (X7_isKept v) (X7_saved v) (X7_savedMany v) (X7_text v) (X7_length v) (X7_thrown v) (X7_joint v) (X7_position v) (X7_isWrong v) (X7_isHollow v) (X7_sure v) (X7_away v) (X7_digested v)) := hD1.weaken (fun _ q _ h => hFc q.1 h)
            refine lv_istore (lv' := [(5, .int r40), (4, .int r24), (3, .int r15), (0, .ref (a 0)), (1, .int x1), (2, .int y2_2)]) hx hb dX7_splits_43 hl (by decide) rfl (fun ls hl => ?_)
            refine lv_aload_n hx hb dX7_splits_45 rfl (lv_at hl 3 rfl) ?_
            refine va_get (D := (dC, dI)) (ci := 7) (v := .ref (a 1)) (C := RX7) (T := TX7) (N := 16) hx hb hts iK7 hown hK hP 0 rfl rfl 0 (by decide) lk0 (fun _ h9 => h9) rfl dX7_splits_46 ?_
            refine lv_sipush (v := 448) hx hb dX7_splits_49 (by decide) ?_
            refine lv_iload hx hb dX7_splits_52 (lv_at hl 1 rfl) ?_
            refine lv_iadd hx hb dX7_splits_54 ?_
            refine lv_iload_n hx hb dX7_splits_55 rfl (lv_at hl 4 rfl) ?_
            refine lv_bipush (v := 64) hx hb dX7_splits_56 (by decide) ?_
            refine lv_iadd hx hb dX7_splits_58 ?_
            obtain ⟨g2, hq⟩ := hq
            refine va_iast hx hb hK hP hD hS 1 0 rfl rfl g2 dX7_splits_59 (fun H locs hP hD hS => ?_)
            have hP : va_P (dC, dI) vwCl (cX7 cy a (upd z2_v_s (448 + r24).toNatClampNeg (x1 + 64)) (X7_aside v) (X7_kept v) (X7_isKept v) (X7_saved v) (X7_savedMany v) (X7_text v) (X7_length v) (X7_thrown v) (X7_joint v) (X7_position v) (X7_isWrong v) (X7_isHollow v) (X7_sure v) (X7_away v) (X7_digested v)) H := hP
            have hD : va_D A (cX7 cy a (upd z2_v_s (448 + r24).toNatClampNeg (x1 + 64)) (X7_aside v) (X7_kept v) (X7_isKept v) (X7_saved v) (X7_savedMany v) (X7_text v) (X7_length v) (X7_thrown v) (X7_joint v) (X7_position v) (X7_isWrong v) (X7_isHollow v) (X7_sure v) (X7_away v) (X7_digested v)) := hD
            refine lv_iload hx hb dX7_splits_60 (lv_at hl 1 rfl) ?_
            refine lv_iload hx hb dX7_splits_62 (lv_at hl 0 rfl) ?_
            obtain ⟨hqA, hqB⟩ := hq
            refine lv_icmp_ne (tgt := 93) hx hb dX7_splits_64 (by decide) (fun c4 => ?_) (fun c4 => ?_)
            · have hq := hqB c4
              refine lv_aload_n hx hb dX7_splits_93 rfl (lv_at hl 3 rfl) ?_
              refine lv_iload hx hb dX7_splits_94 (lv_at hl 0 rfl) ?_
              refine lv_iload hx hb dX7_splits_96 (lv_at hl 1 rfl) ?_
              refine lv_iconst (v := 1) hx hb dX7_splits_98 (by decide) ?_
              refine lv_iadd hx hb dX7_splits_99 ?_
              refine lv_iload hx hb dX7_splits_100 (lv_at hl 0 rfl) ?_
              refine lv_isub hx hb dX7_splits_102 ?_
              have hFc := xfree_same hS hAe0 (ws := (cX7 cy a (upd z2_v_s (448 + r24).toNatClampNeg (x1 + 64)) (X7_aside v) (X7_kept v) (X7_isKept v) (X7_saved v) (X7_savedMany v) (X7_text v) (X7_length v) (X7_thrown v) (X7_joint v) (X7_position v) (X7_isWrong v) (X7_isHollow v) (X7_sure v) (X7_away v) (X7_digested v))) hD
              refine va_callv (va_runV (As := [.int r40, .int ((r24 + 1) - r40)]) (rest := []) ⟨hx, hb, hml, hown, hts⟩ (c_X7_shifts l dC dI cy a _ (X7_s0 v (upd z2_v_s (448 + r24).toNatClampNeg (x1 + 64))) r40 ((r24 + 1) - r40) _ hq) (cwV 2 hts gX7_splits_X7_shifts rfl rfl rfl (by decide +kernel) ⟨Nat.le_of_ble_eq_true rfl, Nat.le_of_ble_eq_true rfl⟩) ⟨xPre_blind, va_recv hK hP (ci := 7) (q0 := 0) rfl rfl, xPre_of hP hK hD⟩ rfl rfl hl.1 rfl (lv_room (Nat.le_of_ble_eq_true rfl)) dX7_splits_103 ⟨Nat.le_of_ble_eq_true rfl, Nat.le_of_ble_eq_true rfl⟩) hS (fun q _ h => hFc q h) hFc (fun z103_v_s t H locs ht hvm hq hB hz1 hk1 hS => ?_)
              obtain ⟨hP1, -, hD1⟩ := hB
              rw [ht] at hP1
              have hP : va_P (dC, dI) vwCl (cX7 cy a z103_v_s (X7_aside v) (X7_kept v) (X7_isKept v) (X7_saved v) (X7_savedMany v) (X7_text v) (X7_length v) (X7_thrown v) (X7_joint v) (X7_position v) (X7_isWrong v) (X7_isHollow v) (X7_sure v) (X7_away v) (X7_digested v)) H := hP1
              have hD : va_D A (cX7 cy a z103_v_s (X7_aside v) (X7_kept v) (X7_isKept v) (X7_saved v) (X7_savedMany v) (X7_text v) (X7_length v) (X7_thrown v) (X7_joint v) (X7_position v) (X7_isWrong v) (X7_isHollow v) (X7_sure v) (X7_away v) (X7_digested v)) := hD1.weaken (fun _ q _ h => hFc q.1 h)
              exact J106 r24 z103_v_s  _ _ _ hq hP hD hS (lv_sub hl [3, 4, 1] rfl)
            · have hq := hqA c4
              refine lv_aload_n hx hb dX7_splits_67 rfl (lv_at hl 3 rfl) ?_
              refine lv_iload hx hb dX7_splits_68 (lv_at hl 1 rfl) ?_
              refine lv_iconst (v := 1) hx hb dX7_splits_70 (by decide) ?_
              refine lv_iadd hx hb dX7_splits_71 ?_
              refine lv_iconst (v := 1) hx hb dX7_splits_72 (by decide) ?_
              have hFc := xfree_same hS hAe0 (ws := (cX7 cy a (upd z2_v_s (448 + r24).toNatClampNeg (x1 + 64)) (X7_aside v) (X7_kept v) (X7_isKept v) (X7_saved v) (X7_savedMany v) (X7_text v) (X7_length v) (X7_thrown v) (X7_joint v) (X7_position v) (X7_isWrong v) (X7_isHollow v) (X7_sure v) (X7_away v) (X7_digested v))) hD
              refine va_callv (va_runV (As := [.int (r24 + 1), .int 1]) (rest := []) ⟨hx, hb, hml, hown, hts⟩ (c_X7_shifts l dC dI cy a _ (X7_s0 v (upd z2_v_s (448 + r24).toNatClampNeg (x1 + 64))) (r24 + 1) 1 _ hq) (cwV 2 hts gX7_splits_X7_shifts rfl rfl rfl (by decide +kernel) ⟨Nat.le_of_ble_eq_true rfl, Nat.le_of_ble_eq_true rfl⟩) ⟨xPre_blind, va_recv hK hP (ci := 7) (q0 := 0) rfl rfl, xPre_of hP hK hD⟩ rfl rfl hl.1 rfl (lv_room (Nat.le_of_ble_eq_true rfl)) dX7_splits_73 ⟨Nat.le_of_ble_eq_true rfl, Nat.le_of_ble_eq_true rfl⟩) hS (fun q _ h => hFc q h) hFc (fun z73_v_s t H locs ht hvm hq hB hz1 hk1 hS => ?_)
              obtain ⟨hP1, -, hD1⟩ := hB
              rw [ht] at hP1
              have hP : va_P (dC, dI) vwCl (cX7 cy a z73_v_s (X7_aside v) (X7_kept v) (X7_isKept v) (X7_saved v) (X7_savedMany v) (X7_text v) (X7_length v) (X7_thrown v) (X7_joint v) (X7_position v) (X7_isWrong v) (X7_isHollow v) (X7_sure v) (X7_away v) (X7_digested v)) H := hP1
              have hD : va_D A (cX7 cy a z73_v_s (X7_aside v) (X7_kept v) (X7_isKept v) (X7_saved v) (X7_savedMany v) (X7_text v) (X7_length v) (X7_thrown v) (X7_joint v) (X7_position v) (X7_isWrong v) (X7_isHollow v) (X7_sure v) (X7_away v) (X7_digested v)) := hD1.weaken (fun _ q _ h => hFc q.1 h)
              refine lv_aload_n hx hb dX7_splits_76 rfl (lv_at hl 3 rfl) ?_
              refine va_get (D := (dC, dI)) (ci := 7) (v := .ref (a 1)) (C := RX7) (T := TX7) (N := 16) hx hb hts iK7 hown hK hP 0 rfl rfl 0 (by decide) lk0 (fun _ h9 => h9) rfl dX7_splits_77 ?_
              refine lv_sipush (v := 448) hx hb dX7_splits_80 (by decide) ?_
              refine lv_iload hx hb dX7_splits_83 (lv_at hl 1 rfl) ?_
              refine lv_iadd hx hb dX7_splits_85 ?_
              refine lv_iconst (v := 1) hx hb dX7_splits_86 (by decide) ?_
              refine lv_iadd hx hb dX7_splits_87 ?_
              refine lv_iload_n hx hb dX7_splits_88 rfl (lv_at hl 4 rfl) ?_
              obtain ⟨g3, hq⟩ := hq
              refine va_iast hx hb hK hP hD hS 1 0 rfl rfl g3 dX7_splits_89 (fun H locs hP hD hS => ?_)
              have hP : va_P (dC, dI) vwCl (cX7 cy a (upd z73_v_s ((448 + r24) + 1).toNatClampNeg x1) (X7_aside v) (X7_kept v) (X7_isKept v) (X7_saved v) (X7_savedMany v) (X7_text v) (X7_length v) (X7_thrown v) (X7_joint v) (X7_position v) (X7_isWrong v) (X7_isHollow v) (X7_sure v) (X7_away v) (X7_digested v)) H := hP
              have hD : va_D A (cX7 cy a (upd z73_v_s ((448 + r24) + 1).toNatClampNeg x1) (X7_aside v) (X7_kept v) (X7_isKept v) (X7_saved v) (X7_savedMany v) (X7_text v) (X7_length v) (X7_thrown v) (X7_joint v) (X7_position v) (X7_isWrong v) (X7_isHollow v) (X7_sure v) (X7_away v) (X7_digested v)) := hD
              refine lv_goto (tgt := 106) hx hb dX7_splits_90 (by decide) ?_
              exact J106 r24 (upd z73_v_s ((448 + r24) + 1).toNatClampNeg x1)  _ _ _ hq hP hD hS (lv_sub hl [3, 4, 1] rfl)
    exact key _ y2_2 z2_v_s H locs ls h0 (Nat.lt_succ_self _) hP hD hS hl
  refine lv_iconst (v := 0) hx hb dX7_splits_0 (by decide) ?_
  refine lv_istore_n (lv' := [(2, .int 0), (0, .ref (a 0)), (1, .int x1)]) hx hb dX7_splits_1 rfl hl (by decide) rfl (fun ls hl => ?_)
  exact J2  0 (X7_s v) _ _ _ hq hP hD hS (lv_sub hl [1, 2, 0] rfl)
def wp_X7_fallsIn_64 (v : V_X7) (x1 : Int32) (y4_2 : Int32) (y4_3 : Int32) (z4_v_s : (Nat → Int32)) (B4 : Int32 → Int32 → (Nat → Int32) → Prop) (y64_2 : Int32) (y64_4 : Int32) (y64_5 : Int32) (z64_v_s : (Nat → Int32)) (Q : Int32 → (Nat → Int32) → Prop) : Prop :=
  ((y64_5 = 0 → B4 y64_2 (y64_4 + 1) z64_v_s) ∧
  (¬ y64_5 = 0 → B4 y64_2 y4_3 z64_v_s))
def wp_X7_fallsIn_40 (v : V_X7) (x1 : Int32) (y4_2 : Int32) (y4_3 : Int32) (z4_v_s : (Nat → Int32)) (B4 : Int32 → Int32 → (Nat → Int32) → Prop) (y40_4 : Int32) (k40_0 : Int32) (Q : Int32 → (Nat → Int32) → Prop) : Prop :=
  ((k40_0 = 0 → wp_X7_fallsIn_64 v x1 y4_2 y4_3 z4_v_s B4 y4_2 y40_4 k40_0 z4_v_s  Q) ∧
  (¬ k40_0 = 0 → wp_X7_shifts (X7_s0 v z4_v_s) (y40_4 + 1) ((y4_3 - y40_4) - 1) (fun z58_v_s =>
  wp_X7_fallsIn_64 v x1 y4_2 y4_3 z4_v_s B4 (y4_2 + 1) y40_4 k40_0 z58_v_s  Q)))
def wb_X7_fallsIn_4 (v : V_X7) (x1 : Int32)  (y4_2 : Int32) (y4_3 : Int32) (z4_v_s : (Nat → Int32)) (B4 : Int32 → Int32 → (Nat → Int32) → Prop) (Q : Int32 → (Nat → Int32) → Prop) : Prop :=
  vp_in 7 1472 ∧ (((z4_v_s (7 : Int32).toNatClampNeg) ≤ y4_3 → vp_in 5 1472 ∧ Q y4_2 (upd z4_v_s (5 : Int32).toNatClampNeg ((z4_v_s (5 : Int32).toNatClampNeg) + y4_2))) ∧
  (¬ (z4_v_s (7 : Int32).toNatClampNeg) ≤ y4_3 → wp_X7_endFrom (X7_s0 v z4_v_s) y4_3 (fun r17 =>
  wp_X7_find (X7_s0 v z4_v_s) x1 y4_3 r17 0 (fun r28 =>
  ((r28 = (-1) → wp_X7_fallsIn_40 v x1 y4_2 y4_3 z4_v_s B4 r17 0  Q) ∧
  (¬ r28 = (-1) → wp_X7_fallsIn_40 v x1 y4_2 y4_3 z4_v_s B4 r17 1  Q))))))
def wp_X7_fallsIn_4 (v : V_X7) (x1 : Int32)  (y4_2 : Int32) (y4_3 : Int32) (z4_v_s : (Nat → Int32)) (Q : Int32 → (Nat → Int32) → Prop) : Prop :=
  ∃ (I : Int32 → Int32 → (Nat → Int32) → Prop) (μ : Int32 → Int32 → (Nat → Int32) → Nat), I y4_2 y4_3 z4_v_s ∧ ∀ (s0 : Int32) (s1 : Int32) (s2 : (Nat → Int32)), I s0 s1 s2 → wb_X7_fallsIn_4 v x1  s0 s1 s2 (fun t0 t1 t2 => I t0 t1 t2 ∧ μ t0 t1 t2 < μ s0 s1 s2) Q
def wp_X7_fallsIn (v : V_X7) (x1 : Int32) (Q : Int32 → (Nat → Int32) → Prop) : Prop :=
  wp_X7_fallsIn_4 v x1  0 0 (X7_s v) Q
def q_X7_fallsIn (dC : Nat → ClassId) (dI : Nat → Nat → Nat) (cy : Nat → ClassId) (a : Nat → Nat) (v : V_X7) (x1 : Int32) (Q : Int32 → (Nat → Int32) → Prop) (A : Nat → Prop) : Array Value → State → Outcome → State → Prop := va_Qi (fun (r : Int32) (u : (Nat → Int32)) => Q r u) (fun (u : (Nat → Int32)) t => xAt dC dI cy A (cX7 cy a u (X7_aside v) (X7_kept v) (X7_isKept v) (X7_saved v) (X7_savedMany v) (X7_text v) (X7_length v) (X7_thrown v) (X7_joint v) (X7_position v) (X7_isWrong v) (X7_isHollow v) (X7_sure v) (X7_away v) (X7_digested v)) t) A
set_option maxHeartbeats 4000000 in
set_option maxRecDepth 100000 in
theorem c_X7_fallsIn (l : Launch) (dC : Nat → ClassId) (dI : Nat → Nat → Nat) (cy : Nat → ClassId) (a : Nat → Nat) (sz : Nat) (v : V_X7) (x1 : Int32) (Q : Int32 → (Nat → Int32) → Prop) (hq : wp_X7_fallsIn v x1 Q) : Met l yX7_fallsIn wsX7_fallsIn ({ frames := 2, cells := 0, slots := 0, locals := 47 } : Room) (va_Pc [.ref (a 0), .int x1] (xPre dC dI cy (wX7 cy a v) sz)) (q_X7_fallsIn dC dI cy a v x1 Q (va_A (wX7 cy a v) sz)) 0 0 (va_A (wX7 cy a v) sz) := by
  refine Met.ofW (cc := cX7_fallsIn) (maxL := 6) (ret := (some .int)) (by decide) rfl ?_
  intro p e s m args below meth c s₁ B hml hv
  obtain ⟨rfl, hsz, hP, hK, hD0⟩ := hv
  have hx := B.exec
  have hb := B.bytes
  have hr := B.returns
  have hts := atoms_spec (ws := wsX7_fallsIn) B.pre
  have hown : s.vm.findClass RX7 = some m.cls := findClass_of_methodNamed B.named
  have hlocks := B.notSynchronized
  subst hsz
  have hD := hD0.self (sz := s.heap.size)
  generalize hAe : va_A (wX7 cy a v) s.heap.size = A at hD ⊢
  have hAe0 : ∀ q : Nat, s.heap.size ≤ q → A q := fun q h => by rw [← hAe]; exact Or.inr h
  have hS : va_S A s.heap s.heap [] := va_S.rf
  have hl := lv_entry ([.ref (a 0), .int x1]) (n := 6) (Nat.le_of_ble_eq_true rfl)
  rw [lg_entry_eq]
  generalize (lg_sl ([.ref (a 0), .int x1]) ++ List.replicate (6 - (lg_sl ([.ref (a 0), .int x1])).length) Slot.unset).toArray = ls at hl ⊢
  have hl : lv_has ls 6 [(0, .ref (a 0)), (1, .int x1)] := hl
  have lk0 := hts (Cond.fieldLink RX7 7 "MolesLawnModel" "s" "[I") (List.mem_cons_of_mem _ (List.mem_append_left _ (List.mem_of_getElem? (i := 0) rfl)))
  have iK7 : ∀ w ∈ wsX70, w ∈ wsX7_fallsIn := fun _ h => (List.mem_cons_of_mem _ (List.mem_append_right _ h))
  unfold wp_X7_fallsIn at hq
  have J4 : ∀  (y4_2 : Int32) (y4_3 : Int32) (z4_v_s : (Nat → Int32)) (H : Heap) (locs : List Loc) (ls : Array Slot), wp_X7_fallsIn_4 v x1  y4_2 y4_3 z4_v_s Q → va_P (dC, dI) vwCl (cX7 cy a z4_v_s (X7_aside v) (X7_kept v) (X7_isKept v) (X7_saved v) (X7_savedMany v) (X7_text v) (X7_length v) (X7_thrown v) (X7_joint v) (X7_position v) (X7_isWrong v) (X7_isHollow v) (X7_sure v) (X7_away v) (X7_digested v)) H → va_D A (cX7 cy a z4_v_s (X7_aside v) (X7_kept v) (X7_isKept v) (X7_saved v) (X7_savedMany v) (X7_text v) (X7_length v) (X7_thrown v) (X7_joint v) (X7_position v) (X7_isWrong v) (X7_isHollow v) (X7_sure v) (X7_away v) (X7_digested v)) → va_S A s.heap H locs → lv_has ls 6 [(0, .ref (a 0)), (1, .int x1), (2, .int y4_2), (3, .int y4_3)] → W p l e (headSpec wsX7_fallsIn ({ frames := 2, cells := 0, slots := 0, locals := 47 } : Room)).room s m ([.ref (a 0), .int x1] : List Value).toArray below meth c H locs 0 0 (MQ below (q_X7_fallsIn dC dI cy a v x1 Q A) ([.ref (a 0), .int x1] : List Value).toArray s 0 0 A) (F0 m 4 ls []) := by
    intro  y4_2 y4_3 z4_v_s H locs ls hq hP hD hS hl
    obtain ⟨I4, μ4, h0, hs4⟩ := hq
    have key : ∀ (n : Nat) (y4_2 : Int32) (y4_3 : Int32) (z4_v_s : (Nat → Int32)) (H : Heap) (locs : List Loc) (ls : Array Slot), I4 y4_2 y4_3 z4_v_s → μ4 y4_2 y4_3 z4_v_s < n → va_P (dC, dI) vwCl (cX7 cy a z4_v_s (X7_aside v) (X7_kept v) (X7_isKept v) (X7_saved v) (X7_savedMany v) (X7_text v) (X7_length v) (X7_thrown v) (X7_joint v) (X7_position v) (X7_isWrong v) (X7_isHollow v) (X7_sure v) (X7_away v) (X7_digested v)) H → va_D A (cX7 cy a z4_v_s (X7_aside v) (X7_kept v) (X7_isKept v) (X7_saved v) (X7_savedMany v) (X7_text v) (X7_length v) (X7_thrown v) (X7_joint v) (X7_position v) (X7_isWrong v) (X7_isHollow v) (X7_sure v) (X7_away v) (X7_digested v)) → va_S A s.heap H locs → lv_has ls 6 [(0, .ref (a 0)), (1, .int x1), (2, .int y4_2), (3, .int y4_3)] → W p l e (headSpec wsX7_fallsIn ({ frames := 2, cells := 0, slots := 0, locals := 47 } : Room)).room s m ([.ref (a 0), .int x1] : List Value).toArray below meth c H locs 0 0 (MQ below (q_X7_fallsIn dC dI cy a v x1 Q A) ([.ref (a 0), .int x1] : List Value).toArray s 0 0 A) (F0 m 4 ls []) := by
      intro n
      induction n with
      | zero => intro y4_2 y4_3 z4_v_s H locs ls _ hm; exact absurd hm (Nat.not_lt_zero _)
      | succ n ih =>
        intro y4_2 y4_3 z4_v_s H locs ls hI hm hP hD hS hl
        have hq := hs4 y4_2 y4_3 z4_v_s hI
        generalize hB4 : (fun (t0 : Int32) (t1 : Int32) (t2 : (Nat → Int32)) => I4 t0 t1 t2 ∧ μ4 t0 t1 t2 < μ4 y4_2 y4_3 z4_v_s) = B4 at hq
        have bk4 : ∀ (y4_2 : Int32) (y4_3 : Int32) (z4_v_s : (Nat → Int32)) (H : Heap) (locs : List Loc) (ls : Array Slot), B4 y4_2 y4_3 z4_v_s → va_P (dC, dI) vwCl (cX7 cy a z4_v_s (X7_aside v) (X7_kept v) (X7_isKept v) (X7_saved v) (X7_savedMany v) (X7_text v) (X7_length v) (X7_thrown v) (X7_joint v) (X7_position v) (X7_isWrong v) (X7_isHollow v) (X7_sure v) (X7_away v) (X7_digested v)) H → va_D A (cX7 cy a z4_v_s (X7_aside v) (X7_kept v) (X7_isKept v) (X7_saved v) (X7_savedMany v) (X7_text v) (X7_length v) (X7_thrown v) (X7_joint v) (X7_position v) (X7_isWrong v) (X7_isHollow v) (X7_sure v) (X7_away v) (X7_digested v)) → va_S A s.heap H locs → lv_has ls 6 [(0, .ref (a 0)), (1, .int x1), (2, .int y4_2), (3, .int y4_3)] → W p l e (headSpec wsX7_fallsIn ({ frames := 2, cells := 0, slots := 0, locals := 47 } : Room)).room s m ([.ref (a 0), .int x1] : List Value).toArray below meth c H locs 0 0 (MQ below (q_X7_fallsIn dC dI cy a v x1 Q A) ([.ref (a 0), .int x1] : List Value).toArray s 0 0 A) (F0 m 4 ls []) := by
          intro y4_2 y4_3 z4_v_s H locs ls h
          rw [← hB4] at h
          exact ih y4_2 y4_3 z4_v_s H locs ls h.1 (Nat.lt_of_lt_of_le h.2 (Nat.le_of_lt_succ hm))
        unfold wb_X7_fallsIn_4 at hq
        have J64 : ∀ (y64_2 : Int32) (y64_4 : Int32) (y64_5 : Int32) (z64_v_s : (Nat → Int32)) (H : Heap) (locs : List Loc) (ls : Array Slot), wp_X7_fallsIn_64 v x1 y4_2 y4_3 z4_v_s B4 y64_2 y64_4 y64_5 z64_v_s Q → va_P (dC, dI) vwCl (cX7 cy a z64_v_s (X7_aside v) (X7_kept v) (X7_isKept v) (X7_saved v) (X7_savedMany v) (X7_text v) (X7_length v) (X7_thrown v) (X7_joint v) (X7_position v) (X7_isWrong v) (X7_isHollow v) (X7_sure v) (X7_away v) (X7_digested v)) H → va_D A (cX7 cy a z64_v_s (X7_aside v) (X7_kept v) (X7_isKept v) (X7_saved v) (X7_savedMany v) (X7_text v) (X7_length v) (X7_thrown v) (X7_joint v) (X7_position v) (X7_isWrong v) (X7_isHollow v) (X7_sure v) (X7_away v) (X7_digested v)) → va_S A s.heap H locs → lv_has ls 6 [(0, .ref (a 0)), (1, .int x1), (2, .int y64_2), (3, .int y4_3), (4, .int y64_4), (5, .int y64_5)] → W p l e (headSpec wsX7_fallsIn ({ frames := 2, cells := 0, slots := 0, locals := 47 } : Room)).room s m ([.ref (a 0), .int x1] : List Value).toArray below meth c H locs 0 0 (MQ below (q_X7_fallsIn dC dI cy a v x1 Q A) ([.ref (a 0), .int x1] : List Value).toArray s 0 0 A) (F0 m 64 ls []) := by
          intro y64_2 y64_4 y64_5 z64_v_s H locs ls hq hP hD hS hl
          unfold wp_X7_fallsIn_64 at hq
          refine lv_iload hx hb dX7_fallsIn_64 (lv_at hl 5 rfl) ?_
          obtain ⟨hqA, hqB⟩ := hq
          refine lv_if_eq (tgt := 73) hx hb dX7_fallsIn_66 (by decide) (fun c1 => ?_) (fun c1 => ?_)
          · have hq := hqA c1
            refine lv_iload hx hb dX7_fallsIn_73 (lv_at hl 4 rfl) ?_
            refine lv_iconst (v := 1) hx hb dX7_fallsIn_75 (by decide) ?_
            refine lv_iadd hx hb dX7_fallsIn_76 ?_
            refine lv_istore_n (lv' := [(3, .int (y64_4 + 1)), (0, .ref (a 0)), (1, .int x1), (2, .int y64_2), (4, .int y64_4), (5, .int y64_5)]) hx hb dX7_fallsIn_77 rfl hl (by decide) rfl (fun ls hl => ?_)
            refine lv_goto (tgt := 4) hx hb dX7_fallsIn_78 (by decide) ?_
            exact bk4 y64_2 (y64_4 + 1) z64_v_s _ _ _ hq hP hD hS (lv_sub hl [1, 2, 3, 0] rfl)
          · have hq := hqB c1
            refine lv_iload_n hx hb dX7_fallsIn_69 rfl (lv_at hl 3 rfl) ?_
            refine lv_goto (tgt := 77) hx hb dX7_fallsIn_70 (by decide) ?_
            refine lv_istore_n (lv' := [(3, .int y4_3), (0, .ref (a 0)), (1, .int x1), (2, .int y64_2), (4, .int y64_4), (5, .int y64_5)]) hx hb dX7_fallsIn_77 rfl hl (by decide) rfl (fun ls hl => ?_)
            refine lv_goto (tgt := 4) hx hb dX7_fallsIn_78 (by decide) ?_
            exact bk4 y64_2 y4_3 z64_v_s _ _ _ hq hP hD hS (lv_sub hl [1, 2, 3, 0] rfl)
        have J40 : ∀ (y40_4 : Int32) (k40_0 : Int32) (H : Heap) (locs : List Loc) (ls : Array Slot), wp_X7_fallsIn_40 v x1 y4_2 y4_3 z4_v_s B4 y40_4 k40_0 Q → va_P (dC, dI) vwCl (cX7 cy a z4_v_s (X7_aside v) (X7_kept v) (X7_isKept v) (X7_saved v) (X7_savedMany v) (X7_text v) (X7_length v) (X7_thrown v) (X7_joint v) (X7_position v) (X7_isWrong v) (X7_isHollow v) (X7_sure v) (X7_away v) (X7_digested v)) H → va_D A (cX7 cy a z4_v_s (X7_aside v) (X7_kept v) (X7_isKept v) (X7_saved v) (X7_savedMany v) (X7_text v) (X7_length v) (X7_thrown v) (X7_joint v) (X7_position v) (X7_isWrong v) (X7_isHollow v) (X7_sure v) (X7_away v) (X7_digested v)) → va_S A s.heap H locs → lv_has ls 6 [(0, .ref (a 0)), (1, .int x1), (2, .int y4_2), (3, .int y4_3), (4, .int y40_4)] → W p l e (headSpec wsX7_fallsIn ({ frames := 2, cells := 0, slots := 0, locals := 47 } : Room)).room s m ([.ref (a 0), .int x1] : List Value).toArray below meth c H locs 0 0 (MQ below (q_X7_fallsIn dC dI cy a v x1 Q A) ([.ref (a 0), .int x1] : List Value).toArray s 0 0 A) (F0 m 40 ls [.int k40_0]) := by
          intro y40_4 k40_0 H locs ls hq hP hD hS hl
          unfold wp_X7_fallsIn_40 at hq
          refine lv_istore (lv' := [(5, .int k40_0), (0, .ref (a 0)), (1, .int x1), (2, .int y4_2), (3, .int y4_3), (4, .int y40_4)]) hx hb dX7_fallsIn_40 hl (by decide) rfl (fun ls hl => ?_)
          refine lv_iload hx hb dX7_fallsIn_42 (lv_at hl 0 rfl) ?_
          obtain ⟨hqA, hqB⟩ := hq
          refine lv_if_eq (tgt := 64) hx hb dX7_fallsIn_44 (by decide) (fun c2 => ?_) (fun c2 => ?_)
          · have hq := hqA c2
            exact J64 y4_2 y40_4 k40_0 z4_v_s  _ _ _ hq hP hD hS (lv_sub hl [1, 2, 3, 4, 5, 0] rfl)
          · have hq := hqB c2
            refine lv_aload_n hx hb dX7_fallsIn_47 rfl (lv_at hl 1 rfl) ?_
            refine lv_iload hx hb dX7_fallsIn_48 (lv_at hl 5 rfl) ?_
            refine lv_iconst (v := 1) hx hb dX7_fallsIn_50 (by decide) ?_
            refine lv_iadd hx hb dX7_fallsIn_51 ?_
            refine lv_iload_n hx hb dX7_fallsIn_52 rfl (lv_at hl 4 rfl) ?_
            refine lv_iload hx hb dX7_fallsIn_53 (lv_at hl 5 rfl) ?_
            refine lv_isub hx hb dX7_fallsIn_55 ?_
            refine lv_iconst (v := 1) hx hb dX7_fallsIn_56 (by decide) ?_
            refine lv_isub hx hb dX7_fallsIn_57 ?_
            have hFc := xfree_same hS hAe0 (ws := (cX7 cy a z4_v_s (X7_aside v) (X7_kept v) (X7_isKept v) (X7_saved v) (X7_savedMany v) (X7_text v) (X7_length v) (X7_thrown v) (X7_joint v) (X7_position v) (X7_isWrong v) (X7_isHollow v) (X7_sure v) (X7_away v) (X7_digested v))) hD
            refine va_callv (va_runV (As := [.int (y40_4 + 1), .int ((y4_3 - y40_4) - 1)]) (rest := []) ⟨hx, hb, hml, hown, hts⟩ (c_X7_shifts l dC dI cy a _ (X7_s0 v z4_v_s) (y40_4 + 1) ((y4_3 - y40_4) - 1) _ hq) (cwV 2 hts gX7_fallsIn_X7_shifts rfl rfl rfl (by decide +kernel) ⟨Nat.le_of_ble_eq_true rfl, Nat.le_of_ble_eq_true rfl⟩) ⟨xPre_blind, va_recv hK hP (ci := 7) (q0 := 0) rfl rfl, xPre_of hP hK hD⟩ rfl rfl hl.1 rfl (lv_room (Nat.le_of_ble_eq_true rfl)) dX7_fallsIn_58 ⟨Nat.le_of_ble_eq_true rfl, Nat.le_of_ble_eq_true rfl⟩) hS (fun q _ h => hFc q h) hFc (fun z58_v_s t H locs ht hvm hq hB hz1 hk1 hS => ?_)
            obtain ⟨hP1, -, hD1⟩ := hB
            rw [ht] at hP1
            have hP : va_P (dC, dI) vwCl (cX7 cy a z58_v_s (X7_aside v) (X7_kept v) (X7_isKept v) (X7_saved v) (X7_savedMany v) (X7_text v) (X7_length v) (X7_thrown v) (X7_joint v) (X7_position v) (X7_isWrong v) (X7_isHollow v) (X7_sure v) (X7_away v) (X7_digested v)) H := hP1
            have hD : va_D A (cX7 cy a z58_v_s (X7_aside v) (X7_kept v) (X7_isKept v) (X7_saved v) (X7_savedMany v) (X7_text v) (X7_length v) (X7_thrown v) (X7_joint v) (X7_position v) (X7_isWrong v) (X7_isHollow v) (X7_sure v) (X7_away v) (X7_digested v)) := hD1.weaken (fun _ q _ h => hFc q.1 h)
            refine lv_iinc (v := (y4_2 + 1)) (lv' := [(2, .int (y4_2 + 1)), (5, .int k40_0), (0, .ref (a 0)), (1, .int x1), (3, .int y4_3), (4, .int y40_4)]) hx hb dX7_fallsIn_61 hl (k := 3) rfl rfl (by decide) rfl (fun ls hl => ?_)
            exact J64 (y4_2 + 1) y40_4 k40_0 z58_v_s  _ _ _ hq hP hD hS (lv_sub hl [2, 3, 0, 4, 5, 1] rfl)
        refine lv_iload_n hx hb dX7_fallsIn_4 rfl (lv_at hl 3 rfl) ?_
        refine lv_aload_n hx hb dX7_fallsIn_5 rfl (lv_at hl 0 rfl) ?_
        refine va_get (D := (dC, dI)) (ci := 7) (v := .ref (a 1)) (C := RX7) (T := TX7) (N := 16) hx hb hts iK7 hown hK hP 0 rfl rfl 0 (by decide) lk0 (fun _ h9 => h9) rfl dX7_fallsIn_6 ?_
        refine lv_bipush (v := 7) hx hb dX7_fallsIn_9 (by decide) ?_
        obtain ⟨g3, hq⟩ := hq
        refine va_iald hx hb hK hP 1 0 rfl rfl g3 dX7_fallsIn_11 ?_
        obtain ⟨hqA, hqB⟩ := hq
        refine lv_icmp_ge (tgt := 81) hx hb dX7_fallsIn_12 (by decide) (fun c6 => ?_) (fun c6 => ?_)
        · have hq := hqA c6
          refine lv_aload_n hx hb dX7_fallsIn_81 rfl (lv_at hl 0 rfl) ?_
          refine va_get (D := (dC, dI)) (ci := 7) (v := .ref (a 1)) (C := RX7) (T := TX7) (N := 16) hx hb hts iK7 hown hK hP 0 rfl rfl 0 (by decide) lk0 (fun _ h9 => h9) rfl dX7_fallsIn_82 ?_
          refine lv_iconst (v := 5) hx hb dX7_fallsIn_85 (by decide) ?_
          refine lv_dup2_11 hx hb dX7_fallsIn_86 rfl rfl ?_
          obtain ⟨g4, hq⟩ := hq
          refine va_iald hx hb hK hP 1 0 rfl rfl g4 dX7_fallsIn_87 ?_
          refine lv_iload_n hx hb dX7_fallsIn_88 rfl (lv_at hl 2 rfl) ?_
          refine lv_iadd hx hb dX7_fallsIn_89 ?_
          refine va_iast hx hb hK hP hD hS 1 0 rfl rfl g4 dX7_fallsIn_90 (fun H locs hP hD hS => ?_)
          have hP : va_P (dC, dI) vwCl (cX7 cy a (upd z4_v_s (5 : Int32).toNatClampNeg ((z4_v_s (5 : Int32).toNatClampNeg) + y4_2)) (X7_aside v) (X7_kept v) (X7_isKept v) (X7_saved v) (X7_savedMany v) (X7_text v) (X7_length v) (X7_thrown v) (X7_joint v) (X7_position v) (X7_isWrong v) (X7_isHollow v) (X7_sure v) (X7_away v) (X7_digested v)) H := hP
          have hD : va_D A (cX7 cy a (upd z4_v_s (5 : Int32).toNatClampNeg ((z4_v_s (5 : Int32).toNatClampNeg) + y4_2)) (X7_aside v) (X7_kept v) (X7_isKept v) (X7_saved v) (X7_savedMany v) (X7_text v) (X7_length v) (X7_thrown v) (X7_joint v) (X7_position v) (X7_isWrong v) (X7_isHollow v) (X7_sure v) (X7_away v) (X7_digested v)) := hD
          refine lv_iload_n hx hb dX7_fallsIn_91 rfl (lv_at hl 2 rfl) ?_
          exact W.iret (v := y4_2) hx hb hr (fun t ht hW => ⟨⟨y4_2, (upd z4_v_s (5 : Int32).toNatClampNeg ((z4_v_s (5 : Int32).toNatClampNeg) + y4_2)), rfl, hq, (xAt_of hP hK hD ht hW)⟩, hS.F ht⟩) hS.2.2 dX7_fallsIn_92
        · have hq := hqB c6
          refine lv_aload_n hx hb dX7_fallsIn_15 rfl (lv_at hl 0 rfl) ?_
          refine lv_iload_n hx hb dX7_fallsIn_16 rfl (lv_at hl 3 rfl) ?_
          have hFc := xfree_same hS hAe0 (ws := (cX7 cy a z4_v_s (X7_aside v) (X7_kept v) (X7_isKept v) (X7_saved v) (X7_savedMany v) (X7_text v) (X7_length v) (X7_thrown v) (X7_joint v) (X7_position v) (X7_isWrong v) (X7_isHollow v) (X7_sure v) (X7_away v) (X7_digested v))) hD
          refine va_calli (va_runV (As := [.int y4_3]) (rest := []) ⟨hx, hb, hml, hown, hts⟩ (c_X7_endFrom l dC dI cy a _ (X7_s0 v z4_v_s) y4_3 _ hq) (cwV 1 hts gX7_fallsIn_X7_endFrom rfl rfl rfl (by decide +kernel) ⟨Nat.le_of_ble_eq_true rfl, Nat.le_of_ble_eq_true rfl⟩) ⟨xPre_blind, va_recv hK hP (ci := 7) (q0 := 0) rfl rfl, xPre_of hP hK hD⟩ rfl rfl hl.1 rfl (lv_room (Nat.le_of_ble_eq_true rfl)) dX7_fallsIn_17 ⟨Nat.le_of_ble_eq_true rfl, Nat.le_of_ble_eq_true rfl⟩) hS (fun q _ h => hFc q h) hFc (fun r17 u9 t H locs ht hvm hq hB hz1 hk1 hS => ?_)
          obtain ⟨hP1, -, hD1⟩ := hB
          rw [ht] at hP1
          have hP : va_P (dC, dI) vwCl (cX7 cy a z4_v_s (X7_aside v) (X7_kept v) (X7_isKept v) (X7_saved v) (X7_savedMany v) (X7_text v) (X7_length v) (X7_thrown v) (X7_joint v) (X7_position v) (X7_isWrong v) (X7_isHollow v) (X7_sure v) (X7_away v) (X7_digested v)) H := hP1
          have hD : va_D A (cX7 cy a z4_v_s (X7_aside v) (X7_kept v) (X7_isKept v) (X7_saved v) (X7_savedMany v) (X7_text v) (X7_length v) (X7_thrown v) (X7_joint v) (X7_position v) (X7_isWrong v) (X7_isHollow v) (X7_sure v) (X7_away v) (X7_digested v)) := hD1.weaken (fun _ q _ h => hFc q.1 h)
          refine lv_istore (lv' := [(4, .int r17), (0, .ref (a 0)), (1, .int x1), (2, .int y4_2), (3, .int y4_3)]) hx hb dX7_fallsIn_20 hl (by decide) rfl (fun ls hl => ?_)
          refine lv_aload_n hx hb dX7_fallsIn_22 rfl (lv_at hl 1 rfl) ?_
          refine lv_iload_n hx hb dX7_fallsIn_23 rfl (lv_at hl 2 rfl) ?_
          refine lv_iload_n hx hb dX7_fallsIn_24 rfl (lv_at hl 4 rfl) ?_
          refine lv_iload hx hb dX7_fallsIn_25 (lv_at hl 0 rfl) ?_
          refine lv_iconst (v := 0) hx hb dX7_fallsIn_27 (by decide) ?_
          have hFc := xfree_same hS hAe0 (ws := (cX7 cy a z4_v_s (X7_aside v) (X7_kept v) (X7_isKept v) (X7_saved v) (X7_savedMany v) (X7_text v) (X7_length v) (X7_thrown v) (X7_joint v) (X7_position v) (X7_isWrong v) (X7_isHollow v) (X7_sure v) (X7_away v) (X7_digested v))) hD
          refine va_calli (va_runV (As := [.int x1, .int y4_3, .int r17, .int 0]) (rest := []) ⟨hx, hb, hml, hown, hts⟩ (c_X7_find l dC dI cy a _ (X7_s0 v z4_v_s) x1 y4_3 r17 0 _ hq) (cwV 4 hts gX7_fallsIn_X7_find rfl rfl rfl (by decide +kernel) ⟨Nat.le_of_ble_eq_true rfl, Nat.le_of_ble_eq_true rfl⟩) ⟨xPre_blind, va_recv hK hP (ci := 7) (q0 := 0) rfl rfl, xPre_of hP hK hD⟩ rfl rfl hl.1 rfl (lv_room (Nat.le_of_ble_eq_true rfl)) dX7_fallsIn_28 ⟨Nat.le_of_ble_eq_true rfl, Nat.le_of_ble_eq_true rfl⟩) hS (fun q _ h => hFc q h) hFc (fun r28 u9 t H locs ht hvm hq hB hz1 hk1 hS => ?_)
          obtain ⟨hP1, -, hD1⟩ := hB
          rw [ht] at hP1
          have hP : va_P (dC, dI) vwCl (cX7 cy a z4_v_s (X7_aside v) (X7_kept v) (X7_isKept v) (X7_saved v) (X7_savedMany v) (X7_text v) (X7_length v) (X7_thrown v) (X7_joint v) (X7_position v) (X7_isWrong v) (X7_isHollow v) (X7_sure v) (X7_away v) (X7_digested v)) H := hP1
          have hD : va_D A (cX7 cy a z4_v_s (X7_aside v) (X7_kept v) (X7_isKept v) (X7_saved v) (X7_savedMany v) (X7_text v) (X7_length v) (X7_thrown v) (X7_joint v) (X7_position v) (X7_isWrong v) (X7_isHollow v) (X7_sure v) (X7_away v) (X7_digested v)) := hD1.weaken (fun _ q _ h => hFc q.1 h)
          refine lv_iconst (v := (-1)) hx hb dX7_fallsIn_31 (by decide) ?_
          obtain ⟨hqA, hqB⟩ := hq
          refine lv_icmp_eq (tgt := 39) hx hb dX7_fallsIn_32 (by decide) (fun c5 => ?_) (fun c5 => ?_)
          · have hq := hqA c5
            refine lv_iconst (v := 0) hx hb dX7_fallsIn_39 (by decide) ?_
            exact J40 r17 0  _ _ _ hq hP hD hS (lv_sub hl [1, 2, 3, 4, 0] rfl)
          · have hq := hqB c5
            refine lv_iconst (v := 1) hx hb dX7_fallsIn_35 (by decide) ?_
            refine lv_goto (tgt := 40) hx hb dX7_fallsIn_36 (by decide) ?_
            exact J40 r17 1  _ _ _ hq hP hD hS (lv_sub hl [1, 2, 3, 4, 0] rfl)
    exact key _ y4_2 y4_3 z4_v_s H locs ls h0 (Nat.lt_succ_self _) hP hD hS hl
  refine lv_iconst (v := 0) hx hb dX7_fallsIn_0 (by decide) ?_
  refine lv_istore_n (lv' := [(2, .int 0), (0, .ref (a 0)), (1, .int x1)]) hx hb dX7_fallsIn_1 rfl hl (by decide) rfl (fun ls hl => ?_)
  refine lv_iconst (v := 0) hx hb dX7_fallsIn_2 (by decide) ?_
  refine lv_istore_n (lv' := [(3, .int 0), (2, .int 0), (0, .ref (a 0)), (1, .int x1)]) hx hb dX7_fallsIn_3 rfl hl (by decide) rfl (fun ls hl => ?_)
  exact J4  0 0 (X7_s v) _ _ _ hq hP hD hS (lv_sub hl [2, 3, 1, 0] rfl)
def wb_X7_inTrail_6 (v : V_X7) (x1 : Int32) (x2 : Int32) (x3 : Int32)  (y6_4 : Int32) (y6_5 : Int32) (B6 : Int32 → Int32 → Prop) (Q : Int32 → Prop) : Prop :=
  wp_X7_of x1 23 (fun r15 =>
  vp_in r15 1472 ∧ ((((X7_s v) r15.toNatClampNeg) ≤ y6_5 → Q y6_4) ∧
  (¬ ((X7_s v) r15.toNatClampNeg) ≤ y6_5 → wp_X7_of x1 (24 + y6_5) (fun r32 =>
  vp_in r32 1472 ∧ ((((X7_s v) r32.toNatClampNeg) = x2 → ((x3 = 0 → ((y6_4 = (-1) → B6 y6_5 (y6_5 + 1)) ∧
  (¬ y6_4 = (-1) → B6 y6_4 (y6_5 + 1)))) ∧
  (¬ x3 = 0 → B6 y6_5 (y6_5 + 1)))) ∧
  (¬ ((X7_s v) r32.toNatClampNeg) = x2 → B6 y6_4 (y6_5 + 1)))))))
def wp_X7_inTrail_6 (v : V_X7) (x1 : Int32) (x2 : Int32) (x3 : Int32)  (y6_4 : Int32) (y6_5 : Int32) (Q : Int32 → Prop) : Prop :=
  ∃ (I : Int32 → Int32 → Prop) (μ : Int32 → Int32 → Nat), I y6_4 y6_5 ∧ ∀ (s0 : Int32) (s1 : Int32), I s0 s1 → wb_X7_inTrail_6 v x1 x2 x3  s0 s1 (fun t0 t1 => I t0 t1 ∧ μ t0 t1 < μ s0 s1) Q
def wp_X7_inTrail (v : V_X7) (x1 : Int32) (x2 : Int32) (x3 : Int32) (Q : Int32 → Prop) : Prop :=
  wp_X7_inTrail_6 v x1 x2 x3  (-1) 0 Q
def q_X7_inTrail (dC : Nat → ClassId) (dI : Nat → Nat → Nat) (cy : Nat → ClassId) (a : Nat → Nat) (v : V_X7) (x1 : Int32) (x2 : Int32) (x3 : Int32) (Q : Int32 → Prop) (A : Nat → Prop) : Array Value → State → Outcome → State → Prop := va_Qi (fun (r : Int32) (u : Unit) => Q r ) (fun (u : Unit) t => xAt dC dI cy A (wX7 cy a v) t) A
set_option maxHeartbeats 4000000 in
set_option maxRecDepth 100000 in
theorem c_X7_inTrail (l : Launch) (dC : Nat → ClassId) (dI : Nat → Nat → Nat) (cy : Nat → ClassId) (a : Nat → Nat) (sz : Nat) (v : V_X7) (x1 : Int32) (x2 : Int32) (x3 : Int32) (Q : Int32 → Prop) (hq : wp_X7_inTrail v x1 x2 x3 Q) : Met l yX7_inTrail wsX7_inTrail ({ frames := 1, cells := 0, slots := 0, locals := 21 } : Room) (va_Pc [.ref (a 0), .int x1, .int x2, .int x3] (xPre dC dI cy (wX7 cy a v) sz)) (q_X7_inTrail dC dI cy a v x1 x2 x3 Q (va_A (wX7 cy a v) sz)) 0 0 (va_A (wX7 cy a v) sz) := by
  refine Met.ofW (cc := cX7_inTrail) (maxL := 6) (ret := (some .int)) (by decide) rfl ?_
  intro p e s m args below meth c s₁ B hml hv
  obtain ⟨rfl, hsz, hP, hK, hD0⟩ := hv
  have hx := B.exec
  have hb := B.bytes
  have hr := B.returns
  have hts := atoms_spec (ws := wsX7_inTrail) B.pre
  have hown : s.vm.findClass RX7 = some m.cls := findClass_of_methodNamed B.named
  have hlocks := B.notSynchronized
  subst hsz
  have hD := hD0.self (sz := s.heap.size)
  generalize hAe : va_A (wX7 cy a v) s.heap.size = A at hD ⊢
  have hAe0 : ∀ q : Nat, s.heap.size ≤ q → A q := fun q h => by rw [← hAe]; exact Or.inr h
  have hS : va_S A s.heap s.heap [] := va_S.rf
  have hl := lv_entry ([.ref (a 0), .int x1, .int x2, .int x3]) (n := 6) (Nat.le_of_ble_eq_true rfl)
  rw [lg_entry_eq]
  generalize (lg_sl ([.ref (a 0), .int x1, .int x2, .int x3]) ++ List.replicate (6 - (lg_sl ([.ref (a 0), .int x1, .int x2, .int x3])).length) Slot.unset).toArray = ls at hl ⊢
  have hl : lv_has ls 6 [(0, .ref (a 0)), (1, .int x1), (2, .int x2), (3, .int x3)] := hl
  have lk0 := hts (Cond.fieldLink RX7 7 "MolesLawnModel" "s" "[I") (List.mem_cons_of_mem _ (List.mem_append_left _ (List.mem_of_getElem? (i := 0) rfl)))
  have iK7 : ∀ w ∈ wsX70, w ∈ wsX7_inTrail := fun _ h => (List.mem_cons_of_mem _ (List.mem_append_right _ h))
  unfold wp_X7_inTrail at hq
  have J6 : ∀  (y6_4 : Int32) (y6_5 : Int32) (H : Heap) (locs : List Loc) (ls : Array Slot), wp_X7_inTrail_6 v x1 x2 x3  y6_4 y6_5 Q → va_P (dC, dI) vwCl (wX7 cy a v) H → va_D A (wX7 cy a v) → va_S A s.heap H locs → lv_has ls 6 [(0, .ref (a 0)), (1, .int x1), (2, .int x2), (3, .int x3), (4, .int y6_4), (5, .int y6_5)] → W p l e (headSpec wsX7_inTrail ({ frames := 1, cells := 0, slots := 0, locals := 21 } : Room)).room s m ([.ref (a 0), .int x1, .int x2, .int x3] : List Value).toArray below meth c H locs 0 0 (MQ below (q_X7_inTrail dC dI cy a v x1 x2 x3 Q A) ([.ref (a 0), .int x1, .int x2, .int x3] : List Value).toArray s 0 0 A) (F0 m 6 ls []) := by
    intro  y6_4 y6_5 H locs ls hq hP hD hS hl
    obtain ⟨I6, μ6, h0, hs6⟩ := hq
    have key : ∀ (n : Nat) (y6_4 : Int32) (y6_5 : Int32) (H : Heap) (locs : List Loc) (ls : Array Slot), I6 y6_4 y6_5 → μ6 y6_4 y6_5 < n → va_P (dC, dI) vwCl (wX7 cy a v) H → va_D A (wX7 cy a v) → va_S A s.heap H locs → lv_has ls 6 [(0, .ref (a 0)), (1, .int x1), (2, .int x2), (3, .int x3), (4, .int y6_4), (5, .int y6_5)] → W p l e (headSpec wsX7_inTrail ({ frames := 1, cells := 0, slots := 0, locals := 21 } : Room)).room s m ([.ref (a 0), .int x1, .int x2, .int x3] : List Value).toArray below meth c H locs 0 0 (MQ below (q_X7_inTrail dC dI cy a v x1 x2 x3 Q A) ([.ref (a 0), .int x1, .int x2, .int x3] : List Value).toArray s 0 0 A) (F0 m 6 ls []) := by
      intro n
      induction n with
      | zero => intro y6_4 y6_5 H locs ls _ hm; exact absurd hm (Nat.not_lt_zero _)
      | succ n ih =>
        intro y6_4 y6_5 H locs ls hI hm hP hD hS hl
        have hq := hs6 y6_4 y6_5 hI
        generalize hB6 : (fun (t0 : Int32) (t1 : Int32) => I6 t0 t1 ∧ μ6 t0 t1 < μ6 y6_4 y6_5) = B6 at hq
        have bk6 : ∀ (y6_4 : Int32) (y6_5 : Int32) (H : Heap) (locs : List Loc) (ls : Array Slot), B6 y6_4 y6_5 → va_P (dC, dI) vwCl (wX7 cy a v) H → va_D A (wX7 cy a v) → va_S A s.heap H locs → lv_has ls 6 [(0, .ref (a 0)), (1, .int x1), (2, .int x2), (3, .int x3), (4, .int y6_4), (5, .int y6_5)] → W p l e (headSpec wsX7_inTrail ({ frames := 1, cells := 0, slots := 0, locals := 21 } : Room)).room s m ([.ref (a 0), .int x1, .int x2, .int x3] : List Value).toArray below meth c H locs 0 0 (MQ below (q_X7_inTrail dC dI cy a v x1 x2 x3 Q A) ([.ref (a 0), .int x1, .int x2, .int x3] : List Value).toArray s 0 0 A) (F0 m 6 ls []) := by
          intro y6_4 y6_5 H locs ls h
          rw [← hB6] at h
          exact ih y6_4 y6_5 H locs ls h.1 (Nat.lt_of_lt_of_le h.2 (Nat.le_of_lt_succ hm))
        unfold wb_X7_inTrail_6 at hq
        refine lv_iload hx hb dX7_inTrail_6 (lv_at hl 5 rfl) ?_
        refine lv_aload_n hx hb dX7_inTrail_8 rfl (lv_at hl 0 rfl) ?_
        refine va_get (D := (dC, dI)) (ci := 7) (v := .ref (a 1)) (C := RX7) (T := TX7) (N := 16) hx hb hts iK7 hown hK hP 0 rfl rfl 0 (by decide) lk0 (fun _ h9 => h9) rfl dX7_inTrail_9 ?_
        refine lv_iload_n hx hb dX7_inTrail_12 rfl (lv_at hl 1 rfl) ?_
        refine lv_bipush (v := 23) hx hb dX7_inTrail_13 (by decide) ?_
        have hFc := xfree_none hS hAe0
        refine va_calli (va_runS (As := [.int x1, .int 23]) (rest := [.ref (a 1), .int y6_5]) ⟨hx, hb, hml, hown, hts⟩ (c_X7_of l dC dI cy  _ x1 23 _ hq) (va_cwS 2 hts gX7_inTrail_X7_of rfl rfl rfl (by decide +kernel) ⟨Nat.le_of_ble_eq_true rfl, Nat.le_of_ble_eq_true rfl⟩) ⟨xPre_blind, xPre_of xP_nil hK (xD_nil (A := A))⟩ rfl rfl hl.1 rfl (lv_room (Nat.le_of_ble_eq_true rfl)) dX7_inTrail_15 ⟨Nat.le_of_ble_eq_true rfl, Nat.le_of_ble_eq_true rfl⟩) hS (fun q _ h => hFc q h) hFc (fun r15 u9 t H locs ht hvm hq hB hz1 hk1 hS => ?_)
        have hP := xj_none hP hk1
        obtain ⟨g1, hq⟩ := hq
        refine va_iald hx hb hK hP 1 0 rfl rfl g1 dX7_inTrail_18 ?_
        obtain ⟨hqA, hqB⟩ := hq
        refine lv_icmp_ge (tgt := 65) hx hb dX7_inTrail_19 (by decide) (fun c6 => ?_) (fun c6 => ?_)
        · have hq := hqA c6
          refine lv_iload hx hb dX7_inTrail_65 (lv_at hl 4 rfl) ?_
          exact W.iret (v := y6_4) hx hb hr (fun t ht hW => ⟨⟨y6_4, (), rfl, hq, (xAt_of hP hK hD ht hW)⟩, hS.F ht⟩) hS.2.2 dX7_inTrail_67
        · have hq := hqB c6
          refine lv_aload_n hx hb dX7_inTrail_22 rfl (lv_at hl 0 rfl) ?_
          refine va_get (D := (dC, dI)) (ci := 7) (v := .ref (a 1)) (C := RX7) (T := TX7) (N := 16) hx hb hts iK7 hown hK hP 0 rfl rfl 0 (by decide) lk0 (fun _ h9 => h9) rfl dX7_inTrail_23 ?_
          refine lv_iload_n hx hb dX7_inTrail_26 rfl (lv_at hl 1 rfl) ?_
          refine lv_bipush (v := 24) hx hb dX7_inTrail_27 (by decide) ?_
          refine lv_iload hx hb dX7_inTrail_29 (lv_at hl 5 rfl) ?_
          refine lv_iadd hx hb dX7_inTrail_31 ?_
          have hFc := xfree_none hS hAe0
          refine va_calli (va_runS (As := [.int x1, .int (24 + y6_5)]) (rest := [.ref (a 1)]) ⟨hx, hb, hml, hown, hts⟩ (c_X7_of l dC dI cy  _ x1 (24 + y6_5) _ hq) (va_cwS 2 hts gX7_inTrail_X7_of rfl rfl rfl (by decide +kernel) ⟨Nat.le_of_ble_eq_true rfl, Nat.le_of_ble_eq_true rfl⟩) ⟨xPre_blind, xPre_of xP_nil hK (xD_nil (A := A))⟩ rfl rfl hl.1 rfl (lv_room (Nat.le_of_ble_eq_true rfl)) dX7_inTrail_32 ⟨Nat.le_of_ble_eq_true rfl, Nat.le_of_ble_eq_true rfl⟩) hS (fun q _ h => hFc q h) hFc (fun r32 u9 t H locs ht hvm hq hB hz1 hk1 hS => ?_)
          have hP := xj_none hP hk1
          obtain ⟨g2, hq⟩ := hq
          refine va_iald hx hb hK hP 1 0 rfl rfl g2 dX7_inTrail_35 ?_
          refine lv_iload_n hx hb dX7_inTrail_36 rfl (lv_at hl 2 rfl) ?_
          obtain ⟨hqA, hqB⟩ := hq
          refine lv_icmp_ne (tgt := 55) hx hb dX7_inTrail_37 (by decide) (fun c5 => ?_) (fun c5 => ?_)
          · have hq := hqB c5
            refine lv_iload hx hb dX7_inTrail_55 (lv_at hl 4 rfl) ?_
            refine lv_istore (lv' := [(4, .int y6_4), (0, .ref (a 0)), (1, .int x1), (2, .int x2), (3, .int x3), (5, .int y6_5)]) hx hb dX7_inTrail_57 hl (by decide) rfl (fun ls hl => ?_)
            refine lv_iinc (v := (y6_5 + 1)) (lv' := [(5, .int (y6_5 + 1)), (4, .int y6_4), (0, .ref (a 0)), (1, .int x1), (2, .int x2), (3, .int x3)]) hx hb dX7_inTrail_59 hl (k := 5) rfl rfl (by decide) rfl (fun ls hl => ?_)
            refine lv_goto (tgt := 6) hx hb dX7_inTrail_62 (by decide) ?_
            exact bk6 y6_4 (y6_5 + 1) _ _ _ hq hP hD hS (lv_sub hl [2, 3, 4, 5, 1, 0] rfl)
          · have hq := hqA c5
            refine lv_iload_n hx hb dX7_inTrail_40 rfl (lv_at hl 3 rfl) ?_
            obtain ⟨hqA, hqB⟩ := hq
            refine lv_if_ne (tgt := 50) hx hb dX7_inTrail_41 (by decide) (fun c4 => ?_) (fun c4 => ?_)
            · have hq := hqB c4
              refine lv_iload hx hb dX7_inTrail_50 (lv_at hl 5 rfl) ?_
              refine lv_goto (tgt := 57) hx hb dX7_inTrail_52 (by decide) ?_
              refine lv_istore (lv' := [(4, .int y6_5), (0, .ref (a 0)), (1, .int x1), (2, .int x2), (3, .int x3), (5, .int y6_5)]) hx hb dX7_inTrail_57 hl (by decide) rfl (fun ls hl => ?_)
              refine lv_iinc (v := (y6_5 + 1)) (lv' := [(5, .int (y6_5 + 1)), (4, .int y6_5), (0, .ref (a 0)), (1, .int x1), (2, .int x2), (3, .int x3)]) hx hb dX7_inTrail_59 hl (k := 5) rfl rfl (by decide) rfl (fun ls hl => ?_)
              refine lv_goto (tgt := 6) hx hb dX7_inTrail_62 (by decide) ?_
              exact bk6 y6_5 (y6_5 + 1) _ _ _ hq hP hD hS (lv_sub hl [2, 3, 4, 5, 1, 0] rfl)
            · have hq := hqA c4
              refine lv_iload hx hb dX7_inTrail_44 (lv_at hl 4 rfl) ?_
              refine lv_iconst (v := (-1)) hx hb dX7_inTrail_46 (by decide) ?_
              obtain ⟨hqA, hqB⟩ := hq
              refine lv_icmp_ne (tgt := 55) hx hb dX7_inTrail_47 (by decide) (fun c3 => ?_) (fun c3 => ?_)
              · have hq := hqB c3
                refine lv_iload hx hb dX7_inTrail_55 (lv_at hl 4 rfl) ?_
                refine lv_istore (lv' := [(4, .int y6_4), (0, .ref (a 0)), (1, .int x1), (2, .int x2), (3, .int x3), (5, .int y6_5)]) hx hb dX7_inTrail_57 hl (by decide) rfl (fun ls hl => ?_)
                refine lv_iinc (v := (y6_5 + 1)) (lv' := [(5, .int (y6_5 + 1)), (4, .int y6_4), (0, .ref (a 0)), (1, .int x1), (2, .int x2), (3, .int x3)]) hx hb dX7_inTrail_59 hl (k := 5) rfl rfl (by decide) rfl (fun ls hl => ?_)
                refine lv_goto (tgt := 6) hx hb dX7_inTrail_62 (by decide) ?_
                exact bk6 y6_4 (y6_5 + 1) _ _ _ hq hP hD hS (lv_sub hl [2, 3, 4, 5, 1, 0] rfl)
              · have hq := hqA c3
                refine lv_iload hx hb dX7_inTrail_50 (lv_at hl 5 rfl) ?_
                refine lv_goto (tgt := 57) hx hb dX7_inTrail_52 (by decide) ?_
                refine lv_istore (lv' := [(4, .int y6_5), (0, .ref (a 0)), (1, .int x1), (2, .int x2), (3, .int x3), (5, .int y6_5)]) hx hb dX7_inTrail_57 hl (by decide) rfl (fun ls hl => ?_)
                refine lv_iinc (v := (y6_5 + 1)) (lv' := [(5, .int (y6_5 + 1)), (4, .int y6_5), (0, .ref (a 0)), (1, .int x1), (2, .int x2), (3, .int x3)]) hx hb dX7_inTrail_59 hl (k := 5) rfl rfl (by decide) rfl (fun ls hl => ?_)
                refine lv_goto (tgt := 6) hx hb dX7_inTrail_62 (by decide) ?_
                exact bk6 y6_5 (y6_5 + 1) _ _ _ hq hP hD hS (lv_sub hl [2, 3, 4, 5, 1, 0] rfl)
    exact key _ y6_4 y6_5 H locs ls h0 (Nat.lt_succ_self _) hP hD hS hl
  refine lv_iconst (v := (-1)) hx hb dX7_inTrail_0 (by decide) ?_
  refine lv_istore (lv' := [(4, .int (-1)), (0, .ref (a 0)), (1, .int x1), (2, .int x2), (3, .int x3)]) hx hb dX7_inTrail_1 hl (by decide) rfl (fun ls hl => ?_)
  refine lv_iconst (v := 0) hx hb dX7_inTrail_3 (by decide) ?_
  refine lv_istore (lv' := [(5, .int 0), (4, .int (-1)), (0, .ref (a 0)), (1, .int x1), (2, .int x2), (3, .int x3)]) hx hb dX7_inTrail_4 hl (by decide) rfl (fun ls hl => ?_)
  exact J6  (-1) 0 _ _ _ hq hP hD hS (lv_sub hl [2, 3, 4, 5, 1, 0] rfl)
def wp_X7_digs_46 (v : V_X7) (x1 : Int32) (x2 : Int32) (y2_3 : Int32) (z2_v_s : (Nat → Int32)) (B2 : Int32 → (Nat → Int32) → Prop) (k46_0 : Int32) (k46_1 : Int32) (k46_2 : Int32) (Q : (Nat → Int32) → Prop) : Prop :=
  vp_in k46_2 1472 ∧ vp_in 7 1472 ∧ B2 (y2_3 + 1) (upd (upd z2_v_s k46_2.toNatClampNeg (k46_1 + k46_0)) (7 : Int32).toNatClampNeg (((upd z2_v_s k46_2.toNatClampNeg (k46_1 + k46_0)) (7 : Int32).toNatClampNeg) + 1))
def wb_X7_digs_2 (v : V_X7) (x1 : Int32) (x2 : Int32)  (y2_3 : Int32) (z2_v_s : (Nat → Int32)) (B2 : Int32 → (Nat → Int32) → Prop) (Q : (Nat → Int32) → Prop) : Prop :=
  ((x2 < y2_3 → Q z2_v_s) ∧
  (¬ x2 < y2_3 → vp_in 7 1472 ∧ wp_X7_of x1 (24 + y2_3) (fun r31 =>
  vp_in r31 1472 ∧ ((y2_3 = x2 → wp_X7_digs_46 v x1 x2 y2_3 z2_v_s B2 64 (z2_v_s r31.toNatClampNeg) (448 + (z2_v_s (7 : Int32).toNatClampNeg))  Q) ∧
  (¬ y2_3 = x2 → wp_X7_digs_46 v x1 x2 y2_3 z2_v_s B2 0 (z2_v_s r31.toNatClampNeg) (448 + (z2_v_s (7 : Int32).toNatClampNeg))  Q)))))
def wp_X7_digs_2 (v : V_X7) (x1 : Int32) (x2 : Int32)  (y2_3 : Int32) (z2_v_s : (Nat → Int32)) (Q : (Nat → Int32) → Prop) : Prop :=
  ∃ (I : Int32 → (Nat → Int32) → Prop) (μ : Int32 → (Nat → Int32) → Nat), I y2_3 z2_v_s ∧ ∀ (s0 : Int32) (s1 : (Nat → Int32)), I s0 s1 → wb_X7_digs_2 v x1 x2  s0 s1 (fun t0 t1 => I t0 t1 ∧ μ t0 t1 < μ s0 s1) Q
def wp_X7_digs (v : V_X7) (x1 : Int32) (x2 : Int32) (Q : (Nat → Int32) → Prop) : Prop :=
  wp_X7_digs_2 v x1 x2  0 (X7_s v) Q
def q_X7_digs (dC : Nat → ClassId) (dI : Nat → Nat → Nat) (cy : Nat → ClassId) (a : Nat → Nat) (v : V_X7) (x1 : Int32) (x2 : Int32) (Q : (Nat → Int32) → Prop) (A : Nat → Prop) : Array Value → State → Outcome → State → Prop := va_Qv (fun (u : (Nat → Int32)) => Q u) (fun (u : (Nat → Int32)) t => xAt dC dI cy A (cX7 cy a u (X7_aside v) (X7_kept v) (X7_isKept v) (X7_saved v) (X7_savedMany v) (X7_text v) (X7_length v) (X7_thrown v) (X7_joint v) (X7_position v) (X7_isWrong v) (X7_isHollow v) (X7_sure v) (X7_away v) (X7_digested v)) t) A
set_option maxHeartbeats 4000000 in
set_option maxRecDepth 100000 in
theorem c_X7_digs (l : Launch) (dC : Nat → ClassId) (dI : Nat → Nat → Nat) (cy : Nat → ClassId) (a : Nat → Nat) (sz : Nat) (v : V_X7) (x1 : Int32) (x2 : Int32) (Q : (Nat → Int32) → Prop) (hq : wp_X7_digs v x1 x2 Q) : Met l yX7_digs wsX7_digs ({ frames := 1, cells := 0, slots := 0, locals := 21 } : Room) (va_Pc [.ref (a 0), .int x1, .int x2] (xPre dC dI cy (wX7 cy a v) sz)) (q_X7_digs dC dI cy a v x1 x2 Q (va_A (wX7 cy a v) sz)) 0 0 (va_A (wX7 cy a v) sz) := by
  refine Met.ofW (cc := cX7_digs) (maxL := 4) (ret := none) (by decide) rfl ?_
  intro p e s m args below meth c s₁ B hml hv
  obtain ⟨rfl, hsz, hP, hK, hD0⟩ := hv
  have hx := B.exec
  have hb := B.bytes
  have hr := B.returns
  have hts := atoms_spec (ws := wsX7_digs) B.pre
  have hown : s.vm.findClass RX7 = some m.cls := findClass_of_methodNamed B.named
  have hlocks := B.notSynchronized
  subst hsz
  have hD := hD0.self (sz := s.heap.size)
  generalize hAe : va_A (wX7 cy a v) s.heap.size = A at hD ⊢
  have hAe0 : ∀ q : Nat, s.heap.size ≤ q → A q := fun q h => by rw [← hAe]; exact Or.inr h
  have hS : va_S A s.heap s.heap [] := va_S.rf
  have hl := lv_entry ([.ref (a 0), .int x1, .int x2]) (n := 4) (Nat.le_of_ble_eq_true rfl)
  rw [lg_entry_eq]
  generalize (lg_sl ([.ref (a 0), .int x1, .int x2]) ++ List.replicate (4 - (lg_sl ([.ref (a 0), .int x1, .int x2])).length) Slot.unset).toArray = ls at hl ⊢
  have hl : lv_has ls 4 [(0, .ref (a 0)), (1, .int x1), (2, .int x2)] := hl
  have lk0 := hts (Cond.fieldLink RX7 7 "MolesLawnModel" "s" "[I") (List.mem_cons_of_mem _ (List.mem_append_left _ (List.mem_of_getElem? (i := 0) rfl)))
  have iK7 : ∀ w ∈ wsX70, w ∈ wsX7_digs := fun _ h => (List.mem_cons_of_mem _ (List.mem_append_right _ h))
  unfold wp_X7_digs at hq
  have J2 : ∀  (y2_3 : Int32) (z2_v_s : (Nat → Int32)) (H : Heap) (locs : List Loc) (ls : Array Slot), wp_X7_digs_2 v x1 x2  y2_3 z2_v_s Q → va_P (dC, dI) vwCl (cX7 cy a z2_v_s (X7_aside v) (X7_kept v) (X7_isKept v) (X7_saved v) (X7_savedMany v) (X7_text v) (X7_length v) (X7_thrown v) (X7_joint v) (X7_position v) (X7_isWrong v) (X7_isHollow v) (X7_sure v) (X7_away v) (X7_digested v)) H → va_D A (cX7 cy a z2_v_s (X7_aside v) (X7_kept v) (X7_isKept v) (X7_saved v) (X7_savedMany v) (X7_text v) (X7_length v) (X7_thrown v) (X7_joint v) (X7_position v) (X7_isWrong v) (X7_isHollow v) (X7_sure v) (X7_away v) (X7_digested v)) → va_S A s.heap H locs → lv_has ls 4 [(0, .ref (a 0)), (1, .int x1), (2, .int x2), (3, .int y2_3)] → W p l e (headSpec wsX7_digs ({ frames := 1, cells := 0, slots := 0, locals := 21 } : Room)).room s m ([.ref (a 0), .int x1, .int x2] : List Value).toArray below meth c H locs 0 0 (MQ below (q_X7_digs dC dI cy a v x1 x2 Q A) ([.ref (a 0), .int x1, .int x2] : List Value).toArray s 0 0 A) (F0 m 2 ls []) := by
    intro  y2_3 z2_v_s H locs ls hq hP hD hS hl
    obtain ⟨I2, μ2, h0, hs2⟩ := hq
    have key : ∀ (n : Nat) (y2_3 : Int32) (z2_v_s : (Nat → Int32)) (H : Heap) (locs : List Loc) (ls : Array Slot), I2 y2_3 z2_v_s → μ2 y2_3 z2_v_s < n → va_P (dC, dI) vwCl (cX7 cy a z2_v_s (X7_aside v) (X7_kept v) (X7_isKept v) (X7_saved v) (X7_savedMany v) (X7_text v) (X7_length v) (X7_thrown v) (X7_joint v) (X7_position v) (X7_isWrong v) (X7_isHollow v) (X7_sure v) (X7_away v) (X7_digested v)) H → va_D A (cX7 cy a z2_v_s (X7_aside v) (X7_kept v) (X7_isKept v) (X7_saved v) (X7_savedMany v) (X7_text v) (X7_length v) (X7_thrown v) (X7_joint v) (X7_position v) (X7_isWrong v) (X7_isHollow v) (X7_sure v) (X7_away v) (X7_digested v)) → va_S A s.heap H locs → lv_has ls 4 [(0, .ref (a 0)), (1, .int x1), (2, .int x2), (3, .int y2_3)] → W p l e (headSpec wsX7_digs ({ frames := 1, cells := 0, slots := 0, locals := 21 } : Room)).room s m ([.ref (a 0), .int x1, .int x2] : List Value).toArray below meth c H locs 0 0 (MQ below (q_X7_digs dC dI cy a v x1 x2 Q A) ([.ref (a 0), .int x1, .int x2] : List Value).toArray s 0 0 A) (F0 m 2 ls []) := by
      intro n
      induction n with
      | zero => intro y2_3 z2_v_s H locs ls _ hm; exact absurd hm (Nat.not_lt_zero _)
      | succ n ih =>
        intro y2_3 z2_v_s H locs ls hI hm hP hD hS hl
        have hq := hs2 y2_3 z2_v_s hI
        generalize hB2 : (fun (t0 : Int32) (t1 : (Nat → Int32)) => I2 t0 t1 ∧ μ2 t0 t1 < μ2 y2_3 z2_v_s) = B2 at hq
        have bk2 : ∀ (y2_3 : Int32) (z2_v_s : (Nat → Int32)) (H : Heap) (locs : List Loc) (ls : Array Slot), B2 y2_3 z2_v_s → va_P (dC, dI) vwCl (cX7 cy a z2_v_s (X7_aside v) (X7_kept v) (X7_isKept v) (X7_saved v) (X7_savedMany v) (X7_text v) (X7_length v) (X7_thrown v) (X7_joint v) (X7_position v) (X7_isWrong v) (X7_isHollow v) (X7_sure v) (X7_away v) (X7_digested v)) H → va_D A (cX7 cy a z2_v_s (X7_aside v) (X7_kept v) (X7_isKept v) (X7_saved v) (X7_savedMany v) (X7_text v) (X7_length v) (X7_thrown v) (X7_joint v) (X7_position v) (X7_isWrong v) (X7_isHollow v) (X7_sure v) (X7_away v) (X7_digested v)) → va_S A s.heap H locs → lv_has ls 4 [(0, .ref (a 0)), (1, .int x1), (2, .int x2), (3, .int y2_3)] → W p l e (headSpec wsX7_digs ({ frames := 1, cells := 0, slots := 0, locals := 21 } : Room)).room s m ([.ref (a 0), .int x1, .int x2] : List Value).toArray below meth c H locs 0 0 (MQ below (q_X7_digs dC dI cy a v x1 x2 Q A) ([.ref (a 0), .int x1, .int x2] : List Value).toArray s 0 0 A) (F0 m 2 ls []) := by
          intro y2_3 z2_v_s H locs ls h
          rw [← hB2] at h
          exact ih y2_3 z2_v_s H locs ls h.1 (Nat.lt_of_lt_of_le h.2 (Nat.le_of_lt_succ hm))
        unfold wb_X7_digs_2 at hq
        have J46 : ∀ (k46_0 : Int32) (k46_1 : Int32) (k46_2 : Int32) (H : Heap) (locs : List Loc) (ls : Array Slot), wp_X7_digs_46 v x1 x2 y2_3 z2_v_s B2 k46_0 k46_1 k46_2 Q → va_P (dC, dI) vwCl (cX7 cy a z2_v_s (X7_aside v) (X7_kept v) (X7_isKept v) (X7_saved v) (X7_savedMany v) (X7_text v) (X7_length v) (X7_thrown v) (X7_joint v) (X7_position v) (X7_isWrong v) (X7_isHollow v) (X7_sure v) (X7_away v) (X7_digested v)) H → va_D A (cX7 cy a z2_v_s (X7_aside v) (X7_kept v) (X7_isKept v) (X7_saved v) (X7_savedMany v) (X7_text v) (X7_length v) (X7_thrown v) (X7_joint v) (X7_position v) (X7_isWrong v) (X7_isHollow v) (X7_sure v) (X7_away v) (X7_digested v)) → va_S A s.heap H locs → lv_has ls 4 [(0, .ref (a 0)), (1, .int x1), (2, .int x2), (3, .int y2_3)] → W p l e (headSpec wsX7_digs ({ frames := 1, cells := 0, slots := 0, locals := 21 } : Room)).room s m ([.ref (a 0), .int x1, .int x2] : List Value).toArray below meth c H locs 0 0 (MQ below (q_X7_digs dC dI cy a v x1 x2 Q A) ([.ref (a 0), .int x1, .int x2] : List Value).toArray s 0 0 A) (F0 m 46 ls [.int k46_0, .int k46_1, .int k46_2, .ref (a 1)]) := by
          intro k46_0 k46_1 k46_2 H locs ls hq hP hD hS hl
          unfold wp_X7_digs_46 at hq
          refine lv_iadd hx hb dX7_digs_46 ?_
          obtain ⟨g1, hq⟩ := hq
          refine va_iast hx hb hK hP hD hS 1 0 rfl rfl g1 dX7_digs_47 (fun H locs hP hD hS => ?_)
          have hP : va_P (dC, dI) vwCl (cX7 cy a (upd z2_v_s k46_2.toNatClampNeg (k46_1 + k46_0)) (X7_aside v) (X7_kept v) (X7_isKept v) (X7_saved v) (X7_savedMany v) (X7_text v) (X7_length v) (X7_thrown v) (X7_joint v) (X7_position v) (X7_isWrong v) (X7_isHollow v) (X7_sure v) (X7_away v) (X7_digested v)) H := hP
          have hD : va_D A (cX7 cy a (upd z2_v_s k46_2.toNatClampNeg (k46_1 + k46_0)) (X7_aside v) (X7_kept v) (X7_isKept v) (X7_saved v) (X7_savedMany v) (X7_text v) (X7_length v) (X7_thrown v) (X7_joint v) (X7_position v) (X7_isWrong v) (X7_isHollow v) (X7_sure v) (X7_away v) (X7_digested v)) := hD
          refine lv_aload_n hx hb dX7_digs_48 rfl (lv_at hl 0 rfl) ?_
          refine va_get (D := (dC, dI)) (ci := 7) (v := .ref (a 1)) (C := RX7) (T := TX7) (N := 16) hx hb hts iK7 hown hK hP 0 rfl rfl 0 (by decide) lk0 (fun _ h9 => h9) rfl dX7_digs_49 ?_
          refine lv_bipush (v := 7) hx hb dX7_digs_52 (by decide) ?_
          refine lv_dup2_11 hx hb dX7_digs_54 rfl rfl ?_
          obtain ⟨g2, hq⟩ := hq
          refine va_iald hx hb hK hP 1 0 rfl rfl g2 dX7_digs_55 ?_
          refine lv_iconst (v := 1) hx hb dX7_digs_56 (by decide) ?_
          refine lv_iadd hx hb dX7_digs_57 ?_
          refine va_iast hx hb hK hP hD hS 1 0 rfl rfl g2 dX7_digs_58 (fun H locs hP hD hS => ?_)
          have hP : va_P (dC, dI) vwCl (cX7 cy a (upd (upd z2_v_s k46_2.toNatClampNeg (k46_1 + k46_0)) (7 : Int32).toNatClampNeg (((upd z2_v_s k46_2.toNatClampNeg (k46_1 + k46_0)) (7 : Int32).toNatClampNeg) + 1)) (X7_aside v) (X7_kept v) (X7_isKept v) (X7_saved v) (X7_savedMany v) (X7_text v) (X7_length v) (X7_thrown v) (X7_joint v) (X7_position v) (X7_isWrong v) (X7_isHollow v) (X7_sure v) (X7_away v) (X7_digested v)) H := hP
          have hD : va_D A (cX7 cy a (upd (upd z2_v_s k46_2.toNatClampNeg (k46_1 + k46_0)) (7 : Int32).toNatClampNeg (((upd z2_v_s k46_2.toNatClampNeg (k46_1 + k46_0)) (7 : Int32).toNatClampNeg) + 1)) (X7_aside v) (X7_kept v) (X7_isKept v) (X7_saved v) (X7_savedMany v) (X7_text v) (X7_length v) (X7_thrown v) (X7_joint v) (X7_position v) (X7_isWrong v) (X7_isHollow v) (X7_sure v) (X7_away v) (X7_digested v)) := hD
          refine lv_iinc (v := (y2_3 + 1)) (lv' := [(3, .int (y2_3 + 1)), (0, .ref (a 0)), (1, .int x1), (2, .int x2)]) hx hb dX7_digs_59 hl (k := 3) rfl rfl (by decide) rfl (fun ls hl => ?_)
          refine lv_goto (tgt := 2) hx hb dX7_digs_62 (by decide) ?_
          exact bk2 (y2_3 + 1) (upd (upd z2_v_s k46_2.toNatClampNeg (k46_1 + k46_0)) (7 : Int32).toNatClampNeg (((upd z2_v_s k46_2.toNatClampNeg (k46_1 + k46_0)) (7 : Int32).toNatClampNeg) + 1)) _ _ _ hq hP hD hS (lv_sub hl [1, 2, 3, 0] rfl)
        refine lv_iload_n hx hb dX7_digs_2 rfl (lv_at hl 3 rfl) ?_
        refine lv_iload_n hx hb dX7_digs_3 rfl (lv_at hl 2 rfl) ?_
        obtain ⟨hqA, hqB⟩ := hq
        refine lv_icmp_gt (tgt := 65) hx hb dX7_digs_4 (by decide) (fun c6 => ?_) (fun c6 => ?_)
        · have hq := hqA c6
          exact W.vret hx hb hr (fun t ht hW => ⟨⟨z2_v_s, rfl, hq, (xAt_of hP hK hD ht hW)⟩, hS.F ht⟩) hS.2.2 dX7_digs_65
        · have hq := hqB c6
          refine lv_aload_n hx hb dX7_digs_7 rfl (lv_at hl 0 rfl) ?_
          refine va_get (D := (dC, dI)) (ci := 7) (v := .ref (a 1)) (C := RX7) (T := TX7) (N := 16) hx hb hts iK7 hown hK hP 0 rfl rfl 0 (by decide) lk0 (fun _ h9 => h9) rfl dX7_digs_8 ?_
          refine lv_sipush (v := 448) hx hb dX7_digs_11 (by decide) ?_
          refine lv_aload_n hx hb dX7_digs_14 rfl (lv_at hl 0 rfl) ?_
          refine va_get (D := (dC, dI)) (ci := 7) (v := .ref (a 1)) (C := RX7) (T := TX7) (N := 16) hx hb hts iK7 hown hK hP 0 rfl rfl 0 (by decide) lk0 (fun _ h9 => h9) rfl dX7_digs_15 ?_
          refine lv_bipush (v := 7) hx hb dX7_digs_18 (by decide) ?_
          obtain ⟨g3, hq⟩ := hq
          refine va_iald hx hb hK hP 1 0 rfl rfl g3 dX7_digs_20 ?_
          refine lv_iadd hx hb dX7_digs_21 ?_
          refine lv_aload_n hx hb dX7_digs_22 rfl (lv_at hl 0 rfl) ?_
          refine va_get (D := (dC, dI)) (ci := 7) (v := .ref (a 1)) (C := RX7) (T := TX7) (N := 16) hx hb hts iK7 hown hK hP 0 rfl rfl 0 (by decide) lk0 (fun _ h9 => h9) rfl dX7_digs_23 ?_
          refine lv_iload_n hx hb dX7_digs_26 rfl (lv_at hl 1 rfl) ?_
          refine lv_bipush (v := 24) hx hb dX7_digs_27 (by decide) ?_
          refine lv_iload_n hx hb dX7_digs_29 rfl (lv_at hl 3 rfl) ?_
          refine lv_iadd hx hb dX7_digs_30 ?_
          have hFc := xfree_none hS hAe0
          refine va_calli (va_runS (As := [.int x1, .int (24 + y2_3)]) (rest := [.ref (a 1), .int (448 + (z2_v_s (7 : Int32).toNatClampNeg)), .ref (a 1)]) ⟨hx, hb, hml, hown, hts⟩ (c_X7_of l dC dI cy  _ x1 (24 + y2_3) _ hq) (va_cwS 2 hts gX7_digs_X7_of rfl rfl rfl (by decide +kernel) ⟨Nat.le_of_ble_eq_true rfl, Nat.le_of_ble_eq_true rfl⟩) ⟨xPre_blind, xPre_of xP_nil hK (xD_nil (A := A))⟩ rfl rfl hl.1 rfl (lv_room (Nat.le_of_ble_eq_true rfl)) dX7_digs_31 ⟨Nat.le_of_ble_eq_true rfl, Nat.le_of_ble_eq_true rfl⟩) hS (fun q _ h => hFc q h) hFc (fun r31 u9 t H locs ht hvm hq hB hz1 hk1 hS => ?_)
          have hP := xj_none hP hk1
          obtain ⟨g4, hq⟩ := hq
          refine va_iald hx hb hK hP 1 0 rfl rfl g4 dX7_digs_34 ?_
          refine lv_iload_n hx hb dX7_digs_35 rfl (lv_at hl 3 rfl) ?_
          refine lv_iload_n hx hb dX7_digs_36 rfl (lv_at hl 2 rfl) ?_
          obtain ⟨hqA, hqB⟩ := hq
          refine lv_icmp_ne (tgt := 45) hx hb dX7_digs_37 (by decide) (fun c5 => ?_) (fun c5 => ?_)
          · have hq := hqB c5
            refine lv_iconst (v := 0) hx hb dX7_digs_45 (by decide) ?_
            exact J46 0 (z2_v_s r31.toNatClampNeg) (448 + (z2_v_s (7 : Int32).toNatClampNeg))  _ _ _ hq hP hD hS (lv_sub hl [0, 1, 2, 3] rfl)
          · have hq := hqA c5
            refine lv_bipush (v := 64) hx hb dX7_digs_40 (by decide) ?_
            refine lv_goto (tgt := 46) hx hb dX7_digs_42 (by decide) ?_
            exact J46 64 (z2_v_s r31.toNatClampNeg) (448 + (z2_v_s (7 : Int32).toNatClampNeg))  _ _ _ hq hP hD hS (lv_sub hl [0, 1, 2, 3] rfl)
    exact key _ y2_3 z2_v_s H locs ls h0 (Nat.lt_succ_self _) hP hD hS hl
  refine lv_iconst (v := 0) hx hb dX7_digs_0 (by decide) ?_
  refine lv_istore_n (lv' := [(3, .int 0), (0, .ref (a 0)), (1, .int x1), (2, .int x2)]) hx hb dX7_digs_1 rfl hl (by decide) rfl (fun ls hl => ?_)
  exact J2  0 (X7_s v) _ _ _ hq hP hD hS (lv_sub hl [1, 2, 3, 0] rfl)
def wp_X7_beginsTrail (v : V_X7) (x1 : Int32) (Q : (Nat → Int32) → Prop) : Prop :=
  wp_X7_of x1 23 (fun r7 =>
  vp_in r7 1472 ∧ wp_X7_of x1 24 (fun r19 =>
  wp_X7_of x1 0 (fun r28 =>
  vp_in r28 1472 ∧ vp_in r19 1472 ∧ wp_X7_of x1 1 (fun r39 =>
  vp_in 6 1472 ∧ vp_in r39 1472 ∧ Q (upd (upd (upd (X7_s v) r7.toNatClampNeg 1) r19.toNatClampNeg ((upd (X7_s v) r7.toNatClampNeg 1) r28.toNatClampNeg)) r39.toNatClampNeg ((upd (upd (X7_s v) r7.toNatClampNeg 1) r19.toNatClampNeg ((upd (X7_s v) r7.toNatClampNeg 1) r28.toNatClampNeg)) (6 : Int32).toNatClampNeg))))))
def q_X7_beginsTrail (dC : Nat → ClassId) (dI : Nat → Nat → Nat) (cy : Nat → ClassId) (a : Nat → Nat) (v : V_X7) (x1 : Int32) (Q : (Nat → Int32) → Prop) (A : Nat → Prop) : Array Value → State → Outcome → State → Prop := va_Qv (fun (u : (Nat → Int32)) => Q u) (fun (u : (Nat → Int32)) t => xAt dC dI cy A (cX7 cy a u (X7_aside v) (X7_kept v) (X7_isKept v) (X7_saved v) (X7_savedMany v) (X7_text v) (X7_length v) (X7_thrown v) (X7_joint v) (X7_position v) (X7_isWrong v) (X7_isHollow v) (X7_sure v) (X7_away v) (X7_digested v)) t) A
set_option maxHeartbeats 4000000 in
set_option maxRecDepth 100000 in
theorem c_X7_beginsTrail (l : Launch) (dC : Nat → ClassId) (dI : Nat → Nat → Nat) (cy : Nat → ClassId) (a : Nat → Nat) (sz : Nat) (v : V_X7) (x1 : Int32) (Q : (Nat → Int32) → Prop) (hq : wp_X7_beginsTrail v x1 Q) : Met l yX7_beginsTrail wsX7_beginsTrail ({ frames := 1, cells := 0, slots := 0, locals := 21 } : Room) (va_Pc [.ref (a 0), .int x1] (xPre dC dI cy (wX7 cy a v) sz)) (q_X7_beginsTrail dC dI cy a v x1 Q (va_A (wX7 cy a v) sz)) 0 0 (va_A (wX7 cy a v) sz) := by
  refine Met.ofW (cc := cX7_beginsTrail) (maxL := 2) (ret := none) (by decide) rfl ?_
  intro p e s m args below meth c s₁ B hml hv
  obtain ⟨rfl, hsz, hP, hK, hD0⟩ := hv
  have hx := B.exec
  have hb := B.bytes
  have hr := B.returns
  have hts := atoms_spec (ws := wsX7_beginsTrail) B.pre
  have hown : s.vm.findClass RX7 = some m.cls := findClass_of_methodNamed B.named
  have hlocks := B.notSynchronized
  subst hsz
  have hD := hD0.self (sz := s.heap.size)
  generalize hAe : va_A (wX7 cy a v) s.heap.size = A at hD ⊢
  have hAe0 : ∀ q : Nat, s.heap.size ≤ q → A q := fun q h => by rw [← hAe]; exact Or.inr h
  have hS : va_S A s.heap s.heap [] := va_S.rf
  have hl := lv_entry ([.ref (a 0), .int x1]) (n := 2) (Nat.le_of_ble_eq_true rfl)
  rw [lg_entry_eq]
  generalize (lg_sl ([.ref (a 0), .int x1]) ++ List.replicate (2 - (lg_sl ([.ref (a 0), .int x1])).length) Slot.unset).toArray = ls at hl ⊢
  have hl : lv_has ls 2 [(0, .ref (a 0)), (1, .int x1)] := hl
  have lk0 := hts (Cond.fieldLink RX7 7 "MolesLawnModel" "s" "[I") (List.mem_cons_of_mem _ (List.mem_append_left _ (List.mem_of_getElem? (i := 0) rfl)))
  have iK7 : ∀ w ∈ wsX70, w ∈ wsX7_beginsTrail := fun _ h => (List.mem_cons_of_mem _ (List.mem_append_right _ h))
  unfold wp_X7_beginsTrail at hq
  refine lv_aload_n hx hb dX7_beginsTrail_0 rfl (lv_at hl 0 rfl) ?_
  refine va_get (D := (dC, dI)) (ci := 7) (v := .ref (a 1)) (C := RX7) (T := TX7) (N := 16) hx hb hts iK7 hown hK hP 0 rfl rfl 0 (by decide) lk0 (fun _ h9 => h9) rfl dX7_beginsTrail_1 ?_
  refine lv_iload_n hx hb dX7_beginsTrail_4 rfl (lv_at hl 1 rfl) ?_
  refine lv_bipush (v := 23) hx hb dX7_beginsTrail_5 (by decide) ?_
  have hFc := xfree_none hS hAe0
  refine va_calli (va_runS (As := [.int x1, .int 23]) (rest := [.ref (a 1)]) ⟨hx, hb, hml, hown, hts⟩ (c_X7_of l dC dI cy  _ x1 23 _ hq) (va_cwS 2 hts gX7_beginsTrail_X7_of rfl rfl rfl (by decide +kernel) ⟨Nat.le_of_ble_eq_true rfl, Nat.le_of_ble_eq_true rfl⟩) ⟨xPre_blind, xPre_of xP_nil hK (xD_nil (A := A))⟩ rfl rfl hl.1 rfl (lv_room (Nat.le_of_ble_eq_true rfl)) dX7_beginsTrail_7 ⟨Nat.le_of_ble_eq_true rfl, Nat.le_of_ble_eq_true rfl⟩) hS (fun q _ h => hFc q h) hFc (fun r7 u9 t H locs ht hvm hq hB hz1 hk1 hS => ?_)
  have hP := xj_none hP hk1
  refine lv_iconst (v := 1) hx hb dX7_beginsTrail_10 (by decide) ?_
  obtain ⟨g1, hq⟩ := hq
  refine va_iast hx hb hK hP hD hS 1 0 rfl rfl g1 dX7_beginsTrail_11 (fun H locs hP hD hS => ?_)
  have hP : va_P (dC, dI) vwCl (cX7 cy a (upd (X7_s v) r7.toNatClampNeg 1) (X7_aside v) (X7_kept v) (X7_isKept v) (X7_saved v) (X7_savedMany v) (X7_text v) (X7_length v) (X7_thrown v) (X7_joint v) (X7_position v) (X7_isWrong v) (X7_isHollow v) (X7_sure v) (X7_away v) (X7_digested v)) H := hP
  have hD : va_D A (cX7 cy a (upd (X7_s v) r7.toNatClampNeg 1) (X7_aside v) (X7_kept v) (X7_isKept v) (X7_saved v) (X7_savedMany v) (X7_text v) (X7_length v) (X7_thrown v) (X7_joint v) (X7_position v) (X7_isWrong v) (X7_isHollow v) (X7_sure v) (X7_away v) (X7_digested v)) := hD
  refine lv_aload_n hx hb dX7_beginsTrail_12 rfl (lv_at hl 0 rfl) ?_
  refine va_get (D := (dC, dI)) (ci := 7) (v := .ref (a 1)) (C := RX7) (T := TX7) (N := 16) hx hb hts iK7 hown hK hP 0 rfl rfl 0 (by decide) lk0 (fun _ h9 => h9) rfl dX7_beginsTrail_13 ?_
  refine lv_iload_n hx hb dX7_beginsTrail_16 rfl (lv_at hl 1 rfl) ?_
  refine lv_bipush (v := 24) hx hb dX7_beginsTrail_17 (by decide) ?_
  have hFc := xfree_none hS hAe0
  refine va_calli (va_runS (As := [.int x1, .int 24]) (rest := [.ref (a 1)]) ⟨hx, hb, hml, hown, hts⟩ (c_X7_of l dC dI cy  _ x1 24 _ hq) (va_cwS 2 hts gX7_beginsTrail_X7_of rfl rfl rfl (by decide +kernel) ⟨Nat.le_of_ble_eq_true rfl, Nat.le_of_ble_eq_true rfl⟩) ⟨xPre_blind, xPre_of xP_nil hK (xD_nil (A := A))⟩ rfl rfl hl.1 rfl (lv_room (Nat.le_of_ble_eq_true rfl)) dX7_beginsTrail_19 ⟨Nat.le_of_ble_eq_true rfl, Nat.le_of_ble_eq_true rfl⟩) hS (fun q _ h => hFc q h) hFc (fun r19 u9 t H locs ht hvm hq hB hz1 hk1 hS => ?_)
  have hP := xj_none hP hk1
  refine lv_aload_n hx hb dX7_beginsTrail_22 rfl (lv_at hl 0 rfl) ?_
  refine va_get (D := (dC, dI)) (ci := 7) (v := .ref (a 1)) (C := RX7) (T := TX7) (N := 16) hx hb hts iK7 hown hK hP 0 rfl rfl 0 (by decide) lk0 (fun _ h9 => h9) rfl dX7_beginsTrail_23 ?_
  refine lv_iload_n hx hb dX7_beginsTrail_26 rfl (lv_at hl 1 rfl) ?_
  refine lv_iconst (v := 0) hx hb dX7_beginsTrail_27 (by decide) ?_
  have hFc := xfree_none hS hAe0
  refine va_calli (va_runS (As := [.int x1, .int 0]) (rest := [.ref (a 1), .int r19, .ref (a 1)]) ⟨hx, hb, hml, hown, hts⟩ (c_X7_of l dC dI cy  _ x1 0 _ hq) (va_cwS 2 hts gX7_beginsTrail_X7_of rfl rfl rfl (by decide +kernel) ⟨Nat.le_of_ble_eq_true rfl, Nat.le_of_ble_eq_true rfl⟩) ⟨xPre_blind, xPre_of xP_nil hK (xD_nil (A := A))⟩ rfl rfl hl.1 rfl (lv_room (Nat.le_of_ble_eq_true rfl)) dX7_beginsTrail_28 ⟨Nat.le_of_ble_eq_true rfl, Nat.le_of_ble_eq_true rfl⟩) hS (fun q _ h => hFc q h) hFc (fun r28 u9 t H locs ht hvm hq hB hz1 hk1 hS => ?_)
  have hP := xj_none hP hk1
  obtain ⟨g2, hq⟩ := hq
  refine va_iald hx hb hK hP 1 0 rfl rfl g2 dX7_beginsTrail_31 ?_
  obtain ⟨g3, hq⟩ := hq
  refine va_iast hx hb hK hP hD hS 1 0 rfl rfl g3 dX7_beginsTrail_32 (fun H locs hP hD hS => ?_)
  have hP : va_P (dC, dI) vwCl (cX7 cy a (upd (upd (X7_s v) r7.toNatClampNeg 1) r19.toNatClampNeg ((upd (X7_s v) r7.toNatClampNeg 1) r28.toNatClampNeg)) (X7_aside v) (X7_kept v) (X7_isKept v) (X7_saved v) (X7_savedMany v) (X7_text v) (X7_length v) (X7_thrown v) (X7_joint v) (X7_position v) (X7_isWrong v) (X7_isHollow v) (X7_sure v) (X7_away v) (X7_digested v)) H := hP
  have hD : va_D A (cX7 cy a (upd (upd (X7_s v) r7.toNatClampNeg 1) r19.toNatClampNeg ((upd (X7_s v) r7.toNatClampNeg 1) r28.toNatClampNeg)) (X7_aside v) (X7_kept v) (X7_isKept v) (X7_saved v) (X7_savedMany v) (X7_text v) (X7_length v) (X7_thrown v) (X7_joint v) (X7_position v) (X7_isWrong v) (X7_isHollow v) (X7_sure v) (X7_away v) (X7_digested v)) := hD
  refine lv_aload_n hx hb dX7_beginsTrail_33 rfl (lv_at hl 0 rfl) ?_
  refine va_get (D := (dC, dI)) (ci := 7) (v := .ref (a 1)) (C := RX7) (T := TX7) (N := 16) hx hb hts iK7 hown hK hP 0 rfl rfl 0 (by decide) lk0 (fun _ h9 => h9) rfl dX7_beginsTrail_34 ?_
  refine lv_iload_n hx hb dX7_beginsTrail_37 rfl (lv_at hl 1 rfl) ?_
  refine lv_iconst (v := 1) hx hb dX7_beginsTrail_38 (by decide) ?_
  have hFc := xfree_none hS hAe0
  refine va_calli (va_runS (As := [.int x1, .int 1]) (rest := [.ref (a 1)]) ⟨hx, hb, hml, hown, hts⟩ (c_X7_of l dC dI cy  _ x1 1 _ hq) (va_cwS 2 hts gX7_beginsTrail_X7_of rfl rfl rfl (by decide +kernel) ⟨Nat.le_of_ble_eq_true rfl, Nat.le_of_ble_eq_true rfl⟩) ⟨xPre_blind, xPre_of xP_nil hK (xD_nil (A := A))⟩ rfl rfl hl.1 rfl (lv_room (Nat.le_of_ble_eq_true rfl)) dX7_beginsTrail_39 ⟨Nat.le_of_ble_eq_true rfl, Nat.le_of_ble_eq_true rfl⟩) hS (fun q _ h => hFc q h) hFc (fun r39 u9 t H locs ht hvm hq hB hz1 hk1 hS => ?_)
  have hP := xj_none hP hk1
  refine lv_aload_n hx hb dX7_beginsTrail_42 rfl (lv_at hl 0 rfl) ?_
  refine va_get (D := (dC, dI)) (ci := 7) (v := .ref (a 1)) (C := RX7) (T := TX7) (N := 16) hx hb hts iK7 hown hK hP 0 rfl rfl 0 (by decide) lk0 (fun _ h9 => h9) rfl dX7_beginsTrail_43 ?_
  refine lv_bipush (v := 6) hx hb dX7_beginsTrail_46 (by decide) ?_
  obtain ⟨g4, hq⟩ := hq
  refine va_iald hx hb hK hP 1 0 rfl rfl g4 dX7_beginsTrail_48 ?_
  obtain ⟨g5, hq⟩ := hq
  refine va_iast hx hb hK hP hD hS 1 0 rfl rfl g5 dX7_beginsTrail_49 (fun H locs hP hD hS => ?_)
  have hP : va_P (dC, dI) vwCl (cX7 cy a (upd (upd (upd (X7_s v) r7.toNatClampNeg 1) r19.toNatClampNeg ((upd (X7_s v) r7.toNatClampNeg 1) r28.toNatClampNeg)) r39.toNatClampNeg ((upd (upd (X7_s v) r7.toNatClampNeg 1) r19.toNatClampNeg ((upd (X7_s v) r7.toNatClampNeg 1) r28.toNatClampNeg)) (6 : Int32).toNatClampNeg)) (X7_aside v) (X7_kept v) (X7_isKept v) (X7_saved v) (X7_savedMany v) (X7_text v) (X7_length v) (X7_thrown v) (X7_joint v) (X7_position v) (X7_isWrong v) (X7_isHollow v) (X7_sure v) (X7_away v) (X7_digested v)) H := hP
  have hD : va_D A (cX7 cy a (upd (upd (upd (X7_s v) r7.toNatClampNeg 1) r19.toNatClampNeg ((upd (X7_s v) r7.toNatClampNeg 1) r28.toNatClampNeg)) r39.toNatClampNeg ((upd (upd (X7_s v) r7.toNatClampNeg 1) r19.toNatClampNeg ((upd (X7_s v) r7.toNatClampNeg 1) r28.toNatClampNeg)) (6 : Int32).toNatClampNeg)) (X7_aside v) (X7_kept v) (X7_isKept v) (X7_saved v) (X7_savedMany v) (X7_text v) (X7_length v) (X7_thrown v) (X7_joint v) (X7_position v) (X7_isWrong v) (X7_isHollow v) (X7_sure v) (X7_away v) (X7_digested v)) := hD
  exact W.vret hx hb hr (fun t ht hW => ⟨⟨(upd (upd (upd (X7_s v) r7.toNatClampNeg 1) r19.toNatClampNeg ((upd (X7_s v) r7.toNatClampNeg 1) r28.toNatClampNeg)) r39.toNatClampNeg ((upd (upd (X7_s v) r7.toNatClampNeg 1) r19.toNatClampNeg ((upd (X7_s v) r7.toNatClampNeg 1) r28.toNatClampNeg)) (6 : Int32).toNatClampNeg)), rfl, hq, (xAt_of hP hK hD ht hW)⟩, hS.F ht⟩) hS.2.2 dX7_beginsTrail_50
def wb_X7_comesUp_83 (v : V_X7) (x1 : Int32) (y27_2 : Int32) (z27_v_s : (Nat → Int32)) (B27 : Int32 → (Nat → Int32) → Prop) (y83_4 : Int32) (y83_5 : Int32) (z83_v_s : (Nat → Int32)) (B83 : Int32 → (Nat → Int32) → Prop) (Q : (Nat → Int32) → Prop) : Prop :=
  wp_X7_of y27_2 23 (fun r92 =>
  vp_in r92 1472 ∧ (((z83_v_s r92.toNatClampNeg) ≤ y83_5 → B27 (y27_2 + 1) z83_v_s) ∧
  (¬ (z83_v_s r92.toNatClampNeg) ≤ y83_5 → wp_X7_of y27_2 (24 + y83_5) (fun r109 =>
  wp_X7_of y27_2 ((24 + y83_5) + y83_4) (fun r125 =>
  vp_in r125 1472 ∧ vp_in r109 1472 ∧ B83 (y83_5 + 1) (upd z83_v_s r109.toNatClampNeg (z83_v_s r125.toNatClampNeg)))))))
def wp_X7_comesUp_83 (v : V_X7) (x1 : Int32) (y27_2 : Int32) (z27_v_s : (Nat → Int32)) (B27 : Int32 → (Nat → Int32) → Prop) (y83_4 : Int32) (y83_5 : Int32) (z83_v_s : (Nat → Int32)) (Q : (Nat → Int32) → Prop) : Prop :=
  ∃ (I : Int32 → (Nat → Int32) → Prop) (μ : Int32 → (Nat → Int32) → Nat), I y83_5 z83_v_s ∧ ∀ (s0 : Int32) (s1 : (Nat → Int32)), I s0 s1 → wb_X7_comesUp_83 v x1 y27_2 z27_v_s B27 y83_4 s0 s1 (fun t0 t1 => I t0 t1 ∧ μ t0 t1 < μ s0 s1) Q
def wb_X7_comesUp_27 (v : V_X7) (x1 : Int32)  (y27_2 : Int32) (z27_v_s : (Nat → Int32)) (B27 : Int32 → (Nat → Int32) → Prop) (Q : (Nat → Int32) → Prop) : Prop :=
  vp_in 1 1472 ∧ (((z27_v_s (1 : Int32).toNatClampNeg) ≤ y27_2 → Q z27_v_s) ∧
  (¬ (z27_v_s (1 : Int32).toNatClampNeg) ≤ y27_2 → wp_X7_inTrail (X7_s0 v z27_v_s) y27_2 x1 0 (fun r41 =>
  ((r41 ≤ 0 → B27 (y27_2 + 1) z27_v_s) ∧
  (¬ r41 ≤ 0 → wp_X7_inTrail (X7_s0 v z27_v_s) y27_2 x1 1 (fun r53 =>
  wp_X7_digs (X7_s0 v z27_v_s) y27_2 r41 (fun z61_v_s =>
  wp_X7_of y27_2 23 (fun r71 =>
  vp_in r71 1472 ∧ wp_X7_comesUp_83 v x1 y27_2 z27_v_s B27 r53 0 (upd z61_v_s r71.toNatClampNeg ((z61_v_s r71.toNatClampNeg) - r53)) Q))))))))
def wp_X7_comesUp_27 (v : V_X7) (x1 : Int32)  (y27_2 : Int32) (z27_v_s : (Nat → Int32)) (Q : (Nat → Int32) → Prop) : Prop :=
  ∃ (I : Int32 → (Nat → Int32) → Prop) (μ : Int32 → (Nat → Int32) → Nat), I y27_2 z27_v_s ∧ ∀ (s0 : Int32) (s1 : (Nat → Int32)), I s0 s1 → wb_X7_comesUp_27 v x1  s0 s1 (fun t0 t1 => I t0 t1 ∧ μ t0 t1 < μ s0 s1) Q
def wp_X7_comesUp (v : V_X7) (x1 : Int32) (Q : (Nat → Int32) → Prop) : Prop :=
  vp_in (8 + x1) 1472 ∧ vp_in 4 1472 ∧ wp_X7_splits (X7_s0 v (upd (upd (X7_s v) (8 + x1).toNatClampNeg 1) (4 : Int32).toNatClampNeg (((upd (X7_s v) (8 + x1).toNatClampNeg 1) (4 : Int32).toNatClampNeg) + 1))) x1 (fun z22_v_s =>
  wp_X7_comesUp_27 v x1  0 z22_v_s Q)
def q_X7_comesUp (dC : Nat → ClassId) (dI : Nat → Nat → Nat) (cy : Nat → ClassId) (a : Nat → Nat) (v : V_X7) (x1 : Int32) (Q : (Nat → Int32) → Prop) (A : Nat → Prop) : Array Value → State → Outcome → State → Prop := va_Qv (fun (u : (Nat → Int32)) => Q u) (fun (u : (Nat → Int32)) t => xAt dC dI cy A (cX7 cy a u (X7_aside v) (X7_kept v) (X7_isKept v) (X7_saved v) (X7_savedMany v) (X7_text v) (X7_length v) (X7_thrown v) (X7_joint v) (X7_position v) (X7_isWrong v) (X7_isHollow v) (X7_sure v) (X7_away v) (X7_digested v)) t) A
set_option maxHeartbeats 4000000 in
set_option maxRecDepth 100000 in
theorem c_X7_comesUp (l : Launch) (dC : Nat → ClassId) (dI : Nat → Nat → Nat) (cy : Nat → ClassId) (a : Nat → Nat) (sz : Nat) (v : V_X7) (x1 : Int32) (Q : (Nat → Int32) → Prop) (hq : wp_X7_comesUp v x1 Q) : Met l yX7_comesUp wsX7_comesUp ({ frames := 3, cells := 0, slots := 0, locals := 72 } : Room) (va_Pc [.ref (a 0), .int x1] (xPre dC dI cy (wX7 cy a v) sz)) (q_X7_comesUp dC dI cy a v x1 Q (va_A (wX7 cy a v) sz)) 0 0 (va_A (wX7 cy a v) sz) := by
  refine Met.ofW (cc := cX7_comesUp) (maxL := 6) (ret := none) (by decide) rfl ?_
  intro p e s m args below meth c s₁ B hml hv
  obtain ⟨rfl, hsz, hP, hK, hD0⟩ := hv
  have hx := B.exec
  have hb := B.bytes
  have hr := B.returns
  have hts := atoms_spec (ws := wsX7_comesUp) B.pre
  have hown : s.vm.findClass RX7 = some m.cls := findClass_of_methodNamed B.named
  have hlocks := B.notSynchronized
  subst hsz
  have hD := hD0.self (sz := s.heap.size)
  generalize hAe : va_A (wX7 cy a v) s.heap.size = A at hD ⊢
  have hAe0 : ∀ q : Nat, s.heap.size ≤ q → A q := fun q h => by rw [← hAe]; exact Or.inr h
  have hS : va_S A s.heap s.heap [] := va_S.rf
  have hl := lv_entry ([.ref (a 0), .int x1]) (n := 6) (Nat.le_of_ble_eq_true rfl)
  rw [lg_entry_eq]
  generalize (lg_sl ([.ref (a 0), .int x1]) ++ List.replicate (6 - (lg_sl ([.ref (a 0), .int x1])).length) Slot.unset).toArray = ls at hl ⊢
  have hl : lv_has ls 6 [(0, .ref (a 0)), (1, .int x1)] := hl
  have lk0 := hts (Cond.fieldLink RX7 7 "MolesLawnModel" "s" "[I") (List.mem_cons_of_mem _ (List.mem_append_left _ (List.mem_append_left _ (List.mem_of_getElem? (i := 0) rfl))))
  have iK7 : ∀ w ∈ wsX70, w ∈ wsX7_comesUp := fun _ h => (List.mem_cons_of_mem _ (List.mem_append_right _ h))
  unfold wp_X7_comesUp at hq
  have J27 : ∀  (y27_2 : Int32) (z27_v_s : (Nat → Int32)) (H : Heap) (locs : List Loc) (ls : Array Slot), wp_X7_comesUp_27 v x1  y27_2 z27_v_s Q → va_P (dC, dI) vwCl (cX7 cy a z27_v_s (X7_aside v) (X7_kept v) (X7_isKept v) (X7_saved v) (X7_savedMany v) (X7_text v) (X7_length v) (X7_thrown v) (X7_joint v) (X7_position v) (X7_isWrong v) (X7_isHollow v) (X7_sure v) (X7_away v) (X7_digested v)) H → va_D A (cX7 cy a z27_v_s (X7_aside v) (X7_kept v) (X7_isKept v) (X7_saved v) (X7_savedMany v) (X7_text v) (X7_length v) (X7_thrown v) (X7_joint v) (X7_position v) (X7_isWrong v) (X7_isHollow v) (X7_sure v) (X7_away v) (X7_digested v)) → va_S A s.heap H locs → lv_has ls 6 [(0, .ref (a 0)), (1, .int x1), (2, .int y27_2)] → W p l e (headSpec wsX7_comesUp ({ frames := 3, cells := 0, slots := 0, locals := 72 } : Room)).room s m ([.ref (a 0), .int x1] : List Value).toArray below meth c H locs 0 0 (MQ below (q_X7_comesUp dC dI cy a v x1 Q A) ([.ref (a 0), .int x1] : List Value).toArray s 0 0 A) (F0 m 27 ls []) := by
    intro  y27_2 z27_v_s H locs ls hq hP hD hS hl
    obtain ⟨I27, μ27, h0, hs27⟩ := hq
    have key : ∀ (n : Nat) (y27_2 : Int32) (z27_v_s : (Nat → Int32)) (H : Heap) (locs : List Loc) (ls : Array Slot), I27 y27_2 z27_v_s → μ27 y27_2 z27_v_s < n → va_P (dC, dI) vwCl (cX7 cy a z27_v_s (X7_aside v) (X7_kept v) (X7_isKept v) (X7_saved v) (X7_savedMany v) (X7_text v) (X7_length v) (X7_thrown v) (X7_joint v) (X7_position v) (X7_isWrong v) (X7_isHollow v) (X7_sure v) (X7_away v) (X7_digested v)) H → va_D A (cX7 cy a z27_v_s (X7_aside v) (X7_kept v) (X7_isKept v) (X7_saved v) (X7_savedMany v) (X7_text v) (X7_length v) (X7_thrown v) (X7_joint v) (X7_position v) (X7_isWrong v) (X7_isHollow v) (X7_sure v) (X7_away v) (X7_digested v)) → va_S A s.heap H locs → lv_has ls 6 [(0, .ref (a 0)), (1, .int x1), (2, .int y27_2)] → W p l e (headSpec wsX7_comesUp ({ frames := 3, cells := 0, slots := 0, locals := 72 } : Room)).room s m ([.ref (a 0), .int x1] : List Value).toArray below meth c H locs 0 0 (MQ below (q_X7_comesUp dC dI cy a v x1 Q A) ([.ref (a 0), .int x1] : List Value).toArray s 0 0 A) (F0 m 27 ls []) := by
      intro n
      induction n with
      | zero => intro y27_2 z27_v_s H locs ls _ hm; exact absurd hm (Nat.not_lt_zero _)
      | succ n ih =>
        intro y27_2 z27_v_s H locs ls hI hm hP hD hS hl
        have hq := hs27 y27_2 z27_v_s hI
        generalize hB27 : (fun (t0 : Int32) (t1 : (Nat → Int32)) => I27 t0 t1 ∧ μ27 t0 t1 < μ27 y27_2 z27_v_s) = B27 at hq
        have bk27 : ∀ (y27_2 : Int32) (z27_v_s : (Nat → Int32)) (H : Heap) (locs : List Loc) (ls : Array Slot), B27 y27_2 z27_v_s → va_P (dC, dI) vwCl (cX7 cy a z27_v_s (X7_aside v) (X7_kept v) (X7_isKept v) (X7_saved v) (X7_savedMany v) (X7_text v) (X7_length v) (X7_thrown v) (X7_joint v) (X7_position v) (X7_isWrong v) (X7_isHollow v) (X7_sure v) (X7_away v) (X7_digested v)) H → va_D A (cX7 cy a z27_v_s (X7_aside v) (X7_kept v) (X7_isKept v) (X7_saved v) (X7_savedMany v) (X7_text v) (X7_length v) (X7_thrown v) (X7_joint v) (X7_position v) (X7_isWrong v) (X7_isHollow v) (X7_sure v) (X7_away v) (X7_digested v)) → va_S A s.heap H locs → lv_has ls 6 [(0, .ref (a 0)), (1, .int x1), (2, .int y27_2)] → W p l e (headSpec wsX7_comesUp ({ frames := 3, cells := 0, slots := 0, locals := 72 } : Room)).room s m ([.ref (a 0), .int x1] : List Value).toArray below meth c H locs 0 0 (MQ below (q_X7_comesUp dC dI cy a v x1 Q A) ([.ref (a 0), .int x1] : List Value).toArray s 0 0 A) (F0 m 27 ls []) := by
          intro y27_2 z27_v_s H locs ls h
          rw [← hB27] at h
          exact ih y27_2 z27_v_s H locs ls h.1 (Nat.lt_of_lt_of_le h.2 (Nat.le_of_lt_succ hm))
        unfold wb_X7_comesUp_27 at hq
        have J83 : ∀ (y83_4 : Int32) (y83_5 : Int32) (z83_v_s : (Nat → Int32)) (H : Heap) (locs : List Loc) (ls : Array Slot), wp_X7_comesUp_83 v x1 y27_2 z27_v_s B27 y83_4 y83_5 z83_v_s Q → va_P (dC, dI) vwCl (cX7 cy a z83_v_s (X7_aside v) (X7_kept v) (X7_isKept v) (X7_saved v) (X7_savedMany v) (X7_text v) (X7_length v) (X7_thrown v) (X7_joint v) (X7_position v) (X7_isWrong v) (X7_isHollow v) (X7_sure v) (X7_away v) (X7_digested v)) H → va_D A (cX7 cy a z83_v_s (X7_aside v) (X7_kept v) (X7_isKept v) (X7_saved v) (X7_savedMany v) (X7_text v) (X7_length v) (X7_thrown v) (X7_joint v) (X7_position v) (X7_isWrong v) (X7_isHollow v) (X7_sure v) (X7_away v) (X7_digested v)) → va_S A s.heap H locs → lv_has ls 6 [(0, .ref (a 0)), (1, .int x1), (2, .int y27_2), (4, .int y83_4), (5, .int y83_5)] → W p l e (headSpec wsX7_comesUp ({ frames := 3, cells := 0, slots := 0, locals := 72 } : Room)).room s m ([.ref (a 0), .int x1] : List Value).toArray below meth c H locs 0 0 (MQ below (q_X7_comesUp dC dI cy a v x1 Q A) ([.ref (a 0), .int x1] : List Value).toArray s 0 0 A) (F0 m 83 ls []) := by
          intro y83_4 y83_5 z83_v_s H locs ls hq hP hD hS hl
          obtain ⟨I83, μ83, h0, hs83⟩ := hq
          have key : ∀ (n : Nat) (y83_5 : Int32) (z83_v_s : (Nat → Int32)) (H : Heap) (locs : List Loc) (ls : Array Slot), I83 y83_5 z83_v_s → μ83 y83_5 z83_v_s < n → va_P (dC, dI) vwCl (cX7 cy a z83_v_s (X7_aside v) (X7_kept v) (X7_isKept v) (X7_saved v) (X7_savedMany v) (X7_text v) (X7_length v) (X7_thrown v) (X7_joint v) (X7_position v) (X7_isWrong v) (X7_isHollow v) (X7_sure v) (X7_away v) (X7_digested v)) H → va_D A (cX7 cy a z83_v_s (X7_aside v) (X7_kept v) (X7_isKept v) (X7_saved v) (X7_savedMany v) (X7_text v) (X7_length v) (X7_thrown v) (X7_joint v) (X7_position v) (X7_isWrong v) (X7_isHollow v) (X7_sure v) (X7_away v) (X7_digested v)) → va_S A s.heap H locs → lv_has ls 6 [(0, .ref (a 0)), (1, .int x1), (2, .int y27_2), (4, .int y83_4), (5, .int y83_5)] → W p l e (headSpec wsX7_comesUp ({ frames := 3, cells := 0, slots := 0, locals := 72 } : Room)).room s m ([.ref (a 0), .int x1] : List Value).toArray below meth c H locs 0 0 (MQ below (q_X7_comesUp dC dI cy a v x1 Q A) ([.ref (a 0), .int x1] : List Value).toArray s 0 0 A) (F0 m 83 ls []) := by
            intro n
            induction n with
            | zero => intro y83_5 z83_v_s H locs ls _ hm; exact absurd hm (Nat.not_lt_zero _)
            | succ n ih =>
              intro y83_5 z83_v_s H locs ls hI hm hP hD hS hl
              have hq := hs83 y83_5 z83_v_s hI
              generalize hB83 : (fun (t0 : Int32) (t1 : (Nat → Int32)) => I83 t0 t1 ∧ μ83 t0 t1 < μ83 y83_5 z83_v_s) = B83 at hq
              have bk83 : ∀ (y83_5 : Int32) (z83_v_s : (Nat → Int32)) (H : Heap) (locs : List Loc) (ls : Array Slot), B83 y83_5 z83_v_s → va_P (dC, dI) vwCl (cX7 cy a z83_v_s (X7_aside v) (X7_kept v) (X7_isKept v) (X7_saved v) (X7_savedMany v) (X7_text v) (X7_length v) (X7_thrown v) (X7_joint v) (X7_position v) (X7_isWrong v) (X7_isHollow v) (X7_sure v) (X7_away v) (X7_digested v)) H → va_D A (cX7 cy a z83_v_s (X7_aside v) (X7_kept v) (X7_isKept v) (X7_saved v) (X7_savedMany v) (X7_text v) (X7_length v) (X7_thrown v) (X7_joint v) (X7_position v) (X7_isWrong v) (X7_isHollow v) (X7_sure v) (X7_away v) (X7_digested v)) → va_S A s.heap H locs → lv_has ls 6 [(0, .ref (a 0)), (1, .int x1), (2, .int y27_2), (4, .int y83_4), (5, .int y83_5)] → W p l e (headSpec wsX7_comesUp ({ frames := 3, cells := 0, slots := 0, locals := 72 } : Room)).room s m ([.ref (a 0), .int x1] : List Value).toArray below meth c H locs 0 0 (MQ below (q_X7_comesUp dC dI cy a v x1 Q A) ([.ref (a 0), .int x1] : List Value).toArray s 0 0 A) (F0 m 83 ls []) := by
                intro y83_5 z83_v_s H locs ls h
                rw [← hB83] at h
                exact ih y83_5 z83_v_s H locs ls h.1 (Nat.lt_of_lt_of_le h.2 (Nat.le_of_lt_succ hm))
              unfold wb_X7_comesUp_83 at hq
              refine lv_iload hx hb dX7_comesUp_83 (lv_at hl 4 rfl) ?_
              refine lv_aload_n hx hb dX7_comesUp_85 rfl (lv_at hl 0 rfl) ?_
              refine va_get (D := (dC, dI)) (ci := 7) (v := .ref (a 1)) (C := RX7) (T := TX7) (N := 16) hx hb hts iK7 hown hK hP 0 rfl rfl 0 (by decide) lk0 (fun _ h9 => h9) rfl dX7_comesUp_86 ?_
              refine lv_iload_n hx hb dX7_comesUp_89 rfl (lv_at hl 2 rfl) ?_
              refine lv_bipush (v := 23) hx hb dX7_comesUp_90 (by decide) ?_
              have hFc := xfree_none hS hAe0
              refine va_calli (va_runS (As := [.int y27_2, .int 23]) (rest := [.ref (a 1), .int y83_5]) ⟨hx, hb, hml, hown, hts⟩ (c_X7_of l dC dI cy  _ y27_2 23 _ hq) (va_cwS 2 hts gX7_comesUp_X7_of rfl rfl rfl (by decide +kernel) ⟨Nat.le_of_ble_eq_true rfl, Nat.le_of_ble_eq_true rfl⟩) ⟨xPre_blind, xPre_of xP_nil hK (xD_nil (A := A))⟩ rfl rfl hl.1 rfl (lv_room (Nat.le_of_ble_eq_true rfl)) dX7_comesUp_92 ⟨Nat.le_of_ble_eq_true rfl, Nat.le_of_ble_eq_true rfl⟩) hS (fun q _ h => hFc q h) hFc (fun r92 u9 t H locs ht hvm hq hB hz1 hk1 hS => ?_)
              have hP := xj_none hP hk1
              obtain ⟨g1, hq⟩ := hq
              refine va_iald hx hb hK hP 1 0 rfl rfl g1 dX7_comesUp_95 ?_
              obtain ⟨hqA, hqB⟩ := hq
              refine lv_icmp_ge (tgt := 136) hx hb dX7_comesUp_96 (by decide) (fun c4 => ?_) (fun c4 => ?_)
              · have hq := hqA c4
                refine lv_iinc (v := (y27_2 + 1)) (lv' := [(2, .int (y27_2 + 1)), (0, .ref (a 0)), (1, .int x1), (4, .int y83_4), (5, .int y83_5)]) hx hb dX7_comesUp_136 hl (k := 2) rfl rfl (by decide) rfl (fun ls hl => ?_)
                refine lv_goto (tgt := 27) hx hb dX7_comesUp_139 (by decide) ?_
                exact bk27 (y27_2 + 1) z83_v_s _ _ _ hq hP hD hS (lv_sub hl [1, 2, 0] rfl)
              · have hq := hqB c4
                refine lv_aload_n hx hb dX7_comesUp_99 rfl (lv_at hl 0 rfl) ?_
                refine va_get (D := (dC, dI)) (ci := 7) (v := .ref (a 1)) (C := RX7) (T := TX7) (N := 16) hx hb hts iK7 hown hK hP 0 rfl rfl 0 (by decide) lk0 (fun _ h9 => h9) rfl dX7_comesUp_100 ?_
                refine lv_iload_n hx hb dX7_comesUp_103 rfl (lv_at hl 2 rfl) ?_
                refine lv_bipush (v := 24) hx hb dX7_comesUp_104 (by decide) ?_
                refine lv_iload hx hb dX7_comesUp_106 (lv_at hl 4 rfl) ?_
                refine lv_iadd hx hb dX7_comesUp_108 ?_
                have hFc := xfree_none hS hAe0
                refine va_calli (va_runS (As := [.int y27_2, .int (24 + y83_5)]) (rest := [.ref (a 1)]) ⟨hx, hb, hml, hown, hts⟩ (c_X7_of l dC dI cy  _ y27_2 (24 + y83_5) _ hq) (va_cwS 2 hts gX7_comesUp_X7_of rfl rfl rfl (by decide +kernel) ⟨Nat.le_of_ble_eq_true rfl, Nat.le_of_ble_eq_true rfl⟩) ⟨xPre_blind, xPre_of xP_nil hK (xD_nil (A := A))⟩ rfl rfl hl.1 rfl (lv_room (Nat.le_of_ble_eq_true rfl)) dX7_comesUp_109 ⟨Nat.le_of_ble_eq_true rfl, Nat.le_of_ble_eq_true rfl⟩) hS (fun q _ h => hFc q h) hFc (fun r109 u9 t H locs ht hvm hq hB hz1 hk1 hS => ?_)
                have hP := xj_none hP hk1
                refine lv_aload_n hx hb dX7_comesUp_112 rfl (lv_at hl 0 rfl) ?_
                refine va_get (D := (dC, dI)) (ci := 7) (v := .ref (a 1)) (C := RX7) (T := TX7) (N := 16) hx hb hts iK7 hown hK hP 0 rfl rfl 0 (by decide) lk0 (fun _ h9 => h9) rfl dX7_comesUp_113 ?_
                refine lv_iload_n hx hb dX7_comesUp_116 rfl (lv_at hl 2 rfl) ?_
                refine lv_bipush (v := 24) hx hb dX7_comesUp_117 (by decide) ?_
                refine lv_iload hx hb dX7_comesUp_119 (lv_at hl 4 rfl) ?_
                refine lv_iadd hx hb dX7_comesUp_121 ?_
                refine lv_iload hx hb dX7_comesUp_122 (lv_at hl 3 rfl) ?_
                refine lv_iadd hx hb dX7_comesUp_124 ?_
                have hFc := xfree_none hS hAe0
                refine va_calli (va_runS (As := [.int y27_2, .int ((24 + y83_5) + y83_4)]) (rest := [.ref (a 1), .int r109, .ref (a 1)]) ⟨hx, hb, hml, hown, hts⟩ (c_X7_of l dC dI cy  _ y27_2 ((24 + y83_5) + y83_4) _ hq) (va_cwS 2 hts gX7_comesUp_X7_of rfl rfl rfl (by decide +kernel) ⟨Nat.le_of_ble_eq_true rfl, Nat.le_of_ble_eq_true rfl⟩) ⟨xPre_blind, xPre_of xP_nil hK (xD_nil (A := A))⟩ rfl rfl hl.1 rfl (lv_room (Nat.le_of_ble_eq_true rfl)) dX7_comesUp_125 ⟨Nat.le_of_ble_eq_true rfl, Nat.le_of_ble_eq_true rfl⟩) hS (fun q _ h => hFc q h) hFc (fun r125 u9 t H locs ht hvm hq hB hz1 hk1 hS => ?_)
                have hP := xj_none hP hk1
                obtain ⟨g2, hq⟩ := hq
                refine va_iald hx hb hK hP 1 0 rfl rfl g2 dX7_comesUp_128 ?_
                obtain ⟨g3, hq⟩ := hq
                refine va_iast hx hb hK hP hD hS 1 0 rfl rfl g3 dX7_comesUp_129 (fun H locs hP hD hS => ?_)
                have hP : va_P (dC, dI) vwCl (cX7 cy a (upd z83_v_s r109.toNatClampNeg (z83_v_s r125.toNatClampNeg)) (X7_aside v) (X7_kept v) (X7_isKept v) (X7_saved v) (X7_savedMany v) (X7_text v) (X7_length v) (X7_thrown v) (X7_joint v) (X7_position v) (X7_isWrong v) (X7_isHollow v) (X7_sure v) (X7_away v) (X7_digested v)) H := hP
                have hD : va_D A (cX7 cy a (upd z83_v_s r109.toNatClampNeg (z83_v_s r125.toNatClampNeg)) (X7_aside v) (X7_kept v) (X7_isKept v) (X7_saved v) (X7_savedMany v) (X7_text v) (X7_length v) (X7_thrown v) (X7_joint v) (X7_position v) (X7_isWrong v) (X7_isHollow v) (X7_sure v) (X7_away v) (X7_digested v)) := hD
                refine lv_iinc (v := (y83_5 + 1)) (lv' := [(5, .int (y83_5 + 1)), (0, .ref (a 0)), (1, .int x1), (2, .int y27_2), (4, .int y83_4)]) hx hb dX7_comesUp_130 hl (k := 4) rfl rfl (by decide) rfl (fun ls hl => ?_)
                refine lv_goto (tgt := 83) hx hb dX7_comesUp_133 (by decide) ?_
                exact bk83 (y83_5 + 1) (upd z83_v_s r109.toNatClampNeg (z83_v_s r125.toNatClampNeg)) _ _ _ hq hP hD hS (lv_sub hl [1, 2, 3, 4, 0] rfl)
          exact key _ y83_5 z83_v_s H locs ls h0 (Nat.lt_succ_self _) hP hD hS hl
        refine lv_iload_n hx hb dX7_comesUp_27 rfl (lv_at hl 2 rfl) ?_
        refine lv_aload_n hx hb dX7_comesUp_28 rfl (lv_at hl 0 rfl) ?_
        refine va_get (D := (dC, dI)) (ci := 7) (v := .ref (a 1)) (C := RX7) (T := TX7) (N := 16) hx hb hts iK7 hown hK hP 0 rfl rfl 0 (by decide) lk0 (fun _ h9 => h9) rfl dX7_comesUp_29 ?_
        refine lv_iconst (v := 1) hx hb dX7_comesUp_32 (by decide) ?_
        obtain ⟨g5, hq⟩ := hq
        refine va_iald hx hb hK hP 1 0 rfl rfl g5 dX7_comesUp_33 ?_
        obtain ⟨hqA, hqB⟩ := hq
        refine lv_icmp_ge (tgt := 142) hx hb dX7_comesUp_34 (by decide) (fun c8 => ?_) (fun c8 => ?_)
        · have hq := hqA c8
          exact W.vret hx hb hr (fun t ht hW => ⟨⟨z27_v_s, rfl, hq, (xAt_of hP hK hD ht hW)⟩, hS.F ht⟩) hS.2.2 dX7_comesUp_142
        · have hq := hqB c8
          refine lv_aload_n hx hb dX7_comesUp_37 rfl (lv_at hl 0 rfl) ?_
          refine lv_iload_n hx hb dX7_comesUp_38 rfl (lv_at hl 2 rfl) ?_
          refine lv_iload_n hx hb dX7_comesUp_39 rfl (lv_at hl 1 rfl) ?_
          refine lv_iconst (v := 0) hx hb dX7_comesUp_40 (by decide) ?_
          have hFc := xfree_same hS hAe0 (ws := (cX7 cy a z27_v_s (X7_aside v) (X7_kept v) (X7_isKept v) (X7_saved v) (X7_savedMany v) (X7_text v) (X7_length v) (X7_thrown v) (X7_joint v) (X7_position v) (X7_isWrong v) (X7_isHollow v) (X7_sure v) (X7_away v) (X7_digested v))) hD
          refine va_calli (va_runV (As := [.int y27_2, .int x1, .int 0]) (rest := []) ⟨hx, hb, hml, hown, hts⟩ (c_X7_inTrail l dC dI cy a _ (X7_s0 v z27_v_s) y27_2 x1 0 _ hq) (cwV 3 hts gX7_comesUp_X7_inTrail rfl rfl rfl (by decide +kernel) ⟨Nat.le_of_ble_eq_true rfl, Nat.le_of_ble_eq_true rfl⟩) ⟨xPre_blind, va_recv hK hP (ci := 7) (q0 := 0) rfl rfl, xPre_of hP hK hD⟩ rfl rfl hl.1 rfl (lv_room (Nat.le_of_ble_eq_true rfl)) dX7_comesUp_41 ⟨Nat.le_of_ble_eq_true rfl, Nat.le_of_ble_eq_true rfl⟩) hS (fun q _ h => hFc q h) hFc (fun r41 u9 t H locs ht hvm hq hB hz1 hk1 hS => ?_)
          obtain ⟨hP1, -, hD1⟩ := hB
          rw [ht] at hP1
          have hP : va_P (dC, dI) vwCl (cX7 cy a z27_v_s (X7_aside v) (X7_kept v) (X7_isKept v) (X7_saved v) (X7_savedMany v) (X7_text v) (X7_length v) (X7_thrown v) (X7_joint v) (X7_position v) (X7_isWrong v) (X7_isHollow v) (X7_sure v) (X7_away v) (X7_digested v)) H := hP1
          have hD : va_D A (cX7 cy a z27_v_s (X7_aside v) (X7_kept v) (X7_isKept v) (X7_saved v) (X7_savedMany v) (X7_text v) (X7_length v) (X7_thrown v) (X7_joint v) (X7_position v) (X7_isWrong v) (X7_isHollow v) (X7_sure v) (X7_away v) (X7_digested v)) := hD1.weaken (fun _ q _ h => hFc q.1 h)
          refine lv_istore_n (lv' := [(3, .int r41), (0, .ref (a 0)), (1, .int x1), (2, .int y27_2)]) hx hb dX7_comesUp_44 rfl hl (by decide) rfl (fun ls hl => ?_)
          refine lv_iload_n hx hb dX7_comesUp_45 rfl (lv_at hl 0 rfl) ?_
          obtain ⟨hqA, hqB⟩ := hq
          refine lv_if_le (tgt := 136) hx hb dX7_comesUp_46 (by decide) (fun c7 => ?_) (fun c7 => ?_)
          · have hq := hqA c7
            refine lv_iinc (v := (y27_2 + 1)) (lv' := [(2, .int (y27_2 + 1)), (3, .int r41), (0, .ref (a 0)), (1, .int x1)]) hx hb dX7_comesUp_136 hl (k := 3) rfl rfl (by decide) rfl (fun ls hl => ?_)
            refine lv_goto (tgt := 27) hx hb dX7_comesUp_139 (by decide) ?_
            exact bk27 (y27_2 + 1) z27_v_s _ _ _ hq hP hD hS (lv_sub hl [2, 3, 0] rfl)
          · have hq := hqB c7
            refine lv_aload_n hx hb dX7_comesUp_49 rfl (lv_at hl 1 rfl) ?_
            refine lv_iload_n hx hb dX7_comesUp_50 rfl (lv_at hl 3 rfl) ?_
            refine lv_iload_n hx hb dX7_comesUp_51 rfl (lv_at hl 2 rfl) ?_
            refine lv_iconst (v := 1) hx hb dX7_comesUp_52 (by decide) ?_
            have hFc := xfree_same hS hAe0 (ws := (cX7 cy a z27_v_s (X7_aside v) (X7_kept v) (X7_isKept v) (X7_saved v) (X7_savedMany v) (X7_text v) (X7_length v) (X7_thrown v) (X7_joint v) (X7_position v) (X7_isWrong v) (X7_isHollow v) (X7_sure v) (X7_away v) (X7_digested v))) hD
            refine va_calli (va_runV (As := [.int y27_2, .int x1, .int 1]) (rest := []) ⟨hx, hb, hml, hown, hts⟩ (c_X7_inTrail l dC dI cy a _ (X7_s0 v z27_v_s) y27_2 x1 1 _ hq) (cwV 3 hts gX7_comesUp_X7_inTrail rfl rfl rfl (by decide +kernel) ⟨Nat.le_of_ble_eq_true rfl, Nat.le_of_ble_eq_true rfl⟩) ⟨xPre_blind, va_recv hK hP (ci := 7) (q0 := 0) rfl rfl, xPre_of hP hK hD⟩ rfl rfl hl.1 rfl (lv_room (Nat.le_of_ble_eq_true rfl)) dX7_comesUp_53 ⟨Nat.le_of_ble_eq_true rfl, Nat.le_of_ble_eq_true rfl⟩) hS (fun q _ h => hFc q h) hFc (fun r53 u9 t H locs ht hvm hq hB hz1 hk1 hS => ?_)
            obtain ⟨hP1, -, hD1⟩ := hB
            rw [ht] at hP1
            have hP : va_P (dC, dI) vwCl (cX7 cy a z27_v_s (X7_aside v) (X7_kept v) (X7_isKept v) (X7_saved v) (X7_savedMany v) (X7_text v) (X7_length v) (X7_thrown v) (X7_joint v) (X7_position v) (X7_isWrong v) (X7_isHollow v) (X7_sure v) (X7_away v) (X7_digested v)) H := hP1
            have hD : va_D A (cX7 cy a z27_v_s (X7_aside v) (X7_kept v) (X7_isKept v) (X7_saved v) (X7_savedMany v) (X7_text v) (X7_length v) (X7_thrown v) (X7_joint v) (X7_position v) (X7_isWrong v) (X7_isHollow v) (X7_sure v) (X7_away v) (X7_digested v)) := hD1.weaken (fun _ q _ h => hFc q.1 h)
            refine lv_istore (lv' := [(4, .int r53), (3, .int r41), (0, .ref (a 0)), (1, .int x1), (2, .int y27_2)]) hx hb dX7_comesUp_56 hl (by decide) rfl (fun ls hl => ?_)
            refine lv_aload_n hx hb dX7_comesUp_58 rfl (lv_at hl 2 rfl) ?_
            refine lv_iload_n hx hb dX7_comesUp_59 rfl (lv_at hl 4 rfl) ?_
            refine lv_iload_n hx hb dX7_comesUp_60 rfl (lv_at hl 1 rfl) ?_
            have hFc := xfree_same hS hAe0 (ws := (cX7 cy a z27_v_s (X7_aside v) (X7_kept v) (X7_isKept v) (X7_saved v) (X7_savedMany v) (X7_text v) (X7_length v) (X7_thrown v) (X7_joint v) (X7_position v) (X7_isWrong v) (X7_isHollow v) (X7_sure v) (X7_away v) (X7_digested v))) hD
            refine va_callv (va_runV (As := [.int y27_2, .int r41]) (rest := []) ⟨hx, hb, hml, hown, hts⟩ (c_X7_digs l dC dI cy a _ (X7_s0 v z27_v_s) y27_2 r41 _ hq) (cwV 2 hts gX7_comesUp_X7_digs rfl rfl rfl (by decide +kernel) ⟨Nat.le_of_ble_eq_true rfl, Nat.le_of_ble_eq_true rfl⟩) ⟨xPre_blind, va_recv hK hP (ci := 7) (q0 := 0) rfl rfl, xPre_of hP hK hD⟩ rfl rfl hl.1 rfl (lv_room (Nat.le_of_ble_eq_true rfl)) dX7_comesUp_61 ⟨Nat.le_of_ble_eq_true rfl, Nat.le_of_ble_eq_true rfl⟩) hS (fun q _ h => hFc q h) hFc (fun z61_v_s t H locs ht hvm hq hB hz1 hk1 hS => ?_)
            obtain ⟨hP1, -, hD1⟩ := hB
            rw [ht] at hP1
            have hP : va_P (dC, dI) vwCl (cX7 cy a z61_v_s (X7_aside v) (X7_kept v) (X7_isKept v) (X7_saved v) (X7_savedMany v) (X7_text v) (X7_length v) (X7_thrown v) (X7_joint v) (X7_position v) (X7_isWrong v) (X7_isHollow v) (X7_sure v) (X7_away v) (X7_digested v)) H := hP1
            have hD : va_D A (cX7 cy a z61_v_s (X7_aside v) (X7_kept v) (X7_isKept v) (X7_saved v) (X7_savedMany v) (X7_text v) (X7_length v) (X7_thrown v) (X7_joint v) (X7_position v) (X7_isWrong v) (X7_isHollow v) (X7_sure v) (X7_away v) (X7_digested v)) := hD1.weaken (fun _ q _ h => hFc q.1 h)
            refine lv_aload_n hx hb dX7_comesUp_64 rfl (lv_at hl 2 rfl) ?_
            refine va_get (D := (dC, dI)) (ci := 7) (v := .ref (a 1)) (C := RX7) (T := TX7) (N := 16) hx hb hts iK7 hown hK hP 0 rfl rfl 0 (by decide) lk0 (fun _ h9 => h9) rfl dX7_comesUp_65 ?_
            refine lv_iload_n hx hb dX7_comesUp_68 rfl (lv_at hl 4 rfl) ?_
            refine lv_bipush (v := 23) hx hb dX7_comesUp_69 (by decide) ?_
            have hFc := xfree_none hS hAe0
            refine va_calli (va_runS (As := [.int y27_2, .int 23]) (rest := [.ref (a 1)]) ⟨hx, hb, hml, hown, hts⟩ (c_X7_of l dC dI cy  _ y27_2 23 _ hq) (va_cwS 2 hts gX7_comesUp_X7_of rfl rfl rfl (by decide +kernel) ⟨Nat.le_of_ble_eq_true rfl, Nat.le_of_ble_eq_true rfl⟩) ⟨xPre_blind, xPre_of xP_nil hK (xD_nil (A := A))⟩ rfl rfl hl.1 rfl (lv_room (Nat.le_of_ble_eq_true rfl)) dX7_comesUp_71 ⟨Nat.le_of_ble_eq_true rfl, Nat.le_of_ble_eq_true rfl⟩) hS (fun q _ h => hFc q h) hFc (fun r71 u9 t H locs ht hvm hq hB hz1 hk1 hS => ?_)
            have hP := xj_none hP hk1
            refine lv_dup2_11 hx hb dX7_comesUp_74 rfl rfl ?_
            obtain ⟨g6, hq⟩ := hq
            refine va_iald hx hb hK hP 1 0 rfl rfl g6 dX7_comesUp_75 ?_
            refine lv_iload hx hb dX7_comesUp_76 (lv_at hl 0 rfl) ?_
            refine lv_isub hx hb dX7_comesUp_78 ?_
            refine va_iast hx hb hK hP hD hS 1 0 rfl rfl g6 dX7_comesUp_79 (fun H locs hP hD hS => ?_)
            have hP : va_P (dC, dI) vwCl (cX7 cy a (upd z61_v_s r71.toNatClampNeg ((z61_v_s r71.toNatClampNeg) - r53)) (X7_aside v) (X7_kept v) (X7_isKept v) (X7_saved v) (X7_savedMany v) (X7_text v) (X7_length v) (X7_thrown v) (X7_joint v) (X7_position v) (X7_isWrong v) (X7_isHollow v) (X7_sure v) (X7_away v) (X7_digested v)) H := hP
            have hD : va_D A (cX7 cy a (upd z61_v_s r71.toNatClampNeg ((z61_v_s r71.toNatClampNeg) - r53)) (X7_aside v) (X7_kept v) (X7_isKept v) (X7_saved v) (X7_savedMany v) (X7_text v) (X7_length v) (X7_thrown v) (X7_joint v) (X7_position v) (X7_isWrong v) (X7_isHollow v) (X7_sure v) (X7_away v) (X7_digested v)) := hD
            refine lv_iconst (v := 0) hx hb dX7_comesUp_80 (by decide) ?_
            refine lv_istore (lv' := [(5, .int 0), (4, .int r53), (3, .int r41), (0, .ref (a 0)), (1, .int x1), (2, .int y27_2)]) hx hb dX7_comesUp_81 hl (by decide) rfl (fun ls hl => ?_)
            exact J83 r53 0 (upd z61_v_s r71.toNatClampNeg ((z61_v_s r71.toNatClampNeg) - r53)) _ _ _ hq hP hD hS (lv_sub hl [3, 4, 5, 1, 0] rfl)
    exact key _ y27_2 z27_v_s H locs ls h0 (Nat.lt_succ_self _) hP hD hS hl
  refine lv_aload_n hx hb dX7_comesUp_0 rfl (lv_at hl 0 rfl) ?_
  refine va_get (D := (dC, dI)) (ci := 7) (v := .ref (a 1)) (C := RX7) (T := TX7) (N := 16) hx hb hts iK7 hown hK hP 0 rfl rfl 0 (by decide) lk0 (fun _ h9 => h9) rfl dX7_comesUp_1 ?_
  refine lv_bipush (v := 8) hx hb dX7_comesUp_4 (by decide) ?_
  refine lv_iload_n hx hb dX7_comesUp_6 rfl (lv_at hl 1 rfl) ?_
  refine lv_iadd hx hb dX7_comesUp_7 ?_
  refine lv_iconst (v := 1) hx hb dX7_comesUp_8 (by decide) ?_
  obtain ⟨g9, hq⟩ := hq
  refine va_iast hx hb hK hP hD hS 1 0 rfl rfl g9 dX7_comesUp_9 (fun H locs hP hD hS => ?_)
  have hP : va_P (dC, dI) vwCl (cX7 cy a (upd (X7_s v) (8 + x1).toNatClampNeg 1) (X7_aside v) (X7_kept v) (X7_isKept v) (X7_saved v) (X7_savedMany v) (X7_text v) (X7_length v) (X7_thrown v) (X7_joint v) (X7_position v) (X7_isWrong v) (X7_isHollow v) (X7_sure v) (X7_away v) (X7_digested v)) H := hP
  have hD : va_D A (cX7 cy a (upd (X7_s v) (8 + x1).toNatClampNeg 1) (X7_aside v) (X7_kept v) (X7_isKept v) (X7_saved v) (X7_savedMany v) (X7_text v) (X7_length v) (X7_thrown v) (X7_joint v) (X7_position v) (X7_isWrong v) (X7_isHollow v) (X7_sure v) (X7_away v) (X7_digested v)) := hD
  refine lv_aload_n hx hb dX7_comesUp_10 rfl (lv_at hl 0 rfl) ?_
  refine va_get (D := (dC, dI)) (ci := 7) (v := .ref (a 1)) (C := RX7) (T := TX7) (N := 16) hx hb hts iK7 hown hK hP 0 rfl rfl 0 (by decide) lk0 (fun _ h9 => h9) rfl dX7_comesUp_11 ?_
  refine lv_iconst (v := 4) hx hb dX7_comesUp_14 (by decide) ?_
  refine lv_dup2_11 hx hb dX7_comesUp_15 rfl rfl ?_
  obtain ⟨g10, hq⟩ := hq
  refine va_iald hx hb hK hP 1 0 rfl rfl g10 dX7_comesUp_16 ?_
  refine lv_iconst (v := 1) hx hb dX7_comesUp_17 (by decide) ?_
  refine lv_iadd hx hb dX7_comesUp_18 ?_
  refine va_iast hx hb hK hP hD hS 1 0 rfl rfl g10 dX7_comesUp_19 (fun H locs hP hD hS => ?_)
  have hP : va_P (dC, dI) vwCl (cX7 cy a (upd (upd (X7_s v) (8 + x1).toNatClampNeg 1) (4 : Int32).toNatClampNeg (((upd (X7_s v) (8 + x1).toNatClampNeg 1) (4 : Int32).toNatClampNeg) + 1)) (X7_aside v) (X7_kept v) (X7_isKept v) (X7_saved v) (X7_savedMany v) (X7_text v) (X7_length v) (X7_thrown v) (X7_joint v) (X7_position v) (X7_isWrong v) (X7_isHollow v) (X7_sure v) (X7_away v) (X7_digested v)) H := hP
  have hD : va_D A (cX7 cy a (upd (upd (X7_s v) (8 + x1).toNatClampNeg 1) (4 : Int32).toNatClampNeg (((upd (X7_s v) (8 + x1).toNatClampNeg 1) (4 : Int32).toNatClampNeg) + 1)) (X7_aside v) (X7_kept v) (X7_isKept v) (X7_saved v) (X7_savedMany v) (X7_text v) (X7_length v) (X7_thrown v) (X7_joint v) (X7_position v) (X7_isWrong v) (X7_isHollow v) (X7_sure v) (X7_away v) (X7_digested v)) := hD
  refine lv_aload_n hx hb dX7_comesUp_20 rfl (lv_at hl 0 rfl) ?_
  refine lv_iload_n hx hb dX7_comesUp_21 rfl (lv_at hl 1 rfl) ?_
  have hFc := xfree_same hS hAe0 (ws := (cX7 cy a (upd (upd (X7_s v) (8 + x1).toNatClampNeg 1) (4 : Int32).toNatClampNeg (((upd (X7_s v) (8 + x1).toNatClampNeg 1) (4 : Int32).toNatClampNeg) + 1)) (X7_aside v) (X7_kept v) (X7_isKept v) (X7_saved v) (X7_savedMany v) (X7_text v) (X7_length v) (X7_thrown v) (X7_joint v) (X7_position v) (X7_isWrong v) (X7_isHollow v) (X7_sure v) (X7_away v) (X7_digested v))) hD
  refine va_callv (va_runV (As := [.int x1]) (rest := []) ⟨hx, hb, hml, hown, hts⟩ (c_X7_splits l dC dI cy a _ (X7_s0 v (upd (upd (X7_s v) (8 + x1).toNatClampNeg 1) (4 : Int32).toNatClampNeg (((upd (X7_s v) (8 + x1).toNatClampNeg 1) (4 : Int32).toNatClampNeg) + 1))) x1 _ hq) (cwV 1 hts gX7_comesUp_X7_splits rfl rfl rfl (by decide +kernel) ⟨Nat.le_of_ble_eq_true rfl, Nat.le_of_ble_eq_true rfl⟩) ⟨xPre_blind, va_recv hK hP (ci := 7) (q0 := 0) rfl rfl, xPre_of hP hK hD⟩ rfl rfl hl.1 rfl (lv_room (Nat.le_of_ble_eq_true rfl)) dX7_comesUp_22 ⟨Nat.le_of_ble_eq_true rfl, Nat.le_of_ble_eq_true rfl⟩) hS (fun q _ h => hFc q h) hFc (fun z22_v_s t H locs ht hvm hq hB hz1 hk1 hS => ?_)
  obtain ⟨hP1, -, hD1⟩ := hB
  rw [ht] at hP1
  have hP : va_P (dC, dI) vwCl (cX7 cy a z22_v_s (X7_aside v) (X7_kept v) (X7_isKept v) (X7_saved v) (X7_savedMany v) (X7_text v) (X7_length v) (X7_thrown v) (X7_joint v) (X7_position v) (X7_isWrong v) (X7_isHollow v) (X7_sure v) (X7_away v) (X7_digested v)) H := hP1
  have hD : va_D A (cX7 cy a z22_v_s (X7_aside v) (X7_kept v) (X7_isKept v) (X7_saved v) (X7_savedMany v) (X7_text v) (X7_length v) (X7_thrown v) (X7_joint v) (X7_position v) (X7_isWrong v) (X7_isHollow v) (X7_sure v) (X7_away v) (X7_digested v)) := hD1.weaken (fun _ q _ h => hFc q.1 h)
  refine lv_iconst (v := 0) hx hb dX7_comesUp_25 (by decide) ?_
  refine lv_istore_n (lv' := [(2, .int 0), (0, .ref (a 0)), (1, .int x1)]) hx hb dX7_comesUp_26 rfl hl (by decide) rfl (fun ls hl => ?_)
  exact J27  0 z22_v_s _ _ _ hq hP hD hS (lv_sub hl [1, 2, 0] rfl)
def wp_X7_finishes_29 (v : V_X7) (x1 : Int32) (z29_v_s : (Nat → Int32)) (Q : (Nat → Int32) → Prop) : Prop :=
  wp_X7_beginsTrail (X7_s0 v z29_v_s) x1 (fun z31_v_s =>
  Q z31_v_s)
def wp_X7_finishes (v : V_X7) (x1 : Int32) (Q : (Nat → Int32) → Prop) : Prop :=
  wp_X7_of x1 0 (fun r6 =>
  vp_in r6 1472 ∧ wp_X7_inTrail v x1 ((X7_s v) r6.toNatClampNeg) 0 (fun r15 =>
  ((r15 ≤ 0 → wp_X7_finishes_29 v x1 (X7_s v)  Q) ∧
  (¬ r15 ≤ 0 → wp_X7_digs v x1 r15 (fun z26_v_s =>
  wp_X7_finishes_29 v x1 z26_v_s  Q)))))
def q_X7_finishes (dC : Nat → ClassId) (dI : Nat → Nat → Nat) (cy : Nat → ClassId) (a : Nat → Nat) (v : V_X7) (x1 : Int32) (Q : (Nat → Int32) → Prop) (A : Nat → Prop) : Array Value → State → Outcome → State → Prop := va_Qv (fun (u : (Nat → Int32)) => Q u) (fun (u : (Nat → Int32)) t => xAt dC dI cy A (cX7 cy a u (X7_aside v) (X7_kept v) (X7_isKept v) (X7_saved v) (X7_savedMany v) (X7_text v) (X7_length v) (X7_thrown v) (X7_joint v) (X7_position v) (X7_isWrong v) (X7_isHollow v) (X7_sure v) (X7_away v) (X7_digested v)) t) A
set_option maxHeartbeats 4000000 in
set_option maxRecDepth 100000 in
theorem c_X7_finishes (l : Launch) (dC : Nat → ClassId) (dI : Nat → Nat → Nat) (cy : Nat → ClassId) (a : Nat → Nat) (sz : Nat) (v : V_X7) (x1 : Int32) (Q : (Nat → Int32) → Prop) (hq : wp_X7_finishes v x1 Q) : Met l yX7_finishes wsX7_finishes ({ frames := 2, cells := 0, slots := 0, locals := 46 } : Room) (va_Pc [.ref (a 0), .int x1] (xPre dC dI cy (wX7 cy a v) sz)) (q_X7_finishes dC dI cy a v x1 Q (va_A (wX7 cy a v) sz)) 0 0 (va_A (wX7 cy a v) sz) := by
  refine Met.ofW (cc := cX7_finishes) (maxL := 4) (ret := none) (by decide) rfl ?_
  intro p e s m args below meth c s₁ B hml hv
  obtain ⟨rfl, hsz, hP, hK, hD0⟩ := hv
  have hx := B.exec
  have hb := B.bytes
  have hr := B.returns
  have hts := atoms_spec (ws := wsX7_finishes) B.pre
  have hown : s.vm.findClass RX7 = some m.cls := findClass_of_methodNamed B.named
  have hlocks := B.notSynchronized
  subst hsz
  have hD := hD0.self (sz := s.heap.size)
  generalize hAe : va_A (wX7 cy a v) s.heap.size = A at hD ⊢
  have hAe0 : ∀ q : Nat, s.heap.size ≤ q → A q := fun q h => by rw [← hAe]; exact Or.inr h
  have hS : va_S A s.heap s.heap [] := va_S.rf
  have hl := lv_entry ([.ref (a 0), .int x1]) (n := 4) (Nat.le_of_ble_eq_true rfl)
  rw [lg_entry_eq]
  generalize (lg_sl ([.ref (a 0), .int x1]) ++ List.replicate (4 - (lg_sl ([.ref (a 0), .int x1])).length) Slot.unset).toArray = ls at hl ⊢
  have hl : lv_has ls 4 [(0, .ref (a 0)), (1, .int x1)] := hl
  have lk0 := hts (Cond.fieldLink RX7 7 "MolesLawnModel" "s" "[I") (List.mem_cons_of_mem _ (List.mem_append_left _ (List.mem_of_getElem? (i := 0) rfl)))
  have iK7 : ∀ w ∈ wsX70, w ∈ wsX7_finishes := fun _ h => (List.mem_cons_of_mem _ (List.mem_append_right _ h))
  unfold wp_X7_finishes at hq
  have J29 : ∀ (z29_v_s : (Nat → Int32)) (H : Heap) (locs : List Loc) (ls : Array Slot), wp_X7_finishes_29 v x1 z29_v_s Q → va_P (dC, dI) vwCl (cX7 cy a z29_v_s (X7_aside v) (X7_kept v) (X7_isKept v) (X7_saved v) (X7_savedMany v) (X7_text v) (X7_length v) (X7_thrown v) (X7_joint v) (X7_position v) (X7_isWrong v) (X7_isHollow v) (X7_sure v) (X7_away v) (X7_digested v)) H → va_D A (cX7 cy a z29_v_s (X7_aside v) (X7_kept v) (X7_isKept v) (X7_saved v) (X7_savedMany v) (X7_text v) (X7_length v) (X7_thrown v) (X7_joint v) (X7_position v) (X7_isWrong v) (X7_isHollow v) (X7_sure v) (X7_away v) (X7_digested v)) → va_S A s.heap H locs → lv_has ls 4 [(0, .ref (a 0)), (1, .int x1)] → W p l e (headSpec wsX7_finishes ({ frames := 2, cells := 0, slots := 0, locals := 46 } : Room)).room s m ([.ref (a 0), .int x1] : List Value).toArray below meth c H locs 0 0 (MQ below (q_X7_finishes dC dI cy a v x1 Q A) ([.ref (a 0), .int x1] : List Value).toArray s 0 0 A) (F0 m 29 ls []) := by
    intro z29_v_s H locs ls hq hP hD hS hl
    unfold wp_X7_finishes_29 at hq
    refine lv_aload_n hx hb dX7_finishes_29 rfl (lv_at hl 0 rfl) ?_
    refine lv_iload_n hx hb dX7_finishes_30 rfl (lv_at hl 1 rfl) ?_
    have hFc := xfree_same hS hAe0 (ws := (cX7 cy a z29_v_s (X7_aside v) (X7_kept v) (X7_isKept v) (X7_saved v) (X7_savedMany v) (X7_text v) (X7_length v) (X7_thrown v) (X7_joint v) (X7_position v) (X7_isWrong v) (X7_isHollow v) (X7_sure v) (X7_away v) (X7_digested v))) hD
    refine va_callv (va_runV (As := [.int x1]) (rest := []) ⟨hx, hb, hml, hown, hts⟩ (c_X7_beginsTrail l dC dI cy a _ (X7_s0 v z29_v_s) x1 _ hq) (cwV 1 hts gX7_finishes_X7_beginsTrail rfl rfl rfl (by decide +kernel) ⟨Nat.le_of_ble_eq_true rfl, Nat.le_of_ble_eq_true rfl⟩) ⟨xPre_blind, va_recv hK hP (ci := 7) (q0 := 0) rfl rfl, xPre_of hP hK hD⟩ rfl rfl hl.1 rfl (lv_room (Nat.le_of_ble_eq_true rfl)) dX7_finishes_31 ⟨Nat.le_of_ble_eq_true rfl, Nat.le_of_ble_eq_true rfl⟩) hS (fun q _ h => hFc q h) hFc (fun z31_v_s t H locs ht hvm hq hB hz1 hk1 hS => ?_)
    obtain ⟨hP1, -, hD1⟩ := hB
    rw [ht] at hP1
    have hP : va_P (dC, dI) vwCl (cX7 cy a z31_v_s (X7_aside v) (X7_kept v) (X7_isKept v) (X7_saved v) (X7_savedMany v) (X7_text v) (X7_length v) (X7_thrown v) (X7_joint v) (X7_position v) (X7_isWrong v) (X7_isHollow v) (X7_sure v) (X7_away v) (X7_digested v)) H := hP1
    have hD : va_D A (cX7 cy a z31_v_s (X7_aside v) (X7_kept v) (X7_isKept v) (X7_saved v) (X7_savedMany v) (X7_text v) (X7_length v) (X7_thrown v) (X7_joint v) (X7_position v) (X7_isWrong v) (X7_isHollow v) (X7_sure v) (X7_away v) (X7_digested v)) := hD1.weaken (fun _ q _ h => hFc q.1 h)
    exact W.vret hx hb hr (fun t ht hW => ⟨⟨z31_v_s, rfl, hq, (xAt_of hP hK hD ht hW)⟩, hS.F ht⟩) hS.2.2 dX7_finishes_34
  refine lv_aload_n hx hb dX7_finishes_0 rfl (lv_at hl 0 rfl) ?_
  refine va_get (D := (dC, dI)) (ci := 7) (v := .ref (a 1)) (C := RX7) (T := TX7) (N := 16) hx hb hts iK7 hown hK hP 0 rfl rfl 0 (by decide) lk0 (fun _ h9 => h9) rfl dX7_finishes_1 ?_
  refine lv_iload_n hx hb dX7_finishes_4 rfl (lv_at hl 1 rfl) ?_
  refine lv_iconst (v := 0) hx hb dX7_finishes_5 (by decide) ?_
  have hFc := xfree_none hS hAe0
  refine va_calli (va_runS (As := [.int x1, .int 0]) (rest := [.ref (a 1)]) ⟨hx, hb, hml, hown, hts⟩ (c_X7_of l dC dI cy  _ x1 0 _ hq) (va_cwS 2 hts gX7_finishes_X7_of rfl rfl rfl (by decide +kernel) ⟨Nat.le_of_ble_eq_true rfl, Nat.le_of_ble_eq_true rfl⟩) ⟨xPre_blind, xPre_of xP_nil hK (xD_nil (A := A))⟩ rfl rfl hl.1 rfl (lv_room (Nat.le_of_ble_eq_true rfl)) dX7_finishes_6 ⟨Nat.le_of_ble_eq_true rfl, Nat.le_of_ble_eq_true rfl⟩) hS (fun q _ h => hFc q h) hFc (fun r6 u9 t H locs ht hvm hq hB hz1 hk1 hS => ?_)
  have hP := xj_none hP hk1
  obtain ⟨g1, hq⟩ := hq
  refine va_iald hx hb hK hP 1 0 rfl rfl g1 dX7_finishes_9 ?_
  refine lv_istore_n (lv' := [(2, .int ((X7_s v) r6.toNatClampNeg)), (0, .ref (a 0)), (1, .int x1)]) hx hb dX7_finishes_10 rfl hl (by decide) rfl (fun ls hl => ?_)
  refine lv_aload_n hx hb dX7_finishes_11 rfl (lv_at hl 1 rfl) ?_
  refine lv_iload_n hx hb dX7_finishes_12 rfl (lv_at hl 2 rfl) ?_
  refine lv_iload_n hx hb dX7_finishes_13 rfl (lv_at hl 0 rfl) ?_
  refine lv_iconst (v := 0) hx hb dX7_finishes_14 (by decide) ?_
  have hFc := xfree_same hS hAe0 (ws := (wX7 cy a v)) hD
  refine va_calli (va_runV (As := [.int x1, .int ((X7_s v) r6.toNatClampNeg), .int 0]) (rest := []) ⟨hx, hb, hml, hown, hts⟩ (c_X7_inTrail l dC dI cy a _ v x1 ((X7_s v) r6.toNatClampNeg) 0 _ hq) (cwV 3 hts gX7_finishes_X7_inTrail rfl rfl rfl (by decide +kernel) ⟨Nat.le_of_ble_eq_true rfl, Nat.le_of_ble_eq_true rfl⟩) ⟨xPre_blind, va_recv hK hP (ci := 7) (q0 := 0) rfl rfl, xPre_of hP hK hD⟩ rfl rfl hl.1 rfl (lv_room (Nat.le_of_ble_eq_true rfl)) dX7_finishes_15 ⟨Nat.le_of_ble_eq_true rfl, Nat.le_of_ble_eq_true rfl⟩) hS (fun q _ h => hFc q h) hFc (fun r15 u9 t H locs ht hvm hq hB hz1 hk1 hS => ?_)
  obtain ⟨hP1, -, hD1⟩ := hB
  rw [ht] at hP1
  have hP : va_P (dC, dI) vwCl (wX7 cy a v) H := hP1
  have hD : va_D A (wX7 cy a v) := hD1.weaken (fun _ q _ h => hFc q.1 h)
  refine lv_istore_n (lv' := [(3, .int r15), (2, .int ((X7_s v) r6.toNatClampNeg)), (0, .ref (a 0)), (1, .int x1)]) hx hb dX7_finishes_18 rfl hl (by decide) rfl (fun ls hl => ?_)
  refine lv_iload_n hx hb dX7_finishes_19 rfl (lv_at hl 0 rfl) ?_
  obtain ⟨hqA, hqB⟩ := hq
  refine lv_if_le (tgt := 29) hx hb dX7_finishes_20 (by decide) (fun c2 => ?_) (fun c2 => ?_)
  · have hq := hqA c2
    exact J29 (X7_s v)  _ _ _ hq hP hD hS (lv_sub hl [2, 3] rfl)
  · have hq := hqB c2
    refine lv_aload_n hx hb dX7_finishes_23 rfl (lv_at hl 2 rfl) ?_
    refine lv_iload_n hx hb dX7_finishes_24 rfl (lv_at hl 3 rfl) ?_
    refine lv_iload_n hx hb dX7_finishes_25 rfl (lv_at hl 0 rfl) ?_
    have hFc := xfree_same hS hAe0 (ws := (wX7 cy a v)) hD
    refine va_callv (va_runV (As := [.int x1, .int r15]) (rest := []) ⟨hx, hb, hml, hown, hts⟩ (c_X7_digs l dC dI cy a _ v x1 r15 _ hq) (cwV 2 hts gX7_finishes_X7_digs rfl rfl rfl (by decide +kernel) ⟨Nat.le_of_ble_eq_true rfl, Nat.le_of_ble_eq_true rfl⟩) ⟨xPre_blind, va_recv hK hP (ci := 7) (q0 := 0) rfl rfl, xPre_of hP hK hD⟩ rfl rfl hl.1 rfl (lv_room (Nat.le_of_ble_eq_true rfl)) dX7_finishes_26 ⟨Nat.le_of_ble_eq_true rfl, Nat.le_of_ble_eq_true rfl⟩) hS (fun q _ h => hFc q h) hFc (fun z26_v_s t H locs ht hvm hq hB hz1 hk1 hS => ?_)
    obtain ⟨hP1, -, hD1⟩ := hB
    rw [ht] at hP1
    have hP : va_P (dC, dI) vwCl (cX7 cy a z26_v_s (X7_aside v) (X7_kept v) (X7_isKept v) (X7_saved v) (X7_savedMany v) (X7_text v) (X7_length v) (X7_thrown v) (X7_joint v) (X7_position v) (X7_isWrong v) (X7_isHollow v) (X7_sure v) (X7_away v) (X7_digested v)) H := hP1
    have hD : va_D A (cX7 cy a z26_v_s (X7_aside v) (X7_kept v) (X7_isKept v) (X7_saved v) (X7_savedMany v) (X7_text v) (X7_length v) (X7_thrown v) (X7_joint v) (X7_position v) (X7_isWrong v) (X7_isHollow v) (X7_sure v) (X7_away v) (X7_digested v)) := hD1.weaken (fun _ q _ h => hFc q.1 h)
    exact J29 z26_v_s  _ _ _ hq hP hD hS (lv_sub hl [2, 3] rfl)
def wb_X7_isCaught_63 (v : V_X7) (x1 : Int32)  (y63_2 : Int32) (z63_v_s : (Nat → Int32)) (B63 : Int32 → (Nat → Int32) → Prop) (Q : (Nat → Int32) → Prop) : Prop :=
  ((46 ≤ y63_2 → Q z63_v_s) ∧
  (¬ 46 ≤ y63_2 → vp_in 1 1472 ∧ wp_X7_of (z63_v_s (1 : Int32).toNatClampNeg) y63_2 (fun r80 =>
  vp_in r80 1472 ∧ B63 (y63_2 + 1) (upd z63_v_s r80.toNatClampNeg 0))))
def wp_X7_isCaught_63 (v : V_X7) (x1 : Int32)  (y63_2 : Int32) (z63_v_s : (Nat → Int32)) (Q : (Nat → Int32) → Prop) : Prop :=
  ∃ (I : Int32 → (Nat → Int32) → Prop) (μ : Int32 → (Nat → Int32) → Nat), I y63_2 z63_v_s ∧ ∀ (s0 : Int32) (s1 : (Nat → Int32)), I s0 s1 → wb_X7_isCaught_63 v x1  s0 s1 (fun t0 t1 => I t0 t1 ∧ μ t0 t1 < μ s0 s1) Q
def wb_X7_isCaught_26 (v : V_X7) (x1 : Int32)  (y26_2 : Int32) (z26_v_s : (Nat → Int32)) (B26 : Int32 → (Nat → Int32) → Prop) (Q : (Nat → Int32) → Prop) : Prop :=
  vp_in 1 1472 ∧ wp_X7_of (z26_v_s (1 : Int32).toNatClampNeg) 0 (fun r34 =>
  ((r34 ≤ y26_2 → wp_X7_isCaught_63 v x1  0 z26_v_s Q) ∧
  (¬ r34 ≤ y26_2 → vp_in (y26_2 + 46) 1472 ∧ vp_in y26_2 1472 ∧ B26 (y26_2 + 1) (upd z26_v_s y26_2.toNatClampNeg (z26_v_s (y26_2 + 46).toNatClampNeg)))))
def wp_X7_isCaught_26 (v : V_X7) (x1 : Int32)  (y26_2 : Int32) (z26_v_s : (Nat → Int32)) (Q : (Nat → Int32) → Prop) : Prop :=
  ∃ (I : Int32 → (Nat → Int32) → Prop) (μ : Int32 → (Nat → Int32) → Nat), I y26_2 z26_v_s ∧ ∀ (s0 : Int32) (s1 : (Nat → Int32)), I s0 s1 → wb_X7_isCaught_26 v x1  s0 s1 (fun t0 t1 => I t0 t1 ∧ μ t0 t1 < μ s0 s1) Q
def wp_X7_isCaught (v : V_X7) (x1 : Int32) (Q : (Nat → Int32) → Prop) : Prop :=
  vp_in 1 1472 ∧ vp_in 2 1472 ∧ wp_X7_of x1 0 (fun r22 =>
  wp_X7_isCaught_26 v x1  r22 (upd (upd (X7_s v) (1 : Int32).toNatClampNeg (((X7_s v) (1 : Int32).toNatClampNeg) - 1)) (2 : Int32).toNatClampNeg (((upd (X7_s v) (1 : Int32).toNatClampNeg (((X7_s v) (1 : Int32).toNatClampNeg) - 1)) (2 : Int32).toNatClampNeg) + 1)) Q)
def q_X7_isCaught (dC : Nat → ClassId) (dI : Nat → Nat → Nat) (cy : Nat → ClassId) (a : Nat → Nat) (v : V_X7) (x1 : Int32) (Q : (Nat → Int32) → Prop) (A : Nat → Prop) : Array Value → State → Outcome → State → Prop := va_Qv (fun (u : (Nat → Int32)) => Q u) (fun (u : (Nat → Int32)) t => xAt dC dI cy A (cX7 cy a u (X7_aside v) (X7_kept v) (X7_isKept v) (X7_saved v) (X7_savedMany v) (X7_text v) (X7_length v) (X7_thrown v) (X7_joint v) (X7_position v) (X7_isWrong v) (X7_isHollow v) (X7_sure v) (X7_away v) (X7_digested v)) t) A
set_option maxHeartbeats 4000000 in
set_option maxRecDepth 100000 in
theorem c_X7_isCaught (l : Launch) (dC : Nat → ClassId) (dI : Nat → Nat → Nat) (cy : Nat → ClassId) (a : Nat → Nat) (sz : Nat) (v : V_X7) (x1 : Int32) (Q : (Nat → Int32) → Prop) (hq : wp_X7_isCaught v x1 Q) : Met l yX7_isCaught wsX7_isCaught ({ frames := 1, cells := 0, slots := 0, locals := 21 } : Room) (va_Pc [.ref (a 0), .int x1] (xPre dC dI cy (wX7 cy a v) sz)) (q_X7_isCaught dC dI cy a v x1 Q (va_A (wX7 cy a v) sz)) 0 0 (va_A (wX7 cy a v) sz) := by
  refine Met.ofW (cc := cX7_isCaught) (maxL := 3) (ret := none) (by decide) rfl ?_
  intro p e s m args below meth c s₁ B hml hv
  obtain ⟨rfl, hsz, hP, hK, hD0⟩ := hv
  have hx := B.exec
  have hb := B.bytes
  have hr := B.returns
  have hts := atoms_spec (ws := wsX7_isCaught) B.pre
  have hown : s.vm.findClass RX7 = some m.cls := findClass_of_methodNamed B.named
  have hlocks := B.notSynchronized
  subst hsz
  have hD := hD0.self (sz := s.heap.size)
  generalize hAe : va_A (wX7 cy a v) s.heap.size = A at hD ⊢
  have hAe0 : ∀ q : Nat, s.heap.size ≤ q → A q := fun q h => by rw [← hAe]; exact Or.inr h
  have hS : va_S A s.heap s.heap [] := va_S.rf
  have hl := lv_entry ([.ref (a 0), .int x1]) (n := 3) (Nat.le_of_ble_eq_true rfl)
  rw [lg_entry_eq]
  generalize (lg_sl ([.ref (a 0), .int x1]) ++ List.replicate (3 - (lg_sl ([.ref (a 0), .int x1])).length) Slot.unset).toArray = ls at hl ⊢
  have hl : lv_has ls 3 [(0, .ref (a 0)), (1, .int x1)] := hl
  have lk0 := hts (Cond.fieldLink RX7 7 "MolesLawnModel" "s" "[I") (List.mem_cons_of_mem _ (List.mem_append_left _ (List.mem_of_getElem? (i := 0) rfl)))
  have iK7 : ∀ w ∈ wsX70, w ∈ wsX7_isCaught := fun _ h => (List.mem_cons_of_mem _ (List.mem_append_right _ h))
  unfold wp_X7_isCaught at hq
  have J63 : ∀  (y63_2 : Int32) (z63_v_s : (Nat → Int32)) (H : Heap) (locs : List Loc) (ls : Array Slot), wp_X7_isCaught_63 v x1  y63_2 z63_v_s Q → va_P (dC, dI) vwCl (cX7 cy a z63_v_s (X7_aside v) (X7_kept v) (X7_isKept v) (X7_saved v) (X7_savedMany v) (X7_text v) (X7_length v) (X7_thrown v) (X7_joint v) (X7_position v) (X7_isWrong v) (X7_isHollow v) (X7_sure v) (X7_away v) (X7_digested v)) H → va_D A (cX7 cy a z63_v_s (X7_aside v) (X7_kept v) (X7_isKept v) (X7_saved v) (X7_savedMany v) (X7_text v) (X7_length v) (X7_thrown v) (X7_joint v) (X7_position v) (X7_isWrong v) (X7_isHollow v) (X7_sure v) (X7_away v) (X7_digested v)) → va_S A s.heap H locs → lv_has ls 3 [(0, .ref (a 0)), (2, .int y63_2)] → W p l e (headSpec wsX7_isCaught ({ frames := 1, cells := 0, slots := 0, locals := 21 } : Room)).room s m ([.ref (a 0), .int x1] : List Value).toArray below meth c H locs 0 0 (MQ below (q_X7_isCaught dC dI cy a v x1 Q A) ([.ref (a 0), .int x1] : List Value).toArray s 0 0 A) (F0 m 63 ls []) := by
    intro  y63_2 z63_v_s H locs ls hq hP hD hS hl
    obtain ⟨I63, μ63, h0, hs63⟩ := hq
    have key : ∀ (n : Nat) (y63_2 : Int32) (z63_v_s : (Nat → Int32)) (H : Heap) (locs : List Loc) (ls : Array Slot), I63 y63_2 z63_v_s → μ63 y63_2 z63_v_s < n → va_P (dC, dI) vwCl (cX7 cy a z63_v_s (X7_aside v) (X7_kept v) (X7_isKept v) (X7_saved v) (X7_savedMany v) (X7_text v) (X7_length v) (X7_thrown v) (X7_joint v) (X7_position v) (X7_isWrong v) (X7_isHollow v) (X7_sure v) (X7_away v) (X7_digested v)) H → va_D A (cX7 cy a z63_v_s (X7_aside v) (X7_kept v) (X7_isKept v) (X7_saved v) (X7_savedMany v) (X7_text v) (X7_length v) (X7_thrown v) (X7_joint v) (X7_position v) (X7_isWrong v) (X7_isHollow v) (X7_sure v) (X7_away v) (X7_digested v)) → va_S A s.heap H locs → lv_has ls 3 [(0, .ref (a 0)), (2, .int y63_2)] → W p l e (headSpec wsX7_isCaught ({ frames := 1, cells := 0, slots := 0, locals := 21 } : Room)).room s m ([.ref (a 0), .int x1] : List Value).toArray below meth c H locs 0 0 (MQ below (q_X7_isCaught dC dI cy a v x1 Q A) ([.ref (a 0), .int x1] : List Value).toArray s 0 0 A) (F0 m 63 ls []) := by
      intro n
      induction n with
      | zero => intro y63_2 z63_v_s H locs ls _ hm; exact absurd hm (Nat.not_lt_zero _)
      | succ n ih =>
        intro y63_2 z63_v_s H locs ls hI hm hP hD hS hl
        have hq := hs63 y63_2 z63_v_s hI
        generalize hB63 : (fun (t0 : Int32) (t1 : (Nat → Int32)) => I63 t0 t1 ∧ μ63 t0 t1 < μ63 y63_2 z63_v_s) = B63 at hq
        have bk63 : ∀ (y63_2 : Int32) (z63_v_s : (Nat → Int32)) (H : Heap) (locs : List Loc) (ls : Array Slot), B63 y63_2 z63_v_s → va_P (dC, dI) vwCl (cX7 cy a z63_v_s (X7_aside v) (X7_kept v) (X7_isKept v) (X7_saved v) (X7_savedMany v) (X7_text v) (X7_length v) (X7_thrown v) (X7_joint v) (X7_position v) (X7_isWrong v) (X7_isHollow v) (X7_sure v) (X7_away v) (X7_digested v)) H → va_D A (cX7 cy a z63_v_s (X7_aside v) (X7_kept v) (X7_isKept v) (X7_saved v) (X7_savedMany v) (X7_text v) (X7_length v) (X7_thrown v) (X7_joint v) (X7_position v) (X7_isWrong v) (X7_isHollow v) (X7_sure v) (X7_away v) (X7_digested v)) → va_S A s.heap H locs → lv_has ls 3 [(0, .ref (a 0)), (2, .int y63_2)] → W p l e (headSpec wsX7_isCaught ({ frames := 1, cells := 0, slots := 0, locals := 21 } : Room)).room s m ([.ref (a 0), .int x1] : List Value).toArray below meth c H locs 0 0 (MQ below (q_X7_isCaught dC dI cy a v x1 Q A) ([.ref (a 0), .int x1] : List Value).toArray s 0 0 A) (F0 m 63 ls []) := by
          intro y63_2 z63_v_s H locs ls h
          rw [← hB63] at h
          exact ih y63_2 z63_v_s H locs ls h.1 (Nat.lt_of_lt_of_le h.2 (Nat.le_of_lt_succ hm))
        unfold wb_X7_isCaught_63 at hq
        refine lv_iload_n hx hb dX7_isCaught_63 rfl (lv_at hl 1 rfl) ?_
        refine lv_bipush (v := 46) hx hb dX7_isCaught_64 (by decide) ?_
        obtain ⟨hqA, hqB⟩ := hq
        refine lv_icmp_ge (tgt := 91) hx hb dX7_isCaught_66 (by decide) (fun c3 => ?_) (fun c3 => ?_)
        · have hq := hqA c3
          exact W.vret hx hb hr (fun t ht hW => ⟨⟨z63_v_s, rfl, hq, (xAt_of hP hK hD ht hW)⟩, hS.F ht⟩) hS.2.2 dX7_isCaught_91
        · have hq := hqB c3
          refine lv_aload_n hx hb dX7_isCaught_69 rfl (lv_at hl 0 rfl) ?_
          refine va_get (D := (dC, dI)) (ci := 7) (v := .ref (a 1)) (C := RX7) (T := TX7) (N := 16) hx hb hts iK7 hown hK hP 0 rfl rfl 0 (by decide) lk0 (fun _ h9 => h9) rfl dX7_isCaught_70 ?_
          refine lv_aload_n hx hb dX7_isCaught_73 rfl (lv_at hl 0 rfl) ?_
          refine va_get (D := (dC, dI)) (ci := 7) (v := .ref (a 1)) (C := RX7) (T := TX7) (N := 16) hx hb hts iK7 hown hK hP 0 rfl rfl 0 (by decide) lk0 (fun _ h9 => h9) rfl dX7_isCaught_74 ?_
          refine lv_iconst (v := 1) hx hb dX7_isCaught_77 (by decide) ?_
          obtain ⟨g1, hq⟩ := hq
          refine va_iald hx hb hK hP 1 0 rfl rfl g1 dX7_isCaught_78 ?_
          refine lv_iload_n hx hb dX7_isCaught_79 rfl (lv_at hl 1 rfl) ?_
          have hFc := xfree_none hS hAe0
          refine va_calli (va_runS (As := [.int (z63_v_s (1 : Int32).toNatClampNeg), .int y63_2]) (rest := [.ref (a 1)]) ⟨hx, hb, hml, hown, hts⟩ (c_X7_of l dC dI cy  _ (z63_v_s (1 : Int32).toNatClampNeg) y63_2 _ hq) (va_cwS 2 hts gX7_isCaught_X7_of rfl rfl rfl (by decide +kernel) ⟨Nat.le_of_ble_eq_true rfl, Nat.le_of_ble_eq_true rfl⟩) ⟨xPre_blind, xPre_of xP_nil hK (xD_nil (A := A))⟩ rfl rfl hl.1 rfl (lv_room (Nat.le_of_ble_eq_true rfl)) dX7_isCaught_80 ⟨Nat.le_of_ble_eq_true rfl, Nat.le_of_ble_eq_true rfl⟩) hS (fun q _ h => hFc q h) hFc (fun r80 u9 t H locs ht hvm hq hB hz1 hk1 hS => ?_)
          have hP := xj_none hP hk1
          refine lv_iconst (v := 0) hx hb dX7_isCaught_83 (by decide) ?_
          obtain ⟨g2, hq⟩ := hq
          refine va_iast hx hb hK hP hD hS 1 0 rfl rfl g2 dX7_isCaught_84 (fun H locs hP hD hS => ?_)
          have hP : va_P (dC, dI) vwCl (cX7 cy a (upd z63_v_s r80.toNatClampNeg 0) (X7_aside v) (X7_kept v) (X7_isKept v) (X7_saved v) (X7_savedMany v) (X7_text v) (X7_length v) (X7_thrown v) (X7_joint v) (X7_position v) (X7_isWrong v) (X7_isHollow v) (X7_sure v) (X7_away v) (X7_digested v)) H := hP
          have hD : va_D A (cX7 cy a (upd z63_v_s r80.toNatClampNeg 0) (X7_aside v) (X7_kept v) (X7_isKept v) (X7_saved v) (X7_savedMany v) (X7_text v) (X7_length v) (X7_thrown v) (X7_joint v) (X7_position v) (X7_isWrong v) (X7_isHollow v) (X7_sure v) (X7_away v) (X7_digested v)) := hD
          refine lv_iinc (v := (y63_2 + 1)) (lv' := [(2, .int (y63_2 + 1)), (0, .ref (a 0))]) hx hb dX7_isCaught_85 hl (k := 1) rfl rfl (by decide) rfl (fun ls hl => ?_)
          refine lv_goto (tgt := 63) hx hb dX7_isCaught_88 (by decide) ?_
          exact bk63 (y63_2 + 1) (upd z63_v_s r80.toNatClampNeg 0) _ _ _ hq hP hD hS (lv_sub hl [1, 0] rfl)
    exact key _ y63_2 z63_v_s H locs ls h0 (Nat.lt_succ_self _) hP hD hS hl
  have J26 : ∀  (y26_2 : Int32) (z26_v_s : (Nat → Int32)) (H : Heap) (locs : List Loc) (ls : Array Slot), wp_X7_isCaught_26 v x1  y26_2 z26_v_s Q → va_P (dC, dI) vwCl (cX7 cy a z26_v_s (X7_aside v) (X7_kept v) (X7_isKept v) (X7_saved v) (X7_savedMany v) (X7_text v) (X7_length v) (X7_thrown v) (X7_joint v) (X7_position v) (X7_isWrong v) (X7_isHollow v) (X7_sure v) (X7_away v) (X7_digested v)) H → va_D A (cX7 cy a z26_v_s (X7_aside v) (X7_kept v) (X7_isKept v) (X7_saved v) (X7_savedMany v) (X7_text v) (X7_length v) (X7_thrown v) (X7_joint v) (X7_position v) (X7_isWrong v) (X7_isHollow v) (X7_sure v) (X7_away v) (X7_digested v)) → va_S A s.heap H locs → lv_has ls 3 [(0, .ref (a 0)), (2, .int y26_2)] → W p l e (headSpec wsX7_isCaught ({ frames := 1, cells := 0, slots := 0, locals := 21 } : Room)).room s m ([.ref (a 0), .int x1] : List Value).toArray below meth c H locs 0 0 (MQ below (q_X7_isCaught dC dI cy a v x1 Q A) ([.ref (a 0), .int x1] : List Value).toArray s 0 0 A) (F0 m 26 ls []) := by
    intro  y26_2 z26_v_s H locs ls hq hP hD hS hl
    obtain ⟨I26, μ26, h0, hs26⟩ := hq
    have key : ∀ (n : Nat) (y26_2 : Int32) (z26_v_s : (Nat → Int32)) (H : Heap) (locs : List Loc) (ls : Array Slot), I26 y26_2 z26_v_s → μ26 y26_2 z26_v_s < n → va_P (dC, dI) vwCl (cX7 cy a z26_v_s (X7_aside v) (X7_kept v) (X7_isKept v) (X7_saved v) (X7_savedMany v) (X7_text v) (X7_length v) (X7_thrown v) (X7_joint v) (X7_position v) (X7_isWrong v) (X7_isHollow v) (X7_sure v) (X7_away v) (X7_digested v)) H → va_D A (cX7 cy a z26_v_s (X7_aside v) (X7_kept v) (X7_isKept v) (X7_saved v) (X7_savedMany v) (X7_text v) (X7_length v) (X7_thrown v) (X7_joint v) (X7_position v) (X7_isWrong v) (X7_isHollow v) (X7_sure v) (X7_away v) (X7_digested v)) → va_S A s.heap H locs → lv_has ls 3 [(0, .ref (a 0)), (2, .int y26_2)] → W p l e (headSpec wsX7_isCaught ({ frames := 1, cells := 0, slots := 0, locals := 21 } : Room)).room s m ([.ref (a 0), .int x1] : List Value).toArray below meth c H locs 0 0 (MQ below (q_X7_isCaught dC dI cy a v x1 Q A) ([.ref (a 0), .int x1] : List Value).toArray s 0 0 A) (F0 m 26 ls []) := by
      intro n
      induction n with
      | zero => intro y26_2 z26_v_s H locs ls _ hm; exact absurd hm (Nat.not_lt_zero _)
      | succ n ih =>
        intro y26_2 z26_v_s H locs ls hI hm hP hD hS hl
        have hq := hs26 y26_2 z26_v_s hI
        generalize hB26 : (fun (t0 : Int32) (t1 : (Nat → Int32)) => I26 t0 t1 ∧ μ26 t0 t1 < μ26 y26_2 z26_v_s) = B26 at hq
        have bk26 : ∀ (y26_2 : Int32) (z26_v_s : (Nat → Int32)) (H : Heap) (locs : List Loc) (ls : Array Slot), B26 y26_2 z26_v_s → va_P (dC, dI) vwCl (cX7 cy a z26_v_s (X7_aside v) (X7_kept v) (X7_isKept v) (X7_saved v) (X7_savedMany v) (X7_text v) (X7_length v) (X7_thrown v) (X7_joint v) (X7_position v) (X7_isWrong v) (X7_isHollow v) (X7_sure v) (X7_away v) (X7_digested v)) H → va_D A (cX7 cy a z26_v_s (X7_aside v) (X7_kept v) (X7_isKept v) (X7_saved v) (X7_savedMany v) (X7_text v) (X7_length v) (X7_thrown v) (X7_joint v) (X7_position v) (X7_isWrong v) (X7_isHollow v) (X7_sure v) (X7_away v) (X7_digested v)) → va_S A s.heap H locs → lv_has ls 3 [(0, .ref (a 0)), (2, .int y26_2)] → W p l e (headSpec wsX7_isCaught ({ frames := 1, cells := 0, slots := 0, locals := 21 } : Room)).room s m ([.ref (a 0), .int x1] : List Value).toArray below meth c H locs 0 0 (MQ below (q_X7_isCaught dC dI cy a v x1 Q A) ([.ref (a 0), .int x1] : List Value).toArray s 0 0 A) (F0 m 26 ls []) := by
          intro y26_2 z26_v_s H locs ls h
          rw [← hB26] at h
          exact ih y26_2 z26_v_s H locs ls h.1 (Nat.lt_of_lt_of_le h.2 (Nat.le_of_lt_succ hm))
        unfold wb_X7_isCaught_26 at hq
        refine lv_iload_n hx hb dX7_isCaught_26 rfl (lv_at hl 1 rfl) ?_
        refine lv_aload_n hx hb dX7_isCaught_27 rfl (lv_at hl 0 rfl) ?_
        refine va_get (D := (dC, dI)) (ci := 7) (v := .ref (a 1)) (C := RX7) (T := TX7) (N := 16) hx hb hts iK7 hown hK hP 0 rfl rfl 0 (by decide) lk0 (fun _ h9 => h9) rfl dX7_isCaught_28 ?_
        refine lv_iconst (v := 1) hx hb dX7_isCaught_31 (by decide) ?_
        obtain ⟨g4, hq⟩ := hq
        refine va_iald hx hb hK hP 1 0 rfl rfl g4 dX7_isCaught_32 ?_
        refine lv_iconst (v := 0) hx hb dX7_isCaught_33 (by decide) ?_
        have hFc := xfree_none hS hAe0
        refine va_calli (va_runS (As := [.int (z26_v_s (1 : Int32).toNatClampNeg), .int 0]) (rest := [.int y26_2]) ⟨hx, hb, hml, hown, hts⟩ (c_X7_of l dC dI cy  _ (z26_v_s (1 : Int32).toNatClampNeg) 0 _ hq) (va_cwS 2 hts gX7_isCaught_X7_of rfl rfl rfl (by decide +kernel) ⟨Nat.le_of_ble_eq_true rfl, Nat.le_of_ble_eq_true rfl⟩) ⟨xPre_blind, xPre_of xP_nil hK (xD_nil (A := A))⟩ rfl rfl hl.1 rfl (lv_room (Nat.le_of_ble_eq_true rfl)) dX7_isCaught_34 ⟨Nat.le_of_ble_eq_true rfl, Nat.le_of_ble_eq_true rfl⟩) hS (fun q _ h => hFc q h) hFc (fun r34 u9 t H locs ht hvm hq hB hz1 hk1 hS => ?_)
        have hP := xj_none hP hk1
        obtain ⟨hqA, hqB⟩ := hq
        refine lv_icmp_ge (tgt := 61) hx hb dX7_isCaught_37 (by decide) (fun c7 => ?_) (fun c7 => ?_)
        · have hq := hqA c7
          refine lv_iconst (v := 0) hx hb dX7_isCaught_61 (by decide) ?_
          refine lv_istore_n (lv' := [(2, .int 0), (0, .ref (a 0))]) hx hb dX7_isCaught_62 rfl hl (by decide) rfl (fun ls hl => ?_)
          exact J63  0 z26_v_s _ _ _ hq hP hD hS (lv_sub hl [1, 0] rfl)
        · have hq := hqB c7
          refine lv_aload_n hx hb dX7_isCaught_40 rfl (lv_at hl 0 rfl) ?_
          refine va_get (D := (dC, dI)) (ci := 7) (v := .ref (a 1)) (C := RX7) (T := TX7) (N := 16) hx hb hts iK7 hown hK hP 0 rfl rfl 0 (by decide) lk0 (fun _ h9 => h9) rfl dX7_isCaught_41 ?_
          refine lv_iload_n hx hb dX7_isCaught_44 rfl (lv_at hl 1 rfl) ?_
          refine lv_aload_n hx hb dX7_isCaught_45 rfl (lv_at hl 0 rfl) ?_
          refine va_get (D := (dC, dI)) (ci := 7) (v := .ref (a 1)) (C := RX7) (T := TX7) (N := 16) hx hb hts iK7 hown hK hP 0 rfl rfl 0 (by decide) lk0 (fun _ h9 => h9) rfl dX7_isCaught_46 ?_
          refine lv_iload_n hx hb dX7_isCaught_49 rfl (lv_at hl 1 rfl) ?_
          refine lv_bipush (v := 46) hx hb dX7_isCaught_50 (by decide) ?_
          refine lv_iadd hx hb dX7_isCaught_52 ?_
          obtain ⟨g5, hq⟩ := hq
          refine va_iald hx hb hK hP 1 0 rfl rfl g5 dX7_isCaught_53 ?_
          obtain ⟨g6, hq⟩ := hq
          refine va_iast hx hb hK hP hD hS 1 0 rfl rfl g6 dX7_isCaught_54 (fun H locs hP hD hS => ?_)
          have hP : va_P (dC, dI) vwCl (cX7 cy a (upd z26_v_s y26_2.toNatClampNeg (z26_v_s (y26_2 + 46).toNatClampNeg)) (X7_aside v) (X7_kept v) (X7_isKept v) (X7_saved v) (X7_savedMany v) (X7_text v) (X7_length v) (X7_thrown v) (X7_joint v) (X7_position v) (X7_isWrong v) (X7_isHollow v) (X7_sure v) (X7_away v) (X7_digested v)) H := hP
          have hD : va_D A (cX7 cy a (upd z26_v_s y26_2.toNatClampNeg (z26_v_s (y26_2 + 46).toNatClampNeg)) (X7_aside v) (X7_kept v) (X7_isKept v) (X7_saved v) (X7_savedMany v) (X7_text v) (X7_length v) (X7_thrown v) (X7_joint v) (X7_position v) (X7_isWrong v) (X7_isHollow v) (X7_sure v) (X7_away v) (X7_digested v)) := hD
          refine lv_iinc (v := (y26_2 + 1)) (lv' := [(2, .int (y26_2 + 1)), (0, .ref (a 0))]) hx hb dX7_isCaught_55 hl (k := 1) rfl rfl (by decide) rfl (fun ls hl => ?_)
          refine lv_goto (tgt := 26) hx hb dX7_isCaught_58 (by decide) ?_
          exact bk26 (y26_2 + 1) (upd z26_v_s y26_2.toNatClampNeg (z26_v_s (y26_2 + 46).toNatClampNeg)) _ _ _ hq hP hD hS (lv_sub hl [1, 0] rfl)
    exact key _ y26_2 z26_v_s H locs ls h0 (Nat.lt_succ_self _) hP hD hS hl
  refine lv_aload_n hx hb dX7_isCaught_0 rfl (lv_at hl 0 rfl) ?_
  refine va_get (D := (dC, dI)) (ci := 7) (v := .ref (a 1)) (C := RX7) (T := TX7) (N := 16) hx hb hts iK7 hown hK hP 0 rfl rfl 0 (by decide) lk0 (fun _ h9 => h9) rfl dX7_isCaught_1 ?_
  refine lv_iconst (v := 1) hx hb dX7_isCaught_4 (by decide) ?_
  refine lv_dup2_11 hx hb dX7_isCaught_5 rfl rfl ?_
  obtain ⟨g8, hq⟩ := hq
  refine va_iald hx hb hK hP 1 0 rfl rfl g8 dX7_isCaught_6 ?_
  refine lv_iconst (v := 1) hx hb dX7_isCaught_7 (by decide) ?_
  refine lv_isub hx hb dX7_isCaught_8 ?_
  refine va_iast hx hb hK hP hD hS 1 0 rfl rfl g8 dX7_isCaught_9 (fun H locs hP hD hS => ?_)
  have hP : va_P (dC, dI) vwCl (cX7 cy a (upd (X7_s v) (1 : Int32).toNatClampNeg (((X7_s v) (1 : Int32).toNatClampNeg) - 1)) (X7_aside v) (X7_kept v) (X7_isKept v) (X7_saved v) (X7_savedMany v) (X7_text v) (X7_length v) (X7_thrown v) (X7_joint v) (X7_position v) (X7_isWrong v) (X7_isHollow v) (X7_sure v) (X7_away v) (X7_digested v)) H := hP
  have hD : va_D A (cX7 cy a (upd (X7_s v) (1 : Int32).toNatClampNeg (((X7_s v) (1 : Int32).toNatClampNeg) - 1)) (X7_aside v) (X7_kept v) (X7_isKept v) (X7_saved v) (X7_savedMany v) (X7_text v) (X7_length v) (X7_thrown v) (X7_joint v) (X7_position v) (X7_isWrong v) (X7_isHollow v) (X7_sure v) (X7_away v) (X7_digested v)) := hD
  refine lv_aload_n hx hb dX7_isCaught_10 rfl (lv_at hl 0 rfl) ?_
  refine va_get (D := (dC, dI)) (ci := 7) (v := .ref (a 1)) (C := RX7) (T := TX7) (N := 16) hx hb hts iK7 hown hK hP 0 rfl rfl 0 (by decide) lk0 (fun _ h9 => h9) rfl dX7_isCaught_11 ?_
  refine lv_iconst (v := 2) hx hb dX7_isCaught_14 (by decide) ?_
  refine lv_dup2_11 hx hb dX7_isCaught_15 rfl rfl ?_
  obtain ⟨g9, hq⟩ := hq
  refine va_iald hx hb hK hP 1 0 rfl rfl g9 dX7_isCaught_16 ?_
  refine lv_iconst (v := 1) hx hb dX7_isCaught_17 (by decide) ?_
  refine lv_iadd hx hb dX7_isCaught_18 ?_
  refine va_iast hx hb hK hP hD hS 1 0 rfl rfl g9 dX7_isCaught_19 (fun H locs hP hD hS => ?_)
  have hP : va_P (dC, dI) vwCl (cX7 cy a (upd (upd (X7_s v) (1 : Int32).toNatClampNeg (((X7_s v) (1 : Int32).toNatClampNeg) - 1)) (2 : Int32).toNatClampNeg (((upd (X7_s v) (1 : Int32).toNatClampNeg (((X7_s v) (1 : Int32).toNatClampNeg) - 1)) (2 : Int32).toNatClampNeg) + 1)) (X7_aside v) (X7_kept v) (X7_isKept v) (X7_saved v) (X7_savedMany v) (X7_text v) (X7_length v) (X7_thrown v) (X7_joint v) (X7_position v) (X7_isWrong v) (X7_isHollow v) (X7_sure v) (X7_away v) (X7_digested v)) H := hP
  have hD : va_D A (cX7 cy a (upd (upd (X7_s v) (1 : Int32).toNatClampNeg (((X7_s v) (1 : Int32).toNatClampNeg) - 1)) (2 : Int32).toNatClampNeg (((upd (X7_s v) (1 : Int32).toNatClampNeg (((X7_s v) (1 : Int32).toNatClampNeg) - 1)) (2 : Int32).toNatClampNeg) + 1)) (X7_aside v) (X7_kept v) (X7_isKept v) (X7_saved v) (X7_savedMany v) (X7_text v) (X7_length v) (X7_thrown v) (X7_joint v) (X7_position v) (X7_isWrong v) (X7_isHollow v) (X7_sure v) (X7_away v) (X7_digested v)) := hD
  refine lv_iload_n hx hb dX7_isCaught_20 rfl (lv_at hl 1 rfl) ?_
  refine lv_iconst (v := 0) hx hb dX7_isCaught_21 (by decide) ?_
  have hFc := xfree_none hS hAe0
  refine va_calli (va_runS (As := [.int x1, .int 0]) (rest := []) ⟨hx, hb, hml, hown, hts⟩ (c_X7_of l dC dI cy  _ x1 0 _ hq) (va_cwS 2 hts gX7_isCaught_X7_of rfl rfl rfl (by decide +kernel) ⟨Nat.le_of_ble_eq_true rfl, Nat.le_of_ble_eq_true rfl⟩) ⟨xPre_blind, xPre_of xP_nil hK (xD_nil (A := A))⟩ rfl rfl hl.1 rfl (lv_room (Nat.le_of_ble_eq_true rfl)) dX7_isCaught_22 ⟨Nat.le_of_ble_eq_true rfl, Nat.le_of_ble_eq_true rfl⟩) hS (fun q _ h => hFc q h) hFc (fun r22 u9 t H locs ht hvm hq hB hz1 hk1 hS => ?_)
  have hP := xj_none hP hk1
  refine lv_istore_n (lv' := [(2, .int r22), (0, .ref (a 0)), (1, .int x1)]) hx hb dX7_isCaught_25 rfl hl (by decide) rfl (fun ls hl => ?_)
  exact J26  r22 (upd (upd (X7_s v) (1 : Int32).toNatClampNeg (((X7_s v) (1 : Int32).toNatClampNeg) - 1)) (2 : Int32).toNatClampNeg (((upd (X7_s v) (1 : Int32).toNatClampNeg (((X7_s v) (1 : Int32).toNatClampNeg) - 1)) (2 : Int32).toNatClampNeg) + 1)) _ _ _ hq hP hD hS (lv_sub hl [1, 0] rfl)
def wp_X7_rowStep (x0 : Int32) (Q : Int32 → Prop) : Prop :=
  ((x0 = 0 → Q (-1)) ∧
  (¬ x0 = 0 → ((x0 = 2 → Q 1) ∧
  (¬ x0 = 2 → Q 0))))
def q_X7_rowStep (dC : Nat → ClassId) (dI : Nat → Nat → Nat) (cy : Nat → ClassId)  (x0 : Int32) (Q : Int32 → Prop) (A : Nat → Prop) : Array Value → State → Outcome → State → Prop := va_Qi (fun (r : Int32) (u : Unit) => Q r ) (fun (u : Unit) t => xAt dC dI cy A ([] : va_W) t) A
set_option maxHeartbeats 4000000 in
set_option maxRecDepth 100000 in
theorem c_X7_rowStep (l : Launch) (dC : Nat → ClassId) (dI : Nat → Nat → Nat) (cy : Nat → ClassId)  (sz : Nat) (x0 : Int32) (Q : Int32 → Prop) (hq : wp_X7_rowStep x0 Q) : Met l yX7_rowStep wsX7_rowStep ({ frames := 0, cells := 0, slots := 0, locals := 0 } : Room) (va_Pc [.int x0] (xPre dC dI cy ([] : va_W) sz)) (q_X7_rowStep dC dI cy  x0 Q (va_A ([] : va_W) sz)) 0 0 (va_A ([] : va_W) sz) := by
  refine Met.ofW (cc := cX7_rowStep) (maxL := 1) (ret := (some .int)) (by decide) rfl ?_
  intro p e s m args below meth c s₁ B hml hv
  obtain ⟨rfl, hsz, hP, hK, hD0⟩ := hv
  have hx := B.exec
  have hb := B.bytes
  have hr := B.returns
  have hts := atoms_spec (ws := wsX7_rowStep) B.pre
  have hown : s.vm.findClass RX7 = some m.cls := findClass_of_methodNamed B.named
  have hlocks := B.notSynchronized
  subst hsz
  have hD := hD0.self (sz := s.heap.size)
  generalize hAe : va_A ([] : va_W) s.heap.size = A at hD ⊢
  have hAe0 : ∀ q : Nat, s.heap.size ≤ q → A q := fun q h => by rw [← hAe]; exact Or.inr h
  have hS : va_S A s.heap s.heap [] := va_S.rf
  have hl := lv_entry ([.int x0]) (n := 1) (Nat.le_of_ble_eq_true rfl)
  rw [lg_entry_eq]
  generalize (lg_sl ([.int x0]) ++ List.replicate (1 - (lg_sl ([.int x0])).length) Slot.unset).toArray = ls at hl ⊢
  have hl : lv_has ls 1 [(0, .int x0)] := hl
  unfold wp_X7_rowStep at hq
  refine lv_iload_n hx hb dX7_rowStep_0 rfl (lv_at hl 0 rfl) ?_
  obtain ⟨hqA, hqB⟩ := hq
  refine lv_if_ne (tgt := 8) hx hb dX7_rowStep_1 (by decide) (fun c2 => ?_) (fun c2 => ?_)
  · have hq := hqB c2
    refine lv_iload_n hx hb dX7_rowStep_8 rfl (lv_at hl 0 rfl) ?_
    refine lv_iconst (v := 2) hx hb dX7_rowStep_9 (by decide) ?_
    obtain ⟨hqA, hqB⟩ := hq
    refine lv_icmp_ne (tgt := 17) hx hb dX7_rowStep_10 (by decide) (fun c1 => ?_) (fun c1 => ?_)
    · have hq := hqB c1
      refine lv_iconst (v := 0) hx hb dX7_rowStep_17 (by decide) ?_
      exact W.iret (v := 0) hx hb hr (fun t ht hW => ⟨⟨0, (), rfl, hq, (xAt_of hP hK hD ht hW)⟩, hS.F ht⟩) hS.2.2 dX7_rowStep_18
    · have hq := hqA c1
      refine lv_iconst (v := 1) hx hb dX7_rowStep_13 (by decide) ?_
      refine lv_goto (tgt := 18) hx hb dX7_rowStep_14 (by decide) ?_
      exact W.iret (v := 1) hx hb hr (fun t ht hW => ⟨⟨1, (), rfl, hq, (xAt_of hP hK hD ht hW)⟩, hS.F ht⟩) hS.2.2 dX7_rowStep_18
  · have hq := hqA c2
    refine lv_iconst (v := (-1)) hx hb dX7_rowStep_4 (by decide) ?_
    refine lv_goto (tgt := 18) hx hb dX7_rowStep_5 (by decide) ?_
    exact W.iret (v := (-1)) hx hb hr (fun t ht hW => ⟨⟨(-1), (), rfl, hq, (xAt_of hP hK hD ht hW)⟩, hS.F ht⟩) hS.2.2 dX7_rowStep_18
def wp_X7_columnStep (x0 : Int32) (Q : Int32 → Prop) : Prop :=
  ((x0 = 3 → Q (-1)) ∧
  (¬ x0 = 3 → ((x0 = 1 → Q 1) ∧
  (¬ x0 = 1 → Q 0))))
def q_X7_columnStep (dC : Nat → ClassId) (dI : Nat → Nat → Nat) (cy : Nat → ClassId)  (x0 : Int32) (Q : Int32 → Prop) (A : Nat → Prop) : Array Value → State → Outcome → State → Prop := va_Qi (fun (r : Int32) (u : Unit) => Q r ) (fun (u : Unit) t => xAt dC dI cy A ([] : va_W) t) A
set_option maxHeartbeats 4000000 in
set_option maxRecDepth 100000 in
theorem c_X7_columnStep (l : Launch) (dC : Nat → ClassId) (dI : Nat → Nat → Nat) (cy : Nat → ClassId)  (sz : Nat) (x0 : Int32) (Q : Int32 → Prop) (hq : wp_X7_columnStep x0 Q) : Met l yX7_columnStep wsX7_columnStep ({ frames := 0, cells := 0, slots := 0, locals := 0 } : Room) (va_Pc [.int x0] (xPre dC dI cy ([] : va_W) sz)) (q_X7_columnStep dC dI cy  x0 Q (va_A ([] : va_W) sz)) 0 0 (va_A ([] : va_W) sz) := by
  refine Met.ofW (cc := cX7_columnStep) (maxL := 1) (ret := (some .int)) (by decide) rfl ?_
  intro p e s m args below meth c s₁ B hml hv
  obtain ⟨rfl, hsz, hP, hK, hD0⟩ := hv
  have hx := B.exec
  have hb := B.bytes
  have hr := B.returns
  have hts := atoms_spec (ws := wsX7_columnStep) B.pre
  have hown : s.vm.findClass RX7 = some m.cls := findClass_of_methodNamed B.named
  have hlocks := B.notSynchronized
  subst hsz
  have hD := hD0.self (sz := s.heap.size)
  generalize hAe : va_A ([] : va_W) s.heap.size = A at hD ⊢
  have hAe0 : ∀ q : Nat, s.heap.size ≤ q → A q := fun q h => by rw [← hAe]; exact Or.inr h
  have hS : va_S A s.heap s.heap [] := va_S.rf
  have hl := lv_entry ([.int x0]) (n := 1) (Nat.le_of_ble_eq_true rfl)
  rw [lg_entry_eq]
  generalize (lg_sl ([.int x0]) ++ List.replicate (1 - (lg_sl ([.int x0])).length) Slot.unset).toArray = ls at hl ⊢
  have hl : lv_has ls 1 [(0, .int x0)] := hl
  unfold wp_X7_columnStep at hq
  refine lv_iload_n hx hb dX7_columnStep_0 rfl (lv_at hl 0 rfl) ?_
  refine lv_iconst (v := 3) hx hb dX7_columnStep_1 (by decide) ?_
  obtain ⟨hqA, hqB⟩ := hq
  refine lv_icmp_ne (tgt := 9) hx hb dX7_columnStep_2 (by decide) (fun c2 => ?_) (fun c2 => ?_)
  · have hq := hqB c2
    refine lv_iload_n hx hb dX7_columnStep_9 rfl (lv_at hl 0 rfl) ?_
    refine lv_iconst (v := 1) hx hb dX7_columnStep_10 (by decide) ?_
    obtain ⟨hqA, hqB⟩ := hq
    refine lv_icmp_ne (tgt := 18) hx hb dX7_columnStep_11 (by decide) (fun c1 => ?_) (fun c1 => ?_)
    · have hq := hqB c1
      refine lv_iconst (v := 0) hx hb dX7_columnStep_18 (by decide) ?_
      exact W.iret (v := 0) hx hb hr (fun t ht hW => ⟨⟨0, (), rfl, hq, (xAt_of hP hK hD ht hW)⟩, hS.F ht⟩) hS.2.2 dX7_columnStep_19
    · have hq := hqA c1
      refine lv_iconst (v := 1) hx hb dX7_columnStep_14 (by decide) ?_
      refine lv_goto (tgt := 19) hx hb dX7_columnStep_15 (by decide) ?_
      exact W.iret (v := 1) hx hb hr (fun t ht hW => ⟨⟨1, (), rfl, hq, (xAt_of hP hK hD ht hW)⟩, hS.F ht⟩) hS.2.2 dX7_columnStep_19
  · have hq := hqA c2
    refine lv_iconst (v := (-1)) hx hb dX7_columnStep_5 (by decide) ?_
    refine lv_goto (tgt := 19) hx hb dX7_columnStep_6 (by decide) ?_
    exact W.iret (v := (-1)) hx hb hr (fun t ht hW => ⟨⟨(-1), (), rfl, hq, (xAt_of hP hK hD ht hW)⟩, hS.F ht⟩) hS.2.2 dX7_columnStep_19
def wb_X7_takesOff_16 (v : V_X7) (x1 : Int32)  (y16_2 : Int32) (z16_v_s : (Nat → Int32)) (B16 : Int32 → (Nat → Int32) → Prop) (Q : (Nat → Int32) → Prop) : Prop :=
  wp_X7_of x1 2 (fun r23 =>
  vp_in r23 1472 ∧ (((z16_v_s r23.toNatClampNeg) ≤ y16_2 → wp_X7_of x1 2 (fun r74 =>
  vp_in r74 1472 ∧ wp_X7_of x1 (3 + (z16_v_s r74.toNatClampNeg)) (fun r79 =>
  vp_in r79 1472 ∧ Q (upd z16_v_s r79.toNatClampNeg 0)))) ∧
  (¬ (z16_v_s r23.toNatClampNeg) ≤ y16_2 → wp_X7_of x1 (3 + y16_2) (fun r38 =>
  wp_X7_of x1 ((3 + y16_2) + 1) (fun r51 =>
  vp_in r51 1472 ∧ vp_in r38 1472 ∧ B16 (y16_2 + 1) (upd z16_v_s r38.toNatClampNeg (z16_v_s r51.toNatClampNeg)))))))
def wp_X7_takesOff_16 (v : V_X7) (x1 : Int32)  (y16_2 : Int32) (z16_v_s : (Nat → Int32)) (Q : (Nat → Int32) → Prop) : Prop :=
  ∃ (I : Int32 → (Nat → Int32) → Prop) (μ : Int32 → (Nat → Int32) → Nat), I y16_2 z16_v_s ∧ ∀ (s0 : Int32) (s1 : (Nat → Int32)), I s0 s1 → wb_X7_takesOff_16 v x1  s0 s1 (fun t0 t1 => I t0 t1 ∧ μ t0 t1 < μ s0 s1) Q
def wp_X7_takesOff (v : V_X7) (x1 : Int32) (Q : (Nat → Int32) → Prop) : Prop :=
  wp_X7_of x1 2 (fun r6 =>
  vp_in r6 1472 ∧ wp_X7_takesOff_16 v x1  0 (upd (X7_s v) r6.toNatClampNeg (((X7_s v) r6.toNatClampNeg) - 1)) Q)
def q_X7_takesOff (dC : Nat → ClassId) (dI : Nat → Nat → Nat) (cy : Nat → ClassId) (a : Nat → Nat) (v : V_X7) (x1 : Int32) (Q : (Nat → Int32) → Prop) (A : Nat → Prop) : Array Value → State → Outcome → State → Prop := va_Qv (fun (u : (Nat → Int32)) => Q u) (fun (u : (Nat → Int32)) t => xAt dC dI cy A (cX7 cy a u (X7_aside v) (X7_kept v) (X7_isKept v) (X7_saved v) (X7_savedMany v) (X7_text v) (X7_length v) (X7_thrown v) (X7_joint v) (X7_position v) (X7_isWrong v) (X7_isHollow v) (X7_sure v) (X7_away v) (X7_digested v)) t) A
set_option maxHeartbeats 4000000 in
set_option maxRecDepth 100000 in
theorem c_X7_takesOff (l : Launch) (dC : Nat → ClassId) (dI : Nat → Nat → Nat) (cy : Nat → ClassId) (a : Nat → Nat) (sz : Nat) (v : V_X7) (x1 : Int32) (Q : (Nat → Int32) → Prop) (hq : wp_X7_takesOff v x1 Q) : Met l yX7_takesOff wsX7_takesOff ({ frames := 1, cells := 0, slots := 0, locals := 21 } : Room) (va_Pc [.ref (a 0), .int x1] (xPre dC dI cy (wX7 cy a v) sz)) (q_X7_takesOff dC dI cy a v x1 Q (va_A (wX7 cy a v) sz)) 0 0 (va_A (wX7 cy a v) sz) := by
  refine Met.ofW (cc := cX7_takesOff) (maxL := 3) (ret := none) (by decide) rfl ?_
  intro p e s m args below meth c s₁ B hml hv
  obtain ⟨rfl, hsz, hP, hK, hD0⟩ := hv
  have hx := B.exec
  have hb := B.bytes
  have hr := B.returns
  have hts := atoms_spec (ws := wsX7_takesOff) B.pre
  have hown : s.vm.findClass RX7 = some m.cls := findClass_of_methodNamed B.named
  have hlocks := B.notSynchronized
  subst hsz
  have hD := hD0.self (sz := s.heap.size)
  generalize hAe : va_A (wX7 cy a v) s.heap.size = A at hD ⊢
  have hAe0 : ∀ q : Nat, s.heap.size ≤ q → A q := fun q h => by rw [← hAe]; exact Or.inr h
  have hS : va_S A s.heap s.heap [] := va_S.rf
  have hl := lv_entry ([.ref (a 0), .int x1]) (n := 3) (Nat.le_of_ble_eq_true rfl)
  rw [lg_entry_eq]
  generalize (lg_sl ([.ref (a 0), .int x1]) ++ List.replicate (3 - (lg_sl ([.ref (a 0), .int x1])).length) Slot.unset).toArray = ls at hl ⊢
  have hl : lv_has ls 3 [(0, .ref (a 0)), (1, .int x1)] := hl
  have lk0 := hts (Cond.fieldLink RX7 7 "MolesLawnModel" "s" "[I") (List.mem_cons_of_mem _ (List.mem_append_left _ (List.mem_of_getElem? (i := 0) rfl)))
  have iK7 : ∀ w ∈ wsX70, w ∈ wsX7_takesOff := fun _ h => (List.mem_cons_of_mem _ (List.mem_append_right _ h))
  unfold wp_X7_takesOff at hq
  have J16 : ∀  (y16_2 : Int32) (z16_v_s : (Nat → Int32)) (H : Heap) (locs : List Loc) (ls : Array Slot), wp_X7_takesOff_16 v x1  y16_2 z16_v_s Q → va_P (dC, dI) vwCl (cX7 cy a z16_v_s (X7_aside v) (X7_kept v) (X7_isKept v) (X7_saved v) (X7_savedMany v) (X7_text v) (X7_length v) (X7_thrown v) (X7_joint v) (X7_position v) (X7_isWrong v) (X7_isHollow v) (X7_sure v) (X7_away v) (X7_digested v)) H → va_D A (cX7 cy a z16_v_s (X7_aside v) (X7_kept v) (X7_isKept v) (X7_saved v) (X7_savedMany v) (X7_text v) (X7_length v) (X7_thrown v) (X7_joint v) (X7_position v) (X7_isWrong v) (X7_isHollow v) (X7_sure v) (X7_away v) (X7_digested v)) → va_S A s.heap H locs → lv_has ls 3 [(0, .ref (a 0)), (1, .int x1), (2, .int y16_2)] → W p l e (headSpec wsX7_takesOff ({ frames := 1, cells := 0, slots := 0, locals := 21 } : Room)).room s m ([.ref (a 0), .int x1] : List Value).toArray below meth c H locs 0 0 (MQ below (q_X7_takesOff dC dI cy a v x1 Q A) ([.ref (a 0), .int x1] : List Value).toArray s 0 0 A) (F0 m 16 ls []) := by
    intro  y16_2 z16_v_s H locs ls hq hP hD hS hl
    obtain ⟨I16, μ16, h0, hs16⟩ := hq
    have key : ∀ (n : Nat) (y16_2 : Int32) (z16_v_s : (Nat → Int32)) (H : Heap) (locs : List Loc) (ls : Array Slot), I16 y16_2 z16_v_s → μ16 y16_2 z16_v_s < n → va_P (dC, dI) vwCl (cX7 cy a z16_v_s (X7_aside v) (X7_kept v) (X7_isKept v) (X7_saved v) (X7_savedMany v) (X7_text v) (X7_length v) (X7_thrown v) (X7_joint v) (X7_position v) (X7_isWrong v) (X7_isHollow v) (X7_sure v) (X7_away v) (X7_digested v)) H → va_D A (cX7 cy a z16_v_s (X7_aside v) (X7_kept v) (X7_isKept v) (X7_saved v) (X7_savedMany v) (X7_text v) (X7_length v) (X7_thrown v) (X7_joint v) (X7_position v) (X7_isWrong v) (X7_isHollow v) (X7_sure v) (X7_away v) (X7_digested v)) → va_S A s.heap H locs → lv_has ls 3 [(0, .ref (a 0)), (1, .int x1), (2, .int y16_2)] → W p l e (headSpec wsX7_takesOff ({ frames := 1, cells := 0, slots := 0, locals := 21 } : Room)).room s m ([.ref (a 0), .int x1] : List Value).toArray below meth c H locs 0 0 (MQ below (q_X7_takesOff dC dI cy a v x1 Q A) ([.ref (a 0), .int x1] : List Value).toArray s 0 0 A) (F0 m 16 ls []) := by
      intro n
      induction n with
      | zero => intro y16_2 z16_v_s H locs ls _ hm; exact absurd hm (Nat.not_lt_zero _)
      | succ n ih =>
        intro y16_2 z16_v_s H locs ls hI hm hP hD hS hl
        have hq := hs16 y16_2 z16_v_s hI
        generalize hB16 : (fun (t0 : Int32) (t1 : (Nat → Int32)) => I16 t0 t1 ∧ μ16 t0 t1 < μ16 y16_2 z16_v_s) = B16 at hq
        have bk16 : ∀ (y16_2 : Int32) (z16_v_s : (Nat → Int32)) (H : Heap) (locs : List Loc) (ls : Array Slot), B16 y16_2 z16_v_s → va_P (dC, dI) vwCl (cX7 cy a z16_v_s (X7_aside v) (X7_kept v) (X7_isKept v) (X7_saved v) (X7_savedMany v) (X7_text v) (X7_length v) (X7_thrown v) (X7_joint v) (X7_position v) (X7_isWrong v) (X7_isHollow v) (X7_sure v) (X7_away v) (X7_digested v)) H → va_D A (cX7 cy a z16_v_s (X7_aside v) (X7_kept v) (X7_isKept v) (X7_saved v) (X7_savedMany v) (X7_text v) (X7_length v) (X7_thrown v) (X7_joint v) (X7_position v) (X7_isWrong v) (X7_isHollow v) (X7_sure v) (X7_away v) (X7_digested v)) → va_S A s.heap H locs → lv_has ls 3 [(0, .ref (a 0)), (1, .int x1), (2, .int y16_2)] → W p l e (headSpec wsX7_takesOff ({ frames := 1, cells := 0, slots := 0, locals := 21 } : Room)).room s m ([.ref (a 0), .int x1] : List Value).toArray below meth c H locs 0 0 (MQ below (q_X7_takesOff dC dI cy a v x1 Q A) ([.ref (a 0), .int x1] : List Value).toArray s 0 0 A) (F0 m 16 ls []) := by
          intro y16_2 z16_v_s H locs ls h
          rw [← hB16] at h
          exact ih y16_2 z16_v_s H locs ls h.1 (Nat.lt_of_lt_of_le h.2 (Nat.le_of_lt_succ hm))
        unfold wb_X7_takesOff_16 at hq
        refine lv_iload_n hx hb dX7_takesOff_16 rfl (lv_at hl 2 rfl) ?_
        refine lv_aload_n hx hb dX7_takesOff_17 rfl (lv_at hl 0 rfl) ?_
        refine va_get (D := (dC, dI)) (ci := 7) (v := .ref (a 1)) (C := RX7) (T := TX7) (N := 16) hx hb hts iK7 hown hK hP 0 rfl rfl 0 (by decide) lk0 (fun _ h9 => h9) rfl dX7_takesOff_18 ?_
        refine lv_iload_n hx hb dX7_takesOff_21 rfl (lv_at hl 1 rfl) ?_
        refine lv_iconst (v := 2) hx hb dX7_takesOff_22 (by decide) ?_
        have hFc := xfree_none hS hAe0
        refine va_calli (va_runS (As := [.int x1, .int 2]) (rest := [.ref (a 1), .int y16_2]) ⟨hx, hb, hml, hown, hts⟩ (c_X7_of l dC dI cy  _ x1 2 _ hq) (va_cwS 2 hts gX7_takesOff_X7_of rfl rfl rfl (by decide +kernel) ⟨Nat.le_of_ble_eq_true rfl, Nat.le_of_ble_eq_true rfl⟩) ⟨xPre_blind, xPre_of xP_nil hK (xD_nil (A := A))⟩ rfl rfl hl.1 rfl (lv_room (Nat.le_of_ble_eq_true rfl)) dX7_takesOff_23 ⟨Nat.le_of_ble_eq_true rfl, Nat.le_of_ble_eq_true rfl⟩) hS (fun q _ h => hFc q h) hFc (fun r23 u9 t H locs ht hvm hq hB hz1 hk1 hS => ?_)
        have hP := xj_none hP hk1
        obtain ⟨g1, hq⟩ := hq
        refine va_iald hx hb hK hP 1 0 rfl rfl g1 dX7_takesOff_26 ?_
        obtain ⟨hqA, hqB⟩ := hq
        refine lv_icmp_ge (tgt := 62) hx hb dX7_takesOff_27 (by decide) (fun c6 => ?_) (fun c6 => ?_)
        · have hq := hqA c6
          refine lv_aload_n hx hb dX7_takesOff_62 rfl (lv_at hl 0 rfl) ?_
          refine va_get (D := (dC, dI)) (ci := 7) (v := .ref (a 1)) (C := RX7) (T := TX7) (N := 16) hx hb hts iK7 hown hK hP 0 rfl rfl 0 (by decide) lk0 (fun _ h9 => h9) rfl dX7_takesOff_63 ?_
          refine lv_iload_n hx hb dX7_takesOff_66 rfl (lv_at hl 1 rfl) ?_
          refine lv_iconst (v := 3) hx hb dX7_takesOff_67 (by decide) ?_
          refine lv_aload_n hx hb dX7_takesOff_68 rfl (lv_at hl 0 rfl) ?_
          refine va_get (D := (dC, dI)) (ci := 7) (v := .ref (a 1)) (C := RX7) (T := TX7) (N := 16) hx hb hts iK7 hown hK hP 0 rfl rfl 0 (by decide) lk0 (fun _ h9 => h9) rfl dX7_takesOff_69 ?_
          refine lv_iload_n hx hb dX7_takesOff_72 rfl (lv_at hl 1 rfl) ?_
          refine lv_iconst (v := 2) hx hb dX7_takesOff_73 (by decide) ?_
          have hFc := xfree_none hS hAe0
          refine va_calli (va_runS (As := [.int x1, .int 2]) (rest := [.ref (a 1), .int 3, .int x1, .ref (a 1)]) ⟨hx, hb, hml, hown, hts⟩ (c_X7_of l dC dI cy  _ x1 2 _ hq) (va_cwS 2 hts gX7_takesOff_X7_of rfl rfl rfl (by decide +kernel) ⟨Nat.le_of_ble_eq_true rfl, Nat.le_of_ble_eq_true rfl⟩) ⟨xPre_blind, xPre_of xP_nil hK (xD_nil (A := A))⟩ rfl rfl hl.1 rfl (lv_room (Nat.le_of_ble_eq_true rfl)) dX7_takesOff_74 ⟨Nat.le_of_ble_eq_true rfl, Nat.le_of_ble_eq_true rfl⟩) hS (fun q _ h => hFc q h) hFc (fun r74 u9 t H locs ht hvm hq hB hz1 hk1 hS => ?_)
          have hP := xj_none hP hk1
          obtain ⟨g2, hq⟩ := hq
          refine va_iald hx hb hK hP 1 0 rfl rfl g2 dX7_takesOff_77 ?_
          refine lv_iadd hx hb dX7_takesOff_78 ?_
          have hFc := xfree_none hS hAe0
          refine va_calli (va_runS (As := [.int x1, .int (3 + (z16_v_s r74.toNatClampNeg))]) (rest := [.ref (a 1)]) ⟨hx, hb, hml, hown, hts⟩ (c_X7_of l dC dI cy  _ x1 (3 + (z16_v_s r74.toNatClampNeg)) _ hq) (va_cwS 2 hts gX7_takesOff_X7_of rfl rfl rfl (by decide +kernel) ⟨Nat.le_of_ble_eq_true rfl, Nat.le_of_ble_eq_true rfl⟩) ⟨xPre_blind, xPre_of xP_nil hK (xD_nil (A := A))⟩ rfl rfl hl.1 rfl (lv_room (Nat.le_of_ble_eq_true rfl)) dX7_takesOff_79 ⟨Nat.le_of_ble_eq_true rfl, Nat.le_of_ble_eq_true rfl⟩) hS (fun q _ h => hFc q h) hFc (fun r79 u9 t H locs ht hvm hq hB hz1 hk1 hS => ?_)
          have hP := xj_none hP hk1
          refine lv_iconst (v := 0) hx hb dX7_takesOff_82 (by decide) ?_
          obtain ⟨g3, hq⟩ := hq
          refine va_iast hx hb hK hP hD hS 1 0 rfl rfl g3 dX7_takesOff_83 (fun H locs hP hD hS => ?_)
          have hP : va_P (dC, dI) vwCl (cX7 cy a (upd z16_v_s r79.toNatClampNeg 0) (X7_aside v) (X7_kept v) (X7_isKept v) (X7_saved v) (X7_savedMany v) (X7_text v) (X7_length v) (X7_thrown v) (X7_joint v) (X7_position v) (X7_isWrong v) (X7_isHollow v) (X7_sure v) (X7_away v) (X7_digested v)) H := hP
          have hD : va_D A (cX7 cy a (upd z16_v_s r79.toNatClampNeg 0) (X7_aside v) (X7_kept v) (X7_isKept v) (X7_saved v) (X7_savedMany v) (X7_text v) (X7_length v) (X7_thrown v) (X7_joint v) (X7_position v) (X7_isWrong v) (X7_isHollow v) (X7_sure v) (X7_away v) (X7_digested v)) := hD
          exact W.vret hx hb hr (fun t ht hW => ⟨⟨(upd z16_v_s r79.toNatClampNeg 0), rfl, hq, (xAt_of hP hK hD ht hW)⟩, hS.F ht⟩) hS.2.2 dX7_takesOff_84
        · have hq := hqB c6
          refine lv_aload_n hx hb dX7_takesOff_30 rfl (lv_at hl 0 rfl) ?_
          refine va_get (D := (dC, dI)) (ci := 7) (v := .ref (a 1)) (C := RX7) (T := TX7) (N := 16) hx hb hts iK7 hown hK hP 0 rfl rfl 0 (by decide) lk0 (fun _ h9 => h9) rfl dX7_takesOff_31 ?_
          refine lv_iload_n hx hb dX7_takesOff_34 rfl (lv_at hl 1 rfl) ?_
          refine lv_iconst (v := 3) hx hb dX7_takesOff_35 (by decide) ?_
          refine lv_iload_n hx hb dX7_takesOff_36 rfl (lv_at hl 2 rfl) ?_
          refine lv_iadd hx hb dX7_takesOff_37 ?_
          have hFc := xfree_none hS hAe0
          refine va_calli (va_runS (As := [.int x1, .int (3 + y16_2)]) (rest := [.ref (a 1)]) ⟨hx, hb, hml, hown, hts⟩ (c_X7_of l dC dI cy  _ x1 (3 + y16_2) _ hq) (va_cwS 2 hts gX7_takesOff_X7_of rfl rfl rfl (by decide +kernel) ⟨Nat.le_of_ble_eq_true rfl, Nat.le_of_ble_eq_true rfl⟩) ⟨xPre_blind, xPre_of xP_nil hK (xD_nil (A := A))⟩ rfl rfl hl.1 rfl (lv_room (Nat.le_of_ble_eq_true rfl)) dX7_takesOff_38 ⟨Nat.le_of_ble_eq_true rfl, Nat.le_of_ble_eq_true rfl⟩) hS (fun q _ h => hFc q h) hFc (fun r38 u9 t H locs ht hvm hq hB hz1 hk1 hS => ?_)
          have hP := xj_none hP hk1
          refine lv_aload_n hx hb dX7_takesOff_41 rfl (lv_at hl 0 rfl) ?_
          refine va_get (D := (dC, dI)) (ci := 7) (v := .ref (a 1)) (C := RX7) (T := TX7) (N := 16) hx hb hts iK7 hown hK hP 0 rfl rfl 0 (by decide) lk0 (fun _ h9 => h9) rfl dX7_takesOff_42 ?_
          refine lv_iload_n hx hb dX7_takesOff_45 rfl (lv_at hl 1 rfl) ?_
          refine lv_iconst (v := 3) hx hb dX7_takesOff_46 (by decide) ?_
          refine lv_iload_n hx hb dX7_takesOff_47 rfl (lv_at hl 2 rfl) ?_
          refine lv_iadd hx hb dX7_takesOff_48 ?_
          refine lv_iconst (v := 1) hx hb dX7_takesOff_49 (by decide) ?_
          refine lv_iadd hx hb dX7_takesOff_50 ?_
          have hFc := xfree_none hS hAe0
          refine va_calli (va_runS (As := [.int x1, .int ((3 + y16_2) + 1)]) (rest := [.ref (a 1), .int r38, .ref (a 1)]) ⟨hx, hb, hml, hown, hts⟩ (c_X7_of l dC dI cy  _ x1 ((3 + y16_2) + 1) _ hq) (va_cwS 2 hts gX7_takesOff_X7_of rfl rfl rfl (by decide +kernel) ⟨Nat.le_of_ble_eq_true rfl, Nat.le_of_ble_eq_true rfl⟩) ⟨xPre_blind, xPre_of xP_nil hK (xD_nil (A := A))⟩ rfl rfl hl.1 rfl (lv_room (Nat.le_of_ble_eq_true rfl)) dX7_takesOff_51 ⟨Nat.le_of_ble_eq_true rfl, Nat.le_of_ble_eq_true rfl⟩) hS (fun q _ h => hFc q h) hFc (fun r51 u9 t H locs ht hvm hq hB hz1 hk1 hS => ?_)
          have hP := xj_none hP hk1
          obtain ⟨g4, hq⟩ := hq
          refine va_iald hx hb hK hP 1 0 rfl rfl g4 dX7_takesOff_54 ?_
          obtain ⟨g5, hq⟩ := hq
          refine va_iast hx hb hK hP hD hS 1 0 rfl rfl g5 dX7_takesOff_55 (fun H locs hP hD hS => ?_)
          have hP : va_P (dC, dI) vwCl (cX7 cy a (upd z16_v_s r38.toNatClampNeg (z16_v_s r51.toNatClampNeg)) (X7_aside v) (X7_kept v) (X7_isKept v) (X7_saved v) (X7_savedMany v) (X7_text v) (X7_length v) (X7_thrown v) (X7_joint v) (X7_position v) (X7_isWrong v) (X7_isHollow v) (X7_sure v) (X7_away v) (X7_digested v)) H := hP
          have hD : va_D A (cX7 cy a (upd z16_v_s r38.toNatClampNeg (z16_v_s r51.toNatClampNeg)) (X7_aside v) (X7_kept v) (X7_isKept v) (X7_saved v) (X7_savedMany v) (X7_text v) (X7_length v) (X7_thrown v) (X7_joint v) (X7_position v) (X7_isWrong v) (X7_isHollow v) (X7_sure v) (X7_away v) (X7_digested v)) := hD
          refine lv_iinc (v := (y16_2 + 1)) (lv' := [(2, .int (y16_2 + 1)), (0, .ref (a 0)), (1, .int x1)]) hx hb dX7_takesOff_56 hl (k := 2) rfl rfl (by decide) rfl (fun ls hl => ?_)
          refine lv_goto (tgt := 16) hx hb dX7_takesOff_59 (by decide) ?_
          exact bk16 (y16_2 + 1) (upd z16_v_s r38.toNatClampNeg (z16_v_s r51.toNatClampNeg)) _ _ _ hq hP hD hS (lv_sub hl [1, 2, 0] rfl)
    exact key _ y16_2 z16_v_s H locs ls h0 (Nat.lt_succ_self _) hP hD hS hl
  refine lv_aload_n hx hb dX7_takesOff_0 rfl (lv_at hl 0 rfl) ?_
  refine va_get (D := (dC, dI)) (ci := 7) (v := .ref (a 1)) (C := RX7) (T := TX7) (N := 16) hx hb hts iK7 hown hK hP 0 rfl rfl 0 (by decide) lk0 (fun _ h9 => h9) rfl dX7_takesOff_1 ?_
  refine lv_iload_n hx hb dX7_takesOff_4 rfl (lv_at hl 1 rfl) ?_
  refine lv_iconst (v := 2) hx hb dX7_takesOff_5 (by decide) ?_
  have hFc := xfree_none hS hAe0
  refine va_calli (va_runS (As := [.int x1, .int 2]) (rest := [.ref (a 1)]) ⟨hx, hb, hml, hown, hts⟩ (c_X7_of l dC dI cy  _ x1 2 _ hq) (va_cwS 2 hts gX7_takesOff_X7_of rfl rfl rfl (by decide +kernel) ⟨Nat.le_of_ble_eq_true rfl, Nat.le_of_ble_eq_true rfl⟩) ⟨xPre_blind, xPre_of xP_nil hK (xD_nil (A := A))⟩ rfl rfl hl.1 rfl (lv_room (Nat.le_of_ble_eq_true rfl)) dX7_takesOff_6 ⟨Nat.le_of_ble_eq_true rfl, Nat.le_of_ble_eq_true rfl⟩) hS (fun q _ h => hFc q h) hFc (fun r6 u9 t H locs ht hvm hq hB hz1 hk1 hS => ?_)
  have hP := xj_none hP hk1
  refine lv_dup2_11 hx hb dX7_takesOff_9 rfl rfl ?_
  obtain ⟨g7, hq⟩ := hq
  refine va_iald hx hb hK hP 1 0 rfl rfl g7 dX7_takesOff_10 ?_
  refine lv_iconst (v := 1) hx hb dX7_takesOff_11 (by decide) ?_
  refine lv_isub hx hb dX7_takesOff_12 ?_
  refine va_iast hx hb hK hP hD hS 1 0 rfl rfl g7 dX7_takesOff_13 (fun H locs hP hD hS => ?_)
  have hP : va_P (dC, dI) vwCl (cX7 cy a (upd (X7_s v) r6.toNatClampNeg (((X7_s v) r6.toNatClampNeg) - 1)) (X7_aside v) (X7_kept v) (X7_isKept v) (X7_saved v) (X7_savedMany v) (X7_text v) (X7_length v) (X7_thrown v) (X7_joint v) (X7_position v) (X7_isWrong v) (X7_isHollow v) (X7_sure v) (X7_away v) (X7_digested v)) H := hP
  have hD : va_D A (cX7 cy a (upd (X7_s v) r6.toNatClampNeg (((X7_s v) r6.toNatClampNeg) - 1)) (X7_aside v) (X7_kept v) (X7_isKept v) (X7_saved v) (X7_savedMany v) (X7_text v) (X7_length v) (X7_thrown v) (X7_joint v) (X7_position v) (X7_isWrong v) (X7_isHollow v) (X7_sure v) (X7_away v) (X7_digested v)) := hD
  refine lv_iconst (v := 0) hx hb dX7_takesOff_14 (by decide) ?_
  refine lv_istore_n (lv' := [(2, .int 0), (0, .ref (a 0)), (1, .int x1)]) hx hb dX7_takesOff_15 rfl hl (by decide) rfl (fun ls hl => ?_)
  exact J16  0 (upd (X7_s v) r6.toNatClampNeg (((X7_s v) r6.toNatClampNeg) - 1)) _ _ _ hq hP hD hS (lv_sub hl [1, 2, 0] rfl)
def wp_X7_goes_88 (v : V_X7) (x1 : Int32) (x2 : Int32) (z88_v_s : (Nat → Int32)) (k88_0 : Int32) (Q : Int32 → (Nat → Int32) → Prop) : Prop :=
  vp_in (136 + x2) 1472 ∧ ((k88_0 = 0 → bz k88_0 ∧ Q k88_0 (upd z88_v_s (136 + x2).toNatClampNeg (-1))) ∧
  (¬ k88_0 = 0 → wp_X7_isCaught (X7_s0 v (upd z88_v_s (136 + x2).toNatClampNeg (-1))) x1 (fun z106_v_s =>
  bz k88_0 ∧ Q k88_0 z106_v_s)))
def wp_X7_goes (v : V_X7) (x1 : Int32) (x2 : Int32) (Q : Int32 → (Nat → Int32) → Prop) : Prop :=
  wp_X7_takesOff v x1 (fun z2_v_s =>
  wp_X7_of x1 0 (fun r11 =>
  vp_in r11 1472 ∧ wp_X7_of x1 23 (fun r30 =>
  vp_in r30 1472 ∧ wp_X7_of x1 (24 + ((upd z2_v_s r11.toNatClampNeg x2) r30.toNatClampNeg)) (fun r35 =>
  vp_in r35 1472 ∧ wp_X7_of x1 23 (fun r47 =>
  vp_in r47 1472 ∧ wp_X7_of x1 45 (fun r62 =>
  vp_in r62 1472 ∧ vp_in (136 + x2) 1472 ∧ ((((upd (upd (upd (upd z2_v_s r11.toNatClampNeg x2) r35.toNatClampNeg x2) r47.toNatClampNeg (((upd (upd z2_v_s r11.toNatClampNeg x2) r35.toNatClampNeg x2) r47.toNatClampNeg) + 1)) r62.toNatClampNeg (((upd (upd (upd z2_v_s r11.toNatClampNeg x2) r35.toNatClampNeg x2) r47.toNatClampNeg (((upd (upd z2_v_s r11.toNatClampNeg x2) r35.toNatClampNeg x2) r47.toNatClampNeg) + 1)) r62.toNatClampNeg) + 1)) (136 + x2).toNatClampNeg) = 0 → wp_X7_goes_88 v x1 x2 (upd (upd (upd (upd z2_v_s r11.toNatClampNeg x2) r35.toNatClampNeg x2) r47.toNatClampNeg (((upd (upd z2_v_s r11.toNatClampNeg x2) r35.toNatClampNeg x2) r47.toNatClampNeg) + 1)) r62.toNatClampNeg (((upd (upd (upd z2_v_s r11.toNatClampNeg x2) r35.toNatClampNeg x2) r47.toNatClampNeg (((upd (upd z2_v_s r11.toNatClampNeg x2) r35.toNatClampNeg x2) r47.toNatClampNeg) + 1)) r62.toNatClampNeg) + 1)) 1  Q) ∧
  (¬ ((upd (upd (upd (upd z2_v_s r11.toNatClampNeg x2) r35.toNatClampNeg x2) r47.toNatClampNeg (((upd (upd z2_v_s r11.toNatClampNeg x2) r35.toNatClampNeg x2) r47.toNatClampNeg) + 1)) r62.toNatClampNeg (((upd (upd (upd z2_v_s r11.toNatClampNeg x2) r35.toNatClampNeg x2) r47.toNatClampNeg (((upd (upd z2_v_s r11.toNatClampNeg x2) r35.toNatClampNeg x2) r47.toNatClampNeg) + 1)) r62.toNatClampNeg) + 1)) (136 + x2).toNatClampNeg) = 0 → wp_X7_goes_88 v x1 x2 (upd (upd (upd (upd z2_v_s r11.toNatClampNeg x2) r35.toNatClampNeg x2) r47.toNatClampNeg (((upd (upd z2_v_s r11.toNatClampNeg x2) r35.toNatClampNeg x2) r47.toNatClampNeg) + 1)) r62.toNatClampNeg (((upd (upd (upd z2_v_s r11.toNatClampNeg x2) r35.toNatClampNeg x2) r47.toNatClampNeg (((upd (upd z2_v_s r11.toNatClampNeg x2) r35.toNatClampNeg x2) r47.toNatClampNeg) + 1)) r62.toNatClampNeg) + 1)) 0  Q))))))))
def q_X7_goes (dC : Nat → ClassId) (dI : Nat → Nat → Nat) (cy : Nat → ClassId) (a : Nat → Nat) (v : V_X7) (x1 : Int32) (x2 : Int32) (Q : Int32 → (Nat → Int32) → Prop) (A : Nat → Prop) : Array Value → State → Outcome → State → Prop := va_Qi (fun (r : Int32) (u : (Nat → Int32)) => Q r u) (fun (u : (Nat → Int32)) t => xAt dC dI cy A (cX7 cy a u (X7_aside v) (X7_kept v) (X7_isKept v) (X7_saved v) (X7_savedMany v) (X7_text v) (X7_length v) (X7_thrown v) (X7_joint v) (X7_position v) (X7_isWrong v) (X7_isHollow v) (X7_sure v) (X7_away v) (X7_digested v)) t) A
set_option maxHeartbeats 4000000 in
set_option maxRecDepth 100000 in
theorem c_X7_goes (l : Launch) (dC : Nat → ClassId) (dI : Nat → Nat → Nat) (cy : Nat → ClassId) (a : Nat → Nat) (sz : Nat) (v : V_X7) (x1 : Int32) (x2 : Int32) (Q : Int32 → (Nat → Int32) → Prop) (hq : wp_X7_goes v x1 x2 Q) : Met l yX7_goes wsX7_goes ({ frames := 2, cells := 0, slots := 0, locals := 43 } : Room) (va_Pc [.ref (a 0), .int x1, .int x2] (xPre dC dI cy (wX7 cy a v) sz)) (q_X7_goes dC dI cy a v x1 x2 Q (va_A (wX7 cy a v) sz)) 0 0 (va_A (wX7 cy a v) sz) := by
  refine Met.ofW (cc := cX7_goes) (maxL := 4) (ret := (some .boolean)) (by decide) rfl ?_
  intro p e s m args below meth c s₁ B hml hv
  obtain ⟨rfl, hsz, hP, hK, hD0⟩ := hv
  have hx := B.exec
  have hb := B.bytes
  have hr := B.returns
  have hts := atoms_spec (ws := wsX7_goes) B.pre
  have hown : s.vm.findClass RX7 = some m.cls := findClass_of_methodNamed B.named
  have hlocks := B.notSynchronized
  subst hsz
  have hD := hD0.self (sz := s.heap.size)
  generalize hAe : va_A (wX7 cy a v) s.heap.size = A at hD ⊢
  have hAe0 : ∀ q : Nat, s.heap.size ≤ q → A q := fun q h => by rw [← hAe]; exact Or.inr h
  have hS : va_S A s.heap s.heap [] := va_S.rf
  have hl := lv_entry ([.ref (a 0), .int x1, .int x2]) (n := 4) (Nat.le_of_ble_eq_true rfl)
  rw [lg_entry_eq]
  generalize (lg_sl ([.ref (a 0), .int x1, .int x2]) ++ List.replicate (4 - (lg_sl ([.ref (a 0), .int x1, .int x2])).length) Slot.unset).toArray = ls at hl ⊢
  have hl : lv_has ls 4 [(0, .ref (a 0)), (1, .int x1), (2, .int x2)] := hl
  have lk0 := hts (Cond.fieldLink RX7 7 "MolesLawnModel" "s" "[I") (List.mem_cons_of_mem _ (List.mem_append_left _ (List.mem_of_getElem? (i := 0) rfl)))
  have iK7 : ∀ w ∈ wsX70, w ∈ wsX7_goes := fun _ h => (List.mem_cons_of_mem _ (List.mem_append_right _ h))
  unfold wp_X7_goes at hq
  have J88 : ∀ (z88_v_s : (Nat → Int32)) (k88_0 : Int32) (H : Heap) (locs : List Loc) (ls : Array Slot), wp_X7_goes_88 v x1 x2 z88_v_s k88_0 Q → va_P (dC, dI) vwCl (cX7 cy a z88_v_s (X7_aside v) (X7_kept v) (X7_isKept v) (X7_saved v) (X7_savedMany v) (X7_text v) (X7_length v) (X7_thrown v) (X7_joint v) (X7_position v) (X7_isWrong v) (X7_isHollow v) (X7_sure v) (X7_away v) (X7_digested v)) H → va_D A (cX7 cy a z88_v_s (X7_aside v) (X7_kept v) (X7_isKept v) (X7_saved v) (X7_savedMany v) (X7_text v) (X7_length v) (X7_thrown v) (X7_joint v) (X7_position v) (X7_isWrong v) (X7_isHollow v) (X7_sure v) (X7_away v) (X7_digested v)) → va_S A s.heap H locs → lv_has ls 4 [(0, .ref (a 0)), (1, .int x1), (2, .int x2)] → W p l e (headSpec wsX7_goes ({ frames := 2, cells := 0, slots := 0, locals := 43 } : Room)).room s m ([.ref (a 0), .int x1, .int x2] : List Value).toArray below meth c H locs 0 0 (MQ below (q_X7_goes dC dI cy a v x1 x2 Q A) ([.ref (a 0), .int x1, .int x2] : List Value).toArray s 0 0 A) (F0 m 88 ls [.int k88_0]) := by
    intro z88_v_s k88_0 H locs ls hq hP hD hS hl
    unfold wp_X7_goes_88 at hq
    refine lv_istore_n (lv' := [(3, .int k88_0), (0, .ref (a 0)), (1, .int x1), (2, .int x2)]) hx hb dX7_goes_88 rfl hl (by decide) rfl (fun ls hl => ?_)
    refine lv_aload_n hx hb dX7_goes_89 rfl (lv_at hl 1 rfl) ?_
    refine va_get (D := (dC, dI)) (ci := 7) (v := .ref (a 1)) (C := RX7) (T := TX7) (N := 16) hx hb hts iK7 hown hK hP 0 rfl rfl 0 (by decide) lk0 (fun _ h9 => h9) rfl dX7_goes_90 ?_
    refine lv_sipush (v := 136) hx hb dX7_goes_93 (by decide) ?_
    refine lv_iload_n hx hb dX7_goes_96 rfl (lv_at hl 3 rfl) ?_
    refine lv_iadd hx hb dX7_goes_97 ?_
    refine lv_iconst (v := (-1)) hx hb dX7_goes_98 (by decide) ?_
    obtain ⟨g1, hq⟩ := hq
    refine va_iast hx hb hK hP hD hS 1 0 rfl rfl g1 dX7_goes_99 (fun H locs hP hD hS => ?_)
    have hP : va_P (dC, dI) vwCl (cX7 cy a (upd z88_v_s (136 + x2).toNatClampNeg (-1)) (X7_aside v) (X7_kept v) (X7_isKept v) (X7_saved v) (X7_savedMany v) (X7_text v) (X7_length v) (X7_thrown v) (X7_joint v) (X7_position v) (X7_isWrong v) (X7_isHollow v) (X7_sure v) (X7_away v) (X7_digested v)) H := hP
    have hD : va_D A (cX7 cy a (upd z88_v_s (136 + x2).toNatClampNeg (-1)) (X7_aside v) (X7_kept v) (X7_isKept v) (X7_saved v) (X7_savedMany v) (X7_text v) (X7_length v) (X7_thrown v) (X7_joint v) (X7_position v) (X7_isWrong v) (X7_isHollow v) (X7_sure v) (X7_away v) (X7_digested v)) := hD
    refine lv_iload_n hx hb dX7_goes_100 rfl (lv_at hl 0 rfl) ?_
    obtain ⟨hqA, hqB⟩ := hq
    refine lv_if_eq (tgt := 109) hx hb dX7_goes_101 (by decide) (fun c4 => ?_) (fun c4 => ?_)
    · have hq := hqA c4
      refine lv_iload_n hx hb dX7_goes_109 rfl (lv_at hl 0 rfl) ?_
      obtain ⟨g2, hq⟩ := hq
      exact W.zret (v := k88_0) hx hb hr (bz_nar g2) (fun t ht hW => ⟨⟨k88_0, (upd z88_v_s (136 + x2).toNatClampNeg (-1)), rfl, hq, (xAt_of hP hK hD ht hW)⟩, hS.F ht⟩) hS.2.2 dX7_goes_110
    · have hq := hqB c4
      refine lv_aload_n hx hb dX7_goes_104 rfl (lv_at hl 1 rfl) ?_
      refine lv_iload_n hx hb dX7_goes_105 rfl (lv_at hl 2 rfl) ?_
      have hFc := xfree_same hS hAe0 (ws := (cX7 cy a (upd z88_v_s (136 + x2).toNatClampNeg (-1)) (X7_aside v) (X7_kept v) (X7_isKept v) (X7_saved v) (X7_savedMany v) (X7_text v) (X7_length v) (X7_thrown v) (X7_joint v) (X7_position v) (X7_isWrong v) (X7_isHollow v) (X7_sure v) (X7_away v) (X7_digested v))) hD
      refine va_callv (va_runV (As := [.int x1]) (rest := []) ⟨hx, hb, hml, hown, hts⟩ (c_X7_isCaught l dC dI cy a _ (X7_s0 v (upd z88_v_s (136 + x2).toNatClampNeg (-1))) x1 _ hq) (cwV 1 hts gX7_goes_X7_isCaught rfl rfl rfl (by decide +kernel) ⟨Nat.le_of_ble_eq_true rfl, Nat.le_of_ble_eq_true rfl⟩) ⟨xPre_blind, va_recv hK hP (ci := 7) (q0 := 0) rfl rfl, xPre_of hP hK hD⟩ rfl rfl hl.1 rfl (lv_room (Nat.le_of_ble_eq_true rfl)) dX7_goes_106 ⟨Nat.le_of_ble_eq_true rfl, Nat.le_of_ble_eq_true rfl⟩) hS (fun q _ h => hFc q h) hFc (fun z106_v_s t H locs ht hvm hq hB hz1 hk1 hS => ?_)
      obtain ⟨hP1, -, hD1⟩ := hB
      rw [ht] at hP1
      have hP : va_P (dC, dI) vwCl (cX7 cy a z106_v_s (X7_aside v) (X7_kept v) (X7_isKept v) (X7_saved v) (X7_savedMany v) (X7_text v) (X7_length v) (X7_thrown v) (X7_joint v) (X7_position v) (X7_isWrong v) (X7_isHollow v) (X7_sure v) (X7_away v) (X7_digested v)) H := hP1
      have hD : va_D A (cX7 cy a z106_v_s (X7_aside v) (X7_kept v) (X7_isKept v) (X7_saved v) (X7_savedMany v) (X7_text v) (X7_length v) (X7_thrown v) (X7_joint v) (X7_position v) (X7_isWrong v) (X7_isHollow v) (X7_sure v) (X7_away v) (X7_digested v)) := hD1.weaken (fun _ q _ h => hFc q.1 h)
      refine lv_iload_n hx hb dX7_goes_109 rfl (lv_at hl 0 rfl) ?_
      obtain ⟨g3, hq⟩ := hq
      exact W.zret (v := k88_0) hx hb hr (bz_nar g3) (fun t ht hW => ⟨⟨k88_0, z106_v_s, rfl, hq, (xAt_of hP hK hD ht hW)⟩, hS.F ht⟩) hS.2.2 dX7_goes_110
  refine lv_aload_n hx hb dX7_goes_0 rfl (lv_at hl 0 rfl) ?_
  refine lv_iload_n hx hb dX7_goes_1 rfl (lv_at hl 1 rfl) ?_
  have hFc := xfree_same hS hAe0 (ws := (wX7 cy a v)) hD
  refine va_callv (va_runV (As := [.int x1]) (rest := []) ⟨hx, hb, hml, hown, hts⟩ (c_X7_takesOff l dC dI cy a _ v x1 _ hq) (cwV 1 hts gX7_goes_X7_takesOff rfl rfl rfl (by decide +kernel) ⟨Nat.le_of_ble_eq_true rfl, Nat.le_of_ble_eq_true rfl⟩) ⟨xPre_blind, va_recv hK hP (ci := 7) (q0 := 0) rfl rfl, xPre_of hP hK hD⟩ rfl rfl hl.1 rfl (lv_room (Nat.le_of_ble_eq_true rfl)) dX7_goes_2 ⟨Nat.le_of_ble_eq_true rfl, Nat.le_of_ble_eq_true rfl⟩) hS (fun q _ h => hFc q h) hFc (fun z2_v_s t H locs ht hvm hq hB hz1 hk1 hS => ?_)
  obtain ⟨hP1, -, hD1⟩ := hB
  rw [ht] at hP1
  have hP : va_P (dC, dI) vwCl (cX7 cy a z2_v_s (X7_aside v) (X7_kept v) (X7_isKept v) (X7_saved v) (X7_savedMany v) (X7_text v) (X7_length v) (X7_thrown v) (X7_joint v) (X7_position v) (X7_isWrong v) (X7_isHollow v) (X7_sure v) (X7_away v) (X7_digested v)) H := hP1
  have hD : va_D A (cX7 cy a z2_v_s (X7_aside v) (X7_kept v) (X7_isKept v) (X7_saved v) (X7_savedMany v) (X7_text v) (X7_length v) (X7_thrown v) (X7_joint v) (X7_position v) (X7_isWrong v) (X7_isHollow v) (X7_sure v) (X7_away v) (X7_digested v)) := hD1.weaken (fun _ q _ h => hFc q.1 h)
  refine lv_aload_n hx hb dX7_goes_5 rfl (lv_at hl 0 rfl) ?_
  refine va_get (D := (dC, dI)) (ci := 7) (v := .ref (a 1)) (C := RX7) (T := TX7) (N := 16) hx hb hts iK7 hown hK hP 0 rfl rfl 0 (by decide) lk0 (fun _ h9 => h9) rfl dX7_goes_6 ?_
  refine lv_iload_n hx hb dX7_goes_9 rfl (lv_at hl 1 rfl) ?_
  refine lv_iconst (v := 0) hx hb dX7_goes_10 (by decide) ?_
  have hFc := xfree_none hS hAe0
  refine va_calli (va_runS (As := [.int x1, .int 0]) (rest := [.ref (a 1)]) ⟨hx, hb, hml, hown, hts⟩ (c_X7_of l dC dI cy  _ x1 0 _ hq) (va_cwS 2 hts gX7_goes_X7_of rfl rfl rfl (by decide +kernel) ⟨Nat.le_of_ble_eq_true rfl, Nat.le_of_ble_eq_true rfl⟩) ⟨xPre_blind, xPre_of xP_nil hK (xD_nil (A := A))⟩ rfl rfl hl.1 rfl (lv_room (Nat.le_of_ble_eq_true rfl)) dX7_goes_11 ⟨Nat.le_of_ble_eq_true rfl, Nat.le_of_ble_eq_true rfl⟩) hS (fun q _ h => hFc q h) hFc (fun r11 u9 t H locs ht hvm hq hB hz1 hk1 hS => ?_)
  have hP := xj_none hP hk1
  refine lv_iload_n hx hb dX7_goes_14 rfl (lv_at hl 2 rfl) ?_
  obtain ⟨g5, hq⟩ := hq
  refine va_iast hx hb hK hP hD hS 1 0 rfl rfl g5 dX7_goes_15 (fun H locs hP hD hS => ?_)
  have hP : va_P (dC, dI) vwCl (cX7 cy a (upd z2_v_s r11.toNatClampNeg x2) (X7_aside v) (X7_kept v) (X7_isKept v) (X7_saved v) (X7_savedMany v) (X7_text v) (X7_length v) (X7_thrown v) (X7_joint v) (X7_position v) (X7_isWrong v) (X7_isHollow v) (X7_sure v) (X7_away v) (X7_digested v)) H := hP
  have hD : va_D A (cX7 cy a (upd z2_v_s r11.toNatClampNeg x2) (X7_aside v) (X7_kept v) (X7_isKept v) (X7_saved v) (X7_savedMany v) (X7_text v) (X7_length v) (X7_thrown v) (X7_joint v) (X7_position v) (X7_isWrong v) (X7_isHollow v) (X7_sure v) (X7_away v) (X7_digested v)) := hD
  refine lv_aload_n hx hb dX7_goes_16 rfl (lv_at hl 0 rfl) ?_
  refine va_get (D := (dC, dI)) (ci := 7) (v := .ref (a 1)) (C := RX7) (T := TX7) (N := 16) hx hb hts iK7 hown hK hP 0 rfl rfl 0 (by decide) lk0 (fun _ h9 => h9) rfl dX7_goes_17 ?_
  refine lv_iload_n hx hb dX7_goes_20 rfl (lv_at hl 1 rfl) ?_
  refine lv_bipush (v := 24) hx hb dX7_goes_21 (by decide) ?_
  refine lv_aload_n hx hb dX7_goes_23 rfl (lv_at hl 0 rfl) ?_
  refine va_get (D := (dC, dI)) (ci := 7) (v := .ref (a 1)) (C := RX7) (T := TX7) (N := 16) hx hb hts iK7 hown hK hP 0 rfl rfl 0 (by decide) lk0 (fun _ h9 => h9) rfl dX7_goes_24 ?_
  refine lv_iload_n hx hb dX7_goes_27 rfl (lv_at hl 1 rfl) ?_
  refine lv_bipush (v := 23) hx hb dX7_goes_28 (by decide) ?_
  have hFc := xfree_none hS hAe0
  refine va_calli (va_runS (As := [.int x1, .int 23]) (rest := [.ref (a 1), .int 24, .int x1, .ref (a 1)]) ⟨hx, hb, hml, hown, hts⟩ (c_X7_of l dC dI cy  _ x1 23 _ hq) (va_cwS 2 hts gX7_goes_X7_of rfl rfl rfl (by decide +kernel) ⟨Nat.le_of_ble_eq_true rfl, Nat.le_of_ble_eq_true rfl⟩) ⟨xPre_blind, xPre_of xP_nil hK (xD_nil (A := A))⟩ rfl rfl hl.1 rfl (lv_room (Nat.le_of_ble_eq_true rfl)) dX7_goes_30 ⟨Nat.le_of_ble_eq_true rfl, Nat.le_of_ble_eq_true rfl⟩) hS (fun q _ h => hFc q h) hFc (fun r30 u9 t H locs ht hvm hq hB hz1 hk1 hS => ?_)
  have hP := xj_none hP hk1
  obtain ⟨g6, hq⟩ := hq
  refine va_iald hx hb hK hP 1 0 rfl rfl g6 dX7_goes_33 ?_
  refine lv_iadd hx hb dX7_goes_34 ?_
  have hFc := xfree_none hS hAe0
  refine va_calli (va_runS (As := [.int x1, .int (24 + ((upd z2_v_s r11.toNatClampNeg x2) r30.toNatClampNeg))]) (rest := [.ref (a 1)]) ⟨hx, hb, hml, hown, hts⟩ (c_X7_of l dC dI cy  _ x1 (24 + ((upd z2_v_s r11.toNatClampNeg x2) r30.toNatClampNeg)) _ hq) (va_cwS 2 hts gX7_goes_X7_of rfl rfl rfl (by decide +kernel) ⟨Nat.le_of_ble_eq_true rfl, Nat.le_of_ble_eq_true rfl⟩) ⟨xPre_blind, xPre_of xP_nil hK (xD_nil (A := A))⟩ rfl rfl hl.1 rfl (lv_room (Nat.le_of_ble_eq_true rfl)) dX7_goes_35 ⟨Nat.le_of_ble_eq_true rfl, Nat.le_of_ble_eq_true rfl⟩) hS (fun q _ h => hFc q h) hFc (fun r35 u9 t H locs ht hvm hq hB hz1 hk1 hS => ?_)
  have hP := xj_none hP hk1
  refine lv_iload_n hx hb dX7_goes_38 rfl (lv_at hl 2 rfl) ?_
  obtain ⟨g7, hq⟩ := hq
  refine va_iast hx hb hK hP hD hS 1 0 rfl rfl g7 dX7_goes_39 (fun H locs hP hD hS => ?_)
  have hP : va_P (dC, dI) vwCl (cX7 cy a (upd (upd z2_v_s r11.toNatClampNeg x2) r35.toNatClampNeg x2) (X7_aside v) (X7_kept v) (X7_isKept v) (X7_saved v) (X7_savedMany v) (X7_text v) (X7_length v) (X7_thrown v) (X7_joint v) (X7_position v) (X7_isWrong v) (X7_isHollow v) (X7_sure v) (X7_away v) (X7_digested v)) H := hP
  have hD : va_D A (cX7 cy a (upd (upd z2_v_s r11.toNatClampNeg x2) r35.toNatClampNeg x2) (X7_aside v) (X7_kept v) (X7_isKept v) (X7_saved v) (X7_savedMany v) (X7_text v) (X7_length v) (X7_thrown v) (X7_joint v) (X7_position v) (X7_isWrong v) (X7_isHollow v) (X7_sure v) (X7_away v) (X7_digested v)) := hD
  refine lv_aload_n hx hb dX7_goes_40 rfl (lv_at hl 0 rfl) ?_
  refine va_get (D := (dC, dI)) (ci := 7) (v := .ref (a 1)) (C := RX7) (T := TX7) (N := 16) hx hb hts iK7 hown hK hP 0 rfl rfl 0 (by decide) lk0 (fun _ h9 => h9) rfl dX7_goes_41 ?_
  refine lv_iload_n hx hb dX7_goes_44 rfl (lv_at hl 1 rfl) ?_
  refine lv_bipush (v := 23) hx hb dX7_goes_45 (by decide) ?_
  have hFc := xfree_none hS hAe0
  refine va_calli (va_runS (As := [.int x1, .int 23]) (rest := [.ref (a 1)]) ⟨hx, hb, hml, hown, hts⟩ (c_X7_of l dC dI cy  _ x1 23 _ hq) (va_cwS 2 hts gX7_goes_X7_of rfl rfl rfl (by decide +kernel) ⟨Nat.le_of_ble_eq_true rfl, Nat.le_of_ble_eq_true rfl⟩) ⟨xPre_blind, xPre_of xP_nil hK (xD_nil (A := A))⟩ rfl rfl hl.1 rfl (lv_room (Nat.le_of_ble_eq_true rfl)) dX7_goes_47 ⟨Nat.le_of_ble_eq_true rfl, Nat.le_of_ble_eq_true rfl⟩) hS (fun q _ h => hFc q h) hFc (fun r47 u9 t H locs ht hvm hq hB hz1 hk1 hS => ?_)
  have hP := xj_none hP hk1
  refine lv_dup2_11 hx hb dX7_goes_50 rfl rfl ?_
  obtain ⟨g8, hq⟩ := hq
  refine va_iald hx hb hK hP 1 0 rfl rfl g8 dX7_goes_51 ?_
  refine lv_iconst (v := 1) hx hb dX7_goes_52 (by decide) ?_
  refine lv_iadd hx hb dX7_goes_53 ?_
  refine va_iast hx hb hK hP hD hS 1 0 rfl rfl g8 dX7_goes_54 (fun H locs hP hD hS => ?_)
  have hP : va_P (dC, dI) vwCl (cX7 cy a (upd (upd (upd z2_v_s r11.toNatClampNeg x2) r35.toNatClampNeg x2) r47.toNatClampNeg (((upd (upd z2_v_s r11.toNatClampNeg x2) r35.toNatClampNeg x2) r47.toNatClampNeg) + 1)) (X7_aside v) (X7_kept v) (X7_isKept v) (X7_saved v) (X7_savedMany v) (X7_text v) (X7_length v) (X7_thrown v) (X7_joint v) (X7_position v) (X7_isWrong v) (X7_isHollow v) (X7_sure v) (X7_away v) (X7_digested v)) H := hP
  have hD : va_D A (cX7 cy a (upd (upd (upd z2_v_s r11.toNatClampNeg x2) r35.toNatClampNeg x2) r47.toNatClampNeg (((upd (upd z2_v_s r11.toNatClampNeg x2) r35.toNatClampNeg x2) r47.toNatClampNeg) + 1)) (X7_aside v) (X7_kept v) (X7_isKept v) (X7_saved v) (X7_savedMany v) (X7_text v) (X7_length v) (X7_thrown v) (X7_joint v) (X7_position v) (X7_isWrong v) (X7_isHollow v) (X7_sure v) (X7_away v) (X7_digested v)) := hD
  refine lv_aload_n hx hb dX7_goes_55 rfl (lv_at hl 0 rfl) ?_
  refine va_get (D := (dC, dI)) (ci := 7) (v := .ref (a 1)) (C := RX7) (T := TX7) (N := 16) hx hb hts iK7 hown hK hP 0 rfl rfl 0 (by decide) lk0 (fun _ h9 => h9) rfl dX7_goes_56 ?_
  refine lv_iload_n hx hb dX7_goes_59 rfl (lv_at hl 1 rfl) ?_
  refine lv_bipush (v := 45) hx hb dX7_goes_60 (by decide) ?_
  have hFc := xfree_none hS hAe0
  refine va_calli (va_runS (As := [.int x1, .int 45]) (rest := [.ref (a 1)]) ⟨hx, hb, hml, hown, hts⟩ (c_X7_of l dC dI cy  _ x1 45 _ hq) (va_cwS 2 hts gX7_goes_X7_of rfl rfl rfl (by decide +kernel) ⟨Nat.le_of_ble_eq_true rfl, Nat.le_of_ble_eq_true rfl⟩) ⟨xPre_blind, xPre_of xP_nil hK (xD_nil (A := A))⟩ rfl rfl hl.1 rfl (lv_room (Nat.le_of_ble_eq_true rfl)) dX7_goes_62 ⟨Nat.le_of_ble_eq_true rfl, Nat.le_of_ble_eq_true rfl⟩) hS (fun q _ h => hFc q h) hFc (fun r62 u9 t H locs ht hvm hq hB hz1 hk1 hS => ?_)
  have hP := xj_none hP hk1
  refine lv_dup2_11 hx hb dX7_goes_65 rfl rfl ?_
  obtain ⟨g9, hq⟩ := hq
  refine va_iald hx hb hK hP 1 0 rfl rfl g9 dX7_goes_66 ?_
  refine lv_iconst (v := 1) hx hb dX7_goes_67 (by decide) ?_
  refine lv_iadd hx hb dX7_goes_68 ?_
  refine va_iast hx hb hK hP hD hS 1 0 rfl rfl g9 dX7_goes_69 (fun H locs hP hD hS => ?_)
  have hP : va_P (dC, dI) vwCl (cX7 cy a (upd (upd (upd (upd z2_v_s r11.toNatClampNeg x2) r35.toNatClampNeg x2) r47.toNatClampNeg (((upd (upd z2_v_s r11.toNatClampNeg x2) r35.toNatClampNeg x2) r47.toNatClampNeg) + 1)) r62.toNatClampNeg (((upd (upd (upd z2_v_s r11.toNatClampNeg x2) r35.toNatClampNeg x2) r47.toNatClampNeg (((upd (upd z2_v_s r11.toNatClampNeg x2) r35.toNatClampNeg x2) r47.toNatClampNeg) + 1)) r62.toNatClampNeg) + 1)) (X7_aside v) (X7_kept v) (X7_isKept v) (X7_saved v) (X7_savedMany v) (X7_text v) (X7_length v) (X7_thrown v) (X7_joint v) (X7_position v) (X7_isWrong v) (X7_isHollow v) (X7_sure v) (X7_away v) (X7_digested v)) H := hP
  have hD : va_D A (cX7 cy a (upd (upd (upd (upd z2_v_s r11.toNatClampNeg x2) r35.toNatClampNeg x2) r47.toNatClampNeg (((upd (upd z2_v_s r11.toNatClampNeg x2) r35.toNatClampNeg x2) r47.toNatClampNeg) + 1)) r62.toNatClampNeg (((upd (upd (upd z2_v_s r11.toNatClampNeg x2) r35.toNatClampNeg x2) r47.toNatClampNeg (((upd (upd z2_v_s r11.toNatClampNeg x2) r35.toNatClampNeg x2) r47.toNatClampNeg) + 1)) r62.toNatClampNeg) + 1)) (X7_aside v) (X7_kept v) (X7_isKept v) (X7_saved v) (X7_savedMany v) (X7_text v) (X7_length v) (X7_thrown v) (X7_joint v) (X7_position v) (X7_isWrong v) (X7_isHollow v) (X7_sure v) (X7_away v) (X7_digested v)) := hD
  refine lv_aload_n hx hb dX7_goes_70 rfl (lv_at hl 0 rfl) ?_
  refine va_get (D := (dC, dI)) (ci := 7) (v := .ref (a 1)) (C := RX7) (T := TX7) (N := 16) hx hb hts iK7 hown hK hP 0 rfl rfl 0 (by decide) lk0 (fun _ h9 => h9) rfl dX7_goes_71 ?_
  refine lv_sipush (v := 136) hx hb dX7_goes_74 (by decide) ?_
  refine lv_iload_n hx hb dX7_goes_77 rfl (lv_at hl 2 rfl) ?_
  refine lv_iadd hx hb dX7_goes_78 ?_
  obtain ⟨g10, hq⟩ := hq
  refine va_iald hx hb hK hP 1 0 rfl rfl g10 dX7_goes_79 ?_
  obtain ⟨hqA, hqB⟩ := hq
  refine lv_if_ne (tgt := 87) hx hb dX7_goes_80 (by decide) (fun c11 => ?_) (fun c11 => ?_)
  · have hq := hqB c11
    refine lv_iconst (v := 0) hx hb dX7_goes_87 (by decide) ?_
    exact J88 (upd (upd (upd (upd z2_v_s r11.toNatClampNeg x2) r35.toNatClampNeg x2) r47.toNatClampNeg (((upd (upd z2_v_s r11.toNatClampNeg x2) r35.toNatClampNeg x2) r47.toNatClampNeg) + 1)) r62.toNatClampNeg (((upd (upd (upd z2_v_s r11.toNatClampNeg x2) r35.toNatClampNeg x2) r47.toNatClampNeg (((upd (upd z2_v_s r11.toNatClampNeg x2) r35.toNatClampNeg x2) r47.toNatClampNeg) + 1)) r62.toNatClampNeg) + 1)) 0  _ _ _ hq hP hD hS (lv_sub hl [0, 1, 2] rfl)
  · have hq := hqA c11
    refine lv_iconst (v := 1) hx hb dX7_goes_83 (by decide) ?_
    refine lv_goto (tgt := 88) hx hb dX7_goes_84 (by decide) ?_
    exact J88 (upd (upd (upd (upd z2_v_s r11.toNatClampNeg x2) r35.toNatClampNeg x2) r47.toNatClampNeg (((upd (upd z2_v_s r11.toNatClampNeg x2) r35.toNatClampNeg x2) r47.toNatClampNeg) + 1)) r62.toNatClampNeg (((upd (upd (upd z2_v_s r11.toNatClampNeg x2) r35.toNatClampNeg x2) r47.toNatClampNeg (((upd (upd z2_v_s r11.toNatClampNeg x2) r35.toNatClampNeg x2) r47.toNatClampNeg) + 1)) r62.toNatClampNeg) + 1)) 1  _ _ _ hq hP hD hS (lv_sub hl [0, 1, 2] rfl)
def wp_X7_tries_134 (v : V_X7) (x1 : Int32) (x2 : Int32) (z134_v_s : (Nat → Int32)) (Q : Int32 → (Nat → Int32) → Prop) : Prop :=
  wp_X7_of x1 1 (fun r140 =>
  vp_in 6 1472 ∧ vp_in r140 1472 ∧ Q 0 (upd z134_v_s r140.toNatClampNeg (z134_v_s (6 : Int32).toNatClampNeg)))
def wp_X7_tries_106 (v : V_X7) (x1 : Int32) (x2 : Int32) (y106_4 : Int32) (z106_v_s : (Nat → Int32)) (Q : Int32 → (Nat → Int32) → Prop) : Prop :=
  wp_X7_of x1 1 (fun r112 =>
  vp_in r112 1472 ∧ (((z106_v_s r112.toNatClampNeg) = 0 → wp_X7_hasMound (X7_s0 v z106_v_s) y106_4 (fun r122 =>
  ((r122 = 0 → wp_X7_comesUp (X7_s0 v z106_v_s) y106_4 (fun z131_v_s =>
  wp_X7_tries_134 v x1 x2 z131_v_s  Q)) ∧
  (¬ r122 = 0 → wp_X7_tries_134 v x1 x2 z106_v_s  Q)))) ∧
  (¬ (z106_v_s r112.toNatClampNeg) = 0 → Q 0 z106_v_s)))
def wp_X7_tries_73 (v : V_X7) (x1 : Int32) (x2 : Int32) (y73_3 : Int32) (z73_v_s : (Nat → Int32)) (Q : Int32 → (Nat → Int32) → Prop) : Prop :=
  wp_X7_of x1 0 (fun r79 =>
  vp_in r79 1472 ∧ ((y73_3 = 0 → wp_X7_hasMound (X7_s0 v z73_v_s) (z73_v_s r79.toNatClampNeg) (fun r92 =>
  ((r92 = 0 → wp_X7_tries_106 v x1 x2 (z73_v_s r79.toNatClampNeg) z73_v_s  Q) ∧
  (¬ r92 = 0 → wp_X7_finishes (X7_s0 v z73_v_s) x1 (fun z100_v_s =>
  Q 0 z100_v_s))))) ∧
  (¬ y73_3 = 0 → wp_X7_tries_106 v x1 x2 (z73_v_s r79.toNatClampNeg) z73_v_s  Q)))
def wp_X7_tries_31 (v : V_X7) (x1 : Int32) (x2 : Int32) (z31_v_s : (Nat → Int32)) (k31_0 : Int32) (Q : Int32 → (Nat → Int32) → Prop) : Prop :=
  ((k31_0 = 0 → wp_X7_goes (X7_s0 v z31_v_s) x1 x2 (fun r65 z65_v_s =>
  ((r65 = 0 → wp_X7_tries_73 v x1 x2 k31_0 z65_v_s  Q) ∧
  (¬ r65 = 0 → Q 1 z65_v_s)))) ∧
  (¬ k31_0 = 0 → vp_in (72 + x2) 1472 ∧ vp_in 3 1472 ∧ wp_X7_tries_73 v x1 x2 k31_0 (upd (upd z31_v_s (72 + x2).toNatClampNeg ((z31_v_s (72 + x2).toNatClampNeg) - 1)) (3 : Int32).toNatClampNeg (((upd z31_v_s (72 + x2).toNatClampNeg ((z31_v_s (72 + x2).toNatClampNeg) - 1)) (3 : Int32).toNatClampNeg) + 1))  Q))
def wp_X7_tries (v : V_X7) (x1 : Int32) (x2 : Int32) (Q : Int32 → (Nat → Int32) → Prop) : Prop :=
  wp_X7_of x1 1 (fun r6 =>
  vp_in r6 1472 ∧ vp_in (72 + x2) 1472 ∧ ((((upd (X7_s v) r6.toNatClampNeg (((X7_s v) r6.toNatClampNeg) - 1)) (72 + x2).toNatClampNeg) ≤ 0 → wp_X7_tries_31 v x1 x2 (upd (X7_s v) r6.toNatClampNeg (((X7_s v) r6.toNatClampNeg) - 1)) 0  Q) ∧
  (¬ ((upd (X7_s v) r6.toNatClampNeg (((X7_s v) r6.toNatClampNeg) - 1)) (72 + x2).toNatClampNeg) ≤ 0 → wp_X7_tries_31 v x1 x2 (upd (X7_s v) r6.toNatClampNeg (((X7_s v) r6.toNatClampNeg) - 1)) 1  Q)))
def q_X7_tries (dC : Nat → ClassId) (dI : Nat → Nat → Nat) (cy : Nat → ClassId) (a : Nat → Nat) (v : V_X7) (x1 : Int32) (x2 : Int32) (Q : Int32 → (Nat → Int32) → Prop) (A : Nat → Prop) : Array Value → State → Outcome → State → Prop := va_Qi (fun (r : Int32) (u : (Nat → Int32)) => Q r u) (fun (u : (Nat → Int32)) t => xAt dC dI cy A (cX7 cy a u (X7_aside v) (X7_kept v) (X7_isKept v) (X7_saved v) (X7_savedMany v) (X7_text v) (X7_length v) (X7_thrown v) (X7_joint v) (X7_position v) (X7_isWrong v) (X7_isHollow v) (X7_sure v) (X7_away v) (X7_digested v)) t) A
set_option maxHeartbeats 4000000 in
set_option maxRecDepth 100000 in
theorem c_X7_tries (l : Launch) (dC : Nat → ClassId) (dI : Nat → Nat → Nat) (cy : Nat → ClassId) (a : Nat → Nat) (sz : Nat) (v : V_X7) (x1 : Int32) (x2 : Int32) (Q : Int32 → (Nat → Int32) → Prop) (hq : wp_X7_tries v x1 x2 Q) : Met l yX7_tries wsX7_tries ({ frames := 4, cells := 0, slots := 0, locals := 97 } : Room) (va_Pc [.ref (a 0), .int x1, .int x2] (xPre dC dI cy (wX7 cy a v) sz)) (q_X7_tries dC dI cy a v x1 x2 Q (va_A (wX7 cy a v) sz)) 0 0 (va_A (wX7 cy a v) sz) := by
  refine Met.ofW (cc := cX7_tries) (maxL := 5) (ret := (some .boolean)) (by decide) rfl ?_
  intro p e s m args below meth c s₁ B hml hv
  obtain ⟨rfl, hsz, hP, hK, hD0⟩ := hv
  have hx := B.exec
  have hb := B.bytes
  have hr := B.returns
  have hts := atoms_spec (ws := wsX7_tries) B.pre
  have hown : s.vm.findClass RX7 = some m.cls := findClass_of_methodNamed B.named
  have hlocks := B.notSynchronized
  subst hsz
  have hD := hD0.self (sz := s.heap.size)
  generalize hAe : va_A (wX7 cy a v) s.heap.size = A at hD ⊢
  have hAe0 : ∀ q : Nat, s.heap.size ≤ q → A q := fun q h => by rw [← hAe]; exact Or.inr h
  have hS : va_S A s.heap s.heap [] := va_S.rf
  have hl := lv_entry ([.ref (a 0), .int x1, .int x2]) (n := 5) (Nat.le_of_ble_eq_true rfl)
  rw [lg_entry_eq]
  generalize (lg_sl ([.ref (a 0), .int x1, .int x2]) ++ List.replicate (5 - (lg_sl ([.ref (a 0), .int x1, .int x2])).length) Slot.unset).toArray = ls at hl ⊢
  have hl : lv_has ls 5 [(0, .ref (a 0)), (1, .int x1), (2, .int x2)] := hl
  have lk0 := hts (Cond.fieldLink RX7 7 "MolesLawnModel" "s" "[I") (List.mem_cons_of_mem _ (List.mem_append_left _ (List.mem_append_left _ (List.mem_of_getElem? (i := 0) rfl))))
  have iK7 : ∀ w ∈ wsX70, w ∈ wsX7_tries := fun _ h => (List.mem_cons_of_mem _ (List.mem_append_right _ h))
  unfold wp_X7_tries at hq
  have J134 : ∀ (z134_v_s : (Nat → Int32)) (H : Heap) (locs : List Loc) (ls : Array Slot), wp_X7_tries_134 v x1 x2 z134_v_s Q → va_P (dC, dI) vwCl (cX7 cy a z134_v_s (X7_aside v) (X7_kept v) (X7_isKept v) (X7_saved v) (X7_savedMany v) (X7_text v) (X7_length v) (X7_thrown v) (X7_joint v) (X7_position v) (X7_isWrong v) (X7_isHollow v) (X7_sure v) (X7_away v) (X7_digested v)) H → va_D A (cX7 cy a z134_v_s (X7_aside v) (X7_kept v) (X7_isKept v) (X7_saved v) (X7_savedMany v) (X7_text v) (X7_length v) (X7_thrown v) (X7_joint v) (X7_position v) (X7_isWrong v) (X7_isHollow v) (X7_sure v) (X7_away v) (X7_digested v)) → va_S A s.heap H locs → lv_has ls 5 [(0, .ref (a 0)), (1, .int x1)] → W p l e (headSpec wsX7_tries ({ frames := 4, cells := 0, slots := 0, locals := 97 } : Room)).room s m ([.ref (a 0), .int x1, .int x2] : List Value).toArray below meth c H locs 0 0 (MQ below (q_X7_tries dC dI cy a v x1 x2 Q A) ([.ref (a 0), .int x1, .int x2] : List Value).toArray s 0 0 A) (F0 m 134 ls []) := by
    intro z134_v_s H locs ls hq hP hD hS hl
    unfold wp_X7_tries_134 at hq
    refine lv_aload_n hx hb dX7_tries_134 rfl (lv_at hl 0 rfl) ?_
    refine va_get (D := (dC, dI)) (ci := 7) (v := .ref (a 1)) (C := RX7) (T := TX7) (N := 16) hx hb hts iK7 hown hK hP 0 rfl rfl 0 (by decide) lk0 (fun _ h9 => h9) rfl dX7_tries_135 ?_
    refine lv_iload_n hx hb dX7_tries_138 rfl (lv_at hl 1 rfl) ?_
    refine lv_iconst (v := 1) hx hb dX7_tries_139 (by decide) ?_
    have hFc := xfree_none hS hAe0
    refine va_calli (va_runS (As := [.int x1, .int 1]) (rest := [.ref (a 1)]) ⟨hx, hb, hml, hown, hts⟩ (c_X7_of l dC dI cy  _ x1 1 _ hq) (va_cwS 2 hts gX7_tries_X7_of rfl rfl rfl (by decide +kernel) ⟨Nat.le_of_ble_eq_true rfl, Nat.le_of_ble_eq_true rfl⟩) ⟨xPre_blind, xPre_of xP_nil hK (xD_nil (A := A))⟩ rfl rfl hl.1 rfl (lv_room (Nat.le_of_ble_eq_true rfl)) dX7_tries_140 ⟨Nat.le_of_ble_eq_true rfl, Nat.le_of_ble_eq_true rfl⟩) hS (fun q _ h => hFc q h) hFc (fun r140 u9 t H locs ht hvm hq hB hz1 hk1 hS => ?_)
    have hP := xj_none hP hk1
    refine lv_aload_n hx hb dX7_tries_143 rfl (lv_at hl 0 rfl) ?_
    refine va_get (D := (dC, dI)) (ci := 7) (v := .ref (a 1)) (C := RX7) (T := TX7) (N := 16) hx hb hts iK7 hown hK hP 0 rfl rfl 0 (by decide) lk0 (fun _ h9 => h9) rfl dX7_tries_144 ?_
    refine lv_bipush (v := 6) hx hb dX7_tries_147 (by decide) ?_
    obtain ⟨g1, hq⟩ := hq
    refine va_iald hx hb hK hP 1 0 rfl rfl g1 dX7_tries_149 ?_
    obtain ⟨g2, hq⟩ := hq
    refine va_iast hx hb hK hP hD hS 1 0 rfl rfl g2 dX7_tries_150 (fun H locs hP hD hS => ?_)
    have hP : va_P (dC, dI) vwCl (cX7 cy a (upd z134_v_s r140.toNatClampNeg (z134_v_s (6 : Int32).toNatClampNeg)) (X7_aside v) (X7_kept v) (X7_isKept v) (X7_saved v) (X7_savedMany v) (X7_text v) (X7_length v) (X7_thrown v) (X7_joint v) (X7_position v) (X7_isWrong v) (X7_isHollow v) (X7_sure v) (X7_away v) (X7_digested v)) H := hP
    have hD : va_D A (cX7 cy a (upd z134_v_s r140.toNatClampNeg (z134_v_s (6 : Int32).toNatClampNeg)) (X7_aside v) (X7_kept v) (X7_isKept v) (X7_saved v) (X7_savedMany v) (X7_text v) (X7_length v) (X7_thrown v) (X7_joint v) (X7_position v) (X7_isWrong v) (X7_isHollow v) (X7_sure v) (X7_away v) (X7_digested v)) := hD
    refine lv_iconst (v := 0) hx hb dX7_tries_151 (by decide) ?_
    exact W.zret (v := 0) hx hb hr rfl (fun t ht hW => ⟨⟨0, (upd z134_v_s r140.toNatClampNeg (z134_v_s (6 : Int32).toNatClampNeg)), rfl, hq, (xAt_of hP hK hD ht hW)⟩, hS.F ht⟩) hS.2.2 dX7_tries_152
  have J106 : ∀ (y106_4 : Int32) (z106_v_s : (Nat → Int32)) (H : Heap) (locs : List Loc) (ls : Array Slot), wp_X7_tries_106 v x1 x2 y106_4 z106_v_s Q → va_P (dC, dI) vwCl (cX7 cy a z106_v_s (X7_aside v) (X7_kept v) (X7_isKept v) (X7_saved v) (X7_savedMany v) (X7_text v) (X7_length v) (X7_thrown v) (X7_joint v) (X7_position v) (X7_isWrong v) (X7_isHollow v) (X7_sure v) (X7_away v) (X7_digested v)) H → va_D A (cX7 cy a z106_v_s (X7_aside v) (X7_kept v) (X7_isKept v) (X7_saved v) (X7_savedMany v) (X7_text v) (X7_length v) (X7_thrown v) (X7_joint v) (X7_position v) (X7_isWrong v) (X7_isHollow v) (X7_sure v) (X7_away v) (X7_digested v)) → va_S A s.heap H locs → lv_has ls 5 [(0, .ref (a 0)), (1, .int x1), (4, .int y106_4)] → W p l e (headSpec wsX7_tries ({ frames := 4, cells := 0, slots := 0, locals := 97 } : Room)).room s m ([.ref (a 0), .int x1, .int x2] : List Value).toArray below meth c H locs 0 0 (MQ below (q_X7_tries dC dI cy a v x1 x2 Q A) ([.ref (a 0), .int x1, .int x2] : List Value).toArray s 0 0 A) (F0 m 106 ls []) := by
    intro y106_4 z106_v_s H locs ls hq hP hD hS hl
    unfold wp_X7_tries_106 at hq
    refine lv_aload_n hx hb dX7_tries_106 rfl (lv_at hl 0 rfl) ?_
    refine va_get (D := (dC, dI)) (ci := 7) (v := .ref (a 1)) (C := RX7) (T := TX7) (N := 16) hx hb hts iK7 hown hK hP 0 rfl rfl 0 (by decide) lk0 (fun _ h9 => h9) rfl dX7_tries_107 ?_
    refine lv_iload_n hx hb dX7_tries_110 rfl (lv_at hl 1 rfl) ?_
    refine lv_iconst (v := 1) hx hb dX7_tries_111 (by decide) ?_
    have hFc := xfree_none hS hAe0
    refine va_calli (va_runS (As := [.int x1, .int 1]) (rest := [.ref (a 1)]) ⟨hx, hb, hml, hown, hts⟩ (c_X7_of l dC dI cy  _ x1 1 _ hq) (va_cwS 2 hts gX7_tries_X7_of rfl rfl rfl (by decide +kernel) ⟨Nat.le_of_ble_eq_true rfl, Nat.le_of_ble_eq_true rfl⟩) ⟨xPre_blind, xPre_of xP_nil hK (xD_nil (A := A))⟩ rfl rfl hl.1 rfl (lv_room (Nat.le_of_ble_eq_true rfl)) dX7_tries_112 ⟨Nat.le_of_ble_eq_true rfl, Nat.le_of_ble_eq_true rfl⟩) hS (fun q _ h => hFc q h) hFc (fun r112 u9 t H locs ht hvm hq hB hz1 hk1 hS => ?_)
    have hP := xj_none hP hk1
    obtain ⟨g3, hq⟩ := hq
    refine va_iald hx hb hK hP 1 0 rfl rfl g3 dX7_tries_115 ?_
    obtain ⟨hqA, hqB⟩ := hq
    refine lv_if_ne (tgt := 151) hx hb dX7_tries_116 (by decide) (fun c5 => ?_) (fun c5 => ?_)
    · have hq := hqB c5
      refine lv_iconst (v := 0) hx hb dX7_tries_151 (by decide) ?_
      exact W.zret (v := 0) hx hb hr rfl (fun t ht hW => ⟨⟨0, z106_v_s, rfl, hq, (xAt_of hP hK hD ht hW)⟩, hS.F ht⟩) hS.2.2 dX7_tries_152
    · have hq := hqA c5
      refine lv_aload_n hx hb dX7_tries_119 rfl (lv_at hl 0 rfl) ?_
      refine lv_iload hx hb dX7_tries_120 (lv_at hl 2 rfl) ?_
      have hFc := xfree_same hS hAe0 (ws := (cX7 cy a z106_v_s (X7_aside v) (X7_kept v) (X7_isKept v) (X7_saved v) (X7_savedMany v) (X7_text v) (X7_length v) (X7_thrown v) (X7_joint v) (X7_position v) (X7_isWrong v) (X7_isHollow v) (X7_sure v) (X7_away v) (X7_digested v))) hD
      refine va_calli (va_runV (As := [.int y106_4]) (rest := []) ⟨hx, hb, hml, hown, hts⟩ (c_X7_hasMound l dC dI cy a _ (X7_s0 v z106_v_s) y106_4 _ hq) (cwV 1 hts gX7_tries_X7_hasMound rfl rfl rfl (by decide +kernel) ⟨Nat.le_of_ble_eq_true rfl, Nat.le_of_ble_eq_true rfl⟩) ⟨xPre_blind, va_recv hK hP (ci := 7) (q0 := 0) rfl rfl, xPre_of hP hK hD⟩ rfl rfl hl.1 rfl (lv_room (Nat.le_of_ble_eq_true rfl)) dX7_tries_122 ⟨Nat.le_of_ble_eq_true rfl, Nat.le_of_ble_eq_true rfl⟩) hS (fun q _ h => hFc q h) hFc (fun r122 u9 t H locs ht hvm hq hB hz1 hk1 hS => ?_)
      obtain ⟨hP1, -, hD1⟩ := hB
      rw [ht] at hP1
      have hP : va_P (dC, dI) vwCl (cX7 cy a z106_v_s (X7_aside v) (X7_kept v) (X7_isKept v) (X7_saved v) (X7_savedMany v) (X7_text v) (X7_length v) (X7_thrown v) (X7_joint v) (X7_position v) (X7_isWrong v) (X7_isHollow v) (X7_sure v) (X7_away v) (X7_digested v)) H := hP1
      have hD : va_D A (cX7 cy a z106_v_s (X7_aside v) (X7_kept v) (X7_isKept v) (X7_saved v) (X7_savedMany v) (X7_text v) (X7_length v) (X7_thrown v) (X7_joint v) (X7_position v) (X7_isWrong v) (X7_isHollow v) (X7_sure v) (X7_away v) (X7_digested v)) := hD1.weaken (fun _ q _ h => hFc q.1 h)
      obtain ⟨hqA, hqB⟩ := hq
      refine lv_if_ne (tgt := 134) hx hb dX7_tries_125 (by decide) (fun c4 => ?_) (fun c4 => ?_)
      · have hq := hqB c4
        exact J134 z106_v_s  _ _ _ hq hP hD hS (lv_sub hl [0, 1] rfl)
      · have hq := hqA c4
        refine lv_aload_n hx hb dX7_tries_128 rfl (lv_at hl 0 rfl) ?_
        refine lv_iload hx hb dX7_tries_129 (lv_at hl 2 rfl) ?_
        have hFc := xfree_same hS hAe0 (ws := (cX7 cy a z106_v_s (X7_aside v) (X7_kept v) (X7_isKept v) (X7_saved v) (X7_savedMany v) (X7_text v) (X7_length v) (X7_thrown v) (X7_joint v) (X7_position v) (X7_isWrong v) (X7_isHollow v) (X7_sure v) (X7_away v) (X7_digested v))) hD
        refine va_callv (va_runV (As := [.int y106_4]) (rest := []) ⟨hx, hb, hml, hown, hts⟩ (c_X7_comesUp l dC dI cy a _ (X7_s0 v z106_v_s) y106_4 _ hq) (cwV 1 hts gX7_tries_X7_comesUp rfl rfl rfl (by decide +kernel) ⟨Nat.le_of_ble_eq_true rfl, Nat.le_of_ble_eq_true rfl⟩) ⟨xPre_blind, va_recv hK hP (ci := 7) (q0 := 0) rfl rfl, xPre_of hP hK hD⟩ rfl rfl hl.1 rfl (lv_room (Nat.le_of_ble_eq_true rfl)) dX7_tries_131 ⟨Nat.le_of_ble_eq_true rfl, Nat.le_of_ble_eq_true rfl⟩) hS (fun q _ h => hFc q h) hFc (fun z131_v_s t H locs ht hvm hq hB hz1 hk1 hS => ?_)
        obtain ⟨hP1, -, hD1⟩ := hB
        rw [ht] at hP1
        have hP : va_P (dC, dI) vwCl (cX7 cy a z131_v_s (X7_aside v) (X7_kept v) (X7_isKept v) (X7_saved v) (X7_savedMany v) (X7_text v) (X7_length v) (X7_thrown v) (X7_joint v) (X7_position v) (X7_isWrong v) (X7_isHollow v) (X7_sure v) (X7_away v) (X7_digested v)) H := hP1
        have hD : va_D A (cX7 cy a z131_v_s (X7_aside v) (X7_kept v) (X7_isKept v) (X7_saved v) (X7_savedMany v) (X7_text v) (X7_length v) (X7_thrown v) (X7_joint v) (X7_position v) (X7_isWrong v) (X7_isHollow v) (X7_sure v) (X7_away v) (X7_digested v)) := hD1.weaken (fun _ q _ h => hFc q.1 h)
        exact J134 z131_v_s  _ _ _ hq hP hD hS (lv_sub hl [0, 1] rfl)
  have J73 : ∀ (y73_3 : Int32) (z73_v_s : (Nat → Int32)) (H : Heap) (locs : List Loc) (ls : Array Slot), wp_X7_tries_73 v x1 x2 y73_3 z73_v_s Q → va_P (dC, dI) vwCl (cX7 cy a z73_v_s (X7_aside v) (X7_kept v) (X7_isKept v) (X7_saved v) (X7_savedMany v) (X7_text v) (X7_length v) (X7_thrown v) (X7_joint v) (X7_position v) (X7_isWrong v) (X7_isHollow v) (X7_sure v) (X7_away v) (X7_digested v)) H → va_D A (cX7 cy a z73_v_s (X7_aside v) (X7_kept v) (X7_isKept v) (X7_saved v) (X7_savedMany v) (X7_text v) (X7_length v) (X7_thrown v) (X7_joint v) (X7_position v) (X7_isWrong v) (X7_isHollow v) (X7_sure v) (X7_away v) (X7_digested v)) → va_S A s.heap H locs → lv_has ls 5 [(0, .ref (a 0)), (1, .int x1), (3, .int y73_3)] → W p l e (headSpec wsX7_tries ({ frames := 4, cells := 0, slots := 0, locals := 97 } : Room)).room s m ([.ref (a 0), .int x1, .int x2] : List Value).toArray below meth c H locs 0 0 (MQ below (q_X7_tries dC dI cy a v x1 x2 Q A) ([.ref (a 0), .int x1, .int x2] : List Value).toArray s 0 0 A) (F0 m 73 ls []) := by
    intro y73_3 z73_v_s H locs ls hq hP hD hS hl
    unfold wp_X7_tries_73 at hq
    refine lv_aload_n hx hb dX7_tries_73 rfl (lv_at hl 0 rfl) ?_
    refine va_get (D := (dC, dI)) (ci := 7) (v := .ref (a 1)) (C := RX7) (T := TX7) (N := 16) hx hb hts iK7 hown hK hP 0 rfl rfl 0 (by decide) lk0 (fun _ h9 => h9) rfl dX7_tries_74 ?_
    refine lv_iload_n hx hb dX7_tries_77 rfl (lv_at hl 1 rfl) ?_
    refine lv_iconst (v := 0) hx hb dX7_tries_78 (by decide) ?_
    have hFc := xfree_none hS hAe0
    refine va_calli (va_runS (As := [.int x1, .int 0]) (rest := [.ref (a 1)]) ⟨hx, hb, hml, hown, hts⟩ (c_X7_of l dC dI cy  _ x1 0 _ hq) (va_cwS 2 hts gX7_tries_X7_of rfl rfl rfl (by decide +kernel) ⟨Nat.le_of_ble_eq_true rfl, Nat.le_of_ble_eq_true rfl⟩) ⟨xPre_blind, xPre_of xP_nil hK (xD_nil (A := A))⟩ rfl rfl hl.1 rfl (lv_room (Nat.le_of_ble_eq_true rfl)) dX7_tries_79 ⟨Nat.le_of_ble_eq_true rfl, Nat.le_of_ble_eq_true rfl⟩) hS (fun q _ h => hFc q h) hFc (fun r79 u9 t H locs ht hvm hq hB hz1 hk1 hS => ?_)
    have hP := xj_none hP hk1
    obtain ⟨g6, hq⟩ := hq
    refine va_iald hx hb hK hP 1 0 rfl rfl g6 dX7_tries_82 ?_
    refine lv_istore (lv' := [(4, .int (z73_v_s r79.toNatClampNeg)), (0, .ref (a 0)), (1, .int x1), (3, .int y73_3)]) hx hb dX7_tries_83 hl (by decide) rfl (fun ls hl => ?_)
    refine lv_iload_n hx hb dX7_tries_85 rfl (lv_at hl 3 rfl) ?_
    obtain ⟨hqA, hqB⟩ := hq
    refine lv_if_ne (tgt := 106) hx hb dX7_tries_86 (by decide) (fun c8 => ?_) (fun c8 => ?_)
    · have hq := hqB c8
      exact J106 (z73_v_s r79.toNatClampNeg) z73_v_s  _ _ _ hq hP hD hS (lv_sub hl [1, 2, 0] rfl)
    · have hq := hqA c8
      refine lv_aload_n hx hb dX7_tries_89 rfl (lv_at hl 1 rfl) ?_
      refine lv_iload hx hb dX7_tries_90 (lv_at hl 0 rfl) ?_
      have hFc := xfree_same hS hAe0 (ws := (cX7 cy a z73_v_s (X7_aside v) (X7_kept v) (X7_isKept v) (X7_saved v) (X7_savedMany v) (X7_text v) (X7_length v) (X7_thrown v) (X7_joint v) (X7_position v) (X7_isWrong v) (X7_isHollow v) (X7_sure v) (X7_away v) (X7_digested v))) hD
      refine va_calli (va_runV (As := [.int (z73_v_s r79.toNatClampNeg)]) (rest := []) ⟨hx, hb, hml, hown, hts⟩ (c_X7_hasMound l dC dI cy a _ (X7_s0 v z73_v_s) (z73_v_s r79.toNatClampNeg) _ hq) (cwV 1 hts gX7_tries_X7_hasMound rfl rfl rfl (by decide +kernel) ⟨Nat.le_of_ble_eq_true rfl, Nat.le_of_ble_eq_true rfl⟩) ⟨xPre_blind, va_recv hK hP (ci := 7) (q0 := 0) rfl rfl, xPre_of hP hK hD⟩ rfl rfl hl.1 rfl (lv_room (Nat.le_of_ble_eq_true rfl)) dX7_tries_92 ⟨Nat.le_of_ble_eq_true rfl, Nat.le_of_ble_eq_true rfl⟩) hS (fun q _ h => hFc q h) hFc (fun r92 u9 t H locs ht hvm hq hB hz1 hk1 hS => ?_)
      obtain ⟨hP1, -, hD1⟩ := hB
      rw [ht] at hP1
      have hP : va_P (dC, dI) vwCl (cX7 cy a z73_v_s (X7_aside v) (X7_kept v) (X7_isKept v) (X7_saved v) (X7_savedMany v) (X7_text v) (X7_length v) (X7_thrown v) (X7_joint v) (X7_position v) (X7_isWrong v) (X7_isHollow v) (X7_sure v) (X7_away v) (X7_digested v)) H := hP1
      have hD : va_D A (cX7 cy a z73_v_s (X7_aside v) (X7_kept v) (X7_isKept v) (X7_saved v) (X7_savedMany v) (X7_text v) (X7_length v) (X7_thrown v) (X7_joint v) (X7_position v) (X7_isWrong v) (X7_isHollow v) (X7_sure v) (X7_away v) (X7_digested v)) := hD1.weaken (fun _ q _ h => hFc q.1 h)
      obtain ⟨hqA, hqB⟩ := hq
      refine lv_if_eq (tgt := 106) hx hb dX7_tries_95 (by decide) (fun c7 => ?_) (fun c7 => ?_)
      · have hq := hqA c7
        exact J106 (z73_v_s r79.toNatClampNeg) z73_v_s  _ _ _ hq hP hD hS (lv_sub hl [1, 2, 0] rfl)
      · have hq := hqB c7
        refine lv_aload_n hx hb dX7_tries_98 rfl (lv_at hl 1 rfl) ?_
        refine lv_iload_n hx hb dX7_tries_99 rfl (lv_at hl 2 rfl) ?_
        have hFc := xfree_same hS hAe0 (ws := (cX7 cy a z73_v_s (X7_aside v) (X7_kept v) (X7_isKept v) (X7_saved v) (X7_savedMany v) (X7_text v) (X7_length v) (X7_thrown v) (X7_joint v) (X7_position v) (X7_isWrong v) (X7_isHollow v) (X7_sure v) (X7_away v) (X7_digested v))) hD
        refine va_callv (va_runV (As := [.int x1]) (rest := []) ⟨hx, hb, hml, hown, hts⟩ (c_X7_finishes l dC dI cy a _ (X7_s0 v z73_v_s) x1 _ hq) (cwV 1 hts gX7_tries_X7_finishes rfl rfl rfl (by decide +kernel) ⟨Nat.le_of_ble_eq_true rfl, Nat.le_of_ble_eq_true rfl⟩) ⟨xPre_blind, va_recv hK hP (ci := 7) (q0 := 0) rfl rfl, xPre_of hP hK hD⟩ rfl rfl hl.1 rfl (lv_room (Nat.le_of_ble_eq_true rfl)) dX7_tries_100 ⟨Nat.le_of_ble_eq_true rfl, Nat.le_of_ble_eq_true rfl⟩) hS (fun q _ h => hFc q h) hFc (fun z100_v_s t H locs ht hvm hq hB hz1 hk1 hS => ?_)
        obtain ⟨hP1, -, hD1⟩ := hB
        rw [ht] at hP1
        have hP : va_P (dC, dI) vwCl (cX7 cy a z100_v_s (X7_aside v) (X7_kept v) (X7_isKept v) (X7_saved v) (X7_savedMany v) (X7_text v) (X7_length v) (X7_thrown v) (X7_joint v) (X7_position v) (X7_isWrong v) (X7_isHollow v) (X7_sure v) (X7_away v) (X7_digested v)) H := hP1
        have hD : va_D A (cX7 cy a z100_v_s (X7_aside v) (X7_kept v) (X7_isKept v) (X7_saved v) (X7_savedMany v) (X7_text v) (X7_length v) (X7_thrown v) (X7_joint v) (X7_position v) (X7_isWrong v) (X7_isHollow v) (X7_sure v) (X7_away v) (X7_digested v)) := hD1.weaken (fun _ q _ h => hFc q.1 h)
        refine lv_goto (tgt := 151) hx hb dX7_tries_103 (by decide) ?_
        refine lv_iconst (v := 0) hx hb dX7_tries_151 (by decide) ?_
        exact W.zret (v := 0) hx hb hr rfl (fun t ht hW => ⟨⟨0, z100_v_s, rfl, hq, (xAt_of hP hK hD ht hW)⟩, hS.F ht⟩) hS.2.2 dX7_tries_152
  have J31 : ∀ (z31_v_s : (Nat → Int32)) (k31_0 : Int32) (H : Heap) (locs : List Loc) (ls : Array Slot), wp_X7_tries_31 v x1 x2 z31_v_s k31_0 Q → va_P (dC, dI) vwCl (cX7 cy a z31_v_s (X7_aside v) (X7_kept v) (X7_isKept v) (X7_saved v) (X7_savedMany v) (X7_text v) (X7_length v) (X7_thrown v) (X7_joint v) (X7_position v) (X7_isWrong v) (X7_isHollow v) (X7_sure v) (X7_away v) (X7_digested v)) H → va_D A (cX7 cy a z31_v_s (X7_aside v) (X7_kept v) (X7_isKept v) (X7_saved v) (X7_savedMany v) (X7_text v) (X7_length v) (X7_thrown v) (X7_joint v) (X7_position v) (X7_isWrong v) (X7_isHollow v) (X7_sure v) (X7_away v) (X7_digested v)) → va_S A s.heap H locs → lv_has ls 5 [(0, .ref (a 0)), (1, .int x1), (2, .int x2)] → W p l e (headSpec wsX7_tries ({ frames := 4, cells := 0, slots := 0, locals := 97 } : Room)).room s m ([.ref (a 0), .int x1, .int x2] : List Value).toArray below meth c H locs 0 0 (MQ below (q_X7_tries dC dI cy a v x1 x2 Q A) ([.ref (a 0), .int x1, .int x2] : List Value).toArray s 0 0 A) (F0 m 31 ls [.int k31_0]) := by
    intro z31_v_s k31_0 H locs ls hq hP hD hS hl
    unfold wp_X7_tries_31 at hq
    refine lv_istore_n (lv' := [(3, .int k31_0), (0, .ref (a 0)), (1, .int x1), (2, .int x2)]) hx hb dX7_tries_31 rfl hl (by decide) rfl (fun ls hl => ?_)
    refine lv_iload_n hx hb dX7_tries_32 rfl (lv_at hl 0 rfl) ?_
    obtain ⟨hqA, hqB⟩ := hq
    refine lv_if_eq (tgt := 62) hx hb dX7_tries_33 (by decide) (fun c12 => ?_) (fun c12 => ?_)
    · have hq := hqA c12
      refine lv_aload_n hx hb dX7_tries_62 rfl (lv_at hl 1 rfl) ?_
      refine lv_iload_n hx hb dX7_tries_63 rfl (lv_at hl 2 rfl) ?_
      refine lv_iload_n hx hb dX7_tries_64 rfl (lv_at hl 3 rfl) ?_
      have hFc := xfree_same hS hAe0 (ws := (cX7 cy a z31_v_s (X7_aside v) (X7_kept v) (X7_isKept v) (X7_saved v) (X7_savedMany v) (X7_text v) (X7_length v) (X7_thrown v) (X7_joint v) (X7_position v) (X7_isWrong v) (X7_isHollow v) (X7_sure v) (X7_away v) (X7_digested v))) hD
      refine va_calli (va_runV (As := [.int x1, .int x2]) (rest := []) ⟨hx, hb, hml, hown, hts⟩ (c_X7_goes l dC dI cy a _ (X7_s0 v z31_v_s) x1 x2 _ hq) (cwV 2 hts gX7_tries_X7_goes rfl rfl rfl (by decide +kernel) ⟨Nat.le_of_ble_eq_true rfl, Nat.le_of_ble_eq_true rfl⟩) ⟨xPre_blind, va_recv hK hP (ci := 7) (q0 := 0) rfl rfl, xPre_of hP hK hD⟩ rfl rfl hl.1 rfl (lv_room (Nat.le_of_ble_eq_true rfl)) dX7_tries_65 ⟨Nat.le_of_ble_eq_true rfl, Nat.le_of_ble_eq_true rfl⟩) hS (fun q _ h => hFc q h) hFc (fun r65 z65_v_s t H locs ht hvm hq hB hz1 hk1 hS => ?_)
      obtain ⟨hP1, -, hD1⟩ := hB
      rw [ht] at hP1
      have hP : va_P (dC, dI) vwCl (cX7 cy a z65_v_s (X7_aside v) (X7_kept v) (X7_isKept v) (X7_saved v) (X7_savedMany v) (X7_text v) (X7_length v) (X7_thrown v) (X7_joint v) (X7_position v) (X7_isWrong v) (X7_isHollow v) (X7_sure v) (X7_away v) (X7_digested v)) H := hP1
      have hD : va_D A (cX7 cy a z65_v_s (X7_aside v) (X7_kept v) (X7_isKept v) (X7_saved v) (X7_savedMany v) (X7_text v) (X7_length v) (X7_thrown v) (X7_joint v) (X7_position v) (X7_isWrong v) (X7_isHollow v) (X7_sure v) (X7_away v) (X7_digested v)) := hD1.weaken (fun _ q _ h => hFc q.1 h)
      obtain ⟨hqA, hqB⟩ := hq
      refine lv_if_eq (tgt := 73) hx hb dX7_tries_68 (by decide) (fun c9 => ?_) (fun c9 => ?_)
      · have hq := hqA c9
        exact J73 k31_0 z65_v_s  _ _ _ hq hP hD hS (lv_sub hl [1, 2, 0] rfl)
      · have hq := hqB c9
        refine lv_iconst (v := 1) hx hb dX7_tries_71 (by decide) ?_
        exact W.zret (v := 1) hx hb hr rfl (fun t ht hW => ⟨⟨1, z65_v_s, rfl, hq, (xAt_of hP hK hD ht hW)⟩, hS.F ht⟩) hS.2.2 dX7_tries_72
    · have hq := hqB c12
      refine lv_aload_n hx hb dX7_tries_36 rfl (lv_at hl 1 rfl) ?_
      refine va_get (D := (dC, dI)) (ci := 7) (v := .ref (a 1)) (C := RX7) (T := TX7) (N := 16) hx hb hts iK7 hown hK hP 0 rfl rfl 0 (by decide) lk0 (fun _ h9 => h9) rfl dX7_tries_37 ?_
      refine lv_bipush (v := 72) hx hb dX7_tries_40 (by decide) ?_
      refine lv_iload_n hx hb dX7_tries_42 rfl (lv_at hl 3 rfl) ?_
      refine lv_iadd hx hb dX7_tries_43 ?_
      refine lv_dup2_11 hx hb dX7_tries_44 rfl rfl ?_
      obtain ⟨g10, hq⟩ := hq
      refine va_iald hx hb hK hP 1 0 rfl rfl g10 dX7_tries_45 ?_
      refine lv_iconst (v := 1) hx hb dX7_tries_46 (by decide) ?_
      refine lv_isub hx hb dX7_tries_47 ?_
      refine va_iast hx hb hK hP hD hS 1 0 rfl rfl g10 dX7_tries_48 (fun H locs hP hD hS => ?_)
      have hP : va_P (dC, dI) vwCl (cX7 cy a (upd z31_v_s (72 + x2).toNatClampNeg ((z31_v_s (72 + x2).toNatClampNeg) - 1)) (X7_aside v) (X7_kept v) (X7_isKept v) (X7_saved v) (X7_savedMany v) (X7_text v) (X7_length v) (X7_thrown v) (X7_joint v) (X7_position v) (X7_isWrong v) (X7_isHollow v) (X7_sure v) (X7_away v) (X7_digested v)) H := hP
      have hD : va_D A (cX7 cy a (upd z31_v_s (72 + x2).toNatClampNeg ((z31_v_s (72 + x2).toNatClampNeg) - 1)) (X7_aside v) (X7_kept v) (X7_isKept v) (X7_saved v) (X7_savedMany v) (X7_text v) (X7_length v) (X7_thrown v) (X7_joint v) (X7_position v) (X7_isWrong v) (X7_isHollow v) (X7_sure v) (X7_away v) (X7_digested v)) := hD
      refine lv_aload_n hx hb dX7_tries_49 rfl (lv_at hl 1 rfl) ?_
      refine va_get (D := (dC, dI)) (ci := 7) (v := .ref (a 1)) (C := RX7) (T := TX7) (N := 16) hx hb hts iK7 hown hK hP 0 rfl rfl 0 (by decide) lk0 (fun _ h9 => h9) rfl dX7_tries_50 ?_
      refine lv_iconst (v := 3) hx hb dX7_tries_53 (by decide) ?_
      refine lv_dup2_11 hx hb dX7_tries_54 rfl rfl ?_
      obtain ⟨g11, hq⟩ := hq
      refine va_iald hx hb hK hP 1 0 rfl rfl g11 dX7_tries_55 ?_
      refine lv_iconst (v := 1) hx hb dX7_tries_56 (by decide) ?_
      refine lv_iadd hx hb dX7_tries_57 ?_
      refine va_iast hx hb hK hP hD hS 1 0 rfl rfl g11 dX7_tries_58 (fun H locs hP hD hS => ?_)
      have hP : va_P (dC, dI) vwCl (cX7 cy a (upd (upd z31_v_s (72 + x2).toNatClampNeg ((z31_v_s (72 + x2).toNatClampNeg) - 1)) (3 : Int32).toNatClampNeg (((upd z31_v_s (72 + x2).toNatClampNeg ((z31_v_s (72 + x2).toNatClampNeg) - 1)) (3 : Int32).toNatClampNeg) + 1)) (X7_aside v) (X7_kept v) (X7_isKept v) (X7_saved v) (X7_savedMany v) (X7_text v) (X7_length v) (X7_thrown v) (X7_joint v) (X7_position v) (X7_isWrong v) (X7_isHollow v) (X7_sure v) (X7_away v) (X7_digested v)) H := hP
      have hD : va_D A (cX7 cy a (upd (upd z31_v_s (72 + x2).toNatClampNeg ((z31_v_s (72 + x2).toNatClampNeg) - 1)) (3 : Int32).toNatClampNeg (((upd z31_v_s (72 + x2).toNatClampNeg ((z31_v_s (72 + x2).toNatClampNeg) - 1)) (3 : Int32).toNatClampNeg) + 1)) (X7_aside v) (X7_kept v) (X7_isKept v) (X7_saved v) (X7_savedMany v) (X7_text v) (X7_length v) (X7_thrown v) (X7_joint v) (X7_position v) (X7_isWrong v) (X7_isHollow v) (X7_sure v) (X7_away v) (X7_digested v)) := hD
      refine lv_goto (tgt := 73) hx hb dX7_tries_59 (by decide) ?_
      exact J73 k31_0 (upd (upd z31_v_s (72 + x2).toNatClampNeg ((z31_v_s (72 + x2).toNatClampNeg) - 1)) (3 : Int32).toNatClampNeg (((upd z31_v_s (72 + x2).toNatClampNeg ((z31_v_s (72 + x2).toNatClampNeg) - 1)) (3 : Int32).toNatClampNeg) + 1))  _ _ _ hq hP hD hS (lv_sub hl [1, 2, 0] rfl)
  refine lv_aload_n hx hb dX7_tries_0 rfl (lv_at hl 0 rfl) ?_
  refine va_get (D := (dC, dI)) (ci := 7) (v := .ref (a 1)) (C := RX7) (T := TX7) (N := 16) hx hb hts iK7 hown hK hP 0 rfl rfl 0 (by decide) lk0 (fun _ h9 => h9) rfl dX7_tries_1 ?_
  refine lv_iload_n hx hb dX7_tries_4 rfl (lv_at hl 1 rfl) ?_
  refine lv_iconst (v := 1) hx hb dX7_tries_5 (by decide) ?_
  have hFc := xfree_none hS hAe0
  refine va_calli (va_runS (As := [.int x1, .int 1]) (rest := [.ref (a 1)]) ⟨hx, hb, hml, hown, hts⟩ (c_X7_of l dC dI cy  _ x1 1 _ hq) (va_cwS 2 hts gX7_tries_X7_of rfl rfl rfl (by decide +kernel) ⟨Nat.le_of_ble_eq_true rfl, Nat.le_of_ble_eq_true rfl⟩) ⟨xPre_blind, xPre_of xP_nil hK (xD_nil (A := A))⟩ rfl rfl hl.1 rfl (lv_room (Nat.le_of_ble_eq_true rfl)) dX7_tries_6 ⟨Nat.le_of_ble_eq_true rfl, Nat.le_of_ble_eq_true rfl⟩) hS (fun q _ h => hFc q h) hFc (fun r6 u9 t H locs ht hvm hq hB hz1 hk1 hS => ?_)
  have hP := xj_none hP hk1
  refine lv_dup2_11 hx hb dX7_tries_9 rfl rfl ?_
  obtain ⟨g13, hq⟩ := hq
  refine va_iald hx hb hK hP 1 0 rfl rfl g13 dX7_tries_10 ?_
  refine lv_iconst (v := 1) hx hb dX7_tries_11 (by decide) ?_
  refine lv_isub hx hb dX7_tries_12 ?_
  refine va_iast hx hb hK hP hD hS 1 0 rfl rfl g13 dX7_tries_13 (fun H locs hP hD hS => ?_)
  have hP : va_P (dC, dI) vwCl (cX7 cy a (upd (X7_s v) r6.toNatClampNeg (((X7_s v) r6.toNatClampNeg) - 1)) (X7_aside v) (X7_kept v) (X7_isKept v) (X7_saved v) (X7_savedMany v) (X7_text v) (X7_length v) (X7_thrown v) (X7_joint v) (X7_position v) (X7_isWrong v) (X7_isHollow v) (X7_sure v) (X7_away v) (X7_digested v)) H := hP
  have hD : va_D A (cX7 cy a (upd (X7_s v) r6.toNatClampNeg (((X7_s v) r6.toNatClampNeg) - 1)) (X7_aside v) (X7_kept v) (X7_isKept v) (X7_saved v) (X7_savedMany v) (X7_text v) (X7_length v) (X7_thrown v) (X7_joint v) (X7_position v) (X7_isWrong v) (X7_isHollow v) (X7_sure v) (X7_away v) (X7_digested v)) := hD
  refine lv_aload_n hx hb dX7_tries_14 rfl (lv_at hl 0 rfl) ?_
  refine va_get (D := (dC, dI)) (ci := 7) (v := .ref (a 1)) (C := RX7) (T := TX7) (N := 16) hx hb hts iK7 hown hK hP 0 rfl rfl 0 (by decide) lk0 (fun _ h9 => h9) rfl dX7_tries_15 ?_
  refine lv_bipush (v := 72) hx hb dX7_tries_18 (by decide) ?_
  refine lv_iload_n hx hb dX7_tries_20 rfl (lv_at hl 2 rfl) ?_
  refine lv_iadd hx hb dX7_tries_21 ?_
  obtain ⟨g14, hq⟩ := hq
  refine va_iald hx hb hK hP 1 0 rfl rfl g14 dX7_tries_22 ?_
  obtain ⟨hqA, hqB⟩ := hq
  refine lv_if_le (tgt := 30) hx hb dX7_tries_23 (by decide) (fun c15 => ?_) (fun c15 => ?_)
  · have hq := hqA c15
    refine lv_iconst (v := 0) hx hb dX7_tries_30 (by decide) ?_
    exact J31 (upd (X7_s v) r6.toNatClampNeg (((X7_s v) r6.toNatClampNeg) - 1)) 0  _ _ _ hq hP hD hS (lv_sub hl [0, 1, 2] rfl)
  · have hq := hqB c15
    refine lv_iconst (v := 1) hx hb dX7_tries_26 (by decide) ?_
    refine lv_goto (tgt := 31) hx hb dX7_tries_27 (by decide) ?_
    exact J31 (upd (X7_s v) r6.toNatClampNeg (((X7_s v) r6.toNatClampNeg) - 1)) 1  _ _ _ hq hP hD hS (lv_sub hl [0, 1, 2] rfl)
def wp_X7_acts_86 (v : V_X7) (x1 : Int32)  (Q : Int32 → (Nat → Int32) → Prop) : Prop :=
  wp_X7_takesOff v x1 (fun z88_v_s =>
  Q 0 z88_v_s)
def wp_X7_acts (v : V_X7) (x1 : Int32) (Q : Int32 → (Nat → Int32) → Prop) : Prop :=
  wp_X7_of x1 2 (fun r6 =>
  vp_in r6 1472 ∧ ((((X7_s v) r6.toNatClampNeg) = 0 → Q 0 (X7_s v)) ∧
  (¬ ((X7_s v) r6.toNatClampNeg) = 0 → wp_X7_of x1 3 (fun r21 =>
  vp_in r21 1472 ∧ wp_X7_of x1 0 (fun r32 =>
  vp_in r32 1472 ∧ wp_X7_rowStep ((X7_s v) r21.toNatClampNeg) (fun r40 =>
  wp_X7_of x1 0 (fun r51 =>
  vp_in r51 1472 ∧ wp_X7_columnStep ((X7_s v) r21.toNatClampNeg) (fun r59 =>
  wp_X7_in ((((X7_s v) r32.toNatClampNeg) / 8) + r40) 0 7 (fun r69 =>
  ((r69 = 0 → wp_X7_acts_86 v x1   Q) ∧
  (¬ r69 = 0 → wp_X7_in ((((X7_s v) r51.toNatClampNeg) - ((X7_s v) r51.toNatClampNeg) / 8 * 8) + r59) 0 7 (fun r80 =>
  ((r80 = 0 → wp_X7_acts_86 v x1   Q) ∧
  (¬ r80 = 0 → wp_X7_tries v x1 ((8 * ((((X7_s v) r32.toNatClampNeg) / 8) + r40)) + ((((X7_s v) r51.toNatClampNeg) - ((X7_s v) r51.toNatClampNeg) / 8 * 8) + r59)) (fun r102 z102_v_s =>
  bz r102 ∧ Q r102 z102_v_s)))))))))))))))
def q_X7_acts (dC : Nat → ClassId) (dI : Nat → Nat → Nat) (cy : Nat → ClassId) (a : Nat → Nat) (v : V_X7) (x1 : Int32) (Q : Int32 → (Nat → Int32) → Prop) (A : Nat → Prop) : Array Value → State → Outcome → State → Prop := va_Qi (fun (r : Int32) (u : (Nat → Int32)) => Q r u) (fun (u : (Nat → Int32)) t => xAt dC dI cy A (cX7 cy a u (X7_aside v) (X7_kept v) (X7_isKept v) (X7_saved v) (X7_savedMany v) (X7_text v) (X7_length v) (X7_thrown v) (X7_joint v) (X7_position v) (X7_isWrong v) (X7_isHollow v) (X7_sure v) (X7_away v) (X7_digested v)) t) A
set_option maxHeartbeats 4000000 in
set_option maxRecDepth 100000 in
theorem c_X7_acts (l : Launch) (dC : Nat → ClassId) (dI : Nat → Nat → Nat) (cy : Nat → ClassId) (a : Nat → Nat) (sz : Nat) (v : V_X7) (x1 : Int32) (Q : Int32 → (Nat → Int32) → Prop) (hq : wp_X7_acts v x1 Q) : Met l yX7_acts wsX7_acts ({ frames := 5, cells := 0, slots := 0, locals := 121 } : Room) (va_Pc [.ref (a 0), .int x1] (xPre dC dI cy (wX7 cy a v) sz)) (q_X7_acts dC dI cy a v x1 Q (va_A (wX7 cy a v) sz)) 0 0 (va_A (wX7 cy a v) sz) := by
  refine Met.ofW (cc := cX7_acts) (maxL := 5) (ret := (some .boolean)) (by decide) rfl ?_
  intro p e s m args below meth c s₁ B hml hv
  obtain ⟨rfl, hsz, hP, hK, hD0⟩ := hv
  have hx := B.exec
  have hb := B.bytes
  have hr := B.returns
  have hts := atoms_spec (ws := wsX7_acts) B.pre
  have hown : s.vm.findClass RX7 = some m.cls := findClass_of_methodNamed B.named
  have hlocks := B.notSynchronized
  subst hsz
  have hD := hD0.self (sz := s.heap.size)
  generalize hAe : va_A (wX7 cy a v) s.heap.size = A at hD ⊢
  have hAe0 : ∀ q : Nat, s.heap.size ≤ q → A q := fun q h => by rw [← hAe]; exact Or.inr h
  have hS : va_S A s.heap s.heap [] := va_S.rf
  have hl := lv_entry ([.ref (a 0), .int x1]) (n := 5) (Nat.le_of_ble_eq_true rfl)
  rw [lg_entry_eq]
  generalize (lg_sl ([.ref (a 0), .int x1]) ++ List.replicate (5 - (lg_sl ([.ref (a 0), .int x1])).length) Slot.unset).toArray = ls at hl ⊢
  have hl : lv_has ls 5 [(0, .ref (a 0)), (1, .int x1)] := hl
  have lk0 := hts (Cond.fieldLink RX7 7 "MolesLawnModel" "s" "[I") (List.mem_cons_of_mem _ (List.mem_append_left _ (List.mem_append_left _ (List.mem_of_getElem? (i := 0) rfl))))
  have iK7 : ∀ w ∈ wsX70, w ∈ wsX7_acts := fun _ h => (List.mem_cons_of_mem _ (List.mem_append_right _ h))
  unfold wp_X7_acts at hq
  have J86 : ∀  (H : Heap) (locs : List Loc) (ls : Array Slot), wp_X7_acts_86 v x1  Q → va_P (dC, dI) vwCl (wX7 cy a v) H → va_D A (wX7 cy a v) → va_S A s.heap H locs → lv_has ls 5 [(0, .ref (a 0)), (1, .int x1)] → W p l e (headSpec wsX7_acts ({ frames := 5, cells := 0, slots := 0, locals := 121 } : Room)).room s m ([.ref (a 0), .int x1] : List Value).toArray below meth c H locs 0 0 (MQ below (q_X7_acts dC dI cy a v x1 Q A) ([.ref (a 0), .int x1] : List Value).toArray s 0 0 A) (F0 m 86 ls []) := by
    intro  H locs ls hq hP hD hS hl
    unfold wp_X7_acts_86 at hq
    refine lv_aload_n hx hb dX7_acts_86 rfl (lv_at hl 0 rfl) ?_
    refine lv_iload_n hx hb dX7_acts_87 rfl (lv_at hl 1 rfl) ?_
    have hFc := xfree_same hS hAe0 (ws := (wX7 cy a v)) hD
    refine va_callv (va_runV (As := [.int x1]) (rest := []) ⟨hx, hb, hml, hown, hts⟩ (c_X7_takesOff l dC dI cy a _ v x1 _ hq) (cwV 1 hts gX7_acts_X7_takesOff rfl rfl rfl (by decide +kernel) ⟨Nat.le_of_ble_eq_true rfl, Nat.le_of_ble_eq_true rfl⟩) ⟨xPre_blind, va_recv hK hP (ci := 7) (q0 := 0) rfl rfl, xPre_of hP hK hD⟩ rfl rfl hl.1 rfl (lv_room (Nat.le_of_ble_eq_true rfl)) dX7_acts_88 ⟨Nat.le_of_ble_eq_true rfl, Nat.le_of_ble_eq_true rfl⟩) hS (fun q _ h => hFc q h) hFc (fun z88_v_s t H locs ht hvm hq hB hz1 hk1 hS => ?_)
    obtain ⟨hP1, -, hD1⟩ := hB
    rw [ht] at hP1
    have hP : va_P (dC, dI) vwCl (cX7 cy a z88_v_s (X7_aside v) (X7_kept v) (X7_isKept v) (X7_saved v) (X7_savedMany v) (X7_text v) (X7_length v) (X7_thrown v) (X7_joint v) (X7_position v) (X7_isWrong v) (X7_isHollow v) (X7_sure v) (X7_away v) (X7_digested v)) H := hP1
    have hD : va_D A (cX7 cy a z88_v_s (X7_aside v) (X7_kept v) (X7_isKept v) (X7_saved v) (X7_savedMany v) (X7_text v) (X7_length v) (X7_thrown v) (X7_joint v) (X7_position v) (X7_isWrong v) (X7_isHollow v) (X7_sure v) (X7_away v) (X7_digested v)) := hD1.weaken (fun _ q _ h => hFc q.1 h)
    refine lv_iconst (v := 0) hx hb dX7_acts_91 (by decide) ?_
    exact W.zret (v := 0) hx hb hr rfl (fun t ht hW => ⟨⟨0, z88_v_s, rfl, hq, (xAt_of hP hK hD ht hW)⟩, hS.F ht⟩) hS.2.2 dX7_acts_92
  refine lv_aload_n hx hb dX7_acts_0 rfl (lv_at hl 0 rfl) ?_
  refine va_get (D := (dC, dI)) (ci := 7) (v := .ref (a 1)) (C := RX7) (T := TX7) (N := 16) hx hb hts iK7 hown hK hP 0 rfl rfl 0 (by decide) lk0 (fun _ h9 => h9) rfl dX7_acts_1 ?_
  refine lv_iload_n hx hb dX7_acts_4 rfl (lv_at hl 1 rfl) ?_
  refine lv_iconst (v := 2) hx hb dX7_acts_5 (by decide) ?_
  have hFc := xfree_none hS hAe0
  refine va_calli (va_runS (As := [.int x1, .int 2]) (rest := [.ref (a 1)]) ⟨hx, hb, hml, hown, hts⟩ (c_X7_of l dC dI cy  _ x1 2 _ hq) (va_cwS 2 hts gX7_acts_X7_of rfl rfl rfl (by decide +kernel) ⟨Nat.le_of_ble_eq_true rfl, Nat.le_of_ble_eq_true rfl⟩) ⟨xPre_blind, xPre_of xP_nil hK (xD_nil (A := A))⟩ rfl rfl hl.1 rfl (lv_room (Nat.le_of_ble_eq_true rfl)) dX7_acts_6 ⟨Nat.le_of_ble_eq_true rfl, Nat.le_of_ble_eq_true rfl⟩) hS (fun q _ h => hFc q h) hFc (fun r6 u9 t H locs ht hvm hq hB hz1 hk1 hS => ?_)
  have hP := xj_none hP hk1
  obtain ⟨g1, hq⟩ := hq
  refine va_iald hx hb hK hP 1 0 rfl rfl g1 dX7_acts_9 ?_
  obtain ⟨hqA, hqB⟩ := hq
  refine lv_if_ne (tgt := 15) hx hb dX7_acts_10 (by decide) (fun c8 => ?_) (fun c8 => ?_)
  · have hq := hqB c8
    refine lv_aload_n hx hb dX7_acts_15 rfl (lv_at hl 0 rfl) ?_
    refine va_get (D := (dC, dI)) (ci := 7) (v := .ref (a 1)) (C := RX7) (T := TX7) (N := 16) hx hb hts iK7 hown hK hP 0 rfl rfl 0 (by decide) lk0 (fun _ h9 => h9) rfl dX7_acts_16 ?_
    refine lv_iload_n hx hb dX7_acts_19 rfl (lv_at hl 1 rfl) ?_
    refine lv_iconst (v := 3) hx hb dX7_acts_20 (by decide) ?_
    have hFc := xfree_none hS hAe0
    refine va_calli (va_runS (As := [.int x1, .int 3]) (rest := [.ref (a 1)]) ⟨hx, hb, hml, hown, hts⟩ (c_X7_of l dC dI cy  _ x1 3 _ hq) (va_cwS 2 hts gX7_acts_X7_of rfl rfl rfl (by decide +kernel) ⟨Nat.le_of_ble_eq_true rfl, Nat.le_of_ble_eq_true rfl⟩) ⟨xPre_blind, xPre_of xP_nil hK (xD_nil (A := A))⟩ rfl rfl hl.1 rfl (lv_room (Nat.le_of_ble_eq_true rfl)) dX7_acts_21 ⟨Nat.le_of_ble_eq_true rfl, Nat.le_of_ble_eq_true rfl⟩) hS (fun q _ h => hFc q h) hFc (fun r21 u9 t H locs ht hvm hq hB hz1 hk1 hS => ?_)
    have hP := xj_none hP hk1
    obtain ⟨g2, hq⟩ := hq
    refine va_iald hx hb hK hP 1 0 rfl rfl g2 dX7_acts_24 ?_
    refine lv_istore_n (lv' := [(2, .int ((X7_s v) r21.toNatClampNeg)), (0, .ref (a 0)), (1, .int x1)]) hx hb dX7_acts_25 rfl hl (by decide) rfl (fun ls hl => ?_)
    refine lv_aload_n hx hb dX7_acts_26 rfl (lv_at hl 1 rfl) ?_
    refine va_get (D := (dC, dI)) (ci := 7) (v := .ref (a 1)) (C := RX7) (T := TX7) (N := 16) hx hb hts iK7 hown hK hP 0 rfl rfl 0 (by decide) lk0 (fun _ h9 => h9) rfl dX7_acts_27 ?_
    refine lv_iload_n hx hb dX7_acts_30 rfl (lv_at hl 2 rfl) ?_
    refine lv_iconst (v := 0) hx hb dX7_acts_31 (by decide) ?_
    have hFc := xfree_none hS hAe0
    refine va_calli (va_runS (As := [.int x1, .int 0]) (rest := [.ref (a 1)]) ⟨hx, hb, hml, hown, hts⟩ (c_X7_of l dC dI cy  _ x1 0 _ hq) (va_cwS 2 hts gX7_acts_X7_of rfl rfl rfl (by decide +kernel) ⟨Nat.le_of_ble_eq_true rfl, Nat.le_of_ble_eq_true rfl⟩) ⟨xPre_blind, xPre_of xP_nil hK (xD_nil (A := A))⟩ rfl rfl hl.1 rfl (lv_room (Nat.le_of_ble_eq_true rfl)) dX7_acts_32 ⟨Nat.le_of_ble_eq_true rfl, Nat.le_of_ble_eq_true rfl⟩) hS (fun q _ h => hFc q h) hFc (fun r32 u9 t H locs ht hvm hq hB hz1 hk1 hS => ?_)
    have hP := xj_none hP hk1
    obtain ⟨g3, hq⟩ := hq
    refine va_iald hx hb hK hP 1 0 rfl rfl g3 dX7_acts_35 ?_
    refine lv_bipush (v := 8) hx hb dX7_acts_36 (by decide) ?_
    refine lv_idiv hx hb dX7_acts_38 (by decide) ?_
    refine lv_iload_n hx hb dX7_acts_39 rfl (lv_at hl 0 rfl) ?_
    have hFc := xfree_none hS hAe0
    refine va_calli (va_runS (As := [.int ((X7_s v) r21.toNatClampNeg)]) (rest := [.int (((X7_s v) r32.toNatClampNeg) / 8)]) ⟨hx, hb, hml, hown, hts⟩ (c_X7_rowStep l dC dI cy  _ ((X7_s v) r21.toNatClampNeg) _ hq) (va_cwS 1 hts gX7_acts_X7_rowStep rfl rfl rfl (by decide +kernel) ⟨Nat.le_of_ble_eq_true rfl, Nat.le_of_ble_eq_true rfl⟩) ⟨xPre_blind, xPre_of xP_nil hK (xD_nil (A := A))⟩ rfl rfl hl.1 rfl (lv_room (Nat.le_of_ble_eq_true rfl)) dX7_acts_40 ⟨Nat.le_of_ble_eq_true rfl, Nat.le_of_ble_eq_true rfl⟩) hS (fun q _ h => hFc q h) hFc (fun r40 u9 t H locs ht hvm hq hB hz1 hk1 hS => ?_)
    have hP := xj_none hP hk1
    refine lv_iadd hx hb dX7_acts_43 ?_
    refine lv_istore_n (lv' := [(3, .int ((((X7_s v) r32.toNatClampNeg) / 8) + r40)), (2, .int ((X7_s v) r21.toNatClampNeg)), (0, .ref (a 0)), (1, .int x1)]) hx hb dX7_acts_44 rfl hl (by decide) rfl (fun ls hl => ?_)
    refine lv_aload_n hx hb dX7_acts_45 rfl (lv_at hl 2 rfl) ?_
    refine va_get (D := (dC, dI)) (ci := 7) (v := .ref (a 1)) (C := RX7) (T := TX7) (N := 16) hx hb hts iK7 hown hK hP 0 rfl rfl 0 (by decide) lk0 (fun _ h9 => h9) rfl dX7_acts_46 ?_
    refine lv_iload_n hx hb dX7_acts_49 rfl (lv_at hl 3 rfl) ?_
    refine lv_iconst (v := 0) hx hb dX7_acts_50 (by decide) ?_
    have hFc := xfree_none hS hAe0
    refine va_calli (va_runS (As := [.int x1, .int 0]) (rest := [.ref (a 1)]) ⟨hx, hb, hml, hown, hts⟩ (c_X7_of l dC dI cy  _ x1 0 _ hq) (va_cwS 2 hts gX7_acts_X7_of rfl rfl rfl (by decide +kernel) ⟨Nat.le_of_ble_eq_true rfl, Nat.le_of_ble_eq_true rfl⟩) ⟨xPre_blind, xPre_of xP_nil hK (xD_nil (A := A))⟩ rfl rfl hl.1 rfl (lv_room (Nat.le_of_ble_eq_true rfl)) dX7_acts_51 ⟨Nat.le_of_ble_eq_true rfl, Nat.le_of_ble_eq_true rfl⟩) hS (fun q _ h => hFc q h) hFc (fun r51 u9 t H locs ht hvm hq hB hz1 hk1 hS => ?_)
    have hP := xj_none hP hk1
    obtain ⟨g4, hq⟩ := hq
    refine va_iald hx hb hK hP 1 0 rfl rfl g4 dX7_acts_54 ?_
    refine lv_bipush (v := 8) hx hb dX7_acts_55 (by decide) ?_
    refine lv_irem hx hb dX7_acts_57 (by decide) ?_
    refine lv_iload_n hx hb dX7_acts_58 rfl (lv_at hl 1 rfl) ?_
    have hFc := xfree_none hS hAe0
    refine va_calli (va_runS (As := [.int ((X7_s v) r21.toNatClampNeg)]) (rest := [.int (((X7_s v) r51.toNatClampNeg) - ((X7_s v) r51.toNatClampNeg) / 8 * 8)]) ⟨hx, hb, hml, hown, hts⟩ (c_X7_columnStep l dC dI cy  _ ((X7_s v) r21.toNatClampNeg) _ hq) (va_cwS 1 hts gX7_acts_X7_columnStep rfl rfl rfl (by decide +kernel) ⟨Nat.le_of_ble_eq_true rfl, Nat.le_of_ble_eq_true rfl⟩) ⟨xPre_blind, xPre_of xP_nil hK (xD_nil (A := A))⟩ rfl rfl hl.1 rfl (lv_room (Nat.le_of_ble_eq_true rfl)) dX7_acts_59 ⟨Nat.le_of_ble_eq_true rfl, Nat.le_of_ble_eq_true rfl⟩) hS (fun q _ h => hFc q h) hFc (fun r59 u9 t H locs ht hvm hq hB hz1 hk1 hS => ?_)
    have hP := xj_none hP hk1
    refine lv_iadd hx hb dX7_acts_62 ?_
    refine lv_istore (lv' := [(4, .int ((((X7_s v) r51.toNatClampNeg) - ((X7_s v) r51.toNatClampNeg) / 8 * 8) + r59)), (3, .int ((((X7_s v) r32.toNatClampNeg) / 8) + r40)), (2, .int ((X7_s v) r21.toNatClampNeg)), (0, .ref (a 0)), (1, .int x1)]) hx hb dX7_acts_63 hl (by decide) rfl (fun ls hl => ?_)
    refine lv_iload_n hx hb dX7_acts_65 rfl (lv_at hl 1 rfl) ?_
    refine lv_iconst (v := 0) hx hb dX7_acts_66 (by decide) ?_
    refine lv_bipush (v := 7) hx hb dX7_acts_67 (by decide) ?_
    have hFc := xfree_none hS hAe0
    refine va_calli (va_runS (As := [.int ((((X7_s v) r32.toNatClampNeg) / 8) + r40), .int 0, .int 7]) (rest := []) ⟨hx, hb, hml, hown, hts⟩ (c_X7_in l dC dI cy  _ ((((X7_s v) r32.toNatClampNeg) / 8) + r40) 0 7 _ hq) (va_cwS 3 hts gX7_acts_X7_in rfl rfl rfl (by decide +kernel) ⟨Nat.le_of_ble_eq_true rfl, Nat.le_of_ble_eq_true rfl⟩) ⟨xPre_blind, xPre_of xP_nil hK (xD_nil (A := A))⟩ rfl rfl hl.1 rfl (lv_room (Nat.le_of_ble_eq_true rfl)) dX7_acts_69 ⟨Nat.le_of_ble_eq_true rfl, Nat.le_of_ble_eq_true rfl⟩) hS (fun q _ h => hFc q h) hFc (fun r69 u9 t H locs ht hvm hq hB hz1 hk1 hS => ?_)
    have hP := xj_none hP hk1
    obtain ⟨hqA, hqB⟩ := hq
    refine lv_if_eq (tgt := 86) hx hb dX7_acts_72 (by decide) (fun c7 => ?_) (fun c7 => ?_)
    · have hq := hqA c7
      exact J86   _ _ _ hq hP hD hS (lv_sub hl [3, 4] rfl)
    · have hq := hqB c7
      refine lv_iload hx hb dX7_acts_75 (lv_at hl 0 rfl) ?_
      refine lv_iconst (v := 0) hx hb dX7_acts_77 (by decide) ?_
      refine lv_bipush (v := 7) hx hb dX7_acts_78 (by decide) ?_
      have hFc := xfree_none hS hAe0
      refine va_calli (va_runS (As := [.int ((((X7_s v) r51.toNatClampNeg) - ((X7_s v) r51.toNatClampNeg) / 8 * 8) + r59), .int 0, .int 7]) (rest := []) ⟨hx, hb, hml, hown, hts⟩ (c_X7_in l dC dI cy  _ ((((X7_s v) r51.toNatClampNeg) - ((X7_s v) r51.toNatClampNeg) / 8 * 8) + r59) 0 7 _ hq) (va_cwS 3 hts gX7_acts_X7_in rfl rfl rfl (by decide +kernel) ⟨Nat.le_of_ble_eq_true rfl, Nat.le_of_ble_eq_true rfl⟩) ⟨xPre_blind, xPre_of xP_nil hK (xD_nil (A := A))⟩ rfl rfl hl.1 rfl (lv_room (Nat.le_of_ble_eq_true rfl)) dX7_acts_80 ⟨Nat.le_of_ble_eq_true rfl, Nat.le_of_ble_eq_true rfl⟩) hS (fun q _ h => hFc q h) hFc (fun r80 u9 t H locs ht hvm hq hB hz1 hk1 hS => ?_)
      have hP := xj_none hP hk1
      obtain ⟨hqA, hqB⟩ := hq
      refine lv_if_ne (tgt := 93) hx hb dX7_acts_83 (by decide) (fun c6 => ?_) (fun c6 => ?_)
      · have hq := hqB c6
        refine lv_aload_n hx hb dX7_acts_93 rfl (lv_at hl 3 rfl) ?_
        refine lv_iload_n hx hb dX7_acts_94 rfl (lv_at hl 4 rfl) ?_
        refine lv_bipush (v := 8) hx hb dX7_acts_95 (by decide) ?_
        refine lv_iload_n hx hb dX7_acts_97 rfl (lv_at hl 1 rfl) ?_
        refine lv_imul hx hb dX7_acts_98 ?_
        refine lv_iload hx hb dX7_acts_99 (lv_at hl 0 rfl) ?_
        refine lv_iadd hx hb dX7_acts_101 ?_
        have hFc := xfree_same hS hAe0 (ws := (wX7 cy a v)) hD
        refine va_calli (va_runV (As := [.int x1, .int ((8 * ((((X7_s v) r32.toNatClampNeg) / 8) + r40)) + ((((X7_s v) r51.toNatClampNeg) - ((X7_s v) r51.toNatClampNeg) / 8 * 8) + r59))]) (rest := []) ⟨hx, hb, hml, hown, hts⟩ (c_X7_tries l dC dI cy a _ v x1 ((8 * ((((X7_s v) r32.toNatClampNeg) / 8) + r40)) + ((((X7_s v) r51.toNatClampNeg) - ((X7_s v) r51.toNatClampNeg) / 8 * 8) + r59)) _ hq) (cwV 2 hts gX7_acts_X7_tries rfl rfl rfl (by decide +kernel) ⟨Nat.le_of_ble_eq_true rfl, Nat.le_of_ble_eq_true rfl⟩) ⟨xPre_blind, va_recv hK hP (ci := 7) (q0 := 0) rfl rfl, xPre_of hP hK hD⟩ rfl rfl hl.1 rfl (lv_room (Nat.le_of_ble_eq_true rfl)) dX7_acts_102 ⟨Nat.le_of_ble_eq_true rfl, Nat.le_of_ble_eq_true rfl⟩) hS (fun q _ h => hFc q h) hFc (fun r102 z102_v_s t H locs ht hvm hq hB hz1 hk1 hS => ?_)
        obtain ⟨hP1, -, hD1⟩ := hB
        rw [ht] at hP1
        have hP : va_P (dC, dI) vwCl (cX7 cy a z102_v_s (X7_aside v) (X7_kept v) (X7_isKept v) (X7_saved v) (X7_savedMany v) (X7_text v) (X7_length v) (X7_thrown v) (X7_joint v) (X7_position v) (X7_isWrong v) (X7_isHollow v) (X7_sure v) (X7_away v) (X7_digested v)) H := hP1
        have hD : va_D A (cX7 cy a z102_v_s (X7_aside v) (X7_kept v) (X7_isKept v) (X7_saved v) (X7_savedMany v) (X7_text v) (X7_length v) (X7_thrown v) (X7_joint v) (X7_position v) (X7_isWrong v) (X7_isHollow v) (X7_sure v) (X7_away v) (X7_digested v)) := hD1.weaken (fun _ q _ h => hFc q.1 h)
        obtain ⟨g5, hq⟩ := hq
        exact W.zret (v := r102) hx hb hr (bz_nar g5) (fun t ht hW => ⟨⟨r102, z102_v_s, rfl, hq, (xAt_of hP hK hD ht hW)⟩, hS.F ht⟩) hS.2.2 dX7_acts_105
      · have hq := hqA c6
        exact J86   _ _ _ hq hP hD hS (lv_sub hl [3, 4] rfl)
  · have hq := hqA c8
    refine lv_iconst (v := 0) hx hb dX7_acts_13 (by decide) ?_
    exact W.zret (v := 0) hx hb hr rfl (fun t ht hW => ⟨⟨0, (X7_s v), rfl, hq, (xAt_of hP hK hD ht hW)⟩, hS.F ht⟩) hS.2.2 dX7_acts_14
