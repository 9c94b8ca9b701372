abbrev V_X7 : Type := (Nat → Int32) × (Nat → Int32) × (Nat → Int32) × Int32 × (Nat → Int32) × Int32 × (Nat → Int32) × Int32 × Int32 × (Nat → Int32) × Int32 × Int32 × (Nat → Int32) × (Nat → Int32) × (Nat → Int32) × Int64
abbrev X7_s (v : V_X7) : Nat → Int32 := v.1
abbrev X7_aside (v : V_X7) : Nat → Int32 := v.2.1
abbrev X7_kept (v : V_X7) : Nat → Int32 := v.2.2.1
abbrev X7_isKept (v : V_X7) : Int32 := v.2.2.2.1
abbrev X7_saved (v : V_X7) : Nat → Int32 := v.2.2.2.2.1
abbrev X7_savedMany (v : V_X7) : Int32 := v.2.2.2.2.2.1
abbrev X7_text (v : V_X7) : Nat → Int32 := v.2.2.2.2.2.2.1
abbrev X7_length (v : V_X7) : Int32 := v.2.2.2.2.2.2.2.1
abbrev X7_thrown (v : V_X7) : Int32 := v.2.2.2.2.2.2.2.2.1
abbrev X7_joint (v : V_X7) : Nat → Int32 := v.2.2.2.2.2.2.2.2.2.1
abbrev X7_position (v : V_X7) : Int32 := v.2.2.2.2.2.2.2.2.2.2.1
abbrev X7_isWrong (v : V_X7) : Int32 := v.2.2.2.2.2.2.2.2.2.2.2.1
abbrev X7_isHollow (v : V_X7) : Nat → Int32 := v.2.2.2.2.2.2.2.2.2.2.2.2.1
abbrev X7_sure (v : V_X7) : Nat → Int32 := v.2.2.2.2.2.2.2.2.2.2.2.2.2.1
abbrev X7_away (v : V_X7) : Nat → Int32 := v.2.2.2.2.2.2.2.2.2.2.2.2.2.2.1
abbrev X7_digested (v : V_X7) : Int64 := v.2.2.2.2.2.2.2.2.2.2.2.2.2.2.2
abbrev cX7 (cy : Nat → ClassId) (a : Nat → Nat) (v : V_X7) : va_W := [(a 0, .inr (7, [.ref (a 1), .ref (a 2), .ref (a 3), .int v.2.2.2.1, .ref (a 4), .int v.2.2.2.2.2.1, .ref (a 5), .int v.2.2.2.2.2.2.2.1, .int v.2.2.2.2.2.2.2.2.1, .ref (a 6), .int v.2.2.2.2.2.2.2.2.2.2.1, .int v.2.2.2.2.2.2.2.2.2.2.2.1, .ref (a 7), .ref (a 8), .ref (a 9), .long v.2.2.2.2.2.2.2.2.2.2.2.2.2.2.2])), (a 1, .inl (cy 0, 1472, .inl v.1)), (a 2, .inl (cy 0, 1472, .inl v.2.1)), (a 3, .inl (cy 0, 1472, .inl v.2.2.1)), (a 4, .inl (cy 0, 8832, .inl v.2.2.2.2.1)), (a 5, .inl (cy 0, 60, .inl v.2.2.2.2.2.2.1)), (a 6, .inl (cy 0, 1024, .inl v.2.2.2.2.2.2.2.2.2.1)), (a 7, .inl (cy 1, 64, .inl v.2.2.2.2.2.2.2.2.2.2.2.2.1)), (a 8, .inl (cy 0, 64, .inl v.2.2.2.2.2.2.2.2.2.2.2.2.2.1)), (a 9, .inl (cy 0, 64, .inl v.2.2.2.2.2.2.2.2.2.2.2.2.2.2.1))]
def wp_X7_thrown (v : V_X7) (Q : Int32 → Prop) : Prop :=
  Q (X7_thrown v)
def q_X7_thrown (dC : Nat → ClassId) (dI : Nat → Nat → Nat) (cy : Nat → ClassId) (a : Nat → Nat) (v : V_X7) (Q : Int32 → Prop) (A : Nat → Prop) : Array Value → State → Outcome → State → Prop := va_Qi (fun (r : Int32) (u : Unit) => Q r ) (fun (u : Unit) t => xAt dC dI cy A (cX7 cy a v) t) A
set_option maxHeartbeats 4000000 in
set_option maxRecDepth 100000 in
theorem c_X7_thrown (l : Launch) (dC : Nat → ClassId) (dI : Nat → Nat → Nat) (cy : Nat → ClassId) (a : Nat → Nat) (sz : Nat) (v : V_X7) (Q : Int32 → Prop) (hq : wp_X7_thrown v Q) : Met l yX7_thrown wsX7_thrown ({ frames := 0, cells := 0, slots := 0, locals := 0 } : Room) (va_Pc [.ref (a 0)] (xPre dC dI cy (cX7 cy a v) sz)) (q_X7_thrown dC dI cy a v Q (va_A (cX7 cy a v) sz)) 0 0 (va_A (cX7 cy a v) sz) := by
  refine Met.ofW (cc := cX7_thrown) (maxL := 1) (ret := (some .int)) (by decide) rfl ?_
  intro p e s m args below meth c s₁ B hml hv
  obtain ⟨rfl, hsz, hP, hK, hD0⟩ := hv
  have hx := B.exec
  have hb := B.bytes
  have hr := B.returns
  have hts := atoms_spec (ws := wsX7_thrown) B.pre
  have hown : s.vm.findClass RX7 = some m.cls := findClass_of_methodNamed B.named
  have hlocks := B.notSynchronized
  subst hsz
  have hD := hD0.self (sz := s.heap.size)
  generalize hAe : va_A (cX7 cy a v) s.heap.size = A at hD ⊢
  have hAe0 : ∀ q : Nat, s.heap.size ≤ q → A q := fun q h => by rw [← hAe]; exact Or.inr h
  have hS : va_S A s.heap s.heap [] := va_S.rf
  have hl := lv_entry ([.ref (a 0)]) (n := 1) (Nat.le_of_ble_eq_true rfl)
  rw [lg_entry_eq]
  generalize (lg_sl ([.ref (a 0)]) ++ List.replicate (1 - (lg_sl ([.ref (a 0)])).length) Slot.unset).toArray = ls at hl ⊢
  have hl : lv_has ls 1 [(0, .ref (a 0))] := hl
  have lk0 := hts (Cond.fieldLink RX7 38 "MolesLawnModel" "thrown" "I") (List.mem_cons_of_mem _ (List.mem_append_left _ (List.mem_of_getElem? (i := 0) rfl)))
  have iK7 : ∀ w ∈ wsX70, w ∈ wsX7_thrown := fun _ h => (List.mem_cons_of_mem _ (List.mem_append_right _ h))
  unfold wp_X7_thrown at hq
  refine lv_aload_n hx hb dX7_thrown_0 rfl (lv_at hl 0 rfl) ?_
  refine va_get (D := (dC, dI)) (ci := 7) (v := .int (X7_thrown v)) (C := RX7) (T := TX7) (N := 16) hx hb hts iK7 hown hK hP 0 rfl rfl 8 (by decide) lk0 (fun _ h9 => h9) rfl dX7_thrown_1 ?_
  exact W.iret (v := (X7_thrown v)) hx hb hr (fun t ht hW => ⟨⟨(X7_thrown v), (), rfl, hq, (xAt_of hP hK hD ht hW)⟩, hS.F ht⟩) hS.2.2 dX7_thrown_4
def wp_X7_in (x0 : Int32) (x1 : Int32) (x2 : Int32) (Q : Int32 → Prop) : Prop :=
  ((x0 < x1 → Q 0) ∧
  (¬ x0 < x1 → ((x2 < x0 → Q 0) ∧
  (¬ x2 < x0 → Q 1))))
def q_X7_in (dC : Nat → ClassId) (dI : Nat → Nat → Nat) (cy : Nat → ClassId)  (x0 : Int32) (x1 : Int32) (x2 : Int32) (Q : Int32 → Prop) (A : Nat → Prop) : Array Value → State → Outcome → State → Prop := va_Qi (fun (r : Int32) (u : Unit) => Q r ) (fun (u : Unit) t => xAt dC dI cy A ([] : va_W) t) A
set_option maxHeartbeats 4000000 in
set_option maxRecDepth 100000 in
theorem c_X7_in (l : Launch) (dC : Nat → ClassId) (dI : Nat → Nat → Nat) (cy : Nat → ClassId)  (sz : Nat) (x0 : Int32) (x1 : Int32) (x2 : Int32) (Q : Int32 → Prop) (hq : wp_X7_in x0 x1 x2 Q) : Met l yX7_in wsX7_in ({ frames := 0, cells := 0, slots := 0, locals := 0 } : Room) (va_Pc [.int x0, .int x1, .int x2] (xPre dC dI cy ([] : va_W) sz)) (q_X7_in dC dI cy  x0 x1 x2 Q (va_A ([] : va_W) sz)) 0 0 (va_A ([] : va_W) sz) := by
  refine Met.ofW (cc := cX7_in) (maxL := 3) (ret := (some .boolean)) (by decide) rfl ?_
  intro p e s m args below meth c s₁ B hml hv
  obtain ⟨rfl, hsz, hP, hK, hD0⟩ := hv
  have hx := B.exec
  have hb := B.bytes
  have hr := B.returns
  have hts := atoms_spec (ws := wsX7_in) B.pre
  have hown : s.vm.findClass RX7 = some m.cls := findClass_of_methodNamed B.named
  have hlocks := B.notSynchronized
  subst hsz
  have hD := hD0.self (sz := s.heap.size)
  generalize hAe : va_A ([] : va_W) s.heap.size = A at hD ⊢
  have hAe0 : ∀ q : Nat, s.heap.size ≤ q → A q := fun q h => by rw [← hAe]; exact Or.inr h
  have hS : va_S A s.heap s.heap [] := va_S.rf
  have hl := lv_entry ([.int x0, .int x1, .int x2]) (n := 3) (Nat.le_of_ble_eq_true rfl)
  rw [lg_entry_eq]
  generalize (lg_sl ([.int x0, .int x1, .int x2]) ++ List.replicate (3 - (lg_sl ([.int x0, .int x1, .int x2])).length) Slot.unset).toArray = ls at hl ⊢
  have hl : lv_has ls 3 [(0, .int x0), (1, .int x1), (2, .int x2)] := hl
  unfold wp_X7_in at hq
  refine lv_iload_n hx hb dX7_in_0 rfl (lv_at hl 0 rfl) ?_
  refine lv_iload_n hx hb dX7_in_1 rfl (lv_at hl 1 rfl) ?_
  obtain ⟨hqA, hqB⟩ := hq
  refine lv_icmp_lt (tgt := 14) hx hb dX7_in_2 (by decide) (fun c2 => ?_) (fun c2 => ?_)
  · have hq := hqA c2
    refine lv_iconst (v := 0) hx hb dX7_in_14 (by decide) ?_
    exact W.zret (v := 0) hx hb hr rfl (fun t ht hW => ⟨⟨0, (), rfl, hq, (xAt_of hP hK hD ht hW)⟩, hS.F ht⟩) hS.2.2 dX7_in_15
  · have hq := hqB c2
    refine lv_iload_n hx hb dX7_in_5 rfl (lv_at hl 0 rfl) ?_
    refine lv_iload_n hx hb dX7_in_6 rfl (lv_at hl 2 rfl) ?_
    obtain ⟨hqA, hqB⟩ := hq
    refine lv_icmp_gt (tgt := 14) hx hb dX7_in_7 (by decide) (fun c1 => ?_) (fun c1 => ?_)
    · have hq := hqA c1
      refine lv_iconst (v := 0) hx hb dX7_in_14 (by decide) ?_
      exact W.zret (v := 0) hx hb hr rfl (fun t ht hW => ⟨⟨0, (), rfl, hq, (xAt_of hP hK hD ht hW)⟩, hS.F ht⟩) hS.2.2 dX7_in_15
    · have hq := hqB c1
      refine lv_iconst (v := 1) hx hb dX7_in_10 (by decide) ?_
      refine lv_goto (tgt := 15) hx hb dX7_in_11 (by decide) ?_
      exact W.zret (v := 1) hx hb hr rfl (fun t ht hW => ⟨⟨1, (), rfl, hq, (xAt_of hP hK hD ht hW)⟩, hS.F ht⟩) hS.2.2 dX7_in_15
def wp_X7_holds (v : V_X7) (x1 : Int32) (Q : Int32 → Int32 → Prop) : Prop :=
  ((x1 = 0 → Q 1 x1) ∧
  (¬ x1 = 0 → Q 0 x1))
def q_X7_holds (dC : Nat → ClassId) (dI : Nat → Nat → Nat) (cy : Nat → ClassId) (a : Nat → Nat) (v : V_X7) (x1 : Int32) (Q : Int32 → Int32 → Prop) (A : Nat → Prop) : Array Value → State → Outcome → State → Prop := va_Qi (fun (r : Int32) (u : Int32) => Q r u) (fun (u : Int32) t => xAt dC dI cy A (cX7 cy a ((X7_s v), (X7_aside v), (X7_kept v), (X7_isKept v), (X7_saved v), (X7_savedMany v), (X7_text v), (X7_length v), u, (X7_joint v), (X7_position v), (X7_isWrong v), (X7_isHollow v), (X7_sure v), (X7_away v), (X7_digested v))) t) A
set_option maxHeartbeats 4000000 in
set_option maxRecDepth 100000 in
theorem c_X7_holds (l : Launch) (dC : Nat → ClassId) (dI : Nat → Nat → Nat) (cy : Nat → ClassId) (a : Nat → Nat) (sz : Nat) (v : V_X7) (x1 : Int32) (Q : Int32 → Int32 → Prop) (hq : wp_X7_holds v x1 Q) : Met l yX7_holds wsX7_holds ({ frames := 0, cells := 0, slots := 0, locals := 0 } : Room) (va_Pc [.ref (a 0), .int x1] (xPre dC dI cy (cX7 cy a v) sz)) (q_X7_holds dC dI cy a v x1 Q (va_A (cX7 cy a v) sz)) 0 0 (va_A (cX7 cy a v) sz) := by
  refine Met.ofW (cc := cX7_holds) (maxL := 2) (ret := (some .boolean)) (by decide) rfl ?_
  intro p e s m args below meth c s₁ B hml hv
  obtain ⟨rfl, hsz, hP, hK, hD0⟩ := hv
  have hx := B.exec
  have hb := B.bytes
  have hr := B.returns
  have hts := atoms_spec (ws := wsX7_holds) B.pre
  have hown : s.vm.findClass RX7 = some m.cls := findClass_of_methodNamed B.named
  have hlocks := B.notSynchronized
  subst hsz
  have hD := hD0.self (sz := s.heap.size)
  generalize hAe : va_A (cX7 cy a v) s.heap.size = A at hD ⊢
  have hAe0 : ∀ q : Nat, s.heap.size ≤ q → A q := fun q h => by rw [← hAe]; exact Or.inr h
  have hS : va_S A s.heap s.heap [] := va_S.rf
  have hl := lv_entry ([.ref (a 0), .int x1]) (n := 2) (Nat.le_of_ble_eq_true rfl)
  rw [lg_entry_eq]
  generalize (lg_sl ([.ref (a 0), .int x1]) ++ List.replicate (2 - (lg_sl ([.ref (a 0), .int x1])).length) Slot.unset).toArray = ls at hl ⊢
  have hl : lv_has ls 2 [(0, .ref (a 0)), (1, .int x1)] := hl
  have lk0 := hts (Cond.fieldLink RX7 38 "MolesLawnModel" "thrown" "I") (List.mem_cons_of_mem _ (List.mem_append_left _ (List.mem_of_getElem? (i := 0) rfl)))
  have iK7 : ∀ w ∈ wsX70, w ∈ wsX7_holds := fun _ h => (List.mem_cons_of_mem _ (List.mem_append_right _ h))
  unfold wp_X7_holds at hq
  refine lv_aload_n hx hb dX7_holds_0 rfl (lv_at hl 0 rfl) ?_
  refine lv_iload_n hx hb dX7_holds_1 rfl (lv_at hl 1 rfl) ?_
  refine va_put (D := (dC, dI)) (ci := 7) (v := .int x1) (ty := .int) (C := RX7) (T := TX7) (N := 16) hx hb hts iK7 tyX7 tyX7_ok nmX7 hown hK hP hD hS 0 rfl rfl 8 (by decide) lk0 (fun _ h9 => h9) rfl (by decide +kernel) rfl rfl (Nat.le_of_ble_eq_true rfl) dX7_holds_2 (fun H locs hP hD hS => ?_)
  have hP : va_P (dC, dI) vwCl (cX7 cy a ((X7_s v), (X7_aside v), (X7_kept v), (X7_isKept v), (X7_saved v), (X7_savedMany v), (X7_text v), (X7_length v), x1, (X7_joint v), (X7_position v), (X7_isWrong v), (X7_isHollow v), (X7_sure v), (X7_away v), (X7_digested v))) H := hP
  have hD : va_D A (cX7 cy a ((X7_s v), (X7_aside v), (X7_kept v), (X7_isKept v), (X7_saved v), (X7_savedMany v), (X7_text v), (X7_length v), x1, (X7_joint v), (X7_position v), (X7_isWrong v), (X7_isHollow v), (X7_sure v), (X7_away v), (X7_digested v))) := hD
  refine lv_iload_n hx hb dX7_holds_5 rfl (lv_at hl 1 rfl) ?_
  obtain ⟨hqA, hqB⟩ := hq
  refine lv_if_ne (tgt := 13) hx hb dX7_holds_6 (by decide) (fun c1 => ?_) (fun c1 => ?_)
  · have hq := hqB c1
    refine lv_iconst (v := 0) hx hb dX7_holds_13 (by decide) ?_
    exact W.zret (v := 0) hx hb hr rfl (fun t ht hW => ⟨⟨0, x1, rfl, hq, (xAt_of hP hK hD ht hW)⟩, hS.F ht⟩) hS.2.2 dX7_holds_14
  · have hq := hqA c1
    refine lv_iconst (v := 1) hx hb dX7_holds_9 (by decide) ?_
    refine lv_goto (tgt := 14) hx hb dX7_holds_10 (by decide) ?_
    exact W.zret (v := 1) hx hb hr rfl (fun t ht hW => ⟨⟨1, x1, rfl, hq, (xAt_of hP hK hD ht hW)⟩, hS.F ht⟩) hS.2.2 dX7_holds_14
def wp_X7_isTuft (x0 : Int32) (Q : Int32 → Prop) : Prop :=
  wp_X7_in x0 0 63 (fun r4 =>
  bz r4 ∧ Q r4)
def q_X7_isTuft (dC : Nat → ClassId) (dI : Nat → Nat → Nat) (cy : Nat → ClassId)  (x0 : Int32) (Q : Int32 → Prop) (A : Nat → Prop) : Array Value → State → Outcome → State → Prop := va_Qi (fun (r : Int32) (u : Unit) => Q r ) (fun (u : Unit) t => xAt dC dI cy A ([] : va_W) t) A
set_option maxHeartbeats 4000000 in
set_option maxRecDepth 100000 in
theorem c_X7_isTuft (l : Launch) (dC : Nat → ClassId) (dI : Nat → Nat → Nat) (cy : Nat → ClassId)  (sz : Nat) (x0 : Int32) (Q : Int32 → Prop) (hq : wp_X7_isTuft x0 Q) : Met l yX7_isTuft wsX7_isTuft ({ frames := 1, cells := 0, slots := 0, locals := 22 } : Room) (va_Pc [.int x0] (xPre dC dI cy ([] : va_W) sz)) (q_X7_isTuft dC dI cy  x0 Q (va_A ([] : va_W) sz)) 0 0 (va_A ([] : va_W) sz) := by
  refine Met.ofW (cc := cX7_isTuft) (maxL := 1) (ret := (some .boolean)) (by decide) rfl ?_
  intro p e s m args below meth c s₁ B hml hv
  obtain ⟨rfl, hsz, hP, hK, hD0⟩ := hv
  have hx := B.exec
  have hb := B.bytes
  have hr := B.returns
  have hts := atoms_spec (ws := wsX7_isTuft) B.pre
  have hown : s.vm.findClass RX7 = some m.cls := findClass_of_methodNamed B.named
  have hlocks := B.notSynchronized
  subst hsz
  have hD := hD0.self (sz := s.heap.size)
  generalize hAe : va_A ([] : va_W) s.heap.size = A at hD ⊢
  have hAe0 : ∀ q : Nat, s.heap.size ≤ q → A q := fun q h => by rw [← hAe]; exact Or.inr h
  have hS : va_S A s.heap s.heap [] := va_S.rf
  have hl := lv_entry ([.int x0]) (n := 1) (Nat.le_of_ble_eq_true rfl)
  rw [lg_entry_eq]
  generalize (lg_sl ([.int x0]) ++ List.replicate (1 - (lg_sl ([.int x0])).length) Slot.unset).toArray = ls at hl ⊢
  have hl : lv_has ls 1 [(0, .int x0)] := hl
  unfold wp_X7_isTuft at hq
  refine lv_iload_n hx hb dX7_isTuft_0 rfl (lv_at hl 0 rfl) ?_
  refine lv_iconst (v := 0) hx hb dX7_isTuft_1 (by decide) ?_
  refine lv_bipush (v := 63) hx hb dX7_isTuft_2 (by decide) ?_
  have hFc := xfree_none hS hAe0
  refine va_calli (va_runS (As := [.int x0, .int 0, .int 63]) (rest := []) ⟨hx, hb, hml, hown, hts⟩ (c_X7_in l dC dI cy  _ x0 0 63 _ hq) (va_cwS 3 hts gX7_isTuft_X7_in rfl rfl rfl (by decide +kernel) ⟨Nat.le_of_ble_eq_true rfl, Nat.le_of_ble_eq_true rfl⟩) ⟨xPre_blind, xPre_of xP_nil hK xD_nil⟩ rfl rfl hl.1 rfl (lv_room (Nat.le_of_ble_eq_true rfl)) dX7_isTuft_4 ⟨Nat.le_of_ble_eq_true rfl, Nat.le_of_ble_eq_true rfl⟩) hS (fun q _ h => hFc q h) hFc (fun r4 u t H locs ht hvm hq hB hz1 hk1 hS => ?_)
  have hP := xj_none hP hk1
  obtain ⟨g1, hq⟩ := hq
  exact W.zret (v := r4) hx hb hr (bz_nar g1) (fun t ht hW => ⟨⟨r4, (), rfl, hq, (xAt_of hP hK hD ht hW)⟩, hS.F ht⟩) hS.2.2 dX7_isTuft_7
def wp_X7_isMole (v : V_X7) (x1 : Int32) (Q : Int32 → Prop) : Prop :=
  vp_in 1 1472 ∧ wp_X7_in x1 0 (((X7_s v) (1 : Int32).toNatClampNeg) - 1) (fun r10 =>
  bz r10 ∧ Q r10)
def q_X7_isMole (dC : Nat → ClassId) (dI : Nat → Nat → Nat) (cy : Nat → ClassId) (a : Nat → Nat) (v : V_X7) (x1 : Int32) (Q : Int32 → Prop) (A : Nat → Prop) : Array Value → State → Outcome → State → Prop := va_Qi (fun (r : Int32) (u : Unit) => Q r ) (fun (u : Unit) t => xAt dC dI cy A (cX7 cy a v) t) A
set_option maxHeartbeats 4000000 in
set_option maxRecDepth 100000 in
theorem c_X7_isMole (l : Launch) (dC : Nat → ClassId) (dI : Nat → Nat → Nat) (cy : Nat → ClassId) (a : Nat → Nat) (sz : Nat) (v : V_X7) (x1 : Int32) (Q : Int32 → Prop) (hq : wp_X7_isMole v x1 Q) : Met l yX7_isMole wsX7_isMole ({ frames := 1, cells := 0, slots := 0, locals := 22 } : Room) (va_Pc [.ref (a 0), .int x1] (xPre dC dI cy (cX7 cy a v) sz)) (q_X7_isMole dC dI cy a v x1 Q (va_A (cX7 cy a v) sz)) 0 0 (va_A (cX7 cy a v) sz) := by
  refine Met.ofW (cc := cX7_isMole) (maxL := 2) (ret := (some .boolean)) (by decide) rfl ?_
  intro p e s m args below meth c s₁ B hml hv
  obtain ⟨rfl, hsz, hP, hK, hD0⟩ := hv
  have hx := B.exec
  have hb := B.bytes
  have hr := B.returns
  have hts := atoms_spec (ws := wsX7_isMole) B.pre
  have hown : s.vm.findClass RX7 = some m.cls := findClass_of_methodNamed B.named
  have hlocks := B.notSynchronized
  subst hsz
  have hD := hD0.self (sz := s.heap.size)
  generalize hAe : va_A (cX7 cy a v) s.heap.size = A at hD ⊢
  have hAe0 : ∀ q : Nat, s.heap.size ≤ q → A q := fun q h => by rw [← hAe]; exact Or.inr h
  have hS : va_S A s.heap s.heap [] := va_S.rf
  have hl := lv_entry ([.ref (a 0), .int x1]) (n := 2) (Nat.le_of_ble_eq_true rfl)
  rw [lg_entry_eq]
  generalize (lg_sl ([.ref (a 0), .int x1]) ++ List.replicate (2 - (lg_sl ([.ref (a 0), .int x1])).length) Slot.unset).toArray = ls at hl ⊢
  have hl : lv_has ls 2 [(0, .ref (a 0)), (1, .int x1)] := hl
  have lk0 := hts (Cond.fieldLink RX7 7 "MolesLawnModel" "s" "[I") (List.mem_cons_of_mem _ (List.mem_append_left _ (List.mem_of_getElem? (i := 0) rfl)))
  have iK7 : ∀ w ∈ wsX70, w ∈ wsX7_isMole := fun _ h => (List.mem_cons_of_mem _ (List.mem_append_right _ h))
  unfold wp_X7_isMole at hq
  refine lv_iload_n hx hb dX7_isMole_0 rfl (lv_at hl 1 rfl) ?_
  refine lv_iconst (v := 0) hx hb dX7_isMole_1 (by decide) ?_
  refine lv_aload_n hx hb dX7_isMole_2 rfl (lv_at hl 0 rfl) ?_
  refine va_get (D := (dC, dI)) (ci := 7) (v := .ref (a 1)) (C := RX7) (T := TX7) (N := 16) hx hb hts iK7 hown hK hP 0 rfl rfl 0 (by decide) lk0 (fun _ h9 => h9) rfl dX7_isMole_3 ?_
  refine lv_iconst (v := 1) hx hb dX7_isMole_6 (by decide) ?_
  obtain ⟨g1, hq⟩ := hq
  refine va_iald hx hb hK hP 1 0 rfl rfl g1 dX7_isMole_7 ?_
  refine lv_iconst (v := 1) hx hb dX7_isMole_8 (by decide) ?_
  refine lv_isub hx hb dX7_isMole_9 ?_
  have hFc := xfree_none hS hAe0
  refine va_calli (va_runS (As := [.int x1, .int 0, .int (((X7_s v) (1 : Int32).toNatClampNeg) - 1)]) (rest := []) ⟨hx, hb, hml, hown, hts⟩ (c_X7_in l dC dI cy  _ x1 0 (((X7_s v) (1 : Int32).toNatClampNeg) - 1) _ hq) (va_cwS 3 hts gX7_isMole_X7_in rfl rfl rfl (by decide +kernel) ⟨Nat.le_of_ble_eq_true rfl, Nat.le_of_ble_eq_true rfl⟩) ⟨xPre_blind, xPre_of xP_nil hK xD_nil⟩ rfl rfl hl.1 rfl (lv_room (Nat.le_of_ble_eq_true rfl)) dX7_isMole_10 ⟨Nat.le_of_ble_eq_true rfl, Nat.le_of_ble_eq_true rfl⟩) hS (fun q _ h => hFc q h) hFc (fun r10 u t H locs ht hvm hq hB hz1 hk1 hS => ?_)
  have hP := xj_none hP hk1
  obtain ⟨g2, hq⟩ := hq
  exact W.zret (v := r10) hx hb hr (bz_nar g2) (fun t ht hW => ⟨⟨r10, (), rfl, hq, (xAt_of hP hK hD ht hW)⟩, hS.F ht⟩) hS.2.2 dX7_isMole_13
def wp_X7_of (x0 : Int32) (x1 : Int32) (Q : Int32 → Prop) : Prop :=
  Q ((264 + (46 * x0)) + x1)
def q_X7_of (dC : Nat → ClassId) (dI : Nat → Nat → Nat) (cy : Nat → ClassId)  (x0 : Int32) (x1 : Int32) (Q : Int32 → Prop) (A : Nat → Prop) : Array Value → State → Outcome → State → Prop := va_Qi (fun (r : Int32) (u : Unit) => Q r ) (fun (u : Unit) t => xAt dC dI cy A ([] : va_W) t) A
set_option maxHeartbeats 4000000 in
set_option maxRecDepth 100000 in
theorem c_X7_of (l : Launch) (dC : Nat → ClassId) (dI : Nat → Nat → Nat) (cy : Nat → ClassId)  (sz : Nat) (x0 : Int32) (x1 : Int32) (Q : Int32 → Prop) (hq : wp_X7_of x0 x1 Q) : Met l yX7_of wsX7_of ({ frames := 0, cells := 0, slots := 0, locals := 0 } : Room) (va_Pc [.int x0, .int x1] (xPre dC dI cy ([] : va_W) sz)) (q_X7_of dC dI cy  x0 x1 Q (va_A ([] : va_W) sz)) 0 0 (va_A ([] : va_W) sz) := by
  refine Met.ofW (cc := cX7_of) (maxL := 2) (ret := (some .int)) (by decide) rfl ?_
  intro p e s m args below meth c s₁ B hml hv
  obtain ⟨rfl, hsz, hP, hK, hD0⟩ := hv
  have hx := B.exec
  have hb := B.bytes
  have hr := B.returns
  have hts := atoms_spec (ws := wsX7_of) B.pre
  have hown : s.vm.findClass RX7 = some m.cls := findClass_of_methodNamed B.named
  have hlocks := B.notSynchronized
  subst hsz
  have hD := hD0.self (sz := s.heap.size)
  generalize hAe : va_A ([] : va_W) s.heap.size = A at hD ⊢
  have hAe0 : ∀ q : Nat, s.heap.size ≤ q → A q := fun q h => by rw [← hAe]; exact Or.inr h
  have hS : va_S A s.heap s.heap [] := va_S.rf
  have hl := lv_entry ([.int x0, .int x1]) (n := 2) (Nat.le_of_ble_eq_true rfl)
  rw [lg_entry_eq]
  generalize (lg_sl ([.int x0, .int x1]) ++ List.replicate (2 - (lg_sl ([.int x0, .int x1])).length) Slot.unset).toArray = ls at hl ⊢
  have hl : lv_has ls 2 [(0, .int x0), (1, .int x1)] := hl
  unfold wp_X7_of at hq
  refine lv_sipush (v := 264) hx hb dX7_of_0 (by decide) ?_
  refine lv_bipush (v := 46) hx hb dX7_of_3 (by decide) ?_
  refine lv_iload_n hx hb dX7_of_5 rfl (lv_at hl 0 rfl) ?_
  refine lv_imul hx hb dX7_of_6 ?_
  refine lv_iadd hx hb dX7_of_7 ?_
  refine lv_iload_n hx hb dX7_of_8 rfl (lv_at hl 1 rfl) ?_
  refine lv_iadd hx hb dX7_of_9 ?_
  exact W.iret (v := ((264 + (46 * x0)) + x1)) hx hb hr (fun t ht hW => ⟨⟨((264 + (46 * x0)) + x1), (), rfl, hq, (xAt_of hP hK hD ht hW)⟩, hS.F ht⟩) hS.2.2 dX7_of_10
def wp_X7_hasMound (v : V_X7) (x1 : Int32) (Q : Int32 → Prop) : Prop :=
  vp_in (8 + x1) 1472 ∧ ((((X7_s v) (8 + x1).toNatClampNeg) = 1 → Q 1) ∧
  (¬ ((X7_s v) (8 + x1).toNatClampNeg) = 1 → Q 0))
def q_X7_hasMound (dC : Nat → ClassId) (dI : Nat → Nat → Nat) (cy : Nat → ClassId) (a : Nat → Nat) (v : V_X7) (x1 : Int32) (Q : Int32 → Prop) (A : Nat → Prop) : Array Value → State → Outcome → State → Prop := va_Qi (fun (r : Int32) (u : Unit) => Q r ) (fun (u : Unit) t => xAt dC dI cy A (cX7 cy a v) t) A
set_option maxHeartbeats 4000000 in
set_option maxRecDepth 100000 in
theorem c_X7_hasMound (l : Launch) (dC : Nat → ClassId) (dI : Nat → Nat → Nat) (cy : Nat → ClassId) (a : Nat → Nat) (sz : Nat) (v : V_X7) (x1 : Int32) (Q : Int32 → Prop) (hq : wp_X7_hasMound v x1 Q) : Met l yX7_hasMound wsX7_hasMound ({ frames := 0, cells := 0, slots := 0, locals := 0 } : Room) (va_Pc [.ref (a 0), .int x1] (xPre dC dI cy (cX7 cy a v) sz)) (q_X7_hasMound dC dI cy a v x1 Q (va_A (cX7 cy a v) sz)) 0 0 (va_A (cX7 cy a v) sz) := by
  refine Met.ofW (cc := cX7_hasMound) (maxL := 2) (ret := (some .boolean)) (by decide) rfl ?_
  intro p e s m args below meth c s₁ B hml hv
  obtain ⟨rfl, hsz, hP, hK, hD0⟩ := hv
  have hx := B.exec
  have hb := B.bytes
  have hr := B.returns
  have hts := atoms_spec (ws := wsX7_hasMound) B.pre
  have hown : s.vm.findClass RX7 = some m.cls := findClass_of_methodNamed B.named
  have hlocks := B.notSynchronized
  subst hsz
  have hD := hD0.self (sz := s.heap.size)
  generalize hAe : va_A (cX7 cy a v) s.heap.size = A at hD ⊢
  have hAe0 : ∀ q : Nat, s.heap.size ≤ q → A q := fun q h => by rw [← hAe]; exact Or.inr h
  have hS : va_S A s.heap s.heap [] := va_S.rf
  have hl := lv_entry ([.ref (a 0), .int x1]) (n := 2) (Nat.le_of_ble_eq_true rfl)
  rw [lg_entry_eq]
  generalize (lg_sl ([.ref (a 0), .int x1]) ++ List.replicate (2 - (lg_sl ([.ref (a 0), .int x1])).length) Slot.unset).toArray = ls at hl ⊢
  have hl : lv_has ls 2 [(0, .ref (a 0)), (1, .int x1)] := hl
  have lk0 := hts (Cond.fieldLink RX7 7 "MolesLawnModel" "s" "[I") (List.mem_cons_of_mem _ (List.mem_append_left _ (List.mem_of_getElem? (i := 0) rfl)))
  have iK7 : ∀ w ∈ wsX70, w ∈ wsX7_hasMound := fun _ h => (List.mem_cons_of_mem _ (List.mem_append_right _ h))
  unfold wp_X7_hasMound at hq
  refine lv_aload_n hx hb dX7_hasMound_0 rfl (lv_at hl 0 rfl) ?_
  refine va_get (D := (dC, dI)) (ci := 7) (v := .ref (a 1)) (C := RX7) (T := TX7) (N := 16) hx hb hts iK7 hown hK hP 0 rfl rfl 0 (by decide) lk0 (fun _ h9 => h9) rfl dX7_hasMound_1 ?_
  refine lv_bipush (v := 8) hx hb dX7_hasMound_4 (by decide) ?_
  refine lv_iload_n hx hb dX7_hasMound_6 rfl (lv_at hl 1 rfl) ?_
  refine lv_iadd hx hb dX7_hasMound_7 ?_
  obtain ⟨g1, hq⟩ := hq
  refine va_iald hx hb hK hP 1 0 rfl rfl g1 dX7_hasMound_8 ?_
  refine lv_iconst (v := 1) hx hb dX7_hasMound_9 (by decide) ?_
  obtain ⟨hqA, hqB⟩ := hq
  refine lv_icmp_ne (tgt := 17) hx hb dX7_hasMound_10 (by decide) (fun c2 => ?_) (fun c2 => ?_)
  · have hq := hqB c2
    refine lv_iconst (v := 0) hx hb dX7_hasMound_17 (by decide) ?_
    exact W.zret (v := 0) hx hb hr rfl (fun t ht hW => ⟨⟨0, (), rfl, hq, (xAt_of hP hK hD ht hW)⟩, hS.F ht⟩) hS.2.2 dX7_hasMound_18
  · have hq := hqA c2
    refine lv_iconst (v := 1) hx hb dX7_hasMound_13 (by decide) ?_
    refine lv_goto (tgt := 18) hx hb dX7_hasMound_14 (by decide) ?_
    exact W.zret (v := 1) hx hb hr rfl (fun t ht hW => ⟨⟨1, (), rfl, hq, (xAt_of hP hK hD ht hW)⟩, hS.F ht⟩) hS.2.2 dX7_hasMound_18
def wb_X7_save_52 (v : V_X7) (z52_v_savedMany : Int32) (y52_1 : Int32) (z52_v_saved : (Nat → Int32)) (B52 : Int32 → (Nat → Int32) → Prop) (Q : (Nat → Int32) → Int32 → Prop) : Prop :=
  ((1472 ≤ y52_1 → Q z52_v_saved (z52_v_savedMany + 1)) ∧
  (¬ 1472 ≤ y52_1 → vp_in y52_1 1472 ∧ vp_in ((1472 * z52_v_savedMany) + y52_1) 8832 ∧ B52 (y52_1 + 1) (upd z52_v_saved ((1472 * z52_v_savedMany) + y52_1).toNatClampNeg ((X7_s v) y52_1.toNatClampNeg))))
def wp_X7_save_52 (v : V_X7) (z52_v_savedMany : Int32) (y52_1 : Int32) (z52_v_saved : (Nat → Int32)) (Q : (Nat → Int32) → Int32 → Prop) : Prop :=
  ∃ (I : Int32 → (Nat → Int32) → Prop) (μ : Int32 → (Nat → Int32) → Nat), I y52_1 z52_v_saved ∧ ∀ (s0 : Int32) (s1 : (Nat → Int32)), I s0 s1 → wb_X7_save_52 v z52_v_savedMany s0 s1 (fun t0 t1 => I t0 t1 ∧ μ t0 t1 < μ s0 s1) Q
def wb_X7_save_11 (v : V_X7)  (y11_1 : Int32) (z11_v_saved : (Nat → Int32)) (B11 : Int32 → (Nat → Int32) → Prop) (Q : (Nat → Int32) → Int32 → Prop) : Prop :=
  ((7360 ≤ y11_1 → wp_X7_save_52 v ((X7_savedMany v) - 1) 0 z11_v_saved Q) ∧
  (¬ 7360 ≤ y11_1 → vp_in (1472 + y11_1) 8832 ∧ vp_in y11_1 8832 ∧ B11 (y11_1 + 1) (upd z11_v_saved y11_1.toNatClampNeg (z11_v_saved (1472 + y11_1).toNatClampNeg))))
def wp_X7_save_11 (v : V_X7)  (y11_1 : Int32) (z11_v_saved : (Nat → Int32)) (Q : (Nat → Int32) → Int32 → Prop) : Prop :=
  ∃ (I : Int32 → (Nat → Int32) → Prop) (μ : Int32 → (Nat → Int32) → Nat), I y11_1 z11_v_saved ∧ ∀ (s0 : Int32) (s1 : (Nat → Int32)), I s0 s1 → wb_X7_save_11 v  s0 s1 (fun t0 t1 => I t0 t1 ∧ μ t0 t1 < μ s0 s1) Q
def wp_X7_save (v : V_X7) (Q : (Nat → Int32) → Int32 → Prop) : Prop :=
  (((X7_savedMany v) = 6 → wp_X7_save_11 v  0 (X7_saved v) Q) ∧
  (¬ (X7_savedMany v) = 6 → wp_X7_save_52 v (X7_savedMany v) 0 (X7_saved v) Q))
def q_X7_save (dC : Nat → ClassId) (dI : Nat → Nat → Nat) (cy : Nat → ClassId) (a : Nat → Nat) (v : V_X7) (Q : (Nat → Int32) → Int32 → Prop) (A : Nat → Prop) : Array Value → State → Outcome → State → Prop := va_Qv (fun (u : (Nat → Int32) × Int32) => Q u.1 u.2) (fun (u : (Nat → Int32) × Int32) t => xAt dC dI cy A (cX7 cy a ((X7_s v), (X7_aside v), (X7_kept v), (X7_isKept v), u.1, u.2, (X7_text v), (X7_length v), (X7_thrown v), (X7_joint v), (X7_position v), (X7_isWrong v), (X7_isHollow v), (X7_sure v), (X7_away v), (X7_digested v))) t) A
set_option maxHeartbeats 4000000 in
set_option maxRecDepth 100000 in
theorem c_X7_save (l : Launch) (dC : Nat → ClassId) (dI : Nat → Nat → Nat) (cy : Nat → ClassId) (a : Nat → Nat) (sz : Nat) (v : V_X7) (Q : (Nat → Int32) → Int32 → Prop) (hq : wp_X7_save v Q) : Met l yX7_save wsX7_save ({ frames := 0, cells := 0, slots := 0, locals := 0 } : Room) (va_Pc [.ref (a 0)] (xPre dC dI cy (cX7 cy a v) sz)) (q_X7_save dC dI cy a v Q (va_A (cX7 cy a v) sz)) 0 0 (va_A (cX7 cy a v) sz) := by
  refine Met.ofW (cc := cX7_save) (maxL := 2) (ret := none) (by decide) rfl ?_
  intro p e s m args below meth c s₁ B hml hv
  obtain ⟨rfl, hsz, hP, hK, hD0⟩ := hv
  have hx := B.exec
  have hb := B.bytes
  have hr := B.returns
  have hts := atoms_spec (ws := wsX7_save) B.pre
  have hown : s.vm.findClass RX7 = some m.cls := findClass_of_methodNamed B.named
  have hlocks := B.notSynchronized
  subst hsz
  have hD := hD0.self (sz := s.heap.size)
  generalize hAe : va_A (cX7 cy a v) s.heap.size = A at hD ⊢
  have hAe0 : ∀ q : Nat, s.heap.size ≤ q → A q := fun q h => by rw [← hAe]; exact Or.inr h
  have hS : va_S A s.heap s.heap [] := va_S.rf
  have hl := lv_entry ([.ref (a 0)]) (n := 2) (Nat.le_of_ble_eq_true rfl)
  rw [lg_entry_eq]
  generalize (lg_sl ([.ref (a 0)]) ++ List.replicate (2 - (lg_sl ([.ref (a 0)])).length) Slot.unset).toArray = ls at hl ⊢
  have hl : lv_has ls 2 [(0, .ref (a 0))] := hl
  have lk0 := hts (Cond.fieldLink RX7 46 "MolesLawnModel" "savedMany" "I") (List.mem_cons_of_mem _ (List.mem_append_left _ (List.mem_of_getElem? (i := 0) rfl)))
  have lk1 := hts (Cond.fieldLink RX7 19 "MolesLawnModel" "saved" "[I") (List.mem_cons_of_mem _ (List.mem_append_left _ (List.mem_of_getElem? (i := 1) rfl)))
  have lk2 := hts (Cond.fieldLink RX7 7 "MolesLawnModel" "s" "[I") (List.mem_cons_of_mem _ (List.mem_append_left _ (List.mem_of_getElem? (i := 2) rfl)))
  have iK7 : ∀ w ∈ wsX70, w ∈ wsX7_save := fun _ h => (List.mem_cons_of_mem _ (List.mem_append_right _ h))
  unfold wp_X7_save at hq
  have J52 : ∀ (z52_v_savedMany : Int32) (y52_1 : Int32) (z52_v_saved : (Nat → Int32)) (H : Heap) (locs : List Loc) (ls : Array Slot), wp_X7_save_52 v z52_v_savedMany y52_1 z52_v_saved Q → va_P (dC, dI) vwCl (cX7 cy a ((X7_s v), (X7_aside v), (X7_kept v), (X7_isKept v), z52_v_saved, z52_v_savedMany, (X7_text v), (X7_length v), (X7_thrown v), (X7_joint v), (X7_position v), (X7_isWrong v), (X7_isHollow v), (X7_sure v), (X7_away v), (X7_digested v))) H → va_D A (cX7 cy a ((X7_s v), (X7_aside v), (X7_kept v), (X7_isKept v), z52_v_saved, z52_v_savedMany, (X7_text v), (X7_length v), (X7_thrown v), (X7_joint v), (X7_position v), (X7_isWrong v), (X7_isHollow v), (X7_sure v), (X7_away v), (X7_digested v))) → va_S A s.heap H locs → lv_has ls 2 [(0, .ref (a 0)), (1, .int y52_1)] → W p l e (headSpec wsX7_save ({ frames := 0, cells := 0, slots := 0, locals := 0 } : Room)).room s m ([.ref (a 0)] : List Value).toArray below meth c H locs 0 0 (MQ below (q_X7_save dC dI cy a v Q A) ([.ref (a 0)] : List Value).toArray s 0 0 A) (F0 m 52 ls []) := by
    intro z52_v_savedMany y52_1 z52_v_saved H locs ls hq hP hD hS hl
    obtain ⟨I52, μ52, h0, hs52⟩ := hq
    have key : ∀ (n : Nat) (y52_1 : Int32) (z52_v_saved : (Nat → Int32)) (H : Heap) (locs : List Loc) (ls : Array Slot), I52 y52_1 z52_v_saved → μ52 y52_1 z52_v_saved < n → va_P (dC, dI) vwCl (cX7 cy a ((X7_s v), (X7_aside v), (X7_kept v), (X7_isKept v), z52_v_saved, z52_v_savedMany, (X7_text v), (X7_length v), (X7_thrown v), (X7_joint v), (X7_position v), (X7_isWrong v), (X7_isHollow v), (X7_sure v), (X7_away v), (X7_digested v))) H → va_D A (cX7 cy a ((X7_s v), (X7_aside v), (X7_kept v), (X7_isKept v), z52_v_saved, z52_v_savedMany, (X7_text v), (X7_length v), (X7_thrown v), (X7_joint v), (X7_position v), (X7_isWrong v), (X7_isHollow v), (X7_sure v), (X7_away v), (X7_digested v))) → va_S A s.heap H locs → lv_has ls 2 [(0, .ref (a 0)), (1, .int y52_1)] → W p l e (headSpec wsX7_save ({ frames := 0, cells := 0, slots := 0, locals := 0 } : Room)).room s m ([.ref (a 0)] : List Value).toArray below meth c H locs 0 0 (MQ below (q_X7_save dC dI cy a v Q A) ([.ref (a 0)] : List Value).toArray s 0 0 A) (F0 m 52 ls []) := by
      intro n
      induction n with
      | zero => intro y52_1 z52_v_saved H locs ls _ hm; exact absurd hm (Nat.not_lt_zero _)
      | succ n ih =>
        intro y52_1 z52_v_saved H locs ls hI hm hP hD hS hl
        have hq := hs52 y52_1 z52_v_saved hI
        generalize hB52 : (fun (t0 : Int32) (t1 : (Nat → Int32)) => I52 t0 t1 ∧ μ52 t0 t1 < μ52 y52_1 z52_v_saved) = B52 at hq
        have bk52 : ∀ (y52_1 : Int32) (z52_v_saved : (Nat → Int32)) (H : Heap) (locs : List Loc) (ls : Array Slot), B52 y52_1 z52_v_saved → va_P (dC, dI) vwCl (cX7 cy a ((X7_s v), (X7_aside v), (X7_kept v), (X7_isKept v), z52_v_saved, z52_v_savedMany, (X7_text v), (X7_length v), (X7_thrown v), (X7_joint v), (X7_position v), (X7_isWrong v), (X7_isHollow v), (X7_sure v), (X7_away v), (X7_digested v))) H → va_D A (cX7 cy a ((X7_s v), (X7_aside v), (X7_kept v), (X7_isKept v), z52_v_saved, z52_v_savedMany, (X7_text v), (X7_length v), (X7_thrown v), (X7_joint v), (X7_position v), (X7_isWrong v), (X7_isHollow v), (X7_sure v), (X7_away v), (X7_digested v))) → va_S A s.heap H locs → lv_has ls 2 [(0, .ref (a 0)), (1, .int y52_1)] → W p l e (headSpec wsX7_save ({ frames := 0, cells := 0, slots := 0, locals := 0 } : Room)).room s m ([.ref (a 0)] : List Value).toArray below meth c H locs 0 0 (MQ below (q_X7_save dC dI cy a v Q A) ([.ref (a 0)] : List Value).toArray s 0 0 A) (F0 m 52 ls []) := by
          intro y52_1 z52_v_saved H locs ls h
          rw [← hB52] at h
          exact ih y52_1 z52_v_saved H locs ls h.1 (Nat.lt_of_lt_of_le h.2 (Nat.le_of_lt_succ hm))
        unfold wb_X7_save_52 at hq
        refine lv_iload_n hx hb dX7_save_52 rfl (lv_at hl 1 rfl) ?_
        refine lv_sipush (v := 1472) hx hb dX7_save_53 (by decide) ?_
        obtain ⟨hqA, hqB⟩ := hq
        refine lv_icmp_ge (tgt := 86) hx hb dX7_save_56 (by decide) (fun c3 => ?_) (fun c3 => ?_)
        · have hq := hqA c3
          refine lv_aload_n hx hb dX7_save_86 rfl (lv_at hl 0 rfl) ?_
          refine lv_dup hx hb dX7_save_87 rfl ?_
          refine va_get (D := (dC, dI)) (ci := 7) (v := .int z52_v_savedMany) (C := RX7) (T := TX7) (N := 16) hx hb hts iK7 hown hK hP 0 rfl rfl 5 (by decide) lk0 (fun _ h9 => h9) rfl dX7_save_88 ?_
          refine lv_iconst (v := 1) hx hb dX7_save_91 (by decide) ?_
          refine lv_iadd hx hb dX7_save_92 ?_
          refine va_put (D := (dC, dI)) (ci := 7) (v := .int (z52_v_savedMany + 1)) (ty := .int) (C := RX7) (T := TX7) (N := 16) hx hb hts iK7 tyX7 tyX7_ok nmX7 hown hK hP hD hS 0 rfl rfl 5 (by decide) lk0 (fun _ h9 => h9) rfl (by decide +kernel) rfl rfl (Nat.le_of_ble_eq_true rfl) dX7_save_93 (fun H locs hP hD hS => ?_)
          have hP : va_P (dC, dI) vwCl (cX7 cy a ((X7_s v), (X7_aside v), (X7_kept v), (X7_isKept v), z52_v_saved, (z52_v_savedMany + 1), (X7_text v), (X7_length v), (X7_thrown v), (X7_joint v), (X7_position v), (X7_isWrong v), (X7_isHollow v), (X7_sure v), (X7_away v), (X7_digested v))) H := hP
          have hD : va_D A (cX7 cy a ((X7_s v), (X7_aside v), (X7_kept v), (X7_isKept v), z52_v_saved, (z52_v_savedMany + 1), (X7_text v), (X7_length v), (X7_thrown v), (X7_joint v), (X7_position v), (X7_isWrong v), (X7_isHollow v), (X7_sure v), (X7_away v), (X7_digested v))) := hD
          exact W.vret hx hb hr (fun t ht hW => ⟨⟨(z52_v_saved, (z52_v_savedMany + 1)), rfl, hq, (xAt_of hP hK hD ht hW)⟩, hS.F ht⟩) hS.2.2 dX7_save_96
        · have hq := hqB c3
          refine lv_aload_n hx hb dX7_save_59 rfl (lv_at hl 0 rfl) ?_
          refine va_get (D := (dC, dI)) (ci := 7) (v := .ref (a 4)) (C := RX7) (T := TX7) (N := 16) hx hb hts iK7 hown hK hP 0 rfl rfl 4 (by decide) lk1 (fun _ h9 => h9) rfl dX7_save_60 ?_
          refine lv_sipush (v := 1472) hx hb dX7_save_63 (by decide) ?_
          refine lv_aload_n hx hb dX7_save_66 rfl (lv_at hl 0 rfl) ?_
          refine va_get (D := (dC, dI)) (ci := 7) (v := .int z52_v_savedMany) (C := RX7) (T := TX7) (N := 16) hx hb hts iK7 hown hK hP 0 rfl rfl 5 (by decide) lk0 (fun _ h9 => h9) rfl dX7_save_67 ?_
          refine lv_imul hx hb dX7_save_70 ?_
          refine lv_iload_n hx hb dX7_save_71 rfl (lv_at hl 1 rfl) ?_
          refine lv_iadd hx hb dX7_save_72 ?_
          refine lv_aload_n hx hb dX7_save_73 rfl (lv_at hl 0 rfl) ?_
          refine va_get (D := (dC, dI)) (ci := 7) (v := .ref (a 1)) (C := RX7) (T := TX7) (N := 16) hx hb hts iK7 hown hK hP 0 rfl rfl 0 (by decide) lk2 (fun _ h9 => h9) rfl dX7_save_74 ?_
          refine lv_iload_n hx hb dX7_save_77 rfl (lv_at hl 1 rfl) ?_
          obtain ⟨g1, hq⟩ := hq
          refine va_iald hx hb hK hP 1 0 rfl rfl g1 dX7_save_78 ?_
          obtain ⟨g2, hq⟩ := hq
          refine va_iast hx hb hK hP hD hS 4 0 rfl rfl g2 dX7_save_79 (fun H locs hP hD hS => ?_)
          have hP : va_P (dC, dI) vwCl (cX7 cy a ((X7_s v), (X7_aside v), (X7_kept v), (X7_isKept v), (upd z52_v_saved ((1472 * z52_v_savedMany) + y52_1).toNatClampNeg ((X7_s v) y52_1.toNatClampNeg)), z52_v_savedMany, (X7_text v), (X7_length v), (X7_thrown v), (X7_joint v), (X7_position v), (X7_isWrong v), (X7_isHollow v), (X7_sure v), (X7_away v), (X7_digested v))) H := hP
          have hD : va_D A (cX7 cy a ((X7_s v), (X7_aside v), (X7_kept v), (X7_isKept v), (upd z52_v_saved ((1472 * z52_v_savedMany) + y52_1).toNatClampNeg ((X7_s v) y52_1.toNatClampNeg)), z52_v_savedMany, (X7_text v), (X7_length v), (X7_thrown v), (X7_joint v), (X7_position v), (X7_isWrong v), (X7_isHollow v), (X7_sure v), (X7_away v), (X7_digested v))) := hD
          refine lv_iinc (v := (y52_1 + 1)) (lv' := [(1, .int (y52_1 + 1)), (0, .ref (a 0))]) hx hb dX7_save_80 hl (k := 1) rfl rfl (by decide) rfl (fun ls hl => ?_)
          refine lv_goto (tgt := 52) hx hb dX7_save_83 (by decide) ?_
          exact bk52 (y52_1 + 1) (upd z52_v_saved ((1472 * z52_v_savedMany) + y52_1).toNatClampNeg ((X7_s v) y52_1.toNatClampNeg)) H locs ls hq hP hD hS (lv_sub hl [1, 0] rfl)
    exact key _ y52_1 z52_v_saved H locs ls h0 (Nat.lt_succ_self _) hP hD hS hl
  have J11 : ∀  (y11_1 : Int32) (z11_v_saved : (Nat → Int32)) (H : Heap) (locs : List Loc) (ls : Array Slot), wp_X7_save_11 v  y11_1 z11_v_saved Q → va_P (dC, dI) vwCl (cX7 cy a ((X7_s v), (X7_aside v), (X7_kept v), (X7_isKept v), z11_v_saved, (X7_savedMany v), (X7_text v), (X7_length v), (X7_thrown v), (X7_joint v), (X7_position v), (X7_isWrong v), (X7_isHollow v), (X7_sure v), (X7_away v), (X7_digested v))) H → va_D A (cX7 cy a ((X7_s v), (X7_aside v), (X7_kept v), (X7_isKept v), z11_v_saved, (X7_savedMany v), (X7_text v), (X7_length v), (X7_thrown v), (X7_joint v), (X7_position v), (X7_isWrong v), (X7_isHollow v), (X7_sure v), (X7_away v), (X7_digested v))) → va_S A s.heap H locs → lv_has ls 2 [(0, .ref (a 0)), (1, .int y11_1)] → W p l e (headSpec wsX7_save ({ frames := 0, cells := 0, slots := 0, locals := 0 } : Room)).room s m ([.ref (a 0)] : List Value).toArray below meth c H locs 0 0 (MQ below (q_X7_save dC dI cy a v Q A) ([.ref (a 0)] : List Value).toArray s 0 0 A) (F0 m 11 ls []) := by
    intro  y11_1 z11_v_saved H locs ls hq hP hD hS hl
    obtain ⟨I11, μ11, h0, hs11⟩ := hq
    have key : ∀ (n : Nat) (y11_1 : Int32) (z11_v_saved : (Nat → Int32)) (H : Heap) (locs : List Loc) (ls : Array Slot), I11 y11_1 z11_v_saved → μ11 y11_1 z11_v_saved < n → va_P (dC, dI) vwCl (cX7 cy a ((X7_s v), (X7_aside v), (X7_kept v), (X7_isKept v), z11_v_saved, (X7_savedMany v), (X7_text v), (X7_length v), (X7_thrown v), (X7_joint v), (X7_position v), (X7_isWrong v), (X7_isHollow v), (X7_sure v), (X7_away v), (X7_digested v))) H → va_D A (cX7 cy a ((X7_s v), (X7_aside v), (X7_kept v), (X7_isKept v), z11_v_saved, (X7_savedMany v), (X7_text v), (X7_length v), (X7_thrown v), (X7_joint v), (X7_position v), (X7_isWrong v), (X7_isHollow v), (X7_sure v), (X7_away v), (X7_digested v))) → va_S A s.heap H locs → lv_has ls 2 [(0, .ref (a 0)), (1, .int y11_1)] → W p l e (headSpec wsX7_save ({ frames := 0, cells := 0, slots := 0, locals := 0 } : Room)).room s m ([.ref (a 0)] : List Value).toArray below meth c H locs 0 0 (MQ below (q_X7_save dC dI cy a v Q A) ([.ref (a 0)] : List Value).toArray s 0 0 A) (F0 m 11 ls []) := by
      intro n
      induction n with
      | zero => intro y11_1 z11_v_saved H locs ls _ hm; exact absurd hm (Nat.not_lt_zero _)
      | succ n ih =>
        intro y11_1 z11_v_saved H locs ls hI hm hP hD hS hl
        have hq := hs11 y11_1 z11_v_saved hI
        generalize hB11 : (fun (t0 : Int32) (t1 : (Nat → Int32)) => I11 t0 t1 ∧ μ11 t0 t1 < μ11 y11_1 z11_v_saved) = B11 at hq
        have bk11 : ∀ (y11_1 : Int32) (z11_v_saved : (Nat → Int32)) (H : Heap) (locs : List Loc) (ls : Array Slot), B11 y11_1 z11_v_saved → va_P (dC, dI) vwCl (cX7 cy a ((X7_s v), (X7_aside v), (X7_kept v), (X7_isKept v), z11_v_saved, (X7_savedMany v), (X7_text v), (X7_length v), (X7_thrown v), (X7_joint v), (X7_position v), (X7_isWrong v), (X7_isHollow v), (X7_sure v), (X7_away v), (X7_digested v))) H → va_D A (cX7 cy a ((X7_s v), (X7_aside v), (X7_kept v), (X7_isKept v), z11_v_saved, (X7_savedMany v), (X7_text v), (X7_length v), (X7_thrown v), (X7_joint v), (X7_position v), (X7_isWrong v), (X7_isHollow v), (X7_sure v), (X7_away v), (X7_digested v))) → va_S A s.heap H locs → lv_has ls 2 [(0, .ref (a 0)), (1, .int y11_1)] → W p l e (headSpec wsX7_save ({ frames := 0, cells := 0, slots := 0, locals := 0 } : Room)).room s m ([.ref (a 0)] : List Value).toArray below meth c H locs 0 0 (MQ below (q_X7_save dC dI cy a v Q A) ([.ref (a 0)] : List Value).toArray s 0 0 A) (F0 m 11 ls []) := by
          intro y11_1 z11_v_saved H locs ls h
          rw [← hB11] at h
          exact ih y11_1 z11_v_saved H locs ls h.1 (Nat.lt_of_lt_of_le h.2 (Nat.le_of_lt_succ hm))
        unfold wb_X7_save_11 at hq
        refine lv_iload_n hx hb dX7_save_11 rfl (lv_at hl 1 rfl) ?_
        refine lv_sipush (v := 7360) hx hb dX7_save_12 (by decide) ?_
        obtain ⟨hqA, hqB⟩ := hq
        refine lv_icmp_ge (tgt := 40) hx hb dX7_save_15 (by decide) (fun c6 => ?_) (fun c6 => ?_)
        · have hq := hqA c6
          refine lv_aload_n hx hb dX7_save_40 rfl (lv_at hl 0 rfl) ?_
          refine lv_dup hx hb dX7_save_41 rfl ?_
          refine va_get (D := (dC, dI)) (ci := 7) (v := .int (X7_savedMany v)) (C := RX7) (T := TX7) (N := 16) hx hb hts iK7 hown hK hP 0 rfl rfl 5 (by decide) lk0 (fun _ h9 => h9) rfl dX7_save_42 ?_
          refine lv_iconst (v := 1) hx hb dX7_save_45 (by decide) ?_
          refine lv_isub hx hb dX7_save_46 ?_
          refine va_put (D := (dC, dI)) (ci := 7) (v := .int ((X7_savedMany v) - 1)) (ty := .int) (C := RX7) (T := TX7) (N := 16) hx hb hts iK7 tyX7 tyX7_ok nmX7 hown hK hP hD hS 0 rfl rfl 5 (by decide) lk0 (fun _ h9 => h9) rfl (by decide +kernel) rfl rfl (Nat.le_of_ble_eq_true rfl) dX7_save_47 (fun H locs hP hD hS => ?_)
          have hP : va_P (dC, dI) vwCl (cX7 cy a ((X7_s v), (X7_aside v), (X7_kept v), (X7_isKept v), z11_v_saved, ((X7_savedMany v) - 1), (X7_text v), (X7_length v), (X7_thrown v), (X7_joint v), (X7_position v), (X7_isWrong v), (X7_isHollow v), (X7_sure v), (X7_away v), (X7_digested v))) H := hP
          have hD : va_D A (cX7 cy a ((X7_s v), (X7_aside v), (X7_kept v), (X7_isKept v), z11_v_saved, ((X7_savedMany v) - 1), (X7_text v), (X7_length v), (X7_thrown v), (X7_joint v), (X7_position v), (X7_isWrong v), (X7_isHollow v), (X7_sure v), (X7_away v), (X7_digested v))) := hD
          refine lv_iconst (v := 0) hx hb dX7_save_50 (by decide) ?_
          refine lv_istore_n (lv' := [(1, .int 0), (0, .ref (a 0))]) hx hb dX7_save_51 rfl hl (by decide) rfl (fun ls hl => ?_)
          exact J52 ((X7_savedMany v) - 1) 0 z11_v_saved H locs ls hq hP hD hS (lv_sub hl [1, 0] rfl)
        · have hq := hqB c6
          refine lv_aload_n hx hb dX7_save_18 rfl (lv_at hl 0 rfl) ?_
          refine va_get (D := (dC, dI)) (ci := 7) (v := .ref (a 4)) (C := RX7) (T := TX7) (N := 16) hx hb hts iK7 hown hK hP 0 rfl rfl 4 (by decide) lk1 (fun _ h9 => h9) rfl dX7_save_19 ?_
          refine lv_iload_n hx hb dX7_save_22 rfl (lv_at hl 1 rfl) ?_
          refine lv_aload_n hx hb dX7_save_23 rfl (lv_at hl 0 rfl) ?_
          refine va_get (D := (dC, dI)) (ci := 7) (v := .ref (a 4)) (C := RX7) (T := TX7) (N := 16) hx hb hts iK7 hown hK hP 0 rfl rfl 4 (by decide) lk1 (fun _ h9 => h9) rfl dX7_save_24 ?_
          refine lv_sipush (v := 1472) hx hb dX7_save_27 (by decide) ?_
          refine lv_iload_n hx hb dX7_save_30 rfl (lv_at hl 1 rfl) ?_
          refine lv_iadd hx hb dX7_save_31 ?_
          obtain ⟨g4, hq⟩ := hq
          refine va_iald hx hb hK hP 4 0 rfl rfl g4 dX7_save_32 ?_
          obtain ⟨g5, hq⟩ := hq
          refine va_iast hx hb hK hP hD hS 4 0 rfl rfl g5 dX7_save_33 (fun H locs hP hD hS => ?_)
          have hP : va_P (dC, dI) vwCl (cX7 cy a ((X7_s v), (X7_aside v), (X7_kept v), (X7_isKept v), (upd z11_v_saved y11_1.toNatClampNeg (z11_v_saved (1472 + y11_1).toNatClampNeg)), (X7_savedMany v), (X7_text v), (X7_length v), (X7_thrown v), (X7_joint v), (X7_position v), (X7_isWrong v), (X7_isHollow v), (X7_sure v), (X7_away v), (X7_digested v))) H := hP
          have hD : va_D A (cX7 cy a ((X7_s v), (X7_aside v), (X7_kept v), (X7_isKept v), (upd z11_v_saved y11_1.toNatClampNeg (z11_v_saved (1472 + y11_1).toNatClampNeg)), (X7_savedMany v), (X7_text v), (X7_length v), (X7_thrown v), (X7_joint v), (X7_position v), (X7_isWrong v), (X7_isHollow v), (X7_sure v), (X7_away v), (X7_digested v))) := hD
          refine lv_iinc (v := (y11_1 + 1)) (lv' := [(1, .int (y11_1 + 1)), (0, .ref (a 0))]) hx hb dX7_save_34 hl (k := 1) rfl rfl (by decide) rfl (fun ls hl => ?_)
          refine lv_goto (tgt := 11) hx hb dX7_save_37 (by decide) ?_
          exact bk11 (y11_1 + 1) (upd z11_v_saved y11_1.toNatClampNeg (z11_v_saved (1472 + y11_1).toNatClampNeg)) H locs ls hq hP hD hS (lv_sub hl [1, 0] rfl)
    exact key _ y11_1 z11_v_saved H locs ls h0 (Nat.lt_succ_self _) hP hD hS hl
  refine lv_aload_n hx hb dX7_save_0 rfl (lv_at hl 0 rfl) ?_
  refine va_get (D := (dC, dI)) (ci := 7) (v := .int (X7_savedMany v)) (C := RX7) (T := TX7) (N := 16) hx hb hts iK7 hown hK hP 0 rfl rfl 5 (by decide) lk0 (fun _ h9 => h9) rfl dX7_save_1 ?_
  refine lv_bipush (v := 6) hx hb dX7_save_4 (by decide) ?_
  obtain ⟨hqA, hqB⟩ := hq
  refine lv_icmp_ne (tgt := 50) hx hb dX7_save_6 (by decide) (fun c7 => ?_) (fun c7 => ?_)
  · have hq := hqB c7
    refine lv_iconst (v := 0) hx hb dX7_save_50 (by decide) ?_
    refine lv_istore_n (lv' := [(1, .int 0), (0, .ref (a 0))]) hx hb dX7_save_51 rfl hl (by decide) rfl (fun ls hl => ?_)
    exact J52 (X7_savedMany v) 0 (X7_saved v) H locs ls hq hP hD hS (lv_sub hl [1, 0] rfl)
  · have hq := hqA c7
    refine lv_iconst (v := 0) hx hb dX7_save_9 (by decide) ?_
    refine lv_istore_n (lv' := [(1, .int 0), (0, .ref (a 0))]) hx hb dX7_save_10 rfl hl (by decide) rfl (fun ls hl => ?_)
    exact J11  0 (X7_saved v) H locs ls hq hP hD hS (lv_sub hl [1, 0] rfl)
def wp_X7_tuftAt (v : V_X7) (x1 : Int32) (Q : Int32 → Prop) : Prop :=
  vp_in (448 + x1) 1472 ∧ Q (((X7_s v) (448 + x1).toNatClampNeg) - ((X7_s v) (448 + x1).toNatClampNeg) / 64 * 64)
def q_X7_tuftAt (dC : Nat → ClassId) (dI : Nat → Nat → Nat) (cy : Nat → ClassId) (a : Nat → Nat) (v : V_X7) (x1 : Int32) (Q : Int32 → Prop) (A : Nat → Prop) : Array Value → State → Outcome → State → Prop := va_Qi (fun (r : Int32) (u : Unit) => Q r ) (fun (u : Unit) t => xAt dC dI cy A (cX7 cy a v) t) A
set_option maxHeartbeats 4000000 in
set_option maxRecDepth 100000 in
theorem c_X7_tuftAt (l : Launch) (dC : Nat → ClassId) (dI : Nat → Nat → Nat) (cy : Nat → ClassId) (a : Nat → Nat) (sz : Nat) (v : V_X7) (x1 : Int32) (Q : Int32 → Prop) (hq : wp_X7_tuftAt v x1 Q) : Met l yX7_tuftAt wsX7_tuftAt ({ frames := 0, cells := 0, slots := 0, locals := 0 } : Room) (va_Pc [.ref (a 0), .int x1] (xPre dC dI cy (cX7 cy a v) sz)) (q_X7_tuftAt dC dI cy a v x1 Q (va_A (cX7 cy a v) sz)) 0 0 (va_A (cX7 cy a v) sz) := by
  refine Met.ofW (cc := cX7_tuftAt) (maxL := 2) (ret := (some .int)) (by decide) rfl ?_
  intro p e s m args below meth c s₁ B hml hv
  obtain ⟨rfl, hsz, hP, hK, hD0⟩ := hv
  have hx := B.exec
  have hb := B.bytes
  have hr := B.returns
  have hts := atoms_spec (ws := wsX7_tuftAt) B.pre
  have hown : s.vm.findClass RX7 = some m.cls := findClass_of_methodNamed B.named
  have hlocks := B.notSynchronized
  subst hsz
  have hD := hD0.self (sz := s.heap.size)
  generalize hAe : va_A (cX7 cy a v) s.heap.size = A at hD ⊢
  have hAe0 : ∀ q : Nat, s.heap.size ≤ q → A q := fun q h => by rw [← hAe]; exact Or.inr h
  have hS : va_S A s.heap s.heap [] := va_S.rf
  have hl := lv_entry ([.ref (a 0), .int x1]) (n := 2) (Nat.le_of_ble_eq_true rfl)
  rw [lg_entry_eq]
  generalize (lg_sl ([.ref (a 0), .int x1]) ++ List.replicate (2 - (lg_sl ([.ref (a 0), .int x1])).length) Slot.unset).toArray = ls at hl ⊢
  have hl : lv_has ls 2 [(0, .ref (a 0)), (1, .int x1)] := hl
  have lk0 := hts (Cond.fieldLink RX7 7 "MolesLawnModel" "s" "[I") (List.mem_cons_of_mem _ (List.mem_append_left _ (List.mem_of_getElem? (i := 0) rfl)))
  have iK7 : ∀ w ∈ wsX70, w ∈ wsX7_tuftAt := fun _ h => (List.mem_cons_of_mem _ (List.mem_append_right _ h))
  unfold wp_X7_tuftAt at hq
  refine lv_aload_n hx hb dX7_tuftAt_0 rfl (lv_at hl 0 rfl) ?_
  refine va_get (D := (dC, dI)) (ci := 7) (v := .ref (a 1)) (C := RX7) (T := TX7) (N := 16) hx hb hts iK7 hown hK hP 0 rfl rfl 0 (by decide) lk0 (fun _ h9 => h9) rfl dX7_tuftAt_1 ?_
  refine lv_sipush (v := 448) hx hb dX7_tuftAt_4 (by decide) ?_
  refine lv_iload_n hx hb dX7_tuftAt_7 rfl (lv_at hl 1 rfl) ?_
  refine lv_iadd hx hb dX7_tuftAt_8 ?_
  obtain ⟨g1, hq⟩ := hq
  refine va_iald hx hb hK hP 1 0 rfl rfl g1 dX7_tuftAt_9 ?_
  refine lv_bipush (v := 64) hx hb dX7_tuftAt_10 (by decide) ?_
  refine lv_irem hx hb dX7_tuftAt_12 (by decide) ?_
  exact W.iret (v := (((X7_s v) (448 + x1).toNatClampNeg) - ((X7_s v) (448 + x1).toNatClampNeg) / 64 * 64)) hx hb hr (fun t ht hW => ⟨⟨(((X7_s v) (448 + x1).toNatClampNeg) - ((X7_s v) (448 + x1).toNatClampNeg) / 64 * 64), (), rfl, hq, (xAt_of hP hK hD ht hW)⟩, hS.F ht⟩) hS.2.2 dX7_tuftAt_13
def wb_X7_endFrom_2 (v : V_X7) (x1 : Int32)  (y2_2 : Int32) (B2 : Int32 → Prop) (Q : Int32 → Prop) : Prop :=
  vp_in (448 + y2_2) 1472 ∧ ((64 ≤ ((X7_s v) (448 + y2_2).toNatClampNeg) → Q y2_2) ∧
  (¬ 64 ≤ ((X7_s v) (448 + y2_2).toNatClampNeg) → B2 (y2_2 + 1)))
def wp_X7_endFrom_2 (v : V_X7) (x1 : Int32)  (y2_2 : Int32) (Q : Int32 → Prop) : Prop :=
  ∃ (I : Int32 → Prop) (μ : Int32 → Nat), I y2_2 ∧ ∀ (s0 : Int32), I s0 → wb_X7_endFrom_2 v x1  s0 (fun t0 => I t0 ∧ μ t0 < μ s0) Q
def wp_X7_endFrom (v : V_X7) (x1 : Int32) (Q : Int32 → Prop) : Prop :=
  wp_X7_endFrom_2 v x1  x1 Q
def q_X7_endFrom (dC : Nat → ClassId) (dI : Nat → Nat → Nat) (cy : Nat → ClassId) (a : Nat → Nat) (v : V_X7) (x1 : Int32) (Q : Int32 → Prop) (A : Nat → Prop) : Array Value → State → Outcome → State → Prop := va_Qi (fun (r : Int32) (u : Unit) => Q r ) (fun (u : Unit) t => xAt dC dI cy A (cX7 cy a v) t) A
set_option maxHeartbeats 4000000 in
set_option maxRecDepth 100000 in
theorem c_X7_endFrom (l : Launch) (dC : Nat → ClassId) (dI : Nat → Nat → Nat) (cy : Nat → ClassId) (a : Nat → Nat) (sz : Nat) (v : V_X7) (x1 : Int32) (Q : Int32 → Prop) (hq : wp_X7_endFrom v x1 Q) : Met l yX7_endFrom wsX7_endFrom ({ frames := 0, cells := 0, slots := 0, locals := 0 } : Room) (va_Pc [.ref (a 0), .int x1] (xPre dC dI cy (cX7 cy a v) sz)) (q_X7_endFrom dC dI cy a v x1 Q (va_A (cX7 cy a v) sz)) 0 0 (va_A (cX7 cy a v) sz) := by
  refine Met.ofW (cc := cX7_endFrom) (maxL := 3) (ret := (some .int)) (by decide) rfl ?_
  intro p e s m args below meth c s₁ B hml hv
  obtain ⟨rfl, hsz, hP, hK, hD0⟩ := hv
  have hx := B.exec
  have hb := B.bytes
  have hr := B.returns
  have hts := atoms_spec (ws := wsX7_endFrom) B.pre
  have hown : s.vm.findClass RX7 = some m.cls := findClass_of_methodNamed B.named
  have hlocks := B.notSynchronized
  subst hsz
  have hD := hD0.self (sz := s.heap.size)
  generalize hAe : va_A (cX7 cy a v) s.heap.size = A at hD ⊢
  have hAe0 : ∀ q : Nat, s.heap.size ≤ q → A q := fun q h => by rw [← hAe]; exact Or.inr h
  have hS : va_S A s.heap s.heap [] := va_S.rf
  have hl := lv_entry ([.ref (a 0), .int x1]) (n := 3) (Nat.le_of_ble_eq_true rfl)
  rw [lg_entry_eq]
  generalize (lg_sl ([.ref (a 0), .int x1]) ++ List.replicate (3 - (lg_sl ([.ref (a 0), .int x1])).length) Slot.unset).toArray = ls at hl ⊢
  have hl : lv_has ls 3 [(0, .ref (a 0)), (1, .int x1)] := hl
  have lk0 := hts (Cond.fieldLink RX7 7 "MolesLawnModel" "s" "[I") (List.mem_cons_of_mem _ (List.mem_append_left _ (List.mem_of_getElem? (i := 0) rfl)))
  have iK7 : ∀ w ∈ wsX70, w ∈ wsX7_endFrom := fun _ h => (List.mem_cons_of_mem _ (List.mem_append_right _ h))
  unfold wp_X7_endFrom at hq
  have J2 : ∀  (y2_2 : Int32) (H : Heap) (locs : List Loc) (ls : Array Slot), wp_X7_endFrom_2 v x1  y2_2 Q → va_P (dC, dI) vwCl (cX7 cy a v) H → va_D A (cX7 cy a v) → va_S A s.heap H locs → lv_has ls 3 [(0, .ref (a 0)), (2, .int y2_2)] → W p l e (headSpec wsX7_endFrom ({ frames := 0, cells := 0, slots := 0, locals := 0 } : Room)).room s m ([.ref (a 0), .int x1] : List Value).toArray below meth c H locs 0 0 (MQ below (q_X7_endFrom dC dI cy a v x1 Q A) ([.ref (a 0), .int x1] : List Value).toArray s 0 0 A) (F0 m 2 ls []) := by
    intro  y2_2 H locs ls hq hP hD hS hl
    obtain ⟨I2, μ2, h0, hs2⟩ := hq
    have key : ∀ (n : Nat) (y2_2 : Int32) (H : Heap) (locs : List Loc) (ls : Array Slot), I2 y2_2 → μ2 y2_2 < n → va_P (dC, dI) vwCl (cX7 cy a v) H → va_D A (cX7 cy a v) → va_S A s.heap H locs → lv_has ls 3 [(0, .ref (a 0)), (2, .int y2_2)] → W p l e (headSpec wsX7_endFrom ({ frames := 0, cells := 0, slots := 0, locals := 0 } : Room)).room s m ([.ref (a 0), .int x1] : List Value).toArray below meth c H locs 0 0 (MQ below (q_X7_endFrom dC dI cy a v x1 Q A) ([.ref (a 0), .int x1] : List Value).toArray s 0 0 A) (F0 m 2 ls []) := by
      intro n
      induction n with
      | zero => intro y2_2 H locs ls _ hm; exact absurd hm (Nat.not_lt_zero _)
      | succ n ih =>
        intro y2_2 H locs ls hI hm hP hD hS hl
        have hq := hs2 y2_2 hI
        generalize hB2 : (fun (t0 : Int32) => I2 t0 ∧ μ2 t0 < μ2 y2_2) = B2 at hq
        have bk2 : ∀ (y2_2 : Int32) (H : Heap) (locs : List Loc) (ls : Array Slot), B2 y2_2 → va_P (dC, dI) vwCl (cX7 cy a v) H → va_D A (cX7 cy a v) → va_S A s.heap H locs → lv_has ls 3 [(0, .ref (a 0)), (2, .int y2_2)] → W p l e (headSpec wsX7_endFrom ({ frames := 0, cells := 0, slots := 0, locals := 0 } : Room)).room s m ([.ref (a 0), .int x1] : List Value).toArray below meth c H locs 0 0 (MQ below (q_X7_endFrom dC dI cy a v x1 Q A) ([.ref (a 0), .int x1] : List Value).toArray s 0 0 A) (F0 m 2 ls []) := by
          intro y2_2 H locs ls h
          rw [← hB2] at h
          exact ih y2_2 H locs ls h.1 (Nat.lt_of_lt_of_le h.2 (Nat.le_of_lt_succ hm))
        unfold wb_X7_endFrom_2 at hq
        refine lv_aload_n hx hb dX7_endFrom_2 rfl (lv_at hl 0 rfl) ?_
        refine va_get (D := (dC, dI)) (ci := 7) (v := .ref (a 1)) (C := RX7) (T := TX7) (N := 16) hx hb hts iK7 hown hK hP 0 rfl rfl 0 (by decide) lk0 (fun _ h9 => h9) rfl dX7_endFrom_3 ?_
        refine lv_sipush (v := 448) hx hb dX7_endFrom_6 (by decide) ?_
        refine lv_iload_n hx hb dX7_endFrom_9 rfl (lv_at hl 1 rfl) ?_
        refine lv_iadd hx hb dX7_endFrom_10 ?_
        obtain ⟨g1, hq⟩ := hq
        refine va_iald hx hb hK hP 1 0 rfl rfl g1 dX7_endFrom_11 ?_
        refine lv_bipush (v := 64) hx hb dX7_endFrom_12 (by decide) ?_
        obtain ⟨hqA, hqB⟩ := hq
        refine lv_icmp_ge (tgt := 23) hx hb dX7_endFrom_14 (by decide) (fun c2 => ?_) (fun c2 => ?_)
        · have hq := hqA c2
          refine lv_iload_n hx hb dX7_endFrom_23 rfl (lv_at hl 1 rfl) ?_
          exact W.iret (v := y2_2) hx hb hr (fun t ht hW => ⟨⟨y2_2, (), rfl, hq, (xAt_of hP hK hD ht hW)⟩, hS.F ht⟩) hS.2.2 dX7_endFrom_24
        · have hq := hqB c2
          refine lv_iinc (v := (y2_2 + 1)) (lv' := [(2, .int (y2_2 + 1)), (0, .ref (a 0))]) hx hb dX7_endFrom_17 hl (k := 1) rfl rfl (by decide) rfl (fun ls hl => ?_)
          refine lv_goto (tgt := 2) hx hb dX7_endFrom_20 (by decide) ?_
          exact bk2 (y2_2 + 1) H locs ls hq hP hD hS (lv_sub hl [1, 0] rfl)
    exact key _ y2_2 H locs ls h0 (Nat.lt_succ_self _) hP hD hS hl
  refine lv_iload_n hx hb dX7_endFrom_0 rfl (lv_at hl 1 rfl) ?_
  refine lv_istore_n (lv' := [(2, .int x1), (0, .ref (a 0)), (1, .int x1)]) hx hb dX7_endFrom_1 rfl hl (by decide) rfl (fun ls hl => ?_)
  exact J2  x1 H locs ls hq hP hD hS (lv_sub hl [1, 0] rfl)
def wb_X7_find_6 (v : V_X7) (x1 : Int32) (x2 : Int32) (x3 : Int32) (x4 : Int32)  (y6_5 : Int32) (y6_6 : Int32) (B6 : Int32 → Int32 → Prop) (Q : Int32 → Prop) : Prop :=
  ((x3 < y6_6 → Q y6_5) ∧
  (¬ x3 < y6_6 → wp_X7_tuftAt v y6_6 (fun r15 =>
  ((r15 = x1 → ((x4 = 0 → ((y6_5 = (-1) → B6 y6_6 (y6_6 + 1)) ∧
  (¬ y6_5 = (-1) → B6 y6_5 (y6_6 + 1)))) ∧
  (¬ x4 = 0 → B6 y6_6 (y6_6 + 1)))) ∧
  (¬ r15 = x1 → B6 y6_5 (y6_6 + 1))))))
def wp_X7_find_6 (v : V_X7) (x1 : Int32) (x2 : Int32) (x3 : Int32) (x4 : Int32)  (y6_5 : Int32) (y6_6 : Int32) (Q : Int32 → Prop) : Prop :=
  ∃ (I : Int32 → Int32 → Prop) (μ : Int32 → Int32 → Nat), I y6_5 y6_6 ∧ ∀ (s0 : Int32) (s1 : Int32), I s0 s1 → wb_X7_find_6 v x1 x2 x3 x4  s0 s1 (fun t0 t1 => I t0 t1 ∧ μ t0 t1 < μ s0 s1) Q
def wp_X7_find (v : V_X7) (x1 : Int32) (x2 : Int32) (x3 : Int32) (x4 : Int32) (Q : Int32 → Prop) : Prop :=
  wp_X7_find_6 v x1 x2 x3 x4  (-1) x2 Q
def q_X7_find (dC : Nat → ClassId) (dI : Nat → Nat → Nat) (cy : Nat → ClassId) (a : Nat → Nat) (v : V_X7) (x1 : Int32) (x2 : Int32) (x3 : Int32) (x4 : Int32) (Q : Int32 → Prop) (A : Nat → Prop) : Array Value → State → Outcome → State → Prop := va_Qi (fun (r : Int32) (u : Unit) => Q r ) (fun (u : Unit) t => xAt dC dI cy A (cX7 cy a v) t) A
set_option maxHeartbeats 4000000 in
set_option maxRecDepth 100000 in
theorem c_X7_find (l : Launch) (dC : Nat → ClassId) (dI : Nat → Nat → Nat) (cy : Nat → ClassId) (a : Nat → Nat) (sz : Nat) (v : V_X7) (x1 : Int32) (x2 : Int32) (x3 : Int32) (x4 : Int32) (Q : Int32 → Prop) (hq : wp_X7_find v x1 x2 x3 x4 Q) : Met l yX7_find wsX7_find ({ frames := 1, cells := 0, slots := 0, locals := 21 } : Room) (va_Pc [.ref (a 0), .int x1, .int x2, .int x3, .int x4] (xPre dC dI cy (cX7 cy a v) sz)) (q_X7_find dC dI cy a v x1 x2 x3 x4 Q (va_A (cX7 cy a v) sz)) 0 0 (va_A (cX7 cy a v) sz) := by
  refine Met.ofW (cc := cX7_find) (maxL := 7) (ret := (some .int)) (by decide) rfl ?_
  intro p e s m args below meth c s₁ B hml hv
  obtain ⟨rfl, hsz, hP, hK, hD0⟩ := hv
  have hx := B.exec
  have hb := B.bytes
  have hr := B.returns
  have hts := atoms_spec (ws := wsX7_find) B.pre
  have hown : s.vm.findClass RX7 = some m.cls := findClass_of_methodNamed B.named
  have hlocks := B.notSynchronized
  subst hsz
  have hD := hD0.self (sz := s.heap.size)
  generalize hAe : va_A (cX7 cy a v) s.heap.size = A at hD ⊢
  have hAe0 : ∀ q : Nat, s.heap.size ≤ q → A q := fun q h => by rw [← hAe]; exact Or.inr h
  have hS : va_S A s.heap s.heap [] := va_S.rf
  have hl := lv_entry ([.ref (a 0), .int x1, .int x2, .int x3, .int x4]) (n := 7) (Nat.le_of_ble_eq_true rfl)
  rw [lg_entry_eq]
  generalize (lg_sl ([.ref (a 0), .int x1, .int x2, .int x3, .int x4]) ++ List.replicate (7 - (lg_sl ([.ref (a 0), .int x1, .int x2, .int x3, .int x4])).length) Slot.unset).toArray = ls at hl ⊢
  have hl : lv_has ls 7 [(0, .ref (a 0)), (1, .int x1), (2, .int x2), (3, .int x3), (4, .int x4)] := hl
  unfold wp_X7_find at hq
  have J6 : ∀  (y6_5 : Int32) (y6_6 : Int32) (H : Heap) (locs : List Loc) (ls : Array Slot), wp_X7_find_6 v x1 x2 x3 x4  y6_5 y6_6 Q → va_P (dC, dI) vwCl (cX7 cy a v) H → va_D A (cX7 cy a v) → va_S A s.heap H locs → lv_has ls 7 [(0, .ref (a 0)), (1, .int x1), (3, .int x3), (4, .int x4), (5, .int y6_5), (6, .int y6_6)] → W p l e (headSpec wsX7_find ({ frames := 1, cells := 0, slots := 0, locals := 21 } : Room)).room s m ([.ref (a 0), .int x1, .int x2, .int x3, .int x4] : List Value).toArray below meth c H locs 0 0 (MQ below (q_X7_find dC dI cy a v x1 x2 x3 x4 Q A) ([.ref (a 0), .int x1, .int x2, .int x3, .int x4] : List Value).toArray s 0 0 A) (F0 m 6 ls []) := by
    intro  y6_5 y6_6 H locs ls hq hP hD hS hl
    obtain ⟨I6, μ6, h0, hs6⟩ := hq
    have key : ∀ (n : Nat) (y6_5 : Int32) (y6_6 : Int32) (H : Heap) (locs : List Loc) (ls : Array Slot), I6 y6_5 y6_6 → μ6 y6_5 y6_6 < n → va_P (dC, dI) vwCl (cX7 cy a v) H → va_D A (cX7 cy a v) → va_S A s.heap H locs → lv_has ls 7 [(0, .ref (a 0)), (1, .int x1), (3, .int x3), (4, .int x4), (5, .int y6_5), (6, .int y6_6)] → W p l e (headSpec wsX7_find ({ frames := 1, cells := 0, slots := 0, locals := 21 } : Room)).room s m ([.ref (a 0), .int x1, .int x2, .int x3, .int x4] : List Value).toArray below meth c H locs 0 0 (MQ below (q_X7_find dC dI cy a v x1 x2 x3 x4 Q A) ([.ref (a 0), .int x1, .int x2, .int x3, .int x4] : List Value).toArray s 0 0 A) (F0 m 6 ls []) := by
      intro n
      induction n with
      | zero => intro y6_5 y6_6 H locs ls _ hm; exact absurd hm (Nat.not_lt_zero _)
      | succ n ih =>
        intro y6_5 y6_6 H locs ls hI hm hP hD hS hl
        have hq := hs6 y6_5 y6_6 hI
        generalize hB6 : (fun (t0 : Int32) (t1 : Int32) => I6 t0 t1 ∧ μ6 t0 t1 < μ6 y6_5 y6_6) = B6 at hq
        have bk6 : ∀ (y6_5 : Int32) (y6_6 : Int32) (H : Heap) (locs : List Loc) (ls : Array Slot), B6 y6_5 y6_6 → va_P (dC, dI) vwCl (cX7 cy a v) H → va_D A (cX7 cy a v) → va_S A s.heap H locs → lv_has ls 7 [(0, .ref (a 0)), (1, .int x1), (3, .int x3), (4, .int x4), (5, .int y6_5), (6, .int y6_6)] → W p l e (headSpec wsX7_find ({ frames := 1, cells := 0, slots := 0, locals := 21 } : Room)).room s m ([.ref (a 0), .int x1, .int x2, .int x3, .int x4] : List Value).toArray below meth c H locs 0 0 (MQ below (q_X7_find dC dI cy a v x1 x2 x3 x4 Q A) ([.ref (a 0), .int x1, .int x2, .int x3, .int x4] : List Value).toArray s 0 0 A) (F0 m 6 ls []) := by
          intro y6_5 y6_6 H locs ls h
          rw [← hB6] at h
          exact ih y6_5 y6_6 H locs ls h.1 (Nat.lt_of_lt_of_le h.2 (Nat.le_of_lt_succ hm))
        unfold wb_X7_find_6 at hq
        refine lv_iload hx hb dX7_find_6 (lv_at hl 5 rfl) ?_
        refine lv_iload_n hx hb dX7_find_8 rfl (lv_at hl 2 rfl) ?_
        obtain ⟨hqA, hqB⟩ := hq
        refine lv_icmp_gt (tgt := 48) hx hb dX7_find_9 (by decide) (fun c4 => ?_) (fun c4 => ?_)
        · have hq := hqA c4
          refine lv_iload hx hb dX7_find_48 (lv_at hl 4 rfl) ?_
          exact W.iret (v := y6_5) hx hb hr (fun t ht hW => ⟨⟨y6_5, (), rfl, hq, (xAt_of hP hK hD ht hW)⟩, hS.F ht⟩) hS.2.2 dX7_find_50
        · have hq := hqB c4
          refine lv_aload_n hx hb dX7_find_12 rfl (lv_at hl 0 rfl) ?_
          refine lv_iload hx hb dX7_find_13 (lv_at hl 5 rfl) ?_
          have hFc := xfree_same hS hAe0 (ws := (cX7 cy a v)) hD
          refine va_calli (va_runV (As := [.int y6_6]) (rest := []) ⟨hx, hb, hml, hown, hts⟩ (c_X7_tuftAt l dC dI cy a _ v y6_6 _ hq) (cwV 1 hts gX7_find_X7_tuftAt rfl rfl rfl (by decide +kernel) ⟨Nat.le_of_ble_eq_true rfl, Nat.le_of_ble_eq_true rfl⟩) ⟨xPre_blind, va_recv hK hP (ci := 7) (q0 := 0) rfl rfl, xPre_of hP hK hD⟩ rfl rfl hl.1 rfl (lv_room (Nat.le_of_ble_eq_true rfl)) dX7_find_15 ⟨Nat.le_of_ble_eq_true rfl, Nat.le_of_ble_eq_true rfl⟩) hS (fun q _ h => hFc q h) hFc (fun r15 u t H locs ht hvm hq hB hz1 hk1 hS => ?_)
          obtain ⟨hP1, -, hD1⟩ := hB
          rw [ht] at hP1
          have hP : va_P (dC, dI) vwCl (cX7 cy a v) H := hP1
          have hD : va_D A (cX7 cy a v) := hD1.weaken (fun _ q _ h => hFc q.1 h)
          refine lv_iload_n hx hb dX7_find_18 rfl (lv_at hl 1 rfl) ?_
          obtain ⟨hqA, hqB⟩ := hq
          refine lv_icmp_ne (tgt := 38) hx hb dX7_find_19 (by decide) (fun c3 => ?_) (fun c3 => ?_)
          · have hq := hqB c3
            refine lv_iload hx hb dX7_find_38 (lv_at hl 4 rfl) ?_
            refine lv_istore (lv' := [(5, .int y6_5), (0, .ref (a 0)), (1, .int x1), (3, .int x3), (4, .int x4), (6, .int y6_6)]) hx hb dX7_find_40 hl (by decide) rfl (fun ls hl => ?_)
            refine lv_iinc (v := (y6_6 + 1)) (lv' := [(6, .int (y6_6 + 1)), (5, .int y6_5), (0, .ref (a 0)), (1, .int x1), (3, .int x3), (4, .int x4)]) hx hb dX7_find_42 hl (k := 5) rfl rfl (by decide) rfl (fun ls hl => ?_)
            refine lv_goto (tgt := 6) hx hb dX7_find_45 (by decide) ?_
            exact bk6 y6_5 (y6_6 + 1) H locs ls hq hP hD hS (lv_sub hl [2, 3, 4, 5, 1, 0] rfl)
          · have hq := hqA c3
            refine lv_iload hx hb dX7_find_22 (lv_at hl 3 rfl) ?_
            obtain ⟨hqA, hqB⟩ := hq
            refine lv_if_ne (tgt := 33) hx hb dX7_find_24 (by decide) (fun c2 => ?_) (fun c2 => ?_)
            · have hq := hqB c2
              refine lv_iload hx hb dX7_find_33 (lv_at hl 5 rfl) ?_
              refine lv_goto (tgt := 40) hx hb dX7_find_35 (by decide) ?_
              refine lv_istore (lv' := [(5, .int y6_6), (0, .ref (a 0)), (1, .int x1), (3, .int x3), (4, .int x4), (6, .int y6_6)]) hx hb dX7_find_40 hl (by decide) rfl (fun ls hl => ?_)
              refine lv_iinc (v := (y6_6 + 1)) (lv' := [(6, .int (y6_6 + 1)), (5, .int y6_6), (0, .ref (a 0)), (1, .int x1), (3, .int x3), (4, .int x4)]) hx hb dX7_find_42 hl (k := 5) rfl rfl (by decide) rfl (fun ls hl => ?_)
              refine lv_goto (tgt := 6) hx hb dX7_find_45 (by decide) ?_
              exact bk6 y6_6 (y6_6 + 1) H locs ls hq hP hD hS (lv_sub hl [2, 3, 4, 5, 1, 0] rfl)
            · have hq := hqA c2
              refine lv_iload hx hb dX7_find_27 (lv_at hl 4 rfl) ?_
              refine lv_iconst (v := (-1)) hx hb dX7_find_29 (by decide) ?_
              obtain ⟨hqA, hqB⟩ := hq
              refine lv_icmp_ne (tgt := 38) hx hb dX7_find_30 (by decide) (fun c1 => ?_) (fun c1 => ?_)
              · have hq := hqB c1
                refine lv_iload hx hb dX7_find_38 (lv_at hl 4 rfl) ?_
                refine lv_istore (lv' := [(5, .int y6_5), (0, .ref (a 0)), (1, .int x1), (3, .int x3), (4, .int x4), (6, .int y6_6)]) hx hb dX7_find_40 hl (by decide) rfl (fun ls hl => ?_)
                refine lv_iinc (v := (y6_6 + 1)) (lv' := [(6, .int (y6_6 + 1)), (5, .int y6_5), (0, .ref (a 0)), (1, .int x1), (3, .int x3), (4, .int x4)]) hx hb dX7_find_42 hl (k := 5) rfl rfl (by decide) rfl (fun ls hl => ?_)
                refine lv_goto (tgt := 6) hx hb dX7_find_45 (by decide) ?_
                exact bk6 y6_5 (y6_6 + 1) H locs ls hq hP hD hS (lv_sub hl [2, 3, 4, 5, 1, 0] rfl)
              · have hq := hqA c1
                refine lv_iload hx hb dX7_find_33 (lv_at hl 5 rfl) ?_
                refine lv_goto (tgt := 40) hx hb dX7_find_35 (by decide) ?_
                refine lv_istore (lv' := [(5, .int y6_6), (0, .ref (a 0)), (1, .int x1), (3, .int x3), (4, .int x4), (6, .int y6_6)]) hx hb dX7_find_40 hl (by decide) rfl (fun ls hl => ?_)
                refine lv_iinc (v := (y6_6 + 1)) (lv' := [(6, .int (y6_6 + 1)), (5, .int y6_6), (0, .ref (a 0)), (1, .int x1), (3, .int x3), (4, .int x4)]) hx hb dX7_find_42 hl (k := 5) rfl rfl (by decide) rfl (fun ls hl => ?_)
                refine lv_goto (tgt := 6) hx hb dX7_find_45 (by decide) ?_
                exact bk6 y6_6 (y6_6 + 1) H locs ls hq hP hD hS (lv_sub hl [2, 3, 4, 5, 1, 0] rfl)
    exact key _ y6_5 y6_6 H locs ls h0 (Nat.lt_succ_self _) hP hD hS hl
  refine lv_iconst (v := (-1)) hx hb dX7_find_0 (by decide) ?_
  refine lv_istore (lv' := [(5, .int (-1)), (0, .ref (a 0)), (1, .int x1), (2, .int x2), (3, .int x3), (4, .int x4)]) hx hb dX7_find_1 hl (by decide) rfl (fun ls hl => ?_)
  refine lv_iload_n hx hb dX7_find_3 rfl (lv_at hl 3 rfl) ?_
  refine lv_istore (lv' := [(6, .int x2), (5, .int (-1)), (0, .ref (a 0)), (1, .int x1), (2, .int x2), (3, .int x3), (4, .int x4)]) hx hb dX7_find_4 hl (by decide) rfl (fun ls hl => ?_)
  exact J6  (-1) x2 H locs ls hq hP hD hS (lv_sub hl [2, 3, 5, 6, 1, 0] rfl)
def wb_X7_shifts_111 (v : V_X7) (x1 : Int32) (x2 : Int32)  (y111_3 : Int32) (z111_v_s : (Nat → Int32)) (B111 : Int32 → (Nat → Int32) → Prop) (Q : (Nat → Int32) → Prop) : Prop :=
  vp_in 7 1472 ∧ ((((z111_v_s (7 : Int32).toNatClampNeg) - x2) ≤ y111_3 → Q z111_v_s) ∧
  (¬ ((z111_v_s (7 : Int32).toNatClampNeg) - x2) ≤ y111_3 → vp_in (448 + y111_3) 1472 ∧ B111 (y111_3 + 1) (upd z111_v_s (448 + y111_3).toNatClampNeg 0)))
def wp_X7_shifts_111 (v : V_X7) (x1 : Int32) (x2 : Int32)  (y111_3 : Int32) (z111_v_s : (Nat → Int32)) (Q : (Nat → Int32) → Prop) : Prop :=
  ∃ (I : Int32 → (Nat → Int32) → Prop) (μ : Int32 → (Nat → Int32) → Nat), I y111_3 z111_v_s ∧ ∀ (s0 : Int32) (s1 : (Nat → Int32)), I s0 s1 → wb_X7_shifts_111 v x1 x2  s0 s1 (fun t0 t1 => I t0 t1 ∧ μ t0 t1 < μ s0 s1) Q
def wp_X7_shifts_92 (v : V_X7) (x1 : Int32) (x2 : Int32) (z92_v_s : (Nat → Int32)) (Q : (Nat → Int32) → Prop) : Prop :=
  vp_in 7 1472 ∧ wp_X7_shifts_111 v x1 x2  ((upd z92_v_s (7 : Int32).toNatClampNeg ((z92_v_s (7 : Int32).toNatClampNeg) + x2)) (7 : Int32).toNatClampNeg) (upd z92_v_s (7 : Int32).toNatClampNeg ((z92_v_s (7 : Int32).toNatClampNeg) + x2)) Q
def wb_X7_shifts_49 (v : V_X7) (x1 : Int32) (x2 : Int32)  (y49_3 : Int32) (z49_v_s : (Nat → Int32)) (B49 : Int32 → (Nat → Int32) → Prop) (Q : (Nat → Int32) → Prop) : Prop :=
  vp_in 7 1472 ∧ (((z49_v_s (7 : Int32).toNatClampNeg) ≤ y49_3 → wp_X7_shifts_92 v x1 x2 z49_v_s  Q) ∧
  (¬ (z49_v_s (7 : Int32).toNatClampNeg) ≤ y49_3 → ((0 ≤ x2 → wp_X7_shifts_92 v x1 x2 z49_v_s  Q) ∧
  (¬ 0 ≤ x2 → vp_in (448 + y49_3) 1472 ∧ vp_in ((448 + y49_3) + x2) 1472 ∧ B49 (y49_3 + 1) (upd z49_v_s ((448 + y49_3) + x2).toNatClampNeg (z49_v_s (448 + y49_3).toNatClampNeg))))))
def wp_X7_shifts_49 (v : V_X7) (x1 : Int32) (x2 : Int32)  (y49_3 : Int32) (z49_v_s : (Nat → Int32)) (Q : (Nat → Int32) → Prop) : Prop :=
  ∃ (I : Int32 → (Nat → Int32) → Prop) (μ : Int32 → (Nat → Int32) → Nat), I y49_3 z49_v_s ∧ ∀ (s0 : Int32) (s1 : (Nat → Int32)), I s0 s1 → wb_X7_shifts_49 v x1 x2  s0 s1 (fun t0 t1 => I t0 t1 ∧ μ t0 t1 < μ s0 s1) Q
def wb_X7_shifts_10 (v : V_X7) (x1 : Int32) (x2 : Int32)  (y10_3 : Int32) (z10_v_s : (Nat → Int32)) (B10 : Int32 → (Nat → Int32) → Prop) (Q : (Nat → Int32) → Prop) : Prop :=
  ((y10_3 < x1 → wp_X7_shifts_49 v x1 x2  x1 z10_v_s Q) ∧
  (¬ y10_3 < x1 → ((x2 ≤ 0 → wp_X7_shifts_49 v x1 x2  x1 z10_v_s Q) ∧
  (¬ x2 ≤ 0 → vp_in (448 + y10_3) 1472 ∧ vp_in ((448 + y10_3) + x2) 1472 ∧ B10 (y10_3 + (-1)) (upd z10_v_s ((448 + y10_3) + x2).toNatClampNeg (z10_v_s (448 + y10_3).toNatClampNeg))))))
def wp_X7_shifts_10 (v : V_X7) (x1 : Int32) (x2 : Int32)  (y10_3 : Int32) (z10_v_s : (Nat → Int32)) (Q : (Nat → Int32) → Prop) : Prop :=
  ∃ (I : Int32 → (Nat → Int32) → Prop) (μ : Int32 → (Nat → Int32) → Nat), I y10_3 z10_v_s ∧ ∀ (s0 : Int32) (s1 : (Nat → Int32)), I s0 s1 → wb_X7_shifts_10 v x1 x2  s0 s1 (fun t0 t1 => I t0 t1 ∧ μ t0 t1 < μ s0 s1) Q
def wp_X7_shifts (v : V_X7) (x1 : Int32) (x2 : Int32) (Q : (Nat → Int32) → Prop) : Prop :=
  vp_in 7 1472 ∧ wp_X7_shifts_10 v x1 x2  (((X7_s v) (7 : Int32).toNatClampNeg) - 1) (X7_s v) Q
def q_X7_shifts (dC : Nat → ClassId) (dI : Nat → Nat → Nat) (cy : Nat → ClassId) (a : Nat → Nat) (v : V_X7) (x1 : Int32) (x2 : Int32) (Q : (Nat → Int32) → Prop) (A : Nat → Prop) : Array Value → State → Outcome → State → Prop := va_Qv (fun (u : (Nat → Int32)) => Q u) (fun (u : (Nat → Int32)) t => xAt dC dI cy A (cX7 cy a (u, (X7_aside v), (X7_kept v), (X7_isKept v), (X7_saved v), (X7_savedMany v), (X7_text v), (X7_length v), (X7_thrown v), (X7_joint v), (X7_position v), (X7_isWrong v), (X7_isHollow v), (X7_sure v), (X7_away v), (X7_digested v))) t) A
set_option maxHeartbeats 4000000 in
set_option maxRecDepth 100000 in
theorem c_X7_shifts (l : Launch) (dC : Nat → ClassId) (dI : Nat → Nat → Nat) (cy : Nat → ClassId) (a : Nat → Nat) (sz : Nat) (v : V_X7) (x1 : Int32) (x2 : Int32) (Q : (Nat → Int32) → Prop) (hq : wp_X7_shifts v x1 x2 Q) : Met l yX7_shifts wsX7_shifts ({ frames := 0, cells := 0, slots := 0, locals := 0 } : Room) (va_Pc [.ref (a 0), .int x1, .int x2] (xPre dC dI cy (cX7 cy a v) sz)) (q_X7_shifts dC dI cy a v x1 x2 Q (va_A (cX7 cy a v) sz)) 0 0 (va_A (cX7 cy a v) sz) := by
  refine Met.ofW (cc := cX7_shifts) (maxL := 4) (ret := none) (by decide) rfl ?_
  intro p e s m args below meth c s₁ B hml hv
  obtain ⟨rfl, hsz, hP, hK, hD0⟩ := hv
  have hx := B.exec
  have hb := B.bytes
  have hr := B.returns
  have hts := atoms_spec (ws := wsX7_shifts) B.pre
  have hown : s.vm.findClass RX7 = some m.cls := findClass_of_methodNamed B.named
  have hlocks := B.notSynchronized
  subst hsz
  have hD := hD0.self (sz := s.heap.size)
  generalize hAe : va_A (cX7 cy a v) s.heap.size = A at hD ⊢
  have hAe0 : ∀ q : Nat, s.heap.size ≤ q → A q := fun q h => by rw [← hAe]; exact Or.inr h
  have hS : va_S A s.heap s.heap [] := va_S.rf
  have hl := lv_entry ([.ref (a 0), .int x1, .int x2]) (n := 4) (Nat.le_of_ble_eq_true rfl)
  rw [lg_entry_eq]
  generalize (lg_sl ([.ref (a 0), .int x1, .int x2]) ++ List.replicate (4 - (lg_sl ([.ref (a 0), .int x1, .int x2])).length) Slot.unset).toArray = ls at hl ⊢
  have hl : lv_has ls 4 [(0, .ref (a 0)), (1, .int x1), (2, .int x2)] := hl
  have lk0 := hts (Cond.fieldLink RX7 7 "MolesLawnModel" "s" "[I") (List.mem_cons_of_mem _ (List.mem_append_left _ (List.mem_of_getElem? (i := 0) rfl)))
  have iK7 : ∀ w ∈ wsX70, w ∈ wsX7_shifts := fun _ h => (List.mem_cons_of_mem _ (List.mem_append_right _ h))
  unfold wp_X7_shifts at hq
  have J111 : ∀  (y111_3 : Int32) (z111_v_s : (Nat → Int32)) (H : Heap) (locs : List Loc) (ls : Array Slot), wp_X7_shifts_111 v x1 x2  y111_3 z111_v_s Q → va_P (dC, dI) vwCl (cX7 cy a (z111_v_s, (X7_aside v), (X7_kept v), (X7_isKept v), (X7_saved v), (X7_savedMany v), (X7_text v), (X7_length v), (X7_thrown v), (X7_joint v), (X7_position v), (X7_isWrong v), (X7_isHollow v), (X7_sure v), (X7_away v), (X7_digested v))) H → va_D A (cX7 cy a (z111_v_s, (X7_aside v), (X7_kept v), (X7_isKept v), (X7_saved v), (X7_savedMany v), (X7_text v), (X7_length v), (X7_thrown v), (X7_joint v), (X7_position v), (X7_isWrong v), (X7_isHollow v), (X7_sure v), (X7_away v), (X7_digested v))) → va_S A s.heap H locs → lv_has ls 4 [(0, .ref (a 0)), (2, .int x2), (3, .int y111_3)] → W p l e (headSpec wsX7_shifts ({ frames := 0, cells := 0, slots := 0, locals := 0 } : Room)).room s m ([.ref (a 0), .int x1, .int x2] : List Value).toArray below meth c H locs 0 0 (MQ below (q_X7_shifts dC dI cy a v x1 x2 Q A) ([.ref (a 0), .int x1, .int x2] : List Value).toArray s 0 0 A) (F0 m 111 ls []) := by
    intro  y111_3 z111_v_s H locs ls hq hP hD hS hl
    obtain ⟨I111, μ111, h0, hs111⟩ := hq
    have key : ∀ (n : Nat) (y111_3 : Int32) (z111_v_s : (Nat → Int32)) (H : Heap) (locs : List Loc) (ls : Array Slot), I111 y111_3 z111_v_s → μ111 y111_3 z111_v_s < n → va_P (dC, dI) vwCl (cX7 cy a (z111_v_s, (X7_aside v), (X7_kept v), (X7_isKept v), (X7_saved v), (X7_savedMany v), (X7_text v), (X7_length v), (X7_thrown v), (X7_joint v), (X7_position v), (X7_isWrong v), (X7_isHollow v), (X7_sure v), (X7_away v), (X7_digested v))) H → va_D A (cX7 cy a (z111_v_s, (X7_aside v), (X7_kept v), (X7_isKept v), (X7_saved v), (X7_savedMany v), (X7_text v), (X7_length v), (X7_thrown v), (X7_joint v), (X7_position v), (X7_isWrong v), (X7_isHollow v), (X7_sure v), (X7_away v), (X7_digested v))) → va_S A s.heap H locs → lv_has ls 4 [(0, .ref (a 0)), (2, .int x2), (3, .int y111_3)] → W p l e (headSpec wsX7_shifts ({ frames := 0, cells := 0, slots := 0, locals := 0 } : Room)).room s m ([.ref (a 0), .int x1, .int x2] : List Value).toArray below meth c H locs 0 0 (MQ below (q_X7_shifts dC dI cy a v x1 x2 Q A) ([.ref (a 0), .int x1, .int x2] : List Value).toArray s 0 0 A) (F0 m 111 ls []) := by
      intro n
      induction n with
      | zero => intro y111_3 z111_v_s H locs ls _ hm; exact absurd hm (Nat.not_lt_zero _)
      | succ n ih =>
        intro y111_3 z111_v_s H locs ls hI hm hP hD hS hl
        have hq := hs111 y111_3 z111_v_s hI
        generalize hB111 : (fun (t0 : Int32) (t1 : (Nat → Int32)) => I111 t0 t1 ∧ μ111 t0 t1 < μ111 y111_3 z111_v_s) = B111 at hq
        have bk111 : ∀ (y111_3 : Int32) (z111_v_s : (Nat → Int32)) (H : Heap) (locs : List Loc) (ls : Array Slot), B111 y111_3 z111_v_s → va_P (dC, dI) vwCl (cX7 cy a (z111_v_s, (X7_aside v), (X7_kept v), (X7_isKept v), (X7_saved v), (X7_savedMany v), (X7_text v), (X7_length v), (X7_thrown v), (X7_joint v), (X7_position v), (X7_isWrong v), (X7_isHollow v), (X7_sure v), (X7_away v), (X7_digested v))) H → va_D A (cX7 cy a (z111_v_s, (X7_aside v), (X7_kept v), (X7_isKept v), (X7_saved v), (X7_savedMany v), (X7_text v), (X7_length v), (X7_thrown v), (X7_joint v), (X7_position v), (X7_isWrong v), (X7_isHollow v), (X7_sure v), (X7_away v), (X7_digested v))) → va_S A s.heap H locs → lv_has ls 4 [(0, .ref (a 0)), (2, .int x2), (3, .int y111_3)] → W p l e (headSpec wsX7_shifts ({ frames := 0, cells := 0, slots := 0, locals := 0 } : Room)).room s m ([.ref (a 0), .int x1, .int x2] : List Value).toArray below meth c H locs 0 0 (MQ below (q_X7_shifts dC dI cy a v x1 x2 Q A) ([.ref (a 0), .int x1, .int x2] : List Value).toArray s 0 0 A) (F0 m 111 ls []) := by
          intro y111_3 z111_v_s H locs ls h
          rw [← hB111] at h
          exact ih y111_3 z111_v_s H locs ls h.1 (Nat.lt_of_lt_of_le h.2 (Nat.le_of_lt_succ hm))
        unfold wb_X7_shifts_111 at hq
        refine lv_iload_n hx hb dX7_shifts_111 rfl (lv_at hl 2 rfl) ?_
        refine lv_aload_n hx hb dX7_shifts_112 rfl (lv_at hl 0 rfl) ?_
        refine va_get (D := (dC, dI)) (ci := 7) (v := .ref (a 1)) (C := RX7) (T := TX7) (N := 16) hx hb hts iK7 hown hK hP 0 rfl rfl 0 (by decide) lk0 (fun _ h9 => h9) rfl dX7_shifts_113 ?_
        refine lv_bipush (v := 7) hx hb dX7_shifts_116 (by decide) ?_
        obtain ⟨g1, hq⟩ := hq
        refine va_iald hx hb hK hP 1 0 rfl rfl g1 dX7_shifts_118 ?_
        refine lv_iload_n hx hb dX7_shifts_119 rfl (lv_at hl 1 rfl) ?_
        refine lv_isub hx hb dX7_shifts_120 ?_
        obtain ⟨hqA, hqB⟩ := hq
        refine lv_icmp_ge (tgt := 141) hx hb dX7_shifts_121 (by decide) (fun c3 => ?_) (fun c3 => ?_)
        · have hq := hqA c3
          exact W.vret hx hb hr (fun t ht hW => ⟨⟨z111_v_s, rfl, hq, (xAt_of hP hK hD ht hW)⟩, hS.F ht⟩) hS.2.2 dX7_shifts_141
        · have hq := hqB c3
          refine lv_aload_n hx hb dX7_shifts_124 rfl (lv_at hl 0 rfl) ?_
          refine va_get (D := (dC, dI)) (ci := 7) (v := .ref (a 1)) (C := RX7) (T := TX7) (N := 16) hx hb hts iK7 hown hK hP 0 rfl rfl 0 (by decide) lk0 (fun _ h9 => h9) rfl dX7_shifts_125 ?_
          refine lv_sipush (v := 448) hx hb dX7_shifts_128 (by decide) ?_
          refine lv_iload_n hx hb dX7_shifts_131 rfl (lv_at hl 2 rfl) ?_
          refine lv_iadd hx hb dX7_shifts_132 ?_
          refine lv_iconst (v := 0) hx hb dX7_shifts_133 (by decide) ?_
          obtain ⟨g2, hq⟩ := hq
          refine va_iast hx hb hK hP hD hS 1 0 rfl rfl g2 dX7_shifts_134 (fun H locs hP hD hS => ?_)
          have hP : va_P (dC, dI) vwCl (cX7 cy a ((upd z111_v_s (448 + y111_3).toNatClampNeg 0), (X7_aside v), (X7_kept v), (X7_isKept v), (X7_saved v), (X7_savedMany v), (X7_text v), (X7_length v), (X7_thrown v), (X7_joint v), (X7_position v), (X7_isWrong v), (X7_isHollow v), (X7_sure v), (X7_away v), (X7_digested v))) H := hP
          have hD : va_D A (cX7 cy a ((upd z111_v_s (448 + y111_3).toNatClampNeg 0), (X7_aside v), (X7_kept v), (X7_isKept v), (X7_saved v), (X7_savedMany v), (X7_text v), (X7_length v), (X7_thrown v), (X7_joint v), (X7_position v), (X7_isWrong v), (X7_isHollow v), (X7_sure v), (X7_away v), (X7_digested v))) := hD
          refine lv_iinc (v := (y111_3 + 1)) (lv' := [(3, .int (y111_3 + 1)), (0, .ref (a 0)), (2, .int x2)]) hx hb dX7_shifts_135 hl (k := 2) rfl rfl (by decide) rfl (fun ls hl => ?_)
          refine lv_goto (tgt := 111) hx hb dX7_shifts_138 (by decide) ?_
          exact bk111 (y111_3 + 1) (upd z111_v_s (448 + y111_3).toNatClampNeg 0) H locs ls hq hP hD hS (lv_sub hl [1, 2, 0] rfl)
    exact key _ y111_3 z111_v_s H locs ls h0 (Nat.lt_succ_self _) hP hD hS hl
  have J92 : ∀ (z92_v_s : (Nat → Int32)) (H : Heap) (locs : List Loc) (ls : Array Slot), wp_X7_shifts_92 v x1 x2 z92_v_s Q → va_P (dC, dI) vwCl (cX7 cy a (z92_v_s, (X7_aside v), (X7_kept v), (X7_isKept v), (X7_saved v), (X7_savedMany v), (X7_text v), (X7_length v), (X7_thrown v), (X7_joint v), (X7_position v), (X7_isWrong v), (X7_isHollow v), (X7_sure v), (X7_away v), (X7_digested v))) H → va_D A (cX7 cy a (z92_v_s, (X7_aside v), (X7_kept v), (X7_isKept v), (X7_saved v), (X7_savedMany v), (X7_text v), (X7_length v), (X7_thrown v), (X7_joint v), (X7_position v), (X7_isWrong v), (X7_isHollow v), (X7_sure v), (X7_away v), (X7_digested v))) → va_S A s.heap H locs → lv_has ls 4 [(0, .ref (a 0)), (2, .int x2)] → W p l e (headSpec wsX7_shifts ({ frames := 0, cells := 0, slots := 0, locals := 0 } : Room)).room s m ([.ref (a 0), .int x1, .int x2] : List Value).toArray below meth c H locs 0 0 (MQ below (q_X7_shifts dC dI cy a v x1 x2 Q A) ([.ref (a 0), .int x1, .int x2] : List Value).toArray s 0 0 A) (F0 m 92 ls []) := by
    intro z92_v_s H locs ls hq hP hD hS hl
    unfold wp_X7_shifts_92 at hq
    refine lv_aload_n hx hb dX7_shifts_92 rfl (lv_at hl 0 rfl) ?_
    refine va_get (D := (dC, dI)) (ci := 7) (v := .ref (a 1)) (C := RX7) (T := TX7) (N := 16) hx hb hts iK7 hown hK hP 0 rfl rfl 0 (by decide) lk0 (fun _ h9 => h9) rfl dX7_shifts_93 ?_
    refine lv_bipush (v := 7) hx hb dX7_shifts_96 (by decide) ?_
    refine lv_dup2_11 hx hb dX7_shifts_98 rfl rfl ?_
    obtain ⟨g4, hq⟩ := hq
    refine va_iald hx hb hK hP 1 0 rfl rfl g4 dX7_shifts_99 ?_
    refine lv_iload_n hx hb dX7_shifts_100 rfl (lv_at hl 1 rfl) ?_
    refine lv_iadd hx hb dX7_shifts_101 ?_
    refine va_iast hx hb hK hP hD hS 1 0 rfl rfl g4 dX7_shifts_102 (fun H locs hP hD hS => ?_)
    have hP : va_P (dC, dI) vwCl (cX7 cy a ((upd z92_v_s (7 : Int32).toNatClampNeg ((z92_v_s (7 : Int32).toNatClampNeg) + x2)), (X7_aside v), (X7_kept v), (X7_isKept v), (X7_saved v), (X7_savedMany v), (X7_text v), (X7_length v), (X7_thrown v), (X7_joint v), (X7_position v), (X7_isWrong v), (X7_isHollow v), (X7_sure v), (X7_away v), (X7_digested v))) H := hP
    have hD : va_D A (cX7 cy a ((upd z92_v_s (7 : Int32).toNatClampNeg ((z92_v_s (7 : Int32).toNatClampNeg) + x2)), (X7_aside v), (X7_kept v), (X7_isKept v), (X7_saved v), (X7_savedMany v), (X7_text v), (X7_length v), (X7_thrown v), (X7_joint v), (X7_position v), (X7_isWrong v), (X7_isHollow v), (X7_sure v), (X7_away v), (X7_digested v))) := hD
    refine lv_aload_n hx hb dX7_shifts_103 rfl (lv_at hl 0 rfl) ?_
    refine va_get (D := (dC, dI)) (ci := 7) (v := .ref (a 1)) (C := RX7) (T := TX7) (N := 16) hx hb hts iK7 hown hK hP 0 rfl rfl 0 (by decide) lk0 (fun _ h9 => h9) rfl dX7_shifts_104 ?_
    refine lv_bipush (v := 7) hx hb dX7_shifts_107 (by decide) ?_
    refine va_iald hx hb hK hP 1 0 rfl rfl g4 dX7_shifts_109 ?_
    refine lv_istore_n (lv' := [(3, .int ((upd z92_v_s (7 : Int32).toNatClampNeg ((z92_v_s (7 : Int32).toNatClampNeg) + x2)) (7 : Int32).toNatClampNeg)), (0, .ref (a 0)), (2, .int x2)]) hx hb dX7_shifts_110 rfl hl (by decide) rfl (fun ls hl => ?_)
    exact J111  ((upd z92_v_s (7 : Int32).toNatClampNeg ((z92_v_s (7 : Int32).toNatClampNeg) + x2)) (7 : Int32).toNatClampNeg) (upd z92_v_s (7 : Int32).toNatClampNeg ((z92_v_s (7 : Int32).toNatClampNeg) + x2)) H locs ls hq hP hD hS (lv_sub hl [1, 2, 0] rfl)
  have J49 : ∀  (y49_3 : Int32) (z49_v_s : (Nat → Int32)) (H : Heap) (locs : List Loc) (ls : Array Slot), wp_X7_shifts_49 v x1 x2  y49_3 z49_v_s Q → va_P (dC, dI) vwCl (cX7 cy a (z49_v_s, (X7_aside v), (X7_kept v), (X7_isKept v), (X7_saved v), (X7_savedMany v), (X7_text v), (X7_length v), (X7_thrown v), (X7_joint v), (X7_position v), (X7_isWrong v), (X7_isHollow v), (X7_sure v), (X7_away v), (X7_digested v))) H → va_D A (cX7 cy a (z49_v_s, (X7_aside v), (X7_kept v), (X7_isKept v), (X7_saved v), (X7_savedMany v), (X7_text v), (X7_length v), (X7_thrown v), (X7_joint v), (X7_position v), (X7_isWrong v), (X7_isHollow v), (X7_sure v), (X7_away v), (X7_digested v))) → va_S A s.heap H locs → lv_has ls 4 [(0, .ref (a 0)), (2, .int x2), (3, .int y49_3)] → W p l e (headSpec wsX7_shifts ({ frames := 0, cells := 0, slots := 0, locals := 0 } : Room)).room s m ([.ref (a 0), .int x1, .int x2] : List Value).toArray below meth c H locs 0 0 (MQ below (q_X7_shifts dC dI cy a v x1 x2 Q A) ([.ref (a 0), .int x1, .int x2] : List Value).toArray s 0 0 A) (F0 m 49 ls []) := by
    intro  y49_3 z49_v_s H locs ls hq hP hD hS hl
    obtain ⟨I49, μ49, h0, hs49⟩ := hq
    have key : ∀ (n : Nat) (y49_3 : Int32) (z49_v_s : (Nat → Int32)) (H : Heap) (locs : List Loc) (ls : Array Slot), I49 y49_3 z49_v_s → μ49 y49_3 z49_v_s < n → va_P (dC, dI) vwCl (cX7 cy a (z49_v_s, (X7_aside v), (X7_kept v), (X7_isKept v), (X7_saved v), (X7_savedMany v), (X7_text v), (X7_length v), (X7_thrown v), (X7_joint v), (X7_position v), (X7_isWrong v), (X7_isHollow v), (X7_sure v), (X7_away v), (X7_digested v))) H → va_D A (cX7 cy a (z49_v_s, (X7_aside v), (X7_kept v), (X7_isKept v), (X7_saved v), (X7_savedMany v), (X7_text v), (X7_length v), (X7_thrown v), (X7_joint v), (X7_position v), (X7_isWrong v), (X7_isHollow v), (X7_sure v), (X7_away v), (X7_digested v))) → va_S A s.heap H locs → lv_has ls 4 [(0, .ref (a 0)), (2, .int x2), (3, .int y49_3)] → W p l e (headSpec wsX7_shifts ({ frames := 0, cells := 0, slots := 0, locals := 0 } : Room)).room s m ([.ref (a 0), .int x1, .int x2] : List Value).toArray below meth c H locs 0 0 (MQ below (q_X7_shifts dC dI cy a v x1 x2 Q A) ([.ref (a 0), .int x1, .int x2] : List Value).toArray s 0 0 A) (F0 m 49 ls []) := by
      intro n
      induction n with
      | zero => intro y49_3 z49_v_s H locs ls _ hm; exact absurd hm (Nat.not_lt_zero _)
      | succ n ih =>
        intro y49_3 z49_v_s H locs ls hI hm hP hD hS hl
        have hq := hs49 y49_3 z49_v_s hI
        generalize hB49 : (fun (t0 : Int32) (t1 : (Nat → Int32)) => I49 t0 t1 ∧ μ49 t0 t1 < μ49 y49_3 z49_v_s) = B49 at hq
        have bk49 : ∀ (y49_3 : Int32) (z49_v_s : (Nat → Int32)) (H : Heap) (locs : List Loc) (ls : Array Slot), B49 y49_3 z49_v_s → va_P (dC, dI) vwCl (cX7 cy a (z49_v_s, (X7_aside v), (X7_kept v), (X7_isKept v), (X7_saved v), (X7_savedMany v), (X7_text v), (X7_length v), (X7_thrown v), (X7_joint v), (X7_position v), (X7_isWrong v), (X7_isHollow v), (X7_sure v), (X7_away v), (X7_digested v))) H → va_D A (cX7 cy a (z49_v_s, (X7_aside v), (X7_kept v), (X7_isKept v), (X7_saved v), (X7_savedMany v), (X7_text v), (X7_length v), (X7_thrown v), (X7_joint v), (X7_position v), (X7_isWrong v), (X7_isHollow v), (X7_sure v), (X7_away v), (X7_digested v))) → va_S A s.heap H locs → lv_has ls 4 [(0, .ref (a 0)), (2, .int x2), (3, .int y49_3)] → W p l e (headSpec wsX7_shifts ({ frames := 0, cells := 0, slots := 0, locals := 0 } : Room)).room s m ([.ref (a 0), .int x1, .int x2] : List Value).toArray below meth c H locs 0 0 (MQ below (q_X7_shifts dC dI cy a v x1 x2 Q A) ([.ref (a 0), .int x1, .int x2] : List Value).toArray s 0 0 A) (F0 m 49 ls []) := by
          intro y49_3 z49_v_s H locs ls h
          rw [← hB49] at h
          exact ih y49_3 z49_v_s H locs ls h.1 (Nat.lt_of_lt_of_le h.2 (Nat.le_of_lt_succ hm))
        unfold wb_X7_shifts_49 at hq
        refine lv_iload_n hx hb dX7_shifts_49 rfl (lv_at hl 2 rfl) ?_
        refine lv_aload_n hx hb dX7_shifts_50 rfl (lv_at hl 0 rfl) ?_
        refine va_get (D := (dC, dI)) (ci := 7) (v := .ref (a 1)) (C := RX7) (T := TX7) (N := 16) hx hb hts iK7 hown hK hP 0 rfl rfl 0 (by decide) lk0 (fun _ h9 => h9) rfl dX7_shifts_51 ?_
        refine lv_bipush (v := 7) hx hb dX7_shifts_54 (by decide) ?_
        obtain ⟨g5, hq⟩ := hq
        refine va_iald hx hb hK hP 1 0 rfl rfl g5 dX7_shifts_56 ?_
        obtain ⟨hqA, hqB⟩ := hq
        refine lv_icmp_ge (tgt := 92) hx hb dX7_shifts_57 (by decide) (fun c9 => ?_) (fun c9 => ?_)
        · have hq := hqA c9
          exact J92 z49_v_s  H locs ls hq hP hD hS (lv_sub hl [0, 1] rfl)
        · have hq := hqB c9
          refine lv_iload_n hx hb dX7_shifts_60 rfl (lv_at hl 1 rfl) ?_
          obtain ⟨hqA, hqB⟩ := hq
          refine lv_if_ge (tgt := 92) hx hb dX7_shifts_61 (by decide) (fun c8 => ?_) (fun c8 => ?_)
          · have hq := hqA c8
            exact J92 z49_v_s  H locs ls hq hP hD hS (lv_sub hl [0, 1] rfl)
          · have hq := hqB c8
            refine lv_aload_n hx hb dX7_shifts_64 rfl (lv_at hl 0 rfl) ?_
            refine va_get (D := (dC, dI)) (ci := 7) (v := .ref (a 1)) (C := RX7) (T := TX7) (N := 16) hx hb hts iK7 hown hK hP 0 rfl rfl 0 (by decide) lk0 (fun _ h9 => h9) rfl dX7_shifts_65 ?_
            refine lv_sipush (v := 448) hx hb dX7_shifts_68 (by decide) ?_
            refine lv_iload_n hx hb dX7_shifts_71 rfl (lv_at hl 2 rfl) ?_
            refine lv_iadd hx hb dX7_shifts_72 ?_
            refine lv_iload_n hx hb dX7_shifts_73 rfl (lv_at hl 1 rfl) ?_
            refine lv_iadd hx hb dX7_shifts_74 ?_
            refine lv_aload_n hx hb dX7_shifts_75 rfl (lv_at hl 0 rfl) ?_
            refine va_get (D := (dC, dI)) (ci := 7) (v := .ref (a 1)) (C := RX7) (T := TX7) (N := 16) hx hb hts iK7 hown hK hP 0 rfl rfl 0 (by decide) lk0 (fun _ h9 => h9) rfl dX7_shifts_76 ?_
            refine lv_sipush (v := 448) hx hb dX7_shifts_79 (by decide) ?_
            refine lv_iload_n hx hb dX7_shifts_82 rfl (lv_at hl 2 rfl) ?_
            refine lv_iadd hx hb dX7_shifts_83 ?_
            obtain ⟨g6, hq⟩ := hq
            refine va_iald hx hb hK hP 1 0 rfl rfl g6 dX7_shifts_84 ?_
            obtain ⟨g7, hq⟩ := hq
            refine va_iast hx hb hK hP hD hS 1 0 rfl rfl g7 dX7_shifts_85 (fun H locs hP hD hS => ?_)
            have hP : va_P (dC, dI) vwCl (cX7 cy a ((upd z49_v_s ((448 + y49_3) + x2).toNatClampNeg (z49_v_s (448 + y49_3).toNatClampNeg)), (X7_aside v), (X7_kept v), (X7_isKept v), (X7_saved v), (X7_savedMany v), (X7_text v), (X7_length v), (X7_thrown v), (X7_joint v), (X7_position v), (X7_isWrong v), (X7_isHollow v), (X7_sure v), (X7_away v), (X7_digested v))) H := hP
            have hD : va_D A (cX7 cy a ((upd z49_v_s ((448 + y49_3) + x2).toNatClampNeg (z49_v_s (448 + y49_3).toNatClampNeg)), (X7_aside v), (X7_kept v), (X7_isKept v), (X7_saved v), (X7_savedMany v), (X7_text v), (X7_length v), (X7_thrown v), (X7_joint v), (X7_position v), (X7_isWrong v), (X7_isHollow v), (X7_sure v), (X7_away v), (X7_digested v))) := hD
            refine lv_iinc (v := (y49_3 + 1)) (lv' := [(3, .int (y49_3 + 1)), (0, .ref (a 0)), (2, .int x2)]) hx hb dX7_shifts_86 hl (k := 2) rfl rfl (by decide) rfl (fun ls hl => ?_)
            refine lv_goto (tgt := 49) hx hb dX7_shifts_89 (by decide) ?_
            exact bk49 (y49_3 + 1) (upd z49_v_s ((448 + y49_3) + x2).toNatClampNeg (z49_v_s (448 + y49_3).toNatClampNeg)) H locs ls hq hP hD hS (lv_sub hl [1, 2, 0] rfl)
    exact key _ y49_3 z49_v_s H locs ls h0 (Nat.lt_succ_self _) hP hD hS hl
  have J10 : ∀  (y10_3 : Int32) (z10_v_s : (Nat → Int32)) (H : Heap) (locs : List Loc) (ls : Array Slot), wp_X7_shifts_10 v x1 x2  y10_3 z10_v_s Q → va_P (dC, dI) vwCl (cX7 cy a (z10_v_s, (X7_aside v), (X7_kept v), (X7_isKept v), (X7_saved v), (X7_savedMany v), (X7_text v), (X7_length v), (X7_thrown v), (X7_joint v), (X7_position v), (X7_isWrong v), (X7_isHollow v), (X7_sure v), (X7_away v), (X7_digested v))) H → va_D A (cX7 cy a (z10_v_s, (X7_aside v), (X7_kept v), (X7_isKept v), (X7_saved v), (X7_savedMany v), (X7_text v), (X7_length v), (X7_thrown v), (X7_joint v), (X7_position v), (X7_isWrong v), (X7_isHollow v), (X7_sure v), (X7_away v), (X7_digested v))) → va_S A s.heap H locs → lv_has ls 4 [(0, .ref (a 0)), (1, .int x1), (2, .int x2), (3, .int y10_3)] → W p l e (headSpec wsX7_shifts ({ frames := 0, cells := 0, slots := 0, locals := 0 } : Room)).room s m ([.ref (a 0), .int x1, .int x2] : List Value).toArray below meth c H locs 0 0 (MQ below (q_X7_shifts dC dI cy a v x1 x2 Q A) ([.ref (a 0), .int x1, .int x2] : List Value).toArray s 0 0 A) (F0 m 10 ls []) := by
    intro  y10_3 z10_v_s H locs ls hq hP hD hS hl
    obtain ⟨I10, μ10, h0, hs10⟩ := hq
    have key : ∀ (n : Nat) (y10_3 : Int32) (z10_v_s : (Nat → Int32)) (H : Heap) (locs : List Loc) (ls : Array Slot), I10 y10_3 z10_v_s → μ10 y10_3 z10_v_s < n → va_P (dC, dI) vwCl (cX7 cy a (z10_v_s, (X7_aside v), (X7_kept v), (X7_isKept v), (X7_saved v), (X7_savedMany v), (X7_text v), (X7_length v), (X7_thrown v), (X7_joint v), (X7_position v), (X7_isWrong v), (X7_isHollow v), (X7_sure v), (X7_away v), (X7_digested v))) H → va_D A (cX7 cy a (z10_v_s, (X7_aside v), (X7_kept v), (X7_isKept v), (X7_saved v), (X7_savedMany v), (X7_text v), (X7_length v), (X7_thrown v), (X7_joint v), (X7_position v), (X7_isWrong v), (X7_isHollow v), (X7_sure v), (X7_away v), (X7_digested v))) → va_S A s.heap H locs → lv_has ls 4 [(0, .ref (a 0)), (1, .int x1), (2, .int x2), (3, .int y10_3)] → W p l e (headSpec wsX7_shifts ({ frames := 0, cells := 0, slots := 0, locals := 0 } : Room)).room s m ([.ref (a 0), .int x1, .int x2] : List Value).toArray below meth c H locs 0 0 (MQ below (q_X7_shifts dC dI cy a v x1 x2 Q A) ([.ref (a 0), .int x1, .int x2] : List Value).toArray s 0 0 A) (F0 m 10 ls []) := by
      intro n
      induction n with
      | zero => intro y10_3 z10_v_s H locs ls _ hm; exact absurd hm (Nat.not_lt_zero _)
      | succ n ih =>
        intro y10_3 z10_v_s H locs ls hI hm hP hD hS hl
        have hq := hs10 y10_3 z10_v_s hI
        generalize hB10 : (fun (t0 : Int32) (t1 : (Nat → Int32)) => I10 t0 t1 ∧ μ10 t0 t1 < μ10 y10_3 z10_v_s) = B10 at hq
        have bk10 : ∀ (y10_3 : Int32) (z10_v_s : (Nat → Int32)) (H : Heap) (locs : List Loc) (ls : Array Slot), B10 y10_3 z10_v_s → va_P (dC, dI) vwCl (cX7 cy a (z10_v_s, (X7_aside v), (X7_kept v), (X7_isKept v), (X7_saved v), (X7_savedMany v), (X7_text v), (X7_length v), (X7_thrown v), (X7_joint v), (X7_position v), (X7_isWrong v), (X7_isHollow v), (X7_sure v), (X7_away v), (X7_digested v))) H → va_D A (cX7 cy a (z10_v_s, (X7_aside v), (X7_kept v), (X7_isKept v), (X7_saved v), (X7_savedMany v), (X7_text v), (X7_length v), (X7_thrown v), (X7_joint v), (X7_position v), (X7_isWrong v), (X7_isHollow v), (X7_sure v), (X7_away v), (X7_digested v))) → va_S A s.heap H locs → lv_has ls 4 [(0, .ref (a 0)), (1, .int x1), (2, .int x2), (3, .int y10_3)] → W p l e (headSpec wsX7_shifts ({ frames := 0, cells := 0, slots := 0, locals := 0 } : Room)).room s m ([.ref (a 0), .int x1, .int x2] : List Value).toArray below meth c H locs 0 0 (MQ below (q_X7_shifts dC dI cy a v x1 x2 Q A) ([.ref (a 0), .int x1, .int x2] : List Value).toArray s 0 0 A) (F0 m 10 ls []) := by
          intro y10_3 z10_v_s H locs ls h
          rw [← hB10] at h
          exact ih y10_3 z10_v_s H locs ls h.1 (Nat.lt_of_lt_of_le h.2 (Nat.le_of_lt_succ hm))
        unfold wb_X7_shifts_10 at hq
        refine lv_iload_n hx hb dX7_shifts_10 rfl (lv_at hl 3 rfl) ?_
        refine lv_iload_n hx hb dX7_shifts_11 rfl (lv_at hl 1 rfl) ?_
        obtain ⟨hqA, hqB⟩ := hq
        refine lv_icmp_lt (tgt := 47) hx hb dX7_shifts_12 (by decide) (fun c13 => ?_) (fun c13 => ?_)
        · have hq := hqA c13
          refine lv_iload_n hx hb dX7_shifts_47 rfl (lv_at hl 1 rfl) ?_
          refine lv_istore_n (lv' := [(3, .int x1), (0, .ref (a 0)), (1, .int x1), (2, .int x2)]) hx hb dX7_shifts_48 rfl hl (by decide) rfl (fun ls hl => ?_)
          exact J49  x1 z10_v_s H locs ls hq hP hD hS (lv_sub hl [1, 3, 0] rfl)
        · have hq := hqB c13
          refine lv_iload_n hx hb dX7_shifts_15 rfl (lv_at hl 2 rfl) ?_
          obtain ⟨hqA, hqB⟩ := hq
          refine lv_if_le (tgt := 47) hx hb dX7_shifts_16 (by decide) (fun c12 => ?_) (fun c12 => ?_)
          · have hq := hqA c12
            refine lv_iload_n hx hb dX7_shifts_47 rfl (lv_at hl 1 rfl) ?_
            refine lv_istore_n (lv' := [(3, .int x1), (0, .ref (a 0)), (1, .int x1), (2, .int x2)]) hx hb dX7_shifts_48 rfl hl (by decide) rfl (fun ls hl => ?_)
            exact J49  x1 z10_v_s H locs ls hq hP hD hS (lv_sub hl [1, 3, 0] rfl)
          · have hq := hqB c12
            refine lv_aload_n hx hb dX7_shifts_19 rfl (lv_at hl 0 rfl) ?_
            refine va_get (D := (dC, dI)) (ci := 7) (v := .ref (a 1)) (C := RX7) (T := TX7) (N := 16) hx hb hts iK7 hown hK hP 0 rfl rfl 0 (by decide) lk0 (fun _ h9 => h9) rfl dX7_shifts_20 ?_
            refine lv_sipush (v := 448) hx hb dX7_shifts_23 (by decide) ?_
            refine lv_iload_n hx hb dX7_shifts_26 rfl (lv_at hl 3 rfl) ?_
            refine lv_iadd hx hb dX7_shifts_27 ?_
            refine lv_iload_n hx hb dX7_shifts_28 rfl (lv_at hl 2 rfl) ?_
            refine lv_iadd hx hb dX7_shifts_29 ?_
            refine lv_aload_n hx hb dX7_shifts_30 rfl (lv_at hl 0 rfl) ?_
            refine va_get (D := (dC, dI)) (ci := 7) (v := .ref (a 1)) (C := RX7) (T := TX7) (N := 16) hx hb hts iK7 hown hK hP 0 rfl rfl 0 (by decide) lk0 (fun _ h9 => h9) rfl dX7_shifts_31 ?_
            refine lv_sipush (v := 448) hx hb dX7_shifts_34 (by decide) ?_
            refine lv_iload_n hx hb dX7_shifts_37 rfl (lv_at hl 3 rfl) ?_
            refine lv_iadd hx hb dX7_shifts_38 ?_
            obtain ⟨g10, hq⟩ := hq
            refine va_iald hx hb hK hP 1 0 rfl rfl g10 dX7_shifts_39 ?_
            obtain ⟨g11, hq⟩ := hq
            refine va_iast hx hb hK hP hD hS 1 0 rfl rfl g11 dX7_shifts_40 (fun H locs hP hD hS => ?_)
            have hP : va_P (dC, dI) vwCl (cX7 cy a ((upd z10_v_s ((448 + y10_3) + x2).toNatClampNeg (z10_v_s (448 + y10_3).toNatClampNeg)), (X7_aside v), (X7_kept v), (X7_isKept v), (X7_saved v), (X7_savedMany v), (X7_text v), (X7_length v), (X7_thrown v), (X7_joint v), (X7_position v), (X7_isWrong v), (X7_isHollow v), (X7_sure v), (X7_away v), (X7_digested v))) H := hP
            have hD : va_D A (cX7 cy a ((upd z10_v_s ((448 + y10_3) + x2).toNatClampNeg (z10_v_s (448 + y10_3).toNatClampNeg)), (X7_aside v), (X7_kept v), (X7_isKept v), (X7_saved v), (X7_savedMany v), (X7_text v), (X7_length v), (X7_thrown v), (X7_joint v), (X7_position v), (X7_isWrong v), (X7_isHollow v), (X7_sure v), (X7_away v), (X7_digested v))) := hD
            refine lv_iinc (v := (y10_3 + (-1))) (lv' := [(3, .int (y10_3 + (-1))), (0, .ref (a 0)), (1, .int x1), (2, .int x2)]) hx hb dX7_shifts_41 hl (k := 3) rfl rfl (by decide) rfl (fun ls hl => ?_)
            refine lv_goto (tgt := 10) hx hb dX7_shifts_44 (by decide) ?_
            exact bk10 (y10_3 + (-1)) (upd z10_v_s ((448 + y10_3) + x2).toNatClampNeg (z10_v_s (448 + y10_3).toNatClampNeg)) H locs ls hq hP hD hS (lv_sub hl [1, 2, 3, 0] rfl)
    exact key _ y10_3 z10_v_s H locs ls h0 (Nat.lt_succ_self _) hP hD hS hl
  refine lv_aload_n hx hb dX7_shifts_0 rfl (lv_at hl 0 rfl) ?_
  refine va_get (D := (dC, dI)) (ci := 7) (v := .ref (a 1)) (C := RX7) (T := TX7) (N := 16) hx hb hts iK7 hown hK hP 0 rfl rfl 0 (by decide) lk0 (fun _ h9 => h9) rfl dX7_shifts_1 ?_
  refine lv_bipush (v := 7) hx hb dX7_shifts_4 (by decide) ?_
  obtain ⟨g14, hq⟩ := hq
  refine va_iald hx hb hK hP 1 0 rfl rfl g14 dX7_shifts_6 ?_
  refine lv_iconst (v := 1) hx hb dX7_shifts_7 (by decide) ?_
  refine lv_isub hx hb dX7_shifts_8 ?_
  refine lv_istore_n (lv' := [(3, .int (((X7_s v) (7 : Int32).toNatClampNeg) - 1)), (0, .ref (a 0)), (1, .int x1), (2, .int x2)]) hx hb dX7_shifts_9 rfl hl (by decide) rfl (fun ls hl => ?_)
  exact J10  (((X7_s v) (7 : Int32).toNatClampNeg) - 1) (X7_s v) H locs ls hq hP hD hS (lv_sub hl [1, 2, 3, 0] rfl)
