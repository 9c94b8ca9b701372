def wp_X7_isDirection (v : V_X7) (Q : Int32 → Prop) : Prop :=
  (((X7_isWrong v) = 0 → (((X7_length v) ≤ (X7_position v) → Q 0) ∧
  (¬ (X7_length v) ≤ (X7_position v) → vp_in (X7_position v) 60 ∧ wp_X7_directionOf ((X7_text v) (X7_position v).toNatClampNeg) (fun r27 =>
  ((r27 = (-1) → Q 0) ∧
  (¬ r27 = (-1) → Q 1)))))) ∧
  (¬ (X7_isWrong v) = 0 → Q 0))
def q_X7_isDirection (dC : Nat → ClassId) (dI : Nat → Nat → Nat) (cy : Nat → ClassId) (a : Nat → Nat) (v : V_X7) (Q : Int32 → Prop) (A : Nat → Prop) : Array Value → State → Outcome → State → Prop := va_Qi (fun (r : Int32) (u : Unit) => Q r ) (fun (u : Unit) t => xAt dC dI cy A (wX7 cy a v) t) A
set_option maxHeartbeats 4000000 in
set_option maxRecDepth 100000 in
theorem c_X7_isDirection (l : Launch) (dC : Nat → ClassId) (dI : Nat → Nat → Nat) (cy : Nat → ClassId) (a : Nat → Nat) (sz : Nat) (v : V_X7) (Q : Int32 → Prop) (hq : wp_X7_isDirection v Q) : Met l yX7_isDirection wsX7_isDirection ({ frames := 1, cells := 0, slots := 0, locals := 20 } : Room) (va_Pc [.ref (a 0)] (xPre dC dI cy (wX7 cy a v) sz)) (q_X7_isDirection dC dI cy a v Q (va_A (wX7 cy a v) sz)) 0 0 (va_A (wX7 cy a v) sz) := by
  refine Met.ofW (cc := cX7_isDirection) (maxL := 1) (ret := (some .boolean)) (by decide) rfl ?_
  intro p e s m args below meth c s₁ B hml hv
  obtain ⟨rfl, hsz, hP, hK, hD0⟩ := hv
  have hx := B.exec
  have hb := B.bytes
  have hr := B.returns
  have hts := atoms_spec (ws := wsX7_isDirection) B.pre
  have hown : s.vm.findClass RX7 = some m.cls := findClass_of_methodNamed B.named
  have hlocks := B.notSynchronized
  subst hsz
  have hD := hD0.self (sz := s.heap.size)
  generalize hAe : va_A (wX7 cy a v) s.heap.size = A at hD ⊢
  have hAe0 : ∀ q : Nat, s.heap.size ≤ q → A q := fun q h => by rw [← hAe]; exact Or.inr h
  have hS : va_S A s.heap s.heap [] := va_S.rf
  have hl := lv_entry ([.ref (a 0)]) (n := 1) (Nat.le_of_ble_eq_true rfl)
  rw [lg_entry_eq]
  generalize (lg_sl ([.ref (a 0)]) ++ List.replicate (1 - (lg_sl ([.ref (a 0)])).length) Slot.unset).toArray = ls at hl ⊢
  have hl : lv_has ls 1 [(0, .ref (a 0))] := hl
  have lk0 := hts (Cond.fieldLink RX7 170 "MolesLawnModel" "isWrong" "Z") (List.mem_cons_of_mem _ (List.mem_append_left _ (List.mem_of_getElem? (i := 0) rfl)))
  have lk1 := hts (Cond.fieldLink RX7 174 "MolesLawnModel" "position" "I") (List.mem_cons_of_mem _ (List.mem_append_left _ (List.mem_of_getElem? (i := 1) rfl)))
  have lk2 := hts (Cond.fieldLink RX7 167 "MolesLawnModel" "length" "I") (List.mem_cons_of_mem _ (List.mem_append_left _ (List.mem_of_getElem? (i := 2) rfl)))
  have lk3 := hts (Cond.fieldLink RX7 22 "MolesLawnModel" "text" "[I") (List.mem_cons_of_mem _ (List.mem_append_left _ (List.mem_of_getElem? (i := 3) rfl)))
  have iK7 : ∀ w ∈ wsX70, w ∈ wsX7_isDirection := fun _ h => (List.mem_cons_of_mem _ (List.mem_append_right _ h))
  unfold wp_X7_isDirection at hq
  refine lv_aload_n hx hb dX7_isDirection_0 rfl (lv_at hl 0 rfl) ?_
  refine va_get (D := (dC, dI)) (ci := 7) (v := .int (X7_isWrong v)) (C := RX7) (T := TX7) (N := 16) hx hb hts iK7 hown hK hP 0 rfl rfl 11 (by decide) lk0 (fun _ h9 => h9) rfl dX7_isDirection_1 ?_
  obtain ⟨hqA, hqB⟩ := hq
  refine lv_if_ne (tgt := 38) hx hb dX7_isDirection_4 (by decide) (fun c4 => ?_) (fun c4 => ?_)
  · have hq := hqB c4
    refine lv_iconst (v := 0) hx hb dX7_isDirection_38 (by decide) ?_
    exact W.zret (v := 0) hx hb hr rfl (fun t ht hW => ⟨⟨0, (), rfl, hq, (xAt_of hP hK hD ht hW)⟩, hS.F ht⟩) hS.2.2 dX7_isDirection_39
  · have hq := hqA c4
    refine lv_aload_n hx hb dX7_isDirection_7 rfl (lv_at hl 0 rfl) ?_
    refine va_get (D := (dC, dI)) (ci := 7) (v := .int (X7_position v)) (C := RX7) (T := TX7) (N := 16) hx hb hts iK7 hown hK hP 0 rfl rfl 10 (by decide) lk1 (fun _ h9 => h9) rfl dX7_isDirection_8 ?_
    refine lv_aload_n hx hb dX7_isDirection_11 rfl (lv_at hl 0 rfl) ?_
    refine va_get (D := (dC, dI)) (ci := 7) (v := .int (X7_length v)) (C := RX7) (T := TX7) (N := 16) hx hb hts iK7 hown hK hP 0 rfl rfl 7 (by decide) lk2 (fun _ h9 => h9) rfl dX7_isDirection_12 ?_
    obtain ⟨hqA, hqB⟩ := hq
    refine lv_icmp_ge (tgt := 38) hx hb dX7_isDirection_15 (by decide) (fun c3 => ?_) (fun c3 => ?_)
    · have hq := hqA c3
      refine lv_iconst (v := 0) hx hb dX7_isDirection_38 (by decide) ?_
      exact W.zret (v := 0) hx hb hr rfl (fun t ht hW => ⟨⟨0, (), rfl, hq, (xAt_of hP hK hD ht hW)⟩, hS.F ht⟩) hS.2.2 dX7_isDirection_39
    · have hq := hqB c3
      refine lv_aload_n hx hb dX7_isDirection_18 rfl (lv_at hl 0 rfl) ?_
      refine va_get (D := (dC, dI)) (ci := 7) (v := .ref (a 5)) (C := RX7) (T := TX7) (N := 16) hx hb hts iK7 hown hK hP 0 rfl rfl 6 (by decide) lk3 (fun _ h9 => h9) rfl dX7_isDirection_19 ?_
      refine lv_aload_n hx hb dX7_isDirection_22 rfl (lv_at hl 0 rfl) ?_
      refine va_get (D := (dC, dI)) (ci := 7) (v := .int (X7_position v)) (C := RX7) (T := TX7) (N := 16) hx hb hts iK7 hown hK hP 0 rfl rfl 10 (by decide) lk1 (fun _ h9 => h9) rfl dX7_isDirection_23 ?_
      obtain ⟨g1, hq⟩ := hq
      refine va_iald hx hb hK hP 5 0 rfl rfl g1 dX7_isDirection_26 ?_
      have hFc := xfree_none hS hAe0
      refine va_calli (va_runS (As := [.int ((X7_text v) (X7_position v).toNatClampNeg)]) (rest := []) ⟨hx, hb, hml, hown, hts⟩ (c_X7_directionOf l dC dI cy  _ ((X7_text v) (X7_position v).toNatClampNeg) _ hq) (va_cwS 1 hts gX7_isDirection_X7_directionOf rfl rfl rfl (by decide +kernel) ⟨Nat.le_of_ble_eq_true rfl, Nat.le_of_ble_eq_true rfl⟩) ⟨xPre_blind, xPre_of xP_nil hK (xD_nil (A := A))⟩ rfl rfl hl.1 rfl (lv_room (Nat.le_of_ble_eq_true rfl)) dX7_isDirection_27 ⟨Nat.le_of_ble_eq_true rfl, Nat.le_of_ble_eq_true rfl⟩) hS (fun q _ h => hFc q h) hFc (fun r27 u9 t H locs ht hvm hq hB hz1 hk1 hS => ?_)
      have hP := xj_none hP hk1
      refine lv_iconst (v := (-1)) hx hb dX7_isDirection_30 (by decide) ?_
      obtain ⟨hqA, hqB⟩ := hq
      refine lv_icmp_eq (tgt := 38) hx hb dX7_isDirection_31 (by decide) (fun c2 => ?_) (fun c2 => ?_)
      · have hq := hqA c2
        refine lv_iconst (v := 0) hx hb dX7_isDirection_38 (by decide) ?_
        exact W.zret (v := 0) hx hb hr rfl (fun t ht hW => ⟨⟨0, (), rfl, hq, (xAt_of hP hK hD ht hW)⟩, hS.F ht⟩) hS.2.2 dX7_isDirection_39
      · have hq := hqB c2
        refine lv_iconst (v := 1) hx hb dX7_isDirection_34 (by decide) ?_
        refine lv_goto (tgt := 39) hx hb dX7_isDirection_35 (by decide) ?_
        exact W.zret (v := 1) hx hb hr rfl (fun t ht hW => ⟨⟨1, (), rfl, hq, (xAt_of hP hK hD ht hW)⟩, hS.F ht⟩) hS.2.2 dX7_isDirection_39
def wp_X7_takes_47 (v : V_X7) (x1 : Int32) (x2 : Int32) (y47_3 : Int32) (k47_0 : Int32) (Q : Int32 → Int32 → Int32 → Prop) : Prop :=
  bz k47_0 ∧ ((k47_0 = 0 → Q (y47_3 - x1) k47_0 ((X7_position v) + 1)) ∧
  (¬ k47_0 = 0 → Q (y47_3 - x1) k47_0 ((X7_position v) + 0)))
def wp_X7_takes_42 (v : V_X7) (x1 : Int32) (x2 : Int32) (y42_3 : Int32) (Q : Int32 → Int32 → Int32 → Prop) : Prop :=
  wp_X7_takes_47 v x1 x2 y42_3 1  Q
def wp_X7_takes_24 (v : V_X7) (x1 : Int32) (x2 : Int32) (k24_0 : Int32) (Q : Int32 → Int32 → Int32 → Prop) : Prop :=
  (((X7_isWrong v) = 0 → wp_X7_in k24_0 x1 x2 (fun r36 =>
  ((r36 = 0 → wp_X7_takes_42 v x1 x2 k24_0  Q) ∧
  (¬ r36 = 0 → wp_X7_takes_47 v x1 x2 k24_0 0  Q)))) ∧
  (¬ (X7_isWrong v) = 0 → wp_X7_takes_42 v x1 x2 k24_0  Q))
def wp_X7_takes (v : V_X7) (x1 : Int32) (x2 : Int32) (Q : Int32 → Int32 → Int32 → Prop) : Prop :=
  (((X7_length v) ≤ (X7_position v) → wp_X7_takes_24 v x1 x2 0  Q) ∧
  (¬ (X7_length v) ≤ (X7_position v) → vp_in (X7_position v) 60 ∧ wp_X7_takes_24 v x1 x2 ((X7_text v) (X7_position v).toNatClampNeg)  Q))
def q_X7_takes (dC : Nat → ClassId) (dI : Nat → Nat → Nat) (cy : Nat → ClassId) (a : Nat → Nat) (v : V_X7) (x1 : Int32) (x2 : Int32) (Q : Int32 → Int32 → Int32 → Prop) (A : Nat → Prop) : Array Value → State → Outcome → State → Prop := va_Qi (fun (r : Int32) (u : Int32 × Int32) => Q r u.1 u.2) (fun (u : Int32 × Int32) t => xAt dC dI cy A (cX7 cy a (X7_s v) (X7_aside v) (X7_kept v) (X7_isKept v) (X7_saved v) (X7_savedMany v) (X7_text v) (X7_length v) (X7_thrown v) (X7_joint v) u.2 u.1 (X7_isHollow v) (X7_sure v) (X7_away v) (X7_digested v)) t) A
set_option maxHeartbeats 4000000 in
set_option maxRecDepth 100000 in
theorem c_X7_takes (l : Launch) (dC : Nat → ClassId) (dI : Nat → Nat → Nat) (cy : Nat → ClassId) (a : Nat → Nat) (sz : Nat) (v : V_X7) (x1 : Int32) (x2 : Int32) (Q : Int32 → Int32 → Int32 → Prop) (hq : wp_X7_takes v x1 x2 Q) : Met l yX7_takes wsX7_takes ({ frames := 1, cells := 0, slots := 0, locals := 22 } : Room) (va_Pc [.ref (a 0), .int x1, .int x2] (xPre dC dI cy (wX7 cy a v) sz)) (q_X7_takes dC dI cy a v x1 x2 Q (va_A (wX7 cy a v) sz)) 0 0 (va_A (wX7 cy a v) sz) := by
  refine Met.ofW (cc := cX7_takes) (maxL := 4) (ret := (some .int)) (by decide) rfl ?_
  intro p e s m args below meth c s₁ B hml hv
  obtain ⟨rfl, hsz, hP, hK, hD0⟩ := hv
  have hx := B.exec
  have hb := B.bytes
  have hr := B.returns
  have hts := atoms_spec (ws := wsX7_takes) B.pre
  have hown : s.vm.findClass RX7 = some m.cls := findClass_of_methodNamed B.named
  have hlocks := B.notSynchronized
  subst hsz
  have hD := hD0.self (sz := s.heap.size)
  generalize hAe : va_A (wX7 cy a v) s.heap.size = A at hD ⊢
  have hAe0 : ∀ q : Nat, s.heap.size ≤ q → A q := fun q h => by rw [← hAe]; exact Or.inr h
  have hS : va_S A s.heap s.heap [] := va_S.rf
  have hl := lv_entry ([.ref (a 0), .int x1, .int x2]) (n := 4) (Nat.le_of_ble_eq_true rfl)
  rw [lg_entry_eq]
  generalize (lg_sl ([.ref (a 0), .int x1, .int x2]) ++ List.replicate (4 - (lg_sl ([.ref (a 0), .int x1, .int x2])).length) Slot.unset).toArray = ls at hl ⊢
  have hl : lv_has ls 4 [(0, .ref (a 0)), (1, .int x1), (2, .int x2)] := hl
  have lk0 := hts (Cond.fieldLink RX7 170 "MolesLawnModel" "isWrong" "Z") (List.mem_cons_of_mem _ (List.mem_append_left _ (List.mem_of_getElem? (i := 3) rfl)))
  have lk1 := hts (Cond.fieldLink RX7 174 "MolesLawnModel" "position" "I") (List.mem_cons_of_mem _ (List.mem_append_left _ (List.mem_of_getElem? (i := 0) rfl)))
  have lk2 := hts (Cond.fieldLink RX7 167 "MolesLawnModel" "length" "I") (List.mem_cons_of_mem _ (List.mem_append_left _ (List.mem_of_getElem? (i := 1) rfl)))
  have lk3 := hts (Cond.fieldLink RX7 22 "MolesLawnModel" "text" "[I") (List.mem_cons_of_mem _ (List.mem_append_left _ (List.mem_of_getElem? (i := 2) rfl)))
  have iK7 : ∀ w ∈ wsX70, w ∈ wsX7_takes := fun _ h => (List.mem_cons_of_mem _ (List.mem_append_right _ h))
  unfold wp_X7_takes at hq
  have J47 : ∀ (y47_3 : Int32) (k47_0 : Int32) (H : Heap) (locs : List Loc) (ls : Array Slot), wp_X7_takes_47 v x1 x2 y47_3 k47_0 Q → va_P (dC, dI) vwCl (wX7 cy a v) H → va_D A (wX7 cy a v) → va_S A s.heap H locs → lv_has ls 4 [(0, .ref (a 0)), (1, .int x1), (3, .int y47_3)] → W p l e (headSpec wsX7_takes ({ frames := 1, cells := 0, slots := 0, locals := 22 } : Room)).room s m ([.ref (a 0), .int x1, .int x2] : List Value).toArray below meth c H locs 0 0 (MQ below (q_X7_takes dC dI cy a v x1 x2 Q A) ([.ref (a 0), .int x1, .int x2] : List Value).toArray s 0 0 A) (F0 m 47 ls [.int k47_0, .ref (a 0)]) := by
    intro y47_3 k47_0 H locs ls hq hP hD hS hl
    unfold wp_X7_takes_47 at hq
    obtain ⟨g1, hq⟩ := hq
    refine va_put (D := (dC, dI)) (ci := 7) (v := .int k47_0) (ty := .boolean) (C := RX7) (T := TX7) (N := 16) hx hb hts iK7 tyX7 tyX7_ok nmX7 hown hK hP hD hS 0 rfl rfl 11 (by decide) lk0 (fun _ h9 => h9) rfl (by decide +kernel) (bz_nar g1) (bz_fit g1) (Nat.le_of_ble_eq_true rfl) dX7_takes_47 (fun H locs hP hD hS => ?_)
    have hP : va_P (dC, dI) vwCl (cX7 cy a (X7_s v) (X7_aside v) (X7_kept v) (X7_isKept v) (X7_saved v) (X7_savedMany v) (X7_text v) (X7_length v) (X7_thrown v) (X7_joint v) (X7_position v) k47_0 (X7_isHollow v) (X7_sure v) (X7_away v) (X7_digested v)) H := hP
    have hD : va_D A (cX7 cy a (X7_s v) (X7_aside v) (X7_kept v) (X7_isKept v) (X7_saved v) (X7_savedMany v) (X7_text v) (X7_length v) (X7_thrown v) (X7_joint v) (X7_position v) k47_0 (X7_isHollow v) (X7_sure v) (X7_away v) (X7_digested v)) := hD
    refine lv_aload_n hx hb dX7_takes_50 rfl (lv_at hl 0 rfl) ?_
    refine lv_dup hx hb dX7_takes_51 rfl ?_
    refine va_get (D := (dC, dI)) (ci := 7) (v := .int (X7_position v)) (C := RX7) (T := TX7) (N := 16) hx hb hts iK7 hown hK hP 0 rfl rfl 10 (by decide) lk1 (fun _ h9 => h9) rfl dX7_takes_52 ?_
    refine lv_aload_n hx hb dX7_takes_55 rfl (lv_at hl 0 rfl) ?_
    refine va_get (D := (dC, dI)) (ci := 7) (v := .int k47_0) (C := RX7) (T := TX7) (N := 16) hx hb hts iK7 hown hK hP 0 rfl rfl 11 (by decide) lk0 (fun _ h9 => h9) rfl dX7_takes_56 ?_
    obtain ⟨hqA, hqB⟩ := hq
    refine lv_if_eq (tgt := 66) hx hb dX7_takes_59 (by decide) (fun c2 => ?_) (fun c2 => ?_)
    · have hq := hqA c2
      refine lv_iconst (v := 1) hx hb dX7_takes_66 (by decide) ?_
      refine lv_iadd hx hb dX7_takes_67 ?_
      refine va_put (D := (dC, dI)) (ci := 7) (v := .int ((X7_position v) + 1)) (ty := .int) (C := RX7) (T := TX7) (N := 16) hx hb hts iK7 tyX7 tyX7_ok nmX7 hown hK hP hD hS 0 rfl rfl 10 (by decide) lk1 (fun _ h9 => h9) rfl (by decide +kernel) rfl rfl (Nat.le_of_ble_eq_true rfl) dX7_takes_68 (fun H locs hP hD hS => ?_)
      have hP : va_P (dC, dI) vwCl (cX7 cy a (X7_s v) (X7_aside v) (X7_kept v) (X7_isKept v) (X7_saved v) (X7_savedMany v) (X7_text v) (X7_length v) (X7_thrown v) (X7_joint v) ((X7_position v) + 1) k47_0 (X7_isHollow v) (X7_sure v) (X7_away v) (X7_digested v)) H := hP
      have hD : va_D A (cX7 cy a (X7_s v) (X7_aside v) (X7_kept v) (X7_isKept v) (X7_saved v) (X7_savedMany v) (X7_text v) (X7_length v) (X7_thrown v) (X7_joint v) ((X7_position v) + 1) k47_0 (X7_isHollow v) (X7_sure v) (X7_away v) (X7_digested v)) := hD
      refine lv_iload_n hx hb dX7_takes_71 rfl (lv_at hl 2 rfl) ?_
      refine lv_iload_n hx hb dX7_takes_72 rfl (lv_at hl 1 rfl) ?_
      refine lv_isub hx hb dX7_takes_73 ?_
      exact W.iret (v := (y47_3 - x1)) hx hb hr (fun t ht hW => ⟨⟨(y47_3 - x1), (k47_0, ((X7_position v) + 1)), rfl, hq, (xAt_of hP hK hD ht hW)⟩, hS.F ht⟩) hS.2.2 dX7_takes_74
    · have hq := hqB c2
      refine lv_iconst (v := 0) hx hb dX7_takes_62 (by decide) ?_
      refine lv_goto (tgt := 67) hx hb dX7_takes_63 (by decide) ?_
      refine lv_iadd hx hb dX7_takes_67 ?_
      refine va_put (D := (dC, dI)) (ci := 7) (v := .int ((X7_position v) + 0)) (ty := .int) (C := RX7) (T := TX7) (N := 16) hx hb hts iK7 tyX7 tyX7_ok nmX7 hown hK hP hD hS 0 rfl rfl 10 (by decide) lk1 (fun _ h9 => h9) rfl (by decide +kernel) rfl rfl (Nat.le_of_ble_eq_true rfl) dX7_takes_68 (fun H locs hP hD hS => ?_)
      have hP : va_P (dC, dI) vwCl (cX7 cy a (X7_s v) (X7_aside v) (X7_kept v) (X7_isKept v) (X7_saved v) (X7_savedMany v) (X7_text v) (X7_length v) (X7_thrown v) (X7_joint v) ((X7_position v) + 0) k47_0 (X7_isHollow v) (X7_sure v) (X7_away v) (X7_digested v)) H := hP
      have hD : va_D A (cX7 cy a (X7_s v) (X7_aside v) (X7_kept v) (X7_isKept v) (X7_saved v) (X7_savedMany v) (X7_text v) (X7_length v) (X7_thrown v) (X7_joint v) ((X7_position v) + 0) k47_0 (X7_isHollow v) (X7_sure v) (X7_away v) (X7_digested v)) := hD
      refine lv_iload_n hx hb dX7_takes_71 rfl (lv_at hl 2 rfl) ?_
      refine lv_iload_n hx hb dX7_takes_72 rfl (lv_at hl 1 rfl) ?_
      refine lv_isub hx hb dX7_takes_73 ?_
      exact W.iret (v := (y47_3 - x1)) hx hb hr (fun t ht hW => ⟨⟨(y47_3 - x1), (k47_0, ((X7_position v) + 0)), rfl, hq, (xAt_of hP hK hD ht hW)⟩, hS.F ht⟩) hS.2.2 dX7_takes_74
  have J42 : ∀ (y42_3 : Int32) (H : Heap) (locs : List Loc) (ls : Array Slot), wp_X7_takes_42 v x1 x2 y42_3 Q → va_P (dC, dI) vwCl (wX7 cy a v) H → va_D A (wX7 cy a v) → va_S A s.heap H locs → lv_has ls 4 [(0, .ref (a 0)), (1, .int x1), (3, .int y42_3)] → W p l e (headSpec wsX7_takes ({ frames := 1, cells := 0, slots := 0, locals := 22 } : Room)).room s m ([.ref (a 0), .int x1, .int x2] : List Value).toArray below meth c H locs 0 0 (MQ below (q_X7_takes dC dI cy a v x1 x2 Q A) ([.ref (a 0), .int x1, .int x2] : List Value).toArray s 0 0 A) (F0 m 42 ls [.ref (a 0)]) := by
    intro y42_3 H locs ls hq hP hD hS hl
    unfold wp_X7_takes_42 at hq
    refine lv_iconst (v := 1) hx hb dX7_takes_42 (by decide) ?_
    refine lv_goto (tgt := 47) hx hb dX7_takes_43 (by decide) ?_
    exact J47 y42_3 1  _ _ _ hq hP hD hS (lv_sub hl [0, 1, 2] rfl)
  have J24 : ∀ (k24_0 : Int32) (H : Heap) (locs : List Loc) (ls : Array Slot), wp_X7_takes_24 v x1 x2 k24_0 Q → va_P (dC, dI) vwCl (wX7 cy a v) H → va_D A (wX7 cy a v) → va_S A s.heap H locs → lv_has ls 4 [(0, .ref (a 0)), (1, .int x1), (2, .int x2)] → W p l e (headSpec wsX7_takes ({ frames := 1, cells := 0, slots := 0, locals := 22 } : Room)).room s m ([.ref (a 0), .int x1, .int x2] : List Value).toArray below meth c H locs 0 0 (MQ below (q_X7_takes dC dI cy a v x1 x2 Q A) ([.ref (a 0), .int x1, .int x2] : List Value).toArray s 0 0 A) (F0 m 24 ls [.int k24_0]) := by
    intro k24_0 H locs ls hq hP hD hS hl
    unfold wp_X7_takes_24 at hq
    refine lv_istore_n (lv' := [(3, .int k24_0), (0, .ref (a 0)), (1, .int x1), (2, .int x2)]) hx hb dX7_takes_24 rfl hl (by decide) rfl (fun ls hl => ?_)
    refine lv_aload_n hx hb dX7_takes_25 rfl (lv_at hl 1 rfl) ?_
    refine lv_aload_n hx hb dX7_takes_26 rfl (lv_at hl 1 rfl) ?_
    refine va_get (D := (dC, dI)) (ci := 7) (v := .int (X7_isWrong v)) (C := RX7) (T := TX7) (N := 16) hx hb hts iK7 hown hK hP 0 rfl rfl 11 (by decide) lk0 (fun _ h9 => h9) rfl dX7_takes_27 ?_
    obtain ⟨hqA, hqB⟩ := hq
    refine lv_if_ne (tgt := 42) hx hb dX7_takes_30 (by decide) (fun c4 => ?_) (fun c4 => ?_)
    · have hq := hqB c4
      exact J42 k24_0  _ _ _ hq hP hD hS (lv_sub hl [1, 2, 0] rfl)
    · have hq := hqA c4
      refine lv_iload_n hx hb dX7_takes_33 rfl (lv_at hl 0 rfl) ?_
      refine lv_iload_n hx hb dX7_takes_34 rfl (lv_at hl 2 rfl) ?_
      refine lv_iload_n hx hb dX7_takes_35 rfl (lv_at hl 3 rfl) ?_
      have hFc := xfree_none hS hAe0
      refine va_calli (va_runS (As := [.int k24_0, .int x1, .int x2]) (rest := [.ref (a 0)]) ⟨hx, hb, hml, hown, hts⟩ (c_X7_in l dC dI cy  _ k24_0 x1 x2 _ hq) (va_cwS 3 hts gX7_takes_X7_in rfl rfl rfl (by decide +kernel) ⟨Nat.le_of_ble_eq_true rfl, Nat.le_of_ble_eq_true rfl⟩) ⟨xPre_blind, xPre_of xP_nil hK (xD_nil (A := A))⟩ rfl rfl hl.1 rfl (lv_room (Nat.le_of_ble_eq_true rfl)) dX7_takes_36 ⟨Nat.le_of_ble_eq_true rfl, Nat.le_of_ble_eq_true rfl⟩) hS (fun q _ h => hFc q h) hFc (fun r36 u9 t H locs ht hvm hq hB hz1 hk1 hS => ?_)
      have hP := xj_none hP hk1
      obtain ⟨hqA, hqB⟩ := hq
      refine lv_if_ne (tgt := 46) hx hb dX7_takes_39 (by decide) (fun c3 => ?_) (fun c3 => ?_)
      · have hq := hqB c3
        refine lv_iconst (v := 0) hx hb dX7_takes_46 (by decide) ?_
        exact J47 k24_0 0  _ _ _ hq hP hD hS (lv_sub hl [1, 2, 0] rfl)
      · have hq := hqA c3
        exact J42 k24_0  _ _ _ hq hP hD hS (lv_sub hl [1, 2, 0] rfl)
  refine lv_aload_n hx hb dX7_takes_0 rfl (lv_at hl 0 rfl) ?_
  refine va_get (D := (dC, dI)) (ci := 7) (v := .int (X7_position v)) (C := RX7) (T := TX7) (N := 16) hx hb hts iK7 hown hK hP 0 rfl rfl 10 (by decide) lk1 (fun _ h9 => h9) rfl dX7_takes_1 ?_
  refine lv_aload_n hx hb dX7_takes_4 rfl (lv_at hl 0 rfl) ?_
  refine va_get (D := (dC, dI)) (ci := 7) (v := .int (X7_length v)) (C := RX7) (T := TX7) (N := 16) hx hb hts iK7 hown hK hP 0 rfl rfl 7 (by decide) lk2 (fun _ h9 => h9) rfl dX7_takes_5 ?_
  obtain ⟨hqA, hqB⟩ := hq
  refine lv_icmp_ge (tgt := 23) hx hb dX7_takes_8 (by decide) (fun c6 => ?_) (fun c6 => ?_)
  · have hq := hqA c6
    refine lv_iconst (v := 0) hx hb dX7_takes_23 (by decide) ?_
    exact J24 0  _ _ _ hq hP hD hS (lv_sub hl [0, 1, 2] rfl)
  · have hq := hqB c6
    refine lv_aload_n hx hb dX7_takes_11 rfl (lv_at hl 0 rfl) ?_
    refine va_get (D := (dC, dI)) (ci := 7) (v := .ref (a 5)) (C := RX7) (T := TX7) (N := 16) hx hb hts iK7 hown hK hP 0 rfl rfl 6 (by decide) lk3 (fun _ h9 => h9) rfl dX7_takes_12 ?_
    refine lv_aload_n hx hb dX7_takes_15 rfl (lv_at hl 0 rfl) ?_
    refine va_get (D := (dC, dI)) (ci := 7) (v := .int (X7_position v)) (C := RX7) (T := TX7) (N := 16) hx hb hts iK7 hown hK hP 0 rfl rfl 10 (by decide) lk1 (fun _ h9 => h9) rfl dX7_takes_16 ?_
    obtain ⟨g5, hq⟩ := hq
    refine va_iald hx hb hK hP 5 0 rfl rfl g5 dX7_takes_19 ?_
    refine lv_goto (tgt := 24) hx hb dX7_takes_20 (by decide) ?_
    exact J24 ((X7_text v) (X7_position v).toNatClampNeg)  _ _ _ hq hP hD hS (lv_sub hl [0, 1, 2] rfl)
def wp_X7_reads_137 (v : V_X7) (x1 : Int32) (y14_2 : Int32) (y14_3 : Int32) (z14_v_isWrong : Int32) (z14_v_position : Int32) (z14_v_s : (Nat → Int32)) (B14 : Int32 → Int32 → Int32 → Int32 → (Nat → Int32) → Prop) (y137_2 : Int32) (z137_v_isWrong : Int32) (z137_v_position : Int32) (z137_v_s : (Nat → Int32)) (k137_0 : Int32) (Q : Int32 → Int32 → Int32 → (Nat → Int32) → Prop) : Prop :=
  ((k137_0 = 0 → B14 y137_2 k137_0 z137_v_isWrong z137_v_position z137_v_s) ∧
  (¬ k137_0 = 0 → wp_X7_takes (z137_v_s, (X7_aside v), (X7_kept v), (X7_isKept v), (X7_saved v), (X7_savedMany v), (X7_text v), (X7_length v), (X7_thrown v), (X7_joint v), z137_v_position, z137_v_isWrong, (X7_isHollow v), (X7_sure v), (X7_away v), (X7_digested v)) 59 59 (fun r147 z147_v_isWrong z147_v_position =>
  ((z147_v_isWrong = 0 → B14 y137_2 1 z147_v_isWrong z147_v_position z137_v_s) ∧
  (¬ z147_v_isWrong = 0 → B14 y137_2 0 z147_v_isWrong z147_v_position z137_v_s)))))
def wp_X7_reads_136 (v : V_X7) (x1 : Int32) (y14_2 : Int32) (y14_3 : Int32) (z14_v_isWrong : Int32) (z14_v_position : Int32) (z14_v_s : (Nat → Int32)) (B14 : Int32 → Int32 → Int32 → Int32 → (Nat → Int32) → Prop) (y136_2 : Int32) (z136_v_isWrong : Int32) (z136_v_position : Int32) (z136_v_s : (Nat → Int32)) (Q : Int32 → Int32 → Int32 → (Nat → Int32) → Prop) : Prop :=
  wp_X7_reads_137 v x1 y14_2 y14_3 z14_v_isWrong z14_v_position z14_v_s B14 y136_2 z136_v_isWrong z136_v_position z136_v_s 0  Q
def wp_X7_reads_99 (v : V_X7) (x1 : Int32) (y14_2 : Int32) (y14_3 : Int32) (z14_v_isWrong : Int32) (z14_v_position : Int32) (z14_v_s : (Nat → Int32)) (B14 : Int32 → Int32 → Int32 → Int32 → (Nat → Int32) → Prop) (y61_4 : Int32) (z61_v_isWrong : Int32) (y61_2 : Int32) (z61_v_position : Int32) (z61_v_s : (Nat → Int32)) (B61 : Int32 → Int32 → (Nat → Int32) → Prop) (z99_v_s : (Nat → Int32)) (k99_0 : Int32) (k99_1 : Int32) (Q : Int32 → Int32 → Int32 → (Nat → Int32) → Prop) : Prop :=
  B61 (k99_1 + k99_0) (z61_v_position + 1) z99_v_s
def wp_X7_reads_98 (v : V_X7) (x1 : Int32) (y14_2 : Int32) (y14_3 : Int32) (z14_v_isWrong : Int32) (z14_v_position : Int32) (z14_v_s : (Nat → Int32)) (B14 : Int32 → Int32 → Int32 → Int32 → (Nat → Int32) → Prop) (y61_4 : Int32) (z61_v_isWrong : Int32) (y61_2 : Int32) (z61_v_position : Int32) (z61_v_s : (Nat → Int32)) (B61 : Int32 → Int32 → (Nat → Int32) → Prop) (z98_v_s : (Nat → Int32)) (k98_0 : Int32) (Q : Int32 → Int32 → Int32 → (Nat → Int32) → Prop) : Prop :=
  wp_X7_reads_99 v x1 y14_2 y14_3 z14_v_isWrong z14_v_position z14_v_s B14 y61_4 z61_v_isWrong y61_2 z61_v_position z61_v_s B61 z98_v_s 0 k98_0  Q
def wb_X7_reads_61 (v : V_X7) (x1 : Int32) (y14_2 : Int32) (y14_3 : Int32) (z14_v_isWrong : Int32) (z14_v_position : Int32) (z14_v_s : (Nat → Int32)) (B14 : Int32 → Int32 → Int32 → Int32 → (Nat → Int32) → Prop) (y61_4 : Int32) (z61_v_isWrong : Int32) (y61_2 : Int32) (z61_v_position : Int32) (z61_v_s : (Nat → Int32)) (B61 : Int32 → Int32 → (Nat → Int32) → Prop) (Q : Int32 → Int32 → Int32 → (Nat → Int32) → Prop) : Prop :=
  wp_X7_isDirection (z61_v_s, (X7_aside v), (X7_kept v), (X7_isKept v), (X7_saved v), (X7_savedMany v), (X7_text v), (X7_length v), (X7_thrown v), (X7_joint v), z61_v_position, z61_v_isWrong, (X7_isHollow v), (X7_sure v), (X7_away v), (X7_digested v)) (fun r62 =>
  ((r62 = 0 → ((z61_v_isWrong = 0 → (((X7_length v) ≤ z61_v_position → wp_X7_reads_136 v x1 y14_2 y14_3 z14_v_isWrong z14_v_position z14_v_s B14 y61_2 z61_v_isWrong z61_v_position z61_v_s  Q) ∧
  (¬ (X7_length v) ≤ z61_v_position → wp_X7_reads_137 v x1 y14_2 y14_3 z14_v_isWrong z14_v_position z14_v_s B14 y61_2 z61_v_isWrong z61_v_position z61_v_s 1  Q))) ∧
  (¬ z61_v_isWrong = 0 → wp_X7_reads_136 v x1 y14_2 y14_3 z14_v_isWrong z14_v_position z14_v_s B14 y61_2 z61_v_isWrong z61_v_position z61_v_s  Q))) ∧
  (¬ r62 = 0 → ((x1 = 0 → wp_X7_reads_98 v x1 y14_2 y14_3 z14_v_isWrong z14_v_position z14_v_s B14 y61_4 z61_v_isWrong y61_2 z61_v_position z61_v_s B61 z61_v_s y61_2  Q) ∧
  (¬ x1 = 0 → vp_in z61_v_position 60 ∧ wp_X7_directionOf ((X7_text v) z61_v_position.toNatClampNeg) (fun r85 =>
  wp_X7_putsPlan (z61_v_s, (X7_aside v), (X7_kept v), (X7_isKept v), (X7_saved v), (X7_savedMany v), (X7_text v), (X7_length v), (X7_thrown v), (X7_joint v), z61_v_position, z61_v_isWrong, (X7_isHollow v), (X7_sure v), (X7_away v), (X7_digested v)) y61_4 r85 (fun r88 z88_v_s =>
  ((r88 = 0 → wp_X7_reads_98 v x1 y14_2 y14_3 z14_v_isWrong z14_v_position z14_v_s B14 y61_4 z61_v_isWrong y61_2 z61_v_position z61_v_s B61 z88_v_s y61_2  Q) ∧
  (¬ r88 = 0 → wp_X7_reads_99 v x1 y14_2 y14_3 z14_v_isWrong z14_v_position z14_v_s B14 y61_4 z61_v_isWrong y61_2 z61_v_position z61_v_s B61 z88_v_s 1 y61_2  Q)))))))))
def wp_X7_reads_61 (v : V_X7) (x1 : Int32) (y14_2 : Int32) (y14_3 : Int32) (z14_v_isWrong : Int32) (z14_v_position : Int32) (z14_v_s : (Nat → Int32)) (B14 : Int32 → Int32 → Int32 → Int32 → (Nat → Int32) → Prop) (y61_4 : Int32) (z61_v_isWrong : Int32) (y61_2 : Int32) (z61_v_position : Int32) (z61_v_s : (Nat → Int32)) (Q : Int32 → Int32 → Int32 → (Nat → Int32) → Prop) : Prop :=
  ∃ (I : Int32 → Int32 → (Nat → Int32) → Prop) (μ : Int32 → Int32 → (Nat → Int32) → Nat), I y61_2 z61_v_position z61_v_s ∧ ∀ (s0 : Int32) (s1 : Int32) (s2 : (Nat → Int32)), I s0 s1 s2 → wb_X7_reads_61 v x1 y14_2 y14_3 z14_v_isWrong z14_v_position z14_v_s B14 y61_4 z61_v_isWrong s0 s1 s2 (fun t0 t1 t2 => I t0 t1 t2 ∧ μ t0 t1 t2 < μ s0 s1 s2) Q
def wb_X7_reads_14 (v : V_X7) (x1 : Int32)  (y14_2 : Int32) (y14_3 : Int32) (z14_v_isWrong : Int32) (z14_v_position : Int32) (z14_v_s : (Nat → Int32)) (B14 : Int32 → Int32 → Int32 → Int32 → (Nat → Int32) → Prop) (Q : Int32 → Int32 → Int32 → (Nat → Int32) → Prop) : Prop :=
  ((y14_3 = 0 → Q y14_2 z14_v_isWrong z14_v_position z14_v_s) ∧
  (¬ y14_3 = 0 → wp_X7_takes (z14_v_s, (X7_aside v), (X7_kept v), (X7_isKept v), (X7_saved v), (X7_savedMany v), (X7_text v), (X7_length v), (X7_thrown v), (X7_joint v), z14_v_position, z14_v_isWrong, (X7_isHollow v), (X7_sure v), (X7_away v), (X7_digested v)) 48 51 (fun r23 z23_v_isWrong z23_v_position =>
  wp_X7_takes (z14_v_s, (X7_aside v), (X7_kept v), (X7_isKept v), (X7_saved v), (X7_savedMany v), (X7_text v), (X7_length v), (X7_thrown v), (X7_joint v), z23_v_position, z23_v_isWrong, (X7_isHollow v), (X7_sure v), (X7_away v), (X7_digested v)) 58 58 (fun r33 z33_v_isWrong z33_v_position =>
  ((z33_v_isWrong = 0 → wp_X7_isDirection (z14_v_s, (X7_aside v), (X7_kept v), (X7_isKept v), (X7_saved v), (X7_savedMany v), (X7_text v), (X7_length v), (X7_thrown v), (X7_joint v), z33_v_position, z33_v_isWrong, (X7_isHollow v), (X7_sure v), (X7_away v), (X7_digested v)) (fun r47 =>
  ((r47 = 0 → wp_X7_reads_61 v x1 y14_2 y14_3 z14_v_isWrong z14_v_position z14_v_s B14 r23 1 y14_2 z33_v_position z14_v_s Q) ∧
  (¬ r47 = 0 → wp_X7_reads_61 v x1 y14_2 y14_3 z14_v_isWrong z14_v_position z14_v_s B14 r23 0 y14_2 z33_v_position z14_v_s Q)))) ∧
  (¬ z33_v_isWrong = 0 → wp_X7_reads_61 v x1 y14_2 y14_3 z14_v_isWrong z14_v_position z14_v_s B14 r23 1 y14_2 z33_v_position z14_v_s Q))))))
def wp_X7_reads_14 (v : V_X7) (x1 : Int32)  (y14_2 : Int32) (y14_3 : Int32) (z14_v_isWrong : Int32) (z14_v_position : Int32) (z14_v_s : (Nat → Int32)) (Q : Int32 → Int32 → Int32 → (Nat → Int32) → Prop) : Prop :=
  ∃ (I : Int32 → Int32 → Int32 → Int32 → (Nat → Int32) → Prop) (μ : Int32 → Int32 → Int32 → Int32 → (Nat → Int32) → Nat), I y14_2 y14_3 z14_v_isWrong z14_v_position z14_v_s ∧ ∀ (s0 : Int32) (s1 : Int32) (s2 : Int32) (s3 : Int32) (s4 : (Nat → Int32)), I s0 s1 s2 s3 s4 → wb_X7_reads_14 v x1  s0 s1 s2 s3 s4 (fun t0 t1 t2 t3 t4 => I t0 t1 t2 t3 t4 ∧ μ t0 t1 t2 t3 t4 < μ s0 s1 s2 s3 s4) Q
def wp_X7_reads (v : V_X7) (x1 : Int32) (Q : Int32 → Int32 → Int32 → (Nat → Int32) → Prop) : Prop :=
  wp_X7_reads_14 v x1  0 1 0 0 (X7_s v) Q
def q_X7_reads (dC : Nat → ClassId) (dI : Nat → Nat → Nat) (cy : Nat → ClassId) (a : Nat → Nat) (v : V_X7) (x1 : Int32) (Q : Int32 → Int32 → Int32 → (Nat → Int32) → Prop) (A : Nat → Prop) : Array Value → State → Outcome → State → Prop := va_Qi (fun (r : Int32) (u : Int32 × Int32 × (Nat → Int32)) => Q r u.1 u.2.1 u.2.2) (fun (u : Int32 × Int32 × (Nat → Int32)) t => xAt dC dI cy A (cX7 cy a u.2.2 (X7_aside v) (X7_kept v) (X7_isKept v) (X7_saved v) (X7_savedMany v) (X7_text v) (X7_length v) (X7_thrown v) (X7_joint v) u.2.1 u.1 (X7_isHollow v) (X7_sure v) (X7_away v) (X7_digested v)) t) A
set_option maxHeartbeats 4000000 in
set_option maxRecDepth 100000 in
theorem c_X7_reads (l : Launch) (dC : Nat → ClassId) (dI : Nat → Nat → Nat) (cy : Nat → ClassId) (a : Nat → Nat) (sz : Nat) (v : V_X7) (x1 : Int32) (Q : Int32 → Int32 → Int32 → (Nat → Int32) → Prop) (hq : wp_X7_reads v x1 Q) : Met l yX7_reads wsX7_reads ({ frames := 3, cells := 0, slots := 0, locals := 66 } : Room) (va_Pc [.ref (a 0), .int x1] (xPre dC dI cy (wX7 cy a v) sz)) (q_X7_reads dC dI cy a v x1 Q (va_A (wX7 cy a v) sz)) 0 0 (va_A (wX7 cy a v) sz) := by
  refine Met.ofW (cc := cX7_reads) (maxL := 7) (ret := (some .int)) (by decide) rfl ?_
  intro p e s m args below meth c s₁ B hml hv
  obtain ⟨rfl, hsz, hP, hK, hD0⟩ := hv
  have hx := B.exec
  have hb := B.bytes
  have hr := B.returns
  have hts := atoms_spec (ws := wsX7_reads) B.pre
  have hown : s.vm.findClass RX7 = some m.cls := findClass_of_methodNamed B.named
  have hlocks := B.notSynchronized
  subst hsz
  have hD := hD0.self (sz := s.heap.size)
  generalize hAe : va_A (wX7 cy a v) s.heap.size = A at hD ⊢
  have hAe0 : ∀ q : Nat, s.heap.size ≤ q → A q := fun q h => by rw [← hAe]; exact Or.inr h
  have hS : va_S A s.heap s.heap [] := va_S.rf
  have hl := lv_entry ([.ref (a 0), .int x1]) (n := 7) (Nat.le_of_ble_eq_true rfl)
  rw [lg_entry_eq]
  generalize (lg_sl ([.ref (a 0), .int x1]) ++ List.replicate (7 - (lg_sl ([.ref (a 0), .int x1])).length) Slot.unset).toArray = ls at hl ⊢
  have hl : lv_has ls 7 [(0, .ref (a 0)), (1, .int x1)] := hl
  have lk0 := hts (Cond.fieldLink RX7 170 "MolesLawnModel" "isWrong" "Z") (List.mem_cons_of_mem _ (List.mem_append_left _ (List.mem_append_left _ (List.mem_of_getElem? (i := 1) rfl))))
  have lk1 := hts (Cond.fieldLink RX7 174 "MolesLawnModel" "position" "I") (List.mem_cons_of_mem _ (List.mem_append_left _ (List.mem_append_left _ (List.mem_of_getElem? (i := 0) rfl))))
  have lk2 := hts (Cond.fieldLink RX7 167 "MolesLawnModel" "length" "I") (List.mem_cons_of_mem _ (List.mem_append_left _ (List.mem_append_left _ (List.mem_of_getElem? (i := 3) rfl))))
  have lk3 := hts (Cond.fieldLink RX7 22 "MolesLawnModel" "text" "[I") (List.mem_cons_of_mem _ (List.mem_append_left _ (List.mem_append_left _ (List.mem_of_getElem? (i := 2) rfl))))
  have iK7 : ∀ w ∈ wsX70, w ∈ wsX7_reads := fun _ h => (List.mem_cons_of_mem _ (List.mem_append_right _ h))
  unfold wp_X7_reads at hq
  have J14 : ∀  (y14_2 : Int32) (y14_3 : Int32) (z14_v_isWrong : Int32) (z14_v_position : Int32) (z14_v_s : (Nat → Int32)) (H : Heap) (locs : List Loc) (ls : Array Slot), wp_X7_reads_14 v x1  y14_2 y14_3 z14_v_isWrong z14_v_position z14_v_s Q → va_P (dC, dI) vwCl (cX7 cy a z14_v_s (X7_aside v) (X7_kept v) (X7_isKept v) (X7_saved v) (X7_savedMany v) (X7_text v) (X7_length v) (X7_thrown v) (X7_joint v) z14_v_position z14_v_isWrong (X7_isHollow v) (X7_sure v) (X7_away v) (X7_digested v)) H → va_D A (cX7 cy a z14_v_s (X7_aside v) (X7_kept v) (X7_isKept v) (X7_saved v) (X7_savedMany v) (X7_text v) (X7_length v) (X7_thrown v) (X7_joint v) z14_v_position z14_v_isWrong (X7_isHollow v) (X7_sure v) (X7_away v) (X7_digested v)) → va_S A s.heap H locs → lv_has ls 7 [(0, .ref (a 0)), (1, .int x1), (2, .int y14_2), (3, .int y14_3)] → W p l e (headSpec wsX7_reads ({ frames := 3, cells := 0, slots := 0, locals := 66 } : Room)).room s m ([.ref (a 0), .int x1] : List Value).toArray below meth c H locs 0 0 (MQ below (q_X7_reads dC dI cy a v x1 Q A) ([.ref (a 0), .int x1] : List Value).toArray s 0 0 A) (F0 m 14 ls []) := by
    intro  y14_2 y14_3 z14_v_isWrong z14_v_position z14_v_s H locs ls hq hP hD hS hl
    obtain ⟨I14, μ14, h0, hs14⟩ := hq
    have key : ∀ (n : Nat) (y14_2 : Int32) (y14_3 : Int32) (z14_v_isWrong : Int32) (z14_v_position : Int32) (z14_v_s : (Nat → Int32)) (H : Heap) (locs : List Loc) (ls : Array Slot), I14 y14_2 y14_3 z14_v_isWrong z14_v_position z14_v_s → μ14 y14_2 y14_3 z14_v_isWrong z14_v_position z14_v_s < n → va_P (dC, dI) vwCl (cX7 cy a z14_v_s (X7_aside v) (X7_kept v) (X7_isKept v) (X7_saved v) (X7_savedMany v) (X7_text v) (X7_length v) (X7_thrown v) (X7_joint v) z14_v_position z14_v_isWrong (X7_isHollow v) (X7_sure v) (X7_away v) (X7_digested v)) H → va_D A (cX7 cy a z14_v_s (X7_aside v) (X7_kept v) (X7_isKept v) (X7_saved v) (X7_savedMany v) (X7_text v) (X7_length v) (X7_thrown v) (X7_joint v) z14_v_position z14_v_isWrong (X7_isHollow v) (X7_sure v) (X7_away v) (X7_digested v)) → va_S A s.heap H locs → lv_has ls 7 [(0, .ref (a 0)), (1, .int x1), (2, .int y14_2), (3, .int y14_3)] → W p l e (headSpec wsX7_reads ({ frames := 3, cells := 0, slots := 0, locals := 66 } : Room)).room s m ([.ref (a 0), .int x1] : List Value).toArray below meth c H locs 0 0 (MQ below (q_X7_reads dC dI cy a v x1 Q A) ([.ref (a 0), .int x1] : List Value).toArray s 0 0 A) (F0 m 14 ls []) := by
      intro n
      induction n with
      | zero => intro y14_2 y14_3 z14_v_isWrong z14_v_position z14_v_s H locs ls _ hm; exact absurd hm (Nat.not_lt_zero _)
      | succ n ih =>
        intro y14_2 y14_3 z14_v_isWrong z14_v_position z14_v_s H locs ls hI hm hP hD hS hl
        have hq := hs14 y14_2 y14_3 z14_v_isWrong z14_v_position z14_v_s hI
        generalize hB14 : (fun (t0 : Int32) (t1 : Int32) (t2 : Int32) (t3 : Int32) (t4 : (Nat → Int32)) => I14 t0 t1 t2 t3 t4 ∧ μ14 t0 t1 t2 t3 t4 < μ14 y14_2 y14_3 z14_v_isWrong z14_v_position z14_v_s) = B14 at hq
        have bk14 : ∀ (y14_2 : Int32) (y14_3 : Int32) (z14_v_isWrong : Int32) (z14_v_position : Int32) (z14_v_s : (Nat → Int32)) (H : Heap) (locs : List Loc) (ls : Array Slot), B14 y14_2 y14_3 z14_v_isWrong z14_v_position z14_v_s → va_P (dC, dI) vwCl (cX7 cy a z14_v_s (X7_aside v) (X7_kept v) (X7_isKept v) (X7_saved v) (X7_savedMany v) (X7_text v) (X7_length v) (X7_thrown v) (X7_joint v) z14_v_position z14_v_isWrong (X7_isHollow v) (X7_sure v) (X7_away v) (X7_digested v)) H → va_D A (cX7 cy a z14_v_s (X7_aside v) (X7_kept v) (X7_isKept v) (X7_saved v) (X7_savedMany v) (X7_text v) (X7_length v) (X7_thrown v) (X7_joint v) z14_v_position z14_v_isWrong (X7_isHollow v) (X7_sure v) (X7_away v) (X7_digested v)) → va_S A s.heap H locs → lv_has ls 7 [(0, .ref (a 0)), (1, .int x1), (2, .int y14_2), (3, .int y14_3)] → W p l e (headSpec wsX7_reads ({ frames := 3, cells := 0, slots := 0, locals := 66 } : Room)).room s m ([.ref (a 0), .int x1] : List Value).toArray below meth c H locs 0 0 (MQ below (q_X7_reads dC dI cy a v x1 Q A) ([.ref (a 0), .int x1] : List Value).toArray s 0 0 A) (F0 m 14 ls []) := by
          intro y14_2 y14_3 z14_v_isWrong z14_v_position z14_v_s H locs ls h
          rw [← hB14] at h
          exact ih y14_2 y14_3 z14_v_isWrong z14_v_position z14_v_s H locs ls h.1 (Nat.lt_of_lt_of_le h.2 (Nat.le_of_lt_succ hm))
        unfold wb_X7_reads_14 at hq
        have J137 : ∀ (y137_2 : Int32) (z137_v_isWrong : Int32) (z137_v_position : Int32) (z137_v_s : (Nat → Int32)) (k137_0 : Int32) (H : Heap) (locs : List Loc) (ls : Array Slot), wp_X7_reads_137 v x1 y14_2 y14_3 z14_v_isWrong z14_v_position z14_v_s B14 y137_2 z137_v_isWrong z137_v_position z137_v_s k137_0 Q → va_P (dC, dI) vwCl (cX7 cy a z137_v_s (X7_aside v) (X7_kept v) (X7_isKept v) (X7_saved v) (X7_savedMany v) (X7_text v) (X7_length v) (X7_thrown v) (X7_joint v) z137_v_position z137_v_isWrong (X7_isHollow v) (X7_sure v) (X7_away v) (X7_digested v)) H → va_D A (cX7 cy a z137_v_s (X7_aside v) (X7_kept v) (X7_isKept v) (X7_saved v) (X7_savedMany v) (X7_text v) (X7_length v) (X7_thrown v) (X7_joint v) z137_v_position z137_v_isWrong (X7_isHollow v) (X7_sure v) (X7_away v) (X7_digested v)) → va_S A s.heap H locs → lv_has ls 7 [(0, .ref (a 0)), (1, .int x1), (2, .int y137_2)] → W p l e (headSpec wsX7_reads ({ frames := 3, cells := 0, slots := 0, locals := 66 } : Room)).room s m ([.ref (a 0), .int x1] : List Value).toArray below meth c H locs 0 0 (MQ below (q_X7_reads dC dI cy a v x1 Q A) ([.ref (a 0), .int x1] : List Value).toArray s 0 0 A) (F0 m 137 ls [.int k137_0]) := by
          intro y137_2 z137_v_isWrong z137_v_position z137_v_s k137_0 H locs ls hq hP hD hS hl
          unfold wp_X7_reads_137 at hq
          refine lv_istore_n (lv' := [(3, .int k137_0), (0, .ref (a 0)), (1, .int x1), (2, .int y137_2)]) hx hb dX7_reads_137 rfl hl (by decide) rfl (fun ls hl => ?_)
          refine lv_iload_n hx hb dX7_reads_138 rfl (lv_at hl 0 rfl) ?_
          obtain ⟨hqA, hqB⟩ := hq
          refine lv_if_eq (tgt := 165) hx hb dX7_reads_139 (by decide) (fun c2 => ?_) (fun c2 => ?_)
          · have hq := hqA c2
            refine lv_goto (tgt := 14) hx hb dX7_reads_165 (by decide) ?_
            exact bk14 y137_2 k137_0 z137_v_isWrong z137_v_position z137_v_s _ _ _ hq hP hD hS (lv_sub hl [1, 2, 3, 0] rfl)
          · have hq := hqB c2
            refine lv_aload_n hx hb dX7_reads_142 rfl (lv_at hl 1 rfl) ?_
            refine lv_bipush (v := 59) hx hb dX7_reads_143 (by decide) ?_
            refine lv_bipush (v := 59) hx hb dX7_reads_145 (by decide) ?_
            have hFc := xfree_same hS hAe0 (ws := (cX7 cy a z137_v_s (X7_aside v) (X7_kept v) (X7_isKept v) (X7_saved v) (X7_savedMany v) (X7_text v) (X7_length v) (X7_thrown v) (X7_joint v) z137_v_position z137_v_isWrong (X7_isHollow v) (X7_sure v) (X7_away v) (X7_digested v))) hD
            refine va_calli (va_runV (As := [.int 59, .int 59]) (rest := []) ⟨hx, hb, hml, hown, hts⟩ (c_X7_takes l dC dI cy a _ (z137_v_s, (X7_aside v), (X7_kept v), (X7_isKept v), (X7_saved v), (X7_savedMany v), (X7_text v), (X7_length v), (X7_thrown v), (X7_joint v), z137_v_position, z137_v_isWrong, (X7_isHollow v), (X7_sure v), (X7_away v), (X7_digested v)) 59 59 _ hq) (cwV 2 hts gX7_reads_X7_takes rfl rfl rfl (by decide +kernel) ⟨Nat.le_of_ble_eq_true rfl, Nat.le_of_ble_eq_true rfl⟩) ⟨xPre_blind, va_recv hK hP (ci := 7) (q0 := 0) rfl rfl, xPre_of hP hK hD⟩ rfl rfl hl.1 rfl (lv_room (Nat.le_of_ble_eq_true rfl)) dX7_reads_147 ⟨Nat.le_of_ble_eq_true rfl, Nat.le_of_ble_eq_true rfl⟩) hS (fun q _ h => hFc q h) hFc (fun r147 u9 t H locs ht hvm hq hB hz1 hk1 hS => ?_)
            obtain ⟨z147_v_isWrong, z147_v_position⟩ := u9
            obtain ⟨hP1, -, hD1⟩ := hB
            rw [ht] at hP1
            have hP : va_P (dC, dI) vwCl (cX7 cy a z137_v_s (X7_aside v) (X7_kept v) (X7_isKept v) (X7_saved v) (X7_savedMany v) (X7_text v) (X7_length v) (X7_thrown v) (X7_joint v) z147_v_position z147_v_isWrong (X7_isHollow v) (X7_sure v) (X7_away v) (X7_digested v)) H := hP1
            have hD : va_D A (cX7 cy a z137_v_s (X7_aside v) (X7_kept v) (X7_isKept v) (X7_saved v) (X7_savedMany v) (X7_text v) (X7_length v) (X7_thrown v) (X7_joint v) z147_v_position z147_v_isWrong (X7_isHollow v) (X7_sure v) (X7_away v) (X7_digested v)) := hD1.weaken (fun _ q _ h => hFc q.1 h)
            refine lv_istore (lv' := [(6, .int r147), (3, .int k137_0), (0, .ref (a 0)), (1, .int x1), (2, .int y137_2)]) hx hb dX7_reads_150 hl (by decide) rfl (fun ls hl => ?_)
            refine lv_aload_n hx hb dX7_reads_152 rfl (lv_at hl 2 rfl) ?_
            refine va_get (D := (dC, dI)) (ci := 7) (v := .int z147_v_isWrong) (C := RX7) (T := TX7) (N := 16) hx hb hts iK7 hown hK hP 0 rfl rfl 11 (by decide) lk0 (fun _ h9 => h9) rfl dX7_reads_153 ?_
            obtain ⟨hqA, hqB⟩ := hq
            refine lv_if_ne (tgt := 163) hx hb dX7_reads_156 (by decide) (fun c1 => ?_) (fun c1 => ?_)
            · have hq := hqB c1
              refine lv_iconst (v := 0) hx hb dX7_reads_163 (by decide) ?_
              refine lv_istore_n (lv' := [(3, .int 0), (6, .int r147), (0, .ref (a 0)), (1, .int x1), (2, .int y137_2)]) hx hb dX7_reads_164 rfl hl (by decide) rfl (fun ls hl => ?_)
              refine lv_goto (tgt := 14) hx hb dX7_reads_165 (by decide) ?_
              exact bk14 y137_2 0 z147_v_isWrong z147_v_position z137_v_s _ _ _ hq hP hD hS (lv_sub hl [2, 3, 4, 0] rfl)
            · have hq := hqA c1
              refine lv_iconst (v := 1) hx hb dX7_reads_159 (by decide) ?_
              refine lv_goto (tgt := 164) hx hb dX7_reads_160 (by decide) ?_
              refine lv_istore_n (lv' := [(3, .int 1), (6, .int r147), (0, .ref (a 0)), (1, .int x1), (2, .int y137_2)]) hx hb dX7_reads_164 rfl hl (by decide) rfl (fun ls hl => ?_)
              refine lv_goto (tgt := 14) hx hb dX7_reads_165 (by decide) ?_
              exact bk14 y137_2 1 z147_v_isWrong z147_v_position z137_v_s _ _ _ hq hP hD hS (lv_sub hl [2, 3, 4, 0] rfl)
        have J136 : ∀ (y136_2 : Int32) (z136_v_isWrong : Int32) (z136_v_position : Int32) (z136_v_s : (Nat → Int32)) (H : Heap) (locs : List Loc) (ls : Array Slot), wp_X7_reads_136 v x1 y14_2 y14_3 z14_v_isWrong z14_v_position z14_v_s B14 y136_2 z136_v_isWrong z136_v_position z136_v_s Q → va_P (dC, dI) vwCl (cX7 cy a z136_v_s (X7_aside v) (X7_kept v) (X7_isKept v) (X7_saved v) (X7_savedMany v) (X7_text v) (X7_length v) (X7_thrown v) (X7_joint v) z136_v_position z136_v_isWrong (X7_isHollow v) (X7_sure v) (X7_away v) (X7_digested v)) H → va_D A (cX7 cy a z136_v_s (X7_aside v) (X7_kept v) (X7_isKept v) (X7_saved v) (X7_savedMany v) (X7_text v) (X7_length v) (X7_thrown v) (X7_joint v) z136_v_position z136_v_isWrong (X7_isHollow v) (X7_sure v) (X7_away v) (X7_digested v)) → va_S A s.heap H locs → lv_has ls 7 [(0, .ref (a 0)), (1, .int x1), (2, .int y136_2)] → W p l e (headSpec wsX7_reads ({ frames := 3, cells := 0, slots := 0, locals := 66 } : Room)).room s m ([.ref (a 0), .int x1] : List Value).toArray below meth c H locs 0 0 (MQ below (q_X7_reads dC dI cy a v x1 Q A) ([.ref (a 0), .int x1] : List Value).toArray s 0 0 A) (F0 m 136 ls []) := by
          intro y136_2 z136_v_isWrong z136_v_position z136_v_s H locs ls hq hP hD hS hl
          unfold wp_X7_reads_136 at hq
          refine lv_iconst (v := 0) hx hb dX7_reads_136 (by decide) ?_
          exact J137 y136_2 z136_v_isWrong z136_v_position z136_v_s 0  _ _ _ hq hP hD hS (lv_sub hl [0, 1, 2] rfl)
        have J61 : ∀ (y61_4 : Int32) (z61_v_isWrong : Int32) (y61_2 : Int32) (z61_v_position : Int32) (z61_v_s : (Nat → Int32)) (H : Heap) (locs : List Loc) (ls : Array Slot), wp_X7_reads_61 v x1 y14_2 y14_3 z14_v_isWrong z14_v_position z14_v_s B14 y61_4 z61_v_isWrong y61_2 z61_v_position z61_v_s Q → va_P (dC, dI) vwCl (cX7 cy a z61_v_s (X7_aside v) (X7_kept v) (X7_isKept v) (X7_saved v) (X7_savedMany v) (X7_text v) (X7_length v) (X7_thrown v) (X7_joint v) z61_v_position z61_v_isWrong (X7_isHollow v) (X7_sure v) (X7_away v) (X7_digested v)) H → va_D A (cX7 cy a z61_v_s (X7_aside v) (X7_kept v) (X7_isKept v) (X7_saved v) (X7_savedMany v) (X7_text v) (X7_length v) (X7_thrown v) (X7_joint v) z61_v_position z61_v_isWrong (X7_isHollow v) (X7_sure v) (X7_away v) (X7_digested v)) → va_S A s.heap H locs → lv_has ls 7 [(0, .ref (a 0)), (1, .int x1), (2, .int y61_2), (4, .int y61_4)] → W p l e (headSpec wsX7_reads ({ frames := 3, cells := 0, slots := 0, locals := 66 } : Room)).room s m ([.ref (a 0), .int x1] : List Value).toArray below meth c H locs 0 0 (MQ below (q_X7_reads dC dI cy a v x1 Q A) ([.ref (a 0), .int x1] : List Value).toArray s 0 0 A) (F0 m 61 ls []) := by
          intro y61_4 z61_v_isWrong y61_2 z61_v_position z61_v_s H locs ls hq hP hD hS hl
          obtain ⟨I61, μ61, h0, hs61⟩ := hq
          have key : ∀ (n : Nat) (y61_2 : Int32) (z61_v_position : Int32) (z61_v_s : (Nat → Int32)) (H : Heap) (locs : List Loc) (ls : Array Slot), I61 y61_2 z61_v_position z61_v_s → μ61 y61_2 z61_v_position z61_v_s < n → va_P (dC, dI) vwCl (cX7 cy a z61_v_s (X7_aside v) (X7_kept v) (X7_isKept v) (X7_saved v) (X7_savedMany v) (X7_text v) (X7_length v) (X7_thrown v) (X7_joint v) z61_v_position z61_v_isWrong (X7_isHollow v) (X7_sure v) (X7_away v) (X7_digested v)) H → va_D A (cX7 cy a z61_v_s (X7_aside v) (X7_kept v) (X7_isKept v) (X7_saved v) (X7_savedMany v) (X7_text v) (X7_length v) (X7_thrown v) (X7_joint v) z61_v_position z61_v_isWrong (X7_isHollow v) (X7_sure v) (X7_away v) (X7_digested v)) → va_S A s.heap H locs → lv_has ls 7 [(0, .ref (a 0)), (1, .int x1), (2, .int y61_2), (4, .int y61_4)] → W p l e (headSpec wsX7_reads ({ frames := 3, cells := 0, slots := 0, locals := 66 } : Room)).room s m ([.ref (a 0), .int x1] : List Value).toArray below meth c H locs 0 0 (MQ below (q_X7_reads dC dI cy a v x1 Q A) ([.ref (a 0), .int x1] : List Value).toArray s 0 0 A) (F0 m 61 ls []) := by
            intro n
            induction n with
            | zero => intro y61_2 z61_v_position z61_v_s H locs ls _ hm; exact absurd hm (Nat.not_lt_zero _)
            | succ n ih =>
              intro y61_2 z61_v_position z61_v_s H locs ls hI hm hP hD hS hl
              have hq := hs61 y61_2 z61_v_position z61_v_s hI
              generalize hB61 : (fun (t0 : Int32) (t1 : Int32) (t2 : (Nat → Int32)) => I61 t0 t1 t2 ∧ μ61 t0 t1 t2 < μ61 y61_2 z61_v_position z61_v_s) = B61 at hq
              have bk61 : ∀ (y61_2 : Int32) (z61_v_position : Int32) (z61_v_s : (Nat → Int32)) (H : Heap) (locs : List Loc) (ls : Array Slot), B61 y61_2 z61_v_position z61_v_s → va_P (dC, dI) vwCl (cX7 cy a z61_v_s (X7_aside v) (X7_kept v) (X7_isKept v) (X7_saved v) (X7_savedMany v) (X7_text v) (X7_length v) (X7_thrown v) (X7_joint v) z61_v_position z61_v_isWrong (X7_isHollow v) (X7_sure v) (X7_away v) (X7_digested v)) H → va_D A (cX7 cy a z61_v_s (X7_aside v) (X7_kept v) (X7_isKept v) (X7_saved v) (X7_savedMany v) (X7_text v) (X7_length v) (X7_thrown v) (X7_joint v) z61_v_position z61_v_isWrong (X7_isHollow v) (X7_sure v) (X7_away v) (X7_digested v)) → va_S A s.heap H locs → lv_has ls 7 [(0, .ref (a 0)), (1, .int x1), (2, .int y61_2), (4, .int y61_4)] → W p l e (headSpec wsX7_reads ({ frames := 3, cells := 0, slots := 0, locals := 66 } : Room)).room s m ([.ref (a 0), .int x1] : List Value).toArray below meth c H locs 0 0 (MQ below (q_X7_reads dC dI cy a v x1 Q A) ([.ref (a 0), .int x1] : List Value).toArray s 0 0 A) (F0 m 61 ls []) := by
                intro y61_2 z61_v_position z61_v_s H locs ls h
                rw [← hB61] at h
                exact ih y61_2 z61_v_position z61_v_s H locs ls h.1 (Nat.lt_of_lt_of_le h.2 (Nat.le_of_lt_succ hm))
              unfold wb_X7_reads_61 at hq
              have J99 : ∀ (z99_v_s : (Nat → Int32)) (k99_0 : Int32) (k99_1 : Int32) (H : Heap) (locs : List Loc) (ls : Array Slot), wp_X7_reads_99 v x1 y14_2 y14_3 z14_v_isWrong z14_v_position z14_v_s B14 y61_4 z61_v_isWrong y61_2 z61_v_position z61_v_s B61 z99_v_s k99_0 k99_1 Q → va_P (dC, dI) vwCl (cX7 cy a z99_v_s (X7_aside v) (X7_kept v) (X7_isKept v) (X7_saved v) (X7_savedMany v) (X7_text v) (X7_length v) (X7_thrown v) (X7_joint v) z61_v_position z61_v_isWrong (X7_isHollow v) (X7_sure v) (X7_away v) (X7_digested v)) H → va_D A (cX7 cy a z99_v_s (X7_aside v) (X7_kept v) (X7_isKept v) (X7_saved v) (X7_savedMany v) (X7_text v) (X7_length v) (X7_thrown v) (X7_joint v) z61_v_position z61_v_isWrong (X7_isHollow v) (X7_sure v) (X7_away v) (X7_digested v)) → va_S A s.heap H locs → lv_has ls 7 [(0, .ref (a 0)), (1, .int x1), (4, .int y61_4)] → W p l e (headSpec wsX7_reads ({ frames := 3, cells := 0, slots := 0, locals := 66 } : Room)).room s m ([.ref (a 0), .int x1] : List Value).toArray below meth c H locs 0 0 (MQ below (q_X7_reads dC dI cy a v x1 Q A) ([.ref (a 0), .int x1] : List Value).toArray s 0 0 A) (F0 m 99 ls [.int k99_0, .int k99_1]) := by
                intro z99_v_s k99_0 k99_1 H locs ls hq hP hD hS hl
                unfold wp_X7_reads_99 at hq
                refine lv_iadd hx hb dX7_reads_99 ?_
                refine lv_istore_n (lv' := [(2, .int (k99_1 + k99_0)), (0, .ref (a 0)), (1, .int x1), (4, .int y61_4)]) hx hb dX7_reads_100 rfl hl (by decide) rfl (fun ls hl => ?_)
                refine lv_aload_n hx hb dX7_reads_101 rfl (lv_at hl 1 rfl) ?_
                refine lv_dup hx hb dX7_reads_102 rfl ?_
                refine va_get (D := (dC, dI)) (ci := 7) (v := .int z61_v_position) (C := RX7) (T := TX7) (N := 16) hx hb hts iK7 hown hK hP 0 rfl rfl 10 (by decide) lk1 (fun _ h9 => h9) rfl dX7_reads_103 ?_
                refine lv_iconst (v := 1) hx hb dX7_reads_106 (by decide) ?_
                refine lv_iadd hx hb dX7_reads_107 ?_
                refine va_put (D := (dC, dI)) (ci := 7) (v := .int (z61_v_position + 1)) (ty := .int) (C := RX7) (T := TX7) (N := 16) hx hb hts iK7 tyX7 tyX7_ok nmX7 hown hK hP hD hS 0 rfl rfl 10 (by decide) lk1 (fun _ h9 => h9) rfl (by decide +kernel) rfl rfl (Nat.le_of_ble_eq_true rfl) dX7_reads_108 (fun H locs hP hD hS => ?_)
                have hP : va_P (dC, dI) vwCl (cX7 cy a z99_v_s (X7_aside v) (X7_kept v) (X7_isKept v) (X7_saved v) (X7_savedMany v) (X7_text v) (X7_length v) (X7_thrown v) (X7_joint v) (z61_v_position + 1) z61_v_isWrong (X7_isHollow v) (X7_sure v) (X7_away v) (X7_digested v)) H := hP
                have hD : va_D A (cX7 cy a z99_v_s (X7_aside v) (X7_kept v) (X7_isKept v) (X7_saved v) (X7_savedMany v) (X7_text v) (X7_length v) (X7_thrown v) (X7_joint v) (z61_v_position + 1) z61_v_isWrong (X7_isHollow v) (X7_sure v) (X7_away v) (X7_digested v)) := hD
                refine lv_goto (tgt := 61) hx hb dX7_reads_111 (by decide) ?_
                exact bk61 (k99_1 + k99_0) (z61_v_position + 1) z99_v_s _ _ _ hq hP hD hS (lv_sub hl [1, 2, 0, 3] rfl)
              have J98 : ∀ (z98_v_s : (Nat → Int32)) (k98_0 : Int32) (H : Heap) (locs : List Loc) (ls : Array Slot), wp_X7_reads_98 v x1 y14_2 y14_3 z14_v_isWrong z14_v_position z14_v_s B14 y61_4 z61_v_isWrong y61_2 z61_v_position z61_v_s B61 z98_v_s k98_0 Q → va_P (dC, dI) vwCl (cX7 cy a z98_v_s (X7_aside v) (X7_kept v) (X7_isKept v) (X7_saved v) (X7_savedMany v) (X7_text v) (X7_length v) (X7_thrown v) (X7_joint v) z61_v_position z61_v_isWrong (X7_isHollow v) (X7_sure v) (X7_away v) (X7_digested v)) H → va_D A (cX7 cy a z98_v_s (X7_aside v) (X7_kept v) (X7_isKept v) (X7_saved v) (X7_savedMany v) (X7_text v) (X7_length v) (X7_thrown v) (X7_joint v) z61_v_position z61_v_isWrong (X7_isHollow v) (X7_sure v) (X7_away v) (X7_digested v)) → va_S A s.heap H locs → lv_has ls 7 [(0, .ref (a 0)), (1, .int x1), (4, .int y61_4)] → W p l e (headSpec wsX7_reads ({ frames := 3, cells := 0, slots := 0, locals := 66 } : Room)).room s m ([.ref (a 0), .int x1] : List Value).toArray below meth c H locs 0 0 (MQ below (q_X7_reads dC dI cy a v x1 Q A) ([.ref (a 0), .int x1] : List Value).toArray s 0 0 A) (F0 m 98 ls [.int k98_0]) := by
                intro z98_v_s k98_0 H locs ls hq hP hD hS hl
                unfold wp_X7_reads_98 at hq
                refine lv_iconst (v := 0) hx hb dX7_reads_98 (by decide) ?_
                exact J99 z98_v_s 0 k98_0  _ _ _ hq hP hD hS (lv_sub hl [0, 1, 2] rfl)
              refine lv_aload_n hx hb dX7_reads_61 rfl (lv_at hl 0 rfl) ?_
              have hFc := xfree_same hS hAe0 (ws := (cX7 cy a z61_v_s (X7_aside v) (X7_kept v) (X7_isKept v) (X7_saved v) (X7_savedMany v) (X7_text v) (X7_length v) (X7_thrown v) (X7_joint v) z61_v_position z61_v_isWrong (X7_isHollow v) (X7_sure v) (X7_away v) (X7_digested v))) hD
              refine va_calli (va_runV (As := []) (rest := []) ⟨hx, hb, hml, hown, hts⟩ (c_X7_isDirection l dC dI cy a _ (z61_v_s, (X7_aside v), (X7_kept v), (X7_isKept v), (X7_saved v), (X7_savedMany v), (X7_text v), (X7_length v), (X7_thrown v), (X7_joint v), z61_v_position, z61_v_isWrong, (X7_isHollow v), (X7_sure v), (X7_away v), (X7_digested v)) _ hq) (cwV 0 hts gX7_reads_X7_isDirection rfl rfl rfl (by decide +kernel) ⟨Nat.le_of_ble_eq_true rfl, Nat.le_of_ble_eq_true rfl⟩) ⟨xPre_blind, va_recv hK hP (ci := 7) (q0 := 0) rfl rfl, xPre_of hP hK hD⟩ rfl rfl hl.1 rfl (lv_room (Nat.le_of_ble_eq_true rfl)) dX7_reads_62 ⟨Nat.le_of_ble_eq_true rfl, Nat.le_of_ble_eq_true rfl⟩) hS (fun q _ h => hFc q h) hFc (fun r62 u9 t H locs ht hvm hq hB hz1 hk1 hS => ?_)
              obtain ⟨hP1, -, hD1⟩ := hB
              rw [ht] at hP1
              have hP : va_P (dC, dI) vwCl (cX7 cy a z61_v_s (X7_aside v) (X7_kept v) (X7_isKept v) (X7_saved v) (X7_savedMany v) (X7_text v) (X7_length v) (X7_thrown v) (X7_joint v) z61_v_position z61_v_isWrong (X7_isHollow v) (X7_sure v) (X7_away v) (X7_digested v)) H := hP1
              have hD : va_D A (cX7 cy a z61_v_s (X7_aside v) (X7_kept v) (X7_isKept v) (X7_saved v) (X7_savedMany v) (X7_text v) (X7_length v) (X7_thrown v) (X7_joint v) z61_v_position z61_v_isWrong (X7_isHollow v) (X7_sure v) (X7_away v) (X7_digested v)) := hD1.weaken (fun _ q _ h => hFc q.1 h)
              obtain ⟨hqA, hqB⟩ := hq
              refine lv_if_eq (tgt := 114) hx hb dX7_reads_65 (by decide) (fun c8 => ?_) (fun c8 => ?_)
              · have hq := hqA c8
                refine lv_aload_n hx hb dX7_reads_114 rfl (lv_at hl 0 rfl) ?_
                refine va_get (D := (dC, dI)) (ci := 7) (v := .int z61_v_isWrong) (C := RX7) (T := TX7) (N := 16) hx hb hts iK7 hown hK hP 0 rfl rfl 11 (by decide) lk0 (fun _ h9 => h9) rfl dX7_reads_115 ?_
                obtain ⟨hqA, hqB⟩ := hq
                refine lv_if_ne (tgt := 136) hx hb dX7_reads_118 (by decide) (fun c4 => ?_) (fun c4 => ?_)
                · have hq := hqB c4
                  exact J136 y61_2 z61_v_isWrong z61_v_position z61_v_s  _ _ _ hq hP hD hS (lv_sub hl [0, 1, 2] rfl)
                · have hq := hqA c4
                  refine lv_aload_n hx hb dX7_reads_121 rfl (lv_at hl 0 rfl) ?_
                  refine va_get (D := (dC, dI)) (ci := 7) (v := .int z61_v_position) (C := RX7) (T := TX7) (N := 16) hx hb hts iK7 hown hK hP 0 rfl rfl 10 (by decide) lk1 (fun _ h9 => h9) rfl dX7_reads_122 ?_
                  refine lv_aload_n hx hb dX7_reads_125 rfl (lv_at hl 0 rfl) ?_
                  refine va_get (D := (dC, dI)) (ci := 7) (v := .int (X7_length v)) (C := RX7) (T := TX7) (N := 16) hx hb hts iK7 hown hK hP 0 rfl rfl 7 (by decide) lk2 (fun _ h9 => h9) rfl dX7_reads_126 ?_
                  obtain ⟨hqA, hqB⟩ := hq
                  refine lv_icmp_ge (tgt := 136) hx hb dX7_reads_129 (by decide) (fun c3 => ?_) (fun c3 => ?_)
                  · have hq := hqA c3
                    exact J136 y61_2 z61_v_isWrong z61_v_position z61_v_s  _ _ _ hq hP hD hS (lv_sub hl [0, 1, 2] rfl)
                  · have hq := hqB c3
                    refine lv_iconst (v := 1) hx hb dX7_reads_132 (by decide) ?_
                    refine lv_goto (tgt := 137) hx hb dX7_reads_133 (by decide) ?_
                    exact J137 y61_2 z61_v_isWrong z61_v_position z61_v_s 1  _ _ _ hq hP hD hS (lv_sub hl [0, 1, 2] rfl)
              · have hq := hqB c8
                refine lv_iload_n hx hb dX7_reads_68 rfl (lv_at hl 2 rfl) ?_
                refine lv_iload_n hx hb dX7_reads_69 rfl (lv_at hl 1 rfl) ?_
                obtain ⟨hqA, hqB⟩ := hq
                refine lv_if_eq (tgt := 98) hx hb dX7_reads_70 (by decide) (fun c7 => ?_) (fun c7 => ?_)
                · have hq := hqA c7
                  exact J98 z61_v_s y61_2  _ _ _ hq hP hD hS (lv_sub hl [0, 1, 3] rfl)
                · have hq := hqB c7
                  refine lv_aload_n hx hb dX7_reads_73 rfl (lv_at hl 0 rfl) ?_
                  refine lv_iload hx hb dX7_reads_74 (lv_at hl 3 rfl) ?_
                  refine lv_aload_n hx hb dX7_reads_76 rfl (lv_at hl 0 rfl) ?_
                  refine va_get (D := (dC, dI)) (ci := 7) (v := .ref (a 5)) (C := RX7) (T := TX7) (N := 16) hx hb hts iK7 hown hK hP 0 rfl rfl 6 (by decide) lk3 (fun _ h9 => h9) rfl dX7_reads_77 ?_
                  refine lv_aload_n hx hb dX7_reads_80 rfl (lv_at hl 0 rfl) ?_
                  refine va_get (D := (dC, dI)) (ci := 7) (v := .int z61_v_position) (C := RX7) (T := TX7) (N := 16) hx hb hts iK7 hown hK hP 0 rfl rfl 10 (by decide) lk1 (fun _ h9 => h9) rfl dX7_reads_81 ?_
                  obtain ⟨g5, hq⟩ := hq
                  refine va_iald hx hb hK hP 5 0 rfl rfl g5 dX7_reads_84 ?_
                  have hFc := xfree_none hS hAe0
                  refine va_calli (va_runS (As := [.int ((X7_text v) z61_v_position.toNatClampNeg)]) (rest := [.int y61_4, .ref (a 0), .int y61_2]) ⟨hx, hb, hml, hown, hts⟩ (c_X7_directionOf l dC dI cy  _ ((X7_text v) z61_v_position.toNatClampNeg) _ hq) (va_cwS 1 hts gX7_reads_X7_directionOf rfl rfl rfl (by decide +kernel) ⟨Nat.le_of_ble_eq_true rfl, Nat.le_of_ble_eq_true rfl⟩) ⟨xPre_blind, xPre_of xP_nil hK (xD_nil (A := A))⟩ rfl rfl hl.1 rfl (lv_room (Nat.le_of_ble_eq_true rfl)) dX7_reads_85 ⟨Nat.le_of_ble_eq_true rfl, Nat.le_of_ble_eq_true rfl⟩) hS (fun q _ h => hFc q h) hFc (fun r85 u9 t H locs ht hvm hq hB hz1 hk1 hS => ?_)
                  have hP := xj_none hP hk1
                  have hFc := xfree_same hS hAe0 (ws := (cX7 cy a z61_v_s (X7_aside v) (X7_kept v) (X7_isKept v) (X7_saved v) (X7_savedMany v) (X7_text v) (X7_length v) (X7_thrown v) (X7_joint v) z61_v_position z61_v_isWrong (X7_isHollow v) (X7_sure v) (X7_away v) (X7_digested v))) hD
                  refine va_calli (va_runV (As := [.int y61_4, .int r85]) (rest := [.int y61_2]) ⟨hx, hb, hml, hown, hts⟩ (c_X7_putsPlan l dC dI cy a _ (z61_v_s, (X7_aside v), (X7_kept v), (X7_isKept v), (X7_saved v), (X7_savedMany v), (X7_text v), (X7_length v), (X7_thrown v), (X7_joint v), z61_v_position, z61_v_isWrong, (X7_isHollow v), (X7_sure v), (X7_away v), (X7_digested v)) y61_4 r85 _ hq) (cwV 2 hts gX7_reads_X7_putsPlan rfl rfl rfl (by decide +kernel) ⟨Nat.le_of_ble_eq_true rfl, Nat.le_of_ble_eq_true rfl⟩) ⟨xPre_blind, va_recv hK hP (ci := 7) (q0 := 0) rfl rfl, xPre_of hP hK hD⟩ rfl rfl hl.1 rfl (lv_room (Nat.le_of_ble_eq_true rfl)) dX7_reads_88 ⟨Nat.le_of_ble_eq_true rfl, Nat.le_of_ble_eq_true rfl⟩) hS (fun q _ h => hFc q h) hFc (fun r88 z88_v_s t H locs ht hvm hq hB hz1 hk1 hS => ?_)
                  obtain ⟨hP1, -, hD1⟩ := hB
                  rw [ht] at hP1
                  have hP : va_P (dC, dI) vwCl (cX7 cy a z88_v_s (X7_aside v) (X7_kept v) (X7_isKept v) (X7_saved v) (X7_savedMany v) (X7_text v) (X7_length v) (X7_thrown v) (X7_joint v) z61_v_position z61_v_isWrong (X7_isHollow v) (X7_sure v) (X7_away v) (X7_digested v)) H := hP1
                  have hD : va_D A (cX7 cy a z88_v_s (X7_aside v) (X7_kept v) (X7_isKept v) (X7_saved v) (X7_savedMany v) (X7_text v) (X7_length v) (X7_thrown v) (X7_joint v) z61_v_position z61_v_isWrong (X7_isHollow v) (X7_sure v) (X7_away v) (X7_digested v)) := hD1.weaken (fun _ q _ h => hFc q.1 h)
                  obtain ⟨hqA, hqB⟩ := hq
                  refine lv_if_eq (tgt := 98) hx hb dX7_reads_91 (by decide) (fun c6 => ?_) (fun c6 => ?_)
                  · have hq := hqA c6
                    exact J98 z88_v_s y61_2  _ _ _ hq hP hD hS (lv_sub hl [0, 1, 3] rfl)
                  · have hq := hqB c6
                    refine lv_iconst (v := 1) hx hb dX7_reads_94 (by decide) ?_
                    refine lv_goto (tgt := 99) hx hb dX7_reads_95 (by decide) ?_
                    exact J99 z88_v_s 1 y61_2  _ _ _ hq hP hD hS (lv_sub hl [0, 1, 3] rfl)
          exact key _ y61_2 z61_v_position z61_v_s H locs ls h0 (Nat.lt_succ_self _) hP hD hS hl
        refine lv_iload_n hx hb dX7_reads_14 rfl (lv_at hl 3 rfl) ?_
        obtain ⟨hqA, hqB⟩ := hq
        refine lv_if_eq (tgt := 168) hx hb dX7_reads_15 (by decide) (fun c11 => ?_) (fun c11 => ?_)
        · have hq := hqA c11
          refine lv_iload_n hx hb dX7_reads_168 rfl (lv_at hl 2 rfl) ?_
          exact W.iret (v := y14_2) hx hb hr (fun t ht hW => ⟨⟨y14_2, (z14_v_isWrong, z14_v_position, z14_v_s), rfl, hq, (xAt_of hP hK hD ht hW)⟩, hS.F ht⟩) hS.2.2 dX7_reads_169
        · have hq := hqB c11
          refine lv_aload_n hx hb dX7_reads_18 rfl (lv_at hl 0 rfl) ?_
          refine lv_bipush (v := 48) hx hb dX7_reads_19 (by decide) ?_
          refine lv_bipush (v := 51) hx hb dX7_reads_21 (by decide) ?_
          have hFc := xfree_same hS hAe0 (ws := (cX7 cy a z14_v_s (X7_aside v) (X7_kept v) (X7_isKept v) (X7_saved v) (X7_savedMany v) (X7_text v) (X7_length v) (X7_thrown v) (X7_joint v) z14_v_position z14_v_isWrong (X7_isHollow v) (X7_sure v) (X7_away v) (X7_digested v))) hD
          refine va_calli (va_runV (As := [.int 48, .int 51]) (rest := []) ⟨hx, hb, hml, hown, hts⟩ (c_X7_takes l dC dI cy a _ (z14_v_s, (X7_aside v), (X7_kept v), (X7_isKept v), (X7_saved v), (X7_savedMany v), (X7_text v), (X7_length v), (X7_thrown v), (X7_joint v), z14_v_position, z14_v_isWrong, (X7_isHollow v), (X7_sure v), (X7_away v), (X7_digested v)) 48 51 _ hq) (cwV 2 hts gX7_reads_X7_takes rfl rfl rfl (by decide +kernel) ⟨Nat.le_of_ble_eq_true rfl, Nat.le_of_ble_eq_true rfl⟩) ⟨xPre_blind, va_recv hK hP (ci := 7) (q0 := 0) rfl rfl, xPre_of hP hK hD⟩ rfl rfl hl.1 rfl (lv_room (Nat.le_of_ble_eq_true rfl)) dX7_reads_23 ⟨Nat.le_of_ble_eq_true rfl, Nat.le_of_ble_eq_true rfl⟩) hS (fun q _ h => hFc q h) hFc (fun r23 u9 t H locs ht hvm hq hB hz1 hk1 hS => ?_)
          obtain ⟨z23_v_isWrong, z23_v_position⟩ := u9
          obtain ⟨hP1, -, hD1⟩ := hB
          rw [ht] at hP1
          have hP : va_P (dC, dI) vwCl (cX7 cy a z14_v_s (X7_aside v) (X7_kept v) (X7_isKept v) (X7_saved v) (X7_savedMany v) (X7_text v) (X7_length v) (X7_thrown v) (X7_joint v) z23_v_position z23_v_isWrong (X7_isHollow v) (X7_sure v) (X7_away v) (X7_digested v)) H := hP1
          have hD : va_D A (cX7 cy a z14_v_s (X7_aside v) (X7_kept v) (X7_isKept v) (X7_saved v) (X7_savedMany v) (X7_text v) (X7_length v) (X7_thrown v) (X7_joint v) z23_v_position z23_v_isWrong (X7_isHollow v) (X7_sure v) (X7_away v) (X7_digested v)) := hD1.weaken (fun _ q _ h => hFc q.1 h)
          refine lv_istore (lv' := [(4, .int r23), (0, .ref (a 0)), (1, .int x1), (2, .int y14_2), (3, .int y14_3)]) hx hb dX7_reads_26 hl (by decide) rfl (fun ls hl => ?_)
          refine lv_aload_n hx hb dX7_reads_28 rfl (lv_at hl 1 rfl) ?_
          refine lv_bipush (v := 58) hx hb dX7_reads_29 (by decide) ?_
          refine lv_bipush (v := 58) hx hb dX7_reads_31 (by decide) ?_
          have hFc := xfree_same hS hAe0 (ws := (cX7 cy a z14_v_s (X7_aside v) (X7_kept v) (X7_isKept v) (X7_saved v) (X7_savedMany v) (X7_text v) (X7_length v) (X7_thrown v) (X7_joint v) z23_v_position z23_v_isWrong (X7_isHollow v) (X7_sure v) (X7_away v) (X7_digested v))) hD
          refine va_calli (va_runV (As := [.int 58, .int 58]) (rest := []) ⟨hx, hb, hml, hown, hts⟩ (c_X7_takes l dC dI cy a _ (z14_v_s, (X7_aside v), (X7_kept v), (X7_isKept v), (X7_saved v), (X7_savedMany v), (X7_text v), (X7_length v), (X7_thrown v), (X7_joint v), z23_v_position, z23_v_isWrong, (X7_isHollow v), (X7_sure v), (X7_away v), (X7_digested v)) 58 58 _ hq) (cwV 2 hts gX7_reads_X7_takes rfl rfl rfl (by decide +kernel) ⟨Nat.le_of_ble_eq_true rfl, Nat.le_of_ble_eq_true rfl⟩) ⟨xPre_blind, va_recv hK hP (ci := 7) (q0 := 0) rfl rfl, xPre_of hP hK hD⟩ rfl rfl hl.1 rfl (lv_room (Nat.le_of_ble_eq_true rfl)) dX7_reads_33 ⟨Nat.le_of_ble_eq_true rfl, Nat.le_of_ble_eq_true rfl⟩) hS (fun q _ h => hFc q h) hFc (fun r33 u9 t H locs ht hvm hq hB hz1 hk1 hS => ?_)
          obtain ⟨z33_v_isWrong, z33_v_position⟩ := u9
          obtain ⟨hP1, -, hD1⟩ := hB
          rw [ht] at hP1
          have hP : va_P (dC, dI) vwCl (cX7 cy a z14_v_s (X7_aside v) (X7_kept v) (X7_isKept v) (X7_saved v) (X7_savedMany v) (X7_text v) (X7_length v) (X7_thrown v) (X7_joint v) z33_v_position z33_v_isWrong (X7_isHollow v) (X7_sure v) (X7_away v) (X7_digested v)) H := hP1
          have hD : va_D A (cX7 cy a z14_v_s (X7_aside v) (X7_kept v) (X7_isKept v) (X7_saved v) (X7_savedMany v) (X7_text v) (X7_length v) (X7_thrown v) (X7_joint v) z33_v_position z33_v_isWrong (X7_isHollow v) (X7_sure v) (X7_away v) (X7_digested v)) := hD1.weaken (fun _ q _ h => hFc q.1 h)
          refine lv_istore (lv' := [(5, .int r33), (4, .int r23), (0, .ref (a 0)), (1, .int x1), (2, .int y14_2), (3, .int y14_3)]) hx hb dX7_reads_36 hl (by decide) rfl (fun ls hl => ?_)
          refine lv_aload_n hx hb dX7_reads_38 rfl (lv_at hl 2 rfl) ?_
          refine lv_aload_n hx hb dX7_reads_39 rfl (lv_at hl 2 rfl) ?_
          refine va_get (D := (dC, dI)) (ci := 7) (v := .int z33_v_isWrong) (C := RX7) (T := TX7) (N := 16) hx hb hts iK7 hown hK hP 0 rfl rfl 11 (by decide) lk0 (fun _ h9 => h9) rfl dX7_reads_40 ?_
          obtain ⟨hqA, hqB⟩ := hq
          refine lv_if_ne (tgt := 53) hx hb dX7_reads_43 (by decide) (fun c10 => ?_) (fun c10 => ?_)
          · have hq := hqB c10
            refine lv_iconst (v := 1) hx hb dX7_reads_53 (by decide) ?_
            refine lv_goto (tgt := 58) hx hb dX7_reads_54 (by decide) ?_
            refine va_put (D := (dC, dI)) (ci := 7) (v := .int 1) (ty := .boolean) (C := RX7) (T := TX7) (N := 16) hx hb hts iK7 tyX7 tyX7_ok nmX7 hown hK hP hD hS 0 rfl rfl 11 (by decide) lk0 (fun _ h9 => h9) rfl (by decide +kernel) rfl rfl (Nat.le_of_ble_eq_true rfl) dX7_reads_58 (fun H locs hP hD hS => ?_)
            have hP : va_P (dC, dI) vwCl (cX7 cy a z14_v_s (X7_aside v) (X7_kept v) (X7_isKept v) (X7_saved v) (X7_savedMany v) (X7_text v) (X7_length v) (X7_thrown v) (X7_joint v) z33_v_position 1 (X7_isHollow v) (X7_sure v) (X7_away v) (X7_digested v)) H := hP
            have hD : va_D A (cX7 cy a z14_v_s (X7_aside v) (X7_kept v) (X7_isKept v) (X7_saved v) (X7_savedMany v) (X7_text v) (X7_length v) (X7_thrown v) (X7_joint v) z33_v_position 1 (X7_isHollow v) (X7_sure v) (X7_away v) (X7_digested v)) := hD
            exact J61 r23 1 y14_2 z33_v_position z14_v_s _ _ _ hq hP hD hS (lv_sub hl [2, 3, 4, 1] rfl)
          · have hq := hqA c10
            refine lv_aload_n hx hb dX7_reads_46 rfl (lv_at hl 2 rfl) ?_
            have hFc := xfree_same hS hAe0 (ws := (cX7 cy a z14_v_s (X7_aside v) (X7_kept v) (X7_isKept v) (X7_saved v) (X7_savedMany v) (X7_text v) (X7_length v) (X7_thrown v) (X7_joint v) z33_v_position z33_v_isWrong (X7_isHollow v) (X7_sure v) (X7_away v) (X7_digested v))) hD
            refine va_calli (va_runV (As := []) (rest := [.ref (a 0)]) ⟨hx, hb, hml, hown, hts⟩ (c_X7_isDirection l dC dI cy a _ (z14_v_s, (X7_aside v), (X7_kept v), (X7_isKept v), (X7_saved v), (X7_savedMany v), (X7_text v), (X7_length v), (X7_thrown v), (X7_joint v), z33_v_position, z33_v_isWrong, (X7_isHollow v), (X7_sure v), (X7_away v), (X7_digested v)) _ hq) (cwV 0 hts gX7_reads_X7_isDirection rfl rfl rfl (by decide +kernel) ⟨Nat.le_of_ble_eq_true rfl, Nat.le_of_ble_eq_true rfl⟩) ⟨xPre_blind, va_recv hK hP (ci := 7) (q0 := 0) rfl rfl, xPre_of hP hK hD⟩ rfl rfl hl.1 rfl (lv_room (Nat.le_of_ble_eq_true rfl)) dX7_reads_47 ⟨Nat.le_of_ble_eq_true rfl, Nat.le_of_ble_eq_true rfl⟩) hS (fun q _ h => hFc q h) hFc (fun r47 u9 t H locs ht hvm hq hB hz1 hk1 hS => ?_)
            obtain ⟨hP1, -, hD1⟩ := hB
            rw [ht] at hP1
            have hP : va_P (dC, dI) vwCl (cX7 cy a z14_v_s (X7_aside v) (X7_kept v) (X7_isKept v) (X7_saved v) (X7_savedMany v) (X7_text v) (X7_length v) (X7_thrown v) (X7_joint v) z33_v_position z33_v_isWrong (X7_isHollow v) (X7_sure v) (X7_away v) (X7_digested v)) H := hP1
            have hD : va_D A (cX7 cy a z14_v_s (X7_aside v) (X7_kept v) (X7_isKept v) (X7_saved v) (X7_savedMany v) (X7_text v) (X7_length v) (X7_thrown v) (X7_joint v) z33_v_position z33_v_isWrong (X7_isHollow v) (X7_sure v) (X7_away v) (X7_digested v)) := hD1.weaken (fun _ q _ h => hFc q.1 h)
            obtain ⟨hqA, hqB⟩ := hq
            refine lv_if_ne (tgt := 57) hx hb dX7_reads_50 (by decide) (fun c9 => ?_) (fun c9 => ?_)
            · have hq := hqB c9
              refine lv_iconst (v := 0) hx hb dX7_reads_57 (by decide) ?_
              refine va_put (D := (dC, dI)) (ci := 7) (v := .int 0) (ty := .boolean) (C := RX7) (T := TX7) (N := 16) hx hb hts iK7 tyX7 tyX7_ok nmX7 hown hK hP hD hS 0 rfl rfl 11 (by decide) lk0 (fun _ h9 => h9) rfl (by decide +kernel) rfl rfl (Nat.le_of_ble_eq_true rfl) dX7_reads_58 (fun H locs hP hD hS => ?_)
              have hP : va_P (dC, dI) vwCl (cX7 cy a z14_v_s (X7_aside v) (X7_kept v) (X7_isKept v) (X7_saved v) (X7_savedMany v) (X7_text v) (X7_length v) (X7_thrown v) (X7_joint v) z33_v_position 0 (X7_isHollow v) (X7_sure v) (X7_away v) (X7_digested v)) H := hP
              have hD : va_D A (cX7 cy a z14_v_s (X7_aside v) (X7_kept v) (X7_isKept v) (X7_saved v) (X7_savedMany v) (X7_text v) (X7_length v) (X7_thrown v) (X7_joint v) z33_v_position 0 (X7_isHollow v) (X7_sure v) (X7_away v) (X7_digested v)) := hD
              exact J61 r23 0 y14_2 z33_v_position z14_v_s _ _ _ hq hP hD hS (lv_sub hl [2, 3, 4, 1] rfl)
            · have hq := hqA c9
              refine lv_iconst (v := 1) hx hb dX7_reads_53 (by decide) ?_
              refine lv_goto (tgt := 58) hx hb dX7_reads_54 (by decide) ?_
              refine va_put (D := (dC, dI)) (ci := 7) (v := .int 1) (ty := .boolean) (C := RX7) (T := TX7) (N := 16) hx hb hts iK7 tyX7 tyX7_ok nmX7 hown hK hP hD hS 0 rfl rfl 11 (by decide) lk0 (fun _ h9 => h9) rfl (by decide +kernel) rfl rfl (Nat.le_of_ble_eq_true rfl) dX7_reads_58 (fun H locs hP hD hS => ?_)
              have hP : va_P (dC, dI) vwCl (cX7 cy a z14_v_s (X7_aside v) (X7_kept v) (X7_isKept v) (X7_saved v) (X7_savedMany v) (X7_text v) (X7_length v) (X7_thrown v) (X7_joint v) z33_v_position 1 (X7_isHollow v) (X7_sure v) (X7_away v) (X7_digested v)) H := hP
              have hD : va_D A (cX7 cy a z14_v_s (X7_aside v) (X7_kept v) (X7_isKept v) (X7_saved v) (X7_savedMany v) (X7_text v) (X7_length v) (X7_thrown v) (X7_joint v) z33_v_position 1 (X7_isHollow v) (X7_sure v) (X7_away v) (X7_digested v)) := hD
              exact J61 r23 1 y14_2 z33_v_position z14_v_s _ _ _ hq hP hD hS (lv_sub hl [2, 3, 4, 1] rfl)
    exact key _ y14_2 y14_3 z14_v_isWrong z14_v_position z14_v_s H locs ls h0 (Nat.lt_succ_self _) hP hD hS hl
  refine lv_aload_n hx hb dX7_reads_0 rfl (lv_at hl 0 rfl) ?_
  refine lv_iconst (v := 0) hx hb dX7_reads_1 (by decide) ?_
  refine va_put (D := (dC, dI)) (ci := 7) (v := .int 0) (ty := .int) (C := RX7) (T := TX7) (N := 16) hx hb hts iK7 tyX7 tyX7_ok nmX7 hown hK hP hD hS 0 rfl rfl 10 (by decide) lk1 (fun _ h9 => h9) rfl (by decide +kernel) rfl rfl (Nat.le_of_ble_eq_true rfl) dX7_reads_2 (fun H locs hP hD hS => ?_)
  have hP : va_P (dC, dI) vwCl (cX7 cy a (X7_s v) (X7_aside v) (X7_kept v) (X7_isKept v) (X7_saved v) (X7_savedMany v) (X7_text v) (X7_length v) (X7_thrown v) (X7_joint v) 0 (X7_isWrong v) (X7_isHollow v) (X7_sure v) (X7_away v) (X7_digested v)) H := hP
  have hD : va_D A (cX7 cy a (X7_s v) (X7_aside v) (X7_kept v) (X7_isKept v) (X7_saved v) (X7_savedMany v) (X7_text v) (X7_length v) (X7_thrown v) (X7_joint v) 0 (X7_isWrong v) (X7_isHollow v) (X7_sure v) (X7_away v) (X7_digested v)) := hD
  refine lv_aload_n hx hb dX7_reads_5 rfl (lv_at hl 0 rfl) ?_
  refine lv_iconst (v := 0) hx hb dX7_reads_6 (by decide) ?_
  refine va_put (D := (dC, dI)) (ci := 7) (v := .int 0) (ty := .boolean) (C := RX7) (T := TX7) (N := 16) hx hb hts iK7 tyX7 tyX7_ok nmX7 hown hK hP hD hS 0 rfl rfl 11 (by decide) lk0 (fun _ h9 => h9) rfl (by decide +kernel) rfl rfl (Nat.le_of_ble_eq_true rfl) dX7_reads_7 (fun H locs hP hD hS => ?_)
  have hP : va_P (dC, dI) vwCl (cX7 cy a (X7_s v) (X7_aside v) (X7_kept v) (X7_isKept v) (X7_saved v) (X7_savedMany v) (X7_text v) (X7_length v) (X7_thrown v) (X7_joint v) 0 0 (X7_isHollow v) (X7_sure v) (X7_away v) (X7_digested v)) H := hP
  have hD : va_D A (cX7 cy a (X7_s v) (X7_aside v) (X7_kept v) (X7_isKept v) (X7_saved v) (X7_savedMany v) (X7_text v) (X7_length v) (X7_thrown v) (X7_joint v) 0 0 (X7_isHollow v) (X7_sure v) (X7_away v) (X7_digested v)) := hD
  refine lv_iconst (v := 0) hx hb dX7_reads_10 (by decide) ?_
  refine lv_istore_n (lv' := [(2, .int 0), (0, .ref (a 0)), (1, .int x1)]) hx hb dX7_reads_11 rfl hl (by decide) rfl (fun ls hl => ?_)
  refine lv_iconst (v := 1) hx hb dX7_reads_12 (by decide) ?_
  refine lv_istore_n (lv' := [(3, .int 1), (2, .int 0), (0, .ref (a 0)), (1, .int x1)]) hx hb dX7_reads_13 rfl hl (by decide) rfl (fun ls hl => ?_)
  exact J14  0 1 0 0 (X7_s v) _ _ _ hq hP hD hS (lv_sub hl [2, 3, 1, 0] rfl)
def wp_X7_firstError (v : V_X7) (Q : Int32 → Int32 → Int32 → (Nat → Int32) → Int32 → Prop) : Prop :=
  wp_X7_reads (X7_s8 v 0) 0 (fun r7 z7_v_isWrong z7_v_position z7_v_s =>
  ((z7_v_isWrong = 0 → Q (X7_length v) z7_v_isWrong z7_v_position z7_v_s 0) ∧
  (¬ z7_v_isWrong = 0 → Q z7_v_position z7_v_isWrong z7_v_position z7_v_s 0)))
def q_X7_firstError (dC : Nat → ClassId) (dI : Nat → Nat → Nat) (cy : Nat → ClassId) (a : Nat → Nat) (v : V_X7) (Q : Int32 → Int32 → Int32 → (Nat → Int32) → Int32 → Prop) (A : Nat → Prop) : Array Value → State → Outcome → State → Prop := va_Qi (fun (r : Int32) (u : Int32 × Int32 × (Nat → Int32) × Int32) => Q r u.1 u.2.1 u.2.2.1 u.2.2.2) (fun (u : Int32 × Int32 × (Nat → Int32) × Int32) t => xAt dC dI cy A (cX7 cy a u.2.2.1 (X7_aside v) (X7_kept v) (X7_isKept v) (X7_saved v) (X7_savedMany v) (X7_text v) (X7_length v) u.2.2.2 (X7_joint v) u.2.1 u.1 (X7_isHollow v) (X7_sure v) (X7_away v) (X7_digested v)) t) A
set_option maxHeartbeats 4000000 in
set_option maxRecDepth 100000 in
theorem c_X7_firstError (l : Launch) (dC : Nat → ClassId) (dI : Nat → Nat → Nat) (cy : Nat → ClassId) (a : Nat → Nat) (sz : Nat) (v : V_X7) (Q : Int32 → Int32 → Int32 → (Nat → Int32) → Int32 → Prop) (hq : wp_X7_firstError v Q) : Met l yX7_firstError wsX7_firstError ({ frames := 4, cells := 0, slots := 0, locals := 92 } : Room) (va_Pc [.ref (a 0)] (xPre dC dI cy (wX7 cy a v) sz)) (q_X7_firstError dC dI cy a v Q (va_A (wX7 cy a v) sz)) 0 0 (va_A (wX7 cy a v) sz) := by
  refine Met.ofW (cc := cX7_firstError) (maxL := 2) (ret := (some .int)) (by decide) rfl ?_
  intro p e s m args below meth c s₁ B hml hv
  obtain ⟨rfl, hsz, hP, hK, hD0⟩ := hv
  have hx := B.exec
  have hb := B.bytes
  have hr := B.returns
  have hts := atoms_spec (ws := wsX7_firstError) B.pre
  have hown : s.vm.findClass RX7 = some m.cls := findClass_of_methodNamed B.named
  have hlocks := B.notSynchronized
  subst hsz
  have hD := hD0.self (sz := s.heap.size)
  generalize hAe : va_A (wX7 cy a v) s.heap.size = A at hD ⊢
  have hAe0 : ∀ q : Nat, s.heap.size ≤ q → A q := fun q h => by rw [← hAe]; exact Or.inr h
  have hS : va_S A s.heap s.heap [] := va_S.rf
  have hl := lv_entry ([.ref (a 0)]) (n := 2) (Nat.le_of_ble_eq_true rfl)
  rw [lg_entry_eq]
  generalize (lg_sl ([.ref (a 0)]) ++ List.replicate (2 - (lg_sl ([.ref (a 0)])).length) Slot.unset).toArray = ls at hl ⊢
  have hl : lv_has ls 2 [(0, .ref (a 0))] := hl
  have lk0 := hts (Cond.fieldLink RX7 38 "MolesLawnModel" "thrown" "I") (List.mem_cons_of_mem _ (List.mem_append_left _ (List.mem_append_left _ (List.mem_of_getElem? (i := 0) rfl))))
  have lk1 := hts (Cond.fieldLink RX7 170 "MolesLawnModel" "isWrong" "Z") (List.mem_cons_of_mem _ (List.mem_append_left _ (List.mem_append_left _ (List.mem_of_getElem? (i := 1) rfl))))
  have lk2 := hts (Cond.fieldLink RX7 167 "MolesLawnModel" "length" "I") (List.mem_cons_of_mem _ (List.mem_append_left _ (List.mem_append_left _ (List.mem_of_getElem? (i := 3) rfl))))
  have lk3 := hts (Cond.fieldLink RX7 174 "MolesLawnModel" "position" "I") (List.mem_cons_of_mem _ (List.mem_append_left _ (List.mem_append_left _ (List.mem_of_getElem? (i := 2) rfl))))
  have iK7 : ∀ w ∈ wsX70, w ∈ wsX7_firstError := fun _ h => (List.mem_cons_of_mem _ (List.mem_append_right _ h))
  unfold wp_X7_firstError at hq
  refine lv_aload_n hx hb dX7_firstError_0 rfl (lv_at hl 0 rfl) ?_
  refine lv_iconst (v := 0) hx hb dX7_firstError_1 (by decide) ?_
  refine va_put (D := (dC, dI)) (ci := 7) (v := .int 0) (ty := .int) (C := RX7) (T := TX7) (N := 16) hx hb hts iK7 tyX7 tyX7_ok nmX7 hown hK hP hD hS 0 rfl rfl 8 (by decide) lk0 (fun _ h9 => h9) rfl (by decide +kernel) rfl rfl (Nat.le_of_ble_eq_true rfl) dX7_firstError_2 (fun H locs hP hD hS => ?_)
  have hP : va_P (dC, dI) vwCl (cX7 cy a (X7_s v) (X7_aside v) (X7_kept v) (X7_isKept v) (X7_saved v) (X7_savedMany v) (X7_text v) (X7_length v) 0 (X7_joint v) (X7_position v) (X7_isWrong v) (X7_isHollow v) (X7_sure v) (X7_away v) (X7_digested v)) H := hP
  have hD : va_D A (cX7 cy a (X7_s v) (X7_aside v) (X7_kept v) (X7_isKept v) (X7_saved v) (X7_savedMany v) (X7_text v) (X7_length v) 0 (X7_joint v) (X7_position v) (X7_isWrong v) (X7_isHollow v) (X7_sure v) (X7_away v) (X7_digested v)) := hD
  refine lv_aload_n hx hb dX7_firstError_5 rfl (lv_at hl 0 rfl) ?_
  refine lv_iconst (v := 0) hx hb dX7_firstError_6 (by decide) ?_
  have hFc := xfree_same hS hAe0 (ws := (cX7 cy a (X7_s v) (X7_aside v) (X7_kept v) (X7_isKept v) (X7_saved v) (X7_savedMany v) (X7_text v) (X7_length v) 0 (X7_joint v) (X7_position v) (X7_isWrong v) (X7_isHollow v) (X7_sure v) (X7_away v) (X7_digested v))) hD
  refine va_calli (va_runV (As := [.int 0]) (rest := []) ⟨hx, hb, hml, hown, hts⟩ (c_X7_reads l dC dI cy a _ (X7_s8 v 0) 0 _ hq) (cwV 1 hts gX7_firstError_X7_reads rfl rfl rfl (by decide +kernel) ⟨Nat.le_of_ble_eq_true rfl, Nat.le_of_ble_eq_true rfl⟩) ⟨xPre_blind, va_recv hK hP (ci := 7) (q0 := 0) rfl rfl, xPre_of hP hK hD⟩ rfl rfl hl.1 rfl (lv_room (Nat.le_of_ble_eq_true rfl)) dX7_firstError_7 ⟨Nat.le_of_ble_eq_true rfl, Nat.le_of_ble_eq_true rfl⟩) hS (fun q _ h => hFc q h) hFc (fun r7 u9 t H locs ht hvm hq hB hz1 hk1 hS => ?_)
  obtain ⟨z7_v_isWrong, z7_v_position, z7_v_s⟩ := u9
  obtain ⟨hP1, -, hD1⟩ := hB
  rw [ht] at hP1
  have hP : va_P (dC, dI) vwCl (cX7 cy a z7_v_s (X7_aside v) (X7_kept v) (X7_isKept v) (X7_saved v) (X7_savedMany v) (X7_text v) (X7_length v) 0 (X7_joint v) z7_v_position z7_v_isWrong (X7_isHollow v) (X7_sure v) (X7_away v) (X7_digested v)) H := hP1
  have hD : va_D A (cX7 cy a z7_v_s (X7_aside v) (X7_kept v) (X7_isKept v) (X7_saved v) (X7_savedMany v) (X7_text v) (X7_length v) 0 (X7_joint v) z7_v_position z7_v_isWrong (X7_isHollow v) (X7_sure v) (X7_away v) (X7_digested v)) := hD1.weaken (fun _ q _ h => hFc q.1 h)
  refine lv_istore_n (lv' := [(1, .int r7), (0, .ref (a 0))]) hx hb dX7_firstError_10 rfl hl (by decide) rfl (fun ls hl => ?_)
  refine lv_aload_n hx hb dX7_firstError_11 rfl (lv_at hl 1 rfl) ?_
  refine va_get (D := (dC, dI)) (ci := 7) (v := .int z7_v_isWrong) (C := RX7) (T := TX7) (N := 16) hx hb hts iK7 hown hK hP 0 rfl rfl 11 (by decide) lk1 (fun _ h9 => h9) rfl dX7_firstError_12 ?_
  obtain ⟨hqA, hqB⟩ := hq
  refine lv_if_eq (tgt := 25) hx hb dX7_firstError_15 (by decide) (fun c1 => ?_) (fun c1 => ?_)
  · have hq := hqA c1
    refine lv_aload_n hx hb dX7_firstError_25 rfl (lv_at hl 1 rfl) ?_
    refine va_get (D := (dC, dI)) (ci := 7) (v := .int (X7_length v)) (C := RX7) (T := TX7) (N := 16) hx hb hts iK7 hown hK hP 0 rfl rfl 7 (by decide) lk2 (fun _ h9 => h9) rfl dX7_firstError_26 ?_
    exact W.iret (v := (X7_length v)) hx hb hr (fun t ht hW => ⟨⟨(X7_length v), (z7_v_isWrong, z7_v_position, z7_v_s, 0), rfl, hq, (xAt_of hP hK hD ht hW)⟩, hS.F ht⟩) hS.2.2 dX7_firstError_29
  · have hq := hqB c1
    refine lv_aload_n hx hb dX7_firstError_18 rfl (lv_at hl 1 rfl) ?_
    refine va_get (D := (dC, dI)) (ci := 7) (v := .int z7_v_position) (C := RX7) (T := TX7) (N := 16) hx hb hts iK7 hown hK hP 0 rfl rfl 10 (by decide) lk3 (fun _ h9 => h9) rfl dX7_firstError_19 ?_
    refine lv_goto (tgt := 29) hx hb dX7_firstError_22 (by decide) ?_
    exact W.iret (v := z7_v_position) hx hb hr (fun t ht hW => ⟨⟨z7_v_position, (z7_v_isWrong, z7_v_position, z7_v_s, 0), rfl, hq, (xAt_of hP hK hD ht hW)⟩, hS.F ht⟩) hS.2.2 dX7_firstError_29
def wp_X7_plans_19 (v : V_X7) (z19_v_isWrong : Int32) (z19_v_position : Int32) (z19_v_s : (Nat → Int32)) (k19_0 : Int32) (Q : Int32 → Int32 → Int32 → Int32 → (Nat → Int32) → (Nat → Int32) → Int32 → Int32 → Prop) : Prop :=
  wp_X7_holds (z19_v_s, (X7_aside v), (X7_kept v), (X7_isKept v), (X7_saved v), (X7_savedMany v), (X7_text v), (X7_length v), (X7_thrown v), (X7_joint v), z19_v_position, z19_v_isWrong, (X7_isHollow v), (X7_sure v), (X7_away v), (X7_digested v)) k19_0 (fun r19 z19_v_thrown =>
  ((r19 = 0 → Q 0 z19_v_isWrong (X7_length v) z19_v_position z19_v_s (X7_saved v) (X7_savedMany v) z19_v_thrown) ∧
  (¬ r19 = 0 → wp_X7_save (z19_v_s, (X7_aside v), (X7_kept v), (X7_isKept v), (X7_saved v), (X7_savedMany v), (X7_text v), (X7_length v), z19_v_thrown, (X7_joint v), z19_v_position, z19_v_isWrong, (X7_isHollow v), (X7_sure v), (X7_away v), (X7_digested v)) (fun z28_v_saved z28_v_savedMany =>
  wp_X7_reads (z19_v_s, (X7_aside v), (X7_kept v), (X7_isKept v), z28_v_saved, z28_v_savedMany, (X7_text v), (X7_length v), z19_v_thrown, (X7_joint v), z19_v_position, z19_v_isWrong, (X7_isHollow v), (X7_sure v), (X7_away v), (X7_digested v)) 1 (fun r33 z33_v_isWrong z33_v_position z33_v_s =>
  Q r33 z33_v_isWrong 0 z33_v_position z33_v_s z28_v_saved z28_v_savedMany z19_v_thrown)))))
def wp_X7_plans (v : V_X7) (Q : Int32 → Int32 → Int32 → Int32 → (Nat → Int32) → (Nat → Int32) → Int32 → Int32 → Prop) : Prop :=
  wp_X7_reads v 0 (fun r2 z2_v_isWrong z2_v_position z2_v_s =>
  ((z2_v_isWrong = 0 → wp_X7_plans_19 v z2_v_isWrong z2_v_position z2_v_s 0  Q) ∧
  (¬ z2_v_isWrong = 0 → wp_X7_plans_19 v z2_v_isWrong z2_v_position z2_v_s 1  Q)))
def q_X7_plans (dC : Nat → ClassId) (dI : Nat → Nat → Nat) (cy : Nat → ClassId) (a : Nat → Nat) (v : V_X7) (Q : Int32 → Int32 → Int32 → Int32 → (Nat → Int32) → (Nat → Int32) → Int32 → Int32 → Prop) (A : Nat → Prop) : Array Value → State → Outcome → State → Prop := va_Qi (fun (r : Int32) (u : Int32 × Int32 × Int32 × (Nat → Int32) × (Nat → Int32) × Int32 × Int32) => Q r u.1 u.2.1 u.2.2.1 u.2.2.2.1 u.2.2.2.2.1 u.2.2.2.2.2.1 u.2.2.2.2.2.2) (fun (u : Int32 × Int32 × Int32 × (Nat → Int32) × (Nat → Int32) × Int32 × Int32) t => xAt dC dI cy A (cX7 cy a u.2.2.2.1 (X7_aside v) (X7_kept v) (X7_isKept v) u.2.2.2.2.1 u.2.2.2.2.2.1 (X7_text v) u.2.1 u.2.2.2.2.2.2 (X7_joint v) u.2.2.1 u.1 (X7_isHollow v) (X7_sure v) (X7_away v) (X7_digested v)) t) A
set_option maxHeartbeats 4000000 in
set_option maxRecDepth 100000 in
theorem c_X7_plans (l : Launch) (dC : Nat → ClassId) (dI : Nat → Nat → Nat) (cy : Nat → ClassId) (a : Nat → Nat) (sz : Nat) (v : V_X7) (Q : Int32 → Int32 → Int32 → Int32 → (Nat → Int32) → (Nat → Int32) → Int32 → Int32 → Prop) (hq : wp_X7_plans v Q) : Met l yX7_plans wsX7_plans ({ frames := 4, cells := 0, slots := 0, locals := 92 } : Room) (va_Pc [.ref (a 0)] (xPre dC dI cy (wX7 cy a v) sz)) (q_X7_plans dC dI cy a v Q (va_A (wX7 cy a v) sz)) 0 0 (va_A (wX7 cy a v) sz) := by
  refine Met.ofW (cc := cX7_plans) (maxL := 3) (ret := (some .int)) (by decide) rfl ?_
  intro p e s m args below meth c s₁ B hml hv
  obtain ⟨rfl, hsz, hP, hK, hD0⟩ := hv
  have hx := B.exec
  have hb := B.bytes
  have hr := B.returns
  have hts := atoms_spec (ws := wsX7_plans) B.pre
  have hown : s.vm.findClass RX7 = some m.cls := findClass_of_methodNamed B.named
  have hlocks := B.notSynchronized
  subst hsz
  have hD := hD0.self (sz := s.heap.size)
  generalize hAe : va_A (wX7 cy a v) s.heap.size = A at hD ⊢
  have hAe0 : ∀ q : Nat, s.heap.size ≤ q → A q := fun q h => by rw [← hAe]; exact Or.inr h
  have hS : va_S A s.heap s.heap [] := va_S.rf
  have hl := lv_entry ([.ref (a 0)]) (n := 3) (Nat.le_of_ble_eq_true rfl)
  rw [lg_entry_eq]
  generalize (lg_sl ([.ref (a 0)]) ++ List.replicate (3 - (lg_sl ([.ref (a 0)])).length) Slot.unset).toArray = ls at hl ⊢
  have hl : lv_has ls 3 [(0, .ref (a 0))] := hl
  have lk0 := hts (Cond.fieldLink RX7 167 "MolesLawnModel" "length" "I") (List.mem_cons_of_mem _ (List.mem_append_left _ (List.mem_append_left _ (List.mem_of_getElem? (i := 1) rfl))))
  have lk1 := hts (Cond.fieldLink RX7 170 "MolesLawnModel" "isWrong" "Z") (List.mem_cons_of_mem _ (List.mem_append_left _ (List.mem_append_left _ (List.mem_of_getElem? (i := 0) rfl))))
  have iK7 : ∀ w ∈ wsX70, w ∈ wsX7_plans := fun _ h => (List.mem_cons_of_mem _ (List.mem_append_right _ h))
  unfold wp_X7_plans at hq
  have J19 : ∀ (z19_v_isWrong : Int32) (z19_v_position : Int32) (z19_v_s : (Nat → Int32)) (k19_0 : Int32) (H : Heap) (locs : List Loc) (ls : Array Slot), wp_X7_plans_19 v z19_v_isWrong z19_v_position z19_v_s k19_0 Q → va_P (dC, dI) vwCl (cX7 cy a z19_v_s (X7_aside v) (X7_kept v) (X7_isKept v) (X7_saved v) (X7_savedMany v) (X7_text v) (X7_length v) (X7_thrown v) (X7_joint v) z19_v_position z19_v_isWrong (X7_isHollow v) (X7_sure v) (X7_away v) (X7_digested v)) H → va_D A (cX7 cy a z19_v_s (X7_aside v) (X7_kept v) (X7_isKept v) (X7_saved v) (X7_savedMany v) (X7_text v) (X7_length v) (X7_thrown v) (X7_joint v) z19_v_position z19_v_isWrong (X7_isHollow v) (X7_sure v) (X7_away v) (X7_digested v)) → va_S A s.heap H locs → lv_has ls 3 [(0, .ref (a 0))] → W p l e (headSpec wsX7_plans ({ frames := 4, cells := 0, slots := 0, locals := 92 } : Room)).room s m ([.ref (a 0)] : List Value).toArray below meth c H locs 0 0 (MQ below (q_X7_plans dC dI cy a v Q A) ([.ref (a 0)] : List Value).toArray s 0 0 A) (F0 m 19 ls [.int k19_0, .ref (a 0)]) := by
    intro z19_v_isWrong z19_v_position z19_v_s k19_0 H locs ls hq hP hD hS hl
    unfold wp_X7_plans_19 at hq
    have hFc := xfree_same hS hAe0 (ws := (cX7 cy a z19_v_s (X7_aside v) (X7_kept v) (X7_isKept v) (X7_saved v) (X7_savedMany v) (X7_text v) (X7_length v) (X7_thrown v) (X7_joint v) z19_v_position z19_v_isWrong (X7_isHollow v) (X7_sure v) (X7_away v) (X7_digested v))) hD
    refine va_calli (va_runV (As := [.int k19_0]) (rest := []) ⟨hx, hb, hml, hown, hts⟩ (c_X7_holds l dC dI cy a _ (z19_v_s, (X7_aside v), (X7_kept v), (X7_isKept v), (X7_saved v), (X7_savedMany v), (X7_text v), (X7_length v), (X7_thrown v), (X7_joint v), z19_v_position, z19_v_isWrong, (X7_isHollow v), (X7_sure v), (X7_away v), (X7_digested v)) k19_0 _ hq) (cwV 1 hts gX7_plans_X7_holds rfl rfl rfl (by decide +kernel) ⟨Nat.le_of_ble_eq_true rfl, Nat.le_of_ble_eq_true rfl⟩) ⟨xPre_blind, va_recv hK hP (ci := 7) (q0 := 0) rfl rfl, xPre_of hP hK hD⟩ rfl rfl hl.1 rfl (lv_room (Nat.le_of_ble_eq_true rfl)) dX7_plans_19 ⟨Nat.le_of_ble_eq_true rfl, Nat.le_of_ble_eq_true rfl⟩) hS (fun q _ h => hFc q h) hFc (fun r19 z19_v_thrown t H locs ht hvm hq hB hz1 hk1 hS => ?_)
    obtain ⟨hP1, -, hD1⟩ := hB
    rw [ht] at hP1
    have hP : va_P (dC, dI) vwCl (cX7 cy a z19_v_s (X7_aside v) (X7_kept v) (X7_isKept v) (X7_saved v) (X7_savedMany v) (X7_text v) (X7_length v) z19_v_thrown (X7_joint v) z19_v_position z19_v_isWrong (X7_isHollow v) (X7_sure v) (X7_away v) (X7_digested v)) H := hP1
    have hD : va_D A (cX7 cy a z19_v_s (X7_aside v) (X7_kept v) (X7_isKept v) (X7_saved v) (X7_savedMany v) (X7_text v) (X7_length v) z19_v_thrown (X7_joint v) z19_v_position z19_v_isWrong (X7_isHollow v) (X7_sure v) (X7_away v) (X7_digested v)) := hD1.weaken (fun _ q _ h => hFc q.1 h)
    obtain ⟨hqA, hqB⟩ := hq
    refine lv_if_ne (tgt := 27) hx hb dX7_plans_22 (by decide) (fun c1 => ?_) (fun c1 => ?_)
    · have hq := hqB c1
      refine lv_aload_n hx hb dX7_plans_27 rfl (lv_at hl 0 rfl) ?_
      have hFc := xfree_same hS hAe0 (ws := (cX7 cy a z19_v_s (X7_aside v) (X7_kept v) (X7_isKept v) (X7_saved v) (X7_savedMany v) (X7_text v) (X7_length v) z19_v_thrown (X7_joint v) z19_v_position z19_v_isWrong (X7_isHollow v) (X7_sure v) (X7_away v) (X7_digested v))) hD
      refine va_callv (va_runV (As := []) (rest := []) ⟨hx, hb, hml, hown, hts⟩ (c_X7_save l dC dI cy a _ (z19_v_s, (X7_aside v), (X7_kept v), (X7_isKept v), (X7_saved v), (X7_savedMany v), (X7_text v), (X7_length v), z19_v_thrown, (X7_joint v), z19_v_position, z19_v_isWrong, (X7_isHollow v), (X7_sure v), (X7_away v), (X7_digested v)) _ hq) (cwV 0 hts gX7_plans_X7_save rfl rfl rfl (by decide +kernel) ⟨Nat.le_of_ble_eq_true rfl, Nat.le_of_ble_eq_true rfl⟩) ⟨xPre_blind, va_recv hK hP (ci := 7) (q0 := 0) rfl rfl, xPre_of hP hK hD⟩ rfl rfl hl.1 rfl (lv_room (Nat.le_of_ble_eq_true rfl)) dX7_plans_28 ⟨Nat.le_of_ble_eq_true rfl, Nat.le_of_ble_eq_true rfl⟩) hS (fun q _ h => hFc q h) hFc (fun u9 t H locs ht hvm hq hB hz1 hk1 hS => ?_)
      obtain ⟨z28_v_saved, z28_v_savedMany⟩ := u9
      obtain ⟨hP1, -, hD1⟩ := hB
      rw [ht] at hP1
      have hP : va_P (dC, dI) vwCl (cX7 cy a z19_v_s (X7_aside v) (X7_kept v) (X7_isKept v) z28_v_saved z28_v_savedMany (X7_text v) (X7_length v) z19_v_thrown (X7_joint v) z19_v_position z19_v_isWrong (X7_isHollow v) (X7_sure v) (X7_away v) (X7_digested v)) H := hP1
      have hD : va_D A (cX7 cy a z19_v_s (X7_aside v) (X7_kept v) (X7_isKept v) z28_v_saved z28_v_savedMany (X7_text v) (X7_length v) z19_v_thrown (X7_joint v) z19_v_position z19_v_isWrong (X7_isHollow v) (X7_sure v) (X7_away v) (X7_digested v)) := hD1.weaken (fun _ q _ h => hFc q.1 h)
      refine lv_aload_n hx hb dX7_plans_31 rfl (lv_at hl 0 rfl) ?_
      refine lv_iconst (v := 1) hx hb dX7_plans_32 (by decide) ?_
      have hFc := xfree_same hS hAe0 (ws := (cX7 cy a z19_v_s (X7_aside v) (X7_kept v) (X7_isKept v) z28_v_saved z28_v_savedMany (X7_text v) (X7_length v) z19_v_thrown (X7_joint v) z19_v_position z19_v_isWrong (X7_isHollow v) (X7_sure v) (X7_away v) (X7_digested v))) hD
      refine va_calli (va_runV (As := [.int 1]) (rest := []) ⟨hx, hb, hml, hown, hts⟩ (c_X7_reads l dC dI cy a _ (z19_v_s, (X7_aside v), (X7_kept v), (X7_isKept v), z28_v_saved, z28_v_savedMany, (X7_text v), (X7_length v), z19_v_thrown, (X7_joint v), z19_v_position, z19_v_isWrong, (X7_isHollow v), (X7_sure v), (X7_away v), (X7_digested v)) 1 _ hq) (cwV 1 hts gX7_plans_X7_reads rfl rfl rfl (by decide +kernel) ⟨Nat.le_of_ble_eq_true rfl, Nat.le_of_ble_eq_true rfl⟩) ⟨xPre_blind, va_recv hK hP (ci := 7) (q0 := 0) rfl rfl, xPre_of hP hK hD⟩ rfl rfl hl.1 rfl (lv_room (Nat.le_of_ble_eq_true rfl)) dX7_plans_33 ⟨Nat.le_of_ble_eq_true rfl, Nat.le_of_ble_eq_true rfl⟩) hS (fun q _ h => hFc q h) hFc (fun r33 u9 t H locs ht hvm hq hB hz1 hk1 hS => ?_)
      obtain ⟨z33_v_isWrong, z33_v_position, z33_v_s⟩ := u9
      obtain ⟨hP1, -, hD1⟩ := hB
      rw [ht] at hP1
      have hP : va_P (dC, dI) vwCl (cX7 cy a z33_v_s (X7_aside v) (X7_kept v) (X7_isKept v) z28_v_saved z28_v_savedMany (X7_text v) (X7_length v) z19_v_thrown (X7_joint v) z33_v_position z33_v_isWrong (X7_isHollow v) (X7_sure v) (X7_away v) (X7_digested v)) H := hP1
      have hD : va_D A (cX7 cy a z33_v_s (X7_aside v) (X7_kept v) (X7_isKept v) z28_v_saved z28_v_savedMany (X7_text v) (X7_length v) z19_v_thrown (X7_joint v) z33_v_position z33_v_isWrong (X7_isHollow v) (X7_sure v) (X7_away v) (X7_digested v)) := hD1.weaken (fun _ q _ h => hFc q.1 h)
      refine lv_istore_n (lv' := [(2, .int r33), (0, .ref (a 0))]) hx hb dX7_plans_36 rfl hl (by decide) rfl (fun ls hl => ?_)
      refine lv_aload_n hx hb dX7_plans_37 rfl (lv_at hl 1 rfl) ?_
      refine lv_iconst (v := 0) hx hb dX7_plans_38 (by decide) ?_
      refine va_put (D := (dC, dI)) (ci := 7) (v := .int 0) (ty := .int) (C := RX7) (T := TX7) (N := 16) hx hb hts iK7 tyX7 tyX7_ok nmX7 hown hK hP hD hS 0 rfl rfl 7 (by decide) lk0 (fun _ h9 => h9) rfl (by decide +kernel) rfl rfl (Nat.le_of_ble_eq_true rfl) dX7_plans_39 (fun H locs hP hD hS => ?_)
      have hP : va_P (dC, dI) vwCl (cX7 cy a z33_v_s (X7_aside v) (X7_kept v) (X7_isKept v) z28_v_saved z28_v_savedMany (X7_text v) 0 z19_v_thrown (X7_joint v) z33_v_position z33_v_isWrong (X7_isHollow v) (X7_sure v) (X7_away v) (X7_digested v)) H := hP
      have hD : va_D A (cX7 cy a z33_v_s (X7_aside v) (X7_kept v) (X7_isKept v) z28_v_saved z28_v_savedMany (X7_text v) 0 z19_v_thrown (X7_joint v) z33_v_position z33_v_isWrong (X7_isHollow v) (X7_sure v) (X7_away v) (X7_digested v)) := hD
      refine lv_iload_n hx hb dX7_plans_42 rfl (lv_at hl 0 rfl) ?_
      exact W.iret (v := r33) hx hb hr (fun t ht hW => ⟨⟨r33, (z33_v_isWrong, 0, z33_v_position, z33_v_s, z28_v_saved, z28_v_savedMany, z19_v_thrown), rfl, hq, (xAt_of hP hK hD ht hW)⟩, hS.F ht⟩) hS.2.2 dX7_plans_43
    · have hq := hqA c1
      refine lv_iconst (v := 0) hx hb dX7_plans_25 (by decide) ?_
      exact W.iret (v := 0) hx hb hr (fun t ht hW => ⟨⟨0, (z19_v_isWrong, (X7_length v), z19_v_position, z19_v_s, (X7_saved v), (X7_savedMany v), z19_v_thrown), rfl, hq, (xAt_of hP hK hD ht hW)⟩, hS.F ht⟩) hS.2.2 dX7_plans_26
  refine lv_aload_n hx hb dX7_plans_0 rfl (lv_at hl 0 rfl) ?_
  refine lv_iconst (v := 0) hx hb dX7_plans_1 (by decide) ?_
  have hFc := xfree_same hS hAe0 (ws := (wX7 cy a v)) hD
  refine va_calli (va_runV (As := [.int 0]) (rest := []) ⟨hx, hb, hml, hown, hts⟩ (c_X7_reads l dC dI cy a _ v 0 _ hq) (cwV 1 hts gX7_plans_X7_reads rfl rfl rfl (by decide +kernel) ⟨Nat.le_of_ble_eq_true rfl, Nat.le_of_ble_eq_true rfl⟩) ⟨xPre_blind, va_recv hK hP (ci := 7) (q0 := 0) rfl rfl, xPre_of hP hK hD⟩ rfl rfl hl.1 rfl (lv_room (Nat.le_of_ble_eq_true rfl)) dX7_plans_2 ⟨Nat.le_of_ble_eq_true rfl, Nat.le_of_ble_eq_true rfl⟩) hS (fun q _ h => hFc q h) hFc (fun r2 u9 t H locs ht hvm hq hB hz1 hk1 hS => ?_)
  obtain ⟨z2_v_isWrong, z2_v_position, z2_v_s⟩ := u9
  obtain ⟨hP1, -, hD1⟩ := hB
  rw [ht] at hP1
  have hP : va_P (dC, dI) vwCl (cX7 cy a z2_v_s (X7_aside v) (X7_kept v) (X7_isKept v) (X7_saved v) (X7_savedMany v) (X7_text v) (X7_length v) (X7_thrown v) (X7_joint v) z2_v_position z2_v_isWrong (X7_isHollow v) (X7_sure v) (X7_away v) (X7_digested v)) H := hP1
  have hD : va_D A (cX7 cy a z2_v_s (X7_aside v) (X7_kept v) (X7_isKept v) (X7_saved v) (X7_savedMany v) (X7_text v) (X7_length v) (X7_thrown v) (X7_joint v) z2_v_position z2_v_isWrong (X7_isHollow v) (X7_sure v) (X7_away v) (X7_digested v)) := hD1.weaken (fun _ q _ h => hFc q.1 h)
  refine lv_istore_n (lv' := [(1, .int r2), (0, .ref (a 0))]) hx hb dX7_plans_5 rfl hl (by decide) rfl (fun ls hl => ?_)
  refine lv_aload_n hx hb dX7_plans_6 rfl (lv_at hl 1 rfl) ?_
  refine lv_aload_n hx hb dX7_plans_7 rfl (lv_at hl 1 rfl) ?_
  refine va_get (D := (dC, dI)) (ci := 7) (v := .int z2_v_isWrong) (C := RX7) (T := TX7) (N := 16) hx hb hts iK7 hown hK hP 0 rfl rfl 11 (by decide) lk1 (fun _ h9 => h9) rfl dX7_plans_8 ?_
  obtain ⟨hqA, hqB⟩ := hq
  refine lv_if_eq (tgt := 18) hx hb dX7_plans_11 (by decide) (fun c2 => ?_) (fun c2 => ?_)
  · have hq := hqA c2
    refine lv_iconst (v := 0) hx hb dX7_plans_18 (by decide) ?_
    exact J19 z2_v_isWrong z2_v_position z2_v_s 0  _ _ _ hq hP hD hS (lv_sub hl [1] rfl)
  · have hq := hqB c2
    refine lv_iconst (v := 1) hx hb dX7_plans_14 (by decide) ?_
    refine lv_goto (tgt := 19) hx hb dX7_plans_15 (by decide) ?_
    exact J19 z2_v_isWrong z2_v_position z2_v_s 1  _ _ _ hq hP hD hS (lv_sub hl [1] rfl)
def wb_X7_undo_33 (v : V_X7) (z33_v_savedMany : Int32) (z33_v_thrown : Int32) (y33_1 : Int32) (z33_v_s : (Nat → Int32)) (B33 : Int32 → (Nat → Int32) → Prop) (Q : Int32 → (Nat → Int32) → Int32 → Int32 → Prop) : Prop :=
  ((1472 ≤ y33_1 → Q z33_v_savedMany z33_v_s z33_v_savedMany z33_v_thrown) ∧
  (¬ 1472 ≤ y33_1 → vp_in ((1472 * z33_v_savedMany) + y33_1) 8832 ∧ vp_in y33_1 1472 ∧ B33 (y33_1 + 1) (upd z33_v_s y33_1.toNatClampNeg ((X7_saved v) ((1472 * z33_v_savedMany) + y33_1).toNatClampNeg))))
def wp_X7_undo_33 (v : V_X7) (z33_v_savedMany : Int32) (z33_v_thrown : Int32) (y33_1 : Int32) (z33_v_s : (Nat → Int32)) (Q : Int32 → (Nat → Int32) → Int32 → Int32 → Prop) : Prop :=
  ∃ (I : Int32 → (Nat → Int32) → Prop) (μ : Int32 → (Nat → Int32) → Nat), I y33_1 z33_v_s ∧ ∀ (s0 : Int32) (s1 : (Nat → Int32)), I s0 s1 → wb_X7_undo_33 v z33_v_savedMany z33_v_thrown s0 s1 (fun t0 t1 => I t0 t1 ∧ μ t0 t1 < μ s0 s1) Q
def wp_X7_undo_13 (v : V_X7) (k13_0 : Int32) (Q : Int32 → (Nat → Int32) → Int32 → Int32 → Prop) : Prop :=
  wp_X7_holds v k13_0 (fun r13 z13_v_thrown =>
  ((r13 = 0 → Q 0 (X7_s v) (X7_savedMany v) z13_v_thrown) ∧
  (¬ r13 = 0 → wp_X7_undo_33 v ((X7_savedMany v) - 1) z13_v_thrown 0 (X7_s v) Q)))
def wp_X7_undo (v : V_X7) (Q : Int32 → (Nat → Int32) → Int32 → Int32 → Prop) : Prop :=
  (((X7_savedMany v) ≤ 0 → wp_X7_undo_13 v 1  Q) ∧
  (¬ (X7_savedMany v) ≤ 0 → wp_X7_undo_13 v 0  Q))
def q_X7_undo (dC : Nat → ClassId) (dI : Nat → Nat → Nat) (cy : Nat → ClassId) (a : Nat → Nat) (v : V_X7) (Q : Int32 → (Nat → Int32) → Int32 → Int32 → Prop) (A : Nat → Prop) : Array Value → State → Outcome → State → Prop := va_Qi (fun (r : Int32) (u : (Nat → Int32) × Int32 × Int32) => Q r u.1 u.2.1 u.2.2) (fun (u : (Nat → Int32) × Int32 × Int32) t => xAt dC dI cy A (cX7 cy a u.1 (X7_aside v) (X7_kept v) (X7_isKept v) (X7_saved v) u.2.1 (X7_text v) (X7_length v) u.2.2 (X7_joint v) (X7_position v) (X7_isWrong v) (X7_isHollow v) (X7_sure v) (X7_away v) (X7_digested v)) t) A
set_option maxHeartbeats 4000000 in
set_option maxRecDepth 100000 in
theorem c_X7_undo (l : Launch) (dC : Nat → ClassId) (dI : Nat → Nat → Nat) (cy : Nat → ClassId) (a : Nat → Nat) (sz : Nat) (v : V_X7) (Q : Int32 → (Nat → Int32) → Int32 → Int32 → Prop) (hq : wp_X7_undo v Q) : Met l yX7_undo wsX7_undo ({ frames := 1, cells := 0, slots := 0, locals := 21 } : Room) (va_Pc [.ref (a 0)] (xPre dC dI cy (wX7 cy a v) sz)) (q_X7_undo dC dI cy a v Q (va_A (wX7 cy a v) sz)) 0 0 (va_A (wX7 cy a v) sz) := by
  refine Met.ofW (cc := cX7_undo) (maxL := 2) (ret := (some .int)) (by decide) rfl ?_
  intro p e s m args below meth c s₁ B hml hv
  obtain ⟨rfl, hsz, hP, hK, hD0⟩ := hv
  have hx := B.exec
  have hb := B.bytes
  have hr := B.returns
  have hts := atoms_spec (ws := wsX7_undo) B.pre
  have hown : s.vm.findClass RX7 = some m.cls := findClass_of_methodNamed B.named
  have hlocks := B.notSynchronized
  subst hsz
  have hD := hD0.self (sz := s.heap.size)
  generalize hAe : va_A (wX7 cy a v) s.heap.size = A at hD ⊢
  have hAe0 : ∀ q : Nat, s.heap.size ≤ q → A q := fun q h => by rw [← hAe]; exact Or.inr h
  have hS : va_S A s.heap s.heap [] := va_S.rf
  have hl := lv_entry ([.ref (a 0)]) (n := 2) (Nat.le_of_ble_eq_true rfl)
  rw [lg_entry_eq]
  generalize (lg_sl ([.ref (a 0)]) ++ List.replicate (2 - (lg_sl ([.ref (a 0)])).length) Slot.unset).toArray = ls at hl ⊢
  have hl : lv_has ls 2 [(0, .ref (a 0))] := hl
  have lk0 := hts (Cond.fieldLink RX7 46 "MolesLawnModel" "savedMany" "I") (List.mem_cons_of_mem _ (List.mem_append_left _ (List.mem_of_getElem? (i := 0) rfl)))
  have lk1 := hts (Cond.fieldLink RX7 7 "MolesLawnModel" "s" "[I") (List.mem_cons_of_mem _ (List.mem_append_left _ (List.mem_of_getElem? (i := 1) rfl)))
  have lk2 := hts (Cond.fieldLink RX7 19 "MolesLawnModel" "saved" "[I") (List.mem_cons_of_mem _ (List.mem_append_left _ (List.mem_of_getElem? (i := 2) rfl)))
  have iK7 : ∀ w ∈ wsX70, w ∈ wsX7_undo := fun _ h => (List.mem_cons_of_mem _ (List.mem_append_right _ h))
  unfold wp_X7_undo at hq
  have J33 : ∀ (z33_v_savedMany : Int32) (z33_v_thrown : Int32) (y33_1 : Int32) (z33_v_s : (Nat → Int32)) (H : Heap) (locs : List Loc) (ls : Array Slot), wp_X7_undo_33 v z33_v_savedMany z33_v_thrown y33_1 z33_v_s Q → va_P (dC, dI) vwCl (cX7 cy a z33_v_s (X7_aside v) (X7_kept v) (X7_isKept v) (X7_saved v) z33_v_savedMany (X7_text v) (X7_length v) z33_v_thrown (X7_joint v) (X7_position v) (X7_isWrong v) (X7_isHollow v) (X7_sure v) (X7_away v) (X7_digested v)) H → va_D A (cX7 cy a z33_v_s (X7_aside v) (X7_kept v) (X7_isKept v) (X7_saved v) z33_v_savedMany (X7_text v) (X7_length v) z33_v_thrown (X7_joint v) (X7_position v) (X7_isWrong v) (X7_isHollow v) (X7_sure v) (X7_away v) (X7_digested v)) → va_S A s.heap H locs → lv_has ls 2 [(0, .ref (a 0)), (1, .int y33_1)] → W p l e (headSpec wsX7_undo ({ frames := 1, cells := 0, slots := 0, locals := 21 } : Room)).room s m ([.ref (a 0)] : List Value).toArray below meth c H locs 0 0 (MQ below (q_X7_undo dC dI cy a v Q A) ([.ref (a 0)] : List Value).toArray s 0 0 A) (F0 m 33 ls []) := by
    intro z33_v_savedMany z33_v_thrown y33_1 z33_v_s H locs ls hq hP hD hS hl
    obtain ⟨I33, μ33, h0, hs33⟩ := hq
    have key : ∀ (n : Nat) (y33_1 : Int32) (z33_v_s : (Nat → Int32)) (H : Heap) (locs : List Loc) (ls : Array Slot), I33 y33_1 z33_v_s → μ33 y33_1 z33_v_s < n → va_P (dC, dI) vwCl (cX7 cy a z33_v_s (X7_aside v) (X7_kept v) (X7_isKept v) (X7_saved v) z33_v_savedMany (X7_text v) (X7_length v) z33_v_thrown (X7_joint v) (X7_position v) (X7_isWrong v) (X7_isHollow v) (X7_sure v) (X7_away v) (X7_digested v)) H → va_D A (cX7 cy a z33_v_s (X7_aside v) (X7_kept v) (X7_isKept v) (X7_saved v) z33_v_savedMany (X7_text v) (X7_length v) z33_v_thrown (X7_joint v) (X7_position v) (X7_isWrong v) (X7_isHollow v) (X7_sure v) (X7_away v) (X7_digested v)) → va_S A s.heap H locs → lv_has ls 2 [(0, .ref (a 0)), (1, .int y33_1)] → W p l e (headSpec wsX7_undo ({ frames := 1, cells := 0, slots := 0, locals := 21 } : Room)).room s m ([.ref (a 0)] : List Value).toArray below meth c H locs 0 0 (MQ below (q_X7_undo dC dI cy a v Q A) ([.ref (a 0)] : List Value).toArray s 0 0 A) (F0 m 33 ls []) := by
      intro n
      induction n with
      | zero => intro y33_1 z33_v_s H locs ls _ hm; exact absurd hm (Nat.not_lt_zero _)
      | succ n ih =>
        intro y33_1 z33_v_s H locs ls hI hm hP hD hS hl
        have hq := hs33 y33_1 z33_v_s hI
        generalize hB33 : (fun (t0 : Int32) (t1 : (Nat → Int32)) => I33 t0 t1 ∧ μ33 t0 t1 < μ33 y33_1 z33_v_s) = B33 at hq
        have bk33 : ∀ (y33_1 : Int32) (z33_v_s : (Nat → Int32)) (H : Heap) (locs : List Loc) (ls : Array Slot), B33 y33_1 z33_v_s → va_P (dC, dI) vwCl (cX7 cy a z33_v_s (X7_aside v) (X7_kept v) (X7_isKept v) (X7_saved v) z33_v_savedMany (X7_text v) (X7_length v) z33_v_thrown (X7_joint v) (X7_position v) (X7_isWrong v) (X7_isHollow v) (X7_sure v) (X7_away v) (X7_digested v)) H → va_D A (cX7 cy a z33_v_s (X7_aside v) (X7_kept v) (X7_isKept v) (X7_saved v) z33_v_savedMany (X7_text v) (X7_length v) z33_v_thrown (X7_joint v) (X7_position v) (X7_isWrong v) (X7_isHollow v) (X7_sure v) (X7_away v) (X7_digested v)) → va_S A s.heap H locs → lv_has ls 2 [(0, .ref (a 0)), (1, .int y33_1)] → W p l e (headSpec wsX7_undo ({ frames := 1, cells := 0, slots := 0, locals := 21 } : Room)).room s m ([.ref (a 0)] : List Value).toArray below meth c H locs 0 0 (MQ below (q_X7_undo dC dI cy a v Q A) ([.ref (a 0)] : List Value).toArray s 0 0 A) (F0 m 33 ls []) := by
          intro y33_1 z33_v_s H locs ls h
          rw [← hB33] at h
          exact ih y33_1 z33_v_s H locs ls h.1 (Nat.lt_of_lt_of_le h.2 (Nat.le_of_lt_succ hm))
        unfold wb_X7_undo_33 at hq
        refine lv_iload_n hx hb dX7_undo_33 rfl (lv_at hl 1 rfl) ?_
        refine lv_sipush (v := 1472) hx hb dX7_undo_34 (by decide) ?_
        obtain ⟨hqA, hqB⟩ := hq
        refine lv_icmp_ge (tgt := 67) hx hb dX7_undo_37 (by decide) (fun c3 => ?_) (fun c3 => ?_)
        · have hq := hqA c3
          refine lv_aload_n hx hb dX7_undo_67 rfl (lv_at hl 0 rfl) ?_
          refine va_get (D := (dC, dI)) (ci := 7) (v := .int z33_v_savedMany) (C := RX7) (T := TX7) (N := 16) hx hb hts iK7 hown hK hP 0 rfl rfl 5 (by decide) lk0 (fun _ h9 => h9) rfl dX7_undo_68 ?_
          exact W.iret (v := z33_v_savedMany) hx hb hr (fun t ht hW => ⟨⟨z33_v_savedMany, (z33_v_s, z33_v_savedMany, z33_v_thrown), rfl, hq, (xAt_of hP hK hD ht hW)⟩, hS.F ht⟩) hS.2.2 dX7_undo_71
        · have hq := hqB c3
          refine lv_aload_n hx hb dX7_undo_40 rfl (lv_at hl 0 rfl) ?_
          refine va_get (D := (dC, dI)) (ci := 7) (v := .ref (a 1)) (C := RX7) (T := TX7) (N := 16) hx hb hts iK7 hown hK hP 0 rfl rfl 0 (by decide) lk1 (fun _ h9 => h9) rfl dX7_undo_41 ?_
          refine lv_iload_n hx hb dX7_undo_44 rfl (lv_at hl 1 rfl) ?_
          refine lv_aload_n hx hb dX7_undo_45 rfl (lv_at hl 0 rfl) ?_
          refine va_get (D := (dC, dI)) (ci := 7) (v := .ref (a 4)) (C := RX7) (T := TX7) (N := 16) hx hb hts iK7 hown hK hP 0 rfl rfl 4 (by decide) lk2 (fun _ h9 => h9) rfl dX7_undo_46 ?_
          refine lv_sipush (v := 1472) hx hb dX7_undo_49 (by decide) ?_
          refine lv_aload_n hx hb dX7_undo_52 rfl (lv_at hl 0 rfl) ?_
          refine va_get (D := (dC, dI)) (ci := 7) (v := .int z33_v_savedMany) (C := RX7) (T := TX7) (N := 16) hx hb hts iK7 hown hK hP 0 rfl rfl 5 (by decide) lk0 (fun _ h9 => h9) rfl dX7_undo_53 ?_
          refine lv_imul hx hb dX7_undo_56 ?_
          refine lv_iload_n hx hb dX7_undo_57 rfl (lv_at hl 1 rfl) ?_
          refine lv_iadd hx hb dX7_undo_58 ?_
          obtain ⟨g1, hq⟩ := hq
          refine va_iald hx hb hK hP 4 0 rfl rfl g1 dX7_undo_59 ?_
          obtain ⟨g2, hq⟩ := hq
          refine va_iast hx hb hK hP hD hS 1 0 rfl rfl g2 dX7_undo_60 (fun H locs hP hD hS => ?_)
          have hP : va_P (dC, dI) vwCl (cX7 cy a (upd z33_v_s y33_1.toNatClampNeg ((X7_saved v) ((1472 * z33_v_savedMany) + y33_1).toNatClampNeg)) (X7_aside v) (X7_kept v) (X7_isKept v) (X7_saved v) z33_v_savedMany (X7_text v) (X7_length v) z33_v_thrown (X7_joint v) (X7_position v) (X7_isWrong v) (X7_isHollow v) (X7_sure v) (X7_away v) (X7_digested v)) H := hP
          have hD : va_D A (cX7 cy a (upd z33_v_s y33_1.toNatClampNeg ((X7_saved v) ((1472 * z33_v_savedMany) + y33_1).toNatClampNeg)) (X7_aside v) (X7_kept v) (X7_isKept v) (X7_saved v) z33_v_savedMany (X7_text v) (X7_length v) z33_v_thrown (X7_joint v) (X7_position v) (X7_isWrong v) (X7_isHollow v) (X7_sure v) (X7_away v) (X7_digested v)) := hD
          refine lv_iinc (v := (y33_1 + 1)) (lv' := [(1, .int (y33_1 + 1)), (0, .ref (a 0))]) hx hb dX7_undo_61 hl (k := 1) rfl rfl (by decide) rfl (fun ls hl => ?_)
          refine lv_goto (tgt := 33) hx hb dX7_undo_64 (by decide) ?_
          exact bk33 (y33_1 + 1) (upd z33_v_s y33_1.toNatClampNeg ((X7_saved v) ((1472 * z33_v_savedMany) + y33_1).toNatClampNeg)) _ _ _ hq hP hD hS (lv_sub hl [1, 0] rfl)
    exact key _ y33_1 z33_v_s H locs ls h0 (Nat.lt_succ_self _) hP hD hS hl
  have J13 : ∀ (k13_0 : Int32) (H : Heap) (locs : List Loc) (ls : Array Slot), wp_X7_undo_13 v k13_0 Q → va_P (dC, dI) vwCl (wX7 cy a v) H → va_D A (wX7 cy a v) → va_S A s.heap H locs → lv_has ls 2 [(0, .ref (a 0))] → W p l e (headSpec wsX7_undo ({ frames := 1, cells := 0, slots := 0, locals := 21 } : Room)).room s m ([.ref (a 0)] : List Value).toArray below meth c H locs 0 0 (MQ below (q_X7_undo dC dI cy a v Q A) ([.ref (a 0)] : List Value).toArray s 0 0 A) (F0 m 13 ls [.int k13_0, .ref (a 0)]) := by
    intro k13_0 H locs ls hq hP hD hS hl
    unfold wp_X7_undo_13 at hq
    have hFc := xfree_same hS hAe0 (ws := (wX7 cy a v)) hD
    refine va_calli (va_runV (As := [.int k13_0]) (rest := []) ⟨hx, hb, hml, hown, hts⟩ (c_X7_holds l dC dI cy a _ v k13_0 _ hq) (cwV 1 hts gX7_undo_X7_holds rfl rfl rfl (by decide +kernel) ⟨Nat.le_of_ble_eq_true rfl, Nat.le_of_ble_eq_true rfl⟩) ⟨xPre_blind, va_recv hK hP (ci := 7) (q0 := 0) rfl rfl, xPre_of hP hK hD⟩ rfl rfl hl.1 rfl (lv_room (Nat.le_of_ble_eq_true rfl)) dX7_undo_13 ⟨Nat.le_of_ble_eq_true rfl, Nat.le_of_ble_eq_true rfl⟩) hS (fun q _ h => hFc q h) hFc (fun r13 z13_v_thrown t H locs ht hvm hq hB hz1 hk1 hS => ?_)
    obtain ⟨hP1, -, hD1⟩ := hB
    rw [ht] at hP1
    have hP : va_P (dC, dI) vwCl (cX7 cy a (X7_s v) (X7_aside v) (X7_kept v) (X7_isKept v) (X7_saved v) (X7_savedMany v) (X7_text v) (X7_length v) z13_v_thrown (X7_joint v) (X7_position v) (X7_isWrong v) (X7_isHollow v) (X7_sure v) (X7_away v) (X7_digested v)) H := hP1
    have hD : va_D A (cX7 cy a (X7_s v) (X7_aside v) (X7_kept v) (X7_isKept v) (X7_saved v) (X7_savedMany v) (X7_text v) (X7_length v) z13_v_thrown (X7_joint v) (X7_position v) (X7_isWrong v) (X7_isHollow v) (X7_sure v) (X7_away v) (X7_digested v)) := hD1.weaken (fun _ q _ h => hFc q.1 h)
    obtain ⟨hqA, hqB⟩ := hq
    refine lv_if_ne (tgt := 21) hx hb dX7_undo_16 (by decide) (fun c4 => ?_) (fun c4 => ?_)
    · have hq := hqB c4
      refine lv_aload_n hx hb dX7_undo_21 rfl (lv_at hl 0 rfl) ?_
      refine lv_dup hx hb dX7_undo_22 rfl ?_
      refine va_get (D := (dC, dI)) (ci := 7) (v := .int (X7_savedMany v)) (C := RX7) (T := TX7) (N := 16) hx hb hts iK7 hown hK hP 0 rfl rfl 5 (by decide) lk0 (fun _ h9 => h9) rfl dX7_undo_23 ?_
      refine lv_iconst (v := 1) hx hb dX7_undo_26 (by decide) ?_
      refine lv_isub hx hb dX7_undo_27 ?_
      refine va_put (D := (dC, dI)) (ci := 7) (v := .int ((X7_savedMany v) - 1)) (ty := .int) (C := RX7) (T := TX7) (N := 16) hx hb hts iK7 tyX7 tyX7_ok nmX7 hown hK hP hD hS 0 rfl rfl 5 (by decide) lk0 (fun _ h9 => h9) rfl (by decide +kernel) rfl rfl (Nat.le_of_ble_eq_true rfl) dX7_undo_28 (fun H locs hP hD hS => ?_)
      have hP : va_P (dC, dI) vwCl (cX7 cy a (X7_s v) (X7_aside v) (X7_kept v) (X7_isKept v) (X7_saved v) ((X7_savedMany v) - 1) (X7_text v) (X7_length v) z13_v_thrown (X7_joint v) (X7_position v) (X7_isWrong v) (X7_isHollow v) (X7_sure v) (X7_away v) (X7_digested v)) H := hP
      have hD : va_D A (cX7 cy a (X7_s v) (X7_aside v) (X7_kept v) (X7_isKept v) (X7_saved v) ((X7_savedMany v) - 1) (X7_text v) (X7_length v) z13_v_thrown (X7_joint v) (X7_position v) (X7_isWrong v) (X7_isHollow v) (X7_sure v) (X7_away v) (X7_digested v)) := hD
      refine lv_iconst (v := 0) hx hb dX7_undo_31 (by decide) ?_
      refine lv_istore_n (lv' := [(1, .int 0), (0, .ref (a 0))]) hx hb dX7_undo_32 rfl hl (by decide) rfl (fun ls hl => ?_)
      exact J33 ((X7_savedMany v) - 1) z13_v_thrown 0 (X7_s v) _ _ _ hq hP hD hS (lv_sub hl [1, 0] rfl)
    · have hq := hqA c4
      refine lv_iconst (v := 0) hx hb dX7_undo_19 (by decide) ?_
      exact W.iret (v := 0) hx hb hr (fun t ht hW => ⟨⟨0, ((X7_s v), (X7_savedMany v), z13_v_thrown), rfl, hq, (xAt_of hP hK hD ht hW)⟩, hS.F ht⟩) hS.2.2 dX7_undo_20
  refine lv_aload_n hx hb dX7_undo_0 rfl (lv_at hl 0 rfl) ?_
  refine lv_aload_n hx hb dX7_undo_1 rfl (lv_at hl 0 rfl) ?_
  refine va_get (D := (dC, dI)) (ci := 7) (v := .int (X7_savedMany v)) (C := RX7) (T := TX7) (N := 16) hx hb hts iK7 hown hK hP 0 rfl rfl 5 (by decide) lk0 (fun _ h9 => h9) rfl dX7_undo_2 ?_
  obtain ⟨hqA, hqB⟩ := hq
  refine lv_if_le (tgt := 12) hx hb dX7_undo_5 (by decide) (fun c5 => ?_) (fun c5 => ?_)
  · have hq := hqA c5
    refine lv_iconst (v := 1) hx hb dX7_undo_12 (by decide) ?_
    exact J13 1  _ _ _ hq hP hD hS (lv_sub hl [0] rfl)
  · have hq := hqB c5
    refine lv_iconst (v := 0) hx hb dX7_undo_8 (by decide) ?_
    refine lv_goto (tgt := 13) hx hb dX7_undo_9 (by decide) ?_
    exact J13 0  _ _ _ hq hP hD hS (lv_sub hl [0] rfl)
def wb_X7_keep_7 (v : V_X7) (z7_v_thrown : Int32) (y7_1 : Int32) (z7_v_kept : (Nat → Int32)) (B7 : Int32 → (Nat → Int32) → Prop) (Q : Int32 → Int32 → (Nat → Int32) → Int32 → Prop) : Prop :=
  ((1472 ≤ y7_1 → wp_X7_tunnels ((X7_s v), (X7_aside v), z7_v_kept, 1, (X7_saved v), (X7_savedMany v), (X7_text v), (X7_length v), z7_v_thrown, (X7_joint v), (X7_position v), (X7_isWrong v), (X7_isHollow v), (X7_sure v), (X7_away v), (X7_digested v)) (fun r38 =>
  Q r38 1 z7_v_kept z7_v_thrown)) ∧
  (¬ 1472 ≤ y7_1 → vp_in y7_1 1472 ∧ B7 (y7_1 + 1) (upd z7_v_kept y7_1.toNatClampNeg ((X7_s v) y7_1.toNatClampNeg))))
def wp_X7_keep_7 (v : V_X7) (z7_v_thrown : Int32) (y7_1 : Int32) (z7_v_kept : (Nat → Int32)) (Q : Int32 → Int32 → (Nat → Int32) → Int32 → Prop) : Prop :=
  ∃ (I : Int32 → (Nat → Int32) → Prop) (μ : Int32 → (Nat → Int32) → Nat), I y7_1 z7_v_kept ∧ ∀ (s0 : Int32) (s1 : (Nat → Int32)), I s0 s1 → wb_X7_keep_7 v z7_v_thrown s0 s1 (fun t0 t1 => I t0 t1 ∧ μ t0 t1 < μ s0 s1) Q
def wp_X7_keep (v : V_X7) (Q : Int32 → Int32 → (Nat → Int32) → Int32 → Prop) : Prop :=
  wp_X7_keep_7 v 0 0 (X7_kept v) Q
def q_X7_keep (dC : Nat → ClassId) (dI : Nat → Nat → Nat) (cy : Nat → ClassId) (a : Nat → Nat) (v : V_X7) (Q : Int32 → Int32 → (Nat → Int32) → Int32 → Prop) (A : Nat → Prop) : Array Value → State → Outcome → State → Prop := va_Qi (fun (r : Int32) (u : Int32 × (Nat → Int32) × Int32) => Q r u.1 u.2.1 u.2.2) (fun (u : Int32 × (Nat → Int32) × Int32) t => xAt dC dI cy A (cX7 cy a (X7_s v) (X7_aside v) u.2.1 u.1 (X7_saved v) (X7_savedMany v) (X7_text v) (X7_length v) u.2.2 (X7_joint v) (X7_position v) (X7_isWrong v) (X7_isHollow v) (X7_sure v) (X7_away v) (X7_digested v)) t) A
set_option maxHeartbeats 4000000 in
set_option maxRecDepth 100000 in
theorem c_X7_keep (l : Launch) (dC : Nat → ClassId) (dI : Nat → Nat → Nat) (cy : Nat → ClassId) (a : Nat → Nat) (sz : Nat) (v : V_X7) (Q : Int32 → Int32 → (Nat → Int32) → Int32 → Prop) (hq : wp_X7_keep v Q) : Met l yX7_keep wsX7_keep ({ frames := 1, cells := 0, slots := 0, locals := 22 } : Room) (va_Pc [.ref (a 0)] (xPre dC dI cy (wX7 cy a v) sz)) (q_X7_keep dC dI cy a v Q (va_A (wX7 cy a v) sz)) 0 0 (va_A (wX7 cy a v) sz) := by
  refine Met.ofW (cc := cX7_keep) (maxL := 2) (ret := (some .int)) (by decide) rfl ?_
  intro p e s m args below meth c s₁ B hml hv
  obtain ⟨rfl, hsz, hP, hK, hD0⟩ := hv
  have hx := B.exec
  have hb := B.bytes
  have hr := B.returns
  have hts := atoms_spec (ws := wsX7_keep) B.pre
  have hown : s.vm.findClass RX7 = some m.cls := findClass_of_methodNamed B.named
  have hlocks := B.notSynchronized
  subst hsz
  have hD := hD0.self (sz := s.heap.size)
  generalize hAe : va_A (wX7 cy a v) s.heap.size = A at hD ⊢
  have hAe0 : ∀ q : Nat, s.heap.size ≤ q → A q := fun q h => by rw [← hAe]; exact Or.inr h
  have hS : va_S A s.heap s.heap [] := va_S.rf
  have hl := lv_entry ([.ref (a 0)]) (n := 2) (Nat.le_of_ble_eq_true rfl)
  rw [lg_entry_eq]
  generalize (lg_sl ([.ref (a 0)]) ++ List.replicate (2 - (lg_sl ([.ref (a 0)])).length) Slot.unset).toArray = ls at hl ⊢
  have hl : lv_has ls 2 [(0, .ref (a 0))] := hl
  have lk0 := hts (Cond.fieldLink RX7 191 "MolesLawnModel" "isKept" "Z") (List.mem_cons_of_mem _ (List.mem_append_left _ (List.mem_of_getElem? (i := 3) rfl)))
  have lk1 := hts (Cond.fieldLink RX7 16 "MolesLawnModel" "kept" "[I") (List.mem_cons_of_mem _ (List.mem_append_left _ (List.mem_of_getElem? (i := 1) rfl)))
  have lk2 := hts (Cond.fieldLink RX7 7 "MolesLawnModel" "s" "[I") (List.mem_cons_of_mem _ (List.mem_append_left _ (List.mem_of_getElem? (i := 2) rfl)))
  have lk3 := hts (Cond.fieldLink RX7 38 "MolesLawnModel" "thrown" "I") (List.mem_cons_of_mem _ (List.mem_append_left _ (List.mem_of_getElem? (i := 0) rfl)))
  have iK7 : ∀ w ∈ wsX70, w ∈ wsX7_keep := fun _ h => (List.mem_cons_of_mem _ (List.mem_append_right _ h))
  unfold wp_X7_keep at hq
  have J7 : ∀ (z7_v_thrown : Int32) (y7_1 : Int32) (z7_v_kept : (Nat → Int32)) (H : Heap) (locs : List Loc) (ls : Array Slot), wp_X7_keep_7 v z7_v_thrown y7_1 z7_v_kept Q → va_P (dC, dI) vwCl (cX7 cy a (X7_s v) (X7_aside v) z7_v_kept (X7_isKept v) (X7_saved v) (X7_savedMany v) (X7_text v) (X7_length v) z7_v_thrown (X7_joint v) (X7_position v) (X7_isWrong v) (X7_isHollow v) (X7_sure v) (X7_away v) (X7_digested v)) H → va_D A (cX7 cy a (X7_s v) (X7_aside v) z7_v_kept (X7_isKept v) (X7_saved v) (X7_savedMany v) (X7_text v) (X7_length v) z7_v_thrown (X7_joint v) (X7_position v) (X7_isWrong v) (X7_isHollow v) (X7_sure v) (X7_away v) (X7_digested v)) → va_S A s.heap H locs → lv_has ls 2 [(0, .ref (a 0)), (1, .int y7_1)] → W p l e (headSpec wsX7_keep ({ frames := 1, cells := 0, slots := 0, locals := 22 } : Room)).room s m ([.ref (a 0)] : List Value).toArray below meth c H locs 0 0 (MQ below (q_X7_keep dC dI cy a v Q A) ([.ref (a 0)] : List Value).toArray s 0 0 A) (F0 m 7 ls []) := by
    intro z7_v_thrown y7_1 z7_v_kept H locs ls hq hP hD hS hl
    obtain ⟨I7, μ7, h0, hs7⟩ := hq
    have key : ∀ (n : Nat) (y7_1 : Int32) (z7_v_kept : (Nat → Int32)) (H : Heap) (locs : List Loc) (ls : Array Slot), I7 y7_1 z7_v_kept → μ7 y7_1 z7_v_kept < n → va_P (dC, dI) vwCl (cX7 cy a (X7_s v) (X7_aside v) z7_v_kept (X7_isKept v) (X7_saved v) (X7_savedMany v) (X7_text v) (X7_length v) z7_v_thrown (X7_joint v) (X7_position v) (X7_isWrong v) (X7_isHollow v) (X7_sure v) (X7_away v) (X7_digested v)) H → va_D A (cX7 cy a (X7_s v) (X7_aside v) z7_v_kept (X7_isKept v) (X7_saved v) (X7_savedMany v) (X7_text v) (X7_length v) z7_v_thrown (X7_joint v) (X7_position v) (X7_isWrong v) (X7_isHollow v) (X7_sure v) (X7_away v) (X7_digested v)) → va_S A s.heap H locs → lv_has ls 2 [(0, .ref (a 0)), (1, .int y7_1)] → W p l e (headSpec wsX7_keep ({ frames := 1, cells := 0, slots := 0, locals := 22 } : Room)).room s m ([.ref (a 0)] : List Value).toArray below meth c H locs 0 0 (MQ below (q_X7_keep dC dI cy a v Q A) ([.ref (a 0)] : List Value).toArray s 0 0 A) (F0 m 7 ls []) := by
      intro n
      induction n with
      | zero => intro y7_1 z7_v_kept H locs ls _ hm; exact absurd hm (Nat.not_lt_zero _)
      | succ n ih =>
        intro y7_1 z7_v_kept H locs ls hI hm hP hD hS hl
        have hq := hs7 y7_1 z7_v_kept hI
        generalize hB7 : (fun (t0 : Int32) (t1 : (Nat → Int32)) => I7 t0 t1 ∧ μ7 t0 t1 < μ7 y7_1 z7_v_kept) = B7 at hq
        have bk7 : ∀ (y7_1 : Int32) (z7_v_kept : (Nat → Int32)) (H : Heap) (locs : List Loc) (ls : Array Slot), B7 y7_1 z7_v_kept → va_P (dC, dI) vwCl (cX7 cy a (X7_s v) (X7_aside v) z7_v_kept (X7_isKept v) (X7_saved v) (X7_savedMany v) (X7_text v) (X7_length v) z7_v_thrown (X7_joint v) (X7_position v) (X7_isWrong v) (X7_isHollow v) (X7_sure v) (X7_away v) (X7_digested v)) H → va_D A (cX7 cy a (X7_s v) (X7_aside v) z7_v_kept (X7_isKept v) (X7_saved v) (X7_savedMany v) (X7_text v) (X7_length v) z7_v_thrown (X7_joint v) (X7_position v) (X7_isWrong v) (X7_isHollow v) (X7_sure v) (X7_away v) (X7_digested v)) → va_S A s.heap H locs → lv_has ls 2 [(0, .ref (a 0)), (1, .int y7_1)] → W p l e (headSpec wsX7_keep ({ frames := 1, cells := 0, slots := 0, locals := 22 } : Room)).room s m ([.ref (a 0)] : List Value).toArray below meth c H locs 0 0 (MQ below (q_X7_keep dC dI cy a v Q A) ([.ref (a 0)] : List Value).toArray s 0 0 A) (F0 m 7 ls []) := by
          intro y7_1 z7_v_kept H locs ls h
          rw [← hB7] at h
          exact ih y7_1 z7_v_kept H locs ls h.1 (Nat.lt_of_lt_of_le h.2 (Nat.le_of_lt_succ hm))
        unfold wb_X7_keep_7 at hq
        refine lv_iload_n hx hb dX7_keep_7 rfl (lv_at hl 1 rfl) ?_
        refine lv_sipush (v := 1472) hx hb dX7_keep_8 (by decide) ?_
        obtain ⟨hqA, hqB⟩ := hq
        refine lv_icmp_ge (tgt := 32) hx hb dX7_keep_11 (by decide) (fun c2 => ?_) (fun c2 => ?_)
        · have hq := hqA c2
          refine lv_aload_n hx hb dX7_keep_32 rfl (lv_at hl 0 rfl) ?_
          refine lv_iconst (v := 1) hx hb dX7_keep_33 (by decide) ?_
          refine va_put (D := (dC, dI)) (ci := 7) (v := .int 1) (ty := .boolean) (C := RX7) (T := TX7) (N := 16) hx hb hts iK7 tyX7 tyX7_ok nmX7 hown hK hP hD hS 0 rfl rfl 3 (by decide) lk0 (fun _ h9 => h9) rfl (by decide +kernel) rfl rfl (Nat.le_of_ble_eq_true rfl) dX7_keep_34 (fun H locs hP hD hS => ?_)
          have hP : va_P (dC, dI) vwCl (cX7 cy a (X7_s v) (X7_aside v) z7_v_kept 1 (X7_saved v) (X7_savedMany v) (X7_text v) (X7_length v) z7_v_thrown (X7_joint v) (X7_position v) (X7_isWrong v) (X7_isHollow v) (X7_sure v) (X7_away v) (X7_digested v)) H := hP
          have hD : va_D A (cX7 cy a (X7_s v) (X7_aside v) z7_v_kept 1 (X7_saved v) (X7_savedMany v) (X7_text v) (X7_length v) z7_v_thrown (X7_joint v) (X7_position v) (X7_isWrong v) (X7_isHollow v) (X7_sure v) (X7_away v) (X7_digested v)) := hD
          refine lv_aload_n hx hb dX7_keep_37 rfl (lv_at hl 0 rfl) ?_
          have hFc := xfree_same hS hAe0 (ws := (cX7 cy a (X7_s v) (X7_aside v) z7_v_kept 1 (X7_saved v) (X7_savedMany v) (X7_text v) (X7_length v) z7_v_thrown (X7_joint v) (X7_position v) (X7_isWrong v) (X7_isHollow v) (X7_sure v) (X7_away v) (X7_digested v))) hD
          refine va_calli (va_runV (As := []) (rest := []) ⟨hx, hb, hml, hown, hts⟩ (c_X7_tunnels l dC dI cy a _ ((X7_s v), (X7_aside v), z7_v_kept, 1, (X7_saved v), (X7_savedMany v), (X7_text v), (X7_length v), z7_v_thrown, (X7_joint v), (X7_position v), (X7_isWrong v), (X7_isHollow v), (X7_sure v), (X7_away v), (X7_digested v)) _ hq) (cwV 0 hts gX7_keep_X7_tunnels rfl rfl rfl (by decide +kernel) ⟨Nat.le_of_ble_eq_true rfl, Nat.le_of_ble_eq_true rfl⟩) ⟨xPre_blind, va_recv hK hP (ci := 7) (q0 := 0) rfl rfl, xPre_of hP hK hD⟩ rfl rfl hl.1 rfl (lv_room (Nat.le_of_ble_eq_true rfl)) dX7_keep_38 ⟨Nat.le_of_ble_eq_true rfl, Nat.le_of_ble_eq_true rfl⟩) hS (fun q _ h => hFc q h) hFc (fun r38 u9 t H locs ht hvm hq hB hz1 hk1 hS => ?_)
          obtain ⟨hP1, -, hD1⟩ := hB
          rw [ht] at hP1
          have hP : va_P (dC, dI) vwCl (cX7 cy a (X7_s v) (X7_aside v) z7_v_kept 1 (X7_saved v) (X7_savedMany v) (X7_text v) (X7_length v) z7_v_thrown (X7_joint v) (X7_position v) (X7_isWrong v) (X7_isHollow v) (X7_sure v) (X7_away v) (X7_digested v)) H := hP1
          have hD : va_D A (cX7 cy a (X7_s v) (X7_aside v) z7_v_kept 1 (X7_saved v) (X7_savedMany v) (X7_text v) (X7_length v) z7_v_thrown (X7_joint v) (X7_position v) (X7_isWrong v) (X7_isHollow v) (X7_sure v) (X7_away v) (X7_digested v)) := hD1.weaken (fun _ q _ h => hFc q.1 h)
          exact W.iret (v := r38) hx hb hr (fun t ht hW => ⟨⟨r38, (1, z7_v_kept, z7_v_thrown), rfl, hq, (xAt_of hP hK hD ht hW)⟩, hS.F ht⟩) hS.2.2 dX7_keep_41
        · have hq := hqB c2
          refine lv_aload_n hx hb dX7_keep_14 rfl (lv_at hl 0 rfl) ?_
          refine va_get (D := (dC, dI)) (ci := 7) (v := .ref (a 3)) (C := RX7) (T := TX7) (N := 16) hx hb hts iK7 hown hK hP 0 rfl rfl 2 (by decide) lk1 (fun _ h9 => h9) rfl dX7_keep_15 ?_
          refine lv_iload_n hx hb dX7_keep_18 rfl (lv_at hl 1 rfl) ?_
          refine lv_aload_n hx hb dX7_keep_19 rfl (lv_at hl 0 rfl) ?_
          refine va_get (D := (dC, dI)) (ci := 7) (v := .ref (a 1)) (C := RX7) (T := TX7) (N := 16) hx hb hts iK7 hown hK hP 0 rfl rfl 0 (by decide) lk2 (fun _ h9 => h9) rfl dX7_keep_20 ?_
          refine lv_iload_n hx hb dX7_keep_23 rfl (lv_at hl 1 rfl) ?_
          obtain ⟨g1, hq⟩ := hq
          refine va_iald hx hb hK hP 1 0 rfl rfl g1 dX7_keep_24 ?_
          refine va_iast hx hb hK hP hD hS 3 0 rfl rfl g1 dX7_keep_25 (fun H locs hP hD hS => ?_)
          have hP : va_P (dC, dI) vwCl (cX7 cy a (X7_s v) (X7_aside v) (upd z7_v_kept y7_1.toNatClampNeg ((X7_s v) y7_1.toNatClampNeg)) (X7_isKept v) (X7_saved v) (X7_savedMany v) (X7_text v) (X7_length v) z7_v_thrown (X7_joint v) (X7_position v) (X7_isWrong v) (X7_isHollow v) (X7_sure v) (X7_away v) (X7_digested v)) H := hP
          have hD : va_D A (cX7 cy a (X7_s v) (X7_aside v) (upd z7_v_kept y7_1.toNatClampNeg ((X7_s v) y7_1.toNatClampNeg)) (X7_isKept v) (X7_saved v) (X7_savedMany v) (X7_text v) (X7_length v) z7_v_thrown (X7_joint v) (X7_position v) (X7_isWrong v) (X7_isHollow v) (X7_sure v) (X7_away v) (X7_digested v)) := hD
          refine lv_iinc (v := (y7_1 + 1)) (lv' := [(1, .int (y7_1 + 1)), (0, .ref (a 0))]) hx hb dX7_keep_26 hl (k := 1) rfl rfl (by decide) rfl (fun ls hl => ?_)
          refine lv_goto (tgt := 7) hx hb dX7_keep_29 (by decide) ?_
          exact bk7 (y7_1 + 1) (upd z7_v_kept y7_1.toNatClampNeg ((X7_s v) y7_1.toNatClampNeg)) _ _ _ hq hP hD hS (lv_sub hl [1, 0] rfl)
    exact key _ y7_1 z7_v_kept H locs ls h0 (Nat.lt_succ_self _) hP hD hS hl
  refine lv_aload_n hx hb dX7_keep_0 rfl (lv_at hl 0 rfl) ?_
  refine lv_iconst (v := 0) hx hb dX7_keep_1 (by decide) ?_
  refine va_put (D := (dC, dI)) (ci := 7) (v := .int 0) (ty := .int) (C := RX7) (T := TX7) (N := 16) hx hb hts iK7 tyX7 tyX7_ok nmX7 hown hK hP hD hS 0 rfl rfl 8 (by decide) lk3 (fun _ h9 => h9) rfl (by decide +kernel) rfl rfl (Nat.le_of_ble_eq_true rfl) dX7_keep_2 (fun H locs hP hD hS => ?_)
  have hP : va_P (dC, dI) vwCl (cX7 cy a (X7_s v) (X7_aside v) (X7_kept v) (X7_isKept v) (X7_saved v) (X7_savedMany v) (X7_text v) (X7_length v) 0 (X7_joint v) (X7_position v) (X7_isWrong v) (X7_isHollow v) (X7_sure v) (X7_away v) (X7_digested v)) H := hP
  have hD : va_D A (cX7 cy a (X7_s v) (X7_aside v) (X7_kept v) (X7_isKept v) (X7_saved v) (X7_savedMany v) (X7_text v) (X7_length v) 0 (X7_joint v) (X7_position v) (X7_isWrong v) (X7_isHollow v) (X7_sure v) (X7_away v) (X7_digested v)) := hD
  refine lv_iconst (v := 0) hx hb dX7_keep_5 (by decide) ?_
  refine lv_istore_n (lv' := [(1, .int 0), (0, .ref (a 0))]) hx hb dX7_keep_6 rfl hl (by decide) rfl (fun ls hl => ?_)
  exact J7 0 0 (X7_kept v) _ _ _ hq hP hD hS (lv_sub hl [1, 0] rfl)
def wb_X7_restore_27 (v : V_X7) (z27_v_saved : (Nat → Int32)) (z27_v_savedMany : Int32) (z27_v_thrown : Int32) (y27_1 : Int32) (z27_v_s : (Nat → Int32)) (B27 : Int32 → (Nat → Int32) → Prop) (Q : Int32 → (Nat → Int32) → (Nat → Int32) → Int32 → Int32 → Prop) : Prop :=
  ((1472 ≤ y27_1 → wp_X7_tunnels (z27_v_s, (X7_aside v), (X7_kept v), (X7_isKept v), z27_v_saved, z27_v_savedMany, (X7_text v), (X7_length v), z27_v_thrown, (X7_joint v), (X7_position v), (X7_isWrong v), (X7_isHollow v), (X7_sure v), (X7_away v), (X7_digested v)) (fun r53 =>
  Q r53 z27_v_s z27_v_saved z27_v_savedMany z27_v_thrown)) ∧
  (¬ 1472 ≤ y27_1 → vp_in y27_1 1472 ∧ B27 (y27_1 + 1) (upd z27_v_s y27_1.toNatClampNeg ((X7_kept v) y27_1.toNatClampNeg))))
def wp_X7_restore_27 (v : V_X7) (z27_v_saved : (Nat → Int32)) (z27_v_savedMany : Int32) (z27_v_thrown : Int32) (y27_1 : Int32) (z27_v_s : (Nat → Int32)) (Q : Int32 → (Nat → Int32) → (Nat → Int32) → Int32 → Int32 → Prop) : Prop :=
  ∃ (I : Int32 → (Nat → Int32) → Prop) (μ : Int32 → (Nat → Int32) → Nat), I y27_1 z27_v_s ∧ ∀ (s0 : Int32) (s1 : (Nat → Int32)), I s0 s1 → wb_X7_restore_27 v z27_v_saved z27_v_savedMany z27_v_thrown s0 s1 (fun t0 t1 => I t0 t1 ∧ μ t0 t1 < μ s0 s1) Q
def wp_X7_restore_13 (v : V_X7) (k13_0 : Int32) (Q : Int32 → (Nat → Int32) → (Nat → Int32) → Int32 → Int32 → Prop) : Prop :=
  wp_X7_holds v k13_0 (fun r13 z13_v_thrown =>
  ((r13 = 0 → Q 0 (X7_s v) (X7_saved v) (X7_savedMany v) z13_v_thrown) ∧
  (¬ r13 = 0 → wp_X7_save (X7_s8 v z13_v_thrown) (fun z22_v_saved z22_v_savedMany =>
  wp_X7_restore_27 v z22_v_saved z22_v_savedMany z13_v_thrown 0 (X7_s v) Q))))
def wp_X7_restore (v : V_X7) (Q : Int32 → (Nat → Int32) → (Nat → Int32) → Int32 → Int32 → Prop) : Prop :=
  (((X7_isKept v) = 0 → wp_X7_restore_13 v 1  Q) ∧
  (¬ (X7_isKept v) = 0 → wp_X7_restore_13 v 0  Q))
def q_X7_restore (dC : Nat → ClassId) (dI : Nat → Nat → Nat) (cy : Nat → ClassId) (a : Nat → Nat) (v : V_X7) (Q : Int32 → (Nat → Int32) → (Nat → Int32) → Int32 → Int32 → Prop) (A : Nat → Prop) : Array Value → State → Outcome → State → Prop := va_Qi (fun (r : Int32) (u : (Nat → Int32) × (Nat → Int32) × Int32 × Int32) => Q r u.1 u.2.1 u.2.2.1 u.2.2.2) (fun (u : (Nat → Int32) × (Nat → Int32) × Int32 × Int32) t => xAt dC dI cy A (cX7 cy a u.1 (X7_aside v) (X7_kept v) (X7_isKept v) u.2.1 u.2.2.1 (X7_text v) (X7_length v) u.2.2.2 (X7_joint v) (X7_position v) (X7_isWrong v) (X7_isHollow v) (X7_sure v) (X7_away v) (X7_digested v)) t) A
set_option maxHeartbeats 4000000 in
set_option maxRecDepth 100000 in
theorem c_X7_restore (l : Launch) (dC : Nat → ClassId) (dI : Nat → Nat → Nat) (cy : Nat → ClassId) (a : Nat → Nat) (sz : Nat) (v : V_X7) (Q : Int32 → (Nat → Int32) → (Nat → Int32) → Int32 → Int32 → Prop) (hq : wp_X7_restore v Q) : Met l yX7_restore wsX7_restore ({ frames := 1, cells := 0, slots := 0, locals := 22 } : Room) (va_Pc [.ref (a 0)] (xPre dC dI cy (wX7 cy a v) sz)) (q_X7_restore dC dI cy a v Q (va_A (wX7 cy a v) sz)) 0 0 (va_A (wX7 cy a v) sz) := by
  refine Met.ofW (cc := cX7_restore) (maxL := 2) (ret := (some .int)) (by decide) rfl ?_
  intro p e s m args below meth c s₁ B hml hv
  obtain ⟨rfl, hsz, hP, hK, hD0⟩ := hv
  have hx := B.exec
  have hb := B.bytes
  have hr := B.returns
  have hts := atoms_spec (ws := wsX7_restore) B.pre
  have hown : s.vm.findClass RX7 = some m.cls := findClass_of_methodNamed B.named
  have hlocks := B.notSynchronized
  subst hsz
  have hD := hD0.self (sz := s.heap.size)
  generalize hAe : va_A (wX7 cy a v) s.heap.size = A at hD ⊢
  have hAe0 : ∀ q : Nat, s.heap.size ≤ q → A q := fun q h => by rw [← hAe]; exact Or.inr h
  have hS : va_S A s.heap s.heap [] := va_S.rf
  have hl := lv_entry ([.ref (a 0)]) (n := 2) (Nat.le_of_ble_eq_true rfl)
  rw [lg_entry_eq]
  generalize (lg_sl ([.ref (a 0)]) ++ List.replicate (2 - (lg_sl ([.ref (a 0)])).length) Slot.unset).toArray = ls at hl ⊢
  have hl : lv_has ls 2 [(0, .ref (a 0))] := hl
  have lk0 := hts (Cond.fieldLink RX7 7 "MolesLawnModel" "s" "[I") (List.mem_cons_of_mem _ (List.mem_append_left _ (List.mem_of_getElem? (i := 1) rfl)))
  have lk1 := hts (Cond.fieldLink RX7 16 "MolesLawnModel" "kept" "[I") (List.mem_cons_of_mem _ (List.mem_append_left _ (List.mem_of_getElem? (i := 2) rfl)))
  have lk2 := hts (Cond.fieldLink RX7 191 "MolesLawnModel" "isKept" "Z") (List.mem_cons_of_mem _ (List.mem_append_left _ (List.mem_of_getElem? (i := 0) rfl)))
  have iK7 : ∀ w ∈ wsX70, w ∈ wsX7_restore := fun _ h => (List.mem_cons_of_mem _ (List.mem_append_right _ h))
  unfold wp_X7_restore at hq
  have J27 : ∀ (z27_v_saved : (Nat → Int32)) (z27_v_savedMany : Int32) (z27_v_thrown : Int32) (y27_1 : Int32) (z27_v_s : (Nat → Int32)) (H : Heap) (locs : List Loc) (ls : Array Slot), wp_X7_restore_27 v z27_v_saved z27_v_savedMany z27_v_thrown y27_1 z27_v_s Q → va_P (dC, dI) vwCl (cX7 cy a z27_v_s (X7_aside v) (X7_kept v) (X7_isKept v) z27_v_saved z27_v_savedMany (X7_text v) (X7_length v) z27_v_thrown (X7_joint v) (X7_position v) (X7_isWrong v) (X7_isHollow v) (X7_sure v) (X7_away v) (X7_digested v)) H → va_D A (cX7 cy a z27_v_s (X7_aside v) (X7_kept v) (X7_isKept v) z27_v_saved z27_v_savedMany (X7_text v) (X7_length v) z27_v_thrown (X7_joint v) (X7_position v) (X7_isWrong v) (X7_isHollow v) (X7_sure v) (X7_away v) (X7_digested v)) → va_S A s.heap H locs → lv_has ls 2 [(0, .ref (a 0)), (1, .int y27_1)] → W p l e (headSpec wsX7_restore ({ frames := 1, cells := 0, slots := 0, locals := 22 } : Room)).room s m ([.ref (a 0)] : List Value).toArray below meth c H locs 0 0 (MQ below (q_X7_restore dC dI cy a v Q A) ([.ref (a 0)] : List Value).toArray s 0 0 A) (F0 m 27 ls []) := by
    intro z27_v_saved z27_v_savedMany z27_v_thrown y27_1 z27_v_s H locs ls hq hP hD hS hl
    obtain ⟨I27, μ27, h0, hs27⟩ := hq
    have key : ∀ (n : Nat) (y27_1 : Int32) (z27_v_s : (Nat → Int32)) (H : Heap) (locs : List Loc) (ls : Array Slot), I27 y27_1 z27_v_s → μ27 y27_1 z27_v_s < n → va_P (dC, dI) vwCl (cX7 cy a z27_v_s (X7_aside v) (X7_kept v) (X7_isKept v) z27_v_saved z27_v_savedMany (X7_text v) (X7_length v) z27_v_thrown (X7_joint v) (X7_position v) (X7_isWrong v) (X7_isHollow v) (X7_sure v) (X7_away v) (X7_digested v)) H → va_D A (cX7 cy a z27_v_s (X7_aside v) (X7_kept v) (X7_isKept v) z27_v_saved z27_v_savedMany (X7_text v) (X7_length v) z27_v_thrown (X7_joint v) (X7_position v) (X7_isWrong v) (X7_isHollow v) (X7_sure v) (X7_away v) (X7_digested v)) → va_S A s.heap H locs → lv_has ls 2 [(0, .ref (a 0)), (1, .int y27_1)] → W p l e (headSpec wsX7_restore ({ frames := 1, cells := 0, slots := 0, locals := 22 } : Room)).room s m ([.ref (a 0)] : List Value).toArray below meth c H locs 0 0 (MQ below (q_X7_restore dC dI cy a v Q A) ([.ref (a 0)] : List Value).toArray s 0 0 A) (F0 m 27 ls []) := by
      intro n
      induction n with
      | zero => intro y27_1 z27_v_s H locs ls _ hm; exact absurd hm (Nat.not_lt_zero _)
      | succ n ih =>
        intro y27_1 z27_v_s H locs ls hI hm hP hD hS hl
        have hq := hs27 y27_1 z27_v_s hI
        generalize hB27 : (fun (t0 : Int32) (t1 : (Nat → Int32)) => I27 t0 t1 ∧ μ27 t0 t1 < μ27 y27_1 z27_v_s) = B27 at hq
        have bk27 : ∀ (y27_1 : Int32) (z27_v_s : (Nat → Int32)) (H : Heap) (locs : List Loc) (ls : Array Slot), B27 y27_1 z27_v_s → va_P (dC, dI) vwCl (cX7 cy a z27_v_s (X7_aside v) (X7_kept v) (X7_isKept v) z27_v_saved z27_v_savedMany (X7_text v) (X7_length v) z27_v_thrown (X7_joint v) (X7_position v) (X7_isWrong v) (X7_isHollow v) (X7_sure v) (X7_away v) (X7_digested v)) H → va_D A (cX7 cy a z27_v_s (X7_aside v) (X7_kept v) (X7_isKept v) z27_v_saved z27_v_savedMany (X7_text v) (X7_length v) z27_v_thrown (X7_joint v) (X7_position v) (X7_isWrong v) (X7_isHollow v) (X7_sure v) (X7_away v) (X7_digested v)) → va_S A s.heap H locs → lv_has ls 2 [(0, .ref (a 0)), (1, .int y27_1)] → W p l e (headSpec wsX7_restore ({ frames := 1, cells := 0, slots := 0, locals := 22 } : Room)).room s m ([.ref (a 0)] : List Value).toArray below meth c H locs 0 0 (MQ below (q_X7_restore dC dI cy a v Q A) ([.ref (a 0)] : List Value).toArray s 0 0 A) (F0 m 27 ls []) := by
          intro y27_1 z27_v_s H locs ls h
          rw [← hB27] at h
          exact ih y27_1 z27_v_s H locs ls h.1 (Nat.lt_of_lt_of_le h.2 (Nat.le_of_lt_succ hm))
        unfold wb_X7_restore_27 at hq
        refine lv_iload_n hx hb dX7_restore_27 rfl (lv_at hl 1 rfl) ?_
        refine lv_sipush (v := 1472) hx hb dX7_restore_28 (by decide) ?_
        obtain ⟨hqA, hqB⟩ := hq
        refine lv_icmp_ge (tgt := 52) hx hb dX7_restore_31 (by decide) (fun c2 => ?_) (fun c2 => ?_)
        · have hq := hqA c2
          refine lv_aload_n hx hb dX7_restore_52 rfl (lv_at hl 0 rfl) ?_
          have hFc := xfree_same hS hAe0 (ws := (cX7 cy a z27_v_s (X7_aside v) (X7_kept v) (X7_isKept v) z27_v_saved z27_v_savedMany (X7_text v) (X7_length v) z27_v_thrown (X7_joint v) (X7_position v) (X7_isWrong v) (X7_isHollow v) (X7_sure v) (X7_away v) (X7_digested v))) hD
          refine va_calli (va_runV (As := []) (rest := []) ⟨hx, hb, hml, hown, hts⟩ (c_X7_tunnels l dC dI cy a _ (z27_v_s, (X7_aside v), (X7_kept v), (X7_isKept v), z27_v_saved, z27_v_savedMany, (X7_text v), (X7_length v), z27_v_thrown, (X7_joint v), (X7_position v), (X7_isWrong v), (X7_isHollow v), (X7_sure v), (X7_away v), (X7_digested v)) _ hq) (cwV 0 hts gX7_restore_X7_tunnels rfl rfl rfl (by decide +kernel) ⟨Nat.le_of_ble_eq_true rfl, Nat.le_of_ble_eq_true rfl⟩) ⟨xPre_blind, va_recv hK hP (ci := 7) (q0 := 0) rfl rfl, xPre_of hP hK hD⟩ rfl rfl hl.1 rfl (lv_room (Nat.le_of_ble_eq_true rfl)) dX7_restore_53 ⟨Nat.le_of_ble_eq_true rfl, Nat.le_of_ble_eq_true rfl⟩) hS (fun q _ h => hFc q h) hFc (fun r53 u9 t H locs ht hvm hq hB hz1 hk1 hS => ?_)
          obtain ⟨hP1, -, hD1⟩ := hB
          rw [ht] at hP1
          have hP : va_P (dC, dI) vwCl (cX7 cy a z27_v_s (X7_aside v) (X7_kept v) (X7_isKept v) z27_v_saved z27_v_savedMany (X7_text v) (X7_length v) z27_v_thrown (X7_joint v) (X7_position v) (X7_isWrong v) (X7_isHollow v) (X7_sure v) (X7_away v) (X7_digested v)) H := hP1
          have hD : va_D A (cX7 cy a z27_v_s (X7_aside v) (X7_kept v) (X7_isKept v) z27_v_saved z27_v_savedMany (X7_text v) (X7_length v) z27_v_thrown (X7_joint v) (X7_position v) (X7_isWrong v) (X7_isHollow v) (X7_sure v) (X7_away v) (X7_digested v)) := hD1.weaken (fun _ q _ h => hFc q.1 h)
          exact W.iret (v := r53) hx hb hr (fun t ht hW => ⟨⟨r53, (z27_v_s, z27_v_saved, z27_v_savedMany, z27_v_thrown), rfl, hq, (xAt_of hP hK hD ht hW)⟩, hS.F ht⟩) hS.2.2 dX7_restore_56
        · have hq := hqB c2
          refine lv_aload_n hx hb dX7_restore_34 rfl (lv_at hl 0 rfl) ?_
          refine va_get (D := (dC, dI)) (ci := 7) (v := .ref (a 1)) (C := RX7) (T := TX7) (N := 16) hx hb hts iK7 hown hK hP 0 rfl rfl 0 (by decide) lk0 (fun _ h9 => h9) rfl dX7_restore_35 ?_
          refine lv_iload_n hx hb dX7_restore_38 rfl (lv_at hl 1 rfl) ?_
          refine lv_aload_n hx hb dX7_restore_39 rfl (lv_at hl 0 rfl) ?_
          refine va_get (D := (dC, dI)) (ci := 7) (v := .ref (a 3)) (C := RX7) (T := TX7) (N := 16) hx hb hts iK7 hown hK hP 0 rfl rfl 2 (by decide) lk1 (fun _ h9 => h9) rfl dX7_restore_40 ?_
          refine lv_iload_n hx hb dX7_restore_43 rfl (lv_at hl 1 rfl) ?_
          obtain ⟨g1, hq⟩ := hq
          refine va_iald hx hb hK hP 3 0 rfl rfl g1 dX7_restore_44 ?_
          refine va_iast hx hb hK hP hD hS 1 0 rfl rfl g1 dX7_restore_45 (fun H locs hP hD hS => ?_)
          have hP : va_P (dC, dI) vwCl (cX7 cy a (upd z27_v_s y27_1.toNatClampNeg ((X7_kept v) y27_1.toNatClampNeg)) (X7_aside v) (X7_kept v) (X7_isKept v) z27_v_saved z27_v_savedMany (X7_text v) (X7_length v) z27_v_thrown (X7_joint v) (X7_position v) (X7_isWrong v) (X7_isHollow v) (X7_sure v) (X7_away v) (X7_digested v)) H := hP
          have hD : va_D A (cX7 cy a (upd z27_v_s y27_1.toNatClampNeg ((X7_kept v) y27_1.toNatClampNeg)) (X7_aside v) (X7_kept v) (X7_isKept v) z27_v_saved z27_v_savedMany (X7_text v) (X7_length v) z27_v_thrown (X7_joint v) (X7_position v) (X7_isWrong v) (X7_isHollow v) (X7_sure v) (X7_away v) (X7_digested v)) := hD
          refine lv_iinc (v := (y27_1 + 1)) (lv' := [(1, .int (y27_1 + 1)), (0, .ref (a 0))]) hx hb dX7_restore_46 hl (k := 1) rfl rfl (by decide) rfl (fun ls hl => ?_)
          refine lv_goto (tgt := 27) hx hb dX7_restore_49 (by decide) ?_
          exact bk27 (y27_1 + 1) (upd z27_v_s y27_1.toNatClampNeg ((X7_kept v) y27_1.toNatClampNeg)) _ _ _ hq hP hD hS (lv_sub hl [1, 0] rfl)
    exact key _ y27_1 z27_v_s H locs ls h0 (Nat.lt_succ_self _) hP hD hS hl
  have J13 : ∀ (k13_0 : Int32) (H : Heap) (locs : List Loc) (ls : Array Slot), wp_X7_restore_13 v k13_0 Q → va_P (dC, dI) vwCl (wX7 cy a v) H → va_D A (wX7 cy a v) → va_S A s.heap H locs → lv_has ls 2 [(0, .ref (a 0))] → W p l e (headSpec wsX7_restore ({ frames := 1, cells := 0, slots := 0, locals := 22 } : Room)).room s m ([.ref (a 0)] : List Value).toArray below meth c H locs 0 0 (MQ below (q_X7_restore dC dI cy a v Q A) ([.ref (a 0)] : List Value).toArray s 0 0 A) (F0 m 13 ls [.int k13_0, .ref (a 0)]) := by
    intro k13_0 H locs ls hq hP hD hS hl
    unfold wp_X7_restore_13 at hq
    have hFc := xfree_same hS hAe0 (ws := (wX7 cy a v)) hD
    refine va_calli (va_runV (As := [.int k13_0]) (rest := []) ⟨hx, hb, hml, hown, hts⟩ (c_X7_holds l dC dI cy a _ v k13_0 _ hq) (cwV 1 hts gX7_restore_X7_holds rfl rfl rfl (by decide +kernel) ⟨Nat.le_of_ble_eq_true rfl, Nat.le_of_ble_eq_true rfl⟩) ⟨xPre_blind, va_recv hK hP (ci := 7) (q0 := 0) rfl rfl, xPre_of hP hK hD⟩ rfl rfl hl.1 rfl (lv_room (Nat.le_of_ble_eq_true rfl)) dX7_restore_13 ⟨Nat.le_of_ble_eq_true rfl, Nat.le_of_ble_eq_true rfl⟩) hS (fun q _ h => hFc q h) hFc (fun r13 z13_v_thrown t H locs ht hvm hq hB hz1 hk1 hS => ?_)
    obtain ⟨hP1, -, hD1⟩ := hB
    rw [ht] at hP1
    have hP : va_P (dC, dI) vwCl (cX7 cy a (X7_s v) (X7_aside v) (X7_kept v) (X7_isKept v) (X7_saved v) (X7_savedMany v) (X7_text v) (X7_length v) z13_v_thrown (X7_joint v) (X7_position v) (X7_isWrong v) (X7_isHollow v) (X7_sure v) (X7_away v) (X7_digested v)) H := hP1
    have hD : va_D A (cX7 cy a (X7_s v) (X7_aside v) (X7_kept v) (X7_isKept v) (X7_saved v) (X7_savedMany v) (X7_text v) (X7_length v) z13_v_thrown (X7_joint v) (X7_position v) (X7_isWrong v) (X7_isHollow v) (X7_sure v) (X7_away v) (X7_digested v)) := hD1.weaken (fun _ q _ h => hFc q.1 h)
    obtain ⟨hqA, hqB⟩ := hq
    refine lv_if_ne (tgt := 21) hx hb dX7_restore_16 (by decide) (fun c3 => ?_) (fun c3 => ?_)
    · have hq := hqB c3
      refine lv_aload_n hx hb dX7_restore_21 rfl (lv_at hl 0 rfl) ?_
      have hFc := xfree_same hS hAe0 (ws := (cX7 cy a (X7_s v) (X7_aside v) (X7_kept v) (X7_isKept v) (X7_saved v) (X7_savedMany v) (X7_text v) (X7_length v) z13_v_thrown (X7_joint v) (X7_position v) (X7_isWrong v) (X7_isHollow v) (X7_sure v) (X7_away v) (X7_digested v))) hD
      refine va_callv (va_runV (As := []) (rest := []) ⟨hx, hb, hml, hown, hts⟩ (c_X7_save l dC dI cy a _ (X7_s8 v z13_v_thrown) _ hq) (cwV 0 hts gX7_restore_X7_save rfl rfl rfl (by decide +kernel) ⟨Nat.le_of_ble_eq_true rfl, Nat.le_of_ble_eq_true rfl⟩) ⟨xPre_blind, va_recv hK hP (ci := 7) (q0 := 0) rfl rfl, xPre_of hP hK hD⟩ rfl rfl hl.1 rfl (lv_room (Nat.le_of_ble_eq_true rfl)) dX7_restore_22 ⟨Nat.le_of_ble_eq_true rfl, Nat.le_of_ble_eq_true rfl⟩) hS (fun q _ h => hFc q h) hFc (fun u9 t H locs ht hvm hq hB hz1 hk1 hS => ?_)
      obtain ⟨z22_v_saved, z22_v_savedMany⟩ := u9
      obtain ⟨hP1, -, hD1⟩ := hB
      rw [ht] at hP1
      have hP : va_P (dC, dI) vwCl (cX7 cy a (X7_s v) (X7_aside v) (X7_kept v) (X7_isKept v) z22_v_saved z22_v_savedMany (X7_text v) (X7_length v) z13_v_thrown (X7_joint v) (X7_position v) (X7_isWrong v) (X7_isHollow v) (X7_sure v) (X7_away v) (X7_digested v)) H := hP1
      have hD : va_D A (cX7 cy a (X7_s v) (X7_aside v) (X7_kept v) (X7_isKept v) z22_v_saved z22_v_savedMany (X7_text v) (X7_length v) z13_v_thrown (X7_joint v) (X7_position v) (X7_isWrong v) (X7_isHollow v) (X7_sure v) (X7_away v) (X7_digested v)) := hD1.weaken (fun _ q _ h => hFc q.1 h)
      refine lv_iconst (v := 0) hx hb dX7_restore_25 (by decide) ?_
      refine lv_istore_n (lv' := [(1, .int 0), (0, .ref (a 0))]) hx hb dX7_restore_26 rfl hl (by decide) rfl (fun ls hl => ?_)
      exact J27 z22_v_saved z22_v_savedMany z13_v_thrown 0 (X7_s v) _ _ _ hq hP hD hS (lv_sub hl [1, 0] rfl)
    · have hq := hqA c3
      refine lv_iconst (v := 0) hx hb dX7_restore_19 (by decide) ?_
      exact W.iret (v := 0) hx hb hr (fun t ht hW => ⟨⟨0, ((X7_s v), (X7_saved v), (X7_savedMany v), z13_v_thrown), rfl, hq, (xAt_of hP hK hD ht hW)⟩, hS.F ht⟩) hS.2.2 dX7_restore_20
  refine lv_aload_n hx hb dX7_restore_0 rfl (lv_at hl 0 rfl) ?_
  refine lv_aload_n hx hb dX7_restore_1 rfl (lv_at hl 0 rfl) ?_
  refine va_get (D := (dC, dI)) (ci := 7) (v := .int (X7_isKept v)) (C := RX7) (T := TX7) (N := 16) hx hb hts iK7 hown hK hP 0 rfl rfl 3 (by decide) lk2 (fun _ h9 => h9) rfl dX7_restore_2 ?_
  obtain ⟨hqA, hqB⟩ := hq
  refine lv_if_eq (tgt := 12) hx hb dX7_restore_5 (by decide) (fun c4 => ?_) (fun c4 => ?_)
  · have hq := hqA c4
    refine lv_iconst (v := 1) hx hb dX7_restore_12 (by decide) ?_
    exact J13 1  _ _ _ hq hP hD hS (lv_sub hl [0] rfl)
  · have hq := hqB c4
    refine lv_iconst (v := 0) hx hb dX7_restore_8 (by decide) ?_
    refine lv_goto (tgt := 13) hx hb dX7_restore_9 (by decide) ?_
    exact J13 0  _ _ _ hq hP hD hS (lv_sub hl [0] rfl)
def wb_X7_layHollow_65 (v : V_X7) (y53_1 : Int32) (z53_v_isHollow : (Nat → Int32)) (B53 : Int32 → (Nat → Int32) → Prop)  (y65_2 : Int32) (z65_v_isHollow : (Nat → Int32)) (B65 : Int32 → (Nat → Int32) → Prop) (Q : (Nat → Int32) → Prop) : Prop :=
  wp_X7_of y53_1 23 (fun r73 =>
  vp_in r73 1472 ∧ ((((X7_s v) r73.toNatClampNeg) ≤ y65_2 → B53 (y53_1 + 1) z65_v_isHollow) ∧
  (¬ ((X7_s v) r73.toNatClampNeg) ≤ y65_2 → wp_X7_of y53_1 (24 + y65_2) (fun r93 =>
  vp_in r93 1472 ∧ vp_in ((X7_s v) r93.toNatClampNeg) 64 ∧ B65 (y65_2 + 1) (upd z65_v_isHollow ((X7_s v) r93.toNatClampNeg).toNatClampNeg 1)))))
def wp_X7_layHollow_65 (v : V_X7) (y53_1 : Int32) (z53_v_isHollow : (Nat → Int32)) (B53 : Int32 → (Nat → Int32) → Prop)  (y65_2 : Int32) (z65_v_isHollow : (Nat → Int32)) (Q : (Nat → Int32) → Prop) : Prop :=
  ∃ (I : Int32 → (Nat → Int32) → Prop) (μ : Int32 → (Nat → Int32) → Nat), I y65_2 z65_v_isHollow ∧ ∀ (s0 : Int32) (s1 : (Nat → Int32)), I s0 s1 → wb_X7_layHollow_65 v y53_1 z53_v_isHollow B53  s0 s1 (fun t0 t1 => I t0 t1 ∧ μ t0 t1 < μ s0 s1) Q
def wb_X7_layHollow_53 (v : V_X7)  (y53_1 : Int32) (z53_v_isHollow : (Nat → Int32)) (B53 : Int32 → (Nat → Int32) → Prop) (Q : (Nat → Int32) → Prop) : Prop :=
  vp_in 1 1472 ∧ ((((X7_s v) (1 : Int32).toNatClampNeg) ≤ y53_1 → Q z53_v_isHollow) ∧
  (¬ ((X7_s v) (1 : Int32).toNatClampNeg) ≤ y53_1 → wp_X7_layHollow_65 v y53_1 z53_v_isHollow B53  0 z53_v_isHollow Q))
def wp_X7_layHollow_53 (v : V_X7)  (y53_1 : Int32) (z53_v_isHollow : (Nat → Int32)) (Q : (Nat → Int32) → Prop) : Prop :=
  ∃ (I : Int32 → (Nat → Int32) → Prop) (μ : Int32 → (Nat → Int32) → Nat), I y53_1 z53_v_isHollow ∧ ∀ (s0 : Int32) (s1 : (Nat → Int32)), I s0 s1 → wb_X7_layHollow_53 v  s0 s1 (fun t0 t1 => I t0 t1 ∧ μ t0 t1 < μ s0 s1) Q
def wb_X7_layHollow_23 (v : V_X7)  (y23_1 : Int32) (z23_v_isHollow : (Nat → Int32)) (B23 : Int32 → (Nat → Int32) → Prop) (Q : (Nat → Int32) → Prop) : Prop :=
  vp_in 7 1472 ∧ ((((X7_s v) (7 : Int32).toNatClampNeg) ≤ y23_1 → wp_X7_layHollow_53 v  0 z23_v_isHollow Q) ∧
  (¬ ((X7_s v) (7 : Int32).toNatClampNeg) ≤ y23_1 → wp_X7_tuftAt (X7_s12 v z23_v_isHollow) y23_1 (fun r40 =>
  vp_in r40 64 ∧ B23 (y23_1 + 1) (upd z23_v_isHollow r40.toNatClampNeg 1))))
def wp_X7_layHollow_23 (v : V_X7)  (y23_1 : Int32) (z23_v_isHollow : (Nat → Int32)) (Q : (Nat → Int32) → Prop) : Prop :=
  ∃ (I : Int32 → (Nat → Int32) → Prop) (μ : Int32 → (Nat → Int32) → Nat), I y23_1 z23_v_isHollow ∧ ∀ (s0 : Int32) (s1 : (Nat → Int32)), I s0 s1 → wb_X7_layHollow_23 v  s0 s1 (fun t0 t1 => I t0 t1 ∧ μ t0 t1 < μ s0 s1) Q
def wb_X7_layHollow_2 (v : V_X7)  (y2_1 : Int32) (z2_v_isHollow : (Nat → Int32)) (B2 : Int32 → (Nat → Int32) → Prop) (Q : (Nat → Int32) → Prop) : Prop :=
  ((64 ≤ y2_1 → wp_X7_layHollow_23 v  0 z2_v_isHollow Q) ∧
  (¬ 64 ≤ y2_1 → vp_in y2_1 64 ∧ B2 (y2_1 + 1) (upd z2_v_isHollow y2_1.toNatClampNeg 0)))
def wp_X7_layHollow_2 (v : V_X7)  (y2_1 : Int32) (z2_v_isHollow : (Nat → Int32)) (Q : (Nat → Int32) → Prop) : Prop :=
  ∃ (I : Int32 → (Nat → Int32) → Prop) (μ : Int32 → (Nat → Int32) → Nat), I y2_1 z2_v_isHollow ∧ ∀ (s0 : Int32) (s1 : (Nat → Int32)), I s0 s1 → wb_X7_layHollow_2 v  s0 s1 (fun t0 t1 => I t0 t1 ∧ μ t0 t1 < μ s0 s1) Q
def wp_X7_layHollow (v : V_X7) (Q : (Nat → Int32) → Prop) : Prop :=
  wp_X7_layHollow_2 v  0 (X7_isHollow v) Q
def q_X7_layHollow (dC : Nat → ClassId) (dI : Nat → Nat → Nat) (cy : Nat → ClassId) (a : Nat → Nat) (v : V_X7) (Q : (Nat → Int32) → Prop) (A : Nat → Prop) : Array Value → State → Outcome → State → Prop := va_Qv (fun (u : (Nat → Int32)) => Q u) (fun (u : (Nat → Int32)) t => xAt dC dI cy A (cX7 cy a (X7_s v) (X7_aside v) (X7_kept v) (X7_isKept v) (X7_saved v) (X7_savedMany v) (X7_text v) (X7_length v) (X7_thrown v) (X7_joint v) (X7_position v) (X7_isWrong v) u (X7_sure v) (X7_away v) (X7_digested v)) t) A
set_option maxHeartbeats 4000000 in
set_option maxRecDepth 100000 in
theorem c_X7_layHollow (l : Launch) (dC : Nat → ClassId) (dI : Nat → Nat → Nat) (cy : Nat → ClassId) (a : Nat → Nat) (sz : Nat) (v : V_X7) (Q : (Nat → Int32) → Prop) (hq : wp_X7_layHollow v Q) : Met l yX7_layHollow wsX7_layHollow ({ frames := 1, cells := 0, slots := 0, locals := 21 } : Room) (va_Pc [.ref (a 0)] (xPre dC dI cy (wX7 cy a v) sz)) (q_X7_layHollow dC dI cy a v Q (va_A (wX7 cy a v) sz)) 0 0 (va_A (wX7 cy a v) sz) := by
  refine Met.ofW (cc := cX7_layHollow) (maxL := 3) (ret := none) (by decide) rfl ?_
  intro p e s m args below meth c s₁ B hml hv
  obtain ⟨rfl, hsz, hP, hK, hD0⟩ := hv
  have hx := B.exec
  have hb := B.bytes
  have hr := B.returns
  have hts := atoms_spec (ws := wsX7_layHollow) B.pre
  have hown : s.vm.findClass RX7 = some m.cls := findClass_of_methodNamed B.named
  have hlocks := B.notSynchronized
  subst hsz
  have hD := hD0.self (sz := s.heap.size)
  generalize hAe : va_A (wX7 cy a v) s.heap.size = A at hD ⊢
  have hAe0 : ∀ q : Nat, s.heap.size ≤ q → A q := fun q h => by rw [← hAe]; exact Or.inr h
  have hS : va_S A s.heap s.heap [] := va_S.rf
  have hl := lv_entry ([.ref (a 0)]) (n := 3) (Nat.le_of_ble_eq_true rfl)
  rw [lg_entry_eq]
  generalize (lg_sl ([.ref (a 0)]) ++ List.replicate (3 - (lg_sl ([.ref (a 0)])).length) Slot.unset).toArray = ls at hl ⊢
  have hl : lv_has ls 3 [(0, .ref (a 0))] := hl
  have lk0 := hts (Cond.fieldLink RX7 7 "MolesLawnModel" "s" "[I") (List.mem_cons_of_mem _ (List.mem_append_left _ (List.mem_of_getElem? (i := 1) rfl)))
  have lk1 := hts (Cond.fieldLink RX7 28 "MolesLawnModel" "isHollow" "[Z") (List.mem_cons_of_mem _ (List.mem_append_left _ (List.mem_of_getElem? (i := 0) rfl)))
  have iK7 : ∀ w ∈ wsX70, w ∈ wsX7_layHollow := fun _ h => (List.mem_cons_of_mem _ (List.mem_append_right _ h))
  unfold wp_X7_layHollow at hq
  have J53 : ∀  (y53_1 : Int32) (z53_v_isHollow : (Nat → Int32)) (H : Heap) (locs : List Loc) (ls : Array Slot), wp_X7_layHollow_53 v  y53_1 z53_v_isHollow Q → va_P (dC, dI) vwCl (cX7 cy a (X7_s v) (X7_aside v) (X7_kept v) (X7_isKept v) (X7_saved v) (X7_savedMany v) (X7_text v) (X7_length v) (X7_thrown v) (X7_joint v) (X7_position v) (X7_isWrong v) z53_v_isHollow (X7_sure v) (X7_away v) (X7_digested v)) H → va_D A (cX7 cy a (X7_s v) (X7_aside v) (X7_kept v) (X7_isKept v) (X7_saved v) (X7_savedMany v) (X7_text v) (X7_length v) (X7_thrown v) (X7_joint v) (X7_position v) (X7_isWrong v) z53_v_isHollow (X7_sure v) (X7_away v) (X7_digested v)) → va_S A s.heap H locs → lv_has ls 3 [(0, .ref (a 0)), (1, .int y53_1)] → W p l e (headSpec wsX7_layHollow ({ frames := 1, cells := 0, slots := 0, locals := 21 } : Room)).room s m ([.ref (a 0)] : List Value).toArray below meth c H locs 0 0 (MQ below (q_X7_layHollow dC dI cy a v Q A) ([.ref (a 0)] : List Value).toArray s 0 0 A) (F0 m 53 ls []) := by
    intro  y53_1 z53_v_isHollow H locs ls hq hP hD hS hl
    obtain ⟨I53, μ53, h0, hs53⟩ := hq
    have key : ∀ (n : Nat) (y53_1 : Int32) (z53_v_isHollow : (Nat → Int32)) (H : Heap) (locs : List Loc) (ls : Array Slot), I53 y53_1 z53_v_isHollow → μ53 y53_1 z53_v_isHollow < n → va_P (dC, dI) vwCl (cX7 cy a (X7_s v) (X7_aside v) (X7_kept v) (X7_isKept v) (X7_saved v) (X7_savedMany v) (X7_text v) (X7_length v) (X7_thrown v) (X7_joint v) (X7_position v) (X7_isWrong v) z53_v_isHollow (X7_sure v) (X7_away v) (X7_digested v)) H → va_D A (cX7 cy a (X7_s v) (X7_aside v) (X7_kept v) (X7_isKept v) (X7_saved v) (X7_savedMany v) (X7_text v) (X7_length v) (X7_thrown v) (X7_joint v) (X7_position v) (X7_isWrong v) z53_v_isHollow (X7_sure v) (X7_away v) (X7_digested v)) → va_S A s.heap H locs → lv_has ls 3 [(0, .ref (a 0)), (1, .int y53_1)] → W p l e (headSpec wsX7_layHollow ({ frames := 1, cells := 0, slots := 0, locals := 21 } : Room)).room s m ([.ref (a 0)] : List Value).toArray below meth c H locs 0 0 (MQ below (q_X7_layHollow dC dI cy a v Q A) ([.ref (a 0)] : List Value).toArray s 0 0 A) (F0 m 53 ls []) := by
      intro n
      induction n with
      | zero => intro y53_1 z53_v_isHollow H locs ls _ hm; exact absurd hm (Nat.not_lt_zero _)
      | succ n ih =>
        intro y53_1 z53_v_isHollow H locs ls hI hm hP hD hS hl
        have hq := hs53 y53_1 z53_v_isHollow hI
        generalize hB53 : (fun (t0 : Int32) (t1 : (Nat → Int32)) => I53 t0 t1 ∧ μ53 t0 t1 < μ53 y53_1 z53_v_isHollow) = B53 at hq
        have bk53 : ∀ (y53_1 : Int32) (z53_v_isHollow : (Nat → Int32)) (H : Heap) (locs : List Loc) (ls : Array Slot), B53 y53_1 z53_v_isHollow → va_P (dC, dI) vwCl (cX7 cy a (X7_s v) (X7_aside v) (X7_kept v) (X7_isKept v) (X7_saved v) (X7_savedMany v) (X7_text v) (X7_length v) (X7_thrown v) (X7_joint v) (X7_position v) (X7_isWrong v) z53_v_isHollow (X7_sure v) (X7_away v) (X7_digested v)) H → va_D A (cX7 cy a (X7_s v) (X7_aside v) (X7_kept v) (X7_isKept v) (X7_saved v) (X7_savedMany v) (X7_text v) (X7_length v) (X7_thrown v) (X7_joint v) (X7_position v) (X7_isWrong v) z53_v_isHollow (X7_sure v) (X7_away v) (X7_digested v)) → va_S A s.heap H locs → lv_has ls 3 [(0, .ref (a 0)), (1, .int y53_1)] → W p l e (headSpec wsX7_layHollow ({ frames := 1, cells := 0, slots := 0, locals := 21 } : Room)).room s m ([.ref (a 0)] : List Value).toArray below meth c H locs 0 0 (MQ below (q_X7_layHollow dC dI cy a v Q A) ([.ref (a 0)] : List Value).toArray s 0 0 A) (F0 m 53 ls []) := by
          intro y53_1 z53_v_isHollow H locs ls h
          rw [← hB53] at h
          exact ih y53_1 z53_v_isHollow H locs ls h.1 (Nat.lt_of_lt_of_le h.2 (Nat.le_of_lt_succ hm))
        unfold wb_X7_layHollow_53 at hq
        have J65 : ∀  (y65_2 : Int32) (z65_v_isHollow : (Nat → Int32)) (H : Heap) (locs : List Loc) (ls : Array Slot), wp_X7_layHollow_65 v y53_1 z53_v_isHollow B53  y65_2 z65_v_isHollow Q → va_P (dC, dI) vwCl (cX7 cy a (X7_s v) (X7_aside v) (X7_kept v) (X7_isKept v) (X7_saved v) (X7_savedMany v) (X7_text v) (X7_length v) (X7_thrown v) (X7_joint v) (X7_position v) (X7_isWrong v) z65_v_isHollow (X7_sure v) (X7_away v) (X7_digested v)) H → va_D A (cX7 cy a (X7_s v) (X7_aside v) (X7_kept v) (X7_isKept v) (X7_saved v) (X7_savedMany v) (X7_text v) (X7_length v) (X7_thrown v) (X7_joint v) (X7_position v) (X7_isWrong v) z65_v_isHollow (X7_sure v) (X7_away v) (X7_digested v)) → va_S A s.heap H locs → lv_has ls 3 [(0, .ref (a 0)), (1, .int y53_1), (2, .int y65_2)] → W p l e (headSpec wsX7_layHollow ({ frames := 1, cells := 0, slots := 0, locals := 21 } : Room)).room s m ([.ref (a 0)] : List Value).toArray below meth c H locs 0 0 (MQ below (q_X7_layHollow dC dI cy a v Q A) ([.ref (a 0)] : List Value).toArray s 0 0 A) (F0 m 65 ls []) := by
          intro  y65_2 z65_v_isHollow H locs ls hq hP hD hS hl
          obtain ⟨I65, μ65, h0, hs65⟩ := hq
          have key : ∀ (n : Nat) (y65_2 : Int32) (z65_v_isHollow : (Nat → Int32)) (H : Heap) (locs : List Loc) (ls : Array Slot), I65 y65_2 z65_v_isHollow → μ65 y65_2 z65_v_isHollow < n → va_P (dC, dI) vwCl (cX7 cy a (X7_s v) (X7_aside v) (X7_kept v) (X7_isKept v) (X7_saved v) (X7_savedMany v) (X7_text v) (X7_length v) (X7_thrown v) (X7_joint v) (X7_position v) (X7_isWrong v) z65_v_isHollow (X7_sure v) (X7_away v) (X7_digested v)) H → va_D A (cX7 cy a (X7_s v) (X7_aside v) (X7_kept v) (X7_isKept v) (X7_saved v) (X7_savedMany v) (X7_text v) (X7_length v) (X7_thrown v) (X7_joint v) (X7_position v) (X7_isWrong v) z65_v_isHollow (X7_sure v) (X7_away v) (X7_digested v)) → va_S A s.heap H locs → lv_has ls 3 [(0, .ref (a 0)), (1, .int y53_1), (2, .int y65_2)] → W p l e (headSpec wsX7_layHollow ({ frames := 1, cells := 0, slots := 0, locals := 21 } : Room)).room s m ([.ref (a 0)] : List Value).toArray below meth c H locs 0 0 (MQ below (q_X7_layHollow dC dI cy a v Q A) ([.ref (a 0)] : List Value).toArray s 0 0 A) (F0 m 65 ls []) := by
            intro n
            induction n with
            | zero => intro y65_2 z65_v_isHollow H locs ls _ hm; exact absurd hm (Nat.not_lt_zero _)
            | succ n ih =>
              intro y65_2 z65_v_isHollow H locs ls hI hm hP hD hS hl
              have hq := hs65 y65_2 z65_v_isHollow hI
              generalize hB65 : (fun (t0 : Int32) (t1 : (Nat → Int32)) => I65 t0 t1 ∧ μ65 t0 t1 < μ65 y65_2 z65_v_isHollow) = B65 at hq
              have bk65 : ∀ (y65_2 : Int32) (z65_v_isHollow : (Nat → Int32)) (H : Heap) (locs : List Loc) (ls : Array Slot), B65 y65_2 z65_v_isHollow → va_P (dC, dI) vwCl (cX7 cy a (X7_s v) (X7_aside v) (X7_kept v) (X7_isKept v) (X7_saved v) (X7_savedMany v) (X7_text v) (X7_length v) (X7_thrown v) (X7_joint v) (X7_position v) (X7_isWrong v) z65_v_isHollow (X7_sure v) (X7_away v) (X7_digested v)) H → va_D A (cX7 cy a (X7_s v) (X7_aside v) (X7_kept v) (X7_isKept v) (X7_saved v) (X7_savedMany v) (X7_text v) (X7_length v) (X7_thrown v) (X7_joint v) (X7_position v) (X7_isWrong v) z65_v_isHollow (X7_sure v) (X7_away v) (X7_digested v)) → va_S A s.heap H locs → lv_has ls 3 [(0, .ref (a 0)), (1, .int y53_1), (2, .int y65_2)] → W p l e (headSpec wsX7_layHollow ({ frames := 1, cells := 0, slots := 0, locals := 21 } : Room)).room s m ([.ref (a 0)] : List Value).toArray below meth c H locs 0 0 (MQ below (q_X7_layHollow dC dI cy a v Q A) ([.ref (a 0)] : List Value).toArray s 0 0 A) (F0 m 65 ls []) := by
                intro y65_2 z65_v_isHollow H locs ls h
                rw [← hB65] at h
                exact ih y65_2 z65_v_isHollow H locs ls h.1 (Nat.lt_of_lt_of_le h.2 (Nat.le_of_lt_succ hm))
              unfold wb_X7_layHollow_65 at hq
              refine lv_iload_n hx hb dX7_layHollow_65 rfl (lv_at hl 2 rfl) ?_
              refine lv_aload_n hx hb dX7_layHollow_66 rfl (lv_at hl 0 rfl) ?_
              refine va_get (D := (dC, dI)) (ci := 7) (v := .ref (a 1)) (C := RX7) (T := TX7) (N := 16) hx hb hts iK7 hown hK hP 0 rfl rfl 0 (by decide) lk0 (fun _ h9 => h9) rfl dX7_layHollow_67 ?_
              refine lv_iload_n hx hb dX7_layHollow_70 rfl (lv_at hl 1 rfl) ?_
              refine lv_bipush (v := 23) hx hb dX7_layHollow_71 (by decide) ?_
              have hFc := xfree_none hS hAe0
              refine va_calli (va_runS (As := [.int y53_1, .int 23]) (rest := [.ref (a 1), .int y65_2]) ⟨hx, hb, hml, hown, hts⟩ (c_X7_of l dC dI cy  _ y53_1 23 _ hq) (va_cwS 2 hts gX7_layHollow_X7_of rfl rfl rfl (by decide +kernel) ⟨Nat.le_of_ble_eq_true rfl, Nat.le_of_ble_eq_true rfl⟩) ⟨xPre_blind, xPre_of xP_nil hK (xD_nil (A := A))⟩ rfl rfl hl.1 rfl (lv_room (Nat.le_of_ble_eq_true rfl)) dX7_layHollow_73 ⟨Nat.le_of_ble_eq_true rfl, Nat.le_of_ble_eq_true rfl⟩) hS (fun q _ h => hFc q h) hFc (fun r73 u9 t H locs ht hvm hq hB hz1 hk1 hS => ?_)
              have hP := xj_none hP hk1
              obtain ⟨g1, hq⟩ := hq
              refine va_iald hx hb hK hP 1 0 rfl rfl g1 dX7_layHollow_76 ?_
              obtain ⟨hqA, hqB⟩ := hq
              refine lv_icmp_ge (tgt := 105) hx hb dX7_layHollow_77 (by decide) (fun c4 => ?_) (fun c4 => ?_)
              · have hq := hqA c4
                refine lv_iinc (v := (y53_1 + 1)) (lv' := [(1, .int (y53_1 + 1)), (0, .ref (a 0)), (2, .int y65_2)]) hx hb dX7_layHollow_105 hl (k := 1) rfl rfl (by decide) rfl (fun ls hl => ?_)
                refine lv_goto (tgt := 53) hx hb dX7_layHollow_108 (by decide) ?_
                exact bk53 (y53_1 + 1) z65_v_isHollow _ _ _ hq hP hD hS (lv_sub hl [1, 0] rfl)
              · have hq := hqB c4
                refine lv_aload_n hx hb dX7_layHollow_80 rfl (lv_at hl 0 rfl) ?_
                refine va_get (D := (dC, dI)) (ci := 7) (v := .ref (a 7)) (C := RX7) (T := TX7) (N := 16) hx hb hts iK7 hown hK hP 0 rfl rfl 12 (by decide) lk1 (fun _ h9 => h9) rfl dX7_layHollow_81 ?_
                refine lv_aload_n hx hb dX7_layHollow_84 rfl (lv_at hl 0 rfl) ?_
                refine va_get (D := (dC, dI)) (ci := 7) (v := .ref (a 1)) (C := RX7) (T := TX7) (N := 16) hx hb hts iK7 hown hK hP 0 rfl rfl 0 (by decide) lk0 (fun _ h9 => h9) rfl dX7_layHollow_85 ?_
                refine lv_iload_n hx hb dX7_layHollow_88 rfl (lv_at hl 1 rfl) ?_
                refine lv_bipush (v := 24) hx hb dX7_layHollow_89 (by decide) ?_
                refine lv_iload_n hx hb dX7_layHollow_91 rfl (lv_at hl 2 rfl) ?_
                refine lv_iadd hx hb dX7_layHollow_92 ?_
                have hFc := xfree_none hS hAe0
                refine va_calli (va_runS (As := [.int y53_1, .int (24 + y65_2)]) (rest := [.ref (a 1), .ref (a 7)]) ⟨hx, hb, hml, hown, hts⟩ (c_X7_of l dC dI cy  _ y53_1 (24 + y65_2) _ hq) (va_cwS 2 hts gX7_layHollow_X7_of rfl rfl rfl (by decide +kernel) ⟨Nat.le_of_ble_eq_true rfl, Nat.le_of_ble_eq_true rfl⟩) ⟨xPre_blind, xPre_of xP_nil hK (xD_nil (A := A))⟩ rfl rfl hl.1 rfl (lv_room (Nat.le_of_ble_eq_true rfl)) dX7_layHollow_93 ⟨Nat.le_of_ble_eq_true rfl, Nat.le_of_ble_eq_true rfl⟩) hS (fun q _ h => hFc q h) hFc (fun r93 u9 t H locs ht hvm hq hB hz1 hk1 hS => ?_)
                have hP := xj_none hP hk1
                obtain ⟨g2, hq⟩ := hq
                refine va_iald hx hb hK hP 1 0 rfl rfl g2 dX7_layHollow_96 ?_
                refine lv_iconst (v := 1) hx hb dX7_layHollow_97 (by decide) ?_
                obtain ⟨g3, hq⟩ := hq
                refine va_zast hx hb hK hP hD hS 7 1 rfl rfl g3 dX7_layHollow_98 (fun H locs hP hD hS => ?_)
                rw [xnar1] at hP hD
                have hP : va_P (dC, dI) vwCl (cX7 cy a (X7_s v) (X7_aside v) (X7_kept v) (X7_isKept v) (X7_saved v) (X7_savedMany v) (X7_text v) (X7_length v) (X7_thrown v) (X7_joint v) (X7_position v) (X7_isWrong v) (upd z65_v_isHollow ((X7_s v) r93.toNatClampNeg).toNatClampNeg 1) (X7_sure v) (X7_away v) (X7_digested v)) H := hP
                have hD : va_D A (cX7 cy a (X7_s v) (X7_aside v) (X7_kept v) (X7_isKept v) (X7_saved v) (X7_savedMany v) (X7_text v) (X7_length v) (X7_thrown v) (X7_joint v) (X7_position v) (X7_isWrong v) (upd z65_v_isHollow ((X7_s v) r93.toNatClampNeg).toNatClampNeg 1) (X7_sure v) (X7_away v) (X7_digested v)) := hD
                refine lv_iinc (v := (y65_2 + 1)) (lv' := [(2, .int (y65_2 + 1)), (0, .ref (a 0)), (1, .int y53_1)]) hx hb dX7_layHollow_99 hl (k := 2) rfl rfl (by decide) rfl (fun ls hl => ?_)
                refine lv_goto (tgt := 65) hx hb dX7_layHollow_102 (by decide) ?_
                exact bk65 (y65_2 + 1) (upd z65_v_isHollow ((X7_s v) r93.toNatClampNeg).toNatClampNeg 1) _ _ _ hq hP hD hS (lv_sub hl [1, 2, 0] rfl)
          exact key _ y65_2 z65_v_isHollow H locs ls h0 (Nat.lt_succ_self _) hP hD hS hl
        refine lv_iload_n hx hb dX7_layHollow_53 rfl (lv_at hl 1 rfl) ?_
        refine lv_aload_n hx hb dX7_layHollow_54 rfl (lv_at hl 0 rfl) ?_
        refine va_get (D := (dC, dI)) (ci := 7) (v := .ref (a 1)) (C := RX7) (T := TX7) (N := 16) hx hb hts iK7 hown hK hP 0 rfl rfl 0 (by decide) lk0 (fun _ h9 => h9) rfl dX7_layHollow_55 ?_
        refine lv_iconst (v := 1) hx hb dX7_layHollow_58 (by decide) ?_
        obtain ⟨g5, hq⟩ := hq
        refine va_iald hx hb hK hP 1 0 rfl rfl g5 dX7_layHollow_59 ?_
        obtain ⟨hqA, hqB⟩ := hq
        refine lv_icmp_ge (tgt := 111) hx hb dX7_layHollow_60 (by decide) (fun c6 => ?_) (fun c6 => ?_)
        · have hq := hqA c6
          exact W.vret hx hb hr (fun t ht hW => ⟨⟨z53_v_isHollow, rfl, hq, (xAt_of hP hK hD ht hW)⟩, hS.F ht⟩) hS.2.2 dX7_layHollow_111
        · have hq := hqB c6
          refine lv_iconst (v := 0) hx hb dX7_layHollow_63 (by decide) ?_
          refine lv_istore_n (lv' := [(2, .int 0), (0, .ref (a 0)), (1, .int y53_1)]) hx hb dX7_layHollow_64 rfl hl (by decide) rfl (fun ls hl => ?_)
          exact J65  0 z53_v_isHollow _ _ _ hq hP hD hS (lv_sub hl [1, 2, 0] rfl)
    exact key _ y53_1 z53_v_isHollow H locs ls h0 (Nat.lt_succ_self _) hP hD hS hl
  have J23 : ∀  (y23_1 : Int32) (z23_v_isHollow : (Nat → Int32)) (H : Heap) (locs : List Loc) (ls : Array Slot), wp_X7_layHollow_23 v  y23_1 z23_v_isHollow Q → va_P (dC, dI) vwCl (cX7 cy a (X7_s v) (X7_aside v) (X7_kept v) (X7_isKept v) (X7_saved v) (X7_savedMany v) (X7_text v) (X7_length v) (X7_thrown v) (X7_joint v) (X7_position v) (X7_isWrong v) z23_v_isHollow (X7_sure v) (X7_away v) (X7_digested v)) H → va_D A (cX7 cy a (X7_s v) (X7_aside v) (X7_kept v) (X7_isKept v) (X7_saved v) (X7_savedMany v) (X7_text v) (X7_length v) (X7_thrown v) (X7_joint v) (X7_position v) (X7_isWrong v) z23_v_isHollow (X7_sure v) (X7_away v) (X7_digested v)) → va_S A s.heap H locs → lv_has ls 3 [(0, .ref (a 0)), (1, .int y23_1)] → W p l e (headSpec wsX7_layHollow ({ frames := 1, cells := 0, slots := 0, locals := 21 } : Room)).room s m ([.ref (a 0)] : List Value).toArray below meth c H locs 0 0 (MQ below (q_X7_layHollow dC dI cy a v Q A) ([.ref (a 0)] : List Value).toArray s 0 0 A) (F0 m 23 ls []) := by
    intro  y23_1 z23_v_isHollow H locs ls hq hP hD hS hl
    obtain ⟨I23, μ23, h0, hs23⟩ := hq
    have key : ∀ (n : Nat) (y23_1 : Int32) (z23_v_isHollow : (Nat → Int32)) (H : Heap) (locs : List Loc) (ls : Array Slot), I23 y23_1 z23_v_isHollow → μ23 y23_1 z23_v_isHollow < n → va_P (dC, dI) vwCl (cX7 cy a (X7_s v) (X7_aside v) (X7_kept v) (X7_isKept v) (X7_saved v) (X7_savedMany v) (X7_text v) (X7_length v) (X7_thrown v) (X7_joint v) (X7_position v) (X7_isWrong v) z23_v_isHollow (X7_sure v) (X7_away v) (X7_digested v)) H → va_D A (cX7 cy a (X7_s v) (X7_aside v) (X7_kept v) (X7_isKept v) (X7_saved v) (X7_savedMany v) (X7_text v) (X7_length v) (X7_thrown v) (X7_joint v) (X7_position v) (X7_isWrong v) z23_v_isHollow (X7_sure v) (X7_away v) (X7_digested v)) → va_S A s.heap H locs → lv_has ls 3 [(0, .ref (a 0)), (1, .int y23_1)] → W p l e (headSpec wsX7_layHollow ({ frames := 1, cells := 0, slots := 0, locals := 21 } : Room)).room s m ([.ref (a 0)] : List Value).toArray below meth c H locs 0 0 (MQ below (q_X7_layHollow dC dI cy a v Q A) ([.ref (a 0)] : List Value).toArray s 0 0 A) (F0 m 23 ls []) := by
      intro n
      induction n with
      | zero => intro y23_1 z23_v_isHollow H locs ls _ hm; exact absurd hm (Nat.not_lt_zero _)
      | succ n ih =>
        intro y23_1 z23_v_isHollow H locs ls hI hm hP hD hS hl
        have hq := hs23 y23_1 z23_v_isHollow hI
        generalize hB23 : (fun (t0 : Int32) (t1 : (Nat → Int32)) => I23 t0 t1 ∧ μ23 t0 t1 < μ23 y23_1 z23_v_isHollow) = B23 at hq
        have bk23 : ∀ (y23_1 : Int32) (z23_v_isHollow : (Nat → Int32)) (H : Heap) (locs : List Loc) (ls : Array Slot), B23 y23_1 z23_v_isHollow → va_P (dC, dI) vwCl (cX7 cy a (X7_s v) (X7_aside v) (X7_kept v) (X7_isKept v) (X7_saved v) (X7_savedMany v) (X7_text v) (X7_length v) (X7_thrown v) (X7_joint v) (X7_position v) (X7_isWrong v) z23_v_isHollow (X7_sure v) (X7_away v) (X7_digested v)) H → va_D A (cX7 cy a (X7_s v) (X7_aside v) (X7_kept v) (X7_isKept v) (X7_saved v) (X7_savedMany v) (X7_text v) (X7_length v) (X7_thrown v) (X7_joint v) (X7_position v) (X7_isWrong v) z23_v_isHollow (X7_sure v) (X7_away v) (X7_digested v)) → va_S A s.heap H locs → lv_has ls 3 [(0, .ref (a 0)), (1, .int y23_1)] → W p l e (headSpec wsX7_layHollow ({ frames := 1, cells := 0, slots := 0, locals := 21 } : Room)).room s m ([.ref (a 0)] : List Value).toArray below meth c H locs 0 0 (MQ below (q_X7_layHollow dC dI cy a v Q A) ([.ref (a 0)] : List Value).toArray s 0 0 A) (F0 m 23 ls []) := by
          intro y23_1 z23_v_isHollow H locs ls h
          rw [← hB23] at h
          exact ih y23_1 z23_v_isHollow H locs ls h.1 (Nat.lt_of_lt_of_le h.2 (Nat.le_of_lt_succ hm))
        unfold wb_X7_layHollow_23 at hq
        refine lv_iload_n hx hb dX7_layHollow_23 rfl (lv_at hl 1 rfl) ?_
        refine lv_aload_n hx hb dX7_layHollow_24 rfl (lv_at hl 0 rfl) ?_
        refine va_get (D := (dC, dI)) (ci := 7) (v := .ref (a 1)) (C := RX7) (T := TX7) (N := 16) hx hb hts iK7 hown hK hP 0 rfl rfl 0 (by decide) lk0 (fun _ h9 => h9) rfl dX7_layHollow_25 ?_
        refine lv_bipush (v := 7) hx hb dX7_layHollow_28 (by decide) ?_
        obtain ⟨g7, hq⟩ := hq
        refine va_iald hx hb hK hP 1 0 rfl rfl g7 dX7_layHollow_30 ?_
        obtain ⟨hqA, hqB⟩ := hq
        refine lv_icmp_ge (tgt := 51) hx hb dX7_layHollow_31 (by decide) (fun c9 => ?_) (fun c9 => ?_)
        · have hq := hqA c9
          refine lv_iconst (v := 0) hx hb dX7_layHollow_51 (by decide) ?_
          refine lv_istore_n (lv' := [(1, .int 0), (0, .ref (a 0))]) hx hb dX7_layHollow_52 rfl hl (by decide) rfl (fun ls hl => ?_)
          exact J53  0 z23_v_isHollow _ _ _ hq hP hD hS (lv_sub hl [1, 0] rfl)
        · have hq := hqB c9
          refine lv_aload_n hx hb dX7_layHollow_34 rfl (lv_at hl 0 rfl) ?_
          refine va_get (D := (dC, dI)) (ci := 7) (v := .ref (a 7)) (C := RX7) (T := TX7) (N := 16) hx hb hts iK7 hown hK hP 0 rfl rfl 12 (by decide) lk1 (fun _ h9 => h9) rfl dX7_layHollow_35 ?_
          refine lv_aload_n hx hb dX7_layHollow_38 rfl (lv_at hl 0 rfl) ?_
          refine lv_iload_n hx hb dX7_layHollow_39 rfl (lv_at hl 1 rfl) ?_
          have hFc := xfree_same hS hAe0 (ws := (cX7 cy a (X7_s v) (X7_aside v) (X7_kept v) (X7_isKept v) (X7_saved v) (X7_savedMany v) (X7_text v) (X7_length v) (X7_thrown v) (X7_joint v) (X7_position v) (X7_isWrong v) z23_v_isHollow (X7_sure v) (X7_away v) (X7_digested v))) hD
          refine va_calli (va_runV (As := [.int y23_1]) (rest := [.ref (a 7)]) ⟨hx, hb, hml, hown, hts⟩ (c_X7_tuftAt l dC dI cy a _ (X7_s12 v z23_v_isHollow) y23_1 _ hq) (cwV 1 hts gX7_layHollow_X7_tuftAt rfl rfl rfl (by decide +kernel) ⟨Nat.le_of_ble_eq_true rfl, Nat.le_of_ble_eq_true rfl⟩) ⟨xPre_blind, va_recv hK hP (ci := 7) (q0 := 0) rfl rfl, xPre_of hP hK hD⟩ rfl rfl hl.1 rfl (lv_room (Nat.le_of_ble_eq_true rfl)) dX7_layHollow_40 ⟨Nat.le_of_ble_eq_true rfl, Nat.le_of_ble_eq_true rfl⟩) hS (fun q _ h => hFc q h) hFc (fun r40 u9 t H locs ht hvm hq hB hz1 hk1 hS => ?_)
          obtain ⟨hP1, -, hD1⟩ := hB
          rw [ht] at hP1
          have hP : va_P (dC, dI) vwCl (cX7 cy a (X7_s v) (X7_aside v) (X7_kept v) (X7_isKept v) (X7_saved v) (X7_savedMany v) (X7_text v) (X7_length v) (X7_thrown v) (X7_joint v) (X7_position v) (X7_isWrong v) z23_v_isHollow (X7_sure v) (X7_away v) (X7_digested v)) H := hP1
          have hD : va_D A (cX7 cy a (X7_s v) (X7_aside v) (X7_kept v) (X7_isKept v) (X7_saved v) (X7_savedMany v) (X7_text v) (X7_length v) (X7_thrown v) (X7_joint v) (X7_position v) (X7_isWrong v) z23_v_isHollow (X7_sure v) (X7_away v) (X7_digested v)) := hD1.weaken (fun _ q _ h => hFc q.1 h)
          refine lv_iconst (v := 1) hx hb dX7_layHollow_43 (by decide) ?_
          obtain ⟨g8, hq⟩ := hq
          refine va_zast hx hb hK hP hD hS 7 1 rfl rfl g8 dX7_layHollow_44 (fun H locs hP hD hS => ?_)
          rw [xnar1] at hP hD
          have hP : va_P (dC, dI) vwCl (cX7 cy a (X7_s v) (X7_aside v) (X7_kept v) (X7_isKept v) (X7_saved v) (X7_savedMany v) (X7_text v) (X7_length v) (X7_thrown v) (X7_joint v) (X7_position v) (X7_isWrong v) (upd z23_v_isHollow r40.toNatClampNeg 1) (X7_sure v) (X7_away v) (X7_digested v)) H := hP
          have hD : va_D A (cX7 cy a (X7_s v) (X7_aside v) (X7_kept v) (X7_isKept v) (X7_saved v) (X7_savedMany v) (X7_text v) (X7_length v) (X7_thrown v) (X7_joint v) (X7_position v) (X7_isWrong v) (upd z23_v_isHollow r40.toNatClampNeg 1) (X7_sure v) (X7_away v) (X7_digested v)) := hD
          refine lv_iinc (v := (y23_1 + 1)) (lv' := [(1, .int (y23_1 + 1)), (0, .ref (a 0))]) hx hb dX7_layHollow_45 hl (k := 1) rfl rfl (by decide) rfl (fun ls hl => ?_)
          refine lv_goto (tgt := 23) hx hb dX7_layHollow_48 (by decide) ?_
          exact bk23 (y23_1 + 1) (upd z23_v_isHollow r40.toNatClampNeg 1) _ _ _ hq hP hD hS (lv_sub hl [1, 0] rfl)
    exact key _ y23_1 z23_v_isHollow H locs ls h0 (Nat.lt_succ_self _) hP hD hS hl
  have J2 : ∀  (y2_1 : Int32) (z2_v_isHollow : (Nat → Int32)) (H : Heap) (locs : List Loc) (ls : Array Slot), wp_X7_layHollow_2 v  y2_1 z2_v_isHollow Q → va_P (dC, dI) vwCl (cX7 cy a (X7_s v) (X7_aside v) (X7_kept v) (X7_isKept v) (X7_saved v) (X7_savedMany v) (X7_text v) (X7_length v) (X7_thrown v) (X7_joint v) (X7_position v) (X7_isWrong v) z2_v_isHollow (X7_sure v) (X7_away v) (X7_digested v)) H → va_D A (cX7 cy a (X7_s v) (X7_aside v) (X7_kept v) (X7_isKept v) (X7_saved v) (X7_savedMany v) (X7_text v) (X7_length v) (X7_thrown v) (X7_joint v) (X7_position v) (X7_isWrong v) z2_v_isHollow (X7_sure v) (X7_away v) (X7_digested v)) → va_S A s.heap H locs → lv_has ls 3 [(0, .ref (a 0)), (1, .int y2_1)] → W p l e (headSpec wsX7_layHollow ({ frames := 1, cells := 0, slots := 0, locals := 21 } : Room)).room s m ([.ref (a 0)] : List Value).toArray below meth c H locs 0 0 (MQ below (q_X7_layHollow dC dI cy a v Q A) ([.ref (a 0)] : List Value).toArray s 0 0 A) (F0 m 2 ls []) := by
    intro  y2_1 z2_v_isHollow H locs ls hq hP hD hS hl
    obtain ⟨I2, μ2, h0, hs2⟩ := hq
    have key : ∀ (n : Nat) (y2_1 : Int32) (z2_v_isHollow : (Nat → Int32)) (H : Heap) (locs : List Loc) (ls : Array Slot), I2 y2_1 z2_v_isHollow → μ2 y2_1 z2_v_isHollow < n → va_P (dC, dI) vwCl (cX7 cy a (X7_s v) (X7_aside v) (X7_kept v) (X7_isKept v) (X7_saved v) (X7_savedMany v) (X7_text v) (X7_length v) (X7_thrown v) (X7_joint v) (X7_position v) (X7_isWrong v) z2_v_isHollow (X7_sure v) (X7_away v) (X7_digested v)) H → va_D A (cX7 cy a (X7_s v) (X7_aside v) (X7_kept v) (X7_isKept v) (X7_saved v) (X7_savedMany v) (X7_text v) (X7_length v) (X7_thrown v) (X7_joint v) (X7_position v) (X7_isWrong v) z2_v_isHollow (X7_sure v) (X7_away v) (X7_digested v)) → va_S A s.heap H locs → lv_has ls 3 [(0, .ref (a 0)), (1, .int y2_1)] → W p l e (headSpec wsX7_layHollow ({ frames := 1, cells := 0, slots := 0, locals := 21 } : Room)).room s m ([.ref (a 0)] : List Value).toArray below meth c H locs 0 0 (MQ below (q_X7_layHollow dC dI cy a v Q A) ([.ref (a 0)] : List Value).toArray s 0 0 A) (F0 m 2 ls []) := by
      intro n
      induction n with
      | zero => intro y2_1 z2_v_isHollow H locs ls _ hm; exact absurd hm (Nat.not_lt_zero _)
      | succ n ih =>
        intro y2_1 z2_v_isHollow H locs ls hI hm hP hD hS hl
        have hq := hs2 y2_1 z2_v_isHollow hI
        generalize hB2 : (fun (t0 : Int32) (t1 : (Nat → Int32)) => I2 t0 t1 ∧ μ2 t0 t1 < μ2 y2_1 z2_v_isHollow) = B2 at hq
        have bk2 : ∀ (y2_1 : Int32) (z2_v_isHollow : (Nat → Int32)) (H : Heap) (locs : List Loc) (ls : Array Slot), B2 y2_1 z2_v_isHollow → va_P (dC, dI) vwCl (cX7 cy a (X7_s v) (X7_aside v) (X7_kept v) (X7_isKept v) (X7_saved v) (X7_savedMany v) (X7_text v) (X7_length v) (X7_thrown v) (X7_joint v) (X7_position v) (X7_isWrong v) z2_v_isHollow (X7_sure v) (X7_away v) (X7_digested v)) H → va_D A (cX7 cy a (X7_s v) (X7_aside v) (X7_kept v) (X7_isKept v) (X7_saved v) (X7_savedMany v) (X7_text v) (X7_length v) (X7_thrown v) (X7_joint v) (X7_position v) (X7_isWrong v) z2_v_isHollow (X7_sure v) (X7_away v) (X7_digested v)) → va_S A s.heap H locs → lv_has ls 3 [(0, .ref (a 0)), (1, .int y2_1)] → W p l e (headSpec wsX7_layHollow ({ frames := 1, cells := 0, slots := 0, locals := 21 } : Room)).room s m ([.ref (a 0)] : List Value).toArray below meth c H locs 0 0 (MQ below (q_X7_layHollow dC dI cy a v Q A) ([.ref (a 0)] : List Value).toArray s 0 0 A) (F0 m 2 ls []) := by
          intro y2_1 z2_v_isHollow H locs ls h
          rw [← hB2] at h
          exact ih y2_1 z2_v_isHollow H locs ls h.1 (Nat.lt_of_lt_of_le h.2 (Nat.le_of_lt_succ hm))
        unfold wb_X7_layHollow_2 at hq
        refine lv_iload_n hx hb dX7_layHollow_2 rfl (lv_at hl 1 rfl) ?_
        refine lv_bipush (v := 64) hx hb dX7_layHollow_3 (by decide) ?_
        obtain ⟨hqA, hqB⟩ := hq
        refine lv_icmp_ge (tgt := 21) hx hb dX7_layHollow_5 (by decide) (fun c11 => ?_) (fun c11 => ?_)
        · have hq := hqA c11
          refine lv_iconst (v := 0) hx hb dX7_layHollow_21 (by decide) ?_
          refine lv_istore_n (lv' := [(1, .int 0), (0, .ref (a 0))]) hx hb dX7_layHollow_22 rfl hl (by decide) rfl (fun ls hl => ?_)
          exact J23  0 z2_v_isHollow _ _ _ hq hP hD hS (lv_sub hl [1, 0] rfl)
        · have hq := hqB c11
          refine lv_aload_n hx hb dX7_layHollow_8 rfl (lv_at hl 0 rfl) ?_
          refine va_get (D := (dC, dI)) (ci := 7) (v := .ref (a 7)) (C := RX7) (T := TX7) (N := 16) hx hb hts iK7 hown hK hP 0 rfl rfl 12 (by decide) lk1 (fun _ h9 => h9) rfl dX7_layHollow_9 ?_
          refine lv_iload_n hx hb dX7_layHollow_12 rfl (lv_at hl 1 rfl) ?_
          refine lv_iconst (v := 0) hx hb dX7_layHollow_13 (by decide) ?_
          obtain ⟨g10, hq⟩ := hq
          refine va_zast hx hb hK hP hD hS 7 1 rfl rfl g10 dX7_layHollow_14 (fun H locs hP hD hS => ?_)
          rw [xnar0] at hP hD
          have hP : va_P (dC, dI) vwCl (cX7 cy a (X7_s v) (X7_aside v) (X7_kept v) (X7_isKept v) (X7_saved v) (X7_savedMany v) (X7_text v) (X7_length v) (X7_thrown v) (X7_joint v) (X7_position v) (X7_isWrong v) (upd z2_v_isHollow y2_1.toNatClampNeg 0) (X7_sure v) (X7_away v) (X7_digested v)) H := hP
          have hD : va_D A (cX7 cy a (X7_s v) (X7_aside v) (X7_kept v) (X7_isKept v) (X7_saved v) (X7_savedMany v) (X7_text v) (X7_length v) (X7_thrown v) (X7_joint v) (X7_position v) (X7_isWrong v) (upd z2_v_isHollow y2_1.toNatClampNeg 0) (X7_sure v) (X7_away v) (X7_digested v)) := hD
          refine lv_iinc (v := (y2_1 + 1)) (lv' := [(1, .int (y2_1 + 1)), (0, .ref (a 0))]) hx hb dX7_layHollow_15 hl (k := 1) rfl rfl (by decide) rfl (fun ls hl => ?_)
          refine lv_goto (tgt := 2) hx hb dX7_layHollow_18 (by decide) ?_
          exact bk2 (y2_1 + 1) (upd z2_v_isHollow y2_1.toNatClampNeg 0) _ _ _ hq hP hD hS (lv_sub hl [1, 0] rfl)
    exact key _ y2_1 z2_v_isHollow H locs ls h0 (Nat.lt_succ_self _) hP hD hS hl
  refine lv_iconst (v := 0) hx hb dX7_layHollow_0 (by decide) ?_
  refine lv_istore_n (lv' := [(1, .int 0), (0, .ref (a 0))]) hx hb dX7_layHollow_1 rfl hl (by decide) rfl (fun ls hl => ?_)
  exact J2  0 (X7_isHollow v) _ _ _ hq hP hD hS (lv_sub hl [1, 0] rfl)
def wb_X7_hollow_8 (v : V_X7) (z8_v_isHollow : (Nat → Int32)) (y8_1 : Int32) (y8_2 : Int32) (B8 : Int32 → Int32 → Prop) (Q : Int32 → (Nat → Int32) → Prop) : Prop :=
  ((64 ≤ y8_2 → Q y8_1 z8_v_isHollow) ∧
  (¬ 64 ≤ y8_2 → vp_in y8_2 64 ∧ (((z8_v_isHollow y8_2.toNatClampNeg) = 0 → B8 (y8_1 + 0) (y8_2 + 1)) ∧
  (¬ (z8_v_isHollow y8_2.toNatClampNeg) = 0 → B8 (y8_1 + 1) (y8_2 + 1)))))
def wp_X7_hollow_8 (v : V_X7) (z8_v_isHollow : (Nat → Int32)) (y8_1 : Int32) (y8_2 : Int32) (Q : Int32 → (Nat → Int32) → Prop) : Prop :=
  ∃ (I : Int32 → Int32 → Prop) (μ : Int32 → Int32 → Nat), I y8_1 y8_2 ∧ ∀ (s0 : Int32) (s1 : Int32), I s0 s1 → wb_X7_hollow_8 v z8_v_isHollow s0 s1 (fun t0 t1 => I t0 t1 ∧ μ t0 t1 < μ s0 s1) Q
def wp_X7_hollow (v : V_X7) (Q : Int32 → (Nat → Int32) → Prop) : Prop :=
  wp_X7_layHollow v (fun z1_v_isHollow =>
  wp_X7_hollow_8 v z1_v_isHollow 0 0 Q)
def q_X7_hollow (dC : Nat → ClassId) (dI : Nat → Nat → Nat) (cy : Nat → ClassId) (a : Nat → Nat) (v : V_X7) (Q : Int32 → (Nat → Int32) → Prop) (A : Nat → Prop) : Array Value → State → Outcome → State → Prop := va_Qi (fun (r : Int32) (u : (Nat → Int32)) => Q r u) (fun (u : (Nat → Int32)) t => xAt dC dI cy A (cX7 cy a (X7_s v) (X7_aside v) (X7_kept v) (X7_isKept v) (X7_saved v) (X7_savedMany v) (X7_text v) (X7_length v) (X7_thrown v) (X7_joint v) (X7_position v) (X7_isWrong v) u (X7_sure v) (X7_away v) (X7_digested v)) t) A
set_option maxHeartbeats 4000000 in
set_option maxRecDepth 100000 in
theorem c_X7_hollow (l : Launch) (dC : Nat → ClassId) (dI : Nat → Nat → Nat) (cy : Nat → ClassId) (a : Nat → Nat) (sz : Nat) (v : V_X7) (Q : Int32 → (Nat → Int32) → Prop) (hq : wp_X7_hollow v Q) : Met l yX7_hollow wsX7_hollow ({ frames := 2, cells := 0, slots := 0, locals := 43 } : Room) (va_Pc [.ref (a 0)] (xPre dC dI cy (wX7 cy a v) sz)) (q_X7_hollow dC dI cy a v Q (va_A (wX7 cy a v) sz)) 0 0 (va_A (wX7 cy a v) sz) := by
  refine Met.ofW (cc := cX7_hollow) (maxL := 3) (ret := (some .int)) (by decide) rfl ?_
  intro p e s m args below meth c s₁ B hml hv
  obtain ⟨rfl, hsz, hP, hK, hD0⟩ := hv
  have hx := B.exec
  have hb := B.bytes
  have hr := B.returns
  have hts := atoms_spec (ws := wsX7_hollow) B.pre
  have hown : s.vm.findClass RX7 = some m.cls := findClass_of_methodNamed B.named
  have hlocks := B.notSynchronized
  subst hsz
  have hD := hD0.self (sz := s.heap.size)
  generalize hAe : va_A (wX7 cy a v) s.heap.size = A at hD ⊢
  have hAe0 : ∀ q : Nat, s.heap.size ≤ q → A q := fun q h => by rw [← hAe]; exact Or.inr h
  have hS : va_S A s.heap s.heap [] := va_S.rf
  have hl := lv_entry ([.ref (a 0)]) (n := 3) (Nat.le_of_ble_eq_true rfl)
  rw [lg_entry_eq]
  generalize (lg_sl ([.ref (a 0)]) ++ List.replicate (3 - (lg_sl ([.ref (a 0)])).length) Slot.unset).toArray = ls at hl ⊢
  have hl : lv_has ls 3 [(0, .ref (a 0))] := hl
  have lk0 := hts (Cond.fieldLink RX7 28 "MolesLawnModel" "isHollow" "[Z") (List.mem_cons_of_mem _ (List.mem_append_left _ (List.mem_of_getElem? (i := 0) rfl)))
  have iK7 : ∀ w ∈ wsX70, w ∈ wsX7_hollow := fun _ h => (List.mem_cons_of_mem _ (List.mem_append_right _ h))
  unfold wp_X7_hollow at hq
  have J8 : ∀ (z8_v_isHollow : (Nat → Int32)) (y8_1 : Int32) (y8_2 : Int32) (H : Heap) (locs : List Loc) (ls : Array Slot), wp_X7_hollow_8 v z8_v_isHollow y8_1 y8_2 Q → va_P (dC, dI) vwCl (cX7 cy a (X7_s v) (X7_aside v) (X7_kept v) (X7_isKept v) (X7_saved v) (X7_savedMany v) (X7_text v) (X7_length v) (X7_thrown v) (X7_joint v) (X7_position v) (X7_isWrong v) z8_v_isHollow (X7_sure v) (X7_away v) (X7_digested v)) H → va_D A (cX7 cy a (X7_s v) (X7_aside v) (X7_kept v) (X7_isKept v) (X7_saved v) (X7_savedMany v) (X7_text v) (X7_length v) (X7_thrown v) (X7_joint v) (X7_position v) (X7_isWrong v) z8_v_isHollow (X7_sure v) (X7_away v) (X7_digested v)) → va_S A s.heap H locs → lv_has ls 3 [(0, .ref (a 0)), (1, .int y8_1), (2, .int y8_2)] → W p l e (headSpec wsX7_hollow ({ frames := 2, cells := 0, slots := 0, locals := 43 } : Room)).room s m ([.ref (a 0)] : List Value).toArray below meth c H locs 0 0 (MQ below (q_X7_hollow dC dI cy a v Q A) ([.ref (a 0)] : List Value).toArray s 0 0 A) (F0 m 8 ls []) := by
    intro z8_v_isHollow y8_1 y8_2 H locs ls hq hP hD hS hl
    obtain ⟨I8, μ8, h0, hs8⟩ := hq
    have key : ∀ (n : Nat) (y8_1 : Int32) (y8_2 : Int32) (H : Heap) (locs : List Loc) (ls : Array Slot), I8 y8_1 y8_2 → μ8 y8_1 y8_2 < n → va_P (dC, dI) vwCl (cX7 cy a (X7_s v) (X7_aside v) (X7_kept v) (X7_isKept v) (X7_saved v) (X7_savedMany v) (X7_text v) (X7_length v) (X7_thrown v) (X7_joint v) (X7_position v) (X7_isWrong v) z8_v_isHollow (X7_sure v) (X7_away v) (X7_digested v)) H → va_D A (cX7 cy a (X7_s v) (X7_aside v) (X7_kept v) (X7_isKept v) (X7_saved v) (X7_savedMany v) (X7_text v) (X7_length v) (X7_thrown v) (X7_joint v) (X7_position v) (X7_isWrong v) z8_v_isHollow (X7_sure v) (X7_away v) (X7_digested v)) → va_S A s.heap H locs → lv_has ls 3 [(0, .ref (a 0)), (1, .int y8_1), (2, .int y8_2)] → W p l e (headSpec wsX7_hollow ({ frames := 2, cells := 0, slots := 0, locals := 43 } : Room)).room s m ([.ref (a 0)] : List Value).toArray below meth c H locs 0 0 (MQ below (q_X7_hollow dC dI cy a v Q A) ([.ref (a 0)] : List Value).toArray s 0 0 A) (F0 m 8 ls []) := by
      intro n
      induction n with
      | zero => intro y8_1 y8_2 H locs ls _ hm; exact absurd hm (Nat.not_lt_zero _)
      | succ n ih =>
        intro y8_1 y8_2 H locs ls hI hm hP hD hS hl
        have hq := hs8 y8_1 y8_2 hI
        generalize hB8 : (fun (t0 : Int32) (t1 : Int32) => I8 t0 t1 ∧ μ8 t0 t1 < μ8 y8_1 y8_2) = B8 at hq
        have bk8 : ∀ (y8_1 : Int32) (y8_2 : Int32) (H : Heap) (locs : List Loc) (ls : Array Slot), B8 y8_1 y8_2 → va_P (dC, dI) vwCl (cX7 cy a (X7_s v) (X7_aside v) (X7_kept v) (X7_isKept v) (X7_saved v) (X7_savedMany v) (X7_text v) (X7_length v) (X7_thrown v) (X7_joint v) (X7_position v) (X7_isWrong v) z8_v_isHollow (X7_sure v) (X7_away v) (X7_digested v)) H → va_D A (cX7 cy a (X7_s v) (X7_aside v) (X7_kept v) (X7_isKept v) (X7_saved v) (X7_savedMany v) (X7_text v) (X7_length v) (X7_thrown v) (X7_joint v) (X7_position v) (X7_isWrong v) z8_v_isHollow (X7_sure v) (X7_away v) (X7_digested v)) → va_S A s.heap H locs → lv_has ls 3 [(0, .ref (a 0)), (1, .int y8_1), (2, .int y8_2)] → W p l e (headSpec wsX7_hollow ({ frames := 2, cells := 0, slots := 0, locals := 43 } : Room)).room s m ([.ref (a 0)] : List Value).toArray below meth c H locs 0 0 (MQ below (q_X7_hollow dC dI cy a v Q A) ([.ref (a 0)] : List Value).toArray s 0 0 A) (F0 m 8 ls []) := by
          intro y8_1 y8_2 H locs ls h
          rw [← hB8] at h
          exact ih y8_1 y8_2 H locs ls h.1 (Nat.lt_of_lt_of_le h.2 (Nat.le_of_lt_succ hm))
        unfold wb_X7_hollow_8 at hq
        refine lv_iload_n hx hb dX7_hollow_8 rfl (lv_at hl 2 rfl) ?_
        refine lv_bipush (v := 64) hx hb dX7_hollow_9 (by decide) ?_
        obtain ⟨hqA, hqB⟩ := hq
        refine lv_icmp_ge (tgt := 37) hx hb dX7_hollow_11 (by decide) (fun c3 => ?_) (fun c3 => ?_)
        · have hq := hqA c3
          refine lv_iload_n hx hb dX7_hollow_37 rfl (lv_at hl 1 rfl) ?_
          exact W.iret (v := y8_1) hx hb hr (fun t ht hW => ⟨⟨y8_1, z8_v_isHollow, rfl, hq, (xAt_of hP hK hD ht hW)⟩, hS.F ht⟩) hS.2.2 dX7_hollow_38
        · have hq := hqB c3
          refine lv_iload_n hx hb dX7_hollow_14 rfl (lv_at hl 1 rfl) ?_
          refine lv_aload_n hx hb dX7_hollow_15 rfl (lv_at hl 0 rfl) ?_
          refine va_get (D := (dC, dI)) (ci := 7) (v := .ref (a 7)) (C := RX7) (T := TX7) (N := 16) hx hb hts iK7 hown hK hP 0 rfl rfl 12 (by decide) lk0 (fun _ h9 => h9) rfl dX7_hollow_16 ?_
          refine lv_iload_n hx hb dX7_hollow_19 rfl (lv_at hl 2 rfl) ?_
          obtain ⟨g1, hq⟩ := hq
          refine va_zald hx hb hK hP 7 1 rfl rfl g1 dX7_hollow_20 ?_
          obtain ⟨hqA, hqB⟩ := hq
          refine lv_if_eq (tgt := 28) hx hb dX7_hollow_21 (by decide) (fun c2 => ?_) (fun c2 => ?_)
          · have hq := hqA c2
            refine lv_iconst (v := 0) hx hb dX7_hollow_28 (by decide) ?_
            refine lv_iadd hx hb dX7_hollow_29 ?_
            refine lv_istore_n (lv' := [(1, .int (y8_1 + 0)), (0, .ref (a 0)), (2, .int y8_2)]) hx hb dX7_hollow_30 rfl hl (by decide) rfl (fun ls hl => ?_)
            refine lv_iinc (v := (y8_2 + 1)) (lv' := [(2, .int (y8_2 + 1)), (1, .int (y8_1 + 0)), (0, .ref (a 0))]) hx hb dX7_hollow_31 hl (k := 2) rfl rfl (by decide) rfl (fun ls hl => ?_)
            refine lv_goto (tgt := 8) hx hb dX7_hollow_34 (by decide) ?_
            exact bk8 (y8_1 + 0) (y8_2 + 1) _ _ _ hq hP hD hS (lv_sub hl [2, 1, 0] rfl)
          · have hq := hqB c2
            refine lv_iconst (v := 1) hx hb dX7_hollow_24 (by decide) ?_
            refine lv_goto (tgt := 29) hx hb dX7_hollow_25 (by decide) ?_
            refine lv_iadd hx hb dX7_hollow_29 ?_
            refine lv_istore_n (lv' := [(1, .int (y8_1 + 1)), (0, .ref (a 0)), (2, .int y8_2)]) hx hb dX7_hollow_30 rfl hl (by decide) rfl (fun ls hl => ?_)
            refine lv_iinc (v := (y8_2 + 1)) (lv' := [(2, .int (y8_2 + 1)), (1, .int (y8_1 + 1)), (0, .ref (a 0))]) hx hb dX7_hollow_31 hl (k := 2) rfl rfl (by decide) rfl (fun ls hl => ?_)
            refine lv_goto (tgt := 8) hx hb dX7_hollow_34 (by decide) ?_
            exact bk8 (y8_1 + 1) (y8_2 + 1) _ _ _ hq hP hD hS (lv_sub hl [2, 1, 0] rfl)
    exact key _ y8_1 y8_2 H locs ls h0 (Nat.lt_succ_self _) hP hD hS hl
  refine lv_aload_n hx hb dX7_hollow_0 rfl (lv_at hl 0 rfl) ?_
  have hFc := xfree_same hS hAe0 (ws := (wX7 cy a v)) hD
  refine va_callv (va_runV (As := []) (rest := []) ⟨hx, hb, hml, hown, hts⟩ (c_X7_layHollow l dC dI cy a _ v _ hq) (cwV 0 hts gX7_hollow_X7_layHollow rfl rfl rfl (by decide +kernel) ⟨Nat.le_of_ble_eq_true rfl, Nat.le_of_ble_eq_true rfl⟩) ⟨xPre_blind, va_recv hK hP (ci := 7) (q0 := 0) rfl rfl, xPre_of hP hK hD⟩ rfl rfl hl.1 rfl (lv_room (Nat.le_of_ble_eq_true rfl)) dX7_hollow_1 ⟨Nat.le_of_ble_eq_true rfl, Nat.le_of_ble_eq_true rfl⟩) hS (fun q _ h => hFc q h) hFc (fun z1_v_isHollow t H locs ht hvm hq hB hz1 hk1 hS => ?_)
  obtain ⟨hP1, -, hD1⟩ := hB
  rw [ht] at hP1
  have hP : va_P (dC, dI) vwCl (cX7 cy a (X7_s v) (X7_aside v) (X7_kept v) (X7_isKept v) (X7_saved v) (X7_savedMany v) (X7_text v) (X7_length v) (X7_thrown v) (X7_joint v) (X7_position v) (X7_isWrong v) z1_v_isHollow (X7_sure v) (X7_away v) (X7_digested v)) H := hP1
  have hD : va_D A (cX7 cy a (X7_s v) (X7_aside v) (X7_kept v) (X7_isKept v) (X7_saved v) (X7_savedMany v) (X7_text v) (X7_length v) (X7_thrown v) (X7_joint v) (X7_position v) (X7_isWrong v) z1_v_isHollow (X7_sure v) (X7_away v) (X7_digested v)) := hD1.weaken (fun _ q _ h => hFc q.1 h)
  refine lv_iconst (v := 0) hx hb dX7_hollow_4 (by decide) ?_
  refine lv_istore_n (lv' := [(1, .int 0), (0, .ref (a 0))]) hx hb dX7_hollow_5 rfl hl (by decide) rfl (fun ls hl => ?_)
  refine lv_iconst (v := 0) hx hb dX7_hollow_6 (by decide) ?_
  refine lv_istore_n (lv' := [(2, .int 0), (1, .int 0), (0, .ref (a 0))]) hx hb dX7_hollow_7 rfl hl (by decide) rfl (fun ls hl => ?_)
  exact J8 z1_v_isHollow 0 0 _ _ _ hq hP hD hS (lv_sub hl [2, 1, 0] rfl)
