def wp_X6_moleOf (v : V_X6) (x1 : Int32) (x2 : Int32) (Q : Int32 → Prop) (QX : String → Prop) : Prop :=
  wp_X6_checkMole v x1 (wp_X6_checkWhat v x2 6 (vp_in x1 4 ∧ ((X0_molesR (X6_lawn v)) x1.toNatClampNeg) < 4 ∧ wp_X1_number ((X0_moles (X6_lawn v)) ((X0_molesR (X6_lawn v)) x1.toNatClampNeg)) x2 (fun r22 =>
  Q r22)) QX) QX
def q_X6_moleOf (dC : Nat → ClassId) (dI : Nat → Nat → Nat) (cy : Nat → ClassId) (a : Nat → Nat) (v : V_X6) (x1 : Int32) (x2 : Int32) (Q : Int32 → Prop) (A : Nat → Prop) : Array Value → State → Outcome → State → Prop := va_Qi (fun (r : Int32) (u : Unit) => Q r ) (fun (u : Unit) t => xAt dC dI cy A (wX6 cy a v) t) A
set_option maxHeartbeats 4000000 in
set_option maxRecDepth 100000 in
theorem c_X6_moleOf (l : Launch) (dC : Nat → ClassId) (dI : Nat → Nat → Nat) (cy : Nat → ClassId) (a : Nat → Nat) (sz : Nat) (v : V_X6) (x1 : Int32) (x2 : Int32) (Q : Int32 → Prop) (QX : String → Prop) (hX : ∀ E, ¬ QX E) (hq : wp_X6_moleOf v x1 x2 Q QX) : Met l yX6_moleOf wsX6_moleOf ({ frames := 2, cells := 0, slots := 0, locals := 41 } : Room) (va_Pc [.ref (a 0), .int x1, .int x2] (xPre dC dI cy (wX6 cy a v) sz)) (q_X6_moleOf dC dI cy a v x1 x2 Q (va_A (wX6 cy a v) sz)) 0 0 (va_A (wX6 cy a v) sz) := by
  refine Met.ofW (cc := cX6_moleOf) (maxL := 3) (ret := (some .int)) (by decide) rfl ?_
  intro p e s m args below meth c s₁ B hml hv
  obtain ⟨rfl, hsz, hP, hK, hD0⟩ := hv
  have hx := B.exec
  have hb := B.bytes
  have hr := B.returns
  have hts := atoms_spec (ws := wsX6_moleOf) B.pre
  have hown : s.vm.findClass RX6 = some m.cls := findClass_of_methodNamed B.named
  have hlocks := B.notSynchronized
  subst hsz
  have hD := hD0.self (sz := s.heap.size)
  generalize hAe : va_A (wX6 cy a v) s.heap.size = A at hD ⊢
  have hAe0 : ∀ q : Nat, s.heap.size ≤ q → A q := fun q h => by rw [← hAe]; exact Or.inr h
  have hS : va_S A s.heap s.heap [] := va_S.rf
  have hl := lv_entry ([.ref (a 0), .int x1, .int x2]) (n := 3) (Nat.le_of_ble_eq_true rfl)
  rw [lg_entry_eq]
  generalize (lg_sl ([.ref (a 0), .int x1, .int x2]) ++ List.replicate (3 - (lg_sl ([.ref (a 0), .int x1, .int x2])).length) Slot.unset).toArray = ls at hl ⊢
  have hl : lv_has ls 3 [(0, .ref (a 0)), (1, .int x1), (2, .int x2)] := hl
  have lk0 := hts (Cond.fieldLink RX6 15 "MolesLawn" "lawn" "LMolesLawn$Lawn;") (List.mem_cons_of_mem _ (List.mem_append_left _ (List.mem_append_left _ (List.mem_append_left _ (List.mem_append_left _ (List.mem_append_left _ (List.mem_append_left _ (List.mem_of_getElem? (i := 0) rfl))))))))
  have lk1 := hts (Cond.fieldLink RX6 86 "MolesLawn$Lawn" "moles" "[LMolesLawn$Mole;") (List.mem_cons_of_mem _ (List.mem_append_left _ (List.mem_append_left _ (List.mem_append_left _ (List.mem_append_left _ (List.mem_append_left _ (List.mem_append_left _ (List.mem_of_getElem? (i := 1) rfl))))))))
  have iK0 : ∀ w ∈ wsX00, w ∈ wsX6_moleOf := fun _ h => (List.mem_cons_of_mem _ (List.mem_append_left _ (List.mem_append_left _ (List.mem_append_left _ (List.mem_append_right _ h)))))
  have iK6 : ∀ w ∈ wsX60, w ∈ wsX6_moleOf := fun _ h => (List.mem_cons_of_mem _ (List.mem_append_left _ (List.mem_append_left _ (List.mem_append_left _ (List.mem_append_left _ (List.mem_append_right _ h))))))
  unfold wp_X6_moleOf at hq
  refine lv_aload_n hx hb dX6_moleOf_0 rfl (lv_at hl 0 rfl) ?_
  refine lv_iload_n hx hb dX6_moleOf_1 rfl (lv_at hl 1 rfl) ?_
  have hFc := xfree_same hS hAe0 (ws := (wX6 cy a v)) hD
  refine va_callv (va_runV (As := [.int x1]) (rest := []) ⟨hx, hb, hml, hown, hts⟩ (c_X6_checkMole l dC dI cy a _ v x1 _ _ hX hq) (cwV 1 hts gX6_moleOf_X6_checkMole rfl rfl rfl (by decide +kernel) ⟨Nat.le_of_ble_eq_true rfl, Nat.le_of_ble_eq_true rfl⟩) ⟨xPre_blind, va_recv hK hP (ci := 6) (q0 := 0) rfl rfl, xPre_of hP hK hD⟩ rfl rfl hl.1 rfl (lv_room (Nat.le_of_ble_eq_true rfl)) dX6_moleOf_2 ⟨Nat.le_of_ble_eq_true rfl, Nat.le_of_ble_eq_true rfl⟩) hS (fun q _ h => hFc q h) hFc (fun u9 t H locs ht hvm hq hB hz1 hk1 hS => ?_)
  obtain ⟨hP1, -, hD1⟩ := hB
  rw [ht] at hP1
  have hP : va_P (dC, dI) vwCl (wX6 cy a v) H := hP1
  have hD : va_D A (wX6 cy a v) := hD1.weaken (fun _ q _ h => hFc q.1 h)
  refine lv_aload_n hx hb dX6_moleOf_5 rfl (lv_at hl 0 rfl) ?_
  refine lv_iload_n hx hb dX6_moleOf_6 rfl (lv_at hl 2 rfl) ?_
  refine lv_bipush (v := 6) hx hb dX6_moleOf_7 (by decide) ?_
  have hFc := xfree_same hS hAe0 (ws := (wX6 cy a v)) hD
  refine va_callv (va_runV (As := [.int x2, .int 6]) (rest := []) ⟨hx, hb, hml, hown, hts⟩ (c_X6_checkWhat l dC dI cy a _ v x2 6 _ _ hX hq) (cwV 2 hts gX6_moleOf_X6_checkWhat rfl rfl rfl (by decide +kernel) ⟨Nat.le_of_ble_eq_true rfl, Nat.le_of_ble_eq_true rfl⟩) ⟨xPre_blind, va_recv hK hP (ci := 6) (q0 := 0) rfl rfl, xPre_of hP hK hD⟩ rfl rfl hl.1 rfl (lv_room (Nat.le_of_ble_eq_true rfl)) dX6_moleOf_9 ⟨Nat.le_of_ble_eq_true rfl, Nat.le_of_ble_eq_true rfl⟩) hS (fun q _ h => hFc q h) hFc (fun u9 t H locs ht hvm hq hB hz1 hk1 hS => ?_)
  obtain ⟨hP1, -, hD1⟩ := hB
  rw [ht] at hP1
  have hP : va_P (dC, dI) vwCl (wX6 cy a v) H := hP1
  have hD : va_D A (wX6 cy a v) := hD1.weaken (fun _ q _ h => hFc q.1 h)
  refine lv_aload_n hx hb dX6_moleOf_12 rfl (lv_at hl 0 rfl) ?_
  refine va_get (D := (dC, dI)) (ci := 6) (v := .ref (a 4)) (C := RX6) (T := TX6) (N := 9) hx hb hts iK6 hown hK hP 0 rfl rfl 0 (by decide) lk0 (fun _ h9 => h9) rfl dX6_moleOf_13 ?_
  refine va_get (D := (dC, dI)) (ci := 0) (v := .ref (a 12)) (C := RX0) (T := TX0) (N := 14) hx hb hts iK0 hown hK hP 4 rfl rfl 6 (by decide) lk1 (fun _ h9 => h9) rfl dX6_moleOf_16 ?_
  refine lv_iload_n hx hb dX6_moleOf_19 rfl (lv_at hl 1 rfl) ?_
  obtain ⟨g1, hq⟩ := hq
  obtain ⟨g2, hq⟩ := hq
  refine va_aldq hx hb hK hP 12 2 rfl rfl g1 dX6_moleOf_20 ?_
  refine lv_iload_n hx hb dX6_moleOf_21 rfl (lv_at hl 2 rfl) ?_
  have hC : (([(13 + 3 * ((X0_molesR (X6_lawn v)) x1.toNatClampNeg)), (14 + 3 * ((X0_molesR (X6_lawn v)) x1.toNatClampNeg)), (15 + 3 * ((X0_molesR (X6_lawn v)) x1.toNatClampNeg))] : List Nat).map (fun i => (wX6 cy a v)[i]?)) = (wX1 cy (sh (sh a 4) (9 + 3 * ((X0_molesR (X6_lawn v)) x1.toNatClampNeg))) ((X0_moles (X6_lawn v)) ((X0_molesR (X6_lawn v)) x1.toNatClampNeg))).map some := (co_4 (P := fun i19 => (([(13 + 3 * i19), (14 + 3 * i19), (15 + 3 * i19)] : List Nat).map (fun i => (wX6 cy a v)[i]?)) = (wX1 cy (sh (sh a 4) (9 + 3 * i19)) ((X0_moles (X6_lawn v)) i19)).map some) rfl rfl rfl rfl g2)
  have hN : va_nd [(13 + 3 * ((X0_molesR (X6_lawn v)) x1.toNatClampNeg)), (14 + 3 * ((X0_molesR (X6_lawn v)) x1.toNatClampNeg)), (15 + 3 * ((X0_molesR (X6_lawn v)) x1.toNatClampNeg))] = true := (co_4 (P := fun i19 => va_nd [(13 + 3 * i19), (14 + 3 * i19), (15 + 3 * i19)] = true) rfl rfl rfl rfl g2)
  have hPc := xsubP hP hC
  have hDc := xsubD hD hN hC
  have hFc := va_free (wc := (wX1 cy (sh (sh a 4) (9 + 3 * ((X0_molesR (X6_lawn v)) x1.toNatClampNeg))) ((X0_moles (X6_lawn v)) ((X0_molesR (X6_lawn v)) x1.toNatClampNeg)))) hD hS hAe0 [(13 + 3 * ((X0_molesR (X6_lawn v)) x1.toNatClampNeg)), (14 + 3 * ((X0_molesR (X6_lawn v)) x1.toNatClampNeg)), (15 + 3 * ((X0_molesR (X6_lawn v)) x1.toNatClampNeg))] hC
  refine va_calli (va_runV (As := [.int x2]) (rest := []) ⟨hx, hb, hml, hown, hts⟩ (c_X1_number l dC dI cy (sh (sh a 4) (9 + 3 * ((X0_molesR (X6_lawn v)) x1.toNatClampNeg))) _ ((X0_moles (X6_lawn v)) ((X0_molesR (X6_lawn v)) x1.toNatClampNeg)) x2 _ hq) (cwV 1 hts gX6_moleOf_X1_number rfl rfl rfl (by decide +kernel) ⟨Nat.le_of_ble_eq_true rfl, Nat.le_of_ble_eq_true rfl⟩) ⟨xPre_blind, va_recv hK hP (ci := 1) (q0 := (13 + 3 * ((X0_molesR (X6_lawn v)) x1.toNatClampNeg))) rfl (co_4 (P := fun i19 => (wX6 cy a v)[(13 + 3 * i19)]? = (wX1 cy (sh (sh a 4) (9 + 3 * i19)) ((X0_moles (X6_lawn v)) i19))[0]?) rfl rfl rfl rfl g2), xPre_of hPc hK hDc⟩ rfl rfl hl.1 rfl (lv_room (Nat.le_of_ble_eq_true rfl)) dX6_moleOf_22 ⟨Nat.le_of_ble_eq_true rfl, Nat.le_of_ble_eq_true rfl⟩) hS (fun q _ h => hFc q h) hFc (fun r22 u9 t H locs ht hvm hq hB hz1 hk1 hS => ?_)
  obtain ⟨hP1, -, hD1⟩ := hB
  rw [ht] at hP1
  have hP : va_P (dC, dI) vwCl (wX6 cy a v) H := xj_keep hP hD [(13 + 3 * ((X0_molesR (X6_lawn v)) x1.toNatClampNeg)), (14 + 3 * ((X0_molesR (X6_lawn v)) x1.toNatClampNeg)), (15 + 3 * ((X0_molesR (X6_lawn v)) x1.toNatClampNeg))] hC hP1 hk1
  exact W.iret (v := r22) hx hb hr (fun t ht hW => ⟨⟨r22, (), rfl, hq, (xAt_of hP hK hD ht hW)⟩, hS.F ht⟩) hS.2.2 dX6_moleOf_25
