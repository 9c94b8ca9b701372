def wp_X6_undo (v : V_X6) (Q : Int32 → V_X0 → Int32 → Prop) (QX : String → Prop) : Prop :=
  ((0 < (X6_savedCount v) → vp_in ((X6_savedCount v) - 1) 6 ∧ ((X6_savedR v) ((X6_savedCount v) - 1).toNatClampNeg) < 6 ∧ wp_X0_copyFrom (X6_lawn v) ((X6_saved v) ((X6_savedR v) ((X6_savedCount v) - 1).toNatClampNeg)) (fun z40_v_beats z40_v_caught z40_v_fallen z40_v_fullAir z40_v_gnawed z40_v_moleCount z40_v_moles z40_v_mounds z40_v_opened z40_v_risen z40_v_roots z40_v_traps z40_v_tunnels =>
  Q ((X6_savedCount v) - 1) (z40_v_mounds, z40_v_opened, z40_v_roots, z40_v_traps, z40_v_tunnels, (X0_molesR (X6_lawn v)), z40_v_moles, z40_v_moleCount, z40_v_fullAir, z40_v_beats, z40_v_caught, z40_v_gnawed, z40_v_risen, z40_v_fallen) ((X6_savedCount v) - 1))) ∧
  (¬ 0 < (X6_savedCount v) → QX "java/lang/IllegalStateException"))
def q_X6_undo (dC : Nat → ClassId) (dI : Nat → Nat → Nat) (cy : Nat → ClassId) (a : Nat → Nat) (v : V_X6) (Q : Int32 → V_X0 → Int32 → Prop) (A : Nat → Prop) : Array Value → State → Outcome → State → Prop := va_Qi (fun (r : Int32) (u : V_X0 × Int32) => Q r u.1 u.2) (fun (u : V_X0 × Int32) t => xAt dC dI cy A (cX6 cy a u.1 (X6_snapshot v) (X6_trial v) (X6_savedR v) (X6_saved v) (X6_text v) (X6_survey v) (X6_paths v) (X6_snapshotTaken v) u.2 (X6_spareR v)) t) A
set_option maxHeartbeats 4000000 in
set_option maxRecDepth 100000 in
theorem c_X6_undo (l : Launch) (dC : Nat → ClassId) (dI : Nat → Nat → Nat) (cy : Nat → ClassId) (a : Nat → Nat) (sz : Nat) (v : V_X6) (Q : Int32 → V_X0 → Int32 → Prop) (QX : String → Prop) (hX : ∀ E, ¬ QX E) (hq : wp_X6_undo v Q QX) : Met l yX6_undo wsX6_undo ({ frames := 3, cells := 0, slots := 0, locals := 69 } : Room) (va_Pc [.ref (a 0)] (xPre dC dI cy (wX6 cy a v) sz)) (q_X6_undo dC dI cy a v Q (va_A (wX6 cy a v) sz)) 0 0 (va_A (wX6 cy a v) sz) := by
  refine Met.ofW (cc := cX6_undo) (maxL := 1) (ret := (some .int)) (by decide) rfl ?_
  intro p e s m args below meth c s₁ B hml hv
  obtain ⟨rfl, hsz, hP, hK, hD0⟩ := hv
  have hx := B.exec
  have hb := B.bytes
  have hr := B.returns
  have hts := atoms_spec (ws := wsX6_undo) B.pre
  have hown : s.vm.findClass RX6 = some m.cls := findClass_of_methodNamed B.named
  have hlocks := B.notSynchronized
  subst hsz
  have hD := hD0.self (sz := s.heap.size)
  generalize hAe : va_A (wX6 cy a v) s.heap.size = A at hD ⊢
  have hAe0 : ∀ q : Nat, s.heap.size ≤ q → A q := fun q h => by rw [← hAe]; exact Or.inr h
  have hS : va_S A s.heap s.heap [] := va_S.rf
  have hl := lv_entry ([.ref (a 0)]) (n := 1) (Nat.le_of_ble_eq_true rfl)
  rw [lg_entry_eq]
  generalize (lg_sl ([.ref (a 0)]) ++ List.replicate (1 - (lg_sl ([.ref (a 0)])).length) Slot.unset).toArray = ls at hl ⊢
  have hl : lv_has ls 1 [(0, .ref (a 0))] := hl
  have lk0 := hts (Cond.fieldLink RX6 174 "MolesLawn" "savedCount" "I") (List.mem_cons_of_mem _ (List.mem_append_left _ (List.mem_append_left _ (List.mem_append_left _ (List.mem_append_left _ (List.mem_append_left _ (List.mem_append_left _ (List.mem_of_getElem? (i := 2) rfl))))))))
  have lk1 := hts (Cond.fieldLink RX6 15 "MolesLawn" "lawn" "LMolesLawn$Lawn;") (List.mem_cons_of_mem _ (List.mem_append_left _ (List.mem_append_left _ (List.mem_append_left _ (List.mem_append_left _ (List.mem_append_left _ (List.mem_append_left _ (List.mem_of_getElem? (i := 3) rfl))))))))
  have lk2 := hts (Cond.fieldLink RX6 27 "MolesLawn" "saved" "[LMolesLawn$Lawn;") (List.mem_cons_of_mem _ (List.mem_append_left _ (List.mem_append_left _ (List.mem_append_left _ (List.mem_append_left _ (List.mem_append_left _ (List.mem_append_left _ (List.mem_of_getElem? (i := 4) rfl))))))))
  have iK6 : ∀ w ∈ wsX60, w ∈ wsX6_undo := fun _ h => (List.mem_cons_of_mem _ (List.mem_append_left _ (List.mem_append_left _ (List.mem_append_left _ (List.mem_append_left _ (List.mem_append_right _ h))))))
  unfold wp_X6_undo at hq
  refine lv_aload_n hx hb dX6_undo_0 rfl (lv_at hl 0 rfl) ?_
  refine va_get (D := (dC, dI)) (ci := 6) (v := .int (X6_savedCount v)) (C := RX6) (T := TX6) (N := 9) hx hb hts iK6 hown hK hP 0 rfl rfl 8 (by decide) lk0 (fun _ h9 => h9) rfl dX6_undo_1 ?_
  obtain ⟨hqA, hqB⟩ := hq
  refine lv_if_gt (tgt := 17) hx hb dX6_undo_4 (by decide) (fun c3 => ?_) (fun c3 => ?_)
  · have hq := hqA c3
    refine lv_aload_n hx hb dX6_undo_17 rfl (lv_at hl 0 rfl) ?_
    refine lv_dup hx hb dX6_undo_18 rfl ?_
    refine va_get (D := (dC, dI)) (ci := 6) (v := .int (X6_savedCount v)) (C := RX6) (T := TX6) (N := 9) hx hb hts iK6 hown hK hP 0 rfl rfl 8 (by decide) lk0 (fun _ h9 => h9) rfl dX6_undo_19 ?_
    refine lv_iconst (v := 1) hx hb dX6_undo_22 (by decide) ?_
    refine lv_isub hx hb dX6_undo_23 ?_
    refine va_put (D := (dC, dI)) (ci := 6) (v := .int ((X6_savedCount v) - 1)) (ty := .int) (C := RX6) (T := TX6) (N := 9) hx hb hts iK6 tyX6 tyX6_ok nmX6 hown hK hP hD hS 0 rfl rfl 8 (by decide) lk0 (fun _ h9 => h9) rfl (by decide +kernel) rfl rfl (Nat.le_of_ble_eq_true rfl) dX6_undo_24 (fun H locs hP hD hS => ?_)
    have hP : va_P (dC, dI) vwCl (cX6 cy a (X6_lawn v) (X6_snapshot v) (X6_trial v) (X6_savedR v) (X6_saved v) (X6_text v) (X6_survey v) (X6_paths v) (X6_snapshotTaken v) ((X6_savedCount v) - 1) (X6_spareR v)) H := hP
    have hD : va_D A (cX6 cy a (X6_lawn v) (X6_snapshot v) (X6_trial v) (X6_savedR v) (X6_saved v) (X6_text v) (X6_survey v) (X6_paths v) (X6_snapshotTaken v) ((X6_savedCount v) - 1) (X6_spareR v)) := hD
    refine lv_aload_n hx hb dX6_undo_27 rfl (lv_at hl 0 rfl) ?_
    refine va_get (D := (dC, dI)) (ci := 6) (v := .ref (a 4)) (C := RX6) (T := TX6) (N := 9) hx hb hts iK6 hown hK hP 0 rfl rfl 0 (by decide) lk1 (fun _ h9 => h9) rfl dX6_undo_28 ?_
    refine lv_aload_n hx hb dX6_undo_31 rfl (lv_at hl 0 rfl) ?_
    refine va_get (D := (dC, dI)) (ci := 6) (v := .ref (a 67)) (C := RX6) (T := TX6) (N := 9) hx hb hts iK6 hown hK hP 0 rfl rfl 3 (by decide) lk2 (fun _ h9 => h9) rfl dX6_undo_32 ?_
    refine lv_aload_n hx hb dX6_undo_35 rfl (lv_at hl 0 rfl) ?_
    refine va_get (D := (dC, dI)) (ci := 6) (v := .int ((X6_savedCount v) - 1)) (C := RX6) (T := TX6) (N := 9) hx hb hts iK6 hown hK hP 0 rfl rfl 8 (by decide) lk0 (fun _ h9 => h9) rfl dX6_undo_36 ?_
    obtain ⟨g1, hq⟩ := hq
    obtain ⟨g2, hq⟩ := hq
    refine va_aldq hx hb hK hP 67 3 rfl rfl g1 dX6_undo_39 ?_
    have hC : ((rng (4) 21 ++ rng (68 + 21 * ((X6_savedR v) ((X6_savedCount v) - 1).toNatClampNeg)) 21).map (fun i => (cX6 cy a (X6_lawn v) (X6_snapshot v) (X6_trial v) (X6_savedR v) (X6_saved v) (X6_text v) (X6_survey v) (X6_paths v) (X6_snapshotTaken v) ((X6_savedCount v) - 1) (X6_spareR v))[i]?)) = (wX0 cy (sh a 4) (sh a 1) (X6_lawn v) ++ wX0 cy (sh a (68 + 21 * ((X6_savedR v) ((X6_savedCount v) - 1).toNatClampNeg))) (sh a 1) ((X6_saved v) ((X6_savedR v) ((X6_savedCount v) - 1).toNatClampNeg))).map some := (xC_app (i1 := rng (4) 21) (i2 := rng (68 + 21 * ((X6_savedR v) ((X6_savedCount v) - 1).toNatClampNeg)) 21) rfl (xC_one (n := 4) (m := 21) rfl rfl rfl) (xC_one (n := 68 + 21 * ((X6_savedR v) ((X6_savedCount v) - 1).toNatClampNeg)) (m := 21) rfl rfl (svC g2)))
    have hN : va_nd (rng (4) 21 ++ rng (68 + 21 * ((X6_savedR v) ((X6_savedCount v) - 1).toNatClampNeg)) 21) = true := (co_6 (P := fun i9 => va_nd (rng (4) 21 ++ rng (68 + 21 * i9) 21) = true) rfl rfl rfl rfl rfl rfl g2)
    have hPc := xsubP hP hC
    have hDc := xsubD hD hN hC
    have hFc := va_free (wc := (wX0 cy (sh a 4) (sh a 1) (X6_lawn v) ++ wX0 cy (sh a (68 + 21 * ((X6_savedR v) ((X6_savedCount v) - 1).toNatClampNeg))) (sh a 1) ((X6_saved v) ((X6_savedR v) ((X6_savedCount v) - 1).toNatClampNeg)))) hD hS hAe0 (rng (4) 21 ++ rng (68 + 21 * ((X6_savedR v) ((X6_savedCount v) - 1).toNatClampNeg)) 21) hC
    refine va_callv (va_runV (As := [.ref (a (68 + 21 * ((X6_savedR v) ((X6_savedCount v) - 1).toNatClampNeg)))]) (rest := []) ⟨hx, hb, hml, hown, hts⟩ (c_X0_copyFrom l dC dI cy (sh a 4) (sh a 1) (sh a (68 + 21 * ((X6_savedR v) ((X6_savedCount v) - 1).toNatClampNeg))) _ (X6_lawn v) ((X6_saved v) ((X6_savedR v) ((X6_savedCount v) - 1).toNatClampNeg)) _ hq) (cwV 1 hts gX6_undo_X0_copyFrom rfl rfl rfl (by decide +kernel) ⟨Nat.le_of_ble_eq_true rfl, Nat.le_of_ble_eq_true rfl⟩) ⟨xPre_blind, va_recv hK hP (ci := 0) (q0 := 4) rfl rfl, xPre_of hPc hK hDc⟩ rfl rfl hl.1 rfl (lv_room (Nat.le_of_ble_eq_true rfl)) dX6_undo_40 ⟨Nat.le_of_ble_eq_true rfl, Nat.le_of_ble_eq_true rfl⟩) hS (fun q _ h => hFc q h) hFc (fun u9 t H locs ht hvm hq hB hz1 hk1 hS => ?_)
    obtain ⟨z40_v_beats, z40_v_caught, z40_v_fallen, z40_v_fullAir, z40_v_gnawed, z40_v_moleCount, z40_v_moles, z40_v_mounds, z40_v_opened, z40_v_risen, z40_v_roots, z40_v_traps, z40_v_tunnels⟩ := u9
    obtain ⟨hP1, -, hD1⟩ := hB
    rw [ht] at hP1
    obtain ⟨hP, hD⟩ := xj hP hD (rng (4) 21 ++ rng (68 + 21 * ((X6_savedR v) ((X6_savedCount v) - 1).toNatClampNeg)) 21) (cX0 cy (sh a 4) (sh a 1) z40_v_mounds z40_v_opened z40_v_roots z40_v_traps z40_v_tunnels (X0_molesR (X6_lawn v)) z40_v_moles z40_v_moleCount z40_v_fullAir z40_v_beats z40_v_caught z40_v_gnawed z40_v_risen z40_v_fallen ++ wX0 cy (sh a (68 + 21 * ((X6_savedR v) ((X6_savedCount v) - 1).toNatClampNeg))) (sh a 1) ((X6_saved v) ((X6_savedR v) ((X6_savedCount v) - 1).toNatClampNeg))) (ws' := (cX6 cy a (z40_v_mounds, z40_v_opened, z40_v_roots, z40_v_traps, z40_v_tunnels, (X0_molesR (X6_lawn v)), z40_v_moles, z40_v_moleCount, z40_v_fullAir, z40_v_beats, z40_v_caught, z40_v_gnawed, z40_v_risen, z40_v_fallen) (X6_snapshot v) (X6_trial v) (X6_savedR v) (X6_saved v) (X6_text v) (X6_survey v) (X6_paths v) (X6_snapshotTaken v) ((X6_savedCount v) - 1) (X6_spareR v))) hC rfl (xS_app (n := 4) (m := 21) (i2 := rng (68 + 21 * ((X6_savedR v) ((X6_savedCount v) - 1).toNatClampNeg)) 21) (W1 := (cX6 cy a (z40_v_mounds, z40_v_opened, z40_v_roots, z40_v_traps, z40_v_tunnels, (X0_molesR (X6_lawn v)), z40_v_moles, z40_v_moleCount, z40_v_fullAir, z40_v_beats, z40_v_caught, z40_v_gnawed, z40_v_risen, z40_v_fallen) (X6_snapshot v) (X6_trial v) (X6_savedR v) (X6_saved v) (X6_text v) (X6_survey v) (X6_paths v) (X6_snapshotTaken v) ((X6_savedCount v) - 1) (X6_spareR v))) rfl rfl rfl (xS_one (n := 68 + 21 * ((X6_savedR v) ((X6_savedCount v) - 1).toNatClampNeg)) (m := 21) rfl rfl (svK g2))) hk1 hFc hP1
    refine lv_aload_n hx hb dX6_undo_43 rfl (lv_at hl 0 rfl) ?_
    refine va_get (D := (dC, dI)) (ci := 6) (v := .int ((X6_savedCount v) - 1)) (C := RX6) (T := TX6) (N := 9) hx hb hts iK6 hown hK hP 0 rfl rfl 8 (by decide) lk0 (fun _ h9 => h9) rfl dX6_undo_44 ?_
    exact W.iret (v := ((X6_savedCount v) - 1)) hx hb hr (fun t ht hW => ⟨⟨((X6_savedCount v) - 1), ((z40_v_mounds, z40_v_opened, z40_v_roots, z40_v_traps, z40_v_tunnels, (X0_molesR (X6_lawn v)), z40_v_moles, z40_v_moleCount, z40_v_fullAir, z40_v_beats, z40_v_caught, z40_v_gnawed, z40_v_risen, z40_v_fallen), ((X6_savedCount v) - 1)), rfl, hq, (xAt_of hP hK hD ht hW)⟩, hS.F ht⟩) hS.2.2 dX6_undo_47
  · have hq := hqB c3
    exact (hX _ hq).elim
