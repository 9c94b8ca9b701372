def wp_X6_keep (v : V_X6) (Q : Int32 → V_X0 → Int32 → Prop) : Prop :=
  wp_X0_copyFrom (X6_snapshot v) (X6_lawn v) (fun z8_v_beats z8_v_caught z8_v_fallen z8_v_fullAir z8_v_gnawed z8_v_moleCount z8_v_moles z8_v_mounds z8_v_opened z8_v_risen z8_v_roots z8_v_traps z8_v_tunnels =>
  Q (X3_size (X0_tunnels (X6_lawn v))) (z8_v_mounds, z8_v_opened, z8_v_roots, z8_v_traps, z8_v_tunnels, (X0_molesR (X6_snapshot v)), z8_v_moles, z8_v_moleCount, z8_v_fullAir, z8_v_beats, z8_v_caught, z8_v_gnawed, z8_v_risen, z8_v_fallen) 1)
def q_X6_keep (dC : Nat → ClassId) (dI : Nat → Nat → Nat) (cy : Nat → ClassId) (a : Nat → Nat) (v : V_X6) (Q : Int32 → V_X0 → Int32 → Prop) (A : Nat → Prop) : Array Value → State → Outcome → State → Prop := va_Qi (fun (r : Int32) (u : V_X0 × Int32) => Q r u.1 u.2) (fun (u : V_X0 × Int32) t => xAt dC dI cy A (cX6 cy a (X6_lawn v) u.1 (X6_trial v) (X6_savedR v) (X6_saved v) (X6_text v) (X6_survey v) (X6_paths v) u.2 (X6_savedCount v) (X6_spareR v)) t) A
set_option maxHeartbeats 4000000 in
set_option maxRecDepth 100000 in
theorem c_X6_keep (l : Launch) (dC : Nat → ClassId) (dI : Nat → Nat → Nat) (cy : Nat → ClassId) (a : Nat → Nat) (sz : Nat) (v : V_X6) (Q : Int32 → V_X0 → Int32 → Prop) (hq : wp_X6_keep v Q) : Met l yX6_keep wsX6_keep ({ frames := 3, cells := 0, slots := 0, locals := 69 } : Room) (va_Pc [.ref (a 0)] (xPre dC dI cy (wX6 cy a v) sz)) (q_X6_keep dC dI cy a v Q (va_A (wX6 cy a v) sz)) 0 0 (va_A (wX6 cy a v) sz) := by
  refine Met.ofW (cc := cX6_keep) (maxL := 1) (ret := (some .int)) (by decide) rfl ?_
  intro p e s m args below meth c s₁ B hml hv
  obtain ⟨rfl, hsz, hP, hK, hD0⟩ := hv
  have hx := B.exec
  have hb := B.bytes
  have hr := B.returns
  have hts := atoms_spec (ws := wsX6_keep) B.pre
  have hown : s.vm.findClass RX6 = some m.cls := findClass_of_methodNamed B.named
  have hlocks := B.notSynchronized
  subst hsz
  have hD := hD0.self (sz := s.heap.size)
  generalize hAe : va_A (wX6 cy a v) s.heap.size = A at hD ⊢
  have hAe0 : ∀ q : Nat, s.heap.size ≤ q → A q := fun q h => by rw [← hAe]; exact Or.inr h
  have hS : va_S A s.heap s.heap [] := va_S.rf
  have hl := lv_entry ([.ref (a 0)]) (n := 1) (Nat.le_of_ble_eq_true rfl)
  rw [lg_entry_eq]
  generalize (lg_sl ([.ref (a 0)]) ++ List.replicate (1 - (lg_sl ([.ref (a 0)])).length) Slot.unset).toArray = ls at hl ⊢
  have hl : lv_has ls 1 [(0, .ref (a 0))] := hl
  have lk0 := hts (Cond.fieldLink RX6 21 "MolesLawn" "snapshot" "LMolesLawn$Lawn;") (List.mem_cons_of_mem _ (List.mem_append_left _ (List.mem_append_left _ (List.mem_append_left _ (List.mem_append_left _ (List.mem_append_left _ (List.mem_of_getElem? (i := 0) rfl)))))))
  have lk1 := hts (Cond.fieldLink RX6 15 "MolesLawn" "lawn" "LMolesLawn$Lawn;") (List.mem_cons_of_mem _ (List.mem_append_left _ (List.mem_append_left _ (List.mem_append_left _ (List.mem_append_left _ (List.mem_append_left _ (List.mem_of_getElem? (i := 1) rfl)))))))
  have lk2 := hts (Cond.fieldLink RX6 183 "MolesLawn" "snapshotTaken" "Z") (List.mem_cons_of_mem _ (List.mem_append_left _ (List.mem_append_left _ (List.mem_append_left _ (List.mem_append_left _ (List.mem_append_left _ (List.mem_of_getElem? (i := 2) rfl)))))))
  have lk3 := hts (Cond.fieldLink RX6 187 "MolesLawn$Lawn" "tunnels" "LMolesLawn$Rows;") (List.mem_cons_of_mem _ (List.mem_append_left _ (List.mem_append_left _ (List.mem_append_left _ (List.mem_append_left _ (List.mem_append_left _ (List.mem_of_getElem? (i := 3) rfl)))))))
  have lk4 := hts (Cond.fieldLink RX6 191 "MolesLawn$Rows" "size" "I") (List.mem_cons_of_mem _ (List.mem_append_left _ (List.mem_append_left _ (List.mem_append_left _ (List.mem_append_left _ (List.mem_append_left _ (List.mem_of_getElem? (i := 4) rfl)))))))
  have iK0 : ∀ w ∈ wsX00, w ∈ wsX6_keep := fun _ h => (List.mem_cons_of_mem _ (List.mem_append_left _ (List.mem_append_left _ (List.mem_append_right _ h))))
  have iK3 : ∀ w ∈ wsX30, w ∈ wsX6_keep := fun _ h => (List.mem_cons_of_mem _ (List.mem_append_left _ (List.mem_append_right _ h)))
  have iK6 : ∀ w ∈ wsX60, w ∈ wsX6_keep := fun _ h => (List.mem_cons_of_mem _ (List.mem_append_left _ (List.mem_append_left _ (List.mem_append_left _ (List.mem_append_right _ h)))))
  unfold wp_X6_keep at hq
  refine lv_aload_n hx hb dX6_keep_0 rfl (lv_at hl 0 rfl) ?_
  refine va_get (D := (dC, dI)) (ci := 6) (v := .ref (a 25)) (C := RX6) (T := TX6) (N := 9) hx hb hts iK6 hown hK hP 0 rfl rfl 1 (by decide) lk0 (fun _ h9 => h9) rfl dX6_keep_1 ?_
  refine lv_aload_n hx hb dX6_keep_4 rfl (lv_at hl 0 rfl) ?_
  refine va_get (D := (dC, dI)) (ci := 6) (v := .ref (a 4)) (C := RX6) (T := TX6) (N := 9) hx hb hts iK6 hown hK hP 0 rfl rfl 0 (by decide) lk1 (fun _ h9 => h9) rfl dX6_keep_5 ?_
  have hC : (([25, 26, 27, 28, 29, 30, 31, 32, 33, 34, 35, 36, 37, 38, 39, 40, 41, 42, 43, 44, 45, 4, 5, 6, 7, 8, 9, 10, 11, 12, 13, 14, 15, 16, 17, 18, 19, 20, 21, 22, 23, 24] : List Nat).map (fun i => (wX6 cy a v)[i]?)) = (wX0 cy (sh a 25) (sh a 1) (X6_snapshot v) ++ wX0 cy (sh a 4) (sh a 1) (X6_lawn v)).map some := (xC_app (i1 := [25, 26, 27, 28, 29, 30, 31, 32, 33, 34, 35, 36, 37, 38, 39, 40, 41, 42, 43, 44, 45]) (i2 := [4, 5, 6, 7, 8, 9, 10, 11, 12, 13, 14, 15, 16, 17, 18, 19, 20, 21, 22, 23, 24]) rfl (xC_one (n := 25) (m := 21) rfl rfl rfl) (xC_one (n := 4) (m := 21) rfl rfl rfl))
  have hPc := xsubP hP hC
  have hDc := xsubD hD (by decide) hC
  have hFc := va_free (wc := (wX0 cy (sh a 25) (sh a 1) (X6_snapshot v) ++ wX0 cy (sh a 4) (sh a 1) (X6_lawn v))) hD hS hAe0 [25, 26, 27, 28, 29, 30, 31, 32, 33, 34, 35, 36, 37, 38, 39, 40, 41, 42, 43, 44, 45, 4, 5, 6, 7, 8, 9, 10, 11, 12, 13, 14, 15, 16, 17, 18, 19, 20, 21, 22, 23, 24] hC
  refine va_callv (va_runV (As := [.ref (a 4)]) (rest := []) ⟨hx, hb, hml, hown, hts⟩ (c_X0_copyFrom l dC dI cy (sh a 25) (sh a 1) (sh a 4) _ (X6_snapshot v) (X6_lawn v) _ hq) (cwV 1 hts gX6_keep_X0_copyFrom rfl rfl rfl (by decide +kernel) ⟨Nat.le_of_ble_eq_true rfl, Nat.le_of_ble_eq_true rfl⟩) ⟨xPre_blind, va_recv hK hP (ci := 0) (q0 := 25) rfl rfl, xPre_of hPc hK hDc⟩ rfl rfl hl.1 rfl (lv_room (Nat.le_of_ble_eq_true rfl)) dX6_keep_8 ⟨Nat.le_of_ble_eq_true rfl, Nat.le_of_ble_eq_true rfl⟩) hS (fun q _ h => hFc q h) hFc (fun u9 t H locs ht hvm hq hB hz1 hk1 hS => ?_)
  obtain ⟨z8_v_beats, z8_v_caught, z8_v_fallen, z8_v_fullAir, z8_v_gnawed, z8_v_moleCount, z8_v_moles, z8_v_mounds, z8_v_opened, z8_v_risen, z8_v_roots, z8_v_traps, z8_v_tunnels⟩ := u9
  obtain ⟨hP1, -, hD1⟩ := hB
  rw [ht] at hP1
  obtain ⟨hP, hD⟩ := xj hP hD [25, 26, 27, 28, 29, 30, 31, 32, 33, 34, 35, 36, 37, 38, 39, 40, 41, 42, 43, 44, 45, 4, 5, 6, 7, 8, 9, 10, 11, 12, 13, 14, 15, 16, 17, 18, 19, 20, 21, 22, 23, 24] (cX0 cy (sh a 25) (sh a 1) z8_v_mounds z8_v_opened z8_v_roots z8_v_traps z8_v_tunnels (X0_molesR (X6_snapshot v)) z8_v_moles z8_v_moleCount z8_v_fullAir z8_v_beats z8_v_caught z8_v_gnawed z8_v_risen z8_v_fallen ++ wX0 cy (sh a 4) (sh a 1) (X6_lawn v)) (ws' := (cX6 cy a (X6_lawn v) (z8_v_mounds, z8_v_opened, z8_v_roots, z8_v_traps, z8_v_tunnels, (X0_molesR (X6_snapshot v)), z8_v_moles, z8_v_moleCount, z8_v_fullAir, z8_v_beats, z8_v_caught, z8_v_gnawed, z8_v_risen, z8_v_fallen) (X6_trial v) (X6_savedR v) (X6_saved v) (X6_text v) (X6_survey v) (X6_paths v) (X6_snapshotTaken v) (X6_savedCount v) (X6_spareR v))) hC rfl (xS_app (n := 25) (m := 21) (i2 := [4, 5, 6, 7, 8, 9, 10, 11, 12, 13, 14, 15, 16, 17, 18, 19, 20, 21, 22, 23, 24]) rfl rfl rfl (xS_one (n := 4) (m := 21) rfl rfl rfl)) hk1 hFc hP1
  refine lv_aload_n hx hb dX6_keep_11 rfl (lv_at hl 0 rfl) ?_
  refine lv_iconst (v := 1) hx hb dX6_keep_12 (by decide) ?_
  refine va_put (D := (dC, dI)) (ci := 6) (v := .int 1) (ty := .boolean) (C := RX6) (T := TX6) (N := 9) hx hb hts iK6 tyX6 tyX6_ok nmX6 hown hK hP hD hS 0 rfl rfl 7 (by decide) lk2 (fun _ h9 => h9) rfl (by decide +kernel) rfl rfl (Nat.le_of_ble_eq_true rfl) dX6_keep_13 (fun H locs hP hD hS => ?_)
  have hP : va_P (dC, dI) vwCl (cX6 cy a (X6_lawn v) (z8_v_mounds, z8_v_opened, z8_v_roots, z8_v_traps, z8_v_tunnels, (X0_molesR (X6_snapshot v)), z8_v_moles, z8_v_moleCount, z8_v_fullAir, z8_v_beats, z8_v_caught, z8_v_gnawed, z8_v_risen, z8_v_fallen) (X6_trial v) (X6_savedR v) (X6_saved v) (X6_text v) (X6_survey v) (X6_paths v) 1 (X6_savedCount v) (X6_spareR v)) H := hP
  have hD : va_D A (cX6 cy a (X6_lawn v) (z8_v_mounds, z8_v_opened, z8_v_roots, z8_v_traps, z8_v_tunnels, (X0_molesR (X6_snapshot v)), z8_v_moles, z8_v_moleCount, z8_v_fullAir, z8_v_beats, z8_v_caught, z8_v_gnawed, z8_v_risen, z8_v_fallen) (X6_trial v) (X6_savedR v) (X6_saved v) (X6_text v) (X6_survey v) (X6_paths v) 1 (X6_savedCount v) (X6_spareR v)) := hD
  refine lv_aload_n hx hb dX6_keep_16 rfl (lv_at hl 0 rfl) ?_
  refine va_get (D := (dC, dI)) (ci := 6) (v := .ref (a 4)) (C := RX6) (T := TX6) (N := 9) hx hb hts iK6 hown hK hP 0 rfl rfl 0 (by decide) lk1 (fun _ h9 => h9) rfl dX6_keep_17 ?_
  refine va_get (D := (dC, dI)) (ci := 0) (v := .ref (a 9)) (C := RX0) (T := TX0) (N := 14) hx hb hts iK0 hown hK hP 4 rfl rfl 4 (by decide) lk3 (fun _ h9 => h9) rfl dX6_keep_20 ?_
  refine va_get (D := (dC, dI)) (ci := 3) (v := .int (X3_size (X0_tunnels (X6_lawn v)))) (C := RX3) (T := TX3) (N := 4) hx hb hts iK3 hown hK hP 9 rfl rfl 3 (by decide) lk4 (fun _ h9 => h9) rfl dX6_keep_23 ?_
  exact W.iret (v := (X3_size (X0_tunnels (X6_lawn v)))) hx hb hr (fun t ht hW => ⟨⟨(X3_size (X0_tunnels (X6_lawn v))), ((z8_v_mounds, z8_v_opened, z8_v_roots, z8_v_traps, z8_v_tunnels, (X0_molesR (X6_snapshot v)), z8_v_moles, z8_v_moleCount, z8_v_fullAir, z8_v_beats, z8_v_caught, z8_v_gnawed, z8_v_risen, z8_v_fallen), 1), rfl, hq, (xAt_of hP hK hD ht hW)⟩, hS.F ht⟩) hS.2.2 dX6_keep_26
