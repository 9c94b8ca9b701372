def wp_X6_ifDug (v : V_X6) (x1 : Int32) (x2 : Int32) (Q : Int32 → V_X3 → V_X4 → V_X0 → Prop) (QX : String → Prop) : Prop :=
  wp_X6_checkTuft v x1 (wp_X6_checkWhat v x2 2 (wp_X0_copyFrom (X6_trial v) (X6_lawn v) (fun z19_v_beats z19_v_caught z19_v_fallen z19_v_fullAir z19_v_gnawed z19_v_moleCount z19_v_moles z19_v_mounds z19_v_opened z19_v_risen z19_v_roots z19_v_traps z19_v_tunnels =>
  wp_X0_digUp (z19_v_mounds, z19_v_opened, z19_v_roots, z19_v_traps, z19_v_tunnels, (X0_molesR (X6_trial v)), z19_v_moles, z19_v_moleCount, z19_v_fullAir, z19_v_beats, z19_v_caught, z19_v_gnawed, z19_v_risen, z19_v_fallen) (X6_spareR v) x1 (fun r27 z27_u_cells z27_u_ends z27_u_size z27_u_used z27_v_caught z27_v_fallen z27_v_moleCount z27_v_moles z27_v_molesR z27_v_mounds z27_v_opened z27_v_risen z27_v_roots z27_v_traps z27_v_tunnels =>
  ((x2 = 0 → Q (z27_v_fallen - (X0_fallen (X6_lawn v))) (z27_u_cells, z27_u_ends, z27_u_used, z27_u_size) (X6_survey v) (z27_v_mounds, z27_v_opened, z27_v_roots, z27_v_traps, z27_v_tunnels, z27_v_molesR, z27_v_moles, z27_v_moleCount, z19_v_fullAir, z19_v_beats, z27_v_caught, z19_v_gnawed, z27_v_risen, z27_v_fallen)) ∧
  (¬ x2 = 0 → ((x2 = 1 → Q r27 (z27_u_cells, z27_u_ends, z27_u_used, z27_u_size) (X6_survey v) (z27_v_mounds, z27_v_opened, z27_v_roots, z27_v_traps, z27_v_tunnels, z27_v_molesR, z27_v_moles, z27_v_moleCount, z19_v_fullAir, z19_v_beats, z27_v_caught, z19_v_gnawed, z27_v_risen, z27_v_fallen)) ∧
  (¬ x2 = 1 → wp_X4_read (X6_survey v) (z27_v_mounds, z27_v_opened, z27_v_roots, z27_v_traps, z27_v_tunnels, z27_v_molesR, z27_v_moles, z27_v_moleCount, z19_v_fullAir, z19_v_beats, z27_v_caught, z19_v_gnawed, z27_v_risen, z27_v_fallen) (fun z66_v_crossings z66_v_hollow z66_v_seenBy z66_v_sure =>
  wp_X4_hollowCount (z66_v_hollow, z66_v_crossings, z66_v_sure, z66_v_seenBy) (fun r73 =>
  Q r73 (z27_u_cells, z27_u_ends, z27_u_used, z27_u_size) (z66_v_hollow, z66_v_crossings, z66_v_sure, z66_v_seenBy) (z27_v_mounds, z27_v_opened, z27_v_roots, z27_v_traps, z27_v_tunnels, z27_v_molesR, z27_v_moles, z27_v_moleCount, z19_v_fullAir, z19_v_beats, z27_v_caught, z19_v_gnawed, z27_v_risen, z27_v_fallen)))))))))) QX) QX
def q_X6_ifDug (dC : Nat → ClassId) (dI : Nat → Nat → Nat) (cy : Nat → ClassId) (a : Nat → Nat) (v : V_X6) (x1 : Int32) (x2 : Int32) (Q : Int32 → V_X3 → V_X4 → V_X0 → Prop) (A : Nat → Prop) : Array Value → State → Outcome → State → Prop := va_Qi (fun (r : Int32) (u : V_X3 × V_X4 × V_X0) => Q r u.1 u.2.1 u.2.2) (fun (u : V_X3 × V_X4 × V_X0) t => xAt dC dI cy A (cX6 cy a (X6_lawn v) (X6_snapshot v) u.2.2 (X6_savedR v) (X6_saved v) (X6_text v) u.2.1 (X6_paths v) (X6_snapshotTaken v) (X6_savedCount v) u.1) t) A
set_option maxHeartbeats 4000000 in
set_option maxRecDepth 100000 in
theorem c_X6_ifDug (l : Launch) (dC : Nat → ClassId) (dI : Nat → Nat → Nat) (cy : Nat → ClassId) (a : Nat → Nat) (sz : Nat) (v : V_X6) (x1 : Int32) (x2 : Int32) (Q : Int32 → V_X3 → V_X4 → V_X0 → Prop) (QX : String → Prop) (hX : ∀ E, ¬ QX E) (hq : wp_X6_ifDug v x1 x2 Q QX) : Met l yX6_ifDug wsX6_ifDug ({ frames := 6, cells := 0, slots := 0, locals := 143 } : Room) (va_Pc [.ref (a 0), .int x1, .int x2] (xPreE dC dI cy (wX6 cy a v) sz)) (q_X6_ifDug dC dI cy a v x1 x2 Q (va_A (wX6 cy a v) sz)) 0 0 (va_A (wX6 cy a v) sz) := by
  refine Met.ofW (cc := cX6_ifDug) (maxL := 4) (ret := (some .int)) (by decide) rfl ?_
  intro p e s m args below meth c s₁ B hml hv
  obtain ⟨rfl, hsz, hP, hK, hD0, hE⟩ := hv
  have hx := B.exec
  have hb := B.bytes
  have hr := B.returns
  have hts := atoms_spec (ws := wsX6_ifDug) B.pre
  have hown : s.vm.findClass RX6 = some m.cls := findClass_of_methodNamed B.named
  have hlocks := B.notSynchronized
  subst hsz
  have hD := hD0.self (sz := s.heap.size)
  generalize hAe : va_A (wX6 cy a v) s.heap.size = A at hD hE ⊢
  have hAe0 : ∀ q : Nat, s.heap.size ≤ q → A q := fun q h => by rw [← hAe]; exact Or.inr h
  have hS : va_S A s.heap s.heap [] := va_S.rf
  have hl := lv_entry ([.ref (a 0), .int x1, .int x2]) (n := 4) (Nat.le_of_ble_eq_true rfl)
  rw [lg_entry_eq]
  generalize (lg_sl ([.ref (a 0), .int x1, .int x2]) ++ List.replicate (4 - (lg_sl ([.ref (a 0), .int x1, .int x2])).length) Slot.unset).toArray = ls at hl ⊢
  have hl : lv_has ls 4 [(0, .ref (a 0)), (1, .int x1), (2, .int x2)] := hl
  have lk0 := hts (Cond.fieldLink RX6 24 "MolesLawn" "trial" "LMolesLawn$Lawn;") (List.mem_cons_of_mem _ (List.mem_append_left _ (List.mem_append_left _ (List.mem_append_left _ (List.mem_append_left _ (List.mem_append_left _ (List.mem_append_left _ (List.mem_append_left _ (List.mem_append_left _ (List.mem_of_getElem? (i := 0) rfl))))))))))
  have lk1 := hts (Cond.fieldLink RX6 15 "MolesLawn" "lawn" "LMolesLawn$Lawn;") (List.mem_cons_of_mem _ (List.mem_append_left _ (List.mem_append_left _ (List.mem_append_left _ (List.mem_append_left _ (List.mem_append_left _ (List.mem_append_left _ (List.mem_append_left _ (List.mem_append_left _ (List.mem_of_getElem? (i := 1) rfl))))))))))
  have lk2 := hts (Cond.fieldLink RX6 41 "MolesLawn" "survey" "LMolesLawn$Survey;") (List.mem_cons_of_mem _ (List.mem_append_left _ (List.mem_append_left _ (List.mem_append_left _ (List.mem_append_left _ (List.mem_append_left _ (List.mem_append_left _ (List.mem_append_left _ (List.mem_append_left _ (List.mem_of_getElem? (i := 3) rfl))))))))))
  have lk3 := hts (Cond.fieldLink RX6 230 "MolesLawn$Lawn" "fallen" "I") (List.mem_cons_of_mem _ (List.mem_append_left _ (List.mem_append_left _ (List.mem_append_left _ (List.mem_append_left _ (List.mem_append_left _ (List.mem_append_left _ (List.mem_append_left _ (List.mem_append_left _ (List.mem_of_getElem? (i := 2) rfl))))))))))
  have iK0 : ∀ w ∈ wsX00, w ∈ wsX6_ifDug := fun _ h => (List.mem_cons_of_mem _ (List.mem_append_left _ (List.mem_append_left _ (List.mem_append_left _ (List.mem_append_left _ (List.mem_append_left _ (List.mem_append_right _ h)))))))
  have iK6 : ∀ w ∈ wsX60, w ∈ wsX6_ifDug := fun _ h => (List.mem_cons_of_mem _ (List.mem_append_left _ (List.mem_append_left _ (List.mem_append_left _ (List.mem_append_left _ (List.mem_append_left _ (List.mem_append_left _ (List.mem_append_right _ h))))))))
  unfold wp_X6_ifDug at hq
  refine lv_aload_n hx hb dX6_ifDug_0 rfl (lv_at hl 0 rfl) ?_
  refine lv_iload_n hx hb dX6_ifDug_1 rfl (lv_at hl 1 rfl) ?_
  have hFc := xfree_same hS hAe0 (ws := (wX6 cy a v)) hD
  refine va_callv (va_runV (As := [.int x1]) (rest := []) ⟨hx, hb, hml, hown, hts⟩ (c_X6_checkTuft l dC dI cy a _ v x1 _ _ hX hq) (cwV 1 hts gX6_ifDug_X6_checkTuft rfl rfl rfl (by decide +kernel) ⟨Nat.le_of_ble_eq_true rfl, Nat.le_of_ble_eq_true rfl⟩) ⟨xPre_blind, va_recv hK hP (ci := 6) (q0 := 0) rfl rfl, xPre_of hP hK hD⟩ rfl rfl hl.1 rfl (lv_room (Nat.le_of_ble_eq_true rfl)) dX6_ifDug_2 ⟨Nat.le_of_ble_eq_true rfl, Nat.le_of_ble_eq_true rfl⟩) hS (fun q _ h => hFc q h) hFc (fun u9 t H locs ht hvm hq hB hz1 hk1 hS => ?_)
  obtain ⟨hP1, -, hD1⟩ := hB
  rw [ht] at hP1
  have hP : va_P (dC, dI) vwCl (wX6 cy a v) H := hP1
  have hD : va_D A (wX6 cy a v) := hD1.weaken (fun _ q _ h => hFc q.1 h)
  refine lv_aload_n hx hb dX6_ifDug_5 rfl (lv_at hl 0 rfl) ?_
  refine lv_iload_n hx hb dX6_ifDug_6 rfl (lv_at hl 2 rfl) ?_
  refine lv_iconst (v := 2) hx hb dX6_ifDug_7 (by decide) ?_
  have hFc := xfree_same hS hAe0 (ws := (wX6 cy a v)) hD
  refine va_callv (va_runV (As := [.int x2, .int 2]) (rest := []) ⟨hx, hb, hml, hown, hts⟩ (c_X6_checkWhat l dC dI cy a _ v x2 2 _ _ hX hq) (cwV 2 hts gX6_ifDug_X6_checkWhat rfl rfl rfl (by decide +kernel) ⟨Nat.le_of_ble_eq_true rfl, Nat.le_of_ble_eq_true rfl⟩) ⟨xPre_blind, va_recv hK hP (ci := 6) (q0 := 0) rfl rfl, xPre_of hP hK hD⟩ rfl rfl hl.1 rfl (lv_room (Nat.le_of_ble_eq_true rfl)) dX6_ifDug_8 ⟨Nat.le_of_ble_eq_true rfl, Nat.le_of_ble_eq_true rfl⟩) hS (fun q _ h => hFc q h) hFc (fun u9 t H locs ht hvm hq hB hz1 hk1 hS => ?_)
  obtain ⟨hP1, -, hD1⟩ := hB
  rw [ht] at hP1
  have hP : va_P (dC, dI) vwCl (wX6 cy a v) H := hP1
  have hD : va_D A (wX6 cy a v) := hD1.weaken (fun _ q _ h => hFc q.1 h)
  refine lv_aload_n hx hb dX6_ifDug_11 rfl (lv_at hl 0 rfl) ?_
  refine va_get (D := (dC, dI)) (ci := 6) (v := .ref (a 46)) (C := RX6) (T := TX6) (N := 9) hx hb hts iK6 hown hK hP 0 rfl rfl 2 (by decide) lk0 (fun _ h9 => h9) rfl dX6_ifDug_12 ?_
  refine lv_aload_n hx hb dX6_ifDug_15 rfl (lv_at hl 0 rfl) ?_
  refine va_get (D := (dC, dI)) (ci := 6) (v := .ref (a 4)) (C := RX6) (T := TX6) (N := 9) hx hb hts iK6 hown hK hP 0 rfl rfl 0 (by decide) lk1 (fun _ h9 => h9) rfl dX6_ifDug_16 ?_
  have hC : (([46, 47, 48, 49, 50, 51, 52, 53, 54, 55, 56, 57, 58, 59, 60, 61, 62, 63, 64, 65, 66, 4, 5, 6, 7, 8, 9, 10, 11, 12, 13, 14, 15, 16, 17, 18, 19, 20, 21, 22, 23, 24] : List Nat).map (fun i => (wX6 cy a v)[i]?)) = (wX0 cy (sh a 46) (sh a 1) (X6_trial v) ++ wX0 cy (sh a 4) (sh a 1) (X6_lawn v)).map some := (xC_app (i1 := [46, 47, 48, 49, 50, 51, 52, 53, 54, 55, 56, 57, 58, 59, 60, 61, 62, 63, 64, 65, 66]) (i2 := [4, 5, 6, 7, 8, 9, 10, 11, 12, 13, 14, 15, 16, 17, 18, 19, 20, 21, 22, 23, 24]) rfl (xC_one (n := 46) (m := 21) rfl rfl rfl) (xC_one (n := 4) (m := 21) rfl rfl rfl))
  have hPc := xsubP hP hC
  have hDc := xsubD hD (by decide) hC
  have hFc := va_free (wc := (wX0 cy (sh a 46) (sh a 1) (X6_trial v) ++ wX0 cy (sh a 4) (sh a 1) (X6_lawn v))) hD hS hAe0 [46, 47, 48, 49, 50, 51, 52, 53, 54, 55, 56, 57, 58, 59, 60, 61, 62, 63, 64, 65, 66, 4, 5, 6, 7, 8, 9, 10, 11, 12, 13, 14, 15, 16, 17, 18, 19, 20, 21, 22, 23, 24] hC
  refine va_callv (va_runV (As := [.ref (a 4)]) (rest := []) ⟨hx, hb, hml, hown, hts⟩ (c_X0_copyFrom l dC dI cy (sh a 46) (sh a 1) (sh a 4) _ (X6_trial v) (X6_lawn v) _ hq) (cwV 1 hts gX6_ifDug_X0_copyFrom rfl rfl rfl (by decide +kernel) ⟨Nat.le_of_ble_eq_true rfl, Nat.le_of_ble_eq_true rfl⟩) ⟨xPre_blind, va_recv hK hP (ci := 0) (q0 := 46) rfl rfl, xPre_of hPc hK hDc⟩ rfl rfl hl.1 rfl (lv_room (Nat.le_of_ble_eq_true rfl)) dX6_ifDug_19 ⟨Nat.le_of_ble_eq_true rfl, Nat.le_of_ble_eq_true rfl⟩) hS (fun q _ h => hFc q h) hFc (fun u9 t H locs ht hvm hq hB hz1 hk1 hS => ?_)
  obtain ⟨z19_v_beats, z19_v_caught, z19_v_fallen, z19_v_fullAir, z19_v_gnawed, z19_v_moleCount, z19_v_moles, z19_v_mounds, z19_v_opened, z19_v_risen, z19_v_roots, z19_v_traps, z19_v_tunnels⟩ := u9
  obtain ⟨hP1, -, hD1⟩ := hB
  rw [ht] at hP1
  obtain ⟨hP, hD⟩ := xj hP hD [46, 47, 48, 49, 50, 51, 52, 53, 54, 55, 56, 57, 58, 59, 60, 61, 62, 63, 64, 65, 66, 4, 5, 6, 7, 8, 9, 10, 11, 12, 13, 14, 15, 16, 17, 18, 19, 20, 21, 22, 23, 24] (cX0 cy (sh a 46) (sh a 1) z19_v_mounds z19_v_opened z19_v_roots z19_v_traps z19_v_tunnels (X0_molesR (X6_trial v)) z19_v_moles z19_v_moleCount z19_v_fullAir z19_v_beats z19_v_caught z19_v_gnawed z19_v_risen z19_v_fallen ++ wX0 cy (sh a 4) (sh a 1) (X6_lawn v)) (ws' := (cX6 cy a (X6_lawn v) (X6_snapshot v) (z19_v_mounds, z19_v_opened, z19_v_roots, z19_v_traps, z19_v_tunnels, (X0_molesR (X6_trial v)), z19_v_moles, z19_v_moleCount, z19_v_fullAir, z19_v_beats, z19_v_caught, z19_v_gnawed, z19_v_risen, z19_v_fallen) (X6_savedR v) (X6_saved v) (X6_text v) (X6_survey v) (X6_paths v) (X6_snapshotTaken v) (X6_savedCount v) (X6_spareR v))) hC rfl (xS_app (n := 46) (m := 21) (i2 := [4, 5, 6, 7, 8, 9, 10, 11, 12, 13, 14, 15, 16, 17, 18, 19, 20, 21, 22, 23, 24]) rfl rfl rfl (xS_one (n := 4) (m := 21) rfl rfl rfl)) hk1 hFc hP1
  refine lv_aload_n hx hb dX6_ifDug_22 rfl (lv_at hl 0 rfl) ?_
  refine va_get (D := (dC, dI)) (ci := 6) (v := .ref (a 46)) (C := RX6) (T := TX6) (N := 9) hx hb hts iK6 hown hK hP 0 rfl rfl 2 (by decide) lk0 (fun _ h9 => h9) rfl dX6_ifDug_23 ?_
  refine lv_iload_n hx hb dX6_ifDug_26 rfl (lv_at hl 1 rfl) ?_
  have hC : (([46, 47, 48, 49, 50, 51, 52, 53, 54, 55, 56, 57, 58, 59, 60, 61, 62, 63, 64, 65, 66, 1, 2, 3] : List Nat).map (fun i => (cX6 cy a (X6_lawn v) (X6_snapshot v) (z19_v_mounds, z19_v_opened, z19_v_roots, z19_v_traps, z19_v_tunnels, (X0_molesR (X6_trial v)), z19_v_moles, z19_v_moleCount, z19_v_fullAir, z19_v_beats, z19_v_caught, z19_v_gnawed, z19_v_risen, z19_v_fallen) (X6_savedR v) (X6_saved v) (X6_text v) (X6_survey v) (X6_paths v) (X6_snapshotTaken v) (X6_savedCount v) (X6_spareR v))[i]?)) = (cX0 cy (sh a 46) (sh a 1) z19_v_mounds z19_v_opened z19_v_roots z19_v_traps z19_v_tunnels (X0_molesR (X6_trial v)) z19_v_moles z19_v_moleCount z19_v_fullAir z19_v_beats z19_v_caught z19_v_gnawed z19_v_risen z19_v_fallen ++ wX3 cy (sh a 1) (X6_spareR v)).map some := (xC_app (i1 := [46, 47, 48, 49, 50, 51, 52, 53, 54, 55, 56, 57, 58, 59, 60, 61, 62, 63, 64, 65, 66]) (i2 := [1, 2, 3]) rfl (xC_one (n := 46) (m := 21) rfl rfl rfl) (xC_one (n := 1) (m := 3) rfl rfl rfl))
  have hPc := xsubP hP hC
  have hDc := xsubD hD (by decide) hC
  have hFc := va_free (wc := (cX0 cy (sh a 46) (sh a 1) z19_v_mounds z19_v_opened z19_v_roots z19_v_traps z19_v_tunnels (X0_molesR (X6_trial v)) z19_v_moles z19_v_moleCount z19_v_fullAir z19_v_beats z19_v_caught z19_v_gnawed z19_v_risen z19_v_fallen ++ wX3 cy (sh a 1) (X6_spareR v))) hD hS hAe0 [46, 47, 48, 49, 50, 51, 52, 53, 54, 55, 56, 57, 58, 59, 60, 61, 62, 63, 64, 65, 66, 1, 2, 3] hC
  refine va_calli (va_runV (As := [.int x1]) (rest := []) ⟨hx, hb, hml, hown, hts⟩ (c_X0_digUp l dC dI cy (sh a 46) (sh a 1) _ (z19_v_mounds, z19_v_opened, z19_v_roots, z19_v_traps, z19_v_tunnels, (X0_molesR (X6_trial v)), z19_v_moles, z19_v_moleCount, z19_v_fullAir, z19_v_beats, z19_v_caught, z19_v_gnawed, z19_v_risen, z19_v_fallen) (X6_spareR v) x1 _ hq) (cwV 1 hts gX6_ifDug_X0_digUp rfl rfl rfl (by decide +kernel) ⟨Nat.le_of_ble_eq_true rfl, Nat.le_of_ble_eq_true rfl⟩) ⟨xPre_blind, va_recv hK hP (ci := 0) (q0 := 46) rfl rfl, xPre_of hPc hK hDc⟩ rfl rfl hl.1 rfl (lv_room (Nat.le_of_ble_eq_true rfl)) dX6_ifDug_27 ⟨Nat.le_of_ble_eq_true rfl, Nat.le_of_ble_eq_true rfl⟩) hS (fun q _ h => hFc q h) hFc (fun r27 u9 t H locs ht hvm hq hB hz1 hk1 hS => ?_)
  obtain ⟨z27_u_cells, z27_u_ends, z27_u_size, z27_u_used, z27_v_caught, z27_v_fallen, z27_v_moleCount, z27_v_moles, z27_v_molesR, z27_v_mounds, z27_v_opened, z27_v_risen, z27_v_roots, z27_v_traps, z27_v_tunnels⟩ := u9
  obtain ⟨hP1, -, hD1⟩ := hB
  rw [ht] at hP1
  obtain ⟨hP, hD⟩ := xj hP hD [46, 47, 48, 49, 50, 51, 52, 53, 54, 55, 56, 57, 58, 59, 60, 61, 62, 63, 64, 65, 66, 1, 2, 3] (cX0 cy (sh a 46) (sh a 1) z27_v_mounds z27_v_opened z27_v_roots z27_v_traps z27_v_tunnels z27_v_molesR z27_v_moles z27_v_moleCount z19_v_fullAir z19_v_beats z27_v_caught z19_v_gnawed z27_v_risen z27_v_fallen ++ cX3 cy (sh a 1) z27_u_cells z27_u_ends z27_u_used z27_u_size) (ws' := (cX6 cy a (X6_lawn v) (X6_snapshot v) (z27_v_mounds, z27_v_opened, z27_v_roots, z27_v_traps, z27_v_tunnels, z27_v_molesR, z27_v_moles, z27_v_moleCount, z19_v_fullAir, z19_v_beats, z27_v_caught, z19_v_gnawed, z27_v_risen, z27_v_fallen) (X6_savedR v) (X6_saved v) (X6_text v) (X6_survey v) (X6_paths v) (X6_snapshotTaken v) (X6_savedCount v) (z27_u_cells, z27_u_ends, z27_u_used, z27_u_size))) hC rfl (xS_app (n := 46) (m := 21) (i2 := [1, 2, 3]) rfl rfl rfl (xS_one (n := 1) (m := 3) rfl rfl rfl)) hk1 hFc hP1
  refine lv_istore_n (lv' := [(3, .int r27), (0, .ref (a 0)), (1, .int x1), (2, .int x2)]) hx hb dX6_ifDug_30 rfl hl (by decide) rfl (fun ls hl => ?_)
  refine lv_iload_n hx hb dX6_ifDug_31 rfl (lv_at hl 3 rfl) ?_
  obtain ⟨hqA, hqB⟩ := hq
  refine lv_if_ne (tgt := 51) hx hb dX6_ifDug_32 (by decide) (fun c2 => ?_) (fun c2 => ?_)
  · have hq := hqB c2
    refine lv_iload_n hx hb dX6_ifDug_51 rfl (lv_at hl 3 rfl) ?_
    refine lv_iconst (v := 1) hx hb dX6_ifDug_52 (by decide) ?_
    obtain ⟨hqA, hqB⟩ := hq
    refine lv_icmp_ne (tgt := 58) hx hb dX6_ifDug_53 (by decide) (fun c1 => ?_) (fun c1 => ?_)
    · have hq := hqB c1
      refine lv_aload_n hx hb dX6_ifDug_58 rfl (lv_at hl 1 rfl) ?_
      refine va_get (D := (dC, dI)) (ci := 6) (v := .ref (a 196)) (C := RX6) (T := TX6) (N := 9) hx hb hts iK6 hown hK hP 0 rfl rfl 5 (by decide) lk2 (fun _ h9 => h9) rfl dX6_ifDug_59 ?_
      refine lv_aload_n hx hb dX6_ifDug_62 rfl (lv_at hl 1 rfl) ?_
      refine va_get (D := (dC, dI)) (ci := 6) (v := .ref (a 46)) (C := RX6) (T := TX6) (N := 9) hx hb hts iK6 hown hK hP 0 rfl rfl 2 (by decide) lk0 (fun _ h9 => h9) rfl dX6_ifDug_63 ?_
      have hC : (([196, 197, 198, 199, 200, 46, 47, 48, 49, 50, 51, 52, 53, 54, 55, 56, 57, 58, 59, 60, 61, 62, 63, 64, 65, 66] : List Nat).map (fun i => (cX6 cy a (X6_lawn v) (X6_snapshot v) (z27_v_mounds, z27_v_opened, z27_v_roots, z27_v_traps, z27_v_tunnels, z27_v_molesR, z27_v_moles, z27_v_moleCount, z19_v_fullAir, z19_v_beats, z27_v_caught, z19_v_gnawed, z27_v_risen, z27_v_fallen) (X6_savedR v) (X6_saved v) (X6_text v) (X6_survey v) (X6_paths v) (X6_snapshotTaken v) (X6_savedCount v) (z27_u_cells, z27_u_ends, z27_u_used, z27_u_size))[i]?)) = (wX4 cy (sh a 196) (X6_survey v) ++ cX0 cy (sh a 46) (sh a 1) z27_v_mounds z27_v_opened z27_v_roots z27_v_traps z27_v_tunnels z27_v_molesR z27_v_moles z27_v_moleCount z19_v_fullAir z19_v_beats z27_v_caught z19_v_gnawed z27_v_risen z27_v_fallen).map some := (xC_app (i1 := [196, 197, 198, 199, 200]) (i2 := [46, 47, 48, 49, 50, 51, 52, 53, 54, 55, 56, 57, 58, 59, 60, 61, 62, 63, 64, 65, 66]) rfl (xC_one (n := 196) (m := 5) rfl rfl rfl) (xC_one (n := 46) (m := 21) rfl rfl rfl))
      have hPc := xsubP hP hC
      have hDc := xsubD hD (by decide) hC
      have hFc := va_free (wc := (wX4 cy (sh a 196) (X6_survey v) ++ cX0 cy (sh a 46) (sh a 1) z27_v_mounds z27_v_opened z27_v_roots z27_v_traps z27_v_tunnels z27_v_molesR z27_v_moles z27_v_moleCount z19_v_fullAir z19_v_beats z27_v_caught z19_v_gnawed z27_v_risen z27_v_fallen)) hD hS hAe0 [196, 197, 198, 199, 200, 46, 47, 48, 49, 50, 51, 52, 53, 54, 55, 56, 57, 58, 59, 60, 61, 62, 63, 64, 65, 66] hC
      refine va_callv (va_runV (As := [.ref (a 46)]) (rest := []) ⟨hx, hb, hml, hown, hts⟩ (c_X4_read l dC dI cy (sh a 196) (sh a 46) (sh a 1) _ (X6_survey v) (z27_v_mounds, z27_v_opened, z27_v_roots, z27_v_traps, z27_v_tunnels, z27_v_molesR, z27_v_moles, z27_v_moleCount, z19_v_fullAir, z19_v_beats, z27_v_caught, z19_v_gnawed, z27_v_risen, z27_v_fallen) _ hq) (cwV 1 hts gX6_ifDug_X4_read rfl rfl rfl (by decide +kernel) ⟨Nat.le_of_ble_eq_true rfl, Nat.le_of_ble_eq_true rfl⟩) ⟨xPre_blindE, va_recv hK hP (ci := 4) (q0 := 196) rfl rfl, xPre_ofE hPc hK hDc hE hS hFc⟩ rfl rfl hl.1 rfl (lv_room (Nat.le_of_ble_eq_true rfl)) dX6_ifDug_66 ⟨Nat.le_of_ble_eq_true rfl, Nat.le_of_ble_eq_true rfl⟩) hS (fun q _ h => hFc q h) hFc (fun u9 t H locs ht hvm hq hB hz1 hk1 hS => ?_)
      obtain ⟨z66_v_crossings, z66_v_hollow, z66_v_seenBy, z66_v_sure⟩ := u9
      obtain ⟨hP1, -, hD1⟩ := hB
      rw [ht] at hP1
      obtain ⟨hP, hD⟩ := xj hP hD [196, 197, 198, 199, 200, 46, 47, 48, 49, 50, 51, 52, 53, 54, 55, 56, 57, 58, 59, 60, 61, 62, 63, 64, 65, 66] (cX4 cy (sh a 196) z66_v_hollow z66_v_crossings z66_v_sure z66_v_seenBy ++ cX0 cy (sh a 46) (sh a 1) z27_v_mounds z27_v_opened z27_v_roots z27_v_traps z27_v_tunnels z27_v_molesR z27_v_moles z27_v_moleCount z19_v_fullAir z19_v_beats z27_v_caught z19_v_gnawed z27_v_risen z27_v_fallen) (ws' := (cX6 cy a (X6_lawn v) (X6_snapshot v) (z27_v_mounds, z27_v_opened, z27_v_roots, z27_v_traps, z27_v_tunnels, z27_v_molesR, z27_v_moles, z27_v_moleCount, z19_v_fullAir, z19_v_beats, z27_v_caught, z19_v_gnawed, z27_v_risen, z27_v_fallen) (X6_savedR v) (X6_saved v) (X6_text v) (z66_v_hollow, z66_v_crossings, z66_v_sure, z66_v_seenBy) (X6_paths v) (X6_snapshotTaken v) (X6_savedCount v) (z27_u_cells, z27_u_ends, z27_u_used, z27_u_size))) hC rfl (xS_app (n := 196) (m := 5) (i2 := [46, 47, 48, 49, 50, 51, 52, 53, 54, 55, 56, 57, 58, 59, 60, 61, 62, 63, 64, 65, 66]) rfl rfl rfl (xS_one (n := 46) (m := 21) rfl rfl rfl)) hk1 hFc hP1
      refine lv_aload_n hx hb dX6_ifDug_69 rfl (lv_at hl 1 rfl) ?_
      refine va_get (D := (dC, dI)) (ci := 6) (v := .ref (a 196)) (C := RX6) (T := TX6) (N := 9) hx hb hts iK6 hown hK hP 0 rfl rfl 5 (by decide) lk2 (fun _ h9 => h9) rfl dX6_ifDug_70 ?_
      have hC : (([196, 197, 198, 199, 200] : List Nat).map (fun i => (cX6 cy a (X6_lawn v) (X6_snapshot v) (z27_v_mounds, z27_v_opened, z27_v_roots, z27_v_traps, z27_v_tunnels, z27_v_molesR, z27_v_moles, z27_v_moleCount, z19_v_fullAir, z19_v_beats, z27_v_caught, z19_v_gnawed, z27_v_risen, z27_v_fallen) (X6_savedR v) (X6_saved v) (X6_text v) (z66_v_hollow, z66_v_crossings, z66_v_sure, z66_v_seenBy) (X6_paths v) (X6_snapshotTaken v) (X6_savedCount v) (z27_u_cells, z27_u_ends, z27_u_used, z27_u_size))[i]?)) = (cX4 cy (sh a 196) z66_v_hollow z66_v_crossings z66_v_sure z66_v_seenBy).map some := (xC_one (n := 196) (m := 5) rfl rfl rfl)
      have hPc := xsubP hP hC
      have hDc := xsubD hD (by decide) hC
      have hFc := va_free (wc := (cX4 cy (sh a 196) z66_v_hollow z66_v_crossings z66_v_sure z66_v_seenBy)) hD hS hAe0 [196, 197, 198, 199, 200] hC
      refine va_calli (va_runV (As := []) (rest := []) ⟨hx, hb, hml, hown, hts⟩ (c_X4_hollowCount l dC dI cy (sh a 196) _ (z66_v_hollow, z66_v_crossings, z66_v_sure, z66_v_seenBy) _ hq) (cwV 0 hts gX6_ifDug_X4_hollowCount rfl rfl rfl (by decide +kernel) ⟨Nat.le_of_ble_eq_true rfl, Nat.le_of_ble_eq_true rfl⟩) ⟨xPre_blind, va_recv hK hP (ci := 4) (q0 := 196) rfl rfl, xPre_of hPc hK hDc⟩ rfl rfl hl.1 rfl (lv_room (Nat.le_of_ble_eq_true rfl)) dX6_ifDug_73 ⟨Nat.le_of_ble_eq_true rfl, Nat.le_of_ble_eq_true rfl⟩) hS (fun q _ h => hFc q h) hFc (fun r73 u9 t H locs ht hvm hq hB hz1 hk1 hS => ?_)
      obtain ⟨hP1, -, hD1⟩ := hB
      rw [ht] at hP1
      have hP : va_P (dC, dI) vwCl (cX6 cy a (X6_lawn v) (X6_snapshot v) (z27_v_mounds, z27_v_opened, z27_v_roots, z27_v_traps, z27_v_tunnels, z27_v_molesR, z27_v_moles, z27_v_moleCount, z19_v_fullAir, z19_v_beats, z27_v_caught, z19_v_gnawed, z27_v_risen, z27_v_fallen) (X6_savedR v) (X6_saved v) (X6_text v) (z66_v_hollow, z66_v_crossings, z66_v_sure, z66_v_seenBy) (X6_paths v) (X6_snapshotTaken v) (X6_savedCount v) (z27_u_cells, z27_u_ends, z27_u_used, z27_u_size)) H := xj_keep hP hD [196, 197, 198, 199, 200] hC hP1 hk1
      exact W.iret (v := r73) hx hb hr (fun t ht hW => ⟨⟨r73, ((z27_u_cells, z27_u_ends, z27_u_used, z27_u_size), (z66_v_hollow, z66_v_crossings, z66_v_sure, z66_v_seenBy), (z27_v_mounds, z27_v_opened, z27_v_roots, z27_v_traps, z27_v_tunnels, z27_v_molesR, z27_v_moles, z27_v_moleCount, z19_v_fullAir, z19_v_beats, z27_v_caught, z19_v_gnawed, z27_v_risen, z27_v_fallen)), rfl, hq, (xAt_of hP hK hD ht hW)⟩, hS.F ht⟩) hS.2.2 dX6_ifDug_76
    · have hq := hqA c1
      refine lv_iload_n hx hb dX6_ifDug_56 rfl (lv_at hl 0 rfl) ?_
      exact W.iret (v := r27) hx hb hr (fun t ht hW => ⟨⟨r27, ((z27_u_cells, z27_u_ends, z27_u_used, z27_u_size), (X6_survey v), (z27_v_mounds, z27_v_opened, z27_v_roots, z27_v_traps, z27_v_tunnels, z27_v_molesR, z27_v_moles, z27_v_moleCount, z19_v_fullAir, z19_v_beats, z27_v_caught, z19_v_gnawed, z27_v_risen, z27_v_fallen)), rfl, hq, (xAt_of hP hK hD ht hW)⟩, hS.F ht⟩) hS.2.2 dX6_ifDug_57
  · have hq := hqA c2
    refine lv_aload_n hx hb dX6_ifDug_35 rfl (lv_at hl 1 rfl) ?_
    refine va_get (D := (dC, dI)) (ci := 6) (v := .ref (a 46)) (C := RX6) (T := TX6) (N := 9) hx hb hts iK6 hown hK hP 0 rfl rfl 2 (by decide) lk0 (fun _ h9 => h9) rfl dX6_ifDug_36 ?_
    refine va_get (D := (dC, dI)) (ci := 0) (v := .int z27_v_fallen) (C := RX0) (T := TX0) (N := 14) hx hb hts iK0 hown hK hP 46 rfl rfl 13 (by decide) lk3 (fun _ h9 => h9) rfl dX6_ifDug_39 ?_
    refine lv_aload_n hx hb dX6_ifDug_42 rfl (lv_at hl 1 rfl) ?_
    refine va_get (D := (dC, dI)) (ci := 6) (v := .ref (a 4)) (C := RX6) (T := TX6) (N := 9) hx hb hts iK6 hown hK hP 0 rfl rfl 0 (by decide) lk1 (fun _ h9 => h9) rfl dX6_ifDug_43 ?_
    refine va_get (D := (dC, dI)) (ci := 0) (v := .int (X0_fallen (X6_lawn v))) (C := RX0) (T := TX0) (N := 14) hx hb hts iK0 hown hK hP 4 rfl rfl 13 (by decide) lk3 (fun _ h9 => h9) rfl dX6_ifDug_46 ?_
    refine lv_isub hx hb dX6_ifDug_49 ?_
    exact W.iret (v := (z27_v_fallen - (X0_fallen (X6_lawn v)))) hx hb hr (fun t ht hW => ⟨⟨(z27_v_fallen - (X0_fallen (X6_lawn v))), ((z27_u_cells, z27_u_ends, z27_u_used, z27_u_size), (X6_survey v), (z27_v_mounds, z27_v_opened, z27_v_roots, z27_v_traps, z27_v_tunnels, z27_v_molesR, z27_v_moles, z27_v_moleCount, z19_v_fullAir, z19_v_beats, z27_v_caught, z19_v_gnawed, z27_v_risen, z27_v_fallen)), rfl, hq, (xAt_of hP hK hD ht hW)⟩, hS.F ht⟩) hS.2.2 dX6_ifDug_50
