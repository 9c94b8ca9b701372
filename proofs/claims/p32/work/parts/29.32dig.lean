def wp_X6_dig (v : V_X6) (x1 : Int32) (Q : Int32 → V_X0 → (Nat → V_X0) → Int32 → (Nat → Nat) → V_X3 → Prop) (QX : String → Prop) : Prop :=
  wp_X6_checkTuft v x1 (wp_X6_saveState v (fun z6_v_saved z6_v_savedCount z6_v_savedR =>
  wp_X0_digUp (X6_lawn v) (X6_spareR v) x1 (fun r14 z14_u_cells z14_u_ends z14_u_size z14_u_used z14_v_caught z14_v_fallen z14_v_moleCount z14_v_moles z14_v_molesR z14_v_mounds z14_v_opened z14_v_risen z14_v_roots z14_v_traps z14_v_tunnels =>
  Q r14 (z14_v_mounds, z14_v_opened, z14_v_roots, z14_v_traps, z14_v_tunnels, z14_v_molesR, z14_v_moles, z14_v_moleCount, (X0_fullAir (X6_lawn v)), (X0_beats (X6_lawn v)), z14_v_caught, (X0_gnawed (X6_lawn v)), z14_v_risen, z14_v_fallen) z6_v_saved z6_v_savedCount z6_v_savedR (z14_u_cells, z14_u_ends, z14_u_used, z14_u_size)))) QX
def q_X6_dig (dC : Nat → ClassId) (dI : Nat → Nat → Nat) (cy : Nat → ClassId) (a : Nat → Nat) (v : V_X6) (x1 : Int32) (Q : Int32 → V_X0 → (Nat → V_X0) → Int32 → (Nat → Nat) → V_X3 → Prop) (A : Nat → Prop) : Array Value → State → Outcome → State → Prop := va_Qi (fun (r : Int32) (u : V_X0 × (Nat → V_X0) × Int32 × (Nat → Nat) × V_X3) => Q r u.1 u.2.1 u.2.2.1 u.2.2.2.1 u.2.2.2.2) (fun (u : V_X0 × (Nat → V_X0) × Int32 × (Nat → Nat) × V_X3) t => xAt dC dI cy A (cX6 cy a u.1 (X6_snapshot v) (X6_trial v) u.2.2.2.1 u.2.1 (X6_text v) (X6_survey v) (X6_paths v) (X6_snapshotTaken v) u.2.2.1 u.2.2.2.2) t) A
set_option maxHeartbeats 4000000 in
set_option maxRecDepth 100000 in
theorem c_X6_dig (l : Launch) (dC : Nat → ClassId) (dI : Nat → Nat → Nat) (cy : Nat → ClassId) (a : Nat → Nat) (sz : Nat) (v : V_X6) (x1 : Int32) (Q : Int32 → V_X0 → (Nat → V_X0) → Int32 → (Nat → Nat) → V_X3 → Prop) (QX : String → Prop) (hX : ∀ E, ¬ QX E) (hq : wp_X6_dig v x1 Q QX) : Met l yX6_dig wsX6_dig ({ frames := 6, cells := 0, slots := 0, locals := 143 } : Room) (va_Pc [.ref (a 0), .int x1] (xPre dC dI cy (wX6 cy a v) sz)) (q_X6_dig dC dI cy a v x1 Q (va_A (wX6 cy a v) sz)) 0 0 (va_A (wX6 cy a v) sz) := by
  refine Met.ofW (cc := cX6_dig) (maxL := 2) (ret := (some .int)) (by decide) rfl ?_
  intro p e s m args below meth c s₁ B hml hv
  obtain ⟨rfl, hsz, hP, hK, hD0⟩ := hv
  have hx := B.exec
  have hb := B.bytes
  have hr := B.returns
  have hts := atoms_spec (ws := wsX6_dig) B.pre
  have hown : s.vm.findClass RX6 = some m.cls := findClass_of_methodNamed B.named
  have hlocks := B.notSynchronized
  subst hsz
  have hD := hD0.self (sz := s.heap.size)
  generalize hAe : va_A (wX6 cy a v) s.heap.size = A at hD ⊢
  have hAe0 : ∀ q : Nat, s.heap.size ≤ q → A q := fun q h => by rw [← hAe]; exact Or.inr h
  have hS : va_S A s.heap s.heap [] := va_S.rf
  have hl := lv_entry ([.ref (a 0), .int x1]) (n := 2) (Nat.le_of_ble_eq_true rfl)
  rw [lg_entry_eq]
  generalize (lg_sl ([.ref (a 0), .int x1]) ++ List.replicate (2 - (lg_sl ([.ref (a 0), .int x1])).length) Slot.unset).toArray = ls at hl ⊢
  have hl : lv_has ls 2 [(0, .ref (a 0)), (1, .int x1)] := hl
  have lk0 := hts (Cond.fieldLink RX6 15 "MolesLawn" "lawn" "LMolesLawn$Lawn;") (List.mem_cons_of_mem _ (List.mem_append_left _ (List.mem_append_left _ (List.mem_append_left _ (List.mem_append_left _ (List.mem_append_left _ (List.mem_append_left _ (List.mem_of_getElem? (i := 0) rfl))))))))
  have iK6 : ∀ w ∈ wsX60, w ∈ wsX6_dig := fun _ h => (List.mem_cons_of_mem _ (List.mem_append_left _ (List.mem_append_left _ (List.mem_append_left _ (List.mem_append_left _ (List.mem_append_right _ h))))))
  unfold wp_X6_dig at hq
  refine lv_aload_n hx hb dX6_dig_0 rfl (lv_at hl 0 rfl) ?_
  refine lv_iload_n hx hb dX6_dig_1 rfl (lv_at hl 1 rfl) ?_
  have hFc := xfree_same hS hAe0 (ws := (wX6 cy a v)) hD
  refine va_callv (va_runV (As := [.int x1]) (rest := []) ⟨hx, hb, hml, hown, hts⟩ (c_X6_checkTuft l dC dI cy a _ v x1 _ _ hX hq) (cwV 1 hts gX6_dig_X6_checkTuft rfl rfl rfl (by decide +kernel) ⟨Nat.le_of_ble_eq_true rfl, Nat.le_of_ble_eq_true rfl⟩) ⟨xPre_blind, va_recv hK hP (ci := 6) (q0 := 0) rfl rfl, xPre_of hP hK hD⟩ rfl rfl hl.1 rfl (lv_room (Nat.le_of_ble_eq_true rfl)) dX6_dig_2 ⟨Nat.le_of_ble_eq_true rfl, Nat.le_of_ble_eq_true rfl⟩) hS (fun q _ h => hFc q h) hFc (fun u9 t H locs ht hvm hq hB hz1 hk1 hS => ?_)
  obtain ⟨hP1, -, hD1⟩ := hB
  rw [ht] at hP1
  have hP : va_P (dC, dI) vwCl (wX6 cy a v) H := hP1
  have hD : va_D A (wX6 cy a v) := hD1.weaken (fun _ q _ h => hFc q.1 h)
  refine lv_aload_n hx hb dX6_dig_5 rfl (lv_at hl 0 rfl) ?_
  have hFc := xfree_same hS hAe0 (ws := (wX6 cy a v)) hD
  refine va_callv (va_runV (As := []) (rest := []) ⟨hx, hb, hml, hown, hts⟩ (c_X6_saveState l dC dI cy a _ v _ hq) (cwV 0 hts gX6_dig_X6_saveState rfl rfl rfl (by decide +kernel) ⟨Nat.le_of_ble_eq_true rfl, Nat.le_of_ble_eq_true rfl⟩) ⟨xPre_blind, va_recv hK hP (ci := 6) (q0 := 0) rfl rfl, xPre_of hP hK hD⟩ rfl rfl hl.1 rfl (lv_room (Nat.le_of_ble_eq_true rfl)) dX6_dig_6 ⟨Nat.le_of_ble_eq_true rfl, Nat.le_of_ble_eq_true rfl⟩) hS (fun q _ h => hFc q h) hFc (fun u9 t H locs ht hvm hq hB hz1 hk1 hS => ?_)
  obtain ⟨z6_v_saved, z6_v_savedCount, z6_v_savedR⟩ := u9
  obtain ⟨hP1, -, hD1⟩ := hB
  rw [ht] at hP1
  have hP : va_P (dC, dI) vwCl (cX6 cy a (X6_lawn v) (X6_snapshot v) (X6_trial v) z6_v_savedR z6_v_saved (X6_text v) (X6_survey v) (X6_paths v) (X6_snapshotTaken v) z6_v_savedCount (X6_spareR v)) H := hP1
  have hD : va_D A (cX6 cy a (X6_lawn v) (X6_snapshot v) (X6_trial v) z6_v_savedR z6_v_saved (X6_text v) (X6_survey v) (X6_paths v) (X6_snapshotTaken v) z6_v_savedCount (X6_spareR v)) := hD1.weaken (fun _ q _ h => hFc q.1 h)
  refine lv_aload_n hx hb dX6_dig_9 rfl (lv_at hl 0 rfl) ?_
  refine va_get (D := (dC, dI)) (ci := 6) (v := .ref (a 4)) (C := RX6) (T := TX6) (N := 9) hx hb hts iK6 hown hK hP 0 rfl rfl 0 (by decide) lk0 (fun _ h9 => h9) rfl dX6_dig_10 ?_
  refine lv_iload_n hx hb dX6_dig_13 rfl (lv_at hl 1 rfl) ?_
  have hC : (([4, 5, 6, 7, 8, 9, 10, 11, 12, 13, 14, 15, 16, 17, 18, 19, 20, 21, 22, 23, 24, 1, 2, 3] : List Nat).map (fun i => (cX6 cy a (X6_lawn v) (X6_snapshot v) (X6_trial v) z6_v_savedR z6_v_saved (X6_text v) (X6_survey v) (X6_paths v) (X6_snapshotTaken v) z6_v_savedCount (X6_spareR v))[i]?)) = (wX0 cy (sh a 4) (sh a 1) (X6_lawn v) ++ wX3 cy (sh a 1) (X6_spareR v)).map some := (xC_app (i1 := [4, 5, 6, 7, 8, 9, 10, 11, 12, 13, 14, 15, 16, 17, 18, 19, 20, 21, 22, 23, 24]) (i2 := [1, 2, 3]) rfl (xC_one (n := 4) (m := 21) rfl rfl rfl) (xC_one (n := 1) (m := 3) rfl rfl rfl))
  have hPc := xsubP hP hC
  have hDc := xsubD hD (by decide) hC
  have hFc := va_free (wc := (wX0 cy (sh a 4) (sh a 1) (X6_lawn v) ++ wX3 cy (sh a 1) (X6_spareR v))) hD hS hAe0 [4, 5, 6, 7, 8, 9, 10, 11, 12, 13, 14, 15, 16, 17, 18, 19, 20, 21, 22, 23, 24, 1, 2, 3] hC
  refine va_calli (va_runV (As := [.int x1]) (rest := []) ⟨hx, hb, hml, hown, hts⟩ (c_X0_digUp l dC dI cy (sh a 4) (sh a 1) _ (X6_lawn v) (X6_spareR v) x1 _ hq) (cwV 1 hts gX6_dig_X0_digUp rfl rfl rfl (by decide +kernel) ⟨Nat.le_of_ble_eq_true rfl, Nat.le_of_ble_eq_true rfl⟩) ⟨xPre_blind, va_recv hK hP (ci := 0) (q0 := 4) rfl rfl, xPre_of hPc hK hDc⟩ rfl rfl hl.1 rfl (lv_room (Nat.le_of_ble_eq_true rfl)) dX6_dig_14 ⟨Nat.le_of_ble_eq_true rfl, Nat.le_of_ble_eq_true rfl⟩) hS (fun q _ h => hFc q h) hFc (fun r14 u9 t H locs ht hvm hq hB hz1 hk1 hS => ?_)
  obtain ⟨z14_u_cells, z14_u_ends, z14_u_size, z14_u_used, z14_v_caught, z14_v_fallen, z14_v_moleCount, z14_v_moles, z14_v_molesR, z14_v_mounds, z14_v_opened, z14_v_risen, z14_v_roots, z14_v_traps, z14_v_tunnels⟩ := u9
  obtain ⟨hP1, -, hD1⟩ := hB
  rw [ht] at hP1
  obtain ⟨hP, hD⟩ := xj hP hD [4, 5, 6, 7, 8, 9, 10, 11, 12, 13, 14, 15, 16, 17, 18, 19, 20, 21, 22, 23, 24, 1, 2, 3] (cX0 cy (sh a 4) (sh a 1) z14_v_mounds z14_v_opened z14_v_roots z14_v_traps z14_v_tunnels z14_v_molesR z14_v_moles z14_v_moleCount (X0_fullAir (X6_lawn v)) (X0_beats (X6_lawn v)) z14_v_caught (X0_gnawed (X6_lawn v)) z14_v_risen z14_v_fallen ++ cX3 cy (sh a 1) z14_u_cells z14_u_ends z14_u_used z14_u_size) (ws' := (cX6 cy a (z14_v_mounds, z14_v_opened, z14_v_roots, z14_v_traps, z14_v_tunnels, z14_v_molesR, z14_v_moles, z14_v_moleCount, (X0_fullAir (X6_lawn v)), (X0_beats (X6_lawn v)), z14_v_caught, (X0_gnawed (X6_lawn v)), z14_v_risen, z14_v_fallen) (X6_snapshot v) (X6_trial v) z6_v_savedR z6_v_saved (X6_text v) (X6_survey v) (X6_paths v) (X6_snapshotTaken v) z6_v_savedCount (z14_u_cells, z14_u_ends, z14_u_used, z14_u_size))) hC rfl (xS_app (n := 4) (m := 21) (i2 := [1, 2, 3]) rfl rfl rfl (xS_one (n := 1) (m := 3) rfl rfl rfl)) hk1 hFc hP1
  exact W.iret (v := r14) hx hb hr (fun t ht hW => ⟨⟨r14, ((z14_v_mounds, z14_v_opened, z14_v_roots, z14_v_traps, z14_v_tunnels, z14_v_molesR, z14_v_moles, z14_v_moleCount, (X0_fullAir (X6_lawn v)), (X0_beats (X6_lawn v)), z14_v_caught, (X0_gnawed (X6_lawn v)), z14_v_risen, z14_v_fallen), z6_v_saved, z6_v_savedCount, z6_v_savedR, (z14_u_cells, z14_u_ends, z14_u_used, z14_u_size)), rfl, hq, (xAt_of hP hK hD ht hW)⟩, hS.F ht⟩) hS.2.2 dX6_dig_17
