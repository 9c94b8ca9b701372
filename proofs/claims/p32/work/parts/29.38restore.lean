def wp_X6_restore (v : V_X6) (Q : Int32 → V_X0 → (Nat → V_X0) → Int32 → (Nat → Nat) → Prop) (QX : String → Prop) : Prop :=
  (((X6_snapshotTaken v) = 0 → QX "java/lang/IllegalStateException") ∧
  (¬ (X6_snapshotTaken v) = 0 → wp_X6_saveState v (fun z18_v_saved z18_v_savedCount z18_v_savedR =>
  wp_X0_copyFrom (X6_lawn v) (X6_snapshot v) (fun z29_v_beats z29_v_caught z29_v_fallen z29_v_fullAir z29_v_gnawed z29_v_moleCount z29_v_moles z29_v_mounds z29_v_opened z29_v_risen z29_v_roots z29_v_traps z29_v_tunnels =>
  Q (X3_size z29_v_tunnels) (z29_v_mounds, z29_v_opened, z29_v_roots, z29_v_traps, z29_v_tunnels, (X0_molesR (X6_lawn v)), z29_v_moles, z29_v_moleCount, z29_v_fullAir, z29_v_beats, z29_v_caught, z29_v_gnawed, z29_v_risen, z29_v_fallen) z18_v_saved z18_v_savedCount z18_v_savedR))))
def q_X6_restore (dC : Nat → ClassId) (dI : Nat → Nat → Nat) (cy : Nat → ClassId) (a : Nat → Nat) (v : V_X6) (Q : Int32 → V_X0 → (Nat → V_X0) → Int32 → (Nat → Nat) → Prop) (A : Nat → Prop) : Array Value → State → Outcome → State → Prop := va_Qi (fun (r : Int32) (u : V_X0 × (Nat → V_X0) × Int32 × (Nat → Nat)) => Q r u.1 u.2.1 u.2.2.1 u.2.2.2) (fun (u : V_X0 × (Nat → V_X0) × Int32 × (Nat → Nat)) t => xAt dC dI cy A (cX6 cy a u.1 (X6_snapshot v) (X6_trial v) u.2.2.2 u.2.1 (X6_text v) (X6_survey v) (X6_paths v) (X6_snapshotTaken v) u.2.2.1 (X6_spareR v)) t) A
set_option maxHeartbeats 4000000 in
set_option maxRecDepth 100000 in
theorem c_X6_restore (l : Launch) (dC : Nat → ClassId) (dI : Nat → Nat → Nat) (cy : Nat → ClassId) (a : Nat → Nat) (sz : Nat) (v : V_X6) (Q : Int32 → V_X0 → (Nat → V_X0) → Int32 → (Nat → Nat) → Prop) (QX : String → Prop) (hX : ∀ E, ¬ QX E) (hq : wp_X6_restore v Q QX) : Met l yX6_restore wsX6_restore ({ frames := 4, cells := 0, slots := 0, locals := 91 } : Room) (va_Pc [.ref (a 0)] (xPre dC dI cy (wX6 cy a v) sz)) (q_X6_restore dC dI cy a v Q (va_A (wX6 cy a v) sz)) 0 0 (va_A (wX6 cy a v) sz) := by
  refine Met.ofW (cc := cX6_restore) (maxL := 1) (ret := (some .int)) (by decide) rfl ?_
  intro p e s m args below meth c s₁ B hml hv
  obtain ⟨rfl, hsz, hP, hK, hD0⟩ := hv
  have hx := B.exec
  have hb := B.bytes
  have hr := B.returns
  have hts := atoms_spec (ws := wsX6_restore) B.pre
  have hown : s.vm.findClass RX6 = some m.cls := findClass_of_methodNamed B.named
  have hlocks := B.notSynchronized
  subst hsz
  have hD := hD0.self (sz := s.heap.size)
  generalize hAe : va_A (wX6 cy a v) s.heap.size = A at hD ⊢
  have hAe0 : ∀ q : Nat, s.heap.size ≤ q → A q := fun q h => by rw [← hAe]; exact Or.inr h
  have hS : va_S A s.heap s.heap [] := va_S.rf
  have hl := lv_entry ([.ref (a 0)]) (n := 1) (Nat.le_of_ble_eq_true rfl)
  rw [lg_entry_eq]
  generalize (lg_sl ([.ref (a 0)]) ++ List.replicate (1 - (lg_sl ([.ref (a 0)])).length) Slot.unset).toArray = ls at hl ⊢
  have hl : lv_has ls 1 [(0, .ref (a 0))] := hl
  have lk0 := hts (Cond.fieldLink RX6 183 "MolesLawn" "snapshotTaken" "Z") (List.mem_cons_of_mem _ (List.mem_append_left _ (List.mem_append_left _ (List.mem_append_left _ (List.mem_append_left _ (List.mem_append_left _ (List.mem_append_left _ (List.mem_of_getElem? (i := 2) rfl))))))))
  have lk1 := hts (Cond.fieldLink RX6 15 "MolesLawn" "lawn" "LMolesLawn$Lawn;") (List.mem_cons_of_mem _ (List.mem_append_left _ (List.mem_append_left _ (List.mem_append_left _ (List.mem_append_left _ (List.mem_append_left _ (List.mem_append_left _ (List.mem_of_getElem? (i := 3) rfl))))))))
  have lk2 := hts (Cond.fieldLink RX6 21 "MolesLawn" "snapshot" "LMolesLawn$Lawn;") (List.mem_cons_of_mem _ (List.mem_append_left _ (List.mem_append_left _ (List.mem_append_left _ (List.mem_append_left _ (List.mem_append_left _ (List.mem_append_left _ (List.mem_of_getElem? (i := 4) rfl))))))))
  have lk3 := hts (Cond.fieldLink RX6 187 "MolesLawn$Lawn" "tunnels" "LMolesLawn$Rows;") (List.mem_cons_of_mem _ (List.mem_append_left _ (List.mem_append_left _ (List.mem_append_left _ (List.mem_append_left _ (List.mem_append_left _ (List.mem_append_left _ (List.mem_of_getElem? (i := 5) rfl))))))))
  have lk4 := hts (Cond.fieldLink RX6 191 "MolesLawn$Rows" "size" "I") (List.mem_cons_of_mem _ (List.mem_append_left _ (List.mem_append_left _ (List.mem_append_left _ (List.mem_append_left _ (List.mem_append_left _ (List.mem_append_left _ (List.mem_of_getElem? (i := 6) rfl))))))))
  have iK0 : ∀ w ∈ wsX00, w ∈ wsX6_restore := fun _ h => (List.mem_cons_of_mem _ (List.mem_append_left _ (List.mem_append_left _ (List.mem_append_left _ (List.mem_append_right _ h)))))
  have iK3 : ∀ w ∈ wsX30, w ∈ wsX6_restore := fun _ h => (List.mem_cons_of_mem _ (List.mem_append_left _ (List.mem_append_left _ (List.mem_append_right _ h))))
  have iK6 : ∀ w ∈ wsX60, w ∈ wsX6_restore := fun _ h => (List.mem_cons_of_mem _ (List.mem_append_left _ (List.mem_append_left _ (List.mem_append_left _ (List.mem_append_left _ (List.mem_append_right _ h))))))
  unfold wp_X6_restore at hq
  refine lv_aload_n hx hb dX6_restore_0 rfl (lv_at hl 0 rfl) ?_
  refine va_get (D := (dC, dI)) (ci := 6) (v := .int (X6_snapshotTaken v)) (C := RX6) (T := TX6) (N := 9) hx hb hts iK6 hown hK hP 0 rfl rfl 7 (by decide) lk0 (fun _ h9 => h9) rfl dX6_restore_1 ?_
  obtain ⟨hqA, hqB⟩ := hq
  refine lv_if_ne (tgt := 17) hx hb dX6_restore_4 (by decide) (fun c1 => ?_) (fun c1 => ?_)
  · have hq := hqB c1
    refine lv_aload_n hx hb dX6_restore_17 rfl (lv_at hl 0 rfl) ?_
    have hFc := xfree_same hS hAe0 (ws := (wX6 cy a v)) hD
    refine va_callv (va_runV (As := []) (rest := []) ⟨hx, hb, hml, hown, hts⟩ (c_X6_saveState l dC dI cy a _ v _ hq) (cwV 0 hts gX6_restore_X6_saveState rfl rfl rfl (by decide +kernel) ⟨Nat.le_of_ble_eq_true rfl, Nat.le_of_ble_eq_true rfl⟩) ⟨xPre_blind, va_recv hK hP (ci := 6) (q0 := 0) rfl rfl, xPre_of hP hK hD⟩ rfl rfl hl.1 rfl (lv_room (Nat.le_of_ble_eq_true rfl)) dX6_restore_18 ⟨Nat.le_of_ble_eq_true rfl, Nat.le_of_ble_eq_true rfl⟩) hS (fun q _ h => hFc q h) hFc (fun u9 t H locs ht hvm hq hB hz1 hk1 hS => ?_)
    obtain ⟨z18_v_saved, z18_v_savedCount, z18_v_savedR⟩ := u9
    obtain ⟨hP1, -, hD1⟩ := hB
    rw [ht] at hP1
    have hP : va_P (dC, dI) vwCl (cX6 cy a (X6_lawn v) (X6_snapshot v) (X6_trial v) z18_v_savedR z18_v_saved (X6_text v) (X6_survey v) (X6_paths v) (X6_snapshotTaken v) z18_v_savedCount (X6_spareR v)) H := hP1
    have hD : va_D A (cX6 cy a (X6_lawn v) (X6_snapshot v) (X6_trial v) z18_v_savedR z18_v_saved (X6_text v) (X6_survey v) (X6_paths v) (X6_snapshotTaken v) z18_v_savedCount (X6_spareR v)) := hD1.weaken (fun _ q _ h => hFc q.1 h)
    refine lv_aload_n hx hb dX6_restore_21 rfl (lv_at hl 0 rfl) ?_
    refine va_get (D := (dC, dI)) (ci := 6) (v := .ref (a 4)) (C := RX6) (T := TX6) (N := 9) hx hb hts iK6 hown hK hP 0 rfl rfl 0 (by decide) lk1 (fun _ h9 => h9) rfl dX6_restore_22 ?_
    refine lv_aload_n hx hb dX6_restore_25 rfl (lv_at hl 0 rfl) ?_
    refine va_get (D := (dC, dI)) (ci := 6) (v := .ref (a 25)) (C := RX6) (T := TX6) (N := 9) hx hb hts iK6 hown hK hP 0 rfl rfl 1 (by decide) lk2 (fun _ h9 => h9) rfl dX6_restore_26 ?_
    have hC : (([4, 5, 6, 7, 8, 9, 10, 11, 12, 13, 14, 15, 16, 17, 18, 19, 20, 21, 22, 23, 24, 25, 26, 27, 28, 29, 30, 31, 32, 33, 34, 35, 36, 37, 38, 39, 40, 41, 42, 43, 44, 45] : List Nat).map (fun i => (cX6 cy a (X6_lawn v) (X6_snapshot v) (X6_trial v) z18_v_savedR z18_v_saved (X6_text v) (X6_survey v) (X6_paths v) (X6_snapshotTaken v) z18_v_savedCount (X6_spareR v))[i]?)) = (wX0 cy (sh a 4) (sh a 1) (X6_lawn v) ++ wX0 cy (sh a 25) (sh a 1) (X6_snapshot v)).map some := (xC_app (i1 := [4, 5, 6, 7, 8, 9, 10, 11, 12, 13, 14, 15, 16, 17, 18, 19, 20, 21, 22, 23, 24]) (i2 := [25, 26, 27, 28, 29, 30, 31, 32, 33, 34, 35, 36, 37, 38, 39, 40, 41, 42, 43, 44, 45]) rfl (xC_one (n := 4) (m := 21) rfl rfl rfl) (xC_one (n := 25) (m := 21) rfl rfl rfl))
    have hPc := xsubP hP hC
    have hDc := xsubD hD (by decide) hC
    have hFc := va_free (wc := (wX0 cy (sh a 4) (sh a 1) (X6_lawn v) ++ wX0 cy (sh a 25) (sh a 1) (X6_snapshot v))) hD hS hAe0 [4, 5, 6, 7, 8, 9, 10, 11, 12, 13, 14, 15, 16, 17, 18, 19, 20, 21, 22, 23, 24, 25, 26, 27, 28, 29, 30, 31, 32, 33, 34, 35, 36, 37, 38, 39, 40, 41, 42, 43, 44, 45] hC
    refine va_callv (va_runV (As := [.ref (a 25)]) (rest := []) ⟨hx, hb, hml, hown, hts⟩ (c_X0_copyFrom l dC dI cy (sh a 4) (sh a 1) (sh a 25) _ (X6_lawn v) (X6_snapshot v) _ hq) (cwV 1 hts gX6_restore_X0_copyFrom rfl rfl rfl (by decide +kernel) ⟨Nat.le_of_ble_eq_true rfl, Nat.le_of_ble_eq_true rfl⟩) ⟨xPre_blind, va_recv hK hP (ci := 0) (q0 := 4) rfl rfl, xPre_of hPc hK hDc⟩ rfl rfl hl.1 rfl (lv_room (Nat.le_of_ble_eq_true rfl)) dX6_restore_29 ⟨Nat.le_of_ble_eq_true rfl, Nat.le_of_ble_eq_true rfl⟩) hS (fun q _ h => hFc q h) hFc (fun u9 t H locs ht hvm hq hB hz1 hk1 hS => ?_)
    obtain ⟨z29_v_beats, z29_v_caught, z29_v_fallen, z29_v_fullAir, z29_v_gnawed, z29_v_moleCount, z29_v_moles, z29_v_mounds, z29_v_opened, z29_v_risen, z29_v_roots, z29_v_traps, z29_v_tunnels⟩ := u9
    obtain ⟨hP1, -, hD1⟩ := hB
    rw [ht] at hP1
    obtain ⟨hP, hD⟩ := xj hP hD [4, 5, 6, 7, 8, 9, 10, 11, 12, 13, 14, 15, 16, 17, 18, 19, 20, 21, 22, 23, 24, 25, 26, 27, 28, 29, 30, 31, 32, 33, 34, 35, 36, 37, 38, 39, 40, 41, 42, 43, 44, 45] (cX0 cy (sh a 4) (sh a 1) z29_v_mounds z29_v_opened z29_v_roots z29_v_traps z29_v_tunnels (X0_molesR (X6_lawn v)) z29_v_moles z29_v_moleCount z29_v_fullAir z29_v_beats z29_v_caught z29_v_gnawed z29_v_risen z29_v_fallen ++ wX0 cy (sh a 25) (sh a 1) (X6_snapshot v)) (ws' := (cX6 cy a (z29_v_mounds, z29_v_opened, z29_v_roots, z29_v_traps, z29_v_tunnels, (X0_molesR (X6_lawn v)), z29_v_moles, z29_v_moleCount, z29_v_fullAir, z29_v_beats, z29_v_caught, z29_v_gnawed, z29_v_risen, z29_v_fallen) (X6_snapshot v) (X6_trial v) z18_v_savedR z18_v_saved (X6_text v) (X6_survey v) (X6_paths v) (X6_snapshotTaken v) z18_v_savedCount (X6_spareR v))) hC rfl (xS_app (n := 4) (m := 21) (i2 := [25, 26, 27, 28, 29, 30, 31, 32, 33, 34, 35, 36, 37, 38, 39, 40, 41, 42, 43, 44, 45]) rfl rfl rfl (xS_one (n := 25) (m := 21) rfl rfl rfl)) hk1 hFc hP1
    refine lv_aload_n hx hb dX6_restore_32 rfl (lv_at hl 0 rfl) ?_
    refine va_get (D := (dC, dI)) (ci := 6) (v := .ref (a 4)) (C := RX6) (T := TX6) (N := 9) hx hb hts iK6 hown hK hP 0 rfl rfl 0 (by decide) lk1 (fun _ h9 => h9) rfl dX6_restore_33 ?_
    refine va_get (D := (dC, dI)) (ci := 0) (v := .ref (a 9)) (C := RX0) (T := TX0) (N := 14) hx hb hts iK0 hown hK hP 4 rfl rfl 4 (by decide) lk3 (fun _ h9 => h9) rfl dX6_restore_36 ?_
    refine va_get (D := (dC, dI)) (ci := 3) (v := .int (X3_size z29_v_tunnels)) (C := RX3) (T := TX3) (N := 4) hx hb hts iK3 hown hK hP 9 rfl rfl 3 (by decide) lk4 (fun _ h9 => h9) rfl dX6_restore_39 ?_
    exact W.iret (v := (X3_size z29_v_tunnels)) hx hb hr (fun t ht hW => ⟨⟨(X3_size z29_v_tunnels), ((z29_v_mounds, z29_v_opened, z29_v_roots, z29_v_traps, z29_v_tunnels, (X0_molesR (X6_lawn v)), z29_v_moles, z29_v_moleCount, z29_v_fullAir, z29_v_beats, z29_v_caught, z29_v_gnawed, z29_v_risen, z29_v_fallen), z18_v_saved, z18_v_savedCount, z18_v_savedR), rfl, hq, (xAt_of hP hK hD ht hW)⟩, hS.F ht⟩) hS.2.2 dX6_restore_42
  · have hq := hqA c1
    exact (hX _ hq).elim
