def wp_X6_rake (v : V_X6) (x1 : Int32) (Q : Int32 → V_X0 → (Nat → V_X0) → Int32 → (Nat → Nat) → V_X3 → Prop) (QX : String → Prop) : Prop :=
  wp_X6_checkTuft v x1 (vp_in x1 64 ∧ ((((X0_mounds (X6_lawn v)) x1.toNatClampNeg) = 0 → QX "java/lang/IllegalStateException") ∧
  (¬ ((X0_mounds (X6_lawn v)) x1.toNatClampNeg) = 0 → wp_X0_trailBeginsAt (X6_lawn v) x1 (fun r22 =>
  ((r22 = 0 → wp_X6_saveState v (fun z39_v_saved z39_v_savedCount z39_v_savedR =>
  wp_X0_rakeOff (X6_lawn v) (X6_spareR v) x1 (fun r47 z47_u_cells z47_u_ends z47_u_size z47_u_used z47_v_fallen z47_v_mounds z47_v_tunnels =>
  Q r47 (z47_v_mounds, (X0_opened (X6_lawn v)), (X0_roots (X6_lawn v)), (X0_traps (X6_lawn v)), z47_v_tunnels, (X0_molesR (X6_lawn v)), (X0_moles (X6_lawn v)), (X0_moleCount (X6_lawn v)), (X0_fullAir (X6_lawn v)), (X0_beats (X6_lawn v)), (X0_caught (X6_lawn v)), (X0_gnawed (X6_lawn v)), (X0_risen (X6_lawn v)), z47_v_fallen) z39_v_saved z39_v_savedCount z39_v_savedR (z47_u_cells, z47_u_ends, z47_u_used, z47_u_size)))) ∧
  (¬ r22 = 0 → QX "java/lang/IllegalStateException")))))) QX
def q_X6_rake (dC : Nat → ClassId) (dI : Nat → Nat → Nat) (cy : Nat → ClassId) (a : Nat → Nat) (v : V_X6) (x1 : Int32) (Q : Int32 → V_X0 → (Nat → V_X0) → Int32 → (Nat → Nat) → V_X3 → Prop) (A : Nat → Prop) : Array Value → State → Outcome → State → Prop := va_Qi (fun (r : Int32) (u : V_X0 × (Nat → V_X0) × Int32 × (Nat → Nat) × V_X3) => Q r u.1 u.2.1 u.2.2.1 u.2.2.2.1 u.2.2.2.2) (fun (u : V_X0 × (Nat → V_X0) × Int32 × (Nat → Nat) × V_X3) t => xAt dC dI cy A (cX6 cy a u.1 (X6_snapshot v) (X6_trial v) u.2.2.2.1 u.2.1 (X6_text v) (X6_survey v) (X6_paths v) (X6_snapshotTaken v) u.2.2.1 u.2.2.2.2) t) A
set_option maxHeartbeats 4000000 in
set_option maxRecDepth 100000 in
theorem c_X6_rake (l : Launch) (dC : Nat → ClassId) (dI : Nat → Nat → Nat) (cy : Nat → ClassId) (a : Nat → Nat) (sz : Nat) (v : V_X6) (x1 : Int32) (Q : Int32 → V_X0 → (Nat → V_X0) → Int32 → (Nat → Nat) → V_X3 → Prop) (QX : String → Prop) (hX : ∀ E, ¬ QX E) (hq : wp_X6_rake v x1 Q QX) : Met l yX6_rake wsX6_rake ({ frames := 7, cells := 0, slots := 0, locals := 161 } : Room) (va_Pc [.ref (a 0), .int x1] (xPre dC dI cy (wX6 cy a v) sz)) (q_X6_rake dC dI cy a v x1 Q (va_A (wX6 cy a v) sz)) 0 0 (va_A (wX6 cy a v) sz) := by
  refine Met.ofW (cc := cX6_rake) (maxL := 2) (ret := (some .int)) (by decide) rfl ?_
  intro p e s m args below meth c s₁ B hml hv
  obtain ⟨rfl, hsz, hP, hK, hD0⟩ := hv
  have hx := B.exec
  have hb := B.bytes
  have hr := B.returns
  have hts := atoms_spec (ws := wsX6_rake) B.pre
  have hown : s.vm.findClass RX6 = some m.cls := findClass_of_methodNamed B.named
  have hlocks := B.notSynchronized
  subst hsz
  have hD := hD0.self (sz := s.heap.size)
  generalize hAe : va_A (wX6 cy a v) s.heap.size = A at hD ⊢
  have hAe0 : ∀ q : Nat, s.heap.size ≤ q → A q := fun q h => by rw [← hAe]; exact Or.inr h
  have hS : va_S A s.heap s.heap [] := va_S.rf
  have hl := lv_entry ([.ref (a 0), .int x1]) (n := 2) (Nat.le_of_ble_eq_true rfl)
  rw [lg_entry_eq]
  generalize (lg_sl ([.ref (a 0), .int x1]) ++ List.replicate (2 - (lg_sl ([.ref (a 0), .int x1])).length) Slot.unset).toArray = ls at hl ⊢
  have hl : lv_has ls 2 [(0, .ref (a 0)), (1, .int x1)] := hl
  have lk0 := hts (Cond.fieldLink RX6 15 "MolesLawn" "lawn" "LMolesLawn$Lawn;") (List.mem_cons_of_mem _ (List.mem_append_left _ (List.mem_append_left _ (List.mem_append_left _ (List.mem_append_left _ (List.mem_append_left _ (List.mem_append_left _ (List.mem_append_left _ (List.mem_of_getElem? (i := 2) rfl)))))))))
  have lk1 := hts (Cond.fieldLink RX6 125 "MolesLawn$Lawn" "mounds" "[Z") (List.mem_cons_of_mem _ (List.mem_append_left _ (List.mem_append_left _ (List.mem_append_left _ (List.mem_append_left _ (List.mem_append_left _ (List.mem_append_left _ (List.mem_append_left _ (List.mem_of_getElem? (i := 3) rfl)))))))))
  have iK0 : ∀ w ∈ wsX00, w ∈ wsX6_rake := fun _ h => (List.mem_cons_of_mem _ (List.mem_append_left _ (List.mem_append_left _ (List.mem_append_left _ (List.mem_append_left _ (List.mem_append_right _ h))))))
  have iK6 : ∀ w ∈ wsX60, w ∈ wsX6_rake := fun _ h => (List.mem_cons_of_mem _ (List.mem_append_left _ (List.mem_append_left _ (List.mem_append_left _ (List.mem_append_left _ (List.mem_append_left _ (List.mem_append_right _ h)))))))
  unfold wp_X6_rake at hq
  refine lv_aload_n hx hb dX6_rake_0 rfl (lv_at hl 0 rfl) ?_
  refine lv_iload_n hx hb dX6_rake_1 rfl (lv_at hl 1 rfl) ?_
  have hFc := xfree_same hS hAe0 (ws := (wX6 cy a v)) hD
  refine va_callv (va_runV (As := [.int x1]) (rest := []) ⟨hx, hb, hml, hown, hts⟩ (c_X6_checkTuft l dC dI cy a _ v x1 _ _ hX hq) (cwV 1 hts gX6_rake_X6_checkTuft rfl rfl rfl (by decide +kernel) ⟨Nat.le_of_ble_eq_true rfl, Nat.le_of_ble_eq_true rfl⟩) ⟨xPre_blind, va_recv hK hP (ci := 6) (q0 := 0) rfl rfl, xPre_of hP hK hD⟩ rfl rfl hl.1 rfl (lv_room (Nat.le_of_ble_eq_true rfl)) dX6_rake_2 ⟨Nat.le_of_ble_eq_true rfl, Nat.le_of_ble_eq_true rfl⟩) hS (fun q _ h => hFc q h) hFc (fun u9 t H locs ht hvm hq hB hz1 hk1 hS => ?_)
  obtain ⟨hP1, -, hD1⟩ := hB
  rw [ht] at hP1
  have hP : va_P (dC, dI) vwCl (wX6 cy a v) H := hP1
  have hD : va_D A (wX6 cy a v) := hD1.weaken (fun _ q _ h => hFc q.1 h)
  refine lv_aload_n hx hb dX6_rake_5 rfl (lv_at hl 0 rfl) ?_
  refine va_get (D := (dC, dI)) (ci := 6) (v := .ref (a 4)) (C := RX6) (T := TX6) (N := 9) hx hb hts iK6 hown hK hP 0 rfl rfl 0 (by decide) lk0 (fun _ h9 => h9) rfl dX6_rake_6 ?_
  refine va_get (D := (dC, dI)) (ci := 0) (v := .ref (a 5)) (C := RX0) (T := TX0) (N := 14) hx hb hts iK0 hown hK hP 4 rfl rfl 0 (by decide) lk1 (fun _ h9 => h9) rfl dX6_rake_9 ?_
  refine lv_iload_n hx hb dX6_rake_12 rfl (lv_at hl 1 rfl) ?_
  obtain ⟨g1, hq⟩ := hq
  refine va_zald hx hb hK hP 5 1 rfl rfl g1 dX6_rake_13 ?_
  obtain ⟨hqA, hqB⟩ := hq
  refine lv_if_eq (tgt := 28) hx hb dX6_rake_14 (by decide) (fun c3 => ?_) (fun c3 => ?_)
  · have hq := hqA c3
    exact (hX _ hq).elim
  · have hq := hqB c3
    refine lv_aload_n hx hb dX6_rake_17 rfl (lv_at hl 0 rfl) ?_
    refine va_get (D := (dC, dI)) (ci := 6) (v := .ref (a 4)) (C := RX6) (T := TX6) (N := 9) hx hb hts iK6 hown hK hP 0 rfl rfl 0 (by decide) lk0 (fun _ h9 => h9) rfl dX6_rake_18 ?_
    refine lv_iload_n hx hb dX6_rake_21 rfl (lv_at hl 1 rfl) ?_
    have hC : (([4, 5, 6, 7, 8, 9, 10, 11, 12, 13, 14, 15, 16, 17, 18, 19, 20, 21, 22, 23, 24] : List Nat).map (fun i => (wX6 cy a v)[i]?)) = (wX0 cy (sh a 4) (sh a 1) (X6_lawn v)).map some := (xC_one (n := 4) (m := 21) rfl rfl rfl)
    have hPc := xsubP hP hC
    have hDc := xsubD hD (by decide) hC
    have hFc := va_free (wc := (wX0 cy (sh a 4) (sh a 1) (X6_lawn v))) hD hS hAe0 [4, 5, 6, 7, 8, 9, 10, 11, 12, 13, 14, 15, 16, 17, 18, 19, 20, 21, 22, 23, 24] hC
    refine va_calli (va_runV (As := [.int x1]) (rest := []) ⟨hx, hb, hml, hown, hts⟩ (c_X0_trailBeginsAt l dC dI cy (sh a 4) (sh a 1) _ (X6_lawn v) x1 _ hq) (cwV 1 hts gX6_rake_X0_trailBeginsAt rfl rfl rfl (by decide +kernel) ⟨Nat.le_of_ble_eq_true rfl, Nat.le_of_ble_eq_true rfl⟩) ⟨xPre_blind, va_recv hK hP (ci := 0) (q0 := 4) rfl rfl, xPre_of hPc hK hDc⟩ rfl rfl hl.1 rfl (lv_room (Nat.le_of_ble_eq_true rfl)) dX6_rake_22 ⟨Nat.le_of_ble_eq_true rfl, Nat.le_of_ble_eq_true rfl⟩) hS (fun q _ h => hFc q h) hFc (fun r22 u9 t H locs ht hvm hq hB hz1 hk1 hS => ?_)
    obtain ⟨hP1, -, hD1⟩ := hB
    rw [ht] at hP1
    have hP : va_P (dC, dI) vwCl (wX6 cy a v) H := xj_keep hP hD [4, 5, 6, 7, 8, 9, 10, 11, 12, 13, 14, 15, 16, 17, 18, 19, 20, 21, 22, 23, 24] hC hP1 hk1
    obtain ⟨hqA, hqB⟩ := hq
    refine lv_if_eq (tgt := 38) hx hb dX6_rake_25 (by decide) (fun c2 => ?_) (fun c2 => ?_)
    · have hq := hqA c2
      refine lv_aload_n hx hb dX6_rake_38 rfl (lv_at hl 0 rfl) ?_
      have hFc := xfree_same hS hAe0 (ws := (wX6 cy a v)) hD
      refine va_callv (va_runV (As := []) (rest := []) ⟨hx, hb, hml, hown, hts⟩ (c_X6_saveState l dC dI cy a _ v _ hq) (cwV 0 hts gX6_rake_X6_saveState rfl rfl rfl (by decide +kernel) ⟨Nat.le_of_ble_eq_true rfl, Nat.le_of_ble_eq_true rfl⟩) ⟨xPre_blind, va_recv hK hP (ci := 6) (q0 := 0) rfl rfl, xPre_of hP hK hD⟩ rfl rfl hl.1 rfl (lv_room (Nat.le_of_ble_eq_true rfl)) dX6_rake_39 ⟨Nat.le_of_ble_eq_true rfl, Nat.le_of_ble_eq_true rfl⟩) hS (fun q _ h => hFc q h) hFc (fun u9 t H locs ht hvm hq hB hz1 hk1 hS => ?_)
      obtain ⟨z39_v_saved, z39_v_savedCount, z39_v_savedR⟩ := u9
      obtain ⟨hP1, -, hD1⟩ := hB
      rw [ht] at hP1
      have hP : va_P (dC, dI) vwCl (cX6 cy a (X6_lawn v) (X6_snapshot v) (X6_trial v) z39_v_savedR z39_v_saved (X6_text v) (X6_survey v) (X6_paths v) (X6_snapshotTaken v) z39_v_savedCount (X6_spareR v)) H := hP1
      have hD : va_D A (cX6 cy a (X6_lawn v) (X6_snapshot v) (X6_trial v) z39_v_savedR z39_v_saved (X6_text v) (X6_survey v) (X6_paths v) (X6_snapshotTaken v) z39_v_savedCount (X6_spareR v)) := hD1.weaken (fun _ q _ h => hFc q.1 h)
      refine lv_aload_n hx hb dX6_rake_42 rfl (lv_at hl 0 rfl) ?_
      refine va_get (D := (dC, dI)) (ci := 6) (v := .ref (a 4)) (C := RX6) (T := TX6) (N := 9) hx hb hts iK6 hown hK hP 0 rfl rfl 0 (by decide) lk0 (fun _ h9 => h9) rfl dX6_rake_43 ?_
      refine lv_iload_n hx hb dX6_rake_46 rfl (lv_at hl 1 rfl) ?_
      have hC : (([4, 5, 6, 7, 8, 9, 10, 11, 12, 13, 14, 15, 16, 17, 18, 19, 20, 21, 22, 23, 24, 1, 2, 3] : List Nat).map (fun i => (cX6 cy a (X6_lawn v) (X6_snapshot v) (X6_trial v) z39_v_savedR z39_v_saved (X6_text v) (X6_survey v) (X6_paths v) (X6_snapshotTaken v) z39_v_savedCount (X6_spareR v))[i]?)) = (wX0 cy (sh a 4) (sh a 1) (X6_lawn v) ++ wX3 cy (sh a 1) (X6_spareR v)).map some := (xC_app (i1 := [4, 5, 6, 7, 8, 9, 10, 11, 12, 13, 14, 15, 16, 17, 18, 19, 20, 21, 22, 23, 24]) (i2 := [1, 2, 3]) rfl (xC_one (n := 4) (m := 21) rfl rfl rfl) (xC_one (n := 1) (m := 3) rfl rfl rfl))
      have hPc := xsubP hP hC
      have hDc := xsubD hD (by decide) hC
      have hFc := va_free (wc := (wX0 cy (sh a 4) (sh a 1) (X6_lawn v) ++ wX3 cy (sh a 1) (X6_spareR v))) hD hS hAe0 [4, 5, 6, 7, 8, 9, 10, 11, 12, 13, 14, 15, 16, 17, 18, 19, 20, 21, 22, 23, 24, 1, 2, 3] hC
      refine va_calli (va_runV (As := [.int x1]) (rest := []) ⟨hx, hb, hml, hown, hts⟩ (c_X0_rakeOff l dC dI cy (sh a 4) (sh a 1) _ (X6_lawn v) (X6_spareR v) x1 _ hq) (cwV 1 hts gX6_rake_X0_rakeOff rfl rfl rfl (by decide +kernel) ⟨Nat.le_of_ble_eq_true rfl, Nat.le_of_ble_eq_true rfl⟩) ⟨xPre_blind, va_recv hK hP (ci := 0) (q0 := 4) rfl rfl, xPre_of hPc hK hDc⟩ rfl rfl hl.1 rfl (lv_room (Nat.le_of_ble_eq_true rfl)) dX6_rake_47 ⟨Nat.le_of_ble_eq_true rfl, Nat.le_of_ble_eq_true rfl⟩) hS (fun q _ h => hFc q h) hFc (fun r47 u9 t H locs ht hvm hq hB hz1 hk1 hS => ?_)
      obtain ⟨z47_u_cells, z47_u_ends, z47_u_size, z47_u_used, z47_v_fallen, z47_v_mounds, z47_v_tunnels⟩ := u9
      obtain ⟨hP1, -, hD1⟩ := hB
      rw [ht] at hP1
      obtain ⟨hP, hD⟩ := xj hP hD [4, 5, 6, 7, 8, 9, 10, 11, 12, 13, 14, 15, 16, 17, 18, 19, 20, 21, 22, 23, 24, 1, 2, 3] (cX0 cy (sh a 4) (sh a 1) z47_v_mounds (X0_opened (X6_lawn v)) (X0_roots (X6_lawn v)) (X0_traps (X6_lawn v)) z47_v_tunnels (X0_molesR (X6_lawn v)) (X0_moles (X6_lawn v)) (X0_moleCount (X6_lawn v)) (X0_fullAir (X6_lawn v)) (X0_beats (X6_lawn v)) (X0_caught (X6_lawn v)) (X0_gnawed (X6_lawn v)) (X0_risen (X6_lawn v)) z47_v_fallen ++ cX3 cy (sh a 1) z47_u_cells z47_u_ends z47_u_used z47_u_size) (ws' := (cX6 cy a (z47_v_mounds, (X0_opened (X6_lawn v)), (X0_roots (X6_lawn v)), (X0_traps (X6_lawn v)), z47_v_tunnels, (X0_molesR (X6_lawn v)), (X0_moles (X6_lawn v)), (X0_moleCount (X6_lawn v)), (X0_fullAir (X6_lawn v)), (X0_beats (X6_lawn v)), (X0_caught (X6_lawn v)), (X0_gnawed (X6_lawn v)), (X0_risen (X6_lawn v)), z47_v_fallen) (X6_snapshot v) (X6_trial v) z39_v_savedR z39_v_saved (X6_text v) (X6_survey v) (X6_paths v) (X6_snapshotTaken v) z39_v_savedCount (z47_u_cells, z47_u_ends, z47_u_used, z47_u_size))) hC rfl (xS_app (n := 4) (m := 21) (i2 := [1, 2, 3]) rfl rfl rfl (xS_one (n := 1) (m := 3) rfl rfl rfl)) hk1 hFc hP1
      exact W.iret (v := r47) hx hb hr (fun t ht hW => ⟨⟨r47, ((z47_v_mounds, (X0_opened (X6_lawn v)), (X0_roots (X6_lawn v)), (X0_traps (X6_lawn v)), z47_v_tunnels, (X0_molesR (X6_lawn v)), (X0_moles (X6_lawn v)), (X0_moleCount (X6_lawn v)), (X0_fullAir (X6_lawn v)), (X0_beats (X6_lawn v)), (X0_caught (X6_lawn v)), (X0_gnawed (X6_lawn v)), (X0_risen (X6_lawn v)), z47_v_fallen), z39_v_saved, z39_v_savedCount, z39_v_savedR, (z47_u_cells, z47_u_ends, z47_u_used, z47_u_size)), rfl, hq, (xAt_of hP hK hD ht hW)⟩, hS.F ht⟩) hS.2.2 dX6_rake_50
    · have hq := hqB c2
      exact (hX _ hq).elim
