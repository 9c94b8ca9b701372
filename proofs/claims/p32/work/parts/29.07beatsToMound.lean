def wb_X6_beatsToMound_13 (v : V_X6)  (y13_1 : Int32) (z13_v_spareR : V_X3) (z13_v_trial : V_X0) (B13 : Int32 → V_X3 → V_X0 → Prop) (Q : Int32 → V_X3 → V_X0 → Prop) : Prop :=
  ((100 < y13_1 → Q (-1) z13_v_spareR z13_v_trial) ∧
  (¬ 100 < y13_1 → wp_X0_hasPlans z13_v_trial (fun r23 =>
  ((r23 = 0 → Q (-1) z13_v_spareR z13_v_trial) ∧
  (¬ r23 = 0 → wp_X0_beat z13_v_trial z13_v_spareR (fun z33_u_cells z33_u_ends z33_u_size z33_u_used z33_v_beats z33_v_caught z33_v_gnawed z33_v_moleCount z33_v_moles z33_v_molesR z33_v_mounds z33_v_risen z33_v_roots z33_v_traps z33_v_tunnels =>
  ((z33_v_risen ≤ (X0_risen (X6_lawn v)) → B13 (y13_1 + 1) (z33_u_cells, z33_u_ends, z33_u_used, z33_u_size) (z33_v_mounds, (X0_opened z13_v_trial), z33_v_roots, z33_v_traps, z33_v_tunnels, z33_v_molesR, z33_v_moles, z33_v_moleCount, (X0_fullAir z13_v_trial), z33_v_beats, z33_v_caught, z33_v_gnawed, z33_v_risen, (X0_fallen z13_v_trial))) ∧
  (¬ z33_v_risen ≤ (X0_risen (X6_lawn v)) → Q y13_1 (z33_u_cells, z33_u_ends, z33_u_used, z33_u_size) (z33_v_mounds, (X0_opened z13_v_trial), z33_v_roots, z33_v_traps, z33_v_tunnels, z33_v_molesR, z33_v_moles, z33_v_moleCount, (X0_fullAir z13_v_trial), z33_v_beats, z33_v_caught, z33_v_gnawed, z33_v_risen, (X0_fallen z13_v_trial))))))))))
def wp_X6_beatsToMound_13 (v : V_X6)  (y13_1 : Int32) (z13_v_spareR : V_X3) (z13_v_trial : V_X0) (Q : Int32 → V_X3 → V_X0 → Prop) : Prop :=
  ∃ (I : Int32 → V_X3 → V_X0 → Prop) (μ : Int32 → V_X3 → V_X0 → Nat), I y13_1 z13_v_spareR z13_v_trial ∧ ∀ (s0 : Int32) (s1 : V_X3) (s2 : V_X0), I s0 s1 s2 → wb_X6_beatsToMound_13 v  s0 s1 s2 (fun t0 t1 t2 => I t0 t1 t2 ∧ μ t0 t1 t2 < μ s0 s1 s2) Q
def wp_X6_beatsToMound (v : V_X6) (Q : Int32 → V_X3 → V_X0 → Prop) : Prop :=
  wp_X0_copyFrom (X6_trial v) (X6_lawn v) (fun z8_v_beats z8_v_caught z8_v_fallen z8_v_fullAir z8_v_gnawed z8_v_moleCount z8_v_moles z8_v_mounds z8_v_opened z8_v_risen z8_v_roots z8_v_traps z8_v_tunnels =>
  wp_X6_beatsToMound_13 v  1 (X6_spareR v) (z8_v_mounds, z8_v_opened, z8_v_roots, z8_v_traps, z8_v_tunnels, (X0_molesR (X6_trial v)), z8_v_moles, z8_v_moleCount, z8_v_fullAir, z8_v_beats, z8_v_caught, z8_v_gnawed, z8_v_risen, z8_v_fallen) Q)
def q_X6_beatsToMound (dC : Nat → ClassId) (dI : Nat → Nat → Nat) (cy : Nat → ClassId) (a : Nat → Nat) (v : V_X6) (Q : Int32 → V_X3 → V_X0 → Prop) (A : Nat → Prop) : Array Value → State → Outcome → State → Prop := va_Qi (fun (r : Int32) (u : V_X3 × V_X0) => Q r u.1 u.2) (fun (u : V_X3 × V_X0) t => xAt dC dI cy A (cX6 cy a (X6_lawn v) (X6_snapshot v) u.2 (X6_savedR v) (X6_saved v) (X6_text v) (X6_survey v) (X6_paths v) (X6_snapshotTaken v) (X6_savedCount v) u.1) t) A
set_option maxHeartbeats 4000000 in
set_option maxRecDepth 100000 in
theorem c_X6_beatsToMound (l : Launch) (dC : Nat → ClassId) (dI : Nat → Nat → Nat) (cy : Nat → ClassId) (a : Nat → Nat) (sz : Nat) (v : V_X6) (Q : Int32 → V_X3 → V_X0 → Prop) (hq : wp_X6_beatsToMound v Q) : Met l yX6_beatsToMound wsX6_beatsToMound ({ frames := 6, cells := 0, slots := 0, locals := 143 } : Room) (va_Pc [.ref (a 0)] (xPreE dC dI cy (wX6 cy a v) sz)) (q_X6_beatsToMound dC dI cy a v Q (va_A (wX6 cy a v) sz)) 0 0 (va_A (wX6 cy a v) sz) := by
  refine Met.ofW (cc := cX6_beatsToMound) (maxL := 2) (ret := (some .int)) (by decide) rfl ?_
  intro p e s m args below meth c s₁ B hml hv
  obtain ⟨rfl, hsz, hP, hK, hD0, hE⟩ := hv
  have hx := B.exec
  have hb := B.bytes
  have hr := B.returns
  have hts := atoms_spec (ws := wsX6_beatsToMound) B.pre
  have hown : s.vm.findClass RX6 = some m.cls := findClass_of_methodNamed B.named
  have hlocks := B.notSynchronized
  subst hsz
  have hD := hD0.self (sz := s.heap.size)
  generalize hAe : va_A (wX6 cy a v) s.heap.size = A at hD hE ⊢
  have hAe0 : ∀ q : Nat, s.heap.size ≤ q → A q := fun q h => by rw [← hAe]; exact Or.inr h
  have hS : va_S A s.heap s.heap [] := va_S.rf
  have hl := lv_entry ([.ref (a 0)]) (n := 2) (Nat.le_of_ble_eq_true rfl)
  rw [lg_entry_eq]
  generalize (lg_sl ([.ref (a 0)]) ++ List.replicate (2 - (lg_sl ([.ref (a 0)])).length) Slot.unset).toArray = ls at hl ⊢
  have hl : lv_has ls 2 [(0, .ref (a 0))] := hl
  have lk0 := hts (Cond.fieldLink RX6 24 "MolesLawn" "trial" "LMolesLawn$Lawn;") (List.mem_cons_of_mem _ (List.mem_append_left _ (List.mem_append_left _ (List.mem_append_left _ (List.mem_append_left _ (List.mem_append_left _ (List.mem_of_getElem? (i := 0) rfl)))))))
  have lk1 := hts (Cond.fieldLink RX6 103 "MolesLawn$Lawn" "risen" "I") (List.mem_cons_of_mem _ (List.mem_append_left _ (List.mem_append_left _ (List.mem_append_left _ (List.mem_append_left _ (List.mem_append_left _ (List.mem_of_getElem? (i := 2) rfl)))))))
  have lk2 := hts (Cond.fieldLink RX6 15 "MolesLawn" "lawn" "LMolesLawn$Lawn;") (List.mem_cons_of_mem _ (List.mem_append_left _ (List.mem_append_left _ (List.mem_append_left _ (List.mem_append_left _ (List.mem_append_left _ (List.mem_of_getElem? (i := 1) rfl)))))))
  have iK0 : ∀ w ∈ wsX00, w ∈ wsX6_beatsToMound := fun _ h => (List.mem_cons_of_mem _ (List.mem_append_left _ (List.mem_append_left _ (List.mem_append_right _ h))))
  have iK6 : ∀ w ∈ wsX60, w ∈ wsX6_beatsToMound := fun _ h => (List.mem_cons_of_mem _ (List.mem_append_left _ (List.mem_append_left _ (List.mem_append_left _ (List.mem_append_right _ h)))))
  unfold wp_X6_beatsToMound at hq
  have J13 : ∀  (y13_1 : Int32) (z13_v_spareR : V_X3) (z13_v_trial : V_X0) (H : Heap) (locs : List Loc) (ls : Array Slot), wp_X6_beatsToMound_13 v  y13_1 z13_v_spareR z13_v_trial Q → va_P (dC, dI) vwCl (cX6 cy a (X6_lawn v) (X6_snapshot v) z13_v_trial (X6_savedR v) (X6_saved v) (X6_text v) (X6_survey v) (X6_paths v) (X6_snapshotTaken v) (X6_savedCount v) z13_v_spareR) H → va_D A (cX6 cy a (X6_lawn v) (X6_snapshot v) z13_v_trial (X6_savedR v) (X6_saved v) (X6_text v) (X6_survey v) (X6_paths v) (X6_snapshotTaken v) (X6_savedCount v) z13_v_spareR) → va_S A s.heap H locs → lv_has ls 2 [(0, .ref (a 0)), (1, .int y13_1)] → W p l e (headSpec wsX6_beatsToMound ({ frames := 6, cells := 0, slots := 0, locals := 143 } : Room)).room s m ([.ref (a 0)] : List Value).toArray below meth c H locs 0 0 (MQ below (q_X6_beatsToMound dC dI cy a v Q A) ([.ref (a 0)] : List Value).toArray s 0 0 A) (F0 m 13 ls []) := by
    intro  y13_1 z13_v_spareR z13_v_trial H locs ls hq hP hD hS hl
    obtain ⟨I13, μ13, h0, hs13⟩ := hq
    have key : ∀ (n : Nat) (y13_1 : Int32) (z13_v_spareR : V_X3) (z13_v_trial : V_X0) (H : Heap) (locs : List Loc) (ls : Array Slot), I13 y13_1 z13_v_spareR z13_v_trial → μ13 y13_1 z13_v_spareR z13_v_trial < n → va_P (dC, dI) vwCl (cX6 cy a (X6_lawn v) (X6_snapshot v) z13_v_trial (X6_savedR v) (X6_saved v) (X6_text v) (X6_survey v) (X6_paths v) (X6_snapshotTaken v) (X6_savedCount v) z13_v_spareR) H → va_D A (cX6 cy a (X6_lawn v) (X6_snapshot v) z13_v_trial (X6_savedR v) (X6_saved v) (X6_text v) (X6_survey v) (X6_paths v) (X6_snapshotTaken v) (X6_savedCount v) z13_v_spareR) → va_S A s.heap H locs → lv_has ls 2 [(0, .ref (a 0)), (1, .int y13_1)] → W p l e (headSpec wsX6_beatsToMound ({ frames := 6, cells := 0, slots := 0, locals := 143 } : Room)).room s m ([.ref (a 0)] : List Value).toArray below meth c H locs 0 0 (MQ below (q_X6_beatsToMound dC dI cy a v Q A) ([.ref (a 0)] : List Value).toArray s 0 0 A) (F0 m 13 ls []) := by
      intro n
      induction n with
      | zero => intro y13_1 z13_v_spareR z13_v_trial H locs ls _ hm; exact absurd hm (Nat.not_lt_zero _)
      | succ n ih =>
        intro y13_1 z13_v_spareR z13_v_trial H locs ls hI hm hP hD hS hl
        have hq := hs13 y13_1 z13_v_spareR z13_v_trial hI
        generalize hB13 : (fun (t0 : Int32) (t1 : V_X3) (t2 : V_X0) => I13 t0 t1 t2 ∧ μ13 t0 t1 t2 < μ13 y13_1 z13_v_spareR z13_v_trial) = B13 at hq
        have bk13 : ∀ (y13_1 : Int32) (z13_v_spareR : V_X3) (z13_v_trial : V_X0) (H : Heap) (locs : List Loc) (ls : Array Slot), B13 y13_1 z13_v_spareR z13_v_trial → va_P (dC, dI) vwCl (cX6 cy a (X6_lawn v) (X6_snapshot v) z13_v_trial (X6_savedR v) (X6_saved v) (X6_text v) (X6_survey v) (X6_paths v) (X6_snapshotTaken v) (X6_savedCount v) z13_v_spareR) H → va_D A (cX6 cy a (X6_lawn v) (X6_snapshot v) z13_v_trial (X6_savedR v) (X6_saved v) (X6_text v) (X6_survey v) (X6_paths v) (X6_snapshotTaken v) (X6_savedCount v) z13_v_spareR) → va_S A s.heap H locs → lv_has ls 2 [(0, .ref (a 0)), (1, .int y13_1)] → W p l e (headSpec wsX6_beatsToMound ({ frames := 6, cells := 0, slots := 0, locals := 143 } : Room)).room s m ([.ref (a 0)] : List Value).toArray below meth c H locs 0 0 (MQ below (q_X6_beatsToMound dC dI cy a v Q A) ([.ref (a 0)] : List Value).toArray s 0 0 A) (F0 m 13 ls []) := by
          intro y13_1 z13_v_spareR z13_v_trial H locs ls h
          rw [← hB13] at h
          exact ih y13_1 z13_v_spareR z13_v_trial H locs ls h.1 (Nat.lt_of_lt_of_le h.2 (Nat.le_of_lt_succ hm))
        unfold wb_X6_beatsToMound_13 at hq
        refine lv_iload_n hx hb dX6_beatsToMound_13 rfl (lv_at hl 1 rfl) ?_
        refine lv_bipush (v := 100) hx hb dX6_beatsToMound_14 (by decide) ?_
        obtain ⟨hqA, hqB⟩ := hq
        refine lv_icmp_gt (tgt := 61) hx hb dX6_beatsToMound_16 (by decide) (fun c3 => ?_) (fun c3 => ?_)
        · have hq := hqA c3
          refine lv_iconst (v := (-1)) hx hb dX6_beatsToMound_61 (by decide) ?_
          exact W.iret (v := (-1)) hx hb hr (fun t ht hW => ⟨⟨(-1), (z13_v_spareR, z13_v_trial), rfl, hq, (xAt_of hP hK hD ht hW)⟩, hS.F ht⟩) hS.2.2 dX6_beatsToMound_62
        · have hq := hqB c3
          refine lv_aload_n hx hb dX6_beatsToMound_19 rfl (lv_at hl 0 rfl) ?_
          refine va_get (D := (dC, dI)) (ci := 6) (v := .ref (a 46)) (C := RX6) (T := TX6) (N := 9) hx hb hts iK6 hown hK hP 0 rfl rfl 2 (by decide) lk0 (fun _ h9 => h9) rfl dX6_beatsToMound_20 ?_
          have hC : (([46, 47, 48, 49, 50, 51, 52, 53, 54, 55, 56, 57, 58, 59, 60, 61, 62, 63, 64, 65, 66] : List Nat).map (fun i => (cX6 cy a (X6_lawn v) (X6_snapshot v) z13_v_trial (X6_savedR v) (X6_saved v) (X6_text v) (X6_survey v) (X6_paths v) (X6_snapshotTaken v) (X6_savedCount v) z13_v_spareR)[i]?)) = (wX0 cy (sh a 46) (sh a 1) z13_v_trial).map some := (xC_one (n := 46) (m := 21) rfl rfl rfl)
          have hPc := xsubP hP hC
          have hDc := xsubD hD (by decide) hC
          have hFc := va_free (wc := (wX0 cy (sh a 46) (sh a 1) z13_v_trial)) hD hS hAe0 [46, 47, 48, 49, 50, 51, 52, 53, 54, 55, 56, 57, 58, 59, 60, 61, 62, 63, 64, 65, 66] hC
          refine va_calli (va_runV (As := []) (rest := []) ⟨hx, hb, hml, hown, hts⟩ (c_X0_hasPlans l dC dI cy (sh a 46) (sh a 1) _ z13_v_trial _ hq) (cwV 0 hts gX6_beatsToMound_X0_hasPlans rfl rfl rfl (by decide +kernel) ⟨Nat.le_of_ble_eq_true rfl, Nat.le_of_ble_eq_true rfl⟩) ⟨xPre_blind, va_recv hK hP (ci := 0) (q0 := 46) rfl rfl, xPre_of hPc hK hDc⟩ rfl rfl hl.1 rfl (lv_room (Nat.le_of_ble_eq_true rfl)) dX6_beatsToMound_23 ⟨Nat.le_of_ble_eq_true rfl, Nat.le_of_ble_eq_true rfl⟩) hS (fun q _ h => hFc q h) hFc (fun r23 u9 t H locs ht hvm hq hB hz1 hk1 hS => ?_)
          obtain ⟨hP1, -, hD1⟩ := hB
          rw [ht] at hP1
          have hP : va_P (dC, dI) vwCl (cX6 cy a (X6_lawn v) (X6_snapshot v) z13_v_trial (X6_savedR v) (X6_saved v) (X6_text v) (X6_survey v) (X6_paths v) (X6_snapshotTaken v) (X6_savedCount v) z13_v_spareR) H := xj_keep hP hD [46, 47, 48, 49, 50, 51, 52, 53, 54, 55, 56, 57, 58, 59, 60, 61, 62, 63, 64, 65, 66] hC hP1 hk1
          obtain ⟨hqA, hqB⟩ := hq
          refine lv_if_eq (tgt := 61) hx hb dX6_beatsToMound_26 (by decide) (fun c2 => ?_) (fun c2 => ?_)
          · have hq := hqA c2
            refine lv_iconst (v := (-1)) hx hb dX6_beatsToMound_61 (by decide) ?_
            exact W.iret (v := (-1)) hx hb hr (fun t ht hW => ⟨⟨(-1), (z13_v_spareR, z13_v_trial), rfl, hq, (xAt_of hP hK hD ht hW)⟩, hS.F ht⟩) hS.2.2 dX6_beatsToMound_62
          · have hq := hqB c2
            refine lv_aload_n hx hb dX6_beatsToMound_29 rfl (lv_at hl 0 rfl) ?_
            refine va_get (D := (dC, dI)) (ci := 6) (v := .ref (a 46)) (C := RX6) (T := TX6) (N := 9) hx hb hts iK6 hown hK hP 0 rfl rfl 2 (by decide) lk0 (fun _ h9 => h9) rfl dX6_beatsToMound_30 ?_
            have hC : (([46, 47, 48, 49, 50, 51, 52, 53, 54, 55, 56, 57, 58, 59, 60, 61, 62, 63, 64, 65, 66, 1, 2, 3] : List Nat).map (fun i => (cX6 cy a (X6_lawn v) (X6_snapshot v) z13_v_trial (X6_savedR v) (X6_saved v) (X6_text v) (X6_survey v) (X6_paths v) (X6_snapshotTaken v) (X6_savedCount v) z13_v_spareR)[i]?)) = (wX0 cy (sh a 46) (sh a 1) z13_v_trial ++ wX3 cy (sh a 1) z13_v_spareR).map some := (xC_app (i1 := [46, 47, 48, 49, 50, 51, 52, 53, 54, 55, 56, 57, 58, 59, 60, 61, 62, 63, 64, 65, 66]) (i2 := [1, 2, 3]) rfl (xC_one (n := 46) (m := 21) rfl rfl rfl) (xC_one (n := 1) (m := 3) rfl rfl rfl))
            have hPc := xsubP hP hC
            have hDc := xsubD hD (by decide) hC
            have hFc := va_free (wc := (wX0 cy (sh a 46) (sh a 1) z13_v_trial ++ wX3 cy (sh a 1) z13_v_spareR)) hD hS hAe0 [46, 47, 48, 49, 50, 51, 52, 53, 54, 55, 56, 57, 58, 59, 60, 61, 62, 63, 64, 65, 66, 1, 2, 3] hC
            refine va_callv (va_runV (As := []) (rest := []) ⟨hx, hb, hml, hown, hts⟩ (c_X0_beat l dC dI cy (sh a 46) (sh a 1) _ z13_v_trial z13_v_spareR _ hq) (cwV 0 hts gX6_beatsToMound_X0_beat rfl rfl rfl (by decide +kernel) ⟨Nat.le_of_ble_eq_true rfl, Nat.le_of_ble_eq_true rfl⟩) ⟨xPre_blindE, va_recv hK hP (ci := 0) (q0 := 46) rfl rfl, xPre_ofE hPc hK hDc hE hS hFc⟩ rfl rfl hl.1 rfl (lv_room (Nat.le_of_ble_eq_true rfl)) dX6_beatsToMound_33 ⟨Nat.le_of_ble_eq_true rfl, Nat.le_of_ble_eq_true rfl⟩) hS (fun q _ h => hFc q h) hFc (fun u9 t H locs ht hvm hq hB hz1 hk1 hS => ?_)
            obtain ⟨z33_u_cells, z33_u_ends, z33_u_size, z33_u_used, z33_v_beats, z33_v_caught, z33_v_gnawed, z33_v_moleCount, z33_v_moles, z33_v_molesR, z33_v_mounds, z33_v_risen, z33_v_roots, z33_v_traps, z33_v_tunnels⟩ := u9
            obtain ⟨hP1, -, hD1⟩ := hB
            rw [ht] at hP1
            obtain ⟨hP, hD⟩ := xj hP hD [46, 47, 48, 49, 50, 51, 52, 53, 54, 55, 56, 57, 58, 59, 60, 61, 62, 63, 64, 65, 66, 1, 2, 3] (cX0 cy (sh a 46) (sh a 1) z33_v_mounds (X0_opened z13_v_trial) z33_v_roots z33_v_traps z33_v_tunnels z33_v_molesR z33_v_moles z33_v_moleCount (X0_fullAir z13_v_trial) z33_v_beats z33_v_caught z33_v_gnawed z33_v_risen (X0_fallen z13_v_trial) ++ cX3 cy (sh a 1) z33_u_cells z33_u_ends z33_u_used z33_u_size) (ws' := (cX6 cy a (X6_lawn v) (X6_snapshot v) (z33_v_mounds, (X0_opened z13_v_trial), z33_v_roots, z33_v_traps, z33_v_tunnels, z33_v_molesR, z33_v_moles, z33_v_moleCount, (X0_fullAir z13_v_trial), z33_v_beats, z33_v_caught, z33_v_gnawed, z33_v_risen, (X0_fallen z13_v_trial)) (X6_savedR v) (X6_saved v) (X6_text v) (X6_survey v) (X6_paths v) (X6_snapshotTaken v) (X6_savedCount v) (z33_u_cells, z33_u_ends, z33_u_used, z33_u_size))) hC rfl (xS_app (n := 46) (m := 21) (i2 := [1, 2, 3]) rfl rfl rfl (xS_one (n := 1) (m := 3) rfl rfl rfl)) hk1 hFc hP1
            refine lv_aload_n hx hb dX6_beatsToMound_36 rfl (lv_at hl 0 rfl) ?_
            refine va_get (D := (dC, dI)) (ci := 6) (v := .ref (a 46)) (C := RX6) (T := TX6) (N := 9) hx hb hts iK6 hown hK hP 0 rfl rfl 2 (by decide) lk0 (fun _ h9 => h9) rfl dX6_beatsToMound_37 ?_
            refine va_get (D := (dC, dI)) (ci := 0) (v := .int z33_v_risen) (C := RX0) (T := TX0) (N := 14) hx hb hts iK0 hown hK hP 46 rfl rfl 12 (by decide) lk1 (fun _ h9 => h9) rfl dX6_beatsToMound_40 ?_
            refine lv_aload_n hx hb dX6_beatsToMound_43 rfl (lv_at hl 0 rfl) ?_
            refine va_get (D := (dC, dI)) (ci := 6) (v := .ref (a 4)) (C := RX6) (T := TX6) (N := 9) hx hb hts iK6 hown hK hP 0 rfl rfl 0 (by decide) lk2 (fun _ h9 => h9) rfl dX6_beatsToMound_44 ?_
            refine va_get (D := (dC, dI)) (ci := 0) (v := .int (X0_risen (X6_lawn v))) (C := RX0) (T := TX0) (N := 14) hx hb hts iK0 hown hK hP 4 rfl rfl 12 (by decide) lk1 (fun _ h9 => h9) rfl dX6_beatsToMound_47 ?_
            obtain ⟨hqA, hqB⟩ := hq
            refine lv_icmp_le (tgt := 55) hx hb dX6_beatsToMound_50 (by decide) (fun c1 => ?_) (fun c1 => ?_)
            · have hq := hqA c1
              refine lv_iinc (v := (y13_1 + 1)) (lv' := [(1, .int (y13_1 + 1)), (0, .ref (a 0))]) hx hb dX6_beatsToMound_55 hl (k := 1) rfl rfl (by decide) rfl (fun ls hl => ?_)
              refine lv_goto (tgt := 13) hx hb dX6_beatsToMound_58 (by decide) ?_
              exact bk13 (y13_1 + 1) (z33_u_cells, z33_u_ends, z33_u_used, z33_u_size) (z33_v_mounds, (X0_opened z13_v_trial), z33_v_roots, z33_v_traps, z33_v_tunnels, z33_v_molesR, z33_v_moles, z33_v_moleCount, (X0_fullAir z13_v_trial), z33_v_beats, z33_v_caught, z33_v_gnawed, z33_v_risen, (X0_fallen z13_v_trial)) _ _ _ hq hP hD hS (lv_sub hl [1, 0] rfl)
            · have hq := hqB c1
              refine lv_iload_n hx hb dX6_beatsToMound_53 rfl (lv_at hl 1 rfl) ?_
              exact W.iret (v := y13_1) hx hb hr (fun t ht hW => ⟨⟨y13_1, ((z33_u_cells, z33_u_ends, z33_u_used, z33_u_size), (z33_v_mounds, (X0_opened z13_v_trial), z33_v_roots, z33_v_traps, z33_v_tunnels, z33_v_molesR, z33_v_moles, z33_v_moleCount, (X0_fullAir z13_v_trial), z33_v_beats, z33_v_caught, z33_v_gnawed, z33_v_risen, (X0_fallen z13_v_trial))), rfl, hq, (xAt_of hP hK hD ht hW)⟩, hS.F ht⟩) hS.2.2 dX6_beatsToMound_54
    exact key _ y13_1 z13_v_spareR z13_v_trial H locs ls h0 (Nat.lt_succ_self _) hP hD hS hl
  refine lv_aload_n hx hb dX6_beatsToMound_0 rfl (lv_at hl 0 rfl) ?_
  refine va_get (D := (dC, dI)) (ci := 6) (v := .ref (a 46)) (C := RX6) (T := TX6) (N := 9) hx hb hts iK6 hown hK hP 0 rfl rfl 2 (by decide) lk0 (fun _ h9 => h9) rfl dX6_beatsToMound_1 ?_
  refine lv_aload_n hx hb dX6_beatsToMound_4 rfl (lv_at hl 0 rfl) ?_
  refine va_get (D := (dC, dI)) (ci := 6) (v := .ref (a 4)) (C := RX6) (T := TX6) (N := 9) hx hb hts iK6 hown hK hP 0 rfl rfl 0 (by decide) lk2 (fun _ h9 => h9) rfl dX6_beatsToMound_5 ?_
  have hC : (([46, 47, 48, 49, 50, 51, 52, 53, 54, 55, 56, 57, 58, 59, 60, 61, 62, 63, 64, 65, 66, 4, 5, 6, 7, 8, 9, 10, 11, 12, 13, 14, 15, 16, 17, 18, 19, 20, 21, 22, 23, 24] : List Nat).map (fun i => (wX6 cy a v)[i]?)) = (wX0 cy (sh a 46) (sh a 1) (X6_trial v) ++ wX0 cy (sh a 4) (sh a 1) (X6_lawn v)).map some := (xC_app (i1 := [46, 47, 48, 49, 50, 51, 52, 53, 54, 55, 56, 57, 58, 59, 60, 61, 62, 63, 64, 65, 66]) (i2 := [4, 5, 6, 7, 8, 9, 10, 11, 12, 13, 14, 15, 16, 17, 18, 19, 20, 21, 22, 23, 24]) rfl (xC_one (n := 46) (m := 21) rfl rfl rfl) (xC_one (n := 4) (m := 21) rfl rfl rfl))
  have hPc := xsubP hP hC
  have hDc := xsubD hD (by decide) hC
  have hFc := va_free (wc := (wX0 cy (sh a 46) (sh a 1) (X6_trial v) ++ wX0 cy (sh a 4) (sh a 1) (X6_lawn v))) hD hS hAe0 [46, 47, 48, 49, 50, 51, 52, 53, 54, 55, 56, 57, 58, 59, 60, 61, 62, 63, 64, 65, 66, 4, 5, 6, 7, 8, 9, 10, 11, 12, 13, 14, 15, 16, 17, 18, 19, 20, 21, 22, 23, 24] hC
  refine va_callv (va_runV (As := [.ref (a 4)]) (rest := []) ⟨hx, hb, hml, hown, hts⟩ (c_X0_copyFrom l dC dI cy (sh a 46) (sh a 1) (sh a 4) _ (X6_trial v) (X6_lawn v) _ hq) (cwV 1 hts gX6_beatsToMound_X0_copyFrom rfl rfl rfl (by decide +kernel) ⟨Nat.le_of_ble_eq_true rfl, Nat.le_of_ble_eq_true rfl⟩) ⟨xPre_blind, va_recv hK hP (ci := 0) (q0 := 46) rfl rfl, xPre_of hPc hK hDc⟩ rfl rfl hl.1 rfl (lv_room (Nat.le_of_ble_eq_true rfl)) dX6_beatsToMound_8 ⟨Nat.le_of_ble_eq_true rfl, Nat.le_of_ble_eq_true rfl⟩) hS (fun q _ h => hFc q h) hFc (fun u9 t H locs ht hvm hq hB hz1 hk1 hS => ?_)
  obtain ⟨z8_v_beats, z8_v_caught, z8_v_fallen, z8_v_fullAir, z8_v_gnawed, z8_v_moleCount, z8_v_moles, z8_v_mounds, z8_v_opened, z8_v_risen, z8_v_roots, z8_v_traps, z8_v_tunnels⟩ := u9
  obtain ⟨hP1, -, hD1⟩ := hB
  rw [ht] at hP1
  obtain ⟨hP, hD⟩ := xj hP hD [46, 47, 48, 49, 50, 51, 52, 53, 54, 55, 56, 57, 58, 59, 60, 61, 62, 63, 64, 65, 66, 4, 5, 6, 7, 8, 9, 10, 11, 12, 13, 14, 15, 16, 17, 18, 19, 20, 21, 22, 23, 24] (cX0 cy (sh a 46) (sh a 1) z8_v_mounds z8_v_opened z8_v_roots z8_v_traps z8_v_tunnels (X0_molesR (X6_trial v)) z8_v_moles z8_v_moleCount z8_v_fullAir z8_v_beats z8_v_caught z8_v_gnawed z8_v_risen z8_v_fallen ++ wX0 cy (sh a 4) (sh a 1) (X6_lawn v)) (ws' := (cX6 cy a (X6_lawn v) (X6_snapshot v) (z8_v_mounds, z8_v_opened, z8_v_roots, z8_v_traps, z8_v_tunnels, (X0_molesR (X6_trial v)), z8_v_moles, z8_v_moleCount, z8_v_fullAir, z8_v_beats, z8_v_caught, z8_v_gnawed, z8_v_risen, z8_v_fallen) (X6_savedR v) (X6_saved v) (X6_text v) (X6_survey v) (X6_paths v) (X6_snapshotTaken v) (X6_savedCount v) (X6_spareR v))) hC rfl (xS_app (n := 46) (m := 21) (i2 := [4, 5, 6, 7, 8, 9, 10, 11, 12, 13, 14, 15, 16, 17, 18, 19, 20, 21, 22, 23, 24]) rfl rfl rfl (xS_one (n := 4) (m := 21) rfl rfl rfl)) hk1 hFc hP1
  refine lv_iconst (v := 1) hx hb dX6_beatsToMound_11 (by decide) ?_
  refine lv_istore_n (lv' := [(1, .int 1), (0, .ref (a 0))]) hx hb dX6_beatsToMound_12 rfl hl (by decide) rfl (fun ls hl => ?_)
  exact J13  1 (X6_spareR v) (z8_v_mounds, z8_v_opened, z8_v_roots, z8_v_traps, z8_v_tunnels, (X0_molesR (X6_trial v)), z8_v_moles, z8_v_moleCount, z8_v_fullAir, z8_v_beats, z8_v_caught, z8_v_gnawed, z8_v_risen, z8_v_fallen) _ _ _ hq hP hD hS (lv_sub hl [1, 0] rfl)
