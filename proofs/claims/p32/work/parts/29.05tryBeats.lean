def wb_X6_tryBeats_13 (v : V_X6) (x1 : Int32)  (y13_2 : Int32) (z13_v_spareR : V_X3) (z13_v_trial : V_X0) (B13 : Int32 → V_X3 → V_X0 → Prop) (Q : V_X3 → V_X0 → Prop) : Prop :=
  ((x1 ≤ y13_2 → Q z13_v_spareR z13_v_trial) ∧
  (¬ x1 ≤ y13_2 → wp_X0_beat z13_v_trial z13_v_spareR (fun z22_u_cells z22_u_ends z22_u_size z22_u_used z22_v_beats z22_v_caught z22_v_gnawed z22_v_moleCount z22_v_moles z22_v_molesR z22_v_mounds z22_v_risen z22_v_roots z22_v_traps z22_v_tunnels =>
  B13 (y13_2 + 1) (z22_u_cells, z22_u_ends, z22_u_used, z22_u_size) (z22_v_mounds, (X0_opened z13_v_trial), z22_v_roots, z22_v_traps, z22_v_tunnels, z22_v_molesR, z22_v_moles, z22_v_moleCount, (X0_fullAir z13_v_trial), z22_v_beats, z22_v_caught, z22_v_gnawed, z22_v_risen, (X0_fallen z13_v_trial)))))
def wp_X6_tryBeats_13 (v : V_X6) (x1 : Int32)  (y13_2 : Int32) (z13_v_spareR : V_X3) (z13_v_trial : V_X0) (Q : V_X3 → V_X0 → Prop) : Prop :=
  ∃ (I : Int32 → V_X3 → V_X0 → Prop) (μ : Int32 → V_X3 → V_X0 → Nat), I y13_2 z13_v_spareR z13_v_trial ∧ ∀ (s0 : Int32) (s1 : V_X3) (s2 : V_X0), I s0 s1 s2 → wb_X6_tryBeats_13 v x1  s0 s1 s2 (fun t0 t1 t2 => I t0 t1 t2 ∧ μ t0 t1 t2 < μ s0 s1 s2) Q
def wp_X6_tryBeats (v : V_X6) (x1 : Int32) (Q : V_X3 → V_X0 → Prop) : Prop :=
  wp_X0_copyFrom (X6_trial v) (X6_lawn v) (fun z8_v_beats z8_v_caught z8_v_fallen z8_v_fullAir z8_v_gnawed z8_v_moleCount z8_v_moles z8_v_mounds z8_v_opened z8_v_risen z8_v_roots z8_v_traps z8_v_tunnels =>
  wp_X6_tryBeats_13 v x1  0 (X6_spareR v) (z8_v_mounds, z8_v_opened, z8_v_roots, z8_v_traps, z8_v_tunnels, (X0_molesR (X6_trial v)), z8_v_moles, z8_v_moleCount, z8_v_fullAir, z8_v_beats, z8_v_caught, z8_v_gnawed, z8_v_risen, z8_v_fallen) Q)
def q_X6_tryBeats (dC : Nat → ClassId) (dI : Nat → Nat → Nat) (cy : Nat → ClassId) (a : Nat → Nat) (v : V_X6) (x1 : Int32) (Q : V_X3 → V_X0 → Prop) (A : Nat → Prop) : Array Value → State → Outcome → State → Prop := va_Qv (fun (u : V_X3 × V_X0) => Q u.1 u.2) (fun (u : V_X3 × V_X0) t => xAt dC dI cy A (cX6 cy a (X6_lawn v) (X6_snapshot v) u.2 (X6_savedR v) (X6_saved v) (X6_text v) (X6_survey v) (X6_paths v) (X6_snapshotTaken v) (X6_savedCount v) u.1) t) A
set_option maxHeartbeats 4000000 in
set_option maxRecDepth 100000 in
theorem c_X6_tryBeats (l : Launch) (dC : Nat → ClassId) (dI : Nat → Nat → Nat) (cy : Nat → ClassId) (a : Nat → Nat) (sz : Nat) (v : V_X6) (x1 : Int32) (Q : V_X3 → V_X0 → Prop) (hq : wp_X6_tryBeats v x1 Q) : Met l yX6_tryBeats wsX6_tryBeats ({ frames := 6, cells := 0, slots := 0, locals := 143 } : Room) (va_Pc [.ref (a 0), .int x1] (xPreE dC dI cy (wX6 cy a v) sz)) (q_X6_tryBeats dC dI cy a v x1 Q (va_A (wX6 cy a v) sz)) 0 0 (va_A (wX6 cy a v) sz) := by
  refine Met.ofW (cc := cX6_tryBeats) (maxL := 3) (ret := none) (by decide) rfl ?_
  intro p e s m args below meth c s₁ B hml hv
  obtain ⟨rfl, hsz, hP, hK, hD0, hE⟩ := hv
  have hx := B.exec
  have hb := B.bytes
  have hr := B.returns
  have hts := atoms_spec (ws := wsX6_tryBeats) B.pre
  have hown : s.vm.findClass RX6 = some m.cls := findClass_of_methodNamed B.named
  have hlocks := B.notSynchronized
  subst hsz
  have hD := hD0.self (sz := s.heap.size)
  generalize hAe : va_A (wX6 cy a v) s.heap.size = A at hD hE ⊢
  have hAe0 : ∀ q : Nat, s.heap.size ≤ q → A q := fun q h => by rw [← hAe]; exact Or.inr h
  have hS : va_S A s.heap s.heap [] := va_S.rf
  have hl := lv_entry ([.ref (a 0), .int x1]) (n := 3) (Nat.le_of_ble_eq_true rfl)
  rw [lg_entry_eq]
  generalize (lg_sl ([.ref (a 0), .int x1]) ++ List.replicate (3 - (lg_sl ([.ref (a 0), .int x1])).length) Slot.unset).toArray = ls at hl ⊢
  have hl : lv_has ls 3 [(0, .ref (a 0)), (1, .int x1)] := hl
  have lk0 := hts (Cond.fieldLink RX6 24 "MolesLawn" "trial" "LMolesLawn$Lawn;") (List.mem_cons_of_mem _ (List.mem_append_left _ (List.mem_append_left _ (List.mem_append_left _ (List.mem_append_left _ (List.mem_append_left _ (List.mem_of_getElem? (i := 0) rfl)))))))
  have lk1 := hts (Cond.fieldLink RX6 15 "MolesLawn" "lawn" "LMolesLawn$Lawn;") (List.mem_cons_of_mem _ (List.mem_append_left _ (List.mem_append_left _ (List.mem_append_left _ (List.mem_append_left _ (List.mem_append_left _ (List.mem_of_getElem? (i := 1) rfl)))))))
  have iK6 : ∀ w ∈ wsX60, w ∈ wsX6_tryBeats := fun _ h => (List.mem_cons_of_mem _ (List.mem_append_left _ (List.mem_append_left _ (List.mem_append_left _ (List.mem_append_right _ h)))))
  unfold wp_X6_tryBeats at hq
  have J13 : ∀  (y13_2 : Int32) (z13_v_spareR : V_X3) (z13_v_trial : V_X0) (H : Heap) (locs : List Loc) (ls : Array Slot), wp_X6_tryBeats_13 v x1  y13_2 z13_v_spareR z13_v_trial Q → va_P (dC, dI) vwCl (cX6 cy a (X6_lawn v) (X6_snapshot v) z13_v_trial (X6_savedR v) (X6_saved v) (X6_text v) (X6_survey v) (X6_paths v) (X6_snapshotTaken v) (X6_savedCount v) z13_v_spareR) H → va_D A (cX6 cy a (X6_lawn v) (X6_snapshot v) z13_v_trial (X6_savedR v) (X6_saved v) (X6_text v) (X6_survey v) (X6_paths v) (X6_snapshotTaken v) (X6_savedCount v) z13_v_spareR) → va_S A s.heap H locs → lv_has ls 3 [(0, .ref (a 0)), (1, .int x1), (2, .int y13_2)] → W p l e (headSpec wsX6_tryBeats ({ frames := 6, cells := 0, slots := 0, locals := 143 } : Room)).room s m ([.ref (a 0), .int x1] : List Value).toArray below meth c H locs 0 0 (MQ below (q_X6_tryBeats dC dI cy a v x1 Q A) ([.ref (a 0), .int x1] : List Value).toArray s 0 0 A) (F0 m 13 ls []) := by
    intro  y13_2 z13_v_spareR z13_v_trial H locs ls hq hP hD hS hl
    obtain ⟨I13, μ13, h0, hs13⟩ := hq
    have key : ∀ (n : Nat) (y13_2 : Int32) (z13_v_spareR : V_X3) (z13_v_trial : V_X0) (H : Heap) (locs : List Loc) (ls : Array Slot), I13 y13_2 z13_v_spareR z13_v_trial → μ13 y13_2 z13_v_spareR z13_v_trial < n → va_P (dC, dI) vwCl (cX6 cy a (X6_lawn v) (X6_snapshot v) z13_v_trial (X6_savedR v) (X6_saved v) (X6_text v) (X6_survey v) (X6_paths v) (X6_snapshotTaken v) (X6_savedCount v) z13_v_spareR) H → va_D A (cX6 cy a (X6_lawn v) (X6_snapshot v) z13_v_trial (X6_savedR v) (X6_saved v) (X6_text v) (X6_survey v) (X6_paths v) (X6_snapshotTaken v) (X6_savedCount v) z13_v_spareR) → va_S A s.heap H locs → lv_has ls 3 [(0, .ref (a 0)), (1, .int x1), (2, .int y13_2)] → W p l e (headSpec wsX6_tryBeats ({ frames := 6, cells := 0, slots := 0, locals := 143 } : Room)).room s m ([.ref (a 0), .int x1] : List Value).toArray below meth c H locs 0 0 (MQ below (q_X6_tryBeats dC dI cy a v x1 Q A) ([.ref (a 0), .int x1] : List Value).toArray s 0 0 A) (F0 m 13 ls []) := by
      intro n
      induction n with
      | zero => intro y13_2 z13_v_spareR z13_v_trial H locs ls _ hm; exact absurd hm (Nat.not_lt_zero _)
      | succ n ih =>
        intro y13_2 z13_v_spareR z13_v_trial H locs ls hI hm hP hD hS hl
        have hq := hs13 y13_2 z13_v_spareR z13_v_trial hI
        generalize hB13 : (fun (t0 : Int32) (t1 : V_X3) (t2 : V_X0) => I13 t0 t1 t2 ∧ μ13 t0 t1 t2 < μ13 y13_2 z13_v_spareR z13_v_trial) = B13 at hq
        have bk13 : ∀ (y13_2 : Int32) (z13_v_spareR : V_X3) (z13_v_trial : V_X0) (H : Heap) (locs : List Loc) (ls : Array Slot), B13 y13_2 z13_v_spareR z13_v_trial → va_P (dC, dI) vwCl (cX6 cy a (X6_lawn v) (X6_snapshot v) z13_v_trial (X6_savedR v) (X6_saved v) (X6_text v) (X6_survey v) (X6_paths v) (X6_snapshotTaken v) (X6_savedCount v) z13_v_spareR) H → va_D A (cX6 cy a (X6_lawn v) (X6_snapshot v) z13_v_trial (X6_savedR v) (X6_saved v) (X6_text v) (X6_survey v) (X6_paths v) (X6_snapshotTaken v) (X6_savedCount v) z13_v_spareR) → va_S A s.heap H locs → lv_has ls 3 [(0, .ref (a 0)), (1, .int x1), (2, .int y13_2)] → W p l e (headSpec wsX6_tryBeats ({ frames := 6, cells := 0, slots := 0, locals := 143 } : Room)).room s m ([.ref (a 0), .int x1] : List Value).toArray below meth c H locs 0 0 (MQ below (q_X6_tryBeats dC dI cy a v x1 Q A) ([.ref (a 0), .int x1] : List Value).toArray s 0 0 A) (F0 m 13 ls []) := by
          intro y13_2 z13_v_spareR z13_v_trial H locs ls h
          rw [← hB13] at h
          exact ih y13_2 z13_v_spareR z13_v_trial H locs ls h.1 (Nat.lt_of_lt_of_le h.2 (Nat.le_of_lt_succ hm))
        unfold wb_X6_tryBeats_13 at hq
        refine lv_iload_n hx hb dX6_tryBeats_13 rfl (lv_at hl 2 rfl) ?_
        refine lv_iload_n hx hb dX6_tryBeats_14 rfl (lv_at hl 1 rfl) ?_
        obtain ⟨hqA, hqB⟩ := hq
        refine lv_icmp_ge (tgt := 31) hx hb dX6_tryBeats_15 (by decide) (fun c1 => ?_) (fun c1 => ?_)
        · have hq := hqA c1
          exact W.vret hx hb hr (fun t ht hW => ⟨⟨(z13_v_spareR, z13_v_trial), rfl, hq, (xAt_of hP hK hD ht hW)⟩, hS.F ht⟩) hS.2.2 dX6_tryBeats_31
        · have hq := hqB c1
          refine lv_aload_n hx hb dX6_tryBeats_18 rfl (lv_at hl 0 rfl) ?_
          refine va_get (D := (dC, dI)) (ci := 6) (v := .ref (a 46)) (C := RX6) (T := TX6) (N := 9) hx hb hts iK6 hown hK hP 0 rfl rfl 2 (by decide) lk0 (fun _ h9 => h9) rfl dX6_tryBeats_19 ?_
          have hC : (([46, 47, 48, 49, 50, 51, 52, 53, 54, 55, 56, 57, 58, 59, 60, 61, 62, 63, 64, 65, 66, 1, 2, 3] : List Nat).map (fun i => (cX6 cy a (X6_lawn v) (X6_snapshot v) z13_v_trial (X6_savedR v) (X6_saved v) (X6_text v) (X6_survey v) (X6_paths v) (X6_snapshotTaken v) (X6_savedCount v) z13_v_spareR)[i]?)) = (wX0 cy (sh a 46) (sh a 1) z13_v_trial ++ wX3 cy (sh a 1) z13_v_spareR).map some := (xC_app (i1 := [46, 47, 48, 49, 50, 51, 52, 53, 54, 55, 56, 57, 58, 59, 60, 61, 62, 63, 64, 65, 66]) (i2 := [1, 2, 3]) rfl (xC_one (n := 46) (m := 21) rfl rfl rfl) (xC_one (n := 1) (m := 3) rfl rfl rfl))
          have hPc := xsubP hP hC
          have hDc := xsubD hD (by decide) hC
          have hFc := va_free (wc := (wX0 cy (sh a 46) (sh a 1) z13_v_trial ++ wX3 cy (sh a 1) z13_v_spareR)) hD hS hAe0 [46, 47, 48, 49, 50, 51, 52, 53, 54, 55, 56, 57, 58, 59, 60, 61, 62, 63, 64, 65, 66, 1, 2, 3] hC
          refine va_callv (va_runV (As := []) (rest := []) ⟨hx, hb, hml, hown, hts⟩ (c_X0_beat l dC dI cy (sh a 46) (sh a 1) _ z13_v_trial z13_v_spareR _ hq) (cwV 0 hts gX6_tryBeats_X0_beat rfl rfl rfl (by decide +kernel) ⟨Nat.le_of_ble_eq_true rfl, Nat.le_of_ble_eq_true rfl⟩) ⟨xPre_blindE, va_recv hK hP (ci := 0) (q0 := 46) rfl rfl, xPre_ofE hPc hK hDc hE hS hFc⟩ rfl rfl hl.1 rfl (lv_room (Nat.le_of_ble_eq_true rfl)) dX6_tryBeats_22 ⟨Nat.le_of_ble_eq_true rfl, Nat.le_of_ble_eq_true rfl⟩) hS (fun q _ h => hFc q h) hFc (fun u9 t H locs ht hvm hq hB hz1 hk1 hS => ?_)
          obtain ⟨z22_u_cells, z22_u_ends, z22_u_size, z22_u_used, z22_v_beats, z22_v_caught, z22_v_gnawed, z22_v_moleCount, z22_v_moles, z22_v_molesR, z22_v_mounds, z22_v_risen, z22_v_roots, z22_v_traps, z22_v_tunnels⟩ := u9
          obtain ⟨hP1, -, hD1⟩ := hB
          rw [ht] at hP1
          obtain ⟨hP, hD⟩ := xj hP hD [46, 47, 48, 49, 50, 51, 52, 53, 54, 55, 56, 57, 58, 59, 60, 61, 62, 63, 64, 65, 66, 1, 2, 3] (cX0 cy (sh a 46) (sh a 1) z22_v_mounds (X0_opened z13_v_trial) z22_v_roots z22_v_traps z22_v_tunnels z22_v_molesR z22_v_moles z22_v_moleCount (X0_fullAir z13_v_trial) z22_v_beats z22_v_caught z22_v_gnawed z22_v_risen (X0_fallen z13_v_trial) ++ cX3 cy (sh a 1) z22_u_cells z22_u_ends z22_u_used z22_u_size) (ws' := (cX6 cy a (X6_lawn v) (X6_snapshot v) (z22_v_mounds, (X0_opened z13_v_trial), z22_v_roots, z22_v_traps, z22_v_tunnels, z22_v_molesR, z22_v_moles, z22_v_moleCount, (X0_fullAir z13_v_trial), z22_v_beats, z22_v_caught, z22_v_gnawed, z22_v_risen, (X0_fallen z13_v_trial)) (X6_savedR v) (X6_saved v) (X6_text v) (X6_survey v) (X6_paths v) (X6_snapshotTaken v) (X6_savedCount v) (z22_u_cells, z22_u_ends, z22_u_used, z22_u_size))) hC rfl (xS_app (n := 46) (m := 21) (i2 := [1, 2, 3]) rfl rfl rfl (xS_one (n := 1) (m := 3) rfl rfl rfl)) hk1 hFc hP1
          refine lv_iinc (v := (y13_2 + 1)) (lv' := [(2, .int (y13_2 + 1)), (0, .ref (a 0)), (1, .int x1)]) hx hb dX6_tryBeats_25 hl (k := 2) rfl rfl (by decide) rfl (fun ls hl => ?_)
          refine lv_goto (tgt := 13) hx hb dX6_tryBeats_28 (by decide) ?_
          exact bk13 (y13_2 + 1) (z22_u_cells, z22_u_ends, z22_u_used, z22_u_size) (z22_v_mounds, (X0_opened z13_v_trial), z22_v_roots, z22_v_traps, z22_v_tunnels, z22_v_molesR, z22_v_moles, z22_v_moleCount, (X0_fullAir z13_v_trial), z22_v_beats, z22_v_caught, z22_v_gnawed, z22_v_risen, (X0_fallen z13_v_trial)) _ _ _ hq hP hD hS (lv_sub hl [1, 2, 0] rfl)
    exact key _ y13_2 z13_v_spareR z13_v_trial H locs ls h0 (Nat.lt_succ_self _) hP hD hS hl
  refine lv_aload_n hx hb dX6_tryBeats_0 rfl (lv_at hl 0 rfl) ?_
  refine va_get (D := (dC, dI)) (ci := 6) (v := .ref (a 46)) (C := RX6) (T := TX6) (N := 9) hx hb hts iK6 hown hK hP 0 rfl rfl 2 (by decide) lk0 (fun _ h9 => h9) rfl dX6_tryBeats_1 ?_
  refine lv_aload_n hx hb dX6_tryBeats_4 rfl (lv_at hl 0 rfl) ?_
  refine va_get (D := (dC, dI)) (ci := 6) (v := .ref (a 4)) (C := RX6) (T := TX6) (N := 9) hx hb hts iK6 hown hK hP 0 rfl rfl 0 (by decide) lk1 (fun _ h9 => h9) rfl dX6_tryBeats_5 ?_
  have hC : (([46, 47, 48, 49, 50, 51, 52, 53, 54, 55, 56, 57, 58, 59, 60, 61, 62, 63, 64, 65, 66, 4, 5, 6, 7, 8, 9, 10, 11, 12, 13, 14, 15, 16, 17, 18, 19, 20, 21, 22, 23, 24] : List Nat).map (fun i => (wX6 cy a v)[i]?)) = (wX0 cy (sh a 46) (sh a 1) (X6_trial v) ++ wX0 cy (sh a 4) (sh a 1) (X6_lawn v)).map some := (xC_app (i1 := [46, 47, 48, 49, 50, 51, 52, 53, 54, 55, 56, 57, 58, 59, 60, 61, 62, 63, 64, 65, 66]) (i2 := [4, 5, 6, 7, 8, 9, 10, 11, 12, 13, 14, 15, 16, 17, 18, 19, 20, 21, 22, 23, 24]) rfl (xC_one (n := 46) (m := 21) rfl rfl rfl) (xC_one (n := 4) (m := 21) rfl rfl rfl))
  have hPc := xsubP hP hC
  have hDc := xsubD hD (by decide) hC
  have hFc := va_free (wc := (wX0 cy (sh a 46) (sh a 1) (X6_trial v) ++ wX0 cy (sh a 4) (sh a 1) (X6_lawn v))) hD hS hAe0 [46, 47, 48, 49, 50, 51, 52, 53, 54, 55, 56, 57, 58, 59, 60, 61, 62, 63, 64, 65, 66, 4, 5, 6, 7, 8, 9, 10, 11, 12, 13, 14, 15, 16, 17, 18, 19, 20, 21, 22, 23, 24] hC
  refine va_callv (va_runV (As := [.ref (a 4)]) (rest := []) ⟨hx, hb, hml, hown, hts⟩ (c_X0_copyFrom l dC dI cy (sh a 46) (sh a 1) (sh a 4) _ (X6_trial v) (X6_lawn v) _ hq) (cwV 1 hts gX6_tryBeats_X0_copyFrom rfl rfl rfl (by decide +kernel) ⟨Nat.le_of_ble_eq_true rfl, Nat.le_of_ble_eq_true rfl⟩) ⟨xPre_blind, va_recv hK hP (ci := 0) (q0 := 46) rfl rfl, xPre_of hPc hK hDc⟩ rfl rfl hl.1 rfl (lv_room (Nat.le_of_ble_eq_true rfl)) dX6_tryBeats_8 ⟨Nat.le_of_ble_eq_true rfl, Nat.le_of_ble_eq_true rfl⟩) hS (fun q _ h => hFc q h) hFc (fun u9 t H locs ht hvm hq hB hz1 hk1 hS => ?_)
  obtain ⟨z8_v_beats, z8_v_caught, z8_v_fallen, z8_v_fullAir, z8_v_gnawed, z8_v_moleCount, z8_v_moles, z8_v_mounds, z8_v_opened, z8_v_risen, z8_v_roots, z8_v_traps, z8_v_tunnels⟩ := u9
  obtain ⟨hP1, -, hD1⟩ := hB
  rw [ht] at hP1
  obtain ⟨hP, hD⟩ := xj hP hD [46, 47, 48, 49, 50, 51, 52, 53, 54, 55, 56, 57, 58, 59, 60, 61, 62, 63, 64, 65, 66, 4, 5, 6, 7, 8, 9, 10, 11, 12, 13, 14, 15, 16, 17, 18, 19, 20, 21, 22, 23, 24] (cX0 cy (sh a 46) (sh a 1) z8_v_mounds z8_v_opened z8_v_roots z8_v_traps z8_v_tunnels (X0_molesR (X6_trial v)) z8_v_moles z8_v_moleCount z8_v_fullAir z8_v_beats z8_v_caught z8_v_gnawed z8_v_risen z8_v_fallen ++ wX0 cy (sh a 4) (sh a 1) (X6_lawn v)) (ws' := (cX6 cy a (X6_lawn v) (X6_snapshot v) (z8_v_mounds, z8_v_opened, z8_v_roots, z8_v_traps, z8_v_tunnels, (X0_molesR (X6_trial v)), z8_v_moles, z8_v_moleCount, z8_v_fullAir, z8_v_beats, z8_v_caught, z8_v_gnawed, z8_v_risen, z8_v_fallen) (X6_savedR v) (X6_saved v) (X6_text v) (X6_survey v) (X6_paths v) (X6_snapshotTaken v) (X6_savedCount v) (X6_spareR v))) hC rfl (xS_app (n := 46) (m := 21) (i2 := [4, 5, 6, 7, 8, 9, 10, 11, 12, 13, 14, 15, 16, 17, 18, 19, 20, 21, 22, 23, 24]) rfl rfl rfl (xS_one (n := 4) (m := 21) rfl rfl rfl)) hk1 hFc hP1
  refine lv_iconst (v := 0) hx hb dX6_tryBeats_11 (by decide) ?_
  refine lv_istore_n (lv' := [(2, .int 0), (0, .ref (a 0)), (1, .int x1)]) hx hb dX6_tryBeats_12 rfl hl (by decide) rfl (fun ls hl => ?_)
  exact J13  0 (X6_spareR v) (z8_v_mounds, z8_v_opened, z8_v_roots, z8_v_traps, z8_v_tunnels, (X0_molesR (X6_trial v)), z8_v_moles, z8_v_moleCount, z8_v_fullAir, z8_v_beats, z8_v_caught, z8_v_gnawed, z8_v_risen, z8_v_fallen) _ _ _ hq hP hD hS (lv_sub hl [1, 2, 0] rfl)
