def wp_X6_tuft (v : V_X6) (x1 : Int32) (x2 : Int32) (Q : Int32 → V_X4 → Prop) (QX : String → Prop) : Prop :=
  wp_X6_checkTuft v x1 (wp_X6_checkWhat v x2 8 (wp_X4_read (X6_survey v) (X6_lawn v) (fun z20_v_crossings z20_v_hollow z20_v_seenBy z20_v_sure =>
  wp_X6_numberOfTuft (X6_s6 v (z20_v_hollow, z20_v_crossings, z20_v_sure, z20_v_seenBy)) x1 x2 (fun r26 =>
  Q r26 (z20_v_hollow, z20_v_crossings, z20_v_sure, z20_v_seenBy)))) QX) QX
def q_X6_tuft (dC : Nat → ClassId) (dI : Nat → Nat → Nat) (cy : Nat → ClassId) (a : Nat → Nat) (v : V_X6) (x1 : Int32) (x2 : Int32) (Q : Int32 → V_X4 → Prop) (A : Nat → Prop) : Array Value → State → Outcome → State → Prop := va_Qi (fun (r : Int32) (u : V_X4) => Q r u) (fun (u : V_X4) t => xAt dC dI cy A (cX6 cy a (X6_lawn v) (X6_snapshot v) (X6_trial v) (X6_savedR v) (X6_saved v) (X6_text v) u (X6_paths v) (X6_snapshotTaken v) (X6_savedCount v) (X6_spareR v)) t) A
set_option maxHeartbeats 4000000 in
set_option maxRecDepth 100000 in
theorem c_X6_tuft (l : Launch) (dC : Nat → ClassId) (dI : Nat → Nat → Nat) (cy : Nat → ClassId) (a : Nat → Nat) (sz : Nat) (v : V_X6) (x1 : Int32) (x2 : Int32) (Q : Int32 → V_X4 → Prop) (QX : String → Prop) (hX : ∀ E, ¬ QX E) (hq : wp_X6_tuft v x1 x2 Q QX) : Met l yX6_tuft wsX6_tuft ({ frames := 6, cells := 0, slots := 0, locals := 138 } : Room) (va_Pc [.ref (a 0), .int x1, .int x2] (xPreE dC dI cy (wX6 cy a v) sz)) (q_X6_tuft dC dI cy a v x1 x2 Q (va_A (wX6 cy a v) sz)) 0 0 (va_A (wX6 cy a v) sz) := by
  refine Met.ofW (cc := cX6_tuft) (maxL := 3) (ret := (some .int)) (by decide) rfl ?_
  intro p e s m args below meth c s₁ B hml hv
  obtain ⟨rfl, hsz, hP, hK, hD0, hE⟩ := hv
  have hx := B.exec
  have hb := B.bytes
  have hr := B.returns
  have hts := atoms_spec (ws := wsX6_tuft) B.pre
  have hown : s.vm.findClass RX6 = some m.cls := findClass_of_methodNamed B.named
  have hlocks := B.notSynchronized
  subst hsz
  have hD := hD0.self (sz := s.heap.size)
  generalize hAe : va_A (wX6 cy a v) s.heap.size = A at hD hE ⊢
  have hAe0 : ∀ q : Nat, s.heap.size ≤ q → A q := fun q h => by rw [← hAe]; exact Or.inr h
  have hS : va_S A s.heap s.heap [] := va_S.rf
  have hl := lv_entry ([.ref (a 0), .int x1, .int x2]) (n := 3) (Nat.le_of_ble_eq_true rfl)
  rw [lg_entry_eq]
  generalize (lg_sl ([.ref (a 0), .int x1, .int x2]) ++ List.replicate (3 - (lg_sl ([.ref (a 0), .int x1, .int x2])).length) Slot.unset).toArray = ls at hl ⊢
  have hl : lv_has ls 3 [(0, .ref (a 0)), (1, .int x1), (2, .int x2)] := hl
  have lk0 := hts (Cond.fieldLink RX6 41 "MolesLawn" "survey" "LMolesLawn$Survey;") (List.mem_cons_of_mem _ (List.mem_append_left _ (List.mem_append_left _ (List.mem_append_left _ (List.mem_append_left _ (List.mem_append_left _ (List.mem_append_left _ (List.mem_append_left _ (List.mem_append_left _ (List.mem_of_getElem? (i := 0) rfl))))))))))
  have lk1 := hts (Cond.fieldLink RX6 15 "MolesLawn" "lawn" "LMolesLawn$Lawn;") (List.mem_cons_of_mem _ (List.mem_append_left _ (List.mem_append_left _ (List.mem_append_left _ (List.mem_append_left _ (List.mem_append_left _ (List.mem_append_left _ (List.mem_append_left _ (List.mem_append_left _ (List.mem_of_getElem? (i := 1) rfl))))))))))
  have iK6 : ∀ w ∈ wsX60, w ∈ wsX6_tuft := fun _ h => (List.mem_cons_of_mem _ (List.mem_append_left _ (List.mem_append_left _ (List.mem_append_left _ (List.mem_append_left _ (List.mem_append_left _ (List.mem_append_left _ (List.mem_append_right _ h))))))))
  unfold wp_X6_tuft at hq
  refine lv_aload_n hx hb dX6_tuft_0 rfl (lv_at hl 0 rfl) ?_
  refine lv_iload_n hx hb dX6_tuft_1 rfl (lv_at hl 1 rfl) ?_
  have hFc := xfree_same hS hAe0 (ws := (wX6 cy a v)) hD
  refine va_callv (va_runV (As := [.int x1]) (rest := []) ⟨hx, hb, hml, hown, hts⟩ (c_X6_checkTuft l dC dI cy a _ v x1 _ _ hX hq) (cwV 1 hts gX6_tuft_X6_checkTuft rfl rfl rfl (by decide +kernel) ⟨Nat.le_of_ble_eq_true rfl, Nat.le_of_ble_eq_true rfl⟩) ⟨xPre_blind, va_recv hK hP (ci := 6) (q0 := 0) rfl rfl, xPre_of hP hK hD⟩ rfl rfl hl.1 rfl (lv_room (Nat.le_of_ble_eq_true rfl)) dX6_tuft_2 ⟨Nat.le_of_ble_eq_true rfl, Nat.le_of_ble_eq_true rfl⟩) hS (fun q _ h => hFc q h) hFc (fun u9 t H locs ht hvm hq hB hz1 hk1 hS => ?_)
  obtain ⟨hP1, -, hD1⟩ := hB
  rw [ht] at hP1
  have hP : va_P (dC, dI) vwCl (wX6 cy a v) H := hP1
  have hD : va_D A (wX6 cy a v) := hD1.weaken (fun _ q _ h => hFc q.1 h)
  refine lv_aload_n hx hb dX6_tuft_5 rfl (lv_at hl 0 rfl) ?_
  refine lv_iload_n hx hb dX6_tuft_6 rfl (lv_at hl 2 rfl) ?_
  refine lv_bipush (v := 8) hx hb dX6_tuft_7 (by decide) ?_
  have hFc := xfree_same hS hAe0 (ws := (wX6 cy a v)) hD
  refine va_callv (va_runV (As := [.int x2, .int 8]) (rest := []) ⟨hx, hb, hml, hown, hts⟩ (c_X6_checkWhat l dC dI cy a _ v x2 8 _ _ hX hq) (cwV 2 hts gX6_tuft_X6_checkWhat rfl rfl rfl (by decide +kernel) ⟨Nat.le_of_ble_eq_true rfl, Nat.le_of_ble_eq_true rfl⟩) ⟨xPre_blind, va_recv hK hP (ci := 6) (q0 := 0) rfl rfl, xPre_of hP hK hD⟩ rfl rfl hl.1 rfl (lv_room (Nat.le_of_ble_eq_true rfl)) dX6_tuft_9 ⟨Nat.le_of_ble_eq_true rfl, Nat.le_of_ble_eq_true rfl⟩) hS (fun q _ h => hFc q h) hFc (fun u9 t H locs ht hvm hq hB hz1 hk1 hS => ?_)
  obtain ⟨hP1, -, hD1⟩ := hB
  rw [ht] at hP1
  have hP : va_P (dC, dI) vwCl (wX6 cy a v) H := hP1
  have hD : va_D A (wX6 cy a v) := hD1.weaken (fun _ q _ h => hFc q.1 h)
  refine lv_aload_n hx hb dX6_tuft_12 rfl (lv_at hl 0 rfl) ?_
  refine va_get (D := (dC, dI)) (ci := 6) (v := .ref (a 196)) (C := RX6) (T := TX6) (N := 9) hx hb hts iK6 hown hK hP 0 rfl rfl 5 (by decide) lk0 (fun _ h9 => h9) rfl dX6_tuft_13 ?_
  refine lv_aload_n hx hb dX6_tuft_16 rfl (lv_at hl 0 rfl) ?_
  refine va_get (D := (dC, dI)) (ci := 6) (v := .ref (a 4)) (C := RX6) (T := TX6) (N := 9) hx hb hts iK6 hown hK hP 0 rfl rfl 0 (by decide) lk1 (fun _ h9 => h9) rfl dX6_tuft_17 ?_
  have hC : (([196, 197, 198, 199, 200, 4, 5, 6, 7, 8, 9, 10, 11, 12, 13, 14, 15, 16, 17, 18, 19, 20, 21, 22, 23, 24] : List Nat).map (fun i => (wX6 cy a v)[i]?)) = (wX4 cy (sh a 196) (X6_survey v) ++ wX0 cy (sh a 4) (sh a 1) (X6_lawn v)).map some := (xC_app (i1 := [196, 197, 198, 199, 200]) (i2 := [4, 5, 6, 7, 8, 9, 10, 11, 12, 13, 14, 15, 16, 17, 18, 19, 20, 21, 22, 23, 24]) rfl (xC_one (n := 196) (m := 5) rfl rfl rfl) (xC_one (n := 4) (m := 21) rfl rfl rfl))
  have hPc := xsubP hP hC
  have hDc := xsubD hD (by decide) hC
  have hFc := va_free (wc := (wX4 cy (sh a 196) (X6_survey v) ++ wX0 cy (sh a 4) (sh a 1) (X6_lawn v))) hD hS hAe0 [196, 197, 198, 199, 200, 4, 5, 6, 7, 8, 9, 10, 11, 12, 13, 14, 15, 16, 17, 18, 19, 20, 21, 22, 23, 24] hC
  refine va_callv (va_runV (As := [.ref (a 4)]) (rest := []) ⟨hx, hb, hml, hown, hts⟩ (c_X4_read l dC dI cy (sh a 196) (sh a 4) (sh a 1) _ (X6_survey v) (X6_lawn v) _ hq) (cwV 1 hts gX6_tuft_X4_read rfl rfl rfl (by decide +kernel) ⟨Nat.le_of_ble_eq_true rfl, Nat.le_of_ble_eq_true rfl⟩) ⟨xPre_blindE, va_recv hK hP (ci := 4) (q0 := 196) rfl rfl, xPre_ofE hPc hK hDc hE hS hFc⟩ rfl rfl hl.1 rfl (lv_room (Nat.le_of_ble_eq_true rfl)) dX6_tuft_20 ⟨Nat.le_of_ble_eq_true rfl, Nat.le_of_ble_eq_true rfl⟩) hS (fun q _ h => hFc q h) hFc (fun u9 t H locs ht hvm hq hB hz1 hk1 hS => ?_)
  obtain ⟨z20_v_crossings, z20_v_hollow, z20_v_seenBy, z20_v_sure⟩ := u9
  obtain ⟨hP1, -, hD1⟩ := hB
  rw [ht] at hP1
  obtain ⟨hP, hD⟩ := xj hP hD [196, 197, 198, 199, 200, 4, 5, 6, 7, 8, 9, 10, 11, 12, 13, 14, 15, 16, 17, 18, 19, 20, 21, 22, 23, 24] (cX4 cy (sh a 196) z20_v_hollow z20_v_crossings z20_v_sure z20_v_seenBy ++ wX0 cy (sh a 4) (sh a 1) (X6_lawn v)) (ws' := (cX6 cy a (X6_lawn v) (X6_snapshot v) (X6_trial v) (X6_savedR v) (X6_saved v) (X6_text v) (z20_v_hollow, z20_v_crossings, z20_v_sure, z20_v_seenBy) (X6_paths v) (X6_snapshotTaken v) (X6_savedCount v) (X6_spareR v))) hC rfl (xS_app (n := 196) (m := 5) (i2 := [4, 5, 6, 7, 8, 9, 10, 11, 12, 13, 14, 15, 16, 17, 18, 19, 20, 21, 22, 23, 24]) rfl rfl rfl (xS_one (n := 4) (m := 21) rfl rfl rfl)) hk1 hFc hP1
  refine lv_aload_n hx hb dX6_tuft_23 rfl (lv_at hl 0 rfl) ?_
  refine lv_iload_n hx hb dX6_tuft_24 rfl (lv_at hl 1 rfl) ?_
  refine lv_iload_n hx hb dX6_tuft_25 rfl (lv_at hl 2 rfl) ?_
  have hFc := xfree_same hS hAe0 (ws := (cX6 cy a (X6_lawn v) (X6_snapshot v) (X6_trial v) (X6_savedR v) (X6_saved v) (X6_text v) (z20_v_hollow, z20_v_crossings, z20_v_sure, z20_v_seenBy) (X6_paths v) (X6_snapshotTaken v) (X6_savedCount v) (X6_spareR v))) hD
  refine va_calli (va_runV (As := [.int x1, .int x2]) (rest := []) ⟨hx, hb, hml, hown, hts⟩ (c_X6_numberOfTuft l dC dI cy a _ (X6_s6 v (z20_v_hollow, z20_v_crossings, z20_v_sure, z20_v_seenBy)) x1 x2 _ hq) (cwV 2 hts gX6_tuft_X6_numberOfTuft rfl rfl rfl (by decide +kernel) ⟨Nat.le_of_ble_eq_true rfl, Nat.le_of_ble_eq_true rfl⟩) ⟨xPre_blindE, va_recv hK hP (ci := 6) (q0 := 0) rfl rfl, xPre_ofE hP hK hD hE hS hFc⟩ rfl rfl hl.1 rfl (lv_room (Nat.le_of_ble_eq_true rfl)) dX6_tuft_26 ⟨Nat.le_of_ble_eq_true rfl, Nat.le_of_ble_eq_true rfl⟩) hS (fun q _ h => hFc q h) hFc (fun r26 u9 t H locs ht hvm hq hB hz1 hk1 hS => ?_)
  obtain ⟨hP1, -, hD1⟩ := hB
  rw [ht] at hP1
  have hP : va_P (dC, dI) vwCl (cX6 cy a (X6_lawn v) (X6_snapshot v) (X6_trial v) (X6_savedR v) (X6_saved v) (X6_text v) (z20_v_hollow, z20_v_crossings, z20_v_sure, z20_v_seenBy) (X6_paths v) (X6_snapshotTaken v) (X6_savedCount v) (X6_spareR v)) H := hP1
  have hD : va_D A (cX6 cy a (X6_lawn v) (X6_snapshot v) (X6_trial v) (X6_savedR v) (X6_saved v) (X6_text v) (z20_v_hollow, z20_v_crossings, z20_v_sure, z20_v_seenBy) (X6_paths v) (X6_snapshotTaken v) (X6_savedCount v) (X6_spareR v)) := hD1.weaken (fun _ q _ h => hFc q.1 h)
  exact W.iret (v := r26) hx hb hr (fun t ht hW => ⟨⟨r26, (z20_v_hollow, z20_v_crossings, z20_v_sure, z20_v_seenBy), rfl, hq, (xAt_of hP hK hD ht hW)⟩, hS.F ht⟩) hS.2.2 dX6_tuft_29
