def wp_X6_set (v : V_X6) (x1 : Int32) (Q : Int32 → V_X0 → (Nat → V_X0) → Int32 → (Nat → Nat) → Prop) (QX : String → Prop) : Prop :=
  ((x1 < 2 → QX "java/lang/IllegalArgumentException") ∧
  (¬ x1 < 2 → ((x1 ≤ 20 → wp_X6_saveState v (fun z22_v_saved z22_v_savedCount z22_v_savedR =>
  wp_X0_setFullAir (X6_lawn v) x1 (fun z38_v_fullAir z38_v_moles =>
  Q (X0_fullAir (X6_lawn v)) (X0_s8 (X0_s6 (X6_lawn v) z38_v_moles) z38_v_fullAir) z22_v_saved z22_v_savedCount z22_v_savedR))) ∧
  (¬ x1 ≤ 20 → QX "java/lang/IllegalArgumentException"))))
def q_X6_set (dC : Nat → ClassId) (dI : Nat → Nat → Nat) (cy : Nat → ClassId) (a : Nat → Nat) (v : V_X6) (x1 : Int32) (Q : Int32 → V_X0 → (Nat → V_X0) → Int32 → (Nat → Nat) → Prop) (A : Nat → Prop) : Array Value → State → Outcome → State → Prop := va_Qi (fun (r : Int32) (u : V_X0 × (Nat → V_X0) × Int32 × (Nat → Nat)) => Q r u.1 u.2.1 u.2.2.1 u.2.2.2) (fun (u : V_X0 × (Nat → V_X0) × Int32 × (Nat → Nat)) t => xAt dC dI cy A (cX6 cy a u.1 (X6_snapshot v) (X6_trial v) u.2.2.2 u.2.1 (X6_text v) (X6_survey v) (X6_paths v) (X6_snapshotTaken v) u.2.2.1 (X6_spareR v)) t) A
set_option maxHeartbeats 4000000 in
set_option maxRecDepth 100000 in
theorem c_X6_set (l : Launch) (dC : Nat → ClassId) (dI : Nat → Nat → Nat) (cy : Nat → ClassId) (a : Nat → Nat) (sz : Nat) (v : V_X6) (x1 : Int32) (Q : Int32 → V_X0 → (Nat → V_X0) → Int32 → (Nat → Nat) → Prop) (QX : String → Prop) (hX : ∀ E, ¬ QX E) (hq : wp_X6_set v x1 Q QX) : Met l yX6_set wsX6_set ({ frames := 4, cells := 0, slots := 0, locals := 91 } : Room) (va_Pc [.ref (a 0), .int x1] (xPre dC dI cy (wX6 cy a v) sz)) (q_X6_set dC dI cy a v x1 Q (va_A (wX6 cy a v) sz)) 0 0 (va_A (wX6 cy a v) sz) := by
  refine Met.ofW (cc := cX6_set) (maxL := 3) (ret := (some .int)) (by decide) rfl ?_
  intro p e s m args below meth c s₁ B hml hv
  obtain ⟨rfl, hsz, hP, hK, hD0⟩ := hv
  have hx := B.exec
  have hb := B.bytes
  have hr := B.returns
  have hts := atoms_spec (ws := wsX6_set) B.pre
  have hown : s.vm.findClass RX6 = some m.cls := findClass_of_methodNamed B.named
  have hlocks := B.notSynchronized
  subst hsz
  have hD := hD0.self (sz := s.heap.size)
  generalize hAe : va_A (wX6 cy a v) s.heap.size = A at hD ⊢
  have hAe0 : ∀ q : Nat, s.heap.size ≤ q → A q := fun q h => by rw [← hAe]; exact Or.inr h
  have hS : va_S A s.heap s.heap [] := va_S.rf
  have hl := lv_entry ([.ref (a 0), .int x1]) (n := 3) (Nat.le_of_ble_eq_true rfl)
  rw [lg_entry_eq]
  generalize (lg_sl ([.ref (a 0), .int x1]) ++ List.replicate (3 - (lg_sl ([.ref (a 0), .int x1])).length) Slot.unset).toArray = ls at hl ⊢
  have hl : lv_has ls 3 [(0, .ref (a 0)), (1, .int x1)] := hl
  have lk0 := hts (Cond.fieldLink RX6 15 "MolesLawn" "lawn" "LMolesLawn$Lawn;") (List.mem_cons_of_mem _ (List.mem_append_left _ (List.mem_append_left _ (List.mem_append_left _ (List.mem_append_left _ (List.mem_append_left _ (List.mem_append_left _ (List.mem_of_getElem? (i := 2) rfl))))))))
  have lk1 := hts (Cond.fieldLink RX6 140 "MolesLawn$Lawn" "fullAir" "I") (List.mem_cons_of_mem _ (List.mem_append_left _ (List.mem_append_left _ (List.mem_append_left _ (List.mem_append_left _ (List.mem_append_left _ (List.mem_append_left _ (List.mem_of_getElem? (i := 3) rfl))))))))
  have iK0 : ∀ w ∈ wsX00, w ∈ wsX6_set := fun _ h => (List.mem_cons_of_mem _ (List.mem_append_left _ (List.mem_append_left _ (List.mem_append_left _ (List.mem_append_right _ h)))))
  have iK6 : ∀ w ∈ wsX60, w ∈ wsX6_set := fun _ h => (List.mem_cons_of_mem _ (List.mem_append_left _ (List.mem_append_left _ (List.mem_append_left _ (List.mem_append_left _ (List.mem_append_right _ h))))))
  unfold wp_X6_set at hq
  refine lv_iload_n hx hb dX6_set_0 rfl (lv_at hl 1 rfl) ?_
  refine lv_iconst (v := 2) hx hb dX6_set_1 (by decide) ?_
  obtain ⟨hqA, hqB⟩ := hq
  refine lv_icmp_lt (tgt := 11) hx hb dX6_set_2 (by decide) (fun c2 => ?_) (fun c2 => ?_)
  · have hq := hqA c2
    exact (hX _ hq).elim
  · have hq := hqB c2
    refine lv_iload_n hx hb dX6_set_5 rfl (lv_at hl 1 rfl) ?_
    refine lv_bipush (v := 20) hx hb dX6_set_6 (by decide) ?_
    obtain ⟨hqA, hqB⟩ := hq
    refine lv_icmp_le (tgt := 21) hx hb dX6_set_8 (by decide) (fun c1 => ?_) (fun c1 => ?_)
    · have hq := hqA c1
      refine lv_aload_n hx hb dX6_set_21 rfl (lv_at hl 0 rfl) ?_
      have hFc := xfree_same hS hAe0 (ws := (wX6 cy a v)) hD
      refine va_callv (va_runV (As := []) (rest := []) ⟨hx, hb, hml, hown, hts⟩ (c_X6_saveState l dC dI cy a _ v _ hq) (cwV 0 hts gX6_set_X6_saveState rfl rfl rfl (by decide +kernel) ⟨Nat.le_of_ble_eq_true rfl, Nat.le_of_ble_eq_true rfl⟩) ⟨xPre_blind, va_recv hK hP (ci := 6) (q0 := 0) rfl rfl, xPre_of hP hK hD⟩ rfl rfl hl.1 rfl (lv_room (Nat.le_of_ble_eq_true rfl)) dX6_set_22 ⟨Nat.le_of_ble_eq_true rfl, Nat.le_of_ble_eq_true rfl⟩) hS (fun q _ h => hFc q h) hFc (fun u9 t H locs ht hvm hq hB hz1 hk1 hS => ?_)
      obtain ⟨z22_v_saved, z22_v_savedCount, z22_v_savedR⟩ := u9
      obtain ⟨hP1, -, hD1⟩ := hB
      rw [ht] at hP1
      have hP : va_P (dC, dI) vwCl (cX6 cy a (X6_lawn v) (X6_snapshot v) (X6_trial v) z22_v_savedR z22_v_saved (X6_text v) (X6_survey v) (X6_paths v) (X6_snapshotTaken v) z22_v_savedCount (X6_spareR v)) H := hP1
      have hD : va_D A (cX6 cy a (X6_lawn v) (X6_snapshot v) (X6_trial v) z22_v_savedR z22_v_saved (X6_text v) (X6_survey v) (X6_paths v) (X6_snapshotTaken v) z22_v_savedCount (X6_spareR v)) := hD1.weaken (fun _ q _ h => hFc q.1 h)
      refine lv_aload_n hx hb dX6_set_25 rfl (lv_at hl 0 rfl) ?_
      refine va_get (D := (dC, dI)) (ci := 6) (v := .ref (a 4)) (C := RX6) (T := TX6) (N := 9) hx hb hts iK6 hown hK hP 0 rfl rfl 0 (by decide) lk0 (fun _ h9 => h9) rfl dX6_set_26 ?_
      refine va_get (D := (dC, dI)) (ci := 0) (v := .int (X0_fullAir (X6_lawn v))) (C := RX0) (T := TX0) (N := 14) hx hb hts iK0 hown hK hP 4 rfl rfl 8 (by decide) lk1 (fun _ h9 => h9) rfl dX6_set_29 ?_
      refine lv_istore_n (lv' := [(2, .int (X0_fullAir (X6_lawn v))), (0, .ref (a 0)), (1, .int x1)]) hx hb dX6_set_32 rfl hl (by decide) rfl (fun ls hl => ?_)
      refine lv_aload_n hx hb dX6_set_33 rfl (lv_at hl 1 rfl) ?_
      refine va_get (D := (dC, dI)) (ci := 6) (v := .ref (a 4)) (C := RX6) (T := TX6) (N := 9) hx hb hts iK6 hown hK hP 0 rfl rfl 0 (by decide) lk0 (fun _ h9 => h9) rfl dX6_set_34 ?_
      refine lv_iload_n hx hb dX6_set_37 rfl (lv_at hl 2 rfl) ?_
      have hC : (([4, 5, 6, 7, 8, 9, 10, 11, 12, 13, 14, 15, 16, 17, 18, 19, 20, 21, 22, 23, 24] : List Nat).map (fun i => (cX6 cy a (X6_lawn v) (X6_snapshot v) (X6_trial v) z22_v_savedR z22_v_saved (X6_text v) (X6_survey v) (X6_paths v) (X6_snapshotTaken v) z22_v_savedCount (X6_spareR v))[i]?)) = (wX0 cy (sh a 4) (sh a 1) (X6_lawn v)).map some := (xC_one (n := 4) (m := 21) rfl rfl rfl)
      have hPc := xsubP hP hC
      have hDc := xsubD hD (by decide) hC
      have hFc := va_free (wc := (wX0 cy (sh a 4) (sh a 1) (X6_lawn v))) hD hS hAe0 [4, 5, 6, 7, 8, 9, 10, 11, 12, 13, 14, 15, 16, 17, 18, 19, 20, 21, 22, 23, 24] hC
      refine va_callv (va_runV (As := [.int x1]) (rest := []) ⟨hx, hb, hml, hown, hts⟩ (c_X0_setFullAir l dC dI cy (sh a 4) (sh a 1) _ (X6_lawn v) x1 _ hq) (cwV 1 hts gX6_set_X0_setFullAir rfl rfl rfl (by decide +kernel) ⟨Nat.le_of_ble_eq_true rfl, Nat.le_of_ble_eq_true rfl⟩) ⟨xPre_blind, va_recv hK hP (ci := 0) (q0 := 4) rfl rfl, xPre_of hPc hK hDc⟩ rfl rfl hl.1 rfl (lv_room (Nat.le_of_ble_eq_true rfl)) dX6_set_38 ⟨Nat.le_of_ble_eq_true rfl, Nat.le_of_ble_eq_true rfl⟩) hS (fun q _ h => hFc q h) hFc (fun u9 t H locs ht hvm hq hB hz1 hk1 hS => ?_)
      obtain ⟨z38_v_fullAir, z38_v_moles⟩ := u9
      obtain ⟨hP1, -, hD1⟩ := hB
      rw [ht] at hP1
      obtain ⟨hP, hD⟩ := xj hP hD [4, 5, 6, 7, 8, 9, 10, 11, 12, 13, 14, 15, 16, 17, 18, 19, 20, 21, 22, 23, 24] (cX0 cy (sh a 4) (sh a 1) (X0_mounds (X6_lawn v)) (X0_opened (X6_lawn v)) (X0_roots (X6_lawn v)) (X0_traps (X6_lawn v)) (X0_tunnels (X6_lawn v)) (X0_molesR (X6_lawn v)) z38_v_moles (X0_moleCount (X6_lawn v)) z38_v_fullAir (X0_beats (X6_lawn v)) (X0_caught (X6_lawn v)) (X0_gnawed (X6_lawn v)) (X0_risen (X6_lawn v)) (X0_fallen (X6_lawn v))) (ws' := (cX6 cy a ((X0_mounds (X6_lawn v)), (X0_opened (X6_lawn v)), (X0_roots (X6_lawn v)), (X0_traps (X6_lawn v)), (X0_tunnels (X6_lawn v)), (X0_molesR (X6_lawn v)), z38_v_moles, (X0_moleCount (X6_lawn v)), z38_v_fullAir, (X0_beats (X6_lawn v)), (X0_caught (X6_lawn v)), (X0_gnawed (X6_lawn v)), (X0_risen (X6_lawn v)), (X0_fallen (X6_lawn v))) (X6_snapshot v) (X6_trial v) z22_v_savedR z22_v_saved (X6_text v) (X6_survey v) (X6_paths v) (X6_snapshotTaken v) z22_v_savedCount (X6_spareR v))) hC rfl (xS_one (n := 4) (m := 21) rfl rfl rfl) hk1 hFc hP1
      refine lv_iload_n hx hb dX6_set_41 rfl (lv_at hl 0 rfl) ?_
      exact W.iret (v := (X0_fullAir (X6_lawn v))) hx hb hr (fun t ht hW => ⟨⟨(X0_fullAir (X6_lawn v)), ((X0_s8 (X0_s6 (X6_lawn v) z38_v_moles) z38_v_fullAir), z22_v_saved, z22_v_savedCount, z22_v_savedR), rfl, hq, (xAt_of hP hK hD ht hW)⟩, hS.F ht⟩) hS.2.2 dX6_set_42
    · have hq := hqB c1
      exact (hX _ hq).elim
