def wp_X6_plan (v : V_X6) (x1 : Int32) (x2 : Int32) (Q : Int32 → V_X0 → (Nat → V_X0) → Int32 → (Nat → Nat) → Prop) (QX : String → Prop) : Prop :=
  wp_X6_checkMole v x1 (((x2 < 0 → QX "java/lang/IllegalArgumentException") ∧
  (¬ x2 < 0 → ((x2 ≤ 3 → vp_in x1 4 ∧ ((X0_molesR (X6_lawn v)) x1.toNatClampNeg) < 4 ∧ (((X1_planned ((X0_moles (X6_lawn v)) ((X0_molesR (X6_lawn v)) x1.toNatClampNeg))) < 20 → wp_X6_saveState v (fun z52_v_saved z52_v_savedCount z52_v_savedR =>
  wp_X1_addDirection ((X0_moles (X6_lawn v)) ((X0_molesR (X6_lawn v)) x1.toNatClampNeg)) x2 (fun z65_v_directions z65_v_planned =>
  Q z65_v_planned (X0_s6 (X6_lawn v) (va_up (X0_moles (X6_lawn v)) ((X0_molesR (X6_lawn v)) x1.toNatClampNeg) (X1_s2 (X1_s0 ((X0_moles (X6_lawn v)) ((X0_molesR (X6_lawn v)) x1.toNatClampNeg)) z65_v_directions) z65_v_planned))) z52_v_saved z52_v_savedCount z52_v_savedR))) ∧
  (¬ (X1_planned ((X0_moles (X6_lawn v)) ((X0_molesR (X6_lawn v)) x1.toNatClampNeg))) < 20 → QX "java/lang/IllegalStateException"))) ∧
  (¬ x2 ≤ 3 → QX "java/lang/IllegalArgumentException"))))) QX
def q_X6_plan (dC : Nat → ClassId) (dI : Nat → Nat → Nat) (cy : Nat → ClassId) (a : Nat → Nat) (v : V_X6) (x1 : Int32) (x2 : Int32) (Q : Int32 → V_X0 → (Nat → V_X0) → Int32 → (Nat → Nat) → Prop) (A : Nat → Prop) : Array Value → State → Outcome → State → Prop := va_Qi (fun (r : Int32) (u : V_X0 × (Nat → V_X0) × Int32 × (Nat → Nat)) => Q r u.1 u.2.1 u.2.2.1 u.2.2.2) (fun (u : V_X0 × (Nat → V_X0) × Int32 × (Nat → Nat)) t => xAt dC dI cy A (cX6 cy a u.1 (X6_snapshot v) (X6_trial v) u.2.2.2 u.2.1 (X6_text v) (X6_survey v) (X6_paths v) (X6_snapshotTaken v) u.2.2.1 (X6_spareR v)) t) A
set_option maxHeartbeats 4000000 in
set_option maxRecDepth 100000 in
theorem c_X6_plan (l : Launch) (dC : Nat → ClassId) (dI : Nat → Nat → Nat) (cy : Nat → ClassId) (a : Nat → Nat) (sz : Nat) (v : V_X6) (x1 : Int32) (x2 : Int32) (Q : Int32 → V_X0 → (Nat → V_X0) → Int32 → (Nat → Nat) → Prop) (QX : String → Prop) (hX : ∀ E, ¬ QX E) (hq : wp_X6_plan v x1 x2 Q QX) : Met l yX6_plan wsX6_plan ({ frames := 4, cells := 0, slots := 0, locals := 91 } : Room) (va_Pc [.ref (a 0), .int x1, .int x2] (xPre dC dI cy (wX6 cy a v) sz)) (q_X6_plan dC dI cy a v x1 x2 Q (va_A (wX6 cy a v) sz)) 0 0 (va_A (wX6 cy a v) sz) := by
  refine Met.ofW (cc := cX6_plan) (maxL := 3) (ret := (some .int)) (by decide) rfl ?_
  intro p e s m args below meth c s₁ B hml hv
  obtain ⟨rfl, hsz, hP, hK, hD0⟩ := hv
  have hx := B.exec
  have hb := B.bytes
  have hr := B.returns
  have hts := atoms_spec (ws := wsX6_plan) B.pre
  have hown : s.vm.findClass RX6 = some m.cls := findClass_of_methodNamed B.named
  have hlocks := B.notSynchronized
  subst hsz
  have hD := hD0.self (sz := s.heap.size)
  generalize hAe : va_A (wX6 cy a v) s.heap.size = A at hD ⊢
  have hAe0 : ∀ q : Nat, s.heap.size ≤ q → A q := fun q h => by rw [← hAe]; exact Or.inr h
  have hS : va_S A s.heap s.heap [] := va_S.rf
  have hl := lv_entry ([.ref (a 0), .int x1, .int x2]) (n := 3) (Nat.le_of_ble_eq_true rfl)
  rw [lg_entry_eq]
  generalize (lg_sl ([.ref (a 0), .int x1, .int x2]) ++ List.replicate (3 - (lg_sl ([.ref (a 0), .int x1, .int x2])).length) Slot.unset).toArray = ls at hl ⊢
  have hl : lv_has ls 3 [(0, .ref (a 0)), (1, .int x1), (2, .int x2)] := hl
  have lk0 := hts (Cond.fieldLink RX6 15 "MolesLawn" "lawn" "LMolesLawn$Lawn;") (List.mem_cons_of_mem _ (List.mem_append_left _ (List.mem_append_left _ (List.mem_append_left _ (List.mem_append_left _ (List.mem_append_left _ (List.mem_append_left _ (List.mem_append_left _ (List.mem_append_left _ (List.mem_of_getElem? (i := 4) rfl))))))))))
  have lk1 := hts (Cond.fieldLink RX6 86 "MolesLawn$Lawn" "moles" "[LMolesLawn$Mole;") (List.mem_cons_of_mem _ (List.mem_append_left _ (List.mem_append_left _ (List.mem_append_left _ (List.mem_append_left _ (List.mem_append_left _ (List.mem_append_left _ (List.mem_append_left _ (List.mem_append_left _ (List.mem_of_getElem? (i := 5) rfl))))))))))
  have lk2 := hts (Cond.fieldLink RX6 90 "MolesLawn$Mole" "planned" "I") (List.mem_cons_of_mem _ (List.mem_append_left _ (List.mem_append_left _ (List.mem_append_left _ (List.mem_append_left _ (List.mem_append_left _ (List.mem_append_left _ (List.mem_append_left _ (List.mem_append_left _ (List.mem_of_getElem? (i := 6) rfl))))))))))
  have iK0 : ∀ w ∈ wsX00, w ∈ wsX6_plan := fun _ h => (List.mem_cons_of_mem _ (List.mem_append_left _ (List.mem_append_left _ (List.mem_append_left _ (List.mem_append_left _ (List.mem_append_left _ (List.mem_append_right _ h)))))))
  have iK1 : ∀ w ∈ wsX10, w ∈ wsX6_plan := fun _ h => (List.mem_cons_of_mem _ (List.mem_append_left _ (List.mem_append_left _ (List.mem_append_left _ (List.mem_append_left _ (List.mem_append_right _ h))))))
  have iK6 : ∀ w ∈ wsX60, w ∈ wsX6_plan := fun _ h => (List.mem_cons_of_mem _ (List.mem_append_left _ (List.mem_append_left _ (List.mem_append_left _ (List.mem_append_left _ (List.mem_append_left _ (List.mem_append_left _ (List.mem_append_right _ h))))))))
  unfold wp_X6_plan at hq
  refine lv_aload_n hx hb dX6_plan_0 rfl (lv_at hl 0 rfl) ?_
  refine lv_iload_n hx hb dX6_plan_1 rfl (lv_at hl 1 rfl) ?_
  have hFc := xfree_same hS hAe0 (ws := (wX6 cy a v)) hD
  refine va_callv (va_runV (As := [.int x1]) (rest := []) ⟨hx, hb, hml, hown, hts⟩ (c_X6_checkMole l dC dI cy a _ v x1 _ _ hX hq) (cwV 1 hts gX6_plan_X6_checkMole rfl rfl rfl (by decide +kernel) ⟨Nat.le_of_ble_eq_true rfl, Nat.le_of_ble_eq_true rfl⟩) ⟨xPre_blind, va_recv hK hP (ci := 6) (q0 := 0) rfl rfl, xPre_of hP hK hD⟩ rfl rfl hl.1 rfl (lv_room (Nat.le_of_ble_eq_true rfl)) dX6_plan_2 ⟨Nat.le_of_ble_eq_true rfl, Nat.le_of_ble_eq_true rfl⟩) hS (fun q _ h => hFc q h) hFc (fun u9 t H locs ht hvm hq hB hz1 hk1 hS => ?_)
  obtain ⟨hP1, -, hD1⟩ := hB
  rw [ht] at hP1
  have hP : va_P (dC, dI) vwCl (wX6 cy a v) H := hP1
  have hD : va_D A (wX6 cy a v) := hD1.weaken (fun _ q _ h => hFc q.1 h)
  refine lv_iload_n hx hb dX6_plan_5 rfl (lv_at hl 2 rfl) ?_
  obtain ⟨hqA, hqB⟩ := hq
  refine lv_if_lt (tgt := 14) hx hb dX6_plan_6 (by decide) (fun c5 => ?_) (fun c5 => ?_)
  · have hq := hqA c5
    exact (hX _ hq).elim
  · have hq := hqB c5
    refine lv_iload_n hx hb dX6_plan_9 rfl (lv_at hl 2 rfl) ?_
    refine lv_iconst (v := 3) hx hb dX6_plan_10 (by decide) ?_
    obtain ⟨hqA, hqB⟩ := hq
    refine lv_icmp_le (tgt := 24) hx hb dX6_plan_11 (by decide) (fun c4 => ?_) (fun c4 => ?_)
    · have hq := hqA c4
      refine lv_aload_n hx hb dX6_plan_24 rfl (lv_at hl 0 rfl) ?_
      refine va_get (D := (dC, dI)) (ci := 6) (v := .ref (a 4)) (C := RX6) (T := TX6) (N := 9) hx hb hts iK6 hown hK hP 0 rfl rfl 0 (by decide) lk0 (fun _ h9 => h9) rfl dX6_plan_25 ?_
      refine va_get (D := (dC, dI)) (ci := 0) (v := .ref (a 12)) (C := RX0) (T := TX0) (N := 14) hx hb hts iK0 hown hK hP 4 rfl rfl 6 (by decide) lk1 (fun _ h9 => h9) rfl dX6_plan_28 ?_
      refine lv_iload_n hx hb dX6_plan_31 rfl (lv_at hl 1 rfl) ?_
      obtain ⟨g1, hq⟩ := hq
      obtain ⟨g2, hq⟩ := hq
      refine va_aldq hx hb hK hP 12 2 rfl rfl g1 dX6_plan_32 ?_
      refine va_get (D := (dC, dI)) (ci := 1) (v := .int (X1_planned ((X0_moles (X6_lawn v)) ((X0_molesR (X6_lawn v)) x1.toNatClampNeg)))) (C := RX1) (T := TX1) (N := 7) hx hb hts iK1 hown hK hP (13 + 3 * ((X0_molesR (X6_lawn v)) x1.toNatClampNeg)) (co_4 (P := fun i19 => (wX6 cy a v)[(13 + 3 * i19)]? = (wX1 cy (sh (sh a 4) (9 + 3 * i19)) ((X0_moles (X6_lawn v)) i19))[0]?) rfl rfl rfl rfl g2) rfl 2 (by decide) lk2 (fun _ h9 => h9) rfl dX6_plan_33 ?_
      refine lv_bipush (v := 20) hx hb dX6_plan_36 (by decide) ?_
      obtain ⟨hqA, hqB⟩ := hq
      refine lv_icmp_lt (tgt := 51) hx hb dX6_plan_38 (by decide) (fun c3 => ?_) (fun c3 => ?_)
      · have hq := hqA c3
        refine lv_aload_n hx hb dX6_plan_51 rfl (lv_at hl 0 rfl) ?_
        have hFc := xfree_same hS hAe0 (ws := (wX6 cy a v)) hD
        refine va_callv (va_runV (As := []) (rest := []) ⟨hx, hb, hml, hown, hts⟩ (c_X6_saveState l dC dI cy a _ v _ hq) (cwV 0 hts gX6_plan_X6_saveState rfl rfl rfl (by decide +kernel) ⟨Nat.le_of_ble_eq_true rfl, Nat.le_of_ble_eq_true rfl⟩) ⟨xPre_blind, va_recv hK hP (ci := 6) (q0 := 0) rfl rfl, xPre_of hP hK hD⟩ rfl rfl hl.1 rfl (lv_room (Nat.le_of_ble_eq_true rfl)) dX6_plan_52 ⟨Nat.le_of_ble_eq_true rfl, Nat.le_of_ble_eq_true rfl⟩) hS (fun q _ h => hFc q h) hFc (fun u9 t H locs ht hvm hq hB hz1 hk1 hS => ?_)
        obtain ⟨z52_v_saved, z52_v_savedCount, z52_v_savedR⟩ := u9
        obtain ⟨hP1, -, hD1⟩ := hB
        rw [ht] at hP1
        have hP : va_P (dC, dI) vwCl (cX6 cy a (X6_lawn v) (X6_snapshot v) (X6_trial v) z52_v_savedR z52_v_saved (X6_text v) (X6_survey v) (X6_paths v) (X6_snapshotTaken v) z52_v_savedCount (X6_spareR v)) H := hP1
        have hD : va_D A (cX6 cy a (X6_lawn v) (X6_snapshot v) (X6_trial v) z52_v_savedR z52_v_saved (X6_text v) (X6_survey v) (X6_paths v) (X6_snapshotTaken v) z52_v_savedCount (X6_spareR v)) := hD1.weaken (fun _ q _ h => hFc q.1 h)
        refine lv_aload_n hx hb dX6_plan_55 rfl (lv_at hl 0 rfl) ?_
        refine va_get (D := (dC, dI)) (ci := 6) (v := .ref (a 4)) (C := RX6) (T := TX6) (N := 9) hx hb hts iK6 hown hK hP 0 rfl rfl 0 (by decide) lk0 (fun _ h9 => h9) rfl dX6_plan_56 ?_
        refine va_get (D := (dC, dI)) (ci := 0) (v := .ref (a 12)) (C := RX0) (T := TX0) (N := 14) hx hb hts iK0 hown hK hP 4 rfl rfl 6 (by decide) lk1 (fun _ h9 => h9) rfl dX6_plan_59 ?_
        refine lv_iload_n hx hb dX6_plan_62 rfl (lv_at hl 1 rfl) ?_
        refine va_aldq hx hb hK hP 12 2 rfl rfl g1 dX6_plan_63 ?_
        refine lv_iload_n hx hb dX6_plan_64 rfl (lv_at hl 2 rfl) ?_
        have hC : (([(13 + 3 * ((X0_molesR (X6_lawn v)) x1.toNatClampNeg)), (14 + 3 * ((X0_molesR (X6_lawn v)) x1.toNatClampNeg)), (15 + 3 * ((X0_molesR (X6_lawn v)) x1.toNatClampNeg))] : List Nat).map (fun i => (cX6 cy a (X6_lawn v) (X6_snapshot v) (X6_trial v) z52_v_savedR z52_v_saved (X6_text v) (X6_survey v) (X6_paths v) (X6_snapshotTaken v) z52_v_savedCount (X6_spareR v))[i]?)) = (wX1 cy (sh (sh a 4) (9 + 3 * ((X0_molesR (X6_lawn v)) x1.toNatClampNeg))) ((X0_moles (X6_lawn v)) ((X0_molesR (X6_lawn v)) x1.toNatClampNeg))).map some := (co_4 (P := fun i19 => (([(13 + 3 * i19), (14 + 3 * i19), (15 + 3 * i19)] : List Nat).map (fun i => (cX6 cy a (X6_lawn v) (X6_snapshot v) (X6_trial v) z52_v_savedR z52_v_saved (X6_text v) (X6_survey v) (X6_paths v) (X6_snapshotTaken v) z52_v_savedCount (X6_spareR v))[i]?)) = (wX1 cy (sh (sh a 4) (9 + 3 * i19)) ((X0_moles (X6_lawn v)) i19)).map some) rfl rfl rfl rfl g2)
        have hN : va_nd [(13 + 3 * ((X0_molesR (X6_lawn v)) x1.toNatClampNeg)), (14 + 3 * ((X0_molesR (X6_lawn v)) x1.toNatClampNeg)), (15 + 3 * ((X0_molesR (X6_lawn v)) x1.toNatClampNeg))] = true := (co_4 (P := fun i19 => va_nd [(13 + 3 * i19), (14 + 3 * i19), (15 + 3 * i19)] = true) rfl rfl rfl rfl g2)
        have hPc := xsubP hP hC
        have hDc := xsubD hD hN hC
        have hFc := va_free (wc := (wX1 cy (sh (sh a 4) (9 + 3 * ((X0_molesR (X6_lawn v)) x1.toNatClampNeg))) ((X0_moles (X6_lawn v)) ((X0_molesR (X6_lawn v)) x1.toNatClampNeg)))) hD hS hAe0 [(13 + 3 * ((X0_molesR (X6_lawn v)) x1.toNatClampNeg)), (14 + 3 * ((X0_molesR (X6_lawn v)) x1.toNatClampNeg)), (15 + 3 * ((X0_molesR (X6_lawn v)) x1.toNatClampNeg))] hC
        refine va_callv (va_runV (As := [.int x2]) (rest := []) ⟨hx, hb, hml, hown, hts⟩ (c_X1_addDirection l dC dI cy (sh (sh a 4) (9 + 3 * ((X0_molesR (X6_lawn v)) x1.toNatClampNeg))) _ ((X0_moles (X6_lawn v)) ((X0_molesR (X6_lawn v)) x1.toNatClampNeg)) x2 _ hq) (cwV 1 hts gX6_plan_X1_addDirection rfl rfl rfl (by decide +kernel) ⟨Nat.le_of_ble_eq_true rfl, Nat.le_of_ble_eq_true rfl⟩) ⟨xPre_blind, va_recv hK hP (ci := 1) (q0 := (13 + 3 * ((X0_molesR (X6_lawn v)) x1.toNatClampNeg))) rfl (co_4 (P := fun i19 => (cX6 cy a (X6_lawn v) (X6_snapshot v) (X6_trial v) z52_v_savedR z52_v_saved (X6_text v) (X6_survey v) (X6_paths v) (X6_snapshotTaken v) z52_v_savedCount (X6_spareR v))[(13 + 3 * i19)]? = (wX1 cy (sh (sh a 4) (9 + 3 * i19)) ((X0_moles (X6_lawn v)) i19))[0]?) rfl rfl rfl rfl g2), xPre_of hPc hK hDc⟩ rfl rfl hl.1 rfl (lv_room (Nat.le_of_ble_eq_true rfl)) dX6_plan_65 ⟨Nat.le_of_ble_eq_true rfl, Nat.le_of_ble_eq_true rfl⟩) hS (fun q _ h => hFc q h) hFc (fun u9 t H locs ht hvm hq hB hz1 hk1 hS => ?_)
        obtain ⟨z65_v_directions, z65_v_planned⟩ := u9
        obtain ⟨hP1, -, hD1⟩ := hB
        rw [ht] at hP1
        obtain ⟨hP, hD⟩ := xj hP hD [(13 + 3 * ((X0_molesR (X6_lawn v)) x1.toNatClampNeg)), (14 + 3 * ((X0_molesR (X6_lawn v)) x1.toNatClampNeg)), (15 + 3 * ((X0_molesR (X6_lawn v)) x1.toNatClampNeg))] (cX1 cy (sh (sh a 4) (9 + 3 * ((X0_molesR (X6_lawn v)) x1.toNatClampNeg))) z65_v_directions (X1_trail ((X0_moles (X6_lawn v)) ((X0_molesR (X6_lawn v)) x1.toNatClampNeg))) z65_v_planned (X1_trailLength ((X0_moles (X6_lawn v)) ((X0_molesR (X6_lawn v)) x1.toNatClampNeg))) (X1_air ((X0_moles (X6_lawn v)) ((X0_molesR (X6_lawn v)) x1.toNatClampNeg))) (X1_steps ((X0_moles (X6_lawn v)) ((X0_molesR (X6_lawn v)) x1.toNatClampNeg))) (X1_lost ((X0_moles (X6_lawn v)) ((X0_molesR (X6_lawn v)) x1.toNatClampNeg)))) (ws' := (cX6 cy a ((X0_mounds (X6_lawn v)), (X0_opened (X6_lawn v)), (X0_roots (X6_lawn v)), (X0_traps (X6_lawn v)), (X0_tunnels (X6_lawn v)), (X0_molesR (X6_lawn v)), (va_up (X0_moles (X6_lawn v)) ((X0_molesR (X6_lawn v)) x1.toNatClampNeg) (z65_v_directions, (X1_trail ((X0_moles (X6_lawn v)) ((X0_molesR (X6_lawn v)) x1.toNatClampNeg))), z65_v_planned, (X1_trailLength ((X0_moles (X6_lawn v)) ((X0_molesR (X6_lawn v)) x1.toNatClampNeg))), (X1_air ((X0_moles (X6_lawn v)) ((X0_molesR (X6_lawn v)) x1.toNatClampNeg))), (X1_steps ((X0_moles (X6_lawn v)) ((X0_molesR (X6_lawn v)) x1.toNatClampNeg))), (X1_lost ((X0_moles (X6_lawn v)) ((X0_molesR (X6_lawn v)) x1.toNatClampNeg))))), (X0_moleCount (X6_lawn v)), (X0_fullAir (X6_lawn v)), (X0_beats (X6_lawn v)), (X0_caught (X6_lawn v)), (X0_gnawed (X6_lawn v)), (X0_risen (X6_lawn v)), (X0_fallen (X6_lawn v))) (X6_snapshot v) (X6_trial v) z52_v_savedR z52_v_saved (X6_text v) (X6_survey v) (X6_paths v) (X6_snapshotTaken v) z52_v_savedCount (X6_spareR v))) hC rfl (co_4 (P := fun i19 => xput (cX6 cy a (X6_lawn v) (X6_snapshot v) (X6_trial v) z52_v_savedR z52_v_saved (X6_text v) (X6_survey v) (X6_paths v) (X6_snapshotTaken v) z52_v_savedCount (X6_spareR v)) [(13 + 3 * i19), (14 + 3 * i19), (15 + 3 * i19)] (cX1 cy (sh (sh a 4) (9 + 3 * i19)) z65_v_directions (X1_trail ((X0_moles (X6_lawn v)) i19)) z65_v_planned (X1_trailLength ((X0_moles (X6_lawn v)) i19)) (X1_air ((X0_moles (X6_lawn v)) i19)) (X1_steps ((X0_moles (X6_lawn v)) i19)) (X1_lost ((X0_moles (X6_lawn v)) i19))) = (cX6 cy a ((X0_mounds (X6_lawn v)), (X0_opened (X6_lawn v)), (X0_roots (X6_lawn v)), (X0_traps (X6_lawn v)), (X0_tunnels (X6_lawn v)), (X0_molesR (X6_lawn v)), (va_up (X0_moles (X6_lawn v)) i19 (z65_v_directions, (X1_trail ((X0_moles (X6_lawn v)) i19)), z65_v_planned, (X1_trailLength ((X0_moles (X6_lawn v)) i19)), (X1_air ((X0_moles (X6_lawn v)) i19)), (X1_steps ((X0_moles (X6_lawn v)) i19)), (X1_lost ((X0_moles (X6_lawn v)) i19)))), (X0_moleCount (X6_lawn v)), (X0_fullAir (X6_lawn v)), (X0_beats (X6_lawn v)), (X0_caught (X6_lawn v)), (X0_gnawed (X6_lawn v)), (X0_risen (X6_lawn v)), (X0_fallen (X6_lawn v))) (X6_snapshot v) (X6_trial v) z52_v_savedR z52_v_saved (X6_text v) (X6_survey v) (X6_paths v) (X6_snapshotTaken v) z52_v_savedCount (X6_spareR v))) rfl rfl rfl rfl g2) hk1 hFc hP1
        refine lv_aload_n hx hb dX6_plan_68 rfl (lv_at hl 0 rfl) ?_
        refine va_get (D := (dC, dI)) (ci := 6) (v := .ref (a 4)) (C := RX6) (T := TX6) (N := 9) hx hb hts iK6 hown hK hP 0 rfl rfl 0 (by decide) lk0 (fun _ h9 => h9) rfl dX6_plan_69 ?_
        refine va_get (D := (dC, dI)) (ci := 0) (v := .ref (a 12)) (C := RX0) (T := TX0) (N := 14) hx hb hts iK0 hown hK hP 4 rfl rfl 6 (by decide) lk1 (fun _ h9 => h9) rfl dX6_plan_72 ?_
        refine lv_iload_n hx hb dX6_plan_75 rfl (lv_at hl 1 rfl) ?_
        refine va_aldq hx hb hK hP 12 2 rfl rfl g1 dX6_plan_76 ?_
        refine va_get (D := (dC, dI)) (ci := 1) (v := .int z65_v_planned) (C := RX1) (T := TX1) (N := 7) hx hb hts iK1 hown hK hP (13 + 3 * ((X0_molesR (X6_lawn v)) x1.toNatClampNeg)) ((co_4 (P := fun i19 => (cX6 cy a ((X0_mounds (X6_lawn v)), (X0_opened (X6_lawn v)), (X0_roots (X6_lawn v)), (X0_traps (X6_lawn v)), (X0_tunnels (X6_lawn v)), (X0_molesR (X6_lawn v)), (va_up (X0_moles (X6_lawn v)) i19 (z65_v_directions, (X1_trail ((X0_moles (X6_lawn v)) i19)), z65_v_planned, (X1_trailLength ((X0_moles (X6_lawn v)) i19)), (X1_air ((X0_moles (X6_lawn v)) i19)), (X1_steps ((X0_moles (X6_lawn v)) i19)), (X1_lost ((X0_moles (X6_lawn v)) i19)))), (X0_moleCount (X6_lawn v)), (X0_fullAir (X6_lawn v)), (X0_beats (X6_lawn v)), (X0_caught (X6_lawn v)), (X0_gnawed (X6_lawn v)), (X0_risen (X6_lawn v)), (X0_fallen (X6_lawn v))) (X6_snapshot v) (X6_trial v) z52_v_savedR z52_v_saved (X6_text v) (X6_survey v) (X6_paths v) (X6_snapshotTaken v) z52_v_savedCount (X6_spareR v))[(13 + 3 * i19)]? = (wX1 cy (sh (sh a 4) (9 + 3 * i19)) ((va_up (X0_moles (X6_lawn v)) i19 (z65_v_directions, (X1_trail ((X0_moles (X6_lawn v)) i19)), z65_v_planned, (X1_trailLength ((X0_moles (X6_lawn v)) i19)), (X1_air ((X0_moles (X6_lawn v)) i19)), (X1_steps ((X0_moles (X6_lawn v)) i19)), (X1_lost ((X0_moles (X6_lawn v)) i19)))) i19))[0]?) rfl rfl rfl rfl g2).trans (congrArg (fun (q : V_X1) => (wX1 cy (sh (sh a 4) (9 + 3 * ((X0_molesR (X6_lawn v)) x1.toNatClampNeg))) q)[0]?) (va_up_self _ _ _))) rfl 2 (by decide) lk2 (fun _ h9 => h9) rfl dX6_plan_77 ?_
        exact W.iret (v := z65_v_planned) hx hb hr (fun t ht hW => ⟨⟨z65_v_planned, ((X0_s6 (X6_lawn v) (va_up (X0_moles (X6_lawn v)) ((X0_molesR (X6_lawn v)) x1.toNatClampNeg) (X1_s2 (X1_s0 ((X0_moles (X6_lawn v)) ((X0_molesR (X6_lawn v)) x1.toNatClampNeg)) z65_v_directions) z65_v_planned))), z52_v_saved, z52_v_savedCount, z52_v_savedR), rfl, hq, (xAt_of hP hK hD ht hW)⟩, hS.F ht⟩) hS.2.2 dX6_plan_80
      · have hq := hqB c3
        exact (hX _ hq).elim
    · have hq := hqB c4
      exact (hX _ hq).elim
