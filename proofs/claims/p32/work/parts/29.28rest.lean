def wp_X6_rest (v : V_X6) (x1 : Int32) (Q : Int32 → V_X0 → (Nat → V_X0) → Int32 → (Nat → Nat) → Prop) (QX : String → Prop) : Prop :=
  wp_X6_checkMole v x1 (wp_X6_saveState v (fun z6_v_saved z6_v_savedCount z6_v_savedR =>
  vp_in x1 4 ∧ ((X0_molesR (X6_lawn v)) x1.toNatClampNeg) < 4 ∧ Q (X1_planned ((X0_moles (X6_lawn v)) ((X0_molesR (X6_lawn v)) x1.toNatClampNeg))) (X0_s6 (X6_lawn v) (va_up (X0_moles (X6_lawn v)) ((X0_molesR (X6_lawn v)) x1.toNatClampNeg) (X1_s2 ((X0_moles (X6_lawn v)) ((X0_molesR (X6_lawn v)) x1.toNatClampNeg)) 0))) z6_v_saved z6_v_savedCount z6_v_savedR)) QX
def q_X6_rest (dC : Nat → ClassId) (dI : Nat → Nat → Nat) (cy : Nat → ClassId) (a : Nat → Nat) (v : V_X6) (x1 : Int32) (Q : Int32 → V_X0 → (Nat → V_X0) → Int32 → (Nat → Nat) → Prop) (A : Nat → Prop) : Array Value → State → Outcome → State → Prop := va_Qi (fun (r : Int32) (u : V_X0 × (Nat → V_X0) × Int32 × (Nat → Nat)) => Q r u.1 u.2.1 u.2.2.1 u.2.2.2) (fun (u : V_X0 × (Nat → V_X0) × Int32 × (Nat → Nat)) t => xAt dC dI cy A (cX6 cy a u.1 (X6_snapshot v) (X6_trial v) u.2.2.2 u.2.1 (X6_text v) (X6_survey v) (X6_paths v) (X6_snapshotTaken v) u.2.2.1 (X6_spareR v)) t) A
set_option maxHeartbeats 4000000 in
set_option maxRecDepth 100000 in
theorem c_X6_rest (l : Launch) (dC : Nat → ClassId) (dI : Nat → Nat → Nat) (cy : Nat → ClassId) (a : Nat → Nat) (sz : Nat) (v : V_X6) (x1 : Int32) (Q : Int32 → V_X0 → (Nat → V_X0) → Int32 → (Nat → Nat) → Prop) (QX : String → Prop) (hX : ∀ E, ¬ QX E) (hq : wp_X6_rest v x1 Q QX) : Met l yX6_rest wsX6_rest ({ frames := 4, cells := 0, slots := 0, locals := 91 } : Room) (va_Pc [.ref (a 0), .int x1] (xPre dC dI cy (wX6 cy a v) sz)) (q_X6_rest dC dI cy a v x1 Q (va_A (wX6 cy a v) sz)) 0 0 (va_A (wX6 cy a v) sz) := by
  refine Met.ofW (cc := cX6_rest) (maxL := 3) (ret := (some .int)) (by decide) rfl ?_
  intro p e s m args below meth c s₁ B hml hv
  obtain ⟨rfl, hsz, hP, hK, hD0⟩ := hv
  have hx := B.exec
  have hb := B.bytes
  have hr := B.returns
  have hts := atoms_spec (ws := wsX6_rest) B.pre
  have hown : s.vm.findClass RX6 = some m.cls := findClass_of_methodNamed B.named
  have hlocks := B.notSynchronized
  subst hsz
  have hD := hD0.self (sz := s.heap.size)
  generalize hAe : va_A (wX6 cy a v) s.heap.size = A at hD ⊢
  have hAe0 : ∀ q : Nat, s.heap.size ≤ q → A q := fun q h => by rw [← hAe]; exact Or.inr h
  have hS : va_S A s.heap s.heap [] := va_S.rf
  have hl := lv_entry ([.ref (a 0), .int x1]) (n := 3) (Nat.le_of_ble_eq_true rfl)
  rw [lg_entry_eq]
  generalize (lg_sl ([.ref (a 0), .int x1]) ++ List.replicate (3 - (lg_sl ([.ref (a 0), .int x1])).length) Slot.unset).toArray = ls at hl ⊢
  have hl : lv_has ls 3 [(0, .ref (a 0)), (1, .int x1)] := hl
  have lk0 := hts (Cond.fieldLink RX6 15 "MolesLawn" "lawn" "LMolesLawn$Lawn;") (List.mem_cons_of_mem _ (List.mem_append_left _ (List.mem_append_left _ (List.mem_append_left _ (List.mem_append_left _ (List.mem_append_left _ (List.mem_append_left _ (List.mem_of_getElem? (i := 0) rfl))))))))
  have lk1 := hts (Cond.fieldLink RX6 86 "MolesLawn$Lawn" "moles" "[LMolesLawn$Mole;") (List.mem_cons_of_mem _ (List.mem_append_left _ (List.mem_append_left _ (List.mem_append_left _ (List.mem_append_left _ (List.mem_append_left _ (List.mem_append_left _ (List.mem_of_getElem? (i := 1) rfl))))))))
  have lk2 := hts (Cond.fieldLink RX6 90 "MolesLawn$Mole" "planned" "I") (List.mem_cons_of_mem _ (List.mem_append_left _ (List.mem_append_left _ (List.mem_append_left _ (List.mem_append_left _ (List.mem_append_left _ (List.mem_append_left _ (List.mem_of_getElem? (i := 2) rfl))))))))
  have iK0 : ∀ w ∈ wsX00, w ∈ wsX6_rest := fun _ h => (List.mem_cons_of_mem _ (List.mem_append_left _ (List.mem_append_left _ (List.mem_append_left _ (List.mem_append_right _ h)))))
  have iK1 : ∀ w ∈ wsX10, w ∈ wsX6_rest := fun _ h => (List.mem_cons_of_mem _ (List.mem_append_left _ (List.mem_append_left _ (List.mem_append_right _ h))))
  have iK6 : ∀ w ∈ wsX60, w ∈ wsX6_rest := fun _ h => (List.mem_cons_of_mem _ (List.mem_append_left _ (List.mem_append_left _ (List.mem_append_left _ (List.mem_append_left _ (List.mem_append_right _ h))))))
  unfold wp_X6_rest at hq
  refine lv_aload_n hx hb dX6_rest_0 rfl (lv_at hl 0 rfl) ?_
  refine lv_iload_n hx hb dX6_rest_1 rfl (lv_at hl 1 rfl) ?_
  have hFc := xfree_same hS hAe0 (ws := (wX6 cy a v)) hD
  refine va_callv (va_runV (As := [.int x1]) (rest := []) ⟨hx, hb, hml, hown, hts⟩ (c_X6_checkMole l dC dI cy a _ v x1 _ _ hX hq) (cwV 1 hts gX6_rest_X6_checkMole rfl rfl rfl (by decide +kernel) ⟨Nat.le_of_ble_eq_true rfl, Nat.le_of_ble_eq_true rfl⟩) ⟨xPre_blind, va_recv hK hP (ci := 6) (q0 := 0) rfl rfl, xPre_of hP hK hD⟩ rfl rfl hl.1 rfl (lv_room (Nat.le_of_ble_eq_true rfl)) dX6_rest_2 ⟨Nat.le_of_ble_eq_true rfl, Nat.le_of_ble_eq_true rfl⟩) hS (fun q _ h => hFc q h) hFc (fun u9 t H locs ht hvm hq hB hz1 hk1 hS => ?_)
  obtain ⟨hP1, -, hD1⟩ := hB
  rw [ht] at hP1
  have hP : va_P (dC, dI) vwCl (wX6 cy a v) H := hP1
  have hD : va_D A (wX6 cy a v) := hD1.weaken (fun _ q _ h => hFc q.1 h)
  refine lv_aload_n hx hb dX6_rest_5 rfl (lv_at hl 0 rfl) ?_
  have hFc := xfree_same hS hAe0 (ws := (wX6 cy a v)) hD
  refine va_callv (va_runV (As := []) (rest := []) ⟨hx, hb, hml, hown, hts⟩ (c_X6_saveState l dC dI cy a _ v _ hq) (cwV 0 hts gX6_rest_X6_saveState rfl rfl rfl (by decide +kernel) ⟨Nat.le_of_ble_eq_true rfl, Nat.le_of_ble_eq_true rfl⟩) ⟨xPre_blind, va_recv hK hP (ci := 6) (q0 := 0) rfl rfl, xPre_of hP hK hD⟩ rfl rfl hl.1 rfl (lv_room (Nat.le_of_ble_eq_true rfl)) dX6_rest_6 ⟨Nat.le_of_ble_eq_true rfl, Nat.le_of_ble_eq_true rfl⟩) hS (fun q _ h => hFc q h) hFc (fun u9 t H locs ht hvm hq hB hz1 hk1 hS => ?_)
  obtain ⟨z6_v_saved, z6_v_savedCount, z6_v_savedR⟩ := u9
  obtain ⟨hP1, -, hD1⟩ := hB
  rw [ht] at hP1
  have hP : va_P (dC, dI) vwCl (cX6 cy a (X6_lawn v) (X6_snapshot v) (X6_trial v) z6_v_savedR z6_v_saved (X6_text v) (X6_survey v) (X6_paths v) (X6_snapshotTaken v) z6_v_savedCount (X6_spareR v)) H := hP1
  have hD : va_D A (cX6 cy a (X6_lawn v) (X6_snapshot v) (X6_trial v) z6_v_savedR z6_v_saved (X6_text v) (X6_survey v) (X6_paths v) (X6_snapshotTaken v) z6_v_savedCount (X6_spareR v)) := hD1.weaken (fun _ q _ h => hFc q.1 h)
  refine lv_aload_n hx hb dX6_rest_9 rfl (lv_at hl 0 rfl) ?_
  refine va_get (D := (dC, dI)) (ci := 6) (v := .ref (a 4)) (C := RX6) (T := TX6) (N := 9) hx hb hts iK6 hown hK hP 0 rfl rfl 0 (by decide) lk0 (fun _ h9 => h9) rfl dX6_rest_10 ?_
  refine va_get (D := (dC, dI)) (ci := 0) (v := .ref (a 12)) (C := RX0) (T := TX0) (N := 14) hx hb hts iK0 hown hK hP 4 rfl rfl 6 (by decide) lk1 (fun _ h9 => h9) rfl dX6_rest_13 ?_
  refine lv_iload_n hx hb dX6_rest_16 rfl (lv_at hl 1 rfl) ?_
  obtain ⟨g1, hq⟩ := hq
  obtain ⟨g2, hq⟩ := hq
  refine va_aldq hx hb hK hP 12 2 rfl rfl g1 dX6_rest_17 ?_
  refine va_get (D := (dC, dI)) (ci := 1) (v := .int (X1_planned ((X0_moles (X6_lawn v)) ((X0_molesR (X6_lawn v)) x1.toNatClampNeg)))) (C := RX1) (T := TX1) (N := 7) hx hb hts iK1 hown hK hP (13 + 3 * ((X0_molesR (X6_lawn v)) x1.toNatClampNeg)) (co_4 (P := fun i19 => (cX6 cy a (X6_lawn v) (X6_snapshot v) (X6_trial v) z6_v_savedR z6_v_saved (X6_text v) (X6_survey v) (X6_paths v) (X6_snapshotTaken v) z6_v_savedCount (X6_spareR v))[(13 + 3 * i19)]? = (wX1 cy (sh (sh a 4) (9 + 3 * i19)) ((X0_moles (X6_lawn v)) i19))[0]?) rfl rfl rfl rfl g2) rfl 2 (by decide) lk2 (fun _ h9 => h9) rfl dX6_rest_18 ?_
  refine lv_istore_n (lv' := [(2, .int (X1_planned ((X0_moles (X6_lawn v)) ((X0_molesR (X6_lawn v)) x1.toNatClampNeg)))), (0, .ref (a 0)), (1, .int x1)]) hx hb dX6_rest_21 rfl hl (by decide) rfl (fun ls hl => ?_)
  refine lv_aload_n hx hb dX6_rest_22 rfl (lv_at hl 1 rfl) ?_
  refine va_get (D := (dC, dI)) (ci := 6) (v := .ref (a 4)) (C := RX6) (T := TX6) (N := 9) hx hb hts iK6 hown hK hP 0 rfl rfl 0 (by decide) lk0 (fun _ h9 => h9) rfl dX6_rest_23 ?_
  refine va_get (D := (dC, dI)) (ci := 0) (v := .ref (a 12)) (C := RX0) (T := TX0) (N := 14) hx hb hts iK0 hown hK hP 4 rfl rfl 6 (by decide) lk1 (fun _ h9 => h9) rfl dX6_rest_26 ?_
  refine lv_iload_n hx hb dX6_rest_29 rfl (lv_at hl 2 rfl) ?_
  refine va_aldq hx hb hK hP 12 2 rfl rfl g1 dX6_rest_30 ?_
  refine lv_iconst (v := 0) hx hb dX6_rest_31 (by decide) ?_
  refine va_put (D := (dC, dI)) (ci := 1) (v := .int 0) (ty := .int) (C := RX1) (T := TX1) (N := 7) hx hb hts iK1 tyX1 tyX1_ok nmX1 hown hK hP hD hS (13 + 3 * ((X0_molesR (X6_lawn v)) x1.toNatClampNeg)) (co_4 (P := fun i19 => (cX6 cy a (X6_lawn v) (X6_snapshot v) (X6_trial v) z6_v_savedR z6_v_saved (X6_text v) (X6_survey v) (X6_paths v) (X6_snapshotTaken v) z6_v_savedCount (X6_spareR v))[(13 + 3 * i19)]? = (wX1 cy (sh (sh a 4) (9 + 3 * i19)) ((X0_moles (X6_lawn v)) i19))[0]?) rfl rfl rfl rfl g2) rfl 2 (by decide) lk2 (fun _ h9 => h9) rfl (by decide +kernel) rfl rfl (Nat.le_of_ble_eq_true rfl) dX6_rest_32 (fun H locs hP hD hS => ?_)
  have eW := (co_4 (P := fun i19 => (cX6 cy a (X6_lawn v) (X6_snapshot v) (X6_trial v) z6_v_savedR z6_v_saved (X6_text v) (X6_survey v) (X6_paths v) (X6_snapshotTaken v) z6_v_savedCount (X6_spareR v)).set (13 + 3 * i19) ((cX1 cy (sh (sh a 4) (9 + 3 * i19)) (X1_directions ((X0_moles (X6_lawn v)) i19)) (X1_trail ((X0_moles (X6_lawn v)) i19)) 0 (X1_trailLength ((X0_moles (X6_lawn v)) i19)) (X1_air ((X0_moles (X6_lawn v)) i19)) (X1_steps ((X0_moles (X6_lawn v)) i19)) (X1_lost ((X0_moles (X6_lawn v)) i19)))[0]?.getD (0, .inr (0, []))) = (cX6 cy a ((X0_mounds (X6_lawn v)), (X0_opened (X6_lawn v)), (X0_roots (X6_lawn v)), (X0_traps (X6_lawn v)), (X0_tunnels (X6_lawn v)), (X0_molesR (X6_lawn v)), (va_up (X0_moles (X6_lawn v)) i19 ((X1_directions ((X0_moles (X6_lawn v)) i19)), (X1_trail ((X0_moles (X6_lawn v)) i19)), 0, (X1_trailLength ((X0_moles (X6_lawn v)) i19)), (X1_air ((X0_moles (X6_lawn v)) i19)), (X1_steps ((X0_moles (X6_lawn v)) i19)), (X1_lost ((X0_moles (X6_lawn v)) i19)))), (X0_moleCount (X6_lawn v)), (X0_fullAir (X6_lawn v)), (X0_beats (X6_lawn v)), (X0_caught (X6_lawn v)), (X0_gnawed (X6_lawn v)), (X0_risen (X6_lawn v)), (X0_fallen (X6_lawn v))) (X6_snapshot v) (X6_trial v) z6_v_savedR z6_v_saved (X6_text v) (X6_survey v) (X6_paths v) (X6_snapshotTaken v) z6_v_savedCount (X6_spareR v))) rfl rfl rfl rfl g2)
  have hP : va_P (dC, dI) vwCl (cX6 cy a ((X0_mounds (X6_lawn v)), (X0_opened (X6_lawn v)), (X0_roots (X6_lawn v)), (X0_traps (X6_lawn v)), (X0_tunnels (X6_lawn v)), (X0_molesR (X6_lawn v)), (va_up (X0_moles (X6_lawn v)) ((X0_molesR (X6_lawn v)) x1.toNatClampNeg) ((X1_directions ((X0_moles (X6_lawn v)) ((X0_molesR (X6_lawn v)) x1.toNatClampNeg))), (X1_trail ((X0_moles (X6_lawn v)) ((X0_molesR (X6_lawn v)) x1.toNatClampNeg))), 0, (X1_trailLength ((X0_moles (X6_lawn v)) ((X0_molesR (X6_lawn v)) x1.toNatClampNeg))), (X1_air ((X0_moles (X6_lawn v)) ((X0_molesR (X6_lawn v)) x1.toNatClampNeg))), (X1_steps ((X0_moles (X6_lawn v)) ((X0_molesR (X6_lawn v)) x1.toNatClampNeg))), (X1_lost ((X0_moles (X6_lawn v)) ((X0_molesR (X6_lawn v)) x1.toNatClampNeg))))), (X0_moleCount (X6_lawn v)), (X0_fullAir (X6_lawn v)), (X0_beats (X6_lawn v)), (X0_caught (X6_lawn v)), (X0_gnawed (X6_lawn v)), (X0_risen (X6_lawn v)), (X0_fallen (X6_lawn v))) (X6_snapshot v) (X6_trial v) z6_v_savedR z6_v_saved (X6_text v) (X6_survey v) (X6_paths v) (X6_snapshotTaken v) z6_v_savedCount (X6_spareR v)) H := by rw [← eW]; exact hP
  have hD : va_D A (cX6 cy a ((X0_mounds (X6_lawn v)), (X0_opened (X6_lawn v)), (X0_roots (X6_lawn v)), (X0_traps (X6_lawn v)), (X0_tunnels (X6_lawn v)), (X0_molesR (X6_lawn v)), (va_up (X0_moles (X6_lawn v)) ((X0_molesR (X6_lawn v)) x1.toNatClampNeg) ((X1_directions ((X0_moles (X6_lawn v)) ((X0_molesR (X6_lawn v)) x1.toNatClampNeg))), (X1_trail ((X0_moles (X6_lawn v)) ((X0_molesR (X6_lawn v)) x1.toNatClampNeg))), 0, (X1_trailLength ((X0_moles (X6_lawn v)) ((X0_molesR (X6_lawn v)) x1.toNatClampNeg))), (X1_air ((X0_moles (X6_lawn v)) ((X0_molesR (X6_lawn v)) x1.toNatClampNeg))), (X1_steps ((X0_moles (X6_lawn v)) ((X0_molesR (X6_lawn v)) x1.toNatClampNeg))), (X1_lost ((X0_moles (X6_lawn v)) ((X0_molesR (X6_lawn v)) x1.toNatClampNeg))))), (X0_moleCount (X6_lawn v)), (X0_fullAir (X6_lawn v)), (X0_beats (X6_lawn v)), (X0_caught (X6_lawn v)), (X0_gnawed (X6_lawn v)), (X0_risen (X6_lawn v)), (X0_fallen (X6_lawn v))) (X6_snapshot v) (X6_trial v) z6_v_savedR z6_v_saved (X6_text v) (X6_survey v) (X6_paths v) (X6_snapshotTaken v) z6_v_savedCount (X6_spareR v)) := by rw [← eW]; exact hD
  refine lv_iload_n hx hb dX6_rest_35 rfl (lv_at hl 0 rfl) ?_
  exact W.iret (v := (X1_planned ((X0_moles (X6_lawn v)) ((X0_molesR (X6_lawn v)) x1.toNatClampNeg)))) hx hb hr (fun t ht hW => ⟨⟨(X1_planned ((X0_moles (X6_lawn v)) ((X0_molesR (X6_lawn v)) x1.toNatClampNeg))), ((X0_s6 (X6_lawn v) (va_up (X0_moles (X6_lawn v)) ((X0_molesR (X6_lawn v)) x1.toNatClampNeg) (X1_s2 ((X0_moles (X6_lawn v)) ((X0_molesR (X6_lawn v)) x1.toNatClampNeg)) 0))), z6_v_saved, z6_v_savedCount, z6_v_savedR), rfl, hq, (xAt_of hP hK hD ht hW)⟩, hS.F ht⟩) hS.2.2 dX6_rest_36
