def wp_X6_root (v : V_X6) (x1 : Int32) (x2 : Int32) (Q : Int32 → V_X0 → (Nat → V_X0) → Int32 → (Nat → Nat) → Prop) (QX : String → Prop) : Prop :=
  wp_X6_checkTuft v x1 (((x2 < 0 → QX "java/lang/IllegalArgumentException") ∧
  (¬ x2 < 0 → ((x2 ≤ 9 → wp_X6_saveState v (fun z26_v_saved z26_v_savedCount z26_v_savedR =>
  vp_in x1 64 ∧ Q ((X0_roots (X6_lawn v)) x1.toNatClampNeg) (X0_s2 (X6_lawn v) (upd (X0_roots (X6_lawn v)) x1.toNatClampNeg x2)) z26_v_saved z26_v_savedCount z26_v_savedR)) ∧
  (¬ x2 ≤ 9 → QX "java/lang/IllegalArgumentException"))))) QX
def q_X6_root (dC : Nat → ClassId) (dI : Nat → Nat → Nat) (cy : Nat → ClassId) (a : Nat → Nat) (v : V_X6) (x1 : Int32) (x2 : Int32) (Q : Int32 → V_X0 → (Nat → V_X0) → Int32 → (Nat → Nat) → Prop) (A : Nat → Prop) : Array Value → State → Outcome → State → Prop := va_Qi (fun (r : Int32) (u : V_X0 × (Nat → V_X0) × Int32 × (Nat → Nat)) => Q r u.1 u.2.1 u.2.2.1 u.2.2.2) (fun (u : V_X0 × (Nat → V_X0) × Int32 × (Nat → Nat)) t => xAt dC dI cy A (cX6 cy a u.1 (X6_snapshot v) (X6_trial v) u.2.2.2 u.2.1 (X6_text v) (X6_survey v) (X6_paths v) (X6_snapshotTaken v) u.2.2.1 (X6_spareR v)) t) A
set_option maxHeartbeats 4000000 in
set_option maxRecDepth 100000 in
theorem c_X6_root (l : Launch) (dC : Nat → ClassId) (dI : Nat → Nat → Nat) (cy : Nat → ClassId) (a : Nat → Nat) (sz : Nat) (v : V_X6) (x1 : Int32) (x2 : Int32) (Q : Int32 → V_X0 → (Nat → V_X0) → Int32 → (Nat → Nat) → Prop) (QX : String → Prop) (hX : ∀ E, ¬ QX E) (hq : wp_X6_root v x1 x2 Q QX) : Met l yX6_root wsX6_root ({ frames := 4, cells := 0, slots := 0, locals := 91 } : Room) (va_Pc [.ref (a 0), .int x1, .int x2] (xPre dC dI cy (wX6 cy a v) sz)) (q_X6_root dC dI cy a v x1 x2 Q (va_A (wX6 cy a v) sz)) 0 0 (va_A (wX6 cy a v) sz) := by
  refine Met.ofW (cc := cX6_root) (maxL := 4) (ret := (some .int)) (by decide) rfl ?_
  intro p e s m args below meth c s₁ B hml hv
  obtain ⟨rfl, hsz, hP, hK, hD0⟩ := hv
  have hx := B.exec
  have hb := B.bytes
  have hr := B.returns
  have hts := atoms_spec (ws := wsX6_root) B.pre
  have hown : s.vm.findClass RX6 = some m.cls := findClass_of_methodNamed B.named
  have hlocks := B.notSynchronized
  subst hsz
  have hD := hD0.self (sz := s.heap.size)
  generalize hAe : va_A (wX6 cy a v) s.heap.size = A at hD ⊢
  have hAe0 : ∀ q : Nat, s.heap.size ≤ q → A q := fun q h => by rw [← hAe]; exact Or.inr h
  have hS : va_S A s.heap s.heap [] := va_S.rf
  have hl := lv_entry ([.ref (a 0), .int x1, .int x2]) (n := 4) (Nat.le_of_ble_eq_true rfl)
  rw [lg_entry_eq]
  generalize (lg_sl ([.ref (a 0), .int x1, .int x2]) ++ List.replicate (4 - (lg_sl ([.ref (a 0), .int x1, .int x2])).length) Slot.unset).toArray = ls at hl ⊢
  have hl : lv_has ls 4 [(0, .ref (a 0)), (1, .int x1), (2, .int x2)] := hl
  have lk0 := hts (Cond.fieldLink RX6 15 "MolesLawn" "lawn" "LMolesLawn$Lawn;") (List.mem_cons_of_mem _ (List.mem_append_left _ (List.mem_append_left _ (List.mem_append_left _ (List.mem_append_left _ (List.mem_append_left _ (List.mem_append_left _ (List.mem_append_left _ (List.mem_of_getElem? (i := 2) rfl)))))))))
  have lk1 := hts (Cond.fieldLink RX6 60 "MolesLawn$Lawn" "roots" "[I") (List.mem_cons_of_mem _ (List.mem_append_left _ (List.mem_append_left _ (List.mem_append_left _ (List.mem_append_left _ (List.mem_append_left _ (List.mem_append_left _ (List.mem_append_left _ (List.mem_of_getElem? (i := 3) rfl)))))))))
  have iK0 : ∀ w ∈ wsX00, w ∈ wsX6_root := fun _ h => (List.mem_cons_of_mem _ (List.mem_append_left _ (List.mem_append_left _ (List.mem_append_left _ (List.mem_append_left _ (List.mem_append_right _ h))))))
  have iK6 : ∀ w ∈ wsX60, w ∈ wsX6_root := fun _ h => (List.mem_cons_of_mem _ (List.mem_append_left _ (List.mem_append_left _ (List.mem_append_left _ (List.mem_append_left _ (List.mem_append_left _ (List.mem_append_right _ h)))))))
  unfold wp_X6_root at hq
  refine lv_aload_n hx hb dX6_root_0 rfl (lv_at hl 0 rfl) ?_
  refine lv_iload_n hx hb dX6_root_1 rfl (lv_at hl 1 rfl) ?_
  have hFc := xfree_same hS hAe0 (ws := (wX6 cy a v)) hD
  refine va_callv (va_runV (As := [.int x1]) (rest := []) ⟨hx, hb, hml, hown, hts⟩ (c_X6_checkTuft l dC dI cy a _ v x1 _ _ hX hq) (cwV 1 hts gX6_root_X6_checkTuft rfl rfl rfl (by decide +kernel) ⟨Nat.le_of_ble_eq_true rfl, Nat.le_of_ble_eq_true rfl⟩) ⟨xPre_blind, va_recv hK hP (ci := 6) (q0 := 0) rfl rfl, xPre_of hP hK hD⟩ rfl rfl hl.1 rfl (lv_room (Nat.le_of_ble_eq_true rfl)) dX6_root_2 ⟨Nat.le_of_ble_eq_true rfl, Nat.le_of_ble_eq_true rfl⟩) hS (fun q _ h => hFc q h) hFc (fun u9 t H locs ht hvm hq hB hz1 hk1 hS => ?_)
  obtain ⟨hP1, -, hD1⟩ := hB
  rw [ht] at hP1
  have hP : va_P (dC, dI) vwCl (wX6 cy a v) H := hP1
  have hD : va_D A (wX6 cy a v) := hD1.weaken (fun _ q _ h => hFc q.1 h)
  refine lv_iload_n hx hb dX6_root_5 rfl (lv_at hl 2 rfl) ?_
  obtain ⟨hqA, hqB⟩ := hq
  refine lv_if_lt (tgt := 15) hx hb dX6_root_6 (by decide) (fun c3 => ?_) (fun c3 => ?_)
  · have hq := hqA c3
    exact (hX _ hq).elim
  · have hq := hqB c3
    refine lv_iload_n hx hb dX6_root_9 rfl (lv_at hl 2 rfl) ?_
    refine lv_bipush (v := 9) hx hb dX6_root_10 (by decide) ?_
    obtain ⟨hqA, hqB⟩ := hq
    refine lv_icmp_le (tgt := 25) hx hb dX6_root_12 (by decide) (fun c2 => ?_) (fun c2 => ?_)
    · have hq := hqA c2
      refine lv_aload_n hx hb dX6_root_25 rfl (lv_at hl 0 rfl) ?_
      have hFc := xfree_same hS hAe0 (ws := (wX6 cy a v)) hD
      refine va_callv (va_runV (As := []) (rest := []) ⟨hx, hb, hml, hown, hts⟩ (c_X6_saveState l dC dI cy a _ v _ hq) (cwV 0 hts gX6_root_X6_saveState rfl rfl rfl (by decide +kernel) ⟨Nat.le_of_ble_eq_true rfl, Nat.le_of_ble_eq_true rfl⟩) ⟨xPre_blind, va_recv hK hP (ci := 6) (q0 := 0) rfl rfl, xPre_of hP hK hD⟩ rfl rfl hl.1 rfl (lv_room (Nat.le_of_ble_eq_true rfl)) dX6_root_26 ⟨Nat.le_of_ble_eq_true rfl, Nat.le_of_ble_eq_true rfl⟩) hS (fun q _ h => hFc q h) hFc (fun u9 t H locs ht hvm hq hB hz1 hk1 hS => ?_)
      obtain ⟨z26_v_saved, z26_v_savedCount, z26_v_savedR⟩ := u9
      obtain ⟨hP1, -, hD1⟩ := hB
      rw [ht] at hP1
      have hP : va_P (dC, dI) vwCl (cX6 cy a (X6_lawn v) (X6_snapshot v) (X6_trial v) z26_v_savedR z26_v_saved (X6_text v) (X6_survey v) (X6_paths v) (X6_snapshotTaken v) z26_v_savedCount (X6_spareR v)) H := hP1
      have hD : va_D A (cX6 cy a (X6_lawn v) (X6_snapshot v) (X6_trial v) z26_v_savedR z26_v_saved (X6_text v) (X6_survey v) (X6_paths v) (X6_snapshotTaken v) z26_v_savedCount (X6_spareR v)) := hD1.weaken (fun _ q _ h => hFc q.1 h)
      refine lv_aload_n hx hb dX6_root_29 rfl (lv_at hl 0 rfl) ?_
      refine va_get (D := (dC, dI)) (ci := 6) (v := .ref (a 4)) (C := RX6) (T := TX6) (N := 9) hx hb hts iK6 hown hK hP 0 rfl rfl 0 (by decide) lk0 (fun _ h9 => h9) rfl dX6_root_30 ?_
      refine va_get (D := (dC, dI)) (ci := 0) (v := .ref (a 7)) (C := RX0) (T := TX0) (N := 14) hx hb hts iK0 hown hK hP 4 rfl rfl 2 (by decide) lk1 (fun _ h9 => h9) rfl dX6_root_33 ?_
      refine lv_iload_n hx hb dX6_root_36 rfl (lv_at hl 1 rfl) ?_
      obtain ⟨g1, hq⟩ := hq
      refine va_iald hx hb hK hP 7 0 rfl rfl g1 dX6_root_37 ?_
      refine lv_istore_n (lv' := [(3, .int ((X0_roots (X6_lawn v)) x1.toNatClampNeg)), (0, .ref (a 0)), (1, .int x1), (2, .int x2)]) hx hb dX6_root_38 rfl hl (by decide) rfl (fun ls hl => ?_)
      refine lv_aload_n hx hb dX6_root_39 rfl (lv_at hl 1 rfl) ?_
      refine va_get (D := (dC, dI)) (ci := 6) (v := .ref (a 4)) (C := RX6) (T := TX6) (N := 9) hx hb hts iK6 hown hK hP 0 rfl rfl 0 (by decide) lk0 (fun _ h9 => h9) rfl dX6_root_40 ?_
      refine va_get (D := (dC, dI)) (ci := 0) (v := .ref (a 7)) (C := RX0) (T := TX0) (N := 14) hx hb hts iK0 hown hK hP 4 rfl rfl 2 (by decide) lk1 (fun _ h9 => h9) rfl dX6_root_43 ?_
      refine lv_iload_n hx hb dX6_root_46 rfl (lv_at hl 2 rfl) ?_
      refine lv_iload_n hx hb dX6_root_47 rfl (lv_at hl 3 rfl) ?_
      refine va_iast hx hb hK hP hD hS 7 0 rfl rfl g1 dX6_root_48 (fun H locs hP hD hS => ?_)
      have hP : va_P (dC, dI) vwCl (cX6 cy a ((X0_mounds (X6_lawn v)), (X0_opened (X6_lawn v)), (upd (X0_roots (X6_lawn v)) x1.toNatClampNeg x2), (X0_traps (X6_lawn v)), (X0_tunnels (X6_lawn v)), (X0_molesR (X6_lawn v)), (X0_moles (X6_lawn v)), (X0_moleCount (X6_lawn v)), (X0_fullAir (X6_lawn v)), (X0_beats (X6_lawn v)), (X0_caught (X6_lawn v)), (X0_gnawed (X6_lawn v)), (X0_risen (X6_lawn v)), (X0_fallen (X6_lawn v))) (X6_snapshot v) (X6_trial v) z26_v_savedR z26_v_saved (X6_text v) (X6_survey v) (X6_paths v) (X6_snapshotTaken v) z26_v_savedCount (X6_spareR v)) H := hP
      have hD : va_D A (cX6 cy a ((X0_mounds (X6_lawn v)), (X0_opened (X6_lawn v)), (upd (X0_roots (X6_lawn v)) x1.toNatClampNeg x2), (X0_traps (X6_lawn v)), (X0_tunnels (X6_lawn v)), (X0_molesR (X6_lawn v)), (X0_moles (X6_lawn v)), (X0_moleCount (X6_lawn v)), (X0_fullAir (X6_lawn v)), (X0_beats (X6_lawn v)), (X0_caught (X6_lawn v)), (X0_gnawed (X6_lawn v)), (X0_risen (X6_lawn v)), (X0_fallen (X6_lawn v))) (X6_snapshot v) (X6_trial v) z26_v_savedR z26_v_saved (X6_text v) (X6_survey v) (X6_paths v) (X6_snapshotTaken v) z26_v_savedCount (X6_spareR v)) := hD
      refine lv_iload_n hx hb dX6_root_49 rfl (lv_at hl 0 rfl) ?_
      exact W.iret (v := ((X0_roots (X6_lawn v)) x1.toNatClampNeg)) hx hb hr (fun t ht hW => ⟨⟨((X0_roots (X6_lawn v)) x1.toNatClampNeg), ((X0_s2 (X6_lawn v) (upd (X0_roots (X6_lawn v)) x1.toNatClampNeg x2)), z26_v_saved, z26_v_savedCount, z26_v_savedR), rfl, hq, (xAt_of hP hK hD ht hW)⟩, hS.F ht⟩) hS.2.2 dX6_root_50
    · have hq := hqB c2
      exact (hX _ hq).elim
