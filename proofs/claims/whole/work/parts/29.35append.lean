def wp_X6_append (v : V_X6) (x1 : Int32) (Q : Int32 → V_X5 → Prop) (QX : String → Prop) : Prop :=
  ((x1 < 33 → QX "java/lang/IllegalArgumentException") ∧
  (¬ x1 < 33 → ((x1 ≤ 126 → (((X5_length (X6_text v)) < 60 → wp_X5_put (X6_text v) x1 (fun z49_v_codes z49_v_length =>
  Q z49_v_length (X5_s1 (X5_s0 (X6_text v) z49_v_codes) z49_v_length))) ∧
  (¬ (X5_length (X6_text v)) < 60 → QX "java/lang/IllegalStateException"))) ∧
  (¬ x1 ≤ 126 → QX "java/lang/IllegalArgumentException"))))
def q_X6_append (dC : Nat → ClassId) (dI : Nat → Nat → Nat) (cy : Nat → ClassId) (a : Nat → Nat) (v : V_X6) (x1 : Int32) (Q : Int32 → V_X5 → Prop) (A : Nat → Prop) : Array Value → State → Outcome → State → Prop := va_Qi (fun (r : Int32) (u : V_X5) => Q r u) (fun (u : V_X5) t => xAt dC dI cy A (cX6 cy a (X6_lawn v) (X6_snapshot v) (X6_trial v) (X6_savedR v) (X6_saved v) u (X6_survey v) (X6_paths v) (X6_snapshotTaken v) (X6_savedCount v) (X6_spareR v)) t) A
set_option maxHeartbeats 4000000 in
set_option maxRecDepth 100000 in
theorem c_X6_append (l : Launch) (dC : Nat → ClassId) (dI : Nat → Nat → Nat) (cy : Nat → ClassId) (a : Nat → Nat) (sz : Nat) (v : V_X6) (x1 : Int32) (Q : Int32 → V_X5 → Prop) (QX : String → Prop) (hl9 : l.stackTraces = false) (hq : wp_X6_append v x1 Q QX) : vx_Met l yX6_append wsX6_append ({ frames := 6, cells := 1, slots := 6, locals := 102 } : Room) (va_Pc [.ref (a 0), .int x1] (xPreX dC dI cy (wX6 cy a v) sz)) (q_X6_append dC dI cy a v x1 Q (va_A (wX6 cy a v) sz)) (xX dC dI cy (va_A (wX6 cy a v) sz) (wX6 cy a v) QX) 1 6 (va_A (wX6 cy a v) sz) := by
  refine vx_ofW (cc := cX6_append) (maxL := 2) (ret := (some .int)) (by decide) rfl ?_
  intro p e s m args below meth c s₁ B hml hexc hv
  obtain ⟨rfl, hsz, hP, hK, hD0, hE⟩ := hv
  have hx := B.exec
  have hb := B.bytes
  have hr := B.returns
  have hts := atoms_spec (ws := wsX6_append) B.pre
  have hown : s.vm.findClass RX6 = some m.cls := findClass_of_methodNamed B.named
  have hlocks := B.notSynchronized
  subst hsz
  have hD := hD0.self (sz := s.heap.size)
  generalize hAe : va_A (wX6 cy a v) s.heap.size = A at hD hE ⊢
  have hAe0 : ∀ q : Nat, s.heap.size ≤ q → A q := fun q h => by rw [← hAe]; exact Or.inr h
  have hS : va_S A s.heap s.heap [] := va_S.rf
  have hl := lv_entry ([.ref (a 0), .int x1]) (n := 2) (Nat.le_of_ble_eq_true rfl)
  rw [lg_entry_eq]
  generalize (lg_sl ([.ref (a 0), .int x1]) ++ List.replicate (2 - (lg_sl ([.ref (a 0), .int x1])).length) Slot.unset).toArray = ls at hl ⊢
  have hl : lv_has ls 2 [(0, .ref (a 0)), (1, .int x1)] := hl
  have lk0 := hts (Cond.classLink RX6 81 "java/lang/IllegalArgumentException") (List.mem_cons_of_mem _ (List.mem_append_left _ (List.mem_append_left _ (List.mem_append_left _ (List.mem_append_left _ (List.mem_of_getElem? (i := 0) rfl))))))
  have lk1 := hts (Cond.initialized "java/lang/IllegalArgumentException") (List.mem_cons_of_mem _ (List.mem_append_left _ (List.mem_append_left _ (List.mem_append_left _ (List.mem_append_left _ (List.mem_of_getElem? (i := 1) rfl))))))
  have lk2 := hts (Cond.fieldLink RX6 34 "MolesLawn" "text" "LMolesLawn$Text;") (List.mem_cons_of_mem _ (List.mem_append_left _ (List.mem_append_left _ (List.mem_append_left _ (List.mem_append_left _ (List.mem_of_getElem? (i := 4) rfl))))))
  have lk3 := hts (Cond.fieldLink RX6 148 "MolesLawn$Text" "length" "I") (List.mem_cons_of_mem _ (List.mem_append_left _ (List.mem_append_left _ (List.mem_append_left _ (List.mem_append_left _ (List.mem_of_getElem? (i := 5) rfl))))))
  have lk4 := hts (Cond.classLink RX6 64 "java/lang/IllegalStateException") (List.mem_cons_of_mem _ (List.mem_append_left _ (List.mem_append_left _ (List.mem_append_left _ (List.mem_append_left _ (List.mem_of_getElem? (i := 2) rfl))))))
  have lk5 := hts (Cond.initialized "java/lang/IllegalStateException") (List.mem_cons_of_mem _ (List.mem_append_left _ (List.mem_append_left _ (List.mem_append_left _ (List.mem_append_left _ (List.mem_of_getElem? (i := 3) rfl))))))
  have iK5 : ∀ w ∈ wsX50, w ∈ wsX6_append := fun _ h => (List.mem_cons_of_mem _ (List.mem_append_left _ (List.mem_append_left _ (List.mem_append_right _ h))))
  have iK6 : ∀ w ∈ wsX60, w ∈ wsX6_append := fun _ h => (List.mem_cons_of_mem _ (List.mem_append_left _ (List.mem_append_left _ (List.mem_append_left _ (List.mem_append_right _ h)))))
  unfold wp_X6_append at hq
  refine lv_iload_n hx hb dX6_append_0 rfl (lv_at hl 1 rfl) ?_
  refine lv_bipush (v := 33) hx hb dX6_append_1 (by decide) ?_
  obtain ⟨hqA, hqB⟩ := hq
  refine lv_icmp_lt (tgt := 12) hx hb dX6_append_3 (by decide) (fun c3 => ?_) (fun c3 => ?_)
  · have hq := hqA c3
    obtain ⟨sa, hsa⟩ := hE.2.2.2.2.2 (146, "no such character") (List.mem_of_getElem? (i := 8) rfl)
    exact vx_throwS (cls := "java/lang/IllegalArgumentException") (names := ["java/lang/RuntimeException", "java/lang/Exception"]) hx hb hl9 hown (by decide +kernel) (by decide +kernel) lk0 lk1 hsa (vx_hat (fun w h => hts w (List.mem_cons_of_mem _ (List.mem_append_left _ (List.mem_append_right _ h)))) xbad_85 (xhat hE (List.mem_of_getElem? (i := 1) rfl))) xok_81_85 hE.2.1 hE.2.2.1 hS (hl.1.trans hml.symm) dX6_append_12 dX6_append_15 dX6_append_16 dX6_append_18 dX6_append_21 (fun x h => (hexc x h).elim) (Nat.le_of_ble_eq_true rfl) (Nat.le_of_ble_eq_true rfl) (Nat.le_of_ble_eq_true rfl) (Nat.le_of_ble_eq_true rfl) hlocks (xX_thr hP hK hD hS hq) hS.2.2 (Nat.le_of_ble_eq_true rfl) (Nat.le_of_ble_eq_true rfl)
  · have hq := hqB c3
    refine lv_iload_n hx hb dX6_append_6 rfl (lv_at hl 1 rfl) ?_
    refine lv_bipush (v := 126) hx hb dX6_append_7 (by decide) ?_
    obtain ⟨hqA, hqB⟩ := hq
    refine lv_icmp_le (tgt := 22) hx hb dX6_append_9 (by decide) (fun c2 => ?_) (fun c2 => ?_)
    · have hq := hqA c2
      refine lv_aload_n hx hb dX6_append_22 rfl (lv_at hl 0 rfl) ?_
      refine va_get (D := (dC, dI)) (ci := 6) (v := .ref (a 194)) (C := RX6) (T := TX6) (N := 9) hx hb hts iK6 hown hK hP 0 rfl rfl 4 (by decide) lk2 (fun _ h9 => h9) rfl dX6_append_23 ?_
      refine va_get (D := (dC, dI)) (ci := 5) (v := .int (X5_length (X6_text v))) (C := RX5) (T := TX5) (N := 2) hx hb hts iK5 hown hK hP 194 rfl rfl 1 (by decide) lk3 (fun _ h9 => h9) rfl dX6_append_26 ?_
      refine lv_bipush (v := 60) hx hb dX6_append_29 (by decide) ?_
      obtain ⟨hqA, hqB⟩ := hq
      refine lv_icmp_lt (tgt := 44) hx hb dX6_append_31 (by decide) (fun c1 => ?_) (fun c1 => ?_)
      · have hq := hqA c1
        refine lv_aload_n hx hb dX6_append_44 rfl (lv_at hl 0 rfl) ?_
        refine va_get (D := (dC, dI)) (ci := 6) (v := .ref (a 194)) (C := RX6) (T := TX6) (N := 9) hx hb hts iK6 hown hK hP 0 rfl rfl 4 (by decide) lk2 (fun _ h9 => h9) rfl dX6_append_45 ?_
        refine lv_iload_n hx hb dX6_append_48 rfl (lv_at hl 1 rfl) ?_
        have hC : (([194, 195] : List Nat).map (fun i => (wX6 cy a v)[i]?)) = (wX5 cy (sh a 194) (X6_text v)).map some := rfl
        have hPc := xsubP hP hC
        have hDc := xsubD hD (by decide) hC
        have hFc := va_free (wc := (wX5 cy (sh a 194) (X6_text v))) hD hS hAe0 [194, 195] hC
        refine va_callv (va_runV (As := [.int x1]) (rest := []) ⟨hx, hb, hml, hown, hts⟩ (c_X5_put l dC dI cy (sh a 194) _ (X6_text v) x1 _ hq) (cwV 1 hts gX6_append_X5_put rfl rfl rfl (by decide +kernel) ⟨Nat.le_of_ble_eq_true rfl, Nat.le_of_ble_eq_true rfl⟩) ⟨xPre_blind, va_recv hK hP (ci := 5) (q0 := 194) rfl rfl, xPre_of hPc hK hDc⟩ rfl rfl hl.1 rfl (lv_room (Nat.le_of_ble_eq_true rfl)) dX6_append_49 ⟨Nat.le_of_ble_eq_true rfl, Nat.le_of_ble_eq_true rfl⟩) hS (fun q _ h => hFc q h) hFc (fun u9 t H locs ht hvm hq hB hz1 hk1 hS => ?_)
        obtain ⟨z49_v_codes, z49_v_length⟩ := u9
        obtain ⟨hP1, -, hD1⟩ := hB
        rw [ht] at hP1
        obtain ⟨hP, hD⟩ := xj hP hD [194, 195] (cX5 cy (sh a 194) z49_v_codes z49_v_length) (ws' := (cX6 cy a (X6_lawn v) (X6_snapshot v) (X6_trial v) (X6_savedR v) (X6_saved v) (z49_v_codes, z49_v_length) (X6_survey v) (X6_paths v) (X6_snapshotTaken v) (X6_savedCount v) (X6_spareR v))) hC rfl rfl hk1 hFc hP1
        refine lv_aload_n hx hb dX6_append_52 rfl (lv_at hl 0 rfl) ?_
        refine va_get (D := (dC, dI)) (ci := 6) (v := .ref (a 194)) (C := RX6) (T := TX6) (N := 9) hx hb hts iK6 hown hK hP 0 rfl rfl 4 (by decide) lk2 (fun _ h9 => h9) rfl dX6_append_53 ?_
        refine va_get (D := (dC, dI)) (ci := 5) (v := .int z49_v_length) (C := RX5) (T := TX5) (N := 2) hx hb hts iK5 hown hK hP 194 rfl rfl 1 (by decide) lk3 (fun _ h9 => h9) rfl dX6_append_56 ?_
        refine vx_ret ?_
        refine W.widen (k := 1) (n := 6) (Nat.le_of_ble_eq_true rfl) (Nat.le_of_ble_eq_true rfl) ?_
        exact W.iret (v := z49_v_length) hx hb hr (fun t ht hW => ⟨⟨z49_v_length, (X5_s1 (X5_s0 (X6_text v) z49_v_codes) z49_v_length), rfl, hq, (xAt_of hP hK hD ht hW)⟩, hS.F ht⟩) hS.2.2 dX6_append_59
      · have hq := hqB c1
        obtain ⟨sa, hsa⟩ := hE.2.2.2.2.2 (151, "the buffer is full") (List.mem_of_getElem? (i := 9) rfl)
        exact vx_throwS (cls := "java/lang/IllegalStateException") (names := ["java/lang/RuntimeException", "java/lang/Exception"]) hx hb hl9 hown (by decide +kernel) (by decide +kernel) lk4 lk5 hsa (vx_hat (fun w h => hts w (List.mem_cons_of_mem _ (List.mem_append_right _ h))) xbad_68 (xhat hE (List.mem_of_getElem? (i := 2) rfl))) xok_64_68 hE.2.1 hE.2.2.1 hS (hl.1.trans hml.symm) dX6_append_34 dX6_append_37 dX6_append_38 dX6_append_40 dX6_append_43 (fun x h => (hexc x h).elim) (Nat.le_of_ble_eq_true rfl) (Nat.le_of_ble_eq_true rfl) (Nat.le_of_ble_eq_true rfl) (Nat.le_of_ble_eq_true rfl) hlocks (xX_thr hP hK hD hS hq) hS.2.2 (Nat.le_of_ble_eq_true rfl) (Nat.le_of_ble_eq_true rfl)
    · have hq := hqB c2
      obtain ⟨sa, hsa⟩ := hE.2.2.2.2.2 (146, "no such character") (List.mem_of_getElem? (i := 8) rfl)
      exact vx_throwS (cls := "java/lang/IllegalArgumentException") (names := ["java/lang/RuntimeException", "java/lang/Exception"]) hx hb hl9 hown (by decide +kernel) (by decide +kernel) lk0 lk1 hsa (vx_hat (fun w h => hts w (List.mem_cons_of_mem _ (List.mem_append_left _ (List.mem_append_right _ h)))) xbad_85 (xhat hE (List.mem_of_getElem? (i := 1) rfl))) xok_81_85 hE.2.1 hE.2.2.1 hS (hl.1.trans hml.symm) dX6_append_12 dX6_append_15 dX6_append_16 dX6_append_18 dX6_append_21 (fun x h => (hexc x h).elim) (Nat.le_of_ble_eq_true rfl) (Nat.le_of_ble_eq_true rfl) (Nat.le_of_ble_eq_true rfl) (Nat.le_of_ble_eq_true rfl) hlocks (xX_thr hP hK hD hS hq) hS.2.2 (Nat.le_of_ble_eq_true rfl) (Nat.le_of_ble_eq_true rfl)
