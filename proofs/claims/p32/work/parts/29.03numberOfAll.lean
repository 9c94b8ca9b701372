def wp_X6_numberOfAll (v : V_X6) (x1 : Int32) (Q : Int32 → V_X2 → Prop) : Prop :=
  ((x1 = 0 → Q (X0_beats (X6_lawn v)) (X6_paths v)) ∧
  (¬ x1 = 0 → ((x1 = 1 → Q (X0_moleCount (X6_lawn v)) (X6_paths v)) ∧
  (¬ x1 = 1 → ((x1 = 2 → Q (X0_caught (X6_lawn v)) (X6_paths v)) ∧
  (¬ x1 = 2 → ((x1 = 3 → wp_X0_moundCount (X6_lawn v) (fun r100 =>
  Q r100 (X6_paths v))) ∧
  (¬ x1 = 3 → ((x1 = 4 → Q (X3_size (X0_tunnels (X6_lawn v))) (X6_paths v)) ∧
  (¬ x1 = 4 → ((x1 = 5 → wp_X4_hollowCount (X6_survey v) (fun r119 =>
  Q r119 (X6_paths v))) ∧
  (¬ x1 = 5 → ((x1 = 6 → wp_X0_openedCount (X6_lawn v) (fun r127 =>
  Q r127 (X6_paths v))) ∧
  (¬ x1 = 6 → ((x1 = 7 → wp_X0_trapCount (X6_lawn v) (fun r135 =>
  Q r135 (X6_paths v))) ∧
  (¬ x1 = 7 → ((x1 = 8 → wp_X0_rootCount (X6_lawn v) (fun r143 =>
  Q r143 (X6_paths v))) ∧
  (¬ x1 = 8 → ((x1 = 9 → Q (X0_gnawed (X6_lawn v)) (X6_paths v)) ∧
  (¬ x1 = 9 → ((x1 = 10 → Q (X0_risen (X6_lawn v)) (X6_paths v)) ∧
  (¬ x1 = 10 → ((x1 = 11 → Q (X0_fallen (X6_lawn v)) (X6_paths v)) ∧
  (¬ x1 = 11 → ((x1 = 12 → wp_X2_groupCount (X6_paths v) (X6_lawn v) (fun r179 z179_v_group =>
  Q r179 (X2_s1 (X6_paths v) z179_v_group))) ∧
  (¬ x1 = 12 → ((x1 = 13 → Q (X0_fullAir (X6_lawn v)) (X6_paths v)) ∧
  (¬ x1 = 13 → Q (X6_savedCount v) (X6_paths v)))))))))))))))))))))))))))))
def q_X6_numberOfAll (dC : Nat → ClassId) (dI : Nat → Nat → Nat) (cy : Nat → ClassId) (a : Nat → Nat) (v : V_X6) (x1 : Int32) (Q : Int32 → V_X2 → Prop) (A : Nat → Prop) : Array Value → State → Outcome → State → Prop := va_Qi (fun (r : Int32) (u : V_X2) => Q r u) (fun (u : V_X2) t => xAt dC dI cy A (cX6 cy a (X6_lawn v) (X6_snapshot v) (X6_trial v) (X6_savedR v) (X6_saved v) (X6_text v) (X6_survey v) u (X6_snapshotTaken v) (X6_savedCount v) (X6_spareR v)) t) A
set_option maxHeartbeats 4000000 in
set_option maxRecDepth 100000 in
theorem c_X6_numberOfAll (l : Launch) (dC : Nat → ClassId) (dI : Nat → Nat → Nat) (cy : Nat → ClassId) (a : Nat → Nat) (sz : Nat) (v : V_X6) (x1 : Int32) (Q : Int32 → V_X2 → Prop) (hq : wp_X6_numberOfAll v x1 Q) : Met l yX6_numberOfAll wsX6_numberOfAll ({ frames := 4, cells := 0, slots := 0, locals := 89 } : Room) (va_Pc [.ref (a 0), .int x1] (xPre dC dI cy (wX6 cy a v) sz)) (q_X6_numberOfAll dC dI cy a v x1 Q (va_A (wX6 cy a v) sz)) 0 0 (va_A (wX6 cy a v) sz) := by
  refine Met.ofW (cc := cX6_numberOfAll) (maxL := 2) (ret := (some .int)) (by decide) rfl ?_
  intro p e s m args below meth c s₁ B hml hv
  obtain ⟨rfl, hsz, hP, hK, hD0⟩ := hv
  have hx := B.exec
  have hb := B.bytes
  have hr := B.returns
  have hts := atoms_spec (ws := wsX6_numberOfAll) B.pre
  have hown : s.vm.findClass RX6 = some m.cls := findClass_of_methodNamed B.named
  have hlocks := B.notSynchronized
  subst hsz
  have hD := hD0.self (sz := s.heap.size)
  generalize hAe : va_A (wX6 cy a v) s.heap.size = A at hD ⊢
  have hAe0 : ∀ q : Nat, s.heap.size ≤ q → A q := fun q h => by rw [← hAe]; exact Or.inr h
  have hS : va_S A s.heap s.heap [] := va_S.rf
  have hl := lv_entry ([.ref (a 0), .int x1]) (n := 2) (Nat.le_of_ble_eq_true rfl)
  rw [lg_entry_eq]
  generalize (lg_sl ([.ref (a 0), .int x1]) ++ List.replicate (2 - (lg_sl ([.ref (a 0), .int x1])).length) Slot.unset).toArray = ls at hl ⊢
  have hl : lv_has ls 2 [(0, .ref (a 0)), (1, .int x1)] := hl
  have lk0 := hts (Cond.fieldLink RX6 15 "MolesLawn" "lawn" "LMolesLawn$Lawn;") (List.mem_cons_of_mem _ (List.mem_append_left _ (List.mem_append_left _ (List.mem_append_left _ (List.mem_append_left _ (List.mem_append_left _ (List.mem_append_left _ (List.mem_of_getElem? (i := 0) rfl))))))))
  have lk1 := hts (Cond.fieldLink RX6 306 "MolesLawn$Lawn" "beats" "I") (List.mem_cons_of_mem _ (List.mem_append_left _ (List.mem_append_left _ (List.mem_append_left _ (List.mem_append_left _ (List.mem_append_left _ (List.mem_append_left _ (List.mem_of_getElem? (i := 1) rfl))))))))
  have lk2 := hts (Cond.fieldLink RX6 56 "MolesLawn$Lawn" "moleCount" "I") (List.mem_cons_of_mem _ (List.mem_append_left _ (List.mem_append_left _ (List.mem_append_left _ (List.mem_append_left _ (List.mem_append_left _ (List.mem_append_left _ (List.mem_of_getElem? (i := 2) rfl))))))))
  have lk3 := hts (Cond.fieldLink RX6 309 "MolesLawn$Lawn" "caught" "I") (List.mem_cons_of_mem _ (List.mem_append_left _ (List.mem_append_left _ (List.mem_append_left _ (List.mem_append_left _ (List.mem_append_left _ (List.mem_append_left _ (List.mem_of_getElem? (i := 3) rfl))))))))
  have lk4 := hts (Cond.fieldLink RX6 187 "MolesLawn$Lawn" "tunnels" "LMolesLawn$Rows;") (List.mem_cons_of_mem _ (List.mem_append_left _ (List.mem_append_left _ (List.mem_append_left _ (List.mem_append_left _ (List.mem_append_left _ (List.mem_append_left _ (List.mem_of_getElem? (i := 4) rfl))))))))
  have lk5 := hts (Cond.fieldLink RX6 191 "MolesLawn$Rows" "size" "I") (List.mem_cons_of_mem _ (List.mem_append_left _ (List.mem_append_left _ (List.mem_append_left _ (List.mem_append_left _ (List.mem_append_left _ (List.mem_append_left _ (List.mem_of_getElem? (i := 5) rfl))))))))
  have lk6 := hts (Cond.fieldLink RX6 41 "MolesLawn" "survey" "LMolesLawn$Survey;") (List.mem_cons_of_mem _ (List.mem_append_left _ (List.mem_append_left _ (List.mem_append_left _ (List.mem_append_left _ (List.mem_append_left _ (List.mem_append_left _ (List.mem_of_getElem? (i := 6) rfl))))))))
  have lk7 := hts (Cond.fieldLink RX6 321 "MolesLawn$Lawn" "gnawed" "I") (List.mem_cons_of_mem _ (List.mem_append_left _ (List.mem_append_left _ (List.mem_append_left _ (List.mem_append_left _ (List.mem_append_left _ (List.mem_append_left _ (List.mem_of_getElem? (i := 7) rfl))))))))
  have lk8 := hts (Cond.fieldLink RX6 103 "MolesLawn$Lawn" "risen" "I") (List.mem_cons_of_mem _ (List.mem_append_left _ (List.mem_append_left _ (List.mem_append_left _ (List.mem_append_left _ (List.mem_append_left _ (List.mem_append_left _ (List.mem_of_getElem? (i := 8) rfl))))))))
  have lk9 := hts (Cond.fieldLink RX6 230 "MolesLawn$Lawn" "fallen" "I") (List.mem_cons_of_mem _ (List.mem_append_left _ (List.mem_append_left _ (List.mem_append_left _ (List.mem_append_left _ (List.mem_append_left _ (List.mem_append_left _ (List.mem_of_getElem? (i := 9) rfl))))))))
  have lk10 := hts (Cond.fieldLink RX6 48 "MolesLawn" "paths" "LMolesLawn$Paths;") (List.mem_cons_of_mem _ (List.mem_append_left _ (List.mem_append_left _ (List.mem_append_left _ (List.mem_append_left _ (List.mem_append_left _ (List.mem_append_left _ (List.mem_of_getElem? (i := 10) rfl))))))))
  have lk11 := hts (Cond.fieldLink RX6 140 "MolesLawn$Lawn" "fullAir" "I") (List.mem_cons_of_mem _ (List.mem_append_left _ (List.mem_append_left _ (List.mem_append_left _ (List.mem_append_left _ (List.mem_append_left _ (List.mem_append_left _ (List.mem_of_getElem? (i := 11) rfl))))))))
  have lk12 := hts (Cond.fieldLink RX6 174 "MolesLawn" "savedCount" "I") (List.mem_cons_of_mem _ (List.mem_append_left _ (List.mem_append_left _ (List.mem_append_left _ (List.mem_append_left _ (List.mem_append_left _ (List.mem_append_left _ (List.mem_of_getElem? (i := 12) rfl))))))))
  have iK0 : ∀ w ∈ wsX00, w ∈ wsX6_numberOfAll := fun _ h => (List.mem_cons_of_mem _ (List.mem_append_left _ (List.mem_append_left _ (List.mem_append_left _ (List.mem_append_right _ h)))))
  have iK3 : ∀ w ∈ wsX30, w ∈ wsX6_numberOfAll := fun _ h => (List.mem_cons_of_mem _ (List.mem_append_left _ (List.mem_append_left _ (List.mem_append_right _ h))))
  have iK6 : ∀ w ∈ wsX60, w ∈ wsX6_numberOfAll := fun _ h => (List.mem_cons_of_mem _ (List.mem_append_left _ (List.mem_append_left _ (List.mem_append_left _ (List.mem_append_left _ (List.mem_append_right _ h))))))
  unfold wp_X6_numberOfAll at hq
  refine lv_iload_n hx hb dX6_numberOfAll_0 rfl (lv_at hl 1 rfl) ?_
  obtain ⟨hqA, hqB⟩ := hq
  by_cases n0 : x1 = 0
  · have hq := hqA n0
    refine lv_tableIn (tgt := 72) (off := 71) hx hb dX6_numberOfAll_1 (by rw [n0]; decide) (by rw [n0]; decide) (by rw [n0]; decide) (by decide) ?_
    refine lv_aload_n hx hb dX6_numberOfAll_72 rfl (lv_at hl 0 rfl) ?_
    refine va_get (D := (dC, dI)) (ci := 6) (v := .ref (a 4)) (C := RX6) (T := TX6) (N := 9) hx hb hts iK6 hown hK hP 0 rfl rfl 0 (by decide) lk0 (fun _ h9 => h9) rfl dX6_numberOfAll_73 ?_
    refine va_get (D := (dC, dI)) (ci := 0) (v := .int (X0_beats (X6_lawn v))) (C := RX0) (T := TX0) (N := 14) hx hb hts iK0 hown hK hP 4 rfl rfl 9 (by decide) lk1 (fun _ h9 => h9) rfl dX6_numberOfAll_76 ?_
    exact W.iret (v := (X0_beats (X6_lawn v))) hx hb hr (fun t ht hW => ⟨⟨(X0_beats (X6_lawn v)), (X6_paths v), rfl, hq, (xAt_of hP hK hD ht hW)⟩, hS.F ht⟩) hS.2.2 dX6_numberOfAll_79
  · have hq := hqB n0
    obtain ⟨hqA, hqB⟩ := hq
    by_cases n1 : x1 = 1
    · have hq := hqA n1
      refine lv_tableIn (tgt := 80) (off := 79) hx hb dX6_numberOfAll_1 (by rw [n1]; decide) (by rw [n1]; decide) (by rw [n1]; decide) (by decide) ?_
      refine lv_aload_n hx hb dX6_numberOfAll_80 rfl (lv_at hl 0 rfl) ?_
      refine va_get (D := (dC, dI)) (ci := 6) (v := .ref (a 4)) (C := RX6) (T := TX6) (N := 9) hx hb hts iK6 hown hK hP 0 rfl rfl 0 (by decide) lk0 (fun _ h9 => h9) rfl dX6_numberOfAll_81 ?_
      refine va_get (D := (dC, dI)) (ci := 0) (v := .int (X0_moleCount (X6_lawn v))) (C := RX0) (T := TX0) (N := 14) hx hb hts iK0 hown hK hP 4 rfl rfl 7 (by decide) lk2 (fun _ h9 => h9) rfl dX6_numberOfAll_84 ?_
      exact W.iret (v := (X0_moleCount (X6_lawn v))) hx hb hr (fun t ht hW => ⟨⟨(X0_moleCount (X6_lawn v)), (X6_paths v), rfl, hq, (xAt_of hP hK hD ht hW)⟩, hS.F ht⟩) hS.2.2 dX6_numberOfAll_87
    · have hq := hqB n1
      obtain ⟨hqA, hqB⟩ := hq
      by_cases n2 : x1 = 2
      · have hq := hqA n2
        refine lv_tableIn (tgt := 88) (off := 87) hx hb dX6_numberOfAll_1 (by rw [n2]; decide) (by rw [n2]; decide) (by rw [n2]; decide) (by decide) ?_
        refine lv_aload_n hx hb dX6_numberOfAll_88 rfl (lv_at hl 0 rfl) ?_
        refine va_get (D := (dC, dI)) (ci := 6) (v := .ref (a 4)) (C := RX6) (T := TX6) (N := 9) hx hb hts iK6 hown hK hP 0 rfl rfl 0 (by decide) lk0 (fun _ h9 => h9) rfl dX6_numberOfAll_89 ?_
        refine va_get (D := (dC, dI)) (ci := 0) (v := .int (X0_caught (X6_lawn v))) (C := RX0) (T := TX0) (N := 14) hx hb hts iK0 hown hK hP 4 rfl rfl 10 (by decide) lk3 (fun _ h9 => h9) rfl dX6_numberOfAll_92 ?_
        exact W.iret (v := (X0_caught (X6_lawn v))) hx hb hr (fun t ht hW => ⟨⟨(X0_caught (X6_lawn v)), (X6_paths v), rfl, hq, (xAt_of hP hK hD ht hW)⟩, hS.F ht⟩) hS.2.2 dX6_numberOfAll_95
      · have hq := hqB n2
        obtain ⟨hqA, hqB⟩ := hq
        by_cases n3 : x1 = 3
        · have hq := hqA n3
          refine lv_tableIn (tgt := 96) (off := 95) hx hb dX6_numberOfAll_1 (by rw [n3]; decide) (by rw [n3]; decide) (by rw [n3]; decide) (by decide) ?_
          refine lv_aload_n hx hb dX6_numberOfAll_96 rfl (lv_at hl 0 rfl) ?_
          refine va_get (D := (dC, dI)) (ci := 6) (v := .ref (a 4)) (C := RX6) (T := TX6) (N := 9) hx hb hts iK6 hown hK hP 0 rfl rfl 0 (by decide) lk0 (fun _ h9 => h9) rfl dX6_numberOfAll_97 ?_
          have hC : (([4, 5, 6, 7, 8, 9, 10, 11, 12, 13, 14, 15, 16, 17, 18, 19, 20, 21, 22, 23, 24] : List Nat).map (fun i => (wX6 cy a v)[i]?)) = (wX0 cy (sh a 4) (sh a 1) (X6_lawn v)).map some := (xC_one (n := 4) (m := 21) rfl rfl rfl)
          have hPc := xsubP hP hC
          have hDc := xsubD hD (by decide) hC
          have hFc := va_free (wc := (wX0 cy (sh a 4) (sh a 1) (X6_lawn v))) hD hS hAe0 [4, 5, 6, 7, 8, 9, 10, 11, 12, 13, 14, 15, 16, 17, 18, 19, 20, 21, 22, 23, 24] hC
          refine va_calli (va_runV (As := []) (rest := []) ⟨hx, hb, hml, hown, hts⟩ (c_X0_moundCount l dC dI cy (sh a 4) (sh a 1) _ (X6_lawn v) _ hq) (cwV 0 hts gX6_numberOfAll_X0_moundCount rfl rfl rfl (by decide +kernel) ⟨Nat.le_of_ble_eq_true rfl, Nat.le_of_ble_eq_true rfl⟩) ⟨xPre_blind, va_recv hK hP (ci := 0) (q0 := 4) rfl rfl, xPre_of hPc hK hDc⟩ rfl rfl hl.1 rfl (lv_room (Nat.le_of_ble_eq_true rfl)) dX6_numberOfAll_100 ⟨Nat.le_of_ble_eq_true rfl, Nat.le_of_ble_eq_true rfl⟩) hS (fun q _ h => hFc q h) hFc (fun r100 u9 t H locs ht hvm hq hB hz1 hk1 hS => ?_)
          obtain ⟨hP1, -, hD1⟩ := hB
          rw [ht] at hP1
          have hP : va_P (dC, dI) vwCl (wX6 cy a v) H := xj_keep hP hD [4, 5, 6, 7, 8, 9, 10, 11, 12, 13, 14, 15, 16, 17, 18, 19, 20, 21, 22, 23, 24] hC hP1 hk1
          exact W.iret (v := r100) hx hb hr (fun t ht hW => ⟨⟨r100, (X6_paths v), rfl, hq, (xAt_of hP hK hD ht hW)⟩, hS.F ht⟩) hS.2.2 dX6_numberOfAll_103
        · have hq := hqB n3
          obtain ⟨hqA, hqB⟩ := hq
          by_cases n4 : x1 = 4
          · have hq := hqA n4
            refine lv_tableIn (tgt := 104) (off := 103) hx hb dX6_numberOfAll_1 (by rw [n4]; decide) (by rw [n4]; decide) (by rw [n4]; decide) (by decide) ?_
            refine lv_aload_n hx hb dX6_numberOfAll_104 rfl (lv_at hl 0 rfl) ?_
            refine va_get (D := (dC, dI)) (ci := 6) (v := .ref (a 4)) (C := RX6) (T := TX6) (N := 9) hx hb hts iK6 hown hK hP 0 rfl rfl 0 (by decide) lk0 (fun _ h9 => h9) rfl dX6_numberOfAll_105 ?_
            refine va_get (D := (dC, dI)) (ci := 0) (v := .ref (a 9)) (C := RX0) (T := TX0) (N := 14) hx hb hts iK0 hown hK hP 4 rfl rfl 4 (by decide) lk4 (fun _ h9 => h9) rfl dX6_numberOfAll_108 ?_
            refine va_get (D := (dC, dI)) (ci := 3) (v := .int (X3_size (X0_tunnels (X6_lawn v)))) (C := RX3) (T := TX3) (N := 4) hx hb hts iK3 hown hK hP 9 rfl rfl 3 (by decide) lk5 (fun _ h9 => h9) rfl dX6_numberOfAll_111 ?_
            exact W.iret (v := (X3_size (X0_tunnels (X6_lawn v)))) hx hb hr (fun t ht hW => ⟨⟨(X3_size (X0_tunnels (X6_lawn v))), (X6_paths v), rfl, hq, (xAt_of hP hK hD ht hW)⟩, hS.F ht⟩) hS.2.2 dX6_numberOfAll_114
          · have hq := hqB n4
            obtain ⟨hqA, hqB⟩ := hq
            by_cases n5 : x1 = 5
            · have hq := hqA n5
              refine lv_tableIn (tgt := 115) (off := 114) hx hb dX6_numberOfAll_1 (by rw [n5]; decide) (by rw [n5]; decide) (by rw [n5]; decide) (by decide) ?_
              refine lv_aload_n hx hb dX6_numberOfAll_115 rfl (lv_at hl 0 rfl) ?_
              refine va_get (D := (dC, dI)) (ci := 6) (v := .ref (a 196)) (C := RX6) (T := TX6) (N := 9) hx hb hts iK6 hown hK hP 0 rfl rfl 5 (by decide) lk6 (fun _ h9 => h9) rfl dX6_numberOfAll_116 ?_
              have hC : (([196, 197, 198, 199, 200] : List Nat).map (fun i => (wX6 cy a v)[i]?)) = (wX4 cy (sh a 196) (X6_survey v)).map some := (xC_one (n := 196) (m := 5) rfl rfl rfl)
              have hPc := xsubP hP hC
              have hDc := xsubD hD (by decide) hC
              have hFc := va_free (wc := (wX4 cy (sh a 196) (X6_survey v))) hD hS hAe0 [196, 197, 198, 199, 200] hC
              refine va_calli (va_runV (As := []) (rest := []) ⟨hx, hb, hml, hown, hts⟩ (c_X4_hollowCount l dC dI cy (sh a 196) _ (X6_survey v) _ hq) (cwV 0 hts gX6_numberOfAll_X4_hollowCount rfl rfl rfl (by decide +kernel) ⟨Nat.le_of_ble_eq_true rfl, Nat.le_of_ble_eq_true rfl⟩) ⟨xPre_blind, va_recv hK hP (ci := 4) (q0 := 196) rfl rfl, xPre_of hPc hK hDc⟩ rfl rfl hl.1 rfl (lv_room (Nat.le_of_ble_eq_true rfl)) dX6_numberOfAll_119 ⟨Nat.le_of_ble_eq_true rfl, Nat.le_of_ble_eq_true rfl⟩) hS (fun q _ h => hFc q h) hFc (fun r119 u9 t H locs ht hvm hq hB hz1 hk1 hS => ?_)
              obtain ⟨hP1, -, hD1⟩ := hB
              rw [ht] at hP1
              have hP : va_P (dC, dI) vwCl (wX6 cy a v) H := xj_keep hP hD [196, 197, 198, 199, 200] hC hP1 hk1
              exact W.iret (v := r119) hx hb hr (fun t ht hW => ⟨⟨r119, (X6_paths v), rfl, hq, (xAt_of hP hK hD ht hW)⟩, hS.F ht⟩) hS.2.2 dX6_numberOfAll_122
            · have hq := hqB n5
              obtain ⟨hqA, hqB⟩ := hq
              by_cases n6 : x1 = 6
              · have hq := hqA n6
                refine lv_tableIn (tgt := 123) (off := 122) hx hb dX6_numberOfAll_1 (by rw [n6]; decide) (by rw [n6]; decide) (by rw [n6]; decide) (by decide) ?_
                refine lv_aload_n hx hb dX6_numberOfAll_123 rfl (lv_at hl 0 rfl) ?_
                refine va_get (D := (dC, dI)) (ci := 6) (v := .ref (a 4)) (C := RX6) (T := TX6) (N := 9) hx hb hts iK6 hown hK hP 0 rfl rfl 0 (by decide) lk0 (fun _ h9 => h9) rfl dX6_numberOfAll_124 ?_
                have hC : (([4, 5, 6, 7, 8, 9, 10, 11, 12, 13, 14, 15, 16, 17, 18, 19, 20, 21, 22, 23, 24] : List Nat).map (fun i => (wX6 cy a v)[i]?)) = (wX0 cy (sh a 4) (sh a 1) (X6_lawn v)).map some := (xC_one (n := 4) (m := 21) rfl rfl rfl)
                have hPc := xsubP hP hC
                have hDc := xsubD hD (by decide) hC
                have hFc := va_free (wc := (wX0 cy (sh a 4) (sh a 1) (X6_lawn v))) hD hS hAe0 [4, 5, 6, 7, 8, 9, 10, 11, 12, 13, 14, 15, 16, 17, 18, 19, 20, 21, 22, 23, 24] hC
                refine va_calli (va_runV (As := []) (rest := []) ⟨hx, hb, hml, hown, hts⟩ (c_X0_openedCount l dC dI cy (sh a 4) (sh a 1) _ (X6_lawn v) _ hq) (cwV 0 hts gX6_numberOfAll_X0_openedCount rfl rfl rfl (by decide +kernel) ⟨Nat.le_of_ble_eq_true rfl, Nat.le_of_ble_eq_true rfl⟩) ⟨xPre_blind, va_recv hK hP (ci := 0) (q0 := 4) rfl rfl, xPre_of hPc hK hDc⟩ rfl rfl hl.1 rfl (lv_room (Nat.le_of_ble_eq_true rfl)) dX6_numberOfAll_127 ⟨Nat.le_of_ble_eq_true rfl, Nat.le_of_ble_eq_true rfl⟩) hS (fun q _ h => hFc q h) hFc (fun r127 u9 t H locs ht hvm hq hB hz1 hk1 hS => ?_)
                obtain ⟨hP1, -, hD1⟩ := hB
                rw [ht] at hP1
                have hP : va_P (dC, dI) vwCl (wX6 cy a v) H := xj_keep hP hD [4, 5, 6, 7, 8, 9, 10, 11, 12, 13, 14, 15, 16, 17, 18, 19, 20, 21, 22, 23, 24] hC hP1 hk1
                exact W.iret (v := r127) hx hb hr (fun t ht hW => ⟨⟨r127, (X6_paths v), rfl, hq, (xAt_of hP hK hD ht hW)⟩, hS.F ht⟩) hS.2.2 dX6_numberOfAll_130
              · have hq := hqB n6
                obtain ⟨hqA, hqB⟩ := hq
                by_cases n7 : x1 = 7
                · have hq := hqA n7
                  refine lv_tableIn (tgt := 131) (off := 130) hx hb dX6_numberOfAll_1 (by rw [n7]; decide) (by rw [n7]; decide) (by rw [n7]; decide) (by decide) ?_
                  refine lv_aload_n hx hb dX6_numberOfAll_131 rfl (lv_at hl 0 rfl) ?_
                  refine va_get (D := (dC, dI)) (ci := 6) (v := .ref (a 4)) (C := RX6) (T := TX6) (N := 9) hx hb hts iK6 hown hK hP 0 rfl rfl 0 (by decide) lk0 (fun _ h9 => h9) rfl dX6_numberOfAll_132 ?_
                  have hC : (([4, 5, 6, 7, 8, 9, 10, 11, 12, 13, 14, 15, 16, 17, 18, 19, 20, 21, 22, 23, 24] : List Nat).map (fun i => (wX6 cy a v)[i]?)) = (wX0 cy (sh a 4) (sh a 1) (X6_lawn v)).map some := (xC_one (n := 4) (m := 21) rfl rfl rfl)
                  have hPc := xsubP hP hC
                  have hDc := xsubD hD (by decide) hC
                  have hFc := va_free (wc := (wX0 cy (sh a 4) (sh a 1) (X6_lawn v))) hD hS hAe0 [4, 5, 6, 7, 8, 9, 10, 11, 12, 13, 14, 15, 16, 17, 18, 19, 20, 21, 22, 23, 24] hC
                  refine va_calli (va_runV (As := []) (rest := []) ⟨hx, hb, hml, hown, hts⟩ (c_X0_trapCount l dC dI cy (sh a 4) (sh a 1) _ (X6_lawn v) _ hq) (cwV 0 hts gX6_numberOfAll_X0_trapCount rfl rfl rfl (by decide +kernel) ⟨Nat.le_of_ble_eq_true rfl, Nat.le_of_ble_eq_true rfl⟩) ⟨xPre_blind, va_recv hK hP (ci := 0) (q0 := 4) rfl rfl, xPre_of hPc hK hDc⟩ rfl rfl hl.1 rfl (lv_room (Nat.le_of_ble_eq_true rfl)) dX6_numberOfAll_135 ⟨Nat.le_of_ble_eq_true rfl, Nat.le_of_ble_eq_true rfl⟩) hS (fun q _ h => hFc q h) hFc (fun r135 u9 t H locs ht hvm hq hB hz1 hk1 hS => ?_)
                  obtain ⟨hP1, -, hD1⟩ := hB
                  rw [ht] at hP1
                  have hP : va_P (dC, dI) vwCl (wX6 cy a v) H := xj_keep hP hD [4, 5, 6, 7, 8, 9, 10, 11, 12, 13, 14, 15, 16, 17, 18, 19, 20, 21, 22, 23, 24] hC hP1 hk1
                  exact W.iret (v := r135) hx hb hr (fun t ht hW => ⟨⟨r135, (X6_paths v), rfl, hq, (xAt_of hP hK hD ht hW)⟩, hS.F ht⟩) hS.2.2 dX6_numberOfAll_138
                · have hq := hqB n7
                  obtain ⟨hqA, hqB⟩ := hq
                  by_cases n8 : x1 = 8
                  · have hq := hqA n8
                    refine lv_tableIn (tgt := 139) (off := 138) hx hb dX6_numberOfAll_1 (by rw [n8]; decide) (by rw [n8]; decide) (by rw [n8]; decide) (by decide) ?_
                    refine lv_aload_n hx hb dX6_numberOfAll_139 rfl (lv_at hl 0 rfl) ?_
                    refine va_get (D := (dC, dI)) (ci := 6) (v := .ref (a 4)) (C := RX6) (T := TX6) (N := 9) hx hb hts iK6 hown hK hP 0 rfl rfl 0 (by decide) lk0 (fun _ h9 => h9) rfl dX6_numberOfAll_140 ?_
                    have hC : (([4, 5, 6, 7, 8, 9, 10, 11, 12, 13, 14, 15, 16, 17, 18, 19, 20, 21, 22, 23, 24] : List Nat).map (fun i => (wX6 cy a v)[i]?)) = (wX0 cy (sh a 4) (sh a 1) (X6_lawn v)).map some := (xC_one (n := 4) (m := 21) rfl rfl rfl)
                    have hPc := xsubP hP hC
                    have hDc := xsubD hD (by decide) hC
                    have hFc := va_free (wc := (wX0 cy (sh a 4) (sh a 1) (X6_lawn v))) hD hS hAe0 [4, 5, 6, 7, 8, 9, 10, 11, 12, 13, 14, 15, 16, 17, 18, 19, 20, 21, 22, 23, 24] hC
                    refine va_calli (va_runV (As := []) (rest := []) ⟨hx, hb, hml, hown, hts⟩ (c_X0_rootCount l dC dI cy (sh a 4) (sh a 1) _ (X6_lawn v) _ hq) (cwV 0 hts gX6_numberOfAll_X0_rootCount rfl rfl rfl (by decide +kernel) ⟨Nat.le_of_ble_eq_true rfl, Nat.le_of_ble_eq_true rfl⟩) ⟨xPre_blind, va_recv hK hP (ci := 0) (q0 := 4) rfl rfl, xPre_of hPc hK hDc⟩ rfl rfl hl.1 rfl (lv_room (Nat.le_of_ble_eq_true rfl)) dX6_numberOfAll_143 ⟨Nat.le_of_ble_eq_true rfl, Nat.le_of_ble_eq_true rfl⟩) hS (fun q _ h => hFc q h) hFc (fun r143 u9 t H locs ht hvm hq hB hz1 hk1 hS => ?_)
                    obtain ⟨hP1, -, hD1⟩ := hB
                    rw [ht] at hP1
                    have hP : va_P (dC, dI) vwCl (wX6 cy a v) H := xj_keep hP hD [4, 5, 6, 7, 8, 9, 10, 11, 12, 13, 14, 15, 16, 17, 18, 19, 20, 21, 22, 23, 24] hC hP1 hk1
                    exact W.iret (v := r143) hx hb hr (fun t ht hW => ⟨⟨r143, (X6_paths v), rfl, hq, (xAt_of hP hK hD ht hW)⟩, hS.F ht⟩) hS.2.2 dX6_numberOfAll_146
                  · have hq := hqB n8
                    obtain ⟨hqA, hqB⟩ := hq
                    by_cases n9 : x1 = 9
                    · have hq := hqA n9
                      refine lv_tableIn (tgt := 147) (off := 146) hx hb dX6_numberOfAll_1 (by rw [n9]; decide) (by rw [n9]; decide) (by rw [n9]; decide) (by decide) ?_
                      refine lv_aload_n hx hb dX6_numberOfAll_147 rfl (lv_at hl 0 rfl) ?_
                      refine va_get (D := (dC, dI)) (ci := 6) (v := .ref (a 4)) (C := RX6) (T := TX6) (N := 9) hx hb hts iK6 hown hK hP 0 rfl rfl 0 (by decide) lk0 (fun _ h9 => h9) rfl dX6_numberOfAll_148 ?_
                      refine va_get (D := (dC, dI)) (ci := 0) (v := .int (X0_gnawed (X6_lawn v))) (C := RX0) (T := TX0) (N := 14) hx hb hts iK0 hown hK hP 4 rfl rfl 11 (by decide) lk7 (fun _ h9 => h9) rfl dX6_numberOfAll_151 ?_
                      exact W.iret (v := (X0_gnawed (X6_lawn v))) hx hb hr (fun t ht hW => ⟨⟨(X0_gnawed (X6_lawn v)), (X6_paths v), rfl, hq, (xAt_of hP hK hD ht hW)⟩, hS.F ht⟩) hS.2.2 dX6_numberOfAll_154
                    · have hq := hqB n9
                      obtain ⟨hqA, hqB⟩ := hq
                      by_cases n10 : x1 = 10
                      · have hq := hqA n10
                        refine lv_tableIn (tgt := 155) (off := 154) hx hb dX6_numberOfAll_1 (by rw [n10]; decide) (by rw [n10]; decide) (by rw [n10]; decide) (by decide) ?_
                        refine lv_aload_n hx hb dX6_numberOfAll_155 rfl (lv_at hl 0 rfl) ?_
                        refine va_get (D := (dC, dI)) (ci := 6) (v := .ref (a 4)) (C := RX6) (T := TX6) (N := 9) hx hb hts iK6 hown hK hP 0 rfl rfl 0 (by decide) lk0 (fun _ h9 => h9) rfl dX6_numberOfAll_156 ?_
                        refine va_get (D := (dC, dI)) (ci := 0) (v := .int (X0_risen (X6_lawn v))) (C := RX0) (T := TX0) (N := 14) hx hb hts iK0 hown hK hP 4 rfl rfl 12 (by decide) lk8 (fun _ h9 => h9) rfl dX6_numberOfAll_159 ?_
                        exact W.iret (v := (X0_risen (X6_lawn v))) hx hb hr (fun t ht hW => ⟨⟨(X0_risen (X6_lawn v)), (X6_paths v), rfl, hq, (xAt_of hP hK hD ht hW)⟩, hS.F ht⟩) hS.2.2 dX6_numberOfAll_162
                      · have hq := hqB n10
                        obtain ⟨hqA, hqB⟩ := hq
                        by_cases n11 : x1 = 11
                        · have hq := hqA n11
                          refine lv_tableIn (tgt := 163) (off := 162) hx hb dX6_numberOfAll_1 (by rw [n11]; decide) (by rw [n11]; decide) (by rw [n11]; decide) (by decide) ?_
                          refine lv_aload_n hx hb dX6_numberOfAll_163 rfl (lv_at hl 0 rfl) ?_
                          refine va_get (D := (dC, dI)) (ci := 6) (v := .ref (a 4)) (C := RX6) (T := TX6) (N := 9) hx hb hts iK6 hown hK hP 0 rfl rfl 0 (by decide) lk0 (fun _ h9 => h9) rfl dX6_numberOfAll_164 ?_
                          refine va_get (D := (dC, dI)) (ci := 0) (v := .int (X0_fallen (X6_lawn v))) (C := RX0) (T := TX0) (N := 14) hx hb hts iK0 hown hK hP 4 rfl rfl 13 (by decide) lk9 (fun _ h9 => h9) rfl dX6_numberOfAll_167 ?_
                          exact W.iret (v := (X0_fallen (X6_lawn v))) hx hb hr (fun t ht hW => ⟨⟨(X0_fallen (X6_lawn v)), (X6_paths v), rfl, hq, (xAt_of hP hK hD ht hW)⟩, hS.F ht⟩) hS.2.2 dX6_numberOfAll_170
                        · have hq := hqB n11
                          obtain ⟨hqA, hqB⟩ := hq
                          by_cases n12 : x1 = 12
                          · have hq := hqA n12
                            refine lv_tableIn (tgt := 171) (off := 170) hx hb dX6_numberOfAll_1 (by rw [n12]; decide) (by rw [n12]; decide) (by rw [n12]; decide) (by decide) ?_
                            refine lv_aload_n hx hb dX6_numberOfAll_171 rfl (lv_at hl 0 rfl) ?_
                            refine va_get (D := (dC, dI)) (ci := 6) (v := .ref (a 201)) (C := RX6) (T := TX6) (N := 9) hx hb hts iK6 hown hK hP 0 rfl rfl 6 (by decide) lk10 (fun _ h9 => h9) rfl dX6_numberOfAll_172 ?_
                            refine lv_aload_n hx hb dX6_numberOfAll_175 rfl (lv_at hl 0 rfl) ?_
                            refine va_get (D := (dC, dI)) (ci := 6) (v := .ref (a 4)) (C := RX6) (T := TX6) (N := 9) hx hb hts iK6 hown hK hP 0 rfl rfl 0 (by decide) lk0 (fun _ h9 => h9) rfl dX6_numberOfAll_176 ?_
                            have hC : (([201, 202, 203, 4, 5, 6, 7, 8, 9, 10, 11, 12, 13, 14, 15, 16, 17, 18, 19, 20, 21, 22, 23, 24] : List Nat).map (fun i => (wX6 cy a v)[i]?)) = (wX2 cy (sh a 201) (X6_paths v) ++ wX0 cy (sh a 4) (sh a 1) (X6_lawn v)).map some := (xC_app (i1 := [201, 202, 203]) (i2 := [4, 5, 6, 7, 8, 9, 10, 11, 12, 13, 14, 15, 16, 17, 18, 19, 20, 21, 22, 23, 24]) rfl (xC_one (n := 201) (m := 3) rfl rfl rfl) (xC_one (n := 4) (m := 21) rfl rfl rfl))
                            have hPc := xsubP hP hC
                            have hDc := xsubD hD (by decide) hC
                            have hFc := va_free (wc := (wX2 cy (sh a 201) (X6_paths v) ++ wX0 cy (sh a 4) (sh a 1) (X6_lawn v))) hD hS hAe0 [201, 202, 203, 4, 5, 6, 7, 8, 9, 10, 11, 12, 13, 14, 15, 16, 17, 18, 19, 20, 21, 22, 23, 24] hC
                            refine va_calli (va_runV (As := [.ref (a 4)]) (rest := []) ⟨hx, hb, hml, hown, hts⟩ (c_X2_groupCount l dC dI cy (sh a 201) (sh a 4) (sh a 1) _ (X6_paths v) (X6_lawn v) _ hq) (cwV 1 hts gX6_numberOfAll_X2_groupCount rfl rfl rfl (by decide +kernel) ⟨Nat.le_of_ble_eq_true rfl, Nat.le_of_ble_eq_true rfl⟩) ⟨xPre_blind, va_recv hK hP (ci := 2) (q0 := 201) rfl rfl, xPre_of hPc hK hDc⟩ rfl rfl hl.1 rfl (lv_room (Nat.le_of_ble_eq_true rfl)) dX6_numberOfAll_179 ⟨Nat.le_of_ble_eq_true rfl, Nat.le_of_ble_eq_true rfl⟩) hS (fun q _ h => hFc q h) hFc (fun r179 z179_v_group t H locs ht hvm hq hB hz1 hk1 hS => ?_)
                            obtain ⟨hP1, -, hD1⟩ := hB
                            rw [ht] at hP1
                            obtain ⟨hP, hD⟩ := xj hP hD [201, 202, 203, 4, 5, 6, 7, 8, 9, 10, 11, 12, 13, 14, 15, 16, 17, 18, 19, 20, 21, 22, 23, 24] (cX2 cy (sh a 201) (X2_distance (X6_paths v)) z179_v_group ++ wX0 cy (sh a 4) (sh a 1) (X6_lawn v)) (ws' := (cX6 cy a (X6_lawn v) (X6_snapshot v) (X6_trial v) (X6_savedR v) (X6_saved v) (X6_text v) (X6_survey v) ((X2_distance (X6_paths v)), z179_v_group) (X6_snapshotTaken v) (X6_savedCount v) (X6_spareR v))) hC rfl (xS_app (n := 201) (m := 3) (i2 := [4, 5, 6, 7, 8, 9, 10, 11, 12, 13, 14, 15, 16, 17, 18, 19, 20, 21, 22, 23, 24]) rfl rfl rfl (xS_one (n := 4) (m := 21) rfl rfl rfl)) hk1 hFc hP1
                            exact W.iret (v := r179) hx hb hr (fun t ht hW => ⟨⟨r179, (X2_s1 (X6_paths v) z179_v_group), rfl, hq, (xAt_of hP hK hD ht hW)⟩, hS.F ht⟩) hS.2.2 dX6_numberOfAll_182
                          · have hq := hqB n12
                            obtain ⟨hqA, hqB⟩ := hq
                            by_cases n13 : x1 = 13
                            · have hq := hqA n13
                              refine lv_tableIn (tgt := 183) (off := 182) hx hb dX6_numberOfAll_1 (by rw [n13]; decide) (by rw [n13]; decide) (by rw [n13]; decide) (by decide) ?_
                              refine lv_aload_n hx hb dX6_numberOfAll_183 rfl (lv_at hl 0 rfl) ?_
                              refine va_get (D := (dC, dI)) (ci := 6) (v := .ref (a 4)) (C := RX6) (T := TX6) (N := 9) hx hb hts iK6 hown hK hP 0 rfl rfl 0 (by decide) lk0 (fun _ h9 => h9) rfl dX6_numberOfAll_184 ?_
                              refine va_get (D := (dC, dI)) (ci := 0) (v := .int (X0_fullAir (X6_lawn v))) (C := RX0) (T := TX0) (N := 14) hx hb hts iK0 hown hK hP 4 rfl rfl 8 (by decide) lk11 (fun _ h9 => h9) rfl dX6_numberOfAll_187 ?_
                              exact W.iret (v := (X0_fullAir (X6_lawn v))) hx hb hr (fun t ht hW => ⟨⟨(X0_fullAir (X6_lawn v)), (X6_paths v), rfl, hq, (xAt_of hP hK hD ht hW)⟩, hS.F ht⟩) hS.2.2 dX6_numberOfAll_190
                            · have hq := hqB n13
                              refine lv_tableOut (tgt := 191) hx hb dX6_numberOfAll_1 (by have e0 := lv_neT n0 (show (0 : Int32).toInt = 0 from by decide); have e1 := lv_neT n1 (show (1 : Int32).toInt = 1 from by decide); have e2 := lv_neT n2 (show (2 : Int32).toInt = 2 from by decide); have e3 := lv_neT n3 (show (3 : Int32).toInt = 3 from by decide); have e4 := lv_neT n4 (show (4 : Int32).toInt = 4 from by decide); have e5 := lv_neT n5 (show (5 : Int32).toInt = 5 from by decide); have e6 := lv_neT n6 (show (6 : Int32).toInt = 6 from by decide); have e7 := lv_neT n7 (show (7 : Int32).toInt = 7 from by decide); have e8 := lv_neT n8 (show (8 : Int32).toInt = 8 from by decide); have e9 := lv_neT n9 (show (9 : Int32).toInt = 9 from by decide); have e10 := lv_neT n10 (show (10 : Int32).toInt = 10 from by decide); have e11 := lv_neT n11 (show (11 : Int32).toInt = 11 from by decide); have e12 := lv_neT n12 (show (12 : Int32).toInt = 12 from by decide); have e13 := lv_neT n13 (show (13 : Int32).toInt = 13 from by decide); omega) (by decide) ?_
                              refine lv_aload_n hx hb dX6_numberOfAll_191 rfl (lv_at hl 0 rfl) ?_
                              refine va_get (D := (dC, dI)) (ci := 6) (v := .int (X6_savedCount v)) (C := RX6) (T := TX6) (N := 9) hx hb hts iK6 hown hK hP 0 rfl rfl 8 (by decide) lk12 (fun _ h9 => h9) rfl dX6_numberOfAll_192 ?_
                              exact W.iret (v := (X6_savedCount v)) hx hb hr (fun t ht hW => ⟨⟨(X6_savedCount v), (X6_paths v), rfl, hq, (xAt_of hP hK hD ht hW)⟩, hS.F ht⟩) hS.2.2 dX6_numberOfAll_195
