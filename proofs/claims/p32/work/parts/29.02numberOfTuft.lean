def wp_X6_numberOfTuft (v : V_X6) (x1 : Int32) (x2 : Int32) (Q : Int32 → Prop) : Prop :=
  ((x2 = 0 → vp_in x1 64 ∧ ((((X0_mounds (X6_lawn v)) x1.toNatClampNeg) = 0 → Q 0) ∧
  (¬ ((X0_mounds (X6_lawn v)) x1.toNatClampNeg) = 0 → Q 1))) ∧
  (¬ x2 = 0 → ((x2 = 1 → vp_in x1 64 ∧ Q ((X0_roots (X6_lawn v)) x1.toNatClampNeg)) ∧
  (¬ x2 = 1 → ((x2 = 2 → vp_in x1 64 ∧ Q ((X0_traps (X6_lawn v)) x1.toNatClampNeg)) ∧
  (¬ x2 = 2 → ((x2 = 3 → vp_in x1 64 ∧ Q ((X4_hollow (X6_survey v)) x1.toNatClampNeg)) ∧
  (¬ x2 = 3 → ((x2 = 4 → wp_X4_countBeside 64 (X4_hollow (X6_survey v)) x1 1 (fun r109 =>
  Q r109)) ∧
  (¬ x2 = 4 → ((x2 = 5 → vp_in x1 64 ∧ ((((X0_opened (X6_lawn v)) x1.toNatClampNeg) = 0 → Q 0) ∧
  (¬ ((X0_opened (X6_lawn v)) x1.toNatClampNeg) = 0 → Q 1))) ∧
  (¬ x2 = 5 → ((x2 = 6 → vp_in x1 64 ∧ Q ((X4_sure (X6_survey v)) x1.toNatClampNeg)) ∧
  (¬ x2 = 6 → ((x2 = 7 → vp_in x1 64 ∧ Q ((X4_crossings (X6_survey v)) x1.toNatClampNeg)) ∧
  (¬ x2 = 7 → wp_X0_molesAt (X6_lawn v) x1 (fun r156 =>
  Q r156)))))))))))))))))
def q_X6_numberOfTuft (dC : Nat → ClassId) (dI : Nat → Nat → Nat) (cy : Nat → ClassId) (a : Nat → Nat) (v : V_X6) (x1 : Int32) (x2 : Int32) (Q : Int32 → Prop) (A : Nat → Prop) : Array Value → State → Outcome → State → Prop := va_Qi (fun (r : Int32) (u : Unit) => Q r ) (fun (u : Unit) t => xAt dC dI cy A (wX6 cy a v) t) A
set_option maxHeartbeats 4000000 in
set_option maxRecDepth 100000 in
theorem c_X6_numberOfTuft (l : Launch) (dC : Nat → ClassId) (dI : Nat → Nat → Nat) (cy : Nat → ClassId) (a : Nat → Nat) (sz : Nat) (v : V_X6) (x1 : Int32) (x2 : Int32) (Q : Int32 → Prop) (hq : wp_X6_numberOfTuft v x1 x2 Q) : Met l yX6_numberOfTuft wsX6_numberOfTuft ({ frames := 3, cells := 0, slots := 0, locals := 68 } : Room) (va_Pc [.ref (a 0), .int x1, .int x2] (xPreE dC dI cy (wX6 cy a v) sz)) (q_X6_numberOfTuft dC dI cy a v x1 x2 Q (va_A (wX6 cy a v) sz)) 0 0 (va_A (wX6 cy a v) sz) := by
  refine Met.ofW (cc := cX6_numberOfTuft) (maxL := 3) (ret := (some .int)) (by decide) rfl ?_
  intro p e s m args below meth c s₁ B hml hv
  obtain ⟨rfl, hsz, hP, hK, hD0, hE⟩ := hv
  have hx := B.exec
  have hb := B.bytes
  have hr := B.returns
  have hts := atoms_spec (ws := wsX6_numberOfTuft) B.pre
  have hown : s.vm.findClass RX6 = some m.cls := findClass_of_methodNamed B.named
  have hlocks := B.notSynchronized
  subst hsz
  have hD := hD0.self (sz := s.heap.size)
  generalize hAe : va_A (wX6 cy a v) s.heap.size = A at hD hE ⊢
  have hAe0 : ∀ q : Nat, s.heap.size ≤ q → A q := fun q h => by rw [← hAe]; exact Or.inr h
  have hS : va_S A s.heap s.heap [] := va_S.rf
  have hl := lv_entry ([.ref (a 0), .int x1, .int x2]) (n := 3) (Nat.le_of_ble_eq_true rfl)
  rw [lg_entry_eq]
  generalize (lg_sl ([.ref (a 0), .int x1, .int x2]) ++ List.replicate (3 - (lg_sl ([.ref (a 0), .int x1, .int x2])).length) Slot.unset).toArray = ls at hl ⊢
  have hl : lv_has ls 3 [(0, .ref (a 0)), (1, .int x1), (2, .int x2)] := hl
  have lk0 := hts (Cond.fieldLink RX6 15 "MolesLawn" "lawn" "LMolesLawn$Lawn;") (List.mem_cons_of_mem _ (List.mem_append_left _ (List.mem_append_left _ (List.mem_append_left _ (List.mem_append_left _ (List.mem_append_left _ (List.mem_of_getElem? (i := 0) rfl)))))))
  have lk1 := hts (Cond.fieldLink RX6 125 "MolesLawn$Lawn" "mounds" "[Z") (List.mem_cons_of_mem _ (List.mem_append_left _ (List.mem_append_left _ (List.mem_append_left _ (List.mem_append_left _ (List.mem_append_left _ (List.mem_of_getElem? (i := 1) rfl)))))))
  have lk2 := hts (Cond.fieldLink RX6 60 "MolesLawn$Lawn" "roots" "[I") (List.mem_cons_of_mem _ (List.mem_append_left _ (List.mem_append_left _ (List.mem_append_left _ (List.mem_append_left _ (List.mem_append_left _ (List.mem_of_getElem? (i := 2) rfl)))))))
  have lk3 := hts (Cond.fieldLink RX6 113 "MolesLawn$Lawn" "traps" "[I") (List.mem_cons_of_mem _ (List.mem_append_left _ (List.mem_append_left _ (List.mem_append_left _ (List.mem_append_left _ (List.mem_append_left _ (List.mem_of_getElem? (i := 3) rfl)))))))
  have lk4 := hts (Cond.fieldLink RX6 41 "MolesLawn" "survey" "LMolesLawn$Survey;") (List.mem_cons_of_mem _ (List.mem_append_left _ (List.mem_append_left _ (List.mem_append_left _ (List.mem_append_left _ (List.mem_append_left _ (List.mem_of_getElem? (i := 4) rfl)))))))
  have lk5 := hts (Cond.fieldLink RX6 287 "MolesLawn$Survey" "hollow" "[I") (List.mem_cons_of_mem _ (List.mem_append_left _ (List.mem_append_left _ (List.mem_append_left _ (List.mem_append_left _ (List.mem_append_left _ (List.mem_of_getElem? (i := 5) rfl)))))))
  have lk6 := hts (Cond.fieldLink RX6 294 "MolesLawn$Lawn" "opened" "[Z") (List.mem_cons_of_mem _ (List.mem_append_left _ (List.mem_append_left _ (List.mem_append_left _ (List.mem_append_left _ (List.mem_append_left _ (List.mem_of_getElem? (i := 6) rfl)))))))
  have lk7 := hts (Cond.fieldLink RX6 297 "MolesLawn$Survey" "sure" "[I") (List.mem_cons_of_mem _ (List.mem_append_left _ (List.mem_append_left _ (List.mem_append_left _ (List.mem_append_left _ (List.mem_append_left _ (List.mem_of_getElem? (i := 7) rfl)))))))
  have lk8 := hts (Cond.fieldLink RX6 300 "MolesLawn$Survey" "crossings" "[I") (List.mem_cons_of_mem _ (List.mem_append_left _ (List.mem_append_left _ (List.mem_append_left _ (List.mem_append_left _ (List.mem_append_left _ (List.mem_of_getElem? (i := 8) rfl)))))))
  have iK0 : ∀ w ∈ wsX00, w ∈ wsX6_numberOfTuft := fun _ h => (List.mem_cons_of_mem _ (List.mem_append_left _ (List.mem_append_left _ (List.mem_append_right _ h))))
  have iK4 : ∀ w ∈ wsX40, w ∈ wsX6_numberOfTuft := fun _ h => (List.mem_cons_of_mem _ (List.mem_append_left _ (List.mem_append_right _ h)))
  have iK6 : ∀ w ∈ wsX60, w ∈ wsX6_numberOfTuft := fun _ h => (List.mem_cons_of_mem _ (List.mem_append_left _ (List.mem_append_left _ (List.mem_append_left _ (List.mem_append_right _ h)))))
  unfold wp_X6_numberOfTuft at hq
  refine lv_iload_n hx hb dX6_numberOfTuft_0 rfl (lv_at hl 2 rfl) ?_
  obtain ⟨hqA, hqB⟩ := hq
  by_cases n0 : x2 = 0
  · have hq := hqA n0
    refine lv_tableIn (tgt := 48) (off := 47) hx hb dX6_numberOfTuft_1 (by rw [n0]; decide) (by rw [n0]; decide) (by rw [n0]; decide) (by decide) ?_
    refine lv_aload_n hx hb dX6_numberOfTuft_48 rfl (lv_at hl 0 rfl) ?_
    refine va_get (D := (dC, dI)) (ci := 6) (v := .ref (a 4)) (C := RX6) (T := TX6) (N := 9) hx hb hts iK6 hown hK hP 0 rfl rfl 0 (by decide) lk0 (fun _ h9 => h9) rfl dX6_numberOfTuft_49 ?_
    refine va_get (D := (dC, dI)) (ci := 0) (v := .ref (a 5)) (C := RX0) (T := TX0) (N := 14) hx hb hts iK0 hown hK hP 4 rfl rfl 0 (by decide) lk1 (fun _ h9 => h9) rfl dX6_numberOfTuft_52 ?_
    refine lv_iload_n hx hb dX6_numberOfTuft_55 rfl (lv_at hl 1 rfl) ?_
    obtain ⟨g1, hq⟩ := hq
    refine va_zald hx hb hK hP 5 1 rfl rfl g1 dX6_numberOfTuft_56 ?_
    obtain ⟨hqA, hqB⟩ := hq
    refine lv_if_eq (tgt := 64) hx hb dX6_numberOfTuft_57 (by decide) (fun c2 => ?_) (fun c2 => ?_)
    · have hq := hqA c2
      refine lv_iconst (v := 0) hx hb dX6_numberOfTuft_64 (by decide) ?_
      exact W.iret (v := 0) hx hb hr (fun t ht hW => ⟨⟨0, (), rfl, hq, (xAt_of hP hK hD ht hW)⟩, hS.F ht⟩) hS.2.2 dX6_numberOfTuft_65
    · have hq := hqB c2
      refine lv_iconst (v := 1) hx hb dX6_numberOfTuft_60 (by decide) ?_
      refine lv_goto (tgt := 65) hx hb dX6_numberOfTuft_61 (by decide) ?_
      exact W.iret (v := 1) hx hb hr (fun t ht hW => ⟨⟨1, (), rfl, hq, (xAt_of hP hK hD ht hW)⟩, hS.F ht⟩) hS.2.2 dX6_numberOfTuft_65
  · have hq := hqB n0
    obtain ⟨hqA, hqB⟩ := hq
    by_cases n1 : x2 = 1
    · have hq := hqA n1
      refine lv_tableIn (tgt := 66) (off := 65) hx hb dX6_numberOfTuft_1 (by rw [n1]; decide) (by rw [n1]; decide) (by rw [n1]; decide) (by decide) ?_
      refine lv_aload_n hx hb dX6_numberOfTuft_66 rfl (lv_at hl 0 rfl) ?_
      refine va_get (D := (dC, dI)) (ci := 6) (v := .ref (a 4)) (C := RX6) (T := TX6) (N := 9) hx hb hts iK6 hown hK hP 0 rfl rfl 0 (by decide) lk0 (fun _ h9 => h9) rfl dX6_numberOfTuft_67 ?_
      refine va_get (D := (dC, dI)) (ci := 0) (v := .ref (a 7)) (C := RX0) (T := TX0) (N := 14) hx hb hts iK0 hown hK hP 4 rfl rfl 2 (by decide) lk2 (fun _ h9 => h9) rfl dX6_numberOfTuft_70 ?_
      refine lv_iload_n hx hb dX6_numberOfTuft_73 rfl (lv_at hl 1 rfl) ?_
      obtain ⟨g3, hq⟩ := hq
      refine va_iald hx hb hK hP 7 0 rfl rfl g3 dX6_numberOfTuft_74 ?_
      exact W.iret (v := ((X0_roots (X6_lawn v)) x1.toNatClampNeg)) hx hb hr (fun t ht hW => ⟨⟨((X0_roots (X6_lawn v)) x1.toNatClampNeg), (), rfl, hq, (xAt_of hP hK hD ht hW)⟩, hS.F ht⟩) hS.2.2 dX6_numberOfTuft_75
    · have hq := hqB n1
      obtain ⟨hqA, hqB⟩ := hq
      by_cases n2 : x2 = 2
      · have hq := hqA n2
        refine lv_tableIn (tgt := 76) (off := 75) hx hb dX6_numberOfTuft_1 (by rw [n2]; decide) (by rw [n2]; decide) (by rw [n2]; decide) (by decide) ?_
        refine lv_aload_n hx hb dX6_numberOfTuft_76 rfl (lv_at hl 0 rfl) ?_
        refine va_get (D := (dC, dI)) (ci := 6) (v := .ref (a 4)) (C := RX6) (T := TX6) (N := 9) hx hb hts iK6 hown hK hP 0 rfl rfl 0 (by decide) lk0 (fun _ h9 => h9) rfl dX6_numberOfTuft_77 ?_
        refine va_get (D := (dC, dI)) (ci := 0) (v := .ref (a 8)) (C := RX0) (T := TX0) (N := 14) hx hb hts iK0 hown hK hP 4 rfl rfl 3 (by decide) lk3 (fun _ h9 => h9) rfl dX6_numberOfTuft_80 ?_
        refine lv_iload_n hx hb dX6_numberOfTuft_83 rfl (lv_at hl 1 rfl) ?_
        obtain ⟨g4, hq⟩ := hq
        refine va_iald hx hb hK hP 8 0 rfl rfl g4 dX6_numberOfTuft_84 ?_
        exact W.iret (v := ((X0_traps (X6_lawn v)) x1.toNatClampNeg)) hx hb hr (fun t ht hW => ⟨⟨((X0_traps (X6_lawn v)) x1.toNatClampNeg), (), rfl, hq, (xAt_of hP hK hD ht hW)⟩, hS.F ht⟩) hS.2.2 dX6_numberOfTuft_85
      · have hq := hqB n2
        obtain ⟨hqA, hqB⟩ := hq
        by_cases n3 : x2 = 3
        · have hq := hqA n3
          refine lv_tableIn (tgt := 86) (off := 85) hx hb dX6_numberOfTuft_1 (by rw [n3]; decide) (by rw [n3]; decide) (by rw [n3]; decide) (by decide) ?_
          refine lv_aload_n hx hb dX6_numberOfTuft_86 rfl (lv_at hl 0 rfl) ?_
          refine va_get (D := (dC, dI)) (ci := 6) (v := .ref (a 196)) (C := RX6) (T := TX6) (N := 9) hx hb hts iK6 hown hK hP 0 rfl rfl 5 (by decide) lk4 (fun _ h9 => h9) rfl dX6_numberOfTuft_87 ?_
          refine va_get (D := (dC, dI)) (ci := 4) (v := .ref (a 197)) (C := RX4) (T := TX4) (N := 4) hx hb hts iK4 hown hK hP 196 rfl rfl 0 (by decide) lk5 (fun _ h9 => h9) rfl dX6_numberOfTuft_90 ?_
          refine lv_iload_n hx hb dX6_numberOfTuft_93 rfl (lv_at hl 1 rfl) ?_
          obtain ⟨g5, hq⟩ := hq
          refine va_iald hx hb hK hP 197 0 rfl rfl g5 dX6_numberOfTuft_94 ?_
          exact W.iret (v := ((X4_hollow (X6_survey v)) x1.toNatClampNeg)) hx hb hr (fun t ht hW => ⟨⟨((X4_hollow (X6_survey v)) x1.toNatClampNeg), (), rfl, hq, (xAt_of hP hK hD ht hW)⟩, hS.F ht⟩) hS.2.2 dX6_numberOfTuft_95
        · have hq := hqB n3
          obtain ⟨hqA, hqB⟩ := hq
          by_cases n4 : x2 = 4
          · have hq := hqA n4
            refine lv_tableIn (tgt := 96) (off := 95) hx hb dX6_numberOfTuft_1 (by rw [n4]; decide) (by rw [n4]; decide) (by rw [n4]; decide) (by decide) ?_
            refine lv_aload_n hx hb dX6_numberOfTuft_96 rfl (lv_at hl 0 rfl) ?_
            refine va_get (D := (dC, dI)) (ci := 6) (v := .ref (a 196)) (C := RX6) (T := TX6) (N := 9) hx hb hts iK6 hown hK hP 0 rfl rfl 5 (by decide) lk4 (fun _ h9 => h9) rfl dX6_numberOfTuft_97 ?_
            refine lv_aload_n hx hb dX6_numberOfTuft_100 rfl (lv_at hl 0 rfl) ?_
            refine va_get (D := (dC, dI)) (ci := 6) (v := .ref (a 196)) (C := RX6) (T := TX6) (N := 9) hx hb hts iK6 hown hK hP 0 rfl rfl 5 (by decide) lk4 (fun _ h9 => h9) rfl dX6_numberOfTuft_101 ?_
            refine va_get (D := (dC, dI)) (ci := 4) (v := .ref (a 197)) (C := RX4) (T := TX4) (N := 4) hx hb hts iK4 hown hK hP 196 rfl rfl 0 (by decide) lk5 (fun _ h9 => h9) rfl dX6_numberOfTuft_104 ?_
            refine lv_iload_n hx hb dX6_numberOfTuft_107 rfl (lv_at hl 1 rfl) ?_
            refine lv_iconst (v := 1) hx hb dX6_numberOfTuft_108 (by decide) ?_
            have hC : (([197] : List Nat).map (fun i => (wX6 cy a v)[i]?)) = (cAI cy (sh a 197) 64 (X4_hollow (X6_survey v))).map some := rfl
            have hPc := xsubP hP hC
            have hDc := xsubD hD (by decide) hC
            have hFc := va_free (wc := (cAI cy (sh a 197) 64 (X4_hollow (X6_survey v)))) hD hS hAe0 [197] hC
            refine va_calli (va_runV (As := [.ref (a 197), .int x1, .int 1]) (rest := []) ⟨hx, hb, hml, hown, hts⟩ (c_X4_countBeside l dC dI cy (sh a 197) (a 196) _ 64 (X4_hollow (X6_survey v)) x1 1 _ hq) (cwV 3 hts gX6_numberOfTuft_X4_countBeside rfl rfl rfl (by decide +kernel) ⟨Nat.le_of_ble_eq_true rfl, Nat.le_of_ble_eq_true rfl⟩) ⟨xPre_blindE, va_recv hK hP (ci := 4) (q0 := 196) rfl rfl, xPre_ofE hPc hK hDc hE hS hFc⟩ rfl rfl hl.1 rfl (lv_room (Nat.le_of_ble_eq_true rfl)) dX6_numberOfTuft_109 ⟨Nat.le_of_ble_eq_true rfl, Nat.le_of_ble_eq_true rfl⟩) hS (fun q _ h => hFc q h) hFc (fun r109 u9 t H locs ht hvm hq hB hz1 hk1 hS => ?_)
            obtain ⟨hP1, -, hD1⟩ := hB
            rw [ht] at hP1
            have hP : va_P (dC, dI) vwCl (wX6 cy a v) H := xj_keep hP hD [197] hC hP1 hk1
            exact W.iret (v := r109) hx hb hr (fun t ht hW => ⟨⟨r109, (), rfl, hq, (xAt_of hP hK hD ht hW)⟩, hS.F ht⟩) hS.2.2 dX6_numberOfTuft_112
          · have hq := hqB n4
            obtain ⟨hqA, hqB⟩ := hq
            by_cases n5 : x2 = 5
            · have hq := hqA n5
              refine lv_tableIn (tgt := 113) (off := 112) hx hb dX6_numberOfTuft_1 (by rw [n5]; decide) (by rw [n5]; decide) (by rw [n5]; decide) (by decide) ?_
              refine lv_aload_n hx hb dX6_numberOfTuft_113 rfl (lv_at hl 0 rfl) ?_
              refine va_get (D := (dC, dI)) (ci := 6) (v := .ref (a 4)) (C := RX6) (T := TX6) (N := 9) hx hb hts iK6 hown hK hP 0 rfl rfl 0 (by decide) lk0 (fun _ h9 => h9) rfl dX6_numberOfTuft_114 ?_
              refine va_get (D := (dC, dI)) (ci := 0) (v := .ref (a 6)) (C := RX0) (T := TX0) (N := 14) hx hb hts iK0 hown hK hP 4 rfl rfl 1 (by decide) lk6 (fun _ h9 => h9) rfl dX6_numberOfTuft_117 ?_
              refine lv_iload_n hx hb dX6_numberOfTuft_120 rfl (lv_at hl 1 rfl) ?_
              obtain ⟨g6, hq⟩ := hq
              refine va_zald hx hb hK hP 6 1 rfl rfl g6 dX6_numberOfTuft_121 ?_
              obtain ⟨hqA, hqB⟩ := hq
              refine lv_if_eq (tgt := 129) hx hb dX6_numberOfTuft_122 (by decide) (fun c7 => ?_) (fun c7 => ?_)
              · have hq := hqA c7
                refine lv_iconst (v := 0) hx hb dX6_numberOfTuft_129 (by decide) ?_
                exact W.iret (v := 0) hx hb hr (fun t ht hW => ⟨⟨0, (), rfl, hq, (xAt_of hP hK hD ht hW)⟩, hS.F ht⟩) hS.2.2 dX6_numberOfTuft_130
              · have hq := hqB c7
                refine lv_iconst (v := 1) hx hb dX6_numberOfTuft_125 (by decide) ?_
                refine lv_goto (tgt := 130) hx hb dX6_numberOfTuft_126 (by decide) ?_
                exact W.iret (v := 1) hx hb hr (fun t ht hW => ⟨⟨1, (), rfl, hq, (xAt_of hP hK hD ht hW)⟩, hS.F ht⟩) hS.2.2 dX6_numberOfTuft_130
            · have hq := hqB n5
              obtain ⟨hqA, hqB⟩ := hq
              by_cases n6 : x2 = 6
              · have hq := hqA n6
                refine lv_tableIn (tgt := 131) (off := 130) hx hb dX6_numberOfTuft_1 (by rw [n6]; decide) (by rw [n6]; decide) (by rw [n6]; decide) (by decide) ?_
                refine lv_aload_n hx hb dX6_numberOfTuft_131 rfl (lv_at hl 0 rfl) ?_
                refine va_get (D := (dC, dI)) (ci := 6) (v := .ref (a 196)) (C := RX6) (T := TX6) (N := 9) hx hb hts iK6 hown hK hP 0 rfl rfl 5 (by decide) lk4 (fun _ h9 => h9) rfl dX6_numberOfTuft_132 ?_
                refine va_get (D := (dC, dI)) (ci := 4) (v := .ref (a 199)) (C := RX4) (T := TX4) (N := 4) hx hb hts iK4 hown hK hP 196 rfl rfl 2 (by decide) lk7 (fun _ h9 => h9) rfl dX6_numberOfTuft_135 ?_
                refine lv_iload_n hx hb dX6_numberOfTuft_138 rfl (lv_at hl 1 rfl) ?_
                obtain ⟨g8, hq⟩ := hq
                refine va_iald hx hb hK hP 199 0 rfl rfl g8 dX6_numberOfTuft_139 ?_
                exact W.iret (v := ((X4_sure (X6_survey v)) x1.toNatClampNeg)) hx hb hr (fun t ht hW => ⟨⟨((X4_sure (X6_survey v)) x1.toNatClampNeg), (), rfl, hq, (xAt_of hP hK hD ht hW)⟩, hS.F ht⟩) hS.2.2 dX6_numberOfTuft_140
              · have hq := hqB n6
                obtain ⟨hqA, hqB⟩ := hq
                by_cases n7 : x2 = 7
                · have hq := hqA n7
                  refine lv_tableIn (tgt := 141) (off := 140) hx hb dX6_numberOfTuft_1 (by rw [n7]; decide) (by rw [n7]; decide) (by rw [n7]; decide) (by decide) ?_
                  refine lv_aload_n hx hb dX6_numberOfTuft_141 rfl (lv_at hl 0 rfl) ?_
                  refine va_get (D := (dC, dI)) (ci := 6) (v := .ref (a 196)) (C := RX6) (T := TX6) (N := 9) hx hb hts iK6 hown hK hP 0 rfl rfl 5 (by decide) lk4 (fun _ h9 => h9) rfl dX6_numberOfTuft_142 ?_
                  refine va_get (D := (dC, dI)) (ci := 4) (v := .ref (a 198)) (C := RX4) (T := TX4) (N := 4) hx hb hts iK4 hown hK hP 196 rfl rfl 1 (by decide) lk8 (fun _ h9 => h9) rfl dX6_numberOfTuft_145 ?_
                  refine lv_iload_n hx hb dX6_numberOfTuft_148 rfl (lv_at hl 1 rfl) ?_
                  obtain ⟨g9, hq⟩ := hq
                  refine va_iald hx hb hK hP 198 0 rfl rfl g9 dX6_numberOfTuft_149 ?_
                  exact W.iret (v := ((X4_crossings (X6_survey v)) x1.toNatClampNeg)) hx hb hr (fun t ht hW => ⟨⟨((X4_crossings (X6_survey v)) x1.toNatClampNeg), (), rfl, hq, (xAt_of hP hK hD ht hW)⟩, hS.F ht⟩) hS.2.2 dX6_numberOfTuft_150
                · have hq := hqB n7
                  refine lv_tableOut (tgt := 151) hx hb dX6_numberOfTuft_1 (by have e0 := lv_neT n0 (show (0 : Int32).toInt = 0 from by decide); have e1 := lv_neT n1 (show (1 : Int32).toInt = 1 from by decide); have e2 := lv_neT n2 (show (2 : Int32).toInt = 2 from by decide); have e3 := lv_neT n3 (show (3 : Int32).toInt = 3 from by decide); have e4 := lv_neT n4 (show (4 : Int32).toInt = 4 from by decide); have e5 := lv_neT n5 (show (5 : Int32).toInt = 5 from by decide); have e6 := lv_neT n6 (show (6 : Int32).toInt = 6 from by decide); have e7 := lv_neT n7 (show (7 : Int32).toInt = 7 from by decide); omega) (by decide) ?_
                  refine lv_aload_n hx hb dX6_numberOfTuft_151 rfl (lv_at hl 0 rfl) ?_
                  refine va_get (D := (dC, dI)) (ci := 6) (v := .ref (a 4)) (C := RX6) (T := TX6) (N := 9) hx hb hts iK6 hown hK hP 0 rfl rfl 0 (by decide) lk0 (fun _ h9 => h9) rfl dX6_numberOfTuft_152 ?_
                  refine lv_iload_n hx hb dX6_numberOfTuft_155 rfl (lv_at hl 1 rfl) ?_
                  have hC : (([4, 5, 6, 7, 8, 9, 10, 11, 12, 13, 14, 15, 16, 17, 18, 19, 20, 21, 22, 23, 24] : List Nat).map (fun i => (wX6 cy a v)[i]?)) = (wX0 cy (sh a 4) (sh a 1) (X6_lawn v)).map some := (xC_one (n := 4) (m := 21) rfl rfl rfl)
                  have hPc := xsubP hP hC
                  have hDc := xsubD hD (by decide) hC
                  have hFc := va_free (wc := (wX0 cy (sh a 4) (sh a 1) (X6_lawn v))) hD hS hAe0 [4, 5, 6, 7, 8, 9, 10, 11, 12, 13, 14, 15, 16, 17, 18, 19, 20, 21, 22, 23, 24] hC
                  refine va_calli (va_runV (As := [.int x1]) (rest := []) ⟨hx, hb, hml, hown, hts⟩ (c_X0_molesAt l dC dI cy (sh a 4) (sh a 1) _ (X6_lawn v) x1 _ hq) (cwV 1 hts gX6_numberOfTuft_X0_molesAt rfl rfl rfl (by decide +kernel) ⟨Nat.le_of_ble_eq_true rfl, Nat.le_of_ble_eq_true rfl⟩) ⟨xPre_blind, va_recv hK hP (ci := 0) (q0 := 4) rfl rfl, xPre_of hPc hK hDc⟩ rfl rfl hl.1 rfl (lv_room (Nat.le_of_ble_eq_true rfl)) dX6_numberOfTuft_156 ⟨Nat.le_of_ble_eq_true rfl, Nat.le_of_ble_eq_true rfl⟩) hS (fun q _ h => hFc q h) hFc (fun r156 u9 t H locs ht hvm hq hB hz1 hk1 hS => ?_)
                  obtain ⟨hP1, -, hD1⟩ := hB
                  rw [ht] at hP1
                  have hP : va_P (dC, dI) vwCl (wX6 cy a v) H := xj_keep hP hD [4, 5, 6, 7, 8, 9, 10, 11, 12, 13, 14, 15, 16, 17, 18, 19, 20, 21, 22, 23, 24] hC hP1 hk1
                  exact W.iret (v := r156) hx hb hr (fun t ht hW => ⟨⟨r156, (), rfl, hq, (xAt_of hP hK hD ht hW)⟩, hS.F ht⟩) hS.2.2 dX6_numberOfTuft_159
