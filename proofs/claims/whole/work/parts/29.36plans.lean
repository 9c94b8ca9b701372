def wp_X6_plans_99 (v : V_X6) (z30_v_saved : (Nat → V_X0)) (z30_v_savedCount : Int32) (z30_v_savedR : (Nat → Nat)) (y30_1 : Int32) (y30_2 : Int32) (y30_3 : Int32) (z30_v_lawn : V_X0) (B30 : Int32 → Int32 → Int32 → V_X0 → Prop) (y99_2 : Int32) (y99_4 : Int32) (Q : Int32 → V_X0 → (Nat → V_X0) → Int32 → (Nat → Nat) → V_X5 → Prop) (QX : String → Prop) : Prop :=
  ((y99_4 = (-1) → B30 y30_1 y99_2 (y30_3 + 1) z30_v_lawn) ∧
  (¬ y99_4 = (-1) → wp_X0_hasRoomInPlan z30_v_lawn y99_2 (fun r110 =>
  ((r110 = 0 → B30 y30_1 y99_2 (y30_3 + 1) z30_v_lawn) ∧
  (¬ r110 = 0 → vp_in y99_2 4 ∧ ((X0_molesR z30_v_lawn) y99_2.toNatClampNeg) < 4 ∧ wp_X1_addDirection ((X0_moles z30_v_lawn) ((X0_molesR z30_v_lawn) y99_2.toNatClampNeg)) y99_4 (fun z127_v_directions z127_v_planned =>
  B30 (y30_1 + 1) y99_2 (y30_3 + 1) (X0_s6 z30_v_lawn (va_up (X0_moles z30_v_lawn) ((X0_molesR z30_v_lawn) y99_2.toNatClampNeg) (X1_s2 (X1_s0 ((X0_moles z30_v_lawn) ((X0_molesR z30_v_lawn) y99_2.toNatClampNeg)) z127_v_directions) z127_v_planned)))))))))
def wb_X6_plans_30 (v : V_X6) (z30_v_saved : (Nat → V_X0)) (z30_v_savedCount : Int32) (z30_v_savedR : (Nat → Nat)) (y30_1 : Int32) (y30_2 : Int32) (y30_3 : Int32) (z30_v_lawn : V_X0) (B30 : Int32 → Int32 → Int32 → V_X0 → Prop) (Q : Int32 → V_X0 → (Nat → V_X0) → Int32 → (Nat → Nat) → V_X5 → Prop) (QX : String → Prop) : Prop :=
  (((X5_length (X6_text v)) ≤ y30_3 → Q y30_1 z30_v_lawn z30_v_saved z30_v_savedCount z30_v_savedR (X5_s1 (X6_text v) 0)) ∧
  (¬ (X5_length (X6_text v)) ≤ y30_3 → vp_in y30_3 60 ∧ wp_X5_directionOf ((X5_codes (X6_text v)) y30_3.toNatClampNeg) (fun r50 =>
  ((((X5_codes (X6_text v)) y30_3.toNatClampNeg) < 48 → wp_X6_plans_99 v z30_v_saved z30_v_savedCount z30_v_savedR y30_1 y30_2 y30_3 z30_v_lawn B30 y30_2 r50  Q QX) ∧
  (¬ ((X5_codes (X6_text v)) y30_3.toNatClampNeg) < 48 → ((51 < ((X5_codes (X6_text v)) y30_3.toNatClampNeg) → wp_X6_plans_99 v z30_v_saved z30_v_savedCount z30_v_savedR y30_1 y30_2 y30_3 z30_v_lawn B30 y30_2 r50  Q QX) ∧
  (¬ 51 < ((X5_codes (X6_text v)) y30_3.toNatClampNeg) → B30 y30_1 (((X5_codes (X6_text v)) y30_3.toNatClampNeg) - 48) (y30_3 + 1) z30_v_lawn)))))))
def wp_X6_plans_30 (v : V_X6) (z30_v_saved : (Nat → V_X0)) (z30_v_savedCount : Int32) (z30_v_savedR : (Nat → Nat)) (y30_1 : Int32) (y30_2 : Int32) (y30_3 : Int32) (z30_v_lawn : V_X0) (Q : Int32 → V_X0 → (Nat → V_X0) → Int32 → (Nat → Nat) → V_X5 → Prop) (QX : String → Prop) : Prop :=
  ∃ (I : Int32 → Int32 → Int32 → V_X0 → Prop) (μ : Int32 → Int32 → Int32 → V_X0 → Nat), I y30_1 y30_2 y30_3 z30_v_lawn ∧ ∀ (s0 : Int32) (s1 : Int32) (s2 : Int32) (s3 : V_X0), I s0 s1 s2 s3 → wb_X6_plans_30 v z30_v_saved z30_v_savedCount z30_v_savedR s0 s1 s2 s3 (fun t0 t1 t2 t3 => I t0 t1 t2 t3 ∧ μ t0 t1 t2 t3 < μ s0 s1 s2 s3) Q QX
def wp_X6_plans (v : V_X6) (Q : Int32 → V_X0 → (Nat → V_X0) → Int32 → (Nat → Nat) → V_X5 → Prop) (QX : String → Prop) : Prop :=
  wp_X5_isComplete (X6_text v) (fun r4 =>
  ((r4 = 0 → QX "java/lang/IllegalArgumentException") ∧
  (¬ r4 = 0 → wp_X6_saveState v (fun z21_v_saved z21_v_savedCount z21_v_savedR =>
  wp_X6_plans_30 v z21_v_saved z21_v_savedCount z21_v_savedR 0 (-1) 0 (X6_lawn v) Q QX))))
def q_X6_plans (dC : Nat → ClassId) (dI : Nat → Nat → Nat) (cy : Nat → ClassId) (a : Nat → Nat) (v : V_X6) (Q : Int32 → V_X0 → (Nat → V_X0) → Int32 → (Nat → Nat) → V_X5 → Prop) (A : Nat → Prop) : Array Value → State → Outcome → State → Prop := va_Qi (fun (r : Int32) (u : V_X0 × (Nat → V_X0) × Int32 × (Nat → Nat) × V_X5) => Q r u.1 u.2.1 u.2.2.1 u.2.2.2.1 u.2.2.2.2) (fun (u : V_X0 × (Nat → V_X0) × Int32 × (Nat → Nat) × V_X5) t => xAt dC dI cy A (cX6 cy a u.1 (X6_snapshot v) (X6_trial v) u.2.2.2.1 u.2.1 u.2.2.2.2 (X6_survey v) (X6_paths v) (X6_snapshotTaken v) u.2.2.1 (X6_spareR v)) t) A
set_option maxHeartbeats 4000000 in
set_option maxRecDepth 100000 in
theorem c_X6_plans (l : Launch) (dC : Nat → ClassId) (dI : Nat → Nat → Nat) (cy : Nat → ClassId) (a : Nat → Nat) (sz : Nat) (v : V_X6) (Q : Int32 → V_X0 → (Nat → V_X0) → Int32 → (Nat → Nat) → V_X5 → Prop) (QX : String → Prop) (hl9 : l.stackTraces = false) (hq : wp_X6_plans v Q QX) : vx_Met l yX6_plans wsX6_plans ({ frames := 6, cells := 1, slots := 6, locals := 102 } : Room) (va_Pc [.ref (a 0)] (xPreX dC dI cy (wX6 cy a v) sz)) (q_X6_plans dC dI cy a v Q (va_A (wX6 cy a v) sz)) (xX dC dI cy (va_A (wX6 cy a v) sz) (wX6 cy a v) QX) 1 6 (va_A (wX6 cy a v) sz) := by
  refine vx_ofW (cc := cX6_plans) (maxL := 5) (ret := (some .int)) (by decide) rfl ?_
  intro p e s m args below meth c s₁ B hml hexc hv
  obtain ⟨rfl, hsz, hP, hK, hD0, hE⟩ := hv
  have hx := B.exec
  have hb := B.bytes
  have hr := B.returns
  have hts := atoms_spec (ws := wsX6_plans) B.pre
  have hown : s.vm.findClass RX6 = some m.cls := findClass_of_methodNamed B.named
  have hlocks := B.notSynchronized
  subst hsz
  have hD := hD0.self (sz := s.heap.size)
  generalize hAe : va_A (wX6 cy a v) s.heap.size = A at hD hE ⊢
  have hAe0 : ∀ q : Nat, s.heap.size ≤ q → A q := fun q h => by rw [← hAe]; exact Or.inr h
  have hS : va_S A s.heap s.heap [] := va_S.rf
  have hl := lv_entry ([.ref (a 0)]) (n := 5) (Nat.le_of_ble_eq_true rfl)
  rw [lg_entry_eq]
  generalize (lg_sl ([.ref (a 0)]) ++ List.replicate (5 - (lg_sl ([.ref (a 0)])).length) Slot.unset).toArray = ls at hl ⊢
  have hl : lv_has ls 5 [(0, .ref (a 0))] := hl
  have lk0 := hts (Cond.fieldLink RX6 15 "MolesLawn" "lawn" "LMolesLawn$Lawn;") (List.mem_cons_of_mem _ (List.mem_append_left _ (List.mem_append_left _ (List.mem_append_left _ (List.mem_append_left _ (List.mem_append_left _ (List.mem_append_left _ (List.mem_append_left _ (List.mem_of_getElem? (i := 5) rfl)))))))))
  have lk1 := hts (Cond.fieldLink RX6 86 "MolesLawn$Lawn" "moles" "[LMolesLawn$Mole;") (List.mem_cons_of_mem _ (List.mem_append_left _ (List.mem_append_left _ (List.mem_append_left _ (List.mem_append_left _ (List.mem_append_left _ (List.mem_append_left _ (List.mem_append_left _ (List.mem_of_getElem? (i := 6) rfl)))))))))
  have lk2 := hts (Cond.fieldLink RX6 34 "MolesLawn" "text" "LMolesLawn$Text;") (List.mem_cons_of_mem _ (List.mem_append_left _ (List.mem_append_left _ (List.mem_append_left _ (List.mem_append_left _ (List.mem_append_left _ (List.mem_append_left _ (List.mem_append_left _ (List.mem_of_getElem? (i := 2) rfl)))))))))
  have lk3 := hts (Cond.fieldLink RX6 148 "MolesLawn$Text" "length" "I") (List.mem_cons_of_mem _ (List.mem_append_left _ (List.mem_append_left _ (List.mem_append_left _ (List.mem_append_left _ (List.mem_append_left _ (List.mem_append_left _ (List.mem_append_left _ (List.mem_of_getElem? (i := 3) rfl)))))))))
  have lk4 := hts (Cond.fieldLink RX6 165 "MolesLawn$Text" "codes" "[I") (List.mem_cons_of_mem _ (List.mem_append_left _ (List.mem_append_left _ (List.mem_append_left _ (List.mem_append_left _ (List.mem_append_left _ (List.mem_append_left _ (List.mem_append_left _ (List.mem_of_getElem? (i := 4) rfl)))))))))
  have lk5 := hts (Cond.classLink RX6 81 "java/lang/IllegalArgumentException") (List.mem_cons_of_mem _ (List.mem_append_left _ (List.mem_append_left _ (List.mem_append_left _ (List.mem_append_left _ (List.mem_append_left _ (List.mem_append_left _ (List.mem_append_left _ (List.mem_of_getElem? (i := 0) rfl)))))))))
  have lk6 := hts (Cond.initialized "java/lang/IllegalArgumentException") (List.mem_cons_of_mem _ (List.mem_append_left _ (List.mem_append_left _ (List.mem_append_left _ (List.mem_append_left _ (List.mem_append_left _ (List.mem_append_left _ (List.mem_append_left _ (List.mem_of_getElem? (i := 1) rfl)))))))))
  have iK0 : ∀ w ∈ wsX00, w ∈ wsX6_plans := fun _ h => (List.mem_cons_of_mem _ (List.mem_append_left _ (List.mem_append_left _ (List.mem_append_left _ (List.mem_append_right _ h)))))
  have iK5 : ∀ w ∈ wsX50, w ∈ wsX6_plans := fun _ h => (List.mem_cons_of_mem _ (List.mem_append_left _ (List.mem_append_left _ (List.mem_append_left _ (List.mem_append_left _ (List.mem_append_right _ h))))))
  have iK6 : ∀ w ∈ wsX60, w ∈ wsX6_plans := fun _ h => (List.mem_cons_of_mem _ (List.mem_append_left _ (List.mem_append_left _ (List.mem_append_left _ (List.mem_append_left _ (List.mem_append_left _ (List.mem_append_right _ h)))))))
  unfold wp_X6_plans at hq
  have J30 : ∀ (z30_v_saved : (Nat → V_X0)) (z30_v_savedCount : Int32) (z30_v_savedR : (Nat → Nat)) (y30_1 : Int32) (y30_2 : Int32) (y30_3 : Int32) (z30_v_lawn : V_X0) (H : Heap) (locs : List Loc) (ls : Array Slot), wp_X6_plans_30 v z30_v_saved z30_v_savedCount z30_v_savedR y30_1 y30_2 y30_3 z30_v_lawn Q QX → va_P (dC, dI) vwCl (cX6 cy a z30_v_lawn (X6_snapshot v) (X6_trial v) z30_v_savedR z30_v_saved (X6_text v) (X6_survey v) (X6_paths v) (X6_snapshotTaken v) z30_v_savedCount (X6_spareR v)) H → va_D A (cX6 cy a z30_v_lawn (X6_snapshot v) (X6_trial v) z30_v_savedR z30_v_saved (X6_text v) (X6_survey v) (X6_paths v) (X6_snapshotTaken v) z30_v_savedCount (X6_spareR v)) → va_S A s.heap H locs → lv_has ls 5 [(0, .ref (a 0)), (1, .int y30_1), (2, .int y30_2), (3, .int y30_3)] → W p l e (headSpec wsX6_plans ({ frames := 6, cells := 1, slots := 6, locals := 102 } : Room)).room s m ([.ref (a 0)] : List Value).toArray below meth c H locs 0 0 (vx_MQ below (q_X6_plans dC dI cy a v Q A) (xX dC dI cy A (wX6 cy a v) QX) ([.ref (a 0)] : List Value).toArray s 1 6 A) (F0 m 30 ls []) := by
    intro z30_v_saved z30_v_savedCount z30_v_savedR y30_1 y30_2 y30_3 z30_v_lawn H locs ls hq hP hD hS hl
    obtain ⟨I30, μ30, h0, hs30⟩ := hq
    have key : ∀ (n : Nat) (y30_1 : Int32) (y30_2 : Int32) (y30_3 : Int32) (z30_v_lawn : V_X0) (H : Heap) (locs : List Loc) (ls : Array Slot), I30 y30_1 y30_2 y30_3 z30_v_lawn → μ30 y30_1 y30_2 y30_3 z30_v_lawn < n → va_P (dC, dI) vwCl (cX6 cy a z30_v_lawn (X6_snapshot v) (X6_trial v) z30_v_savedR z30_v_saved (X6_text v) (X6_survey v) (X6_paths v) (X6_snapshotTaken v) z30_v_savedCount (X6_spareR v)) H → va_D A (cX6 cy a z30_v_lawn (X6_snapshot v) (X6_trial v) z30_v_savedR z30_v_saved (X6_text v) (X6_survey v) (X6_paths v) (X6_snapshotTaken v) z30_v_savedCount (X6_spareR v)) → va_S A s.heap H locs → lv_has ls 5 [(0, .ref (a 0)), (1, .int y30_1), (2, .int y30_2), (3, .int y30_3)] → W p l e (headSpec wsX6_plans ({ frames := 6, cells := 1, slots := 6, locals := 102 } : Room)).room s m ([.ref (a 0)] : List Value).toArray below meth c H locs 0 0 (vx_MQ below (q_X6_plans dC dI cy a v Q A) (xX dC dI cy A (wX6 cy a v) QX) ([.ref (a 0)] : List Value).toArray s 1 6 A) (F0 m 30 ls []) := by
      intro n
      induction n with
      | zero => intro y30_1 y30_2 y30_3 z30_v_lawn H locs ls _ hm; exact absurd hm (Nat.not_lt_zero _)
      | succ n ih =>
        intro y30_1 y30_2 y30_3 z30_v_lawn H locs ls hI hm hP hD hS hl
        have hq := hs30 y30_1 y30_2 y30_3 z30_v_lawn hI
        generalize hB30 : (fun (t0 : Int32) (t1 : Int32) (t2 : Int32) (t3 : V_X0) => I30 t0 t1 t2 t3 ∧ μ30 t0 t1 t2 t3 < μ30 y30_1 y30_2 y30_3 z30_v_lawn) = B30 at hq
        have bk30 : ∀ (y30_1 : Int32) (y30_2 : Int32) (y30_3 : Int32) (z30_v_lawn : V_X0) (H : Heap) (locs : List Loc) (ls : Array Slot), B30 y30_1 y30_2 y30_3 z30_v_lawn → va_P (dC, dI) vwCl (cX6 cy a z30_v_lawn (X6_snapshot v) (X6_trial v) z30_v_savedR z30_v_saved (X6_text v) (X6_survey v) (X6_paths v) (X6_snapshotTaken v) z30_v_savedCount (X6_spareR v)) H → va_D A (cX6 cy a z30_v_lawn (X6_snapshot v) (X6_trial v) z30_v_savedR z30_v_saved (X6_text v) (X6_survey v) (X6_paths v) (X6_snapshotTaken v) z30_v_savedCount (X6_spareR v)) → va_S A s.heap H locs → lv_has ls 5 [(0, .ref (a 0)), (1, .int y30_1), (2, .int y30_2), (3, .int y30_3)] → W p l e (headSpec wsX6_plans ({ frames := 6, cells := 1, slots := 6, locals := 102 } : Room)).room s m ([.ref (a 0)] : List Value).toArray below meth c H locs 0 0 (vx_MQ below (q_X6_plans dC dI cy a v Q A) (xX dC dI cy A (wX6 cy a v) QX) ([.ref (a 0)] : List Value).toArray s 1 6 A) (F0 m 30 ls []) := by
          intro y30_1 y30_2 y30_3 z30_v_lawn H locs ls h
          rw [← hB30] at h
          exact ih y30_1 y30_2 y30_3 z30_v_lawn H locs ls h.1 (Nat.lt_of_lt_of_le h.2 (Nat.le_of_lt_succ hm))
        unfold wb_X6_plans_30 at hq
        have J99 : ∀ (y99_2 : Int32) (y99_4 : Int32) (H : Heap) (locs : List Loc) (ls : Array Slot), wp_X6_plans_99 v z30_v_saved z30_v_savedCount z30_v_savedR y30_1 y30_2 y30_3 z30_v_lawn B30 y99_2 y99_4 Q QX → va_P (dC, dI) vwCl (cX6 cy a z30_v_lawn (X6_snapshot v) (X6_trial v) z30_v_savedR z30_v_saved (X6_text v) (X6_survey v) (X6_paths v) (X6_snapshotTaken v) z30_v_savedCount (X6_spareR v)) H → va_D A (cX6 cy a z30_v_lawn (X6_snapshot v) (X6_trial v) z30_v_savedR z30_v_saved (X6_text v) (X6_survey v) (X6_paths v) (X6_snapshotTaken v) z30_v_savedCount (X6_spareR v)) → va_S A s.heap H locs → lv_has ls 5 [(0, .ref (a 0)), (1, .int y30_1), (2, .int y99_2), (3, .int y30_3), (4, .int y99_4)] → W p l e (headSpec wsX6_plans ({ frames := 6, cells := 1, slots := 6, locals := 102 } : Room)).room s m ([.ref (a 0)] : List Value).toArray below meth c H locs 0 0 (vx_MQ below (q_X6_plans dC dI cy a v Q A) (xX dC dI cy A (wX6 cy a v) QX) ([.ref (a 0)] : List Value).toArray s 1 6 A) (F0 m 99 ls []) := by
          intro y99_2 y99_4 H locs ls hq hP hD hS hl
          unfold wp_X6_plans_99 at hq
          refine lv_iload hx hb dX6_plans_99 (lv_at hl 4 rfl) ?_
          refine lv_iconst (v := (-1)) hx hb dX6_plans_101 (by decide) ?_
          obtain ⟨hqA, hqB⟩ := hq
          refine lv_icmp_eq (tgt := 133) hx hb dX6_plans_102 (by decide) (fun c4 => ?_) (fun c4 => ?_)
          · have hq := hqA c4
            refine lv_iinc (v := (y30_3 + 1)) (lv' := [(3, .int (y30_3 + 1)), (0, .ref (a 0)), (1, .int y30_1), (2, .int y99_2), (4, .int y99_4)]) hx hb dX6_plans_133 hl (k := 3) rfl rfl (by decide) rfl (fun ls hl => ?_)
            refine lv_goto (tgt := 30) hx hb dX6_plans_136 (by decide) ?_
            exact bk30 y30_1 y99_2 (y30_3 + 1) z30_v_lawn _ _ _ hq hP hD hS (lv_sub hl [1, 2, 3, 0] rfl)
          · have hq := hqB c4
            refine lv_aload_n hx hb dX6_plans_105 rfl (lv_at hl 0 rfl) ?_
            refine va_get (D := (dC, dI)) (ci := 6) (v := .ref (a 4)) (C := RX6) (T := TX6) (N := 9) hx hb hts iK6 hown hK hP 0 rfl rfl 0 (by decide) lk0 (fun _ h9 => h9) rfl dX6_plans_106 ?_
            refine lv_iload_n hx hb dX6_plans_109 rfl (lv_at hl 2 rfl) ?_
            have hC : (([4, 5, 6, 7, 8, 9, 10, 11, 12, 13, 14, 15, 16, 17, 18, 19, 20, 21, 22, 23, 24] : List Nat).map (fun i => (cX6 cy a z30_v_lawn (X6_snapshot v) (X6_trial v) z30_v_savedR z30_v_saved (X6_text v) (X6_survey v) (X6_paths v) (X6_snapshotTaken v) z30_v_savedCount (X6_spareR v))[i]?)) = (wX0 cy (sh a 4) (sh a 1) z30_v_lawn).map some := (xC_one (n := 4) (m := 21) rfl rfl rfl)
            have hPc := xsubP hP hC
            have hDc := xsubD hD (by decide) hC
            have hFc := va_free (wc := (wX0 cy (sh a 4) (sh a 1) z30_v_lawn)) hD hS hAe0 [4, 5, 6, 7, 8, 9, 10, 11, 12, 13, 14, 15, 16, 17, 18, 19, 20, 21, 22, 23, 24] hC
            refine va_calli (va_runV (As := [.int y99_2]) (rest := []) ⟨hx, hb, hml, hown, hts⟩ (c_X0_hasRoomInPlan l dC dI cy (sh a 4) (sh a 1) _ z30_v_lawn y99_2 _ hq) (cwV 1 hts gX6_plans_X0_hasRoomInPlan rfl rfl rfl (by decide +kernel) ⟨Nat.le_of_ble_eq_true rfl, Nat.le_of_ble_eq_true rfl⟩) ⟨xPre_blind, va_recv hK hP (ci := 0) (q0 := 4) rfl rfl, xPre_of hPc hK hDc⟩ rfl rfl hl.1 rfl (lv_room (Nat.le_of_ble_eq_true rfl)) dX6_plans_110 ⟨Nat.le_of_ble_eq_true rfl, Nat.le_of_ble_eq_true rfl⟩) hS (fun q _ h => hFc q h) hFc (fun r110 u9 t H locs ht hvm hq hB hz1 hk1 hS => ?_)
            obtain ⟨hP1, -, hD1⟩ := hB
            rw [ht] at hP1
            have hP : va_P (dC, dI) vwCl (cX6 cy a z30_v_lawn (X6_snapshot v) (X6_trial v) z30_v_savedR z30_v_saved (X6_text v) (X6_survey v) (X6_paths v) (X6_snapshotTaken v) z30_v_savedCount (X6_spareR v)) H := xj_keep hP hD [4, 5, 6, 7, 8, 9, 10, 11, 12, 13, 14, 15, 16, 17, 18, 19, 20, 21, 22, 23, 24] hC hP1 hk1
            obtain ⟨hqA, hqB⟩ := hq
            refine lv_if_eq (tgt := 133) hx hb dX6_plans_113 (by decide) (fun c3 => ?_) (fun c3 => ?_)
            · have hq := hqA c3
              refine lv_iinc (v := (y30_3 + 1)) (lv' := [(3, .int (y30_3 + 1)), (0, .ref (a 0)), (1, .int y30_1), (2, .int y99_2), (4, .int y99_4)]) hx hb dX6_plans_133 hl (k := 3) rfl rfl (by decide) rfl (fun ls hl => ?_)
              refine lv_goto (tgt := 30) hx hb dX6_plans_136 (by decide) ?_
              exact bk30 y30_1 y99_2 (y30_3 + 1) z30_v_lawn _ _ _ hq hP hD hS (lv_sub hl [1, 2, 3, 0] rfl)
            · have hq := hqB c3
              refine lv_aload_n hx hb dX6_plans_116 rfl (lv_at hl 0 rfl) ?_
              refine va_get (D := (dC, dI)) (ci := 6) (v := .ref (a 4)) (C := RX6) (T := TX6) (N := 9) hx hb hts iK6 hown hK hP 0 rfl rfl 0 (by decide) lk0 (fun _ h9 => h9) rfl dX6_plans_117 ?_
              refine va_get (D := (dC, dI)) (ci := 0) (v := .ref (a 12)) (C := RX0) (T := TX0) (N := 14) hx hb hts iK0 hown hK hP 4 rfl rfl 6 (by decide) lk1 (fun _ h9 => h9) rfl dX6_plans_120 ?_
              refine lv_iload_n hx hb dX6_plans_123 rfl (lv_at hl 2 rfl) ?_
              obtain ⟨g1, hq⟩ := hq
              obtain ⟨g2, hq⟩ := hq
              refine va_aldq hx hb hK hP 12 2 rfl rfl g1 dX6_plans_124 ?_
              refine lv_iload hx hb dX6_plans_125 (lv_at hl 4 rfl) ?_
              have hC : (([(13 + 3 * ((X0_molesR z30_v_lawn) y99_2.toNatClampNeg)), (14 + 3 * ((X0_molesR z30_v_lawn) y99_2.toNatClampNeg)), (15 + 3 * ((X0_molesR z30_v_lawn) y99_2.toNatClampNeg))] : List Nat).map (fun i => (cX6 cy a z30_v_lawn (X6_snapshot v) (X6_trial v) z30_v_savedR z30_v_saved (X6_text v) (X6_survey v) (X6_paths v) (X6_snapshotTaken v) z30_v_savedCount (X6_spareR v))[i]?)) = (wX1 cy (sh (sh a 4) (9 + 3 * ((X0_molesR z30_v_lawn) y99_2.toNatClampNeg))) ((X0_moles z30_v_lawn) ((X0_molesR z30_v_lawn) y99_2.toNatClampNeg))).map some := (co_4 (P := fun i19 => (([(13 + 3 * i19), (14 + 3 * i19), (15 + 3 * i19)] : List Nat).map (fun i => (cX6 cy a z30_v_lawn (X6_snapshot v) (X6_trial v) z30_v_savedR z30_v_saved (X6_text v) (X6_survey v) (X6_paths v) (X6_snapshotTaken v) z30_v_savedCount (X6_spareR v))[i]?)) = (wX1 cy (sh (sh a 4) (9 + 3 * i19)) ((X0_moles z30_v_lawn) i19)).map some) rfl rfl rfl rfl g2)
              have hN : va_nd [(13 + 3 * ((X0_molesR z30_v_lawn) y99_2.toNatClampNeg)), (14 + 3 * ((X0_molesR z30_v_lawn) y99_2.toNatClampNeg)), (15 + 3 * ((X0_molesR z30_v_lawn) y99_2.toNatClampNeg))] = true := (co_4 (P := fun i19 => va_nd [(13 + 3 * i19), (14 + 3 * i19), (15 + 3 * i19)] = true) rfl rfl rfl rfl g2)
              have hPc := xsubP hP hC
              have hDc := xsubD hD hN hC
              have hFc := va_free (wc := (wX1 cy (sh (sh a 4) (9 + 3 * ((X0_molesR z30_v_lawn) y99_2.toNatClampNeg))) ((X0_moles z30_v_lawn) ((X0_molesR z30_v_lawn) y99_2.toNatClampNeg)))) hD hS hAe0 [(13 + 3 * ((X0_molesR z30_v_lawn) y99_2.toNatClampNeg)), (14 + 3 * ((X0_molesR z30_v_lawn) y99_2.toNatClampNeg)), (15 + 3 * ((X0_molesR z30_v_lawn) y99_2.toNatClampNeg))] hC
              refine va_callv (va_runV (As := [.int y99_4]) (rest := []) ⟨hx, hb, hml, hown, hts⟩ (c_X1_addDirection l dC dI cy (sh (sh a 4) (9 + 3 * ((X0_molesR z30_v_lawn) y99_2.toNatClampNeg))) _ ((X0_moles z30_v_lawn) ((X0_molesR z30_v_lawn) y99_2.toNatClampNeg)) y99_4 _ hq) (cwV 1 hts gX6_plans_X1_addDirection rfl rfl rfl (by decide +kernel) ⟨Nat.le_of_ble_eq_true rfl, Nat.le_of_ble_eq_true rfl⟩) ⟨xPre_blind, va_recv hK hP (ci := 1) (q0 := (13 + 3 * ((X0_molesR z30_v_lawn) y99_2.toNatClampNeg))) rfl (co_4 (P := fun i19 => (cX6 cy a z30_v_lawn (X6_snapshot v) (X6_trial v) z30_v_savedR z30_v_saved (X6_text v) (X6_survey v) (X6_paths v) (X6_snapshotTaken v) z30_v_savedCount (X6_spareR v))[(13 + 3 * i19)]? = (wX1 cy (sh (sh a 4) (9 + 3 * i19)) ((X0_moles z30_v_lawn) i19))[0]?) rfl rfl rfl rfl g2), xPre_of hPc hK hDc⟩ rfl rfl hl.1 rfl (lv_room (Nat.le_of_ble_eq_true rfl)) dX6_plans_127 ⟨Nat.le_of_ble_eq_true rfl, Nat.le_of_ble_eq_true rfl⟩) hS (fun q _ h => hFc q h) hFc (fun u9 t H locs ht hvm hq hB hz1 hk1 hS => ?_)
              obtain ⟨z127_v_directions, z127_v_planned⟩ := u9
              obtain ⟨hP1, -, hD1⟩ := hB
              rw [ht] at hP1
              obtain ⟨hP, hD⟩ := xj hP hD [(13 + 3 * ((X0_molesR z30_v_lawn) y99_2.toNatClampNeg)), (14 + 3 * ((X0_molesR z30_v_lawn) y99_2.toNatClampNeg)), (15 + 3 * ((X0_molesR z30_v_lawn) y99_2.toNatClampNeg))] (cX1 cy (sh (sh a 4) (9 + 3 * ((X0_molesR z30_v_lawn) y99_2.toNatClampNeg))) z127_v_directions (X1_trail ((X0_moles z30_v_lawn) ((X0_molesR z30_v_lawn) y99_2.toNatClampNeg))) z127_v_planned (X1_trailLength ((X0_moles z30_v_lawn) ((X0_molesR z30_v_lawn) y99_2.toNatClampNeg))) (X1_air ((X0_moles z30_v_lawn) ((X0_molesR z30_v_lawn) y99_2.toNatClampNeg))) (X1_steps ((X0_moles z30_v_lawn) ((X0_molesR z30_v_lawn) y99_2.toNatClampNeg))) (X1_lost ((X0_moles z30_v_lawn) ((X0_molesR z30_v_lawn) y99_2.toNatClampNeg)))) (ws' := (cX6 cy a ((X0_mounds z30_v_lawn), (X0_opened z30_v_lawn), (X0_roots z30_v_lawn), (X0_traps z30_v_lawn), (X0_tunnels z30_v_lawn), (X0_molesR z30_v_lawn), (va_up (X0_moles z30_v_lawn) ((X0_molesR z30_v_lawn) y99_2.toNatClampNeg) (z127_v_directions, (X1_trail ((X0_moles z30_v_lawn) ((X0_molesR z30_v_lawn) y99_2.toNatClampNeg))), z127_v_planned, (X1_trailLength ((X0_moles z30_v_lawn) ((X0_molesR z30_v_lawn) y99_2.toNatClampNeg))), (X1_air ((X0_moles z30_v_lawn) ((X0_molesR z30_v_lawn) y99_2.toNatClampNeg))), (X1_steps ((X0_moles z30_v_lawn) ((X0_molesR z30_v_lawn) y99_2.toNatClampNeg))), (X1_lost ((X0_moles z30_v_lawn) ((X0_molesR z30_v_lawn) y99_2.toNatClampNeg))))), (X0_moleCount z30_v_lawn), (X0_fullAir z30_v_lawn), (X0_beats z30_v_lawn), (X0_caught z30_v_lawn), (X0_gnawed z30_v_lawn), (X0_risen z30_v_lawn), (X0_fallen z30_v_lawn)) (X6_snapshot v) (X6_trial v) z30_v_savedR z30_v_saved (X6_text v) (X6_survey v) (X6_paths v) (X6_snapshotTaken v) z30_v_savedCount (X6_spareR v))) hC rfl (co_4 (P := fun i19 => xput (cX6 cy a z30_v_lawn (X6_snapshot v) (X6_trial v) z30_v_savedR z30_v_saved (X6_text v) (X6_survey v) (X6_paths v) (X6_snapshotTaken v) z30_v_savedCount (X6_spareR v)) [(13 + 3 * i19), (14 + 3 * i19), (15 + 3 * i19)] (cX1 cy (sh (sh a 4) (9 + 3 * i19)) z127_v_directions (X1_trail ((X0_moles z30_v_lawn) i19)) z127_v_planned (X1_trailLength ((X0_moles z30_v_lawn) i19)) (X1_air ((X0_moles z30_v_lawn) i19)) (X1_steps ((X0_moles z30_v_lawn) i19)) (X1_lost ((X0_moles z30_v_lawn) i19))) = (cX6 cy a ((X0_mounds z30_v_lawn), (X0_opened z30_v_lawn), (X0_roots z30_v_lawn), (X0_traps z30_v_lawn), (X0_tunnels z30_v_lawn), (X0_molesR z30_v_lawn), (va_up (X0_moles z30_v_lawn) i19 (z127_v_directions, (X1_trail ((X0_moles z30_v_lawn) i19)), z127_v_planned, (X1_trailLength ((X0_moles z30_v_lawn) i19)), (X1_air ((X0_moles z30_v_lawn) i19)), (X1_steps ((X0_moles z30_v_lawn) i19)), (X1_lost ((X0_moles z30_v_lawn) i19)))), (X0_moleCount z30_v_lawn), (X0_fullAir z30_v_lawn), (X0_beats z30_v_lawn), (X0_caught z30_v_lawn), (X0_gnawed z30_v_lawn), (X0_risen z30_v_lawn), (X0_fallen z30_v_lawn)) (X6_snapshot v) (X6_trial v) z30_v_savedR z30_v_saved (X6_text v) (X6_survey v) (X6_paths v) (X6_snapshotTaken v) z30_v_savedCount (X6_spareR v))) rfl rfl rfl rfl g2) hk1 hFc hP1
              refine lv_iinc (v := (y30_1 + 1)) (lv' := [(1, .int (y30_1 + 1)), (0, .ref (a 0)), (2, .int y99_2), (3, .int y30_3), (4, .int y99_4)]) hx hb dX6_plans_130 hl (k := 1) rfl rfl (by decide) rfl (fun ls hl => ?_)
              refine lv_iinc (v := (y30_3 + 1)) (lv' := [(3, .int (y30_3 + 1)), (1, .int (y30_1 + 1)), (0, .ref (a 0)), (2, .int y99_2), (4, .int y99_4)]) hx hb dX6_plans_133 hl (k := 3) rfl rfl (by decide) rfl (fun ls hl => ?_)
              refine lv_goto (tgt := 30) hx hb dX6_plans_136 (by decide) ?_
              exact bk30 (y30_1 + 1) y99_2 (y30_3 + 1) (X0_s6 z30_v_lawn (va_up (X0_moles z30_v_lawn) ((X0_molesR z30_v_lawn) y99_2.toNatClampNeg) (X1_s2 (X1_s0 ((X0_moles z30_v_lawn) ((X0_molesR z30_v_lawn) y99_2.toNatClampNeg)) z127_v_directions) z127_v_planned))) _ _ _ hq hP hD hS (lv_sub hl [2, 1, 3, 0] rfl)
        refine lv_iload_n hx hb dX6_plans_30 rfl (lv_at hl 3 rfl) ?_
        refine lv_aload_n hx hb dX6_plans_31 rfl (lv_at hl 0 rfl) ?_
        refine va_get (D := (dC, dI)) (ci := 6) (v := .ref (a 194)) (C := RX6) (T := TX6) (N := 9) hx hb hts iK6 hown hK hP 0 rfl rfl 4 (by decide) lk2 (fun _ h9 => h9) rfl dX6_plans_32 ?_
        refine va_get (D := (dC, dI)) (ci := 5) (v := .int (X5_length (X6_text v))) (C := RX5) (T := TX5) (N := 2) hx hb hts iK5 hown hK hP 194 rfl rfl 1 (by decide) lk3 (fun _ h9 => h9) rfl dX6_plans_35 ?_
        obtain ⟨hqA, hqB⟩ := hq
        refine lv_icmp_ge (tgt := 139) hx hb dX6_plans_38 (by decide) (fun c8 => ?_) (fun c8 => ?_)
        · have hq := hqA c8
          refine lv_aload_n hx hb dX6_plans_139 rfl (lv_at hl 0 rfl) ?_
          refine va_get (D := (dC, dI)) (ci := 6) (v := .ref (a 194)) (C := RX6) (T := TX6) (N := 9) hx hb hts iK6 hown hK hP 0 rfl rfl 4 (by decide) lk2 (fun _ h9 => h9) rfl dX6_plans_140 ?_
          refine lv_iconst (v := 0) hx hb dX6_plans_143 (by decide) ?_
          refine va_put (D := (dC, dI)) (ci := 5) (v := .int 0) (ty := .int) (C := RX5) (T := TX5) (N := 2) hx hb hts iK5 tyX5 tyX5_ok nmX5 hown hK hP hD hS 194 rfl rfl 1 (by decide) lk3 (fun _ h9 => h9) rfl (by decide +kernel) rfl rfl (Nat.le_of_ble_eq_true rfl) dX6_plans_144 (fun H locs hP hD hS => ?_)
          have hP : va_P (dC, dI) vwCl (cX6 cy a z30_v_lawn (X6_snapshot v) (X6_trial v) z30_v_savedR z30_v_saved ((X5_codes (X6_text v)), 0) (X6_survey v) (X6_paths v) (X6_snapshotTaken v) z30_v_savedCount (X6_spareR v)) H := hP
          have hD : va_D A (cX6 cy a z30_v_lawn (X6_snapshot v) (X6_trial v) z30_v_savedR z30_v_saved ((X5_codes (X6_text v)), 0) (X6_survey v) (X6_paths v) (X6_snapshotTaken v) z30_v_savedCount (X6_spareR v)) := hD
          refine lv_iload_n hx hb dX6_plans_147 rfl (lv_at hl 1 rfl) ?_
          refine vx_ret ?_
          refine W.widen (k := 1) (n := 6) (Nat.le_of_ble_eq_true rfl) (Nat.le_of_ble_eq_true rfl) ?_
          exact W.iret (v := y30_1) hx hb hr (fun t ht hW => ⟨⟨y30_1, (z30_v_lawn, z30_v_saved, z30_v_savedCount, z30_v_savedR, (X5_s1 (X6_text v) 0)), rfl, hq, (xAt_of hP hK hD ht hW)⟩, hS.F ht⟩) hS.2.2 dX6_plans_148
        · have hq := hqB c8
          refine lv_aload_n hx hb dX6_plans_41 rfl (lv_at hl 0 rfl) ?_
          refine va_get (D := (dC, dI)) (ci := 6) (v := .ref (a 194)) (C := RX6) (T := TX6) (N := 9) hx hb hts iK6 hown hK hP 0 rfl rfl 4 (by decide) lk2 (fun _ h9 => h9) rfl dX6_plans_42 ?_
          refine va_get (D := (dC, dI)) (ci := 5) (v := .ref (a 195)) (C := RX5) (T := TX5) (N := 2) hx hb hts iK5 hown hK hP 194 rfl rfl 0 (by decide) lk4 (fun _ h9 => h9) rfl dX6_plans_45 ?_
          refine lv_iload_n hx hb dX6_plans_48 rfl (lv_at hl 3 rfl) ?_
          obtain ⟨g5, hq⟩ := hq
          refine va_iald hx hb hK hP 195 0 rfl rfl g5 dX6_plans_49 ?_
          have hFc := xfree_none hS hAe0
          refine va_calli (va_runS (As := [.int ((X5_codes (X6_text v)) y30_3.toNatClampNeg)]) (rest := []) ⟨hx, hb, hml, hown, hts⟩ (c_X5_directionOf l dC dI cy  _ ((X5_codes (X6_text v)) y30_3.toNatClampNeg) _ hq) (va_cwS 1 hts gX6_plans_X5_directionOf rfl rfl rfl (by decide +kernel) ⟨Nat.le_of_ble_eq_true rfl, Nat.le_of_ble_eq_true rfl⟩) ⟨xPre_blind, xPre_of xP_nil hK (xD_nil (A := A))⟩ rfl rfl hl.1 rfl (lv_room (Nat.le_of_ble_eq_true rfl)) dX6_plans_50 ⟨Nat.le_of_ble_eq_true rfl, Nat.le_of_ble_eq_true rfl⟩) hS (fun q _ h => hFc q h) hFc (fun r50 u9 t H locs ht hvm hq hB hz1 hk1 hS => ?_)
          have hP := xj_none hP hk1
          refine lv_istore (lv' := [(4, .int r50), (0, .ref (a 0)), (1, .int y30_1), (2, .int y30_2), (3, .int y30_3)]) hx hb dX6_plans_53 hl (by decide) rfl (fun ls hl => ?_)
          refine lv_aload_n hx hb dX6_plans_55 rfl (lv_at hl 1 rfl) ?_
          refine va_get (D := (dC, dI)) (ci := 6) (v := .ref (a 194)) (C := RX6) (T := TX6) (N := 9) hx hb hts iK6 hown hK hP 0 rfl rfl 4 (by decide) lk2 (fun _ h9 => h9) rfl dX6_plans_56 ?_
          refine va_get (D := (dC, dI)) (ci := 5) (v := .ref (a 195)) (C := RX5) (T := TX5) (N := 2) hx hb hts iK5 hown hK hP 194 rfl rfl 0 (by decide) lk4 (fun _ h9 => h9) rfl dX6_plans_59 ?_
          refine lv_iload_n hx hb dX6_plans_62 rfl (lv_at hl 4 rfl) ?_
          refine va_iald hx hb hK hP 195 0 rfl rfl g5 dX6_plans_63 ?_
          refine lv_bipush (v := 48) hx hb dX6_plans_64 (by decide) ?_
          obtain ⟨hqA, hqB⟩ := hq
          refine lv_icmp_lt (tgt := 99) hx hb dX6_plans_66 (by decide) (fun c7 => ?_) (fun c7 => ?_)
          · have hq := hqA c7
            exact J99 y30_2 r50  _ _ _ hq hP hD hS (lv_sub hl [1, 2, 3, 4, 0] rfl)
          · have hq := hqB c7
            refine lv_aload_n hx hb dX6_plans_69 rfl (lv_at hl 1 rfl) ?_
            refine va_get (D := (dC, dI)) (ci := 6) (v := .ref (a 194)) (C := RX6) (T := TX6) (N := 9) hx hb hts iK6 hown hK hP 0 rfl rfl 4 (by decide) lk2 (fun _ h9 => h9) rfl dX6_plans_70 ?_
            refine va_get (D := (dC, dI)) (ci := 5) (v := .ref (a 195)) (C := RX5) (T := TX5) (N := 2) hx hb hts iK5 hown hK hP 194 rfl rfl 0 (by decide) lk4 (fun _ h9 => h9) rfl dX6_plans_73 ?_
            refine lv_iload_n hx hb dX6_plans_76 rfl (lv_at hl 4 rfl) ?_
            refine va_iald hx hb hK hP 195 0 rfl rfl g5 dX6_plans_77 ?_
            refine lv_bipush (v := 51) hx hb dX6_plans_78 (by decide) ?_
            obtain ⟨hqA, hqB⟩ := hq
            refine lv_icmp_gt (tgt := 99) hx hb dX6_plans_80 (by decide) (fun c6 => ?_) (fun c6 => ?_)
            · have hq := hqA c6
              exact J99 y30_2 r50  _ _ _ hq hP hD hS (lv_sub hl [1, 2, 3, 4, 0] rfl)
            · have hq := hqB c6
              refine lv_aload_n hx hb dX6_plans_83 rfl (lv_at hl 1 rfl) ?_
              refine va_get (D := (dC, dI)) (ci := 6) (v := .ref (a 194)) (C := RX6) (T := TX6) (N := 9) hx hb hts iK6 hown hK hP 0 rfl rfl 4 (by decide) lk2 (fun _ h9 => h9) rfl dX6_plans_84 ?_
              refine va_get (D := (dC, dI)) (ci := 5) (v := .ref (a 195)) (C := RX5) (T := TX5) (N := 2) hx hb hts iK5 hown hK hP 194 rfl rfl 0 (by decide) lk4 (fun _ h9 => h9) rfl dX6_plans_87 ?_
              refine lv_iload_n hx hb dX6_plans_90 rfl (lv_at hl 4 rfl) ?_
              refine va_iald hx hb hK hP 195 0 rfl rfl g5 dX6_plans_91 ?_
              refine lv_bipush (v := 48) hx hb dX6_plans_92 (by decide) ?_
              refine lv_isub hx hb dX6_plans_94 ?_
              refine lv_istore_n (lv' := [(2, .int (((X5_codes (X6_text v)) y30_3.toNatClampNeg) - 48)), (4, .int r50), (0, .ref (a 0)), (1, .int y30_1), (3, .int y30_3)]) hx hb dX6_plans_95 rfl hl (by decide) rfl (fun ls hl => ?_)
              refine lv_goto (tgt := 133) hx hb dX6_plans_96 (by decide) ?_
              refine lv_iinc (v := (y30_3 + 1)) (lv' := [(3, .int (y30_3 + 1)), (2, .int (((X5_codes (X6_text v)) y30_3.toNatClampNeg) - 48)), (4, .int r50), (0, .ref (a 0)), (1, .int y30_1)]) hx hb dX6_plans_133 hl (k := 4) rfl rfl (by decide) rfl (fun ls hl => ?_)
              refine lv_goto (tgt := 30) hx hb dX6_plans_136 (by decide) ?_
              exact bk30 y30_1 (((X5_codes (X6_text v)) y30_3.toNatClampNeg) - 48) (y30_3 + 1) z30_v_lawn _ _ _ hq hP hD hS (lv_sub hl [3, 4, 1, 0] rfl)
    exact key _ y30_1 y30_2 y30_3 z30_v_lawn H locs ls h0 (Nat.lt_succ_self _) hP hD hS hl
  refine lv_aload_n hx hb dX6_plans_0 rfl (lv_at hl 0 rfl) ?_
  refine va_get (D := (dC, dI)) (ci := 6) (v := .ref (a 194)) (C := RX6) (T := TX6) (N := 9) hx hb hts iK6 hown hK hP 0 rfl rfl 4 (by decide) lk2 (fun _ h9 => h9) rfl dX6_plans_1 ?_
  have hC : (([194, 195] : List Nat).map (fun i => (wX6 cy a v)[i]?)) = (wX5 cy (sh a 194) (X6_text v)).map some := rfl
  have hPc := xsubP hP hC
  have hDc := xsubD hD (by decide) hC
  have hFc := va_free (wc := (wX5 cy (sh a 194) (X6_text v))) hD hS hAe0 [194, 195] hC
  refine va_calli (va_runV (As := []) (rest := []) ⟨hx, hb, hml, hown, hts⟩ (c_X5_isComplete l dC dI cy (sh a 194) _ (X6_text v) _ hq) (cwV 0 hts gX6_plans_X5_isComplete rfl rfl rfl (by decide +kernel) ⟨Nat.le_of_ble_eq_true rfl, Nat.le_of_ble_eq_true rfl⟩) ⟨xPre_blind, va_recv hK hP (ci := 5) (q0 := 194) rfl rfl, xPre_of hPc hK hDc⟩ rfl rfl hl.1 rfl (lv_room (Nat.le_of_ble_eq_true rfl)) dX6_plans_4 ⟨Nat.le_of_ble_eq_true rfl, Nat.le_of_ble_eq_true rfl⟩) hS (fun q _ h => hFc q h) hFc (fun r4 u9 t H locs ht hvm hq hB hz1 hk1 hS => ?_)
  obtain ⟨hP1, -, hD1⟩ := hB
  rw [ht] at hP1
  have hP : va_P (dC, dI) vwCl (wX6 cy a v) H := xj_keep hP hD [194, 195] hC hP1 hk1
  obtain ⟨hqA, hqB⟩ := hq
  refine lv_if_ne (tgt := 20) hx hb dX6_plans_7 (by decide) (fun c9 => ?_) (fun c9 => ?_)
  · have hq := hqB c9
    refine lv_aload_n hx hb dX6_plans_20 rfl (lv_at hl 0 rfl) ?_
    have hFc := xfree_same hS hAe0 (ws := (wX6 cy a v)) hD
    refine va_callv (va_runV (As := []) (rest := []) ⟨hx, hb, hml, hown, hts⟩ (c_X6_saveState l dC dI cy a _ v _ hq) (cwV 0 hts gX6_plans_X6_saveState rfl rfl rfl (by decide +kernel) ⟨Nat.le_of_ble_eq_true rfl, Nat.le_of_ble_eq_true rfl⟩) ⟨xPre_blind, va_recv hK hP (ci := 6) (q0 := 0) rfl rfl, xPre_of hP hK hD⟩ rfl rfl hl.1 rfl (lv_room (Nat.le_of_ble_eq_true rfl)) dX6_plans_21 ⟨Nat.le_of_ble_eq_true rfl, Nat.le_of_ble_eq_true rfl⟩) hS (fun q _ h => hFc q h) hFc (fun u9 t H locs ht hvm hq hB hz1 hk1 hS => ?_)
    obtain ⟨z21_v_saved, z21_v_savedCount, z21_v_savedR⟩ := u9
    obtain ⟨hP1, -, hD1⟩ := hB
    rw [ht] at hP1
    have hP : va_P (dC, dI) vwCl (cX6 cy a (X6_lawn v) (X6_snapshot v) (X6_trial v) z21_v_savedR z21_v_saved (X6_text v) (X6_survey v) (X6_paths v) (X6_snapshotTaken v) z21_v_savedCount (X6_spareR v)) H := hP1
    have hD : va_D A (cX6 cy a (X6_lawn v) (X6_snapshot v) (X6_trial v) z21_v_savedR z21_v_saved (X6_text v) (X6_survey v) (X6_paths v) (X6_snapshotTaken v) z21_v_savedCount (X6_spareR v)) := hD1.weaken (fun _ q _ h => hFc q.1 h)
    refine lv_iconst (v := 0) hx hb dX6_plans_24 (by decide) ?_
    refine lv_istore_n (lv' := [(1, .int 0), (0, .ref (a 0))]) hx hb dX6_plans_25 rfl hl (by decide) rfl (fun ls hl => ?_)
    refine lv_iconst (v := (-1)) hx hb dX6_plans_26 (by decide) ?_
    refine lv_istore_n (lv' := [(2, .int (-1)), (1, .int 0), (0, .ref (a 0))]) hx hb dX6_plans_27 rfl hl (by decide) rfl (fun ls hl => ?_)
    refine lv_iconst (v := 0) hx hb dX6_plans_28 (by decide) ?_
    refine lv_istore_n (lv' := [(3, .int 0), (2, .int (-1)), (1, .int 0), (0, .ref (a 0))]) hx hb dX6_plans_29 rfl hl (by decide) rfl (fun ls hl => ?_)
    exact J30 z21_v_saved z21_v_savedCount z21_v_savedR 0 (-1) 0 (X6_lawn v) _ _ _ hq hP hD hS (lv_sub hl [3, 2, 1, 0] rfl)
  · have hq := hqA c9
    obtain ⟨sa, hsa⟩ := hE.2.2.2.2.2 (163, "not complete plans") (List.mem_of_getElem? (i := 10) rfl)
    exact vx_throwS (cls := "java/lang/IllegalArgumentException") (names := ["java/lang/RuntimeException", "java/lang/Exception"]) hx hb hl9 hown (by decide +kernel) (by decide +kernel) lk5 lk6 hsa (vx_hat (fun w h => hts w (List.mem_cons_of_mem _ (List.mem_append_right _ h))) xbad_85 (xhat hE (List.mem_of_getElem? (i := 1) rfl))) xok_81_85 hE.2.1 hE.2.2.1 hS (hl.1.trans hml.symm) dX6_plans_10 dX6_plans_13 dX6_plans_14 dX6_plans_16 dX6_plans_19 (fun x h => (hexc x h).elim) (Nat.le_of_ble_eq_true rfl) (Nat.le_of_ble_eq_true rfl) (Nat.le_of_ble_eq_true rfl) (Nat.le_of_ble_eq_true rfl) hlocks (xX_thr hP hK hD hS hq) hS.2.2 (Nat.le_of_ble_eq_true rfl) (Nat.le_of_ble_eq_true rfl)
