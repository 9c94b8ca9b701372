def wb_X6_hashPaths_35 (v : V_X6) (x1 : Int64) (z35_v_paths : V_X2) (y35_3 : Int64) (y35_6 : Int32) (B35 : Int64 → Int32 → Prop) (Q : Int64 → V_X2 → Prop) : Prop :=
  ((64 ≤ y35_6 → Q y35_3 z35_v_paths) ∧
  (¬ 64 ≤ y35_6 → vp_in y35_6 64 ∧ ((((X0_mounds (X6_lawn v)) y35_6.toNatClampNeg) = 0 → B35 y35_3 (y35_6 + 1)) ∧
  (¬ ((X0_mounds (X6_lawn v)) y35_6.toNatClampNeg) = 0 → B35 ((31 * y35_3) + (((X2_distance z35_v_paths) y35_6.toNatClampNeg).toInt64)) (y35_6 + 1)))))
def wp_X6_hashPaths_35 (v : V_X6) (x1 : Int64) (z35_v_paths : V_X2) (y35_3 : Int64) (y35_6 : Int32) (Q : Int64 → V_X2 → Prop) : Prop :=
  ∃ (I : Int64 → Int32 → Prop) (μ : Int64 → Int32 → Nat), I y35_3 y35_6 ∧ ∀ (s0 : Int64) (s1 : Int32), I s0 s1 → wb_X6_hashPaths_35 v x1 z35_v_paths s0 s1 (fun t0 t1 => I t0 t1 ∧ μ t0 t1 < μ s0 s1) Q
def wp_X6_hashPaths (v : V_X6) (x1 : Int64) (Q : Int64 → V_X2 → Prop) : Prop :=
  wp_X0_lowestMound (X6_lawn v) (fun r6 =>
  ((r6 = (-1) → Q x1 (X6_paths v)) ∧
  (¬ r6 = (-1) → wp_X2_measure (X6_paths v) (X6_lawn v) r6 (fun z29_v_distance =>
  wp_X6_hashPaths_35 v x1 (X2_s0 (X6_paths v) z29_v_distance) x1 0 Q))))
def q_X6_hashPaths (dC : Nat → ClassId) (dI : Nat → Nat → Nat) (cy : Nat → ClassId) (a : Nat → Nat) (v : V_X6) (x1 : Int64) (Q : Int64 → V_X2 → Prop) (A : Nat → Prop) : Array Value → State → Outcome → State → Prop := va_Ql (fun (r : Int64) (u : V_X2) => Q r u) (fun (u : V_X2) t => xAt dC dI cy A (cX6 cy a (X6_lawn v) (X6_snapshot v) (X6_trial v) (X6_savedR v) (X6_saved v) (X6_text v) (X6_survey v) u (X6_snapshotTaken v) (X6_savedCount v) (X6_spareR v)) t) A
set_option maxHeartbeats 4000000 in
set_option maxRecDepth 100000 in
theorem c_X6_hashPaths (l : Launch) (dC : Nat → ClassId) (dI : Nat → Nat → Nat) (cy : Nat → ClassId) (a : Nat → Nat) (sz : Nat) (v : V_X6) (x1 : Int64) (Q : Int64 → V_X2 → Prop) (hq : wp_X6_hashPaths v x1 Q) : Met l yX6_hashPaths wsX6_hashPaths ({ frames := 4, cells := 0, slots := 0, locals := 91 } : Room) (va_Pc [.ref (a 0), .long x1] (xPre dC dI cy (wX6 cy a v) sz)) (q_X6_hashPaths dC dI cy a v x1 Q (va_A (wX6 cy a v) sz)) 0 0 (va_A (wX6 cy a v) sz) := by
  refine Met.ofW (cc := cX6_hashPaths) (maxL := 7) (ret := (some .long)) (by decide) rfl ?_
  intro p e s m args below meth c s₁ B hml hv
  obtain ⟨rfl, hsz, hP, hK, hD0⟩ := hv
  have hx := B.exec
  have hb := B.bytes
  have hr := B.returns
  have hts := atoms_spec (ws := wsX6_hashPaths) B.pre
  have hown : s.vm.findClass RX6 = some m.cls := findClass_of_methodNamed B.named
  have hlocks := B.notSynchronized
  subst hsz
  have hD := hD0.self (sz := s.heap.size)
  generalize hAe : va_A (wX6 cy a v) s.heap.size = A at hD ⊢
  have hAe0 : ∀ q : Nat, s.heap.size ≤ q → A q := fun q h => by rw [← hAe]; exact Or.inr h
  have hS : va_S A s.heap s.heap [] := va_S.rf
  have hl := lv_entry ([.ref (a 0), .long x1]) (n := 7) (Nat.le_of_ble_eq_true rfl)
  rw [lg_entry_eq]
  generalize (lg_sl ([.ref (a 0), .long x1]) ++ List.replicate (7 - (lg_sl ([.ref (a 0), .long x1])).length) Slot.unset).toArray = ls at hl ⊢
  have hl : lv_has ls 7 [(0, .ref (a 0)), (1, .long x1)] := hl
  have lk0 := hts (Cond.fieldLink RX6 15 "MolesLawn" "lawn" "LMolesLawn$Lawn;") (List.mem_cons_of_mem _ (List.mem_append_left _ (List.mem_append_left _ (List.mem_append_left _ (List.mem_append_left _ (List.mem_append_left _ (List.mem_of_getElem? (i := 0) rfl)))))))
  have lk1 := hts (Cond.fieldLink RX6 125 "MolesLawn$Lawn" "mounds" "[Z") (List.mem_cons_of_mem _ (List.mem_append_left _ (List.mem_append_left _ (List.mem_append_left _ (List.mem_append_left _ (List.mem_append_left _ (List.mem_of_getElem? (i := 2) rfl)))))))
  have lk2 := hts (Cond.constantLong RX6 252 (31)) (List.mem_cons_of_mem _ (List.mem_append_left _ (List.mem_append_left _ (List.mem_append_left _ (List.mem_append_left _ (List.mem_append_left _ (List.mem_of_getElem? (i := 3) rfl)))))))
  have lk3 := hts (Cond.fieldLink RX6 48 "MolesLawn" "paths" "LMolesLawn$Paths;") (List.mem_cons_of_mem _ (List.mem_append_left _ (List.mem_append_left _ (List.mem_append_left _ (List.mem_append_left _ (List.mem_append_left _ (List.mem_of_getElem? (i := 1) rfl)))))))
  have lk4 := hts (Cond.fieldLink RX6 227 "MolesLawn$Paths" "distance" "[I") (List.mem_cons_of_mem _ (List.mem_append_left _ (List.mem_append_left _ (List.mem_append_left _ (List.mem_append_left _ (List.mem_append_left _ (List.mem_of_getElem? (i := 4) rfl)))))))
  have iK0 : ∀ w ∈ wsX00, w ∈ wsX6_hashPaths := fun _ h => (List.mem_cons_of_mem _ (List.mem_append_left _ (List.mem_append_left _ (List.mem_append_right _ h))))
  have iK2 : ∀ w ∈ wsX20, w ∈ wsX6_hashPaths := fun _ h => (List.mem_cons_of_mem _ (List.mem_append_left _ (List.mem_append_right _ h)))
  have iK6 : ∀ w ∈ wsX60, w ∈ wsX6_hashPaths := fun _ h => (List.mem_cons_of_mem _ (List.mem_append_left _ (List.mem_append_left _ (List.mem_append_left _ (List.mem_append_right _ h)))))
  unfold wp_X6_hashPaths at hq
  have J35 : ∀ (z35_v_paths : V_X2) (y35_3 : Int64) (y35_6 : Int32) (H : Heap) (locs : List Loc) (ls : Array Slot), wp_X6_hashPaths_35 v x1 z35_v_paths y35_3 y35_6 Q → va_P (dC, dI) vwCl (cX6 cy a (X6_lawn v) (X6_snapshot v) (X6_trial v) (X6_savedR v) (X6_saved v) (X6_text v) (X6_survey v) z35_v_paths (X6_snapshotTaken v) (X6_savedCount v) (X6_spareR v)) H → va_D A (cX6 cy a (X6_lawn v) (X6_snapshot v) (X6_trial v) (X6_savedR v) (X6_saved v) (X6_text v) (X6_survey v) z35_v_paths (X6_snapshotTaken v) (X6_savedCount v) (X6_spareR v)) → va_S A s.heap H locs → lv_has ls 7 [(0, .ref (a 0)), (3, .long y35_3), (6, .int y35_6)] → W p l e (headSpec wsX6_hashPaths ({ frames := 4, cells := 0, slots := 0, locals := 91 } : Room)).room s m ([.ref (a 0), .long x1] : List Value).toArray below meth c H locs 0 0 (MQ below (q_X6_hashPaths dC dI cy a v x1 Q A) ([.ref (a 0), .long x1] : List Value).toArray s 0 0 A) (F0 m 35 ls []) := by
    intro z35_v_paths y35_3 y35_6 H locs ls hq hP hD hS hl
    obtain ⟨I35, μ35, h0, hs35⟩ := hq
    have key : ∀ (n : Nat) (y35_3 : Int64) (y35_6 : Int32) (H : Heap) (locs : List Loc) (ls : Array Slot), I35 y35_3 y35_6 → μ35 y35_3 y35_6 < n → va_P (dC, dI) vwCl (cX6 cy a (X6_lawn v) (X6_snapshot v) (X6_trial v) (X6_savedR v) (X6_saved v) (X6_text v) (X6_survey v) z35_v_paths (X6_snapshotTaken v) (X6_savedCount v) (X6_spareR v)) H → va_D A (cX6 cy a (X6_lawn v) (X6_snapshot v) (X6_trial v) (X6_savedR v) (X6_saved v) (X6_text v) (X6_survey v) z35_v_paths (X6_snapshotTaken v) (X6_savedCount v) (X6_spareR v)) → va_S A s.heap H locs → lv_has ls 7 [(0, .ref (a 0)), (3, .long y35_3), (6, .int y35_6)] → W p l e (headSpec wsX6_hashPaths ({ frames := 4, cells := 0, slots := 0, locals := 91 } : Room)).room s m ([.ref (a 0), .long x1] : List Value).toArray below meth c H locs 0 0 (MQ below (q_X6_hashPaths dC dI cy a v x1 Q A) ([.ref (a 0), .long x1] : List Value).toArray s 0 0 A) (F0 m 35 ls []) := by
      intro n
      induction n with
      | zero => intro y35_3 y35_6 H locs ls _ hm; exact absurd hm (Nat.not_lt_zero _)
      | succ n ih =>
        intro y35_3 y35_6 H locs ls hI hm hP hD hS hl
        have hq := hs35 y35_3 y35_6 hI
        generalize hB35 : (fun (t0 : Int64) (t1 : Int32) => I35 t0 t1 ∧ μ35 t0 t1 < μ35 y35_3 y35_6) = B35 at hq
        have bk35 : ∀ (y35_3 : Int64) (y35_6 : Int32) (H : Heap) (locs : List Loc) (ls : Array Slot), B35 y35_3 y35_6 → va_P (dC, dI) vwCl (cX6 cy a (X6_lawn v) (X6_snapshot v) (X6_trial v) (X6_savedR v) (X6_saved v) (X6_text v) (X6_survey v) z35_v_paths (X6_snapshotTaken v) (X6_savedCount v) (X6_spareR v)) H → va_D A (cX6 cy a (X6_lawn v) (X6_snapshot v) (X6_trial v) (X6_savedR v) (X6_saved v) (X6_text v) (X6_survey v) z35_v_paths (X6_snapshotTaken v) (X6_savedCount v) (X6_spareR v)) → va_S A s.heap H locs → lv_has ls 7 [(0, .ref (a 0)), (3, .long y35_3), (6, .int y35_6)] → W p l e (headSpec wsX6_hashPaths ({ frames := 4, cells := 0, slots := 0, locals := 91 } : Room)).room s m ([.ref (a 0), .long x1] : List Value).toArray below meth c H locs 0 0 (MQ below (q_X6_hashPaths dC dI cy a v x1 Q A) ([.ref (a 0), .long x1] : List Value).toArray s 0 0 A) (F0 m 35 ls []) := by
          intro y35_3 y35_6 H locs ls h
          rw [← hB35] at h
          exact ih y35_3 y35_6 H locs ls h.1 (Nat.lt_of_lt_of_le h.2 (Nat.le_of_lt_succ hm))
        unfold wb_X6_hashPaths_35 at hq
        refine lv_iload hx hb dX6_hashPaths_35 (lv_at hl 2 rfl) ?_
        refine lv_bipush (v := 64) hx hb dX6_hashPaths_37 (by decide) ?_
        obtain ⟨hqA, hqB⟩ := hq
        refine lv_icmp_ge (tgt := 79) hx hb dX6_hashPaths_39 (by decide) (fun c3 => ?_) (fun c3 => ?_)
        · have hq := hqA c3
          refine lv_lload_n hx hb dX6_hashPaths_79 rfl (lv_at hl 1 rfl) ?_
          exact W.lret (v := y35_3) hx hb hr (fun t ht hW => ⟨⟨y35_3, z35_v_paths, rfl, hq, (xAt_of hP hK hD ht hW)⟩, hS.F ht⟩) hS.2.2 dX6_hashPaths_80
        · have hq := hqB c3
          refine lv_aload_n hx hb dX6_hashPaths_42 rfl (lv_at hl 0 rfl) ?_
          refine va_get (D := (dC, dI)) (ci := 6) (v := .ref (a 4)) (C := RX6) (T := TX6) (N := 9) hx hb hts iK6 hown hK hP 0 rfl rfl 0 (by decide) lk0 (fun _ h9 => h9) rfl dX6_hashPaths_43 ?_
          refine va_get (D := (dC, dI)) (ci := 0) (v := .ref (a 5)) (C := RX0) (T := TX0) (N := 14) hx hb hts iK0 hown hK hP 4 rfl rfl 0 (by decide) lk1 (fun _ h9 => h9) rfl dX6_hashPaths_46 ?_
          refine lv_iload hx hb dX6_hashPaths_49 (lv_at hl 2 rfl) ?_
          obtain ⟨g1, hq⟩ := hq
          refine va_zald hx hb hK hP 5 1 rfl rfl g1 dX6_hashPaths_51 ?_
          obtain ⟨hqA, hqB⟩ := hq
          refine lv_if_eq (tgt := 73) hx hb dX6_hashPaths_52 (by decide) (fun c2 => ?_) (fun c2 => ?_)
          · have hq := hqA c2
            refine lv_iinc (v := (y35_6 + 1)) (lv' := [(6, .int (y35_6 + 1)), (0, .ref (a 0)), (3, .long y35_3)]) hx hb dX6_hashPaths_73 hl (k := 2) rfl rfl (by decide) rfl (fun ls hl => ?_)
            refine lv_goto (tgt := 35) hx hb dX6_hashPaths_76 (by decide) ?_
            exact bk35 y35_3 (y35_6 + 1) _ _ _ hq hP hD hS (lv_sub hl [1, 2, 0] rfl)
          · have hq := hqB c2
            refine lv_ldc2 (v := 31) hx hb hown lk2 dX6_hashPaths_55 ?_
            refine lv_lload_n hx hb dX6_hashPaths_58 rfl (lv_at hl 1 rfl) ?_
            refine lv_lmul hx hb dX6_hashPaths_59 ?_
            refine lv_aload_n hx hb dX6_hashPaths_60 rfl (lv_at hl 0 rfl) ?_
            refine va_get (D := (dC, dI)) (ci := 6) (v := .ref (a 201)) (C := RX6) (T := TX6) (N := 9) hx hb hts iK6 hown hK hP 0 rfl rfl 6 (by decide) lk3 (fun _ h9 => h9) rfl dX6_hashPaths_61 ?_
            refine va_get (D := (dC, dI)) (ci := 2) (v := .ref (a 202)) (C := RX2) (T := TX2) (N := 2) hx hb hts iK2 hown hK hP 201 rfl rfl 0 (by decide) lk4 (fun _ h9 => h9) rfl dX6_hashPaths_64 ?_
            refine lv_iload hx hb dX6_hashPaths_67 (lv_at hl 2 rfl) ?_
            refine va_iald hx hb hK hP 202 0 rfl rfl g1 dX6_hashPaths_69 ?_
            refine lv_i2l hx hb dX6_hashPaths_70 rfl ?_
            refine lv_ladd hx hb dX6_hashPaths_71 ?_
            refine lv_lstore_n (lv' := [(3, .long ((31 * y35_3) + (((X2_distance z35_v_paths) y35_6.toNatClampNeg).toInt64))), (0, .ref (a 0)), (6, .int y35_6)]) hx hb dX6_hashPaths_72 rfl hl (by decide) rfl (fun ls hl => ?_)
            refine lv_iinc (v := (y35_6 + 1)) (lv' := [(6, .int (y35_6 + 1)), (3, .long ((31 * y35_3) + (((X2_distance z35_v_paths) y35_6.toNatClampNeg).toInt64))), (0, .ref (a 0))]) hx hb dX6_hashPaths_73 hl (k := 2) rfl rfl (by decide) rfl (fun ls hl => ?_)
            refine lv_goto (tgt := 35) hx hb dX6_hashPaths_76 (by decide) ?_
            exact bk35 ((31 * y35_3) + (((X2_distance z35_v_paths) y35_6.toNatClampNeg).toInt64)) (y35_6 + 1) _ _ _ hq hP hD hS (lv_sub hl [2, 1, 0] rfl)
    exact key _ y35_3 y35_6 H locs ls h0 (Nat.lt_succ_self _) hP hD hS hl
  refine lv_lload_n hx hb dX6_hashPaths_0 rfl (lv_at hl 1 rfl) ?_
  refine lv_lstore_n (lv' := [(3, .long x1), (0, .ref (a 0)), (1, .long x1)]) hx hb dX6_hashPaths_1 rfl hl (by decide) rfl (fun ls hl => ?_)
  refine lv_aload_n hx hb dX6_hashPaths_2 rfl (lv_at hl 1 rfl) ?_
  refine va_get (D := (dC, dI)) (ci := 6) (v := .ref (a 4)) (C := RX6) (T := TX6) (N := 9) hx hb hts iK6 hown hK hP 0 rfl rfl 0 (by decide) lk0 (fun _ h9 => h9) rfl dX6_hashPaths_3 ?_
  have hC : (([4, 5, 6, 7, 8, 9, 10, 11, 12, 13, 14, 15, 16, 17, 18, 19, 20, 21, 22, 23, 24] : List Nat).map (fun i => (wX6 cy a v)[i]?)) = (wX0 cy (sh a 4) (sh a 1) (X6_lawn v)).map some := (xC_one (n := 4) (m := 21) rfl rfl rfl)
  have hPc := xsubP hP hC
  have hDc := xsubD hD (by decide) hC
  have hFc := va_free (wc := (wX0 cy (sh a 4) (sh a 1) (X6_lawn v))) hD hS hAe0 [4, 5, 6, 7, 8, 9, 10, 11, 12, 13, 14, 15, 16, 17, 18, 19, 20, 21, 22, 23, 24] hC
  refine va_calli (va_runV (As := []) (rest := []) ⟨hx, hb, hml, hown, hts⟩ (c_X0_lowestMound l dC dI cy (sh a 4) (sh a 1) _ (X6_lawn v) _ hq) (cwV 0 hts gX6_hashPaths_X0_lowestMound rfl rfl rfl (by decide +kernel) ⟨Nat.le_of_ble_eq_true rfl, Nat.le_of_ble_eq_true rfl⟩) ⟨xPre_blind, va_recv hK hP (ci := 0) (q0 := 4) rfl rfl, xPre_of hPc hK hDc⟩ rfl rfl hl.1 rfl (lv_room (Nat.le_of_ble_eq_true rfl)) dX6_hashPaths_6 ⟨Nat.le_of_ble_eq_true rfl, Nat.le_of_ble_eq_true rfl⟩) hS (fun q _ h => hFc q h) hFc (fun r6 u9 t H locs ht hvm hq hB hz1 hk1 hS => ?_)
  obtain ⟨hP1, -, hD1⟩ := hB
  rw [ht] at hP1
  have hP : va_P (dC, dI) vwCl (wX6 cy a v) H := xj_keep hP hD [4, 5, 6, 7, 8, 9, 10, 11, 12, 13, 14, 15, 16, 17, 18, 19, 20, 21, 22, 23, 24] hC hP1 hk1
  refine lv_istore (lv' := [(5, .int r6), (3, .long x1), (0, .ref (a 0)), (1, .long x1)]) hx hb dX6_hashPaths_9 hl (by decide) rfl (fun ls hl => ?_)
  refine lv_iload hx hb dX6_hashPaths_11 (lv_at hl 0 rfl) ?_
  refine lv_iconst (v := (-1)) hx hb dX6_hashPaths_13 (by decide) ?_
  obtain ⟨hqA, hqB⟩ := hq
  refine lv_icmp_ne (tgt := 19) hx hb dX6_hashPaths_14 (by decide) (fun c4 => ?_) (fun c4 => ?_)
  · have hq := hqB c4
    refine lv_aload_n hx hb dX6_hashPaths_19 rfl (lv_at hl 2 rfl) ?_
    refine va_get (D := (dC, dI)) (ci := 6) (v := .ref (a 201)) (C := RX6) (T := TX6) (N := 9) hx hb hts iK6 hown hK hP 0 rfl rfl 6 (by decide) lk3 (fun _ h9 => h9) rfl dX6_hashPaths_20 ?_
    refine lv_aload_n hx hb dX6_hashPaths_23 rfl (lv_at hl 2 rfl) ?_
    refine va_get (D := (dC, dI)) (ci := 6) (v := .ref (a 4)) (C := RX6) (T := TX6) (N := 9) hx hb hts iK6 hown hK hP 0 rfl rfl 0 (by decide) lk0 (fun _ h9 => h9) rfl dX6_hashPaths_24 ?_
    refine lv_iload hx hb dX6_hashPaths_27 (lv_at hl 0 rfl) ?_
    have hC : (([201, 202, 203, 4, 5, 6, 7, 8, 9, 10, 11, 12, 13, 14, 15, 16, 17, 18, 19, 20, 21, 22, 23, 24] : List Nat).map (fun i => (wX6 cy a v)[i]?)) = (wX2 cy (sh a 201) (X6_paths v) ++ wX0 cy (sh a 4) (sh a 1) (X6_lawn v)).map some := (xC_app (i1 := [201, 202, 203]) (i2 := [4, 5, 6, 7, 8, 9, 10, 11, 12, 13, 14, 15, 16, 17, 18, 19, 20, 21, 22, 23, 24]) rfl (xC_one (n := 201) (m := 3) rfl rfl rfl) (xC_one (n := 4) (m := 21) rfl rfl rfl))
    have hPc := xsubP hP hC
    have hDc := xsubD hD (by decide) hC
    have hFc := va_free (wc := (wX2 cy (sh a 201) (X6_paths v) ++ wX0 cy (sh a 4) (sh a 1) (X6_lawn v))) hD hS hAe0 [201, 202, 203, 4, 5, 6, 7, 8, 9, 10, 11, 12, 13, 14, 15, 16, 17, 18, 19, 20, 21, 22, 23, 24] hC
    refine va_callv (va_runV (As := [.ref (a 4), .int r6]) (rest := []) ⟨hx, hb, hml, hown, hts⟩ (c_X2_measure l dC dI cy (sh a 201) (sh a 4) (sh a 1) _ (X6_paths v) (X6_lawn v) r6 _ hq) (cwV 2 hts gX6_hashPaths_X2_measure rfl rfl rfl (by decide +kernel) ⟨Nat.le_of_ble_eq_true rfl, Nat.le_of_ble_eq_true rfl⟩) ⟨xPre_blind, va_recv hK hP (ci := 2) (q0 := 201) rfl rfl, xPre_of hPc hK hDc⟩ rfl rfl hl.1 rfl (lv_room (Nat.le_of_ble_eq_true rfl)) dX6_hashPaths_29 ⟨Nat.le_of_ble_eq_true rfl, Nat.le_of_ble_eq_true rfl⟩) hS (fun q _ h => hFc q h) hFc (fun z29_v_distance t H locs ht hvm hq hB hz1 hk1 hS => ?_)
    obtain ⟨hP1, -, hD1⟩ := hB
    rw [ht] at hP1
    obtain ⟨hP, hD⟩ := xj hP hD [201, 202, 203, 4, 5, 6, 7, 8, 9, 10, 11, 12, 13, 14, 15, 16, 17, 18, 19, 20, 21, 22, 23, 24] (cX2 cy (sh a 201) z29_v_distance (X2_group (X6_paths v)) ++ wX0 cy (sh a 4) (sh a 1) (X6_lawn v)) (ws' := (cX6 cy a (X6_lawn v) (X6_snapshot v) (X6_trial v) (X6_savedR v) (X6_saved v) (X6_text v) (X6_survey v) (z29_v_distance, (X2_group (X6_paths v))) (X6_snapshotTaken v) (X6_savedCount v) (X6_spareR v))) hC rfl (xS_app (n := 201) (m := 3) (i2 := [4, 5, 6, 7, 8, 9, 10, 11, 12, 13, 14, 15, 16, 17, 18, 19, 20, 21, 22, 23, 24]) rfl rfl rfl (xS_one (n := 4) (m := 21) rfl rfl rfl)) hk1 hFc hP1
    refine lv_iconst (v := 0) hx hb dX6_hashPaths_32 (by decide) ?_
    refine lv_istore (lv' := [(6, .int 0), (5, .int r6), (3, .long x1), (0, .ref (a 0)), (1, .long x1)]) hx hb dX6_hashPaths_33 hl (by decide) rfl (fun ls hl => ?_)
    exact J35 (X2_s0 (X6_paths v) z29_v_distance) x1 0 _ _ _ hq hP hD hS (lv_sub hl [3, 2, 0] rfl)
  · have hq := hqA c4
    refine lv_lload_n hx hb dX6_hashPaths_17 rfl (lv_at hl 1 rfl) ?_
    exact W.lret (v := x1) hx hb hr (fun t ht hW => ⟨⟨x1, (X6_paths v), rfl, hq, (xAt_of hP hK hD ht hW)⟩, hS.F ht⟩) hS.2.2 dX6_hashPaths_18
