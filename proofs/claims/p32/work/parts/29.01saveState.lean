def wp_X6_saveState_56 (v : V_X6) (z56_v_savedCount : Int32) (z56_v_savedR : (Nat → Nat)) (Q : (Nat → V_X0) → Int32 → (Nat → Nat) → Prop) : Prop :=
  vp_in z56_v_savedCount 6 ∧ (z56_v_savedR z56_v_savedCount.toNatClampNeg) < 6 ∧ wp_X0_copyFrom ((X6_saved v) (z56_v_savedR z56_v_savedCount.toNatClampNeg)) (X6_lawn v) (fun z69_v_beats z69_v_caught z69_v_fallen z69_v_fullAir z69_v_gnawed z69_v_moleCount z69_v_moles z69_v_mounds z69_v_opened z69_v_risen z69_v_roots z69_v_traps z69_v_tunnels =>
  Q (va_up (X6_saved v) (z56_v_savedR z56_v_savedCount.toNatClampNeg) (z69_v_mounds, z69_v_opened, z69_v_roots, z69_v_traps, z69_v_tunnels, (X0_molesR ((X6_saved v) (z56_v_savedR z56_v_savedCount.toNatClampNeg))), z69_v_moles, z69_v_moleCount, z69_v_fullAir, z69_v_beats, z69_v_caught, z69_v_gnawed, z69_v_risen, z69_v_fallen)) (z56_v_savedCount + 1) z56_v_savedR)
def wb_X6_saveState_18 (v : V_X6) (j18_1 : Nat) (y18_2 : Int32) (z18_v_savedR : (Nat → Nat)) (B18 : Int32 → (Nat → Nat) → Prop) (Q : (Nat → V_X0) → Int32 → (Nat → Nat) → Prop) : Prop :=
  ((6 ≤ y18_2 → vp_in 5 6 ∧ j18_1 < 6 ∧ wp_X6_saveState_56 v 5 (va_up z18_v_savedR (5 : Int32).toNatClampNeg j18_1)  Q) ∧
  (¬ 6 ≤ y18_2 → vp_in y18_2 6 ∧ (z18_v_savedR y18_2.toNatClampNeg) < 6 ∧ vp_in (y18_2 - 1) 6 ∧ B18 (y18_2 + 1) (va_up z18_v_savedR (y18_2 - 1).toNatClampNeg (z18_v_savedR y18_2.toNatClampNeg))))
def wp_X6_saveState_18 (v : V_X6) (j18_1 : Nat) (y18_2 : Int32) (z18_v_savedR : (Nat → Nat)) (Q : (Nat → V_X0) → Int32 → (Nat → Nat) → Prop) : Prop :=
  ∃ (I : Int32 → (Nat → Nat) → Prop) (μ : Int32 → (Nat → Nat) → Nat), I y18_2 z18_v_savedR ∧ ∀ (s0 : Int32) (s1 : (Nat → Nat)), I s0 s1 → wb_X6_saveState_18 v j18_1 s0 s1 (fun t0 t1 => I t0 t1 ∧ μ t0 t1 < μ s0 s1) Q
def wp_X6_saveState (v : V_X6) (Q : (Nat → V_X0) → Int32 → (Nat → Nat) → Prop) : Prop :=
  (((X6_savedCount v) < 6 → wp_X6_saveState_56 v (X6_savedCount v) (X6_savedR v)  Q) ∧
  (¬ (X6_savedCount v) < 6 → vp_in 0 6 ∧ ((X6_savedR v) (0 : Int32).toNatClampNeg) < 6 ∧ wp_X6_saveState_18 v ((X6_savedR v) (0 : Int32).toNatClampNeg) 1 (X6_savedR v) Q))
def q_X6_saveState (dC : Nat → ClassId) (dI : Nat → Nat → Nat) (cy : Nat → ClassId) (a : Nat → Nat) (v : V_X6) (Q : (Nat → V_X0) → Int32 → (Nat → Nat) → Prop) (A : Nat → Prop) : Array Value → State → Outcome → State → Prop := va_Qv (fun (u : (Nat → V_X0) × Int32 × (Nat → Nat)) => Q u.1 u.2.1 u.2.2) (fun (u : (Nat → V_X0) × Int32 × (Nat → Nat)) t => xAt dC dI cy A (cX6 cy a (X6_lawn v) (X6_snapshot v) (X6_trial v) u.2.2 u.1 (X6_text v) (X6_survey v) (X6_paths v) (X6_snapshotTaken v) u.2.1 (X6_spareR v)) t) A
set_option maxHeartbeats 4000000 in
set_option maxRecDepth 100000 in
theorem c_X6_saveState (l : Launch) (dC : Nat → ClassId) (dI : Nat → Nat → Nat) (cy : Nat → ClassId) (a : Nat → Nat) (sz : Nat) (v : V_X6) (Q : (Nat → V_X0) → Int32 → (Nat → Nat) → Prop) (hq : wp_X6_saveState v Q) : Met l yX6_saveState wsX6_saveState ({ frames := 3, cells := 0, slots := 0, locals := 69 } : Room) (va_Pc [.ref (a 0)] (xPre dC dI cy (wX6 cy a v) sz)) (q_X6_saveState dC dI cy a v Q (va_A (wX6 cy a v) sz)) 0 0 (va_A (wX6 cy a v) sz) := by
  refine Met.ofW (cc := cX6_saveState) (maxL := 3) (ret := none) (by decide) rfl ?_
  intro p e s m args below meth c s₁ B hml hv
  obtain ⟨rfl, hsz, hP, hK, hD0⟩ := hv
  have hx := B.exec
  have hb := B.bytes
  have hr := B.returns
  have hts := atoms_spec (ws := wsX6_saveState) B.pre
  have hown : s.vm.findClass RX6 = some m.cls := findClass_of_methodNamed B.named
  have hlocks := B.notSynchronized
  subst hsz
  have hD := hD0.self (sz := s.heap.size)
  generalize hAe : va_A (wX6 cy a v) s.heap.size = A at hD ⊢
  have hAe0 : ∀ q : Nat, s.heap.size ≤ q → A q := fun q h => by rw [← hAe]; exact Or.inr h
  have hS : va_S A s.heap s.heap [] := va_S.rf
  have hl := lv_entry ([.ref (a 0)]) (n := 3) (Nat.le_of_ble_eq_true rfl)
  rw [lg_entry_eq]
  generalize (lg_sl ([.ref (a 0)]) ++ List.replicate (3 - (lg_sl ([.ref (a 0)])).length) Slot.unset).toArray = ls at hl ⊢
  have hl : lv_has ls 3 [(0, .ref (a 0))] := hl
  have lk0 := hts (Cond.fieldLink RX6 27 "MolesLawn" "saved" "[LMolesLawn$Lawn;") (List.mem_cons_of_mem _ (List.mem_append_left _ (List.mem_append_left _ (List.mem_append_left _ (List.mem_append_left _ (List.mem_append_left _ (List.mem_of_getElem? (i := 1) rfl)))))))
  have lk1 := hts (Cond.fieldLink RX6 174 "MolesLawn" "savedCount" "I") (List.mem_cons_of_mem _ (List.mem_append_left _ (List.mem_append_left _ (List.mem_append_left _ (List.mem_append_left _ (List.mem_append_left _ (List.mem_of_getElem? (i := 0) rfl)))))))
  have lk2 := hts (Cond.fieldLink RX6 15 "MolesLawn" "lawn" "LMolesLawn$Lawn;") (List.mem_cons_of_mem _ (List.mem_append_left _ (List.mem_append_left _ (List.mem_append_left _ (List.mem_append_left _ (List.mem_append_left _ (List.mem_of_getElem? (i := 2) rfl)))))))
  have iK6 : ∀ w ∈ wsX60, w ∈ wsX6_saveState := fun _ h => (List.mem_cons_of_mem _ (List.mem_append_left _ (List.mem_append_left _ (List.mem_append_left _ (List.mem_append_right _ h)))))
  unfold wp_X6_saveState at hq
  have J56 : ∀ (z56_v_savedCount : Int32) (z56_v_savedR : (Nat → Nat)) (H : Heap) (locs : List Loc) (ls : Array Slot), wp_X6_saveState_56 v z56_v_savedCount z56_v_savedR Q → va_P (dC, dI) vwCl (cX6 cy a (X6_lawn v) (X6_snapshot v) (X6_trial v) z56_v_savedR (X6_saved v) (X6_text v) (X6_survey v) (X6_paths v) (X6_snapshotTaken v) z56_v_savedCount (X6_spareR v)) H → va_D A (cX6 cy a (X6_lawn v) (X6_snapshot v) (X6_trial v) z56_v_savedR (X6_saved v) (X6_text v) (X6_survey v) (X6_paths v) (X6_snapshotTaken v) z56_v_savedCount (X6_spareR v)) → va_S A s.heap H locs → lv_has ls 3 [(0, .ref (a 0))] → W p l e (headSpec wsX6_saveState ({ frames := 3, cells := 0, slots := 0, locals := 69 } : Room)).room s m ([.ref (a 0)] : List Value).toArray below meth c H locs 0 0 (MQ below (q_X6_saveState dC dI cy a v Q A) ([.ref (a 0)] : List Value).toArray s 0 0 A) (F0 m 56 ls []) := by
    intro z56_v_savedCount z56_v_savedR H locs ls hq hP hD hS hl
    unfold wp_X6_saveState_56 at hq
    refine lv_aload_n hx hb dX6_saveState_56 rfl (lv_at hl 0 rfl) ?_
    refine va_get (D := (dC, dI)) (ci := 6) (v := .ref (a 67)) (C := RX6) (T := TX6) (N := 9) hx hb hts iK6 hown hK hP 0 rfl rfl 3 (by decide) lk0 (fun _ h9 => h9) rfl dX6_saveState_57 ?_
    refine lv_aload_n hx hb dX6_saveState_60 rfl (lv_at hl 0 rfl) ?_
    refine va_get (D := (dC, dI)) (ci := 6) (v := .int z56_v_savedCount) (C := RX6) (T := TX6) (N := 9) hx hb hts iK6 hown hK hP 0 rfl rfl 8 (by decide) lk1 (fun _ h9 => h9) rfl dX6_saveState_61 ?_
    obtain ⟨g1, hq⟩ := hq
    obtain ⟨g2, hq⟩ := hq
    refine va_aldq hx hb hK hP 67 3 rfl rfl g1 dX6_saveState_64 ?_
    refine lv_aload_n hx hb dX6_saveState_65 rfl (lv_at hl 0 rfl) ?_
    refine va_get (D := (dC, dI)) (ci := 6) (v := .ref (a 4)) (C := RX6) (T := TX6) (N := 9) hx hb hts iK6 hown hK hP 0 rfl rfl 0 (by decide) lk2 (fun _ h9 => h9) rfl dX6_saveState_66 ?_
    have hC : ((rng (68 + 21 * (z56_v_savedR z56_v_savedCount.toNatClampNeg)) 21 ++ rng (4) 21).map (fun i => (cX6 cy a (X6_lawn v) (X6_snapshot v) (X6_trial v) z56_v_savedR (X6_saved v) (X6_text v) (X6_survey v) (X6_paths v) (X6_snapshotTaken v) z56_v_savedCount (X6_spareR v))[i]?)) = (wX0 cy (sh a (68 + 21 * (z56_v_savedR z56_v_savedCount.toNatClampNeg))) (sh a 1) ((X6_saved v) (z56_v_savedR z56_v_savedCount.toNatClampNeg)) ++ wX0 cy (sh a 4) (sh a 1) (X6_lawn v)).map some := (xC_app (i1 := rng (68 + 21 * (z56_v_savedR z56_v_savedCount.toNatClampNeg)) 21) (i2 := rng (4) 21) rfl (xC_one (n := 68 + 21 * (z56_v_savedR z56_v_savedCount.toNatClampNeg)) (m := 21) rfl rfl (svC g2)) (xC_one (n := 4) (m := 21) rfl rfl rfl))
    have hN : va_nd (rng (68 + 21 * (z56_v_savedR z56_v_savedCount.toNatClampNeg)) 21 ++ rng (4) 21) = true := (co_6 (P := fun i9 => va_nd (rng (68 + 21 * i9) 21 ++ rng (4) 21) = true) rfl rfl rfl rfl rfl rfl g2)
    have hPc := xsubP hP hC
    have hDc := xsubD hD hN hC
    have hFc := va_free (wc := (wX0 cy (sh a (68 + 21 * (z56_v_savedR z56_v_savedCount.toNatClampNeg))) (sh a 1) ((X6_saved v) (z56_v_savedR z56_v_savedCount.toNatClampNeg)) ++ wX0 cy (sh a 4) (sh a 1) (X6_lawn v))) hD hS hAe0 (rng (68 + 21 * (z56_v_savedR z56_v_savedCount.toNatClampNeg)) 21 ++ rng (4) 21) hC
    refine va_callv (va_runV (As := [.ref (a 4)]) (rest := []) ⟨hx, hb, hml, hown, hts⟩ (c_X0_copyFrom l dC dI cy (sh a (68 + 21 * (z56_v_savedR z56_v_savedCount.toNatClampNeg))) (sh a 1) (sh a 4) _ ((X6_saved v) (z56_v_savedR z56_v_savedCount.toNatClampNeg)) (X6_lawn v) _ hq) (cwV 1 hts gX6_saveState_X0_copyFrom rfl rfl rfl (by decide +kernel) ⟨Nat.le_of_ble_eq_true rfl, Nat.le_of_ble_eq_true rfl⟩) ⟨xPre_blind, va_recv hK hP (ci := 0) (q0 := (68 + 21 * (z56_v_savedR z56_v_savedCount.toNatClampNeg))) rfl (co_6 (P := fun i19 => (cX6 cy a (X6_lawn v) (X6_snapshot v) (X6_trial v) z56_v_savedR (X6_saved v) (X6_text v) (X6_survey v) (X6_paths v) (X6_snapshotTaken v) z56_v_savedCount (X6_spareR v))[(68 + 21 * i19)]? = (wX0 cy (sh a (68 + 21 * i19)) (sh a 1) ((X6_saved v) i19))[0]?) rfl rfl rfl rfl rfl rfl g2), xPre_of hPc hK hDc⟩ rfl rfl hl.1 rfl (lv_room (Nat.le_of_ble_eq_true rfl)) dX6_saveState_69 ⟨Nat.le_of_ble_eq_true rfl, Nat.le_of_ble_eq_true rfl⟩) hS (fun q _ h => hFc q h) hFc (fun u9 t H locs ht hvm hq hB hz1 hk1 hS => ?_)
    obtain ⟨z69_v_beats, z69_v_caught, z69_v_fallen, z69_v_fullAir, z69_v_gnawed, z69_v_moleCount, z69_v_moles, z69_v_mounds, z69_v_opened, z69_v_risen, z69_v_roots, z69_v_traps, z69_v_tunnels⟩ := u9
    obtain ⟨hP1, -, hD1⟩ := hB
    rw [ht] at hP1
    obtain ⟨hP, hD⟩ := xj hP hD (rng (68 + 21 * (z56_v_savedR z56_v_savedCount.toNatClampNeg)) 21 ++ rng (4) 21) (cX0 cy (sh a (68 + 21 * (z56_v_savedR z56_v_savedCount.toNatClampNeg))) (sh a 1) z69_v_mounds z69_v_opened z69_v_roots z69_v_traps z69_v_tunnels (X0_molesR ((X6_saved v) (z56_v_savedR z56_v_savedCount.toNatClampNeg))) z69_v_moles z69_v_moleCount z69_v_fullAir z69_v_beats z69_v_caught z69_v_gnawed z69_v_risen z69_v_fallen ++ wX0 cy (sh a 4) (sh a 1) (X6_lawn v)) (ws' := (cX6 cy a (X6_lawn v) (X6_snapshot v) (X6_trial v) z56_v_savedR (va_up (X6_saved v) (z56_v_savedR z56_v_savedCount.toNatClampNeg) (z69_v_mounds, z69_v_opened, z69_v_roots, z69_v_traps, z69_v_tunnels, (X0_molesR ((X6_saved v) (z56_v_savedR z56_v_savedCount.toNatClampNeg))), z69_v_moles, z69_v_moleCount, z69_v_fullAir, z69_v_beats, z69_v_caught, z69_v_gnawed, z69_v_risen, z69_v_fallen)) (X6_text v) (X6_survey v) (X6_paths v) (X6_snapshotTaken v) z56_v_savedCount (X6_spareR v))) hC rfl (xS_app (n := 68 + 21 * (z56_v_savedR z56_v_savedCount.toNatClampNeg)) (m := 21) (i2 := rng (4) 21) (W1 := (cX6 cy a (X6_lawn v) (X6_snapshot v) (X6_trial v) z56_v_savedR (va_up (X6_saved v) (z56_v_savedR z56_v_savedCount.toNatClampNeg) (z69_v_mounds, z69_v_opened, z69_v_roots, z69_v_traps, z69_v_tunnels, (X0_molesR ((X6_saved v) (z56_v_savedR z56_v_savedCount.toNatClampNeg))), z69_v_moles, z69_v_moleCount, z69_v_fullAir, z69_v_beats, z69_v_caught, z69_v_gnawed, z69_v_risen, z69_v_fallen)) (X6_text v) (X6_survey v) (X6_paths v) (X6_snapshotTaken v) z56_v_savedCount (X6_spareR v))) rfl rfl (svS g2 (z69_v_mounds, z69_v_opened, z69_v_roots, z69_v_traps, z69_v_tunnels, (X0_molesR ((X6_saved v) (z56_v_savedR z56_v_savedCount.toNatClampNeg))), z69_v_moles, z69_v_moleCount, z69_v_fullAir, z69_v_beats, z69_v_caught, z69_v_gnawed, z69_v_risen, z69_v_fallen)) (xS_one (n := 4) (m := 21) rfl rfl rfl)) hk1 hFc hP1
    refine lv_aload_n hx hb dX6_saveState_72 rfl (lv_at hl 0 rfl) ?_
    refine lv_dup hx hb dX6_saveState_73 rfl ?_
    refine va_get (D := (dC, dI)) (ci := 6) (v := .int z56_v_savedCount) (C := RX6) (T := TX6) (N := 9) hx hb hts iK6 hown hK hP 0 rfl rfl 8 (by decide) lk1 (fun _ h9 => h9) rfl dX6_saveState_74 ?_
    refine lv_iconst (v := 1) hx hb dX6_saveState_77 (by decide) ?_
    refine lv_iadd hx hb dX6_saveState_78 ?_
    refine va_put (D := (dC, dI)) (ci := 6) (v := .int (z56_v_savedCount + 1)) (ty := .int) (C := RX6) (T := TX6) (N := 9) hx hb hts iK6 tyX6 tyX6_ok nmX6 hown hK hP hD hS 0 rfl rfl 8 (by decide) lk1 (fun _ h9 => h9) rfl (by decide +kernel) rfl rfl (Nat.le_of_ble_eq_true rfl) dX6_saveState_79 (fun H locs hP hD hS => ?_)
    have hP : va_P (dC, dI) vwCl (cX6 cy a (X6_lawn v) (X6_snapshot v) (X6_trial v) z56_v_savedR (va_up (X6_saved v) (z56_v_savedR z56_v_savedCount.toNatClampNeg) (z69_v_mounds, z69_v_opened, z69_v_roots, z69_v_traps, z69_v_tunnels, (X0_molesR ((X6_saved v) (z56_v_savedR z56_v_savedCount.toNatClampNeg))), z69_v_moles, z69_v_moleCount, z69_v_fullAir, z69_v_beats, z69_v_caught, z69_v_gnawed, z69_v_risen, z69_v_fallen)) (X6_text v) (X6_survey v) (X6_paths v) (X6_snapshotTaken v) (z56_v_savedCount + 1) (X6_spareR v)) H := hP
    have hD : va_D A (cX6 cy a (X6_lawn v) (X6_snapshot v) (X6_trial v) z56_v_savedR (va_up (X6_saved v) (z56_v_savedR z56_v_savedCount.toNatClampNeg) (z69_v_mounds, z69_v_opened, z69_v_roots, z69_v_traps, z69_v_tunnels, (X0_molesR ((X6_saved v) (z56_v_savedR z56_v_savedCount.toNatClampNeg))), z69_v_moles, z69_v_moleCount, z69_v_fullAir, z69_v_beats, z69_v_caught, z69_v_gnawed, z69_v_risen, z69_v_fallen)) (X6_text v) (X6_survey v) (X6_paths v) (X6_snapshotTaken v) (z56_v_savedCount + 1) (X6_spareR v)) := hD
    exact W.vret hx hb hr (fun t ht hW => ⟨⟨((va_up (X6_saved v) (z56_v_savedR z56_v_savedCount.toNatClampNeg) (z69_v_mounds, z69_v_opened, z69_v_roots, z69_v_traps, z69_v_tunnels, (X0_molesR ((X6_saved v) (z56_v_savedR z56_v_savedCount.toNatClampNeg))), z69_v_moles, z69_v_moleCount, z69_v_fullAir, z69_v_beats, z69_v_caught, z69_v_gnawed, z69_v_risen, z69_v_fallen)), (z56_v_savedCount + 1), z56_v_savedR), rfl, hq, (xAt_of hP hK hD ht hW)⟩, hS.F ht⟩) hS.2.2 dX6_saveState_82
  have J18 : ∀ (j18_1 : Nat) (y18_2 : Int32) (z18_v_savedR : (Nat → Nat)) (H : Heap) (locs : List Loc) (ls : Array Slot), wp_X6_saveState_18 v j18_1 y18_2 z18_v_savedR Q → va_P (dC, dI) vwCl (cX6 cy a (X6_lawn v) (X6_snapshot v) (X6_trial v) z18_v_savedR (X6_saved v) (X6_text v) (X6_survey v) (X6_paths v) (X6_snapshotTaken v) (X6_savedCount v) (X6_spareR v)) H → va_D A (cX6 cy a (X6_lawn v) (X6_snapshot v) (X6_trial v) z18_v_savedR (X6_saved v) (X6_text v) (X6_survey v) (X6_paths v) (X6_snapshotTaken v) (X6_savedCount v) (X6_spareR v)) → va_S A s.heap H locs → lv_has ls 3 [(0, .ref (a 0)), (1, .ref (a (68 + 21 * j18_1))), (2, .int y18_2)] → W p l e (headSpec wsX6_saveState ({ frames := 3, cells := 0, slots := 0, locals := 69 } : Room)).room s m ([.ref (a 0)] : List Value).toArray below meth c H locs 0 0 (MQ below (q_X6_saveState dC dI cy a v Q A) ([.ref (a 0)] : List Value).toArray s 0 0 A) (F0 m 18 ls []) := by
    intro j18_1 y18_2 z18_v_savedR H locs ls hq hP hD hS hl
    obtain ⟨I18, μ18, h0, hs18⟩ := hq
    have key : ∀ (n : Nat) (y18_2 : Int32) (z18_v_savedR : (Nat → Nat)) (H : Heap) (locs : List Loc) (ls : Array Slot), I18 y18_2 z18_v_savedR → μ18 y18_2 z18_v_savedR < n → va_P (dC, dI) vwCl (cX6 cy a (X6_lawn v) (X6_snapshot v) (X6_trial v) z18_v_savedR (X6_saved v) (X6_text v) (X6_survey v) (X6_paths v) (X6_snapshotTaken v) (X6_savedCount v) (X6_spareR v)) H → va_D A (cX6 cy a (X6_lawn v) (X6_snapshot v) (X6_trial v) z18_v_savedR (X6_saved v) (X6_text v) (X6_survey v) (X6_paths v) (X6_snapshotTaken v) (X6_savedCount v) (X6_spareR v)) → va_S A s.heap H locs → lv_has ls 3 [(0, .ref (a 0)), (1, .ref (a (68 + 21 * j18_1))), (2, .int y18_2)] → W p l e (headSpec wsX6_saveState ({ frames := 3, cells := 0, slots := 0, locals := 69 } : Room)).room s m ([.ref (a 0)] : List Value).toArray below meth c H locs 0 0 (MQ below (q_X6_saveState dC dI cy a v Q A) ([.ref (a 0)] : List Value).toArray s 0 0 A) (F0 m 18 ls []) := by
      intro n
      induction n with
      | zero => intro y18_2 z18_v_savedR H locs ls _ hm; exact absurd hm (Nat.not_lt_zero _)
      | succ n ih =>
        intro y18_2 z18_v_savedR H locs ls hI hm hP hD hS hl
        have hq := hs18 y18_2 z18_v_savedR hI
        generalize hB18 : (fun (t0 : Int32) (t1 : (Nat → Nat)) => I18 t0 t1 ∧ μ18 t0 t1 < μ18 y18_2 z18_v_savedR) = B18 at hq
        have bk18 : ∀ (y18_2 : Int32) (z18_v_savedR : (Nat → Nat)) (H : Heap) (locs : List Loc) (ls : Array Slot), B18 y18_2 z18_v_savedR → va_P (dC, dI) vwCl (cX6 cy a (X6_lawn v) (X6_snapshot v) (X6_trial v) z18_v_savedR (X6_saved v) (X6_text v) (X6_survey v) (X6_paths v) (X6_snapshotTaken v) (X6_savedCount v) (X6_spareR v)) H → va_D A (cX6 cy a (X6_lawn v) (X6_snapshot v) (X6_trial v) z18_v_savedR (X6_saved v) (X6_text v) (X6_survey v) (X6_paths v) (X6_snapshotTaken v) (X6_savedCount v) (X6_spareR v)) → va_S A s.heap H locs → lv_has ls 3 [(0, .ref (a 0)), (1, .ref (a (68 + 21 * j18_1))), (2, .int y18_2)] → W p l e (headSpec wsX6_saveState ({ frames := 3, cells := 0, slots := 0, locals := 69 } : Room)).room s m ([.ref (a 0)] : List Value).toArray below meth c H locs 0 0 (MQ below (q_X6_saveState dC dI cy a v Q A) ([.ref (a 0)] : List Value).toArray s 0 0 A) (F0 m 18 ls []) := by
          intro y18_2 z18_v_savedR H locs ls h
          rw [← hB18] at h
          exact ih y18_2 z18_v_savedR H locs ls h.1 (Nat.lt_of_lt_of_le h.2 (Nat.le_of_lt_succ hm))
        unfold wb_X6_saveState_18 at hq
        refine lv_iload_n hx hb dX6_saveState_18 rfl (lv_at hl 2 rfl) ?_
        refine lv_bipush (v := 6) hx hb dX6_saveState_19 (by decide) ?_
        obtain ⟨hqA, hqB⟩ := hq
        refine lv_icmp_ge (tgt := 44) hx hb dX6_saveState_21 (by decide) (fun c8 => ?_) (fun c8 => ?_)
        · have hq := hqA c8
          refine lv_aload_n hx hb dX6_saveState_44 rfl (lv_at hl 0 rfl) ?_
          refine va_get (D := (dC, dI)) (ci := 6) (v := .ref (a 67)) (C := RX6) (T := TX6) (N := 9) hx hb hts iK6 hown hK hP 0 rfl rfl 3 (by decide) lk0 (fun _ h9 => h9) rfl dX6_saveState_45 ?_
          refine lv_iconst (v := 5) hx hb dX6_saveState_48 (by decide) ?_
          refine lv_aload_n hx hb dX6_saveState_49 rfl (lv_at hl 1 rfl) ?_
          obtain ⟨g3, hq⟩ := hq
          obtain ⟨g4, hq⟩ := hq
          refine va_astq (r := (RX0, TX0, 14)) hx hb hK hP hD hS 67 3 (68 + 21 * j18_1) 0 rfl rfl (co_6 (P := fun i19 => (cX6 cy a (X6_lawn v) (X6_snapshot v) (X6_trial v) z18_v_savedR (X6_saved v) (X6_text v) (X6_survey v) (X6_paths v) (X6_snapshotTaken v) (X6_savedCount v) (X6_spareR v))[(68 + 21 * i19)]? = (wX0 cy (sh a (68 + 21 * i19)) (sh a 1) ((X6_saved v) i19))[0]?) rfl rfl rfl rfl rfl rfl g4) rfl g3 dX6_saveState_50 (fun H locs hP hD hS => ?_)
          have eW := xup_slots a 68 21 z18_v_savedR (5 : Int32).toNatClampNeg j18_1
          have hP : va_P (dC, dI) vwCl (cX6 cy a (X6_lawn v) (X6_snapshot v) (X6_trial v) (va_up z18_v_savedR (5 : Int32).toNatClampNeg j18_1) (X6_saved v) (X6_text v) (X6_survey v) (X6_paths v) (X6_snapshotTaken v) (X6_savedCount v) (X6_spareR v)) H := (congrArg (fun (f9 : Nat → Option Nat) => va_P (dC, dI) vwCl ((cX6 cy a (X6_lawn v) (X6_snapshot v) (X6_trial v) z18_v_savedR (X6_saved v) (X6_text v) (X6_survey v) (X6_paths v) (X6_snapshotTaken v) (X6_savedCount v) (X6_spareR v)).set 67 ((a 67), .inl (cy 3, 6, .inr (.inr (.inr (.inr f9)))))) H) eW).mp hP
          have hD : va_D A (cX6 cy a (X6_lawn v) (X6_snapshot v) (X6_trial v) (va_up z18_v_savedR (5 : Int32).toNatClampNeg j18_1) (X6_saved v) (X6_text v) (X6_survey v) (X6_paths v) (X6_snapshotTaken v) (X6_savedCount v) (X6_spareR v)) := (congrArg (fun (f9 : Nat → Option Nat) => va_D A ((cX6 cy a (X6_lawn v) (X6_snapshot v) (X6_trial v) z18_v_savedR (X6_saved v) (X6_text v) (X6_survey v) (X6_paths v) (X6_snapshotTaken v) (X6_savedCount v) (X6_spareR v)).set 67 ((a 67), .inl (cy 3, 6, .inr (.inr (.inr (.inr f9))))))) eW).mp hD
          refine lv_aload_n hx hb dX6_saveState_51 rfl (lv_at hl 0 rfl) ?_
          refine lv_iconst (v := 5) hx hb dX6_saveState_52 (by decide) ?_
          refine va_put (D := (dC, dI)) (ci := 6) (v := .int 5) (ty := .int) (C := RX6) (T := TX6) (N := 9) hx hb hts iK6 tyX6 tyX6_ok nmX6 hown hK hP hD hS 0 rfl rfl 8 (by decide) lk1 (fun _ h9 => h9) rfl (by decide +kernel) rfl rfl (Nat.le_of_ble_eq_true rfl) dX6_saveState_53 (fun H locs hP hD hS => ?_)
          have hP : va_P (dC, dI) vwCl (cX6 cy a (X6_lawn v) (X6_snapshot v) (X6_trial v) (va_up z18_v_savedR (5 : Int32).toNatClampNeg j18_1) (X6_saved v) (X6_text v) (X6_survey v) (X6_paths v) (X6_snapshotTaken v) 5 (X6_spareR v)) H := hP
          have hD : va_D A (cX6 cy a (X6_lawn v) (X6_snapshot v) (X6_trial v) (va_up z18_v_savedR (5 : Int32).toNatClampNeg j18_1) (X6_saved v) (X6_text v) (X6_survey v) (X6_paths v) (X6_snapshotTaken v) 5 (X6_spareR v)) := hD
          exact J56 5 (va_up z18_v_savedR (5 : Int32).toNatClampNeg j18_1)  _ _ _ hq hP hD hS (lv_sub hl [0] rfl)
        · have hq := hqB c8
          refine lv_aload_n hx hb dX6_saveState_24 rfl (lv_at hl 0 rfl) ?_
          refine va_get (D := (dC, dI)) (ci := 6) (v := .ref (a 67)) (C := RX6) (T := TX6) (N := 9) hx hb hts iK6 hown hK hP 0 rfl rfl 3 (by decide) lk0 (fun _ h9 => h9) rfl dX6_saveState_25 ?_
          refine lv_iload_n hx hb dX6_saveState_28 rfl (lv_at hl 2 rfl) ?_
          refine lv_iconst (v := 1) hx hb dX6_saveState_29 (by decide) ?_
          refine lv_isub hx hb dX6_saveState_30 ?_
          refine lv_aload_n hx hb dX6_saveState_31 rfl (lv_at hl 0 rfl) ?_
          refine va_get (D := (dC, dI)) (ci := 6) (v := .ref (a 67)) (C := RX6) (T := TX6) (N := 9) hx hb hts iK6 hown hK hP 0 rfl rfl 3 (by decide) lk0 (fun _ h9 => h9) rfl dX6_saveState_32 ?_
          refine lv_iload_n hx hb dX6_saveState_35 rfl (lv_at hl 2 rfl) ?_
          obtain ⟨g5, hq⟩ := hq
          obtain ⟨g6, hq⟩ := hq
          refine va_aldq hx hb hK hP 67 3 rfl rfl g5 dX6_saveState_36 ?_
          obtain ⟨g7, hq⟩ := hq
          refine va_astq (r := (RX0, TX0, 14)) hx hb hK hP hD hS 67 3 (68 + 21 * (z18_v_savedR y18_2.toNatClampNeg)) 0 rfl rfl (co_6 (P := fun i19 => (cX6 cy a (X6_lawn v) (X6_snapshot v) (X6_trial v) z18_v_savedR (X6_saved v) (X6_text v) (X6_survey v) (X6_paths v) (X6_snapshotTaken v) (X6_savedCount v) (X6_spareR v))[(68 + 21 * i19)]? = (wX0 cy (sh a (68 + 21 * i19)) (sh a 1) ((X6_saved v) i19))[0]?) rfl rfl rfl rfl rfl rfl g6) rfl g7 dX6_saveState_37 (fun H locs hP hD hS => ?_)
          have eW := xup_slots a 68 21 z18_v_savedR (y18_2 - 1).toNatClampNeg (z18_v_savedR y18_2.toNatClampNeg)
          have hP : va_P (dC, dI) vwCl (cX6 cy a (X6_lawn v) (X6_snapshot v) (X6_trial v) (va_up z18_v_savedR (y18_2 - 1).toNatClampNeg (z18_v_savedR y18_2.toNatClampNeg)) (X6_saved v) (X6_text v) (X6_survey v) (X6_paths v) (X6_snapshotTaken v) (X6_savedCount v) (X6_spareR v)) H := (congrArg (fun (f9 : Nat → Option Nat) => va_P (dC, dI) vwCl ((cX6 cy a (X6_lawn v) (X6_snapshot v) (X6_trial v) z18_v_savedR (X6_saved v) (X6_text v) (X6_survey v) (X6_paths v) (X6_snapshotTaken v) (X6_savedCount v) (X6_spareR v)).set 67 ((a 67), .inl (cy 3, 6, .inr (.inr (.inr (.inr f9)))))) H) eW).mp hP
          have hD : va_D A (cX6 cy a (X6_lawn v) (X6_snapshot v) (X6_trial v) (va_up z18_v_savedR (y18_2 - 1).toNatClampNeg (z18_v_savedR y18_2.toNatClampNeg)) (X6_saved v) (X6_text v) (X6_survey v) (X6_paths v) (X6_snapshotTaken v) (X6_savedCount v) (X6_spareR v)) := (congrArg (fun (f9 : Nat → Option Nat) => va_D A ((cX6 cy a (X6_lawn v) (X6_snapshot v) (X6_trial v) z18_v_savedR (X6_saved v) (X6_text v) (X6_survey v) (X6_paths v) (X6_snapshotTaken v) (X6_savedCount v) (X6_spareR v)).set 67 ((a 67), .inl (cy 3, 6, .inr (.inr (.inr (.inr f9))))))) eW).mp hD
          refine lv_iinc (v := (y18_2 + 1)) (lv' := [(2, .int (y18_2 + 1)), (0, .ref (a 0)), (1, .ref (a (68 + 21 * j18_1)))]) hx hb dX6_saveState_38 hl (k := 2) rfl rfl (by decide) rfl (fun ls hl => ?_)
          refine lv_goto (tgt := 18) hx hb dX6_saveState_41 (by decide) ?_
          exact bk18 (y18_2 + 1) (va_up z18_v_savedR (y18_2 - 1).toNatClampNeg (z18_v_savedR y18_2.toNatClampNeg)) _ _ _ hq hP hD hS (lv_sub hl [1, 2, 0] rfl)
    exact key _ y18_2 z18_v_savedR H locs ls h0 (Nat.lt_succ_self _) hP hD hS hl
  refine lv_aload_n hx hb dX6_saveState_0 rfl (lv_at hl 0 rfl) ?_
  refine va_get (D := (dC, dI)) (ci := 6) (v := .int (X6_savedCount v)) (C := RX6) (T := TX6) (N := 9) hx hb hts iK6 hown hK hP 0 rfl rfl 8 (by decide) lk1 (fun _ h9 => h9) rfl dX6_saveState_1 ?_
  refine lv_bipush (v := 6) hx hb dX6_saveState_4 (by decide) ?_
  obtain ⟨hqA, hqB⟩ := hq
  refine lv_icmp_lt (tgt := 56) hx hb dX6_saveState_6 (by decide) (fun c11 => ?_) (fun c11 => ?_)
  · have hq := hqA c11
    exact J56 (X6_savedCount v) (X6_savedR v)  _ _ _ hq hP hD hS (lv_sub hl [0] rfl)
  · have hq := hqB c11
    refine lv_aload_n hx hb dX6_saveState_9 rfl (lv_at hl 0 rfl) ?_
    refine va_get (D := (dC, dI)) (ci := 6) (v := .ref (a 67)) (C := RX6) (T := TX6) (N := 9) hx hb hts iK6 hown hK hP 0 rfl rfl 3 (by decide) lk0 (fun _ h9 => h9) rfl dX6_saveState_10 ?_
    refine lv_iconst (v := 0) hx hb dX6_saveState_13 (by decide) ?_
    obtain ⟨g9, hq⟩ := hq
    obtain ⟨g10, hq⟩ := hq
    refine va_aldq hx hb hK hP 67 3 rfl rfl g9 dX6_saveState_14 ?_
    refine lv_astore_n (lv' := [(1, .ref (a (68 + 21 * ((X6_savedR v) (0 : Int32).toNatClampNeg)))), (0, .ref (a 0))]) hx hb dX6_saveState_15 rfl hl (by decide) rfl (fun ls hl => ?_)
    refine lv_iconst (v := 1) hx hb dX6_saveState_16 (by decide) ?_
    refine lv_istore_n (lv' := [(2, .int 1), (1, .ref (a (68 + 21 * ((X6_savedR v) (0 : Int32).toNatClampNeg)))), (0, .ref (a 0))]) hx hb dX6_saveState_17 rfl hl (by decide) rfl (fun ls hl => ?_)
    exact J18 ((X6_savedR v) (0 : Int32).toNatClampNeg) 1 (X6_savedR v) _ _ _ hq hP hD hS (lv_sub hl [2, 1, 0] rfl)
