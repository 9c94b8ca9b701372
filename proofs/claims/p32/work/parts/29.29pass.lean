def wb_X6_pass_19 (v : V_X6) (x1 : Int32) (y19_2 : Int32) (z19_v_saved : (Nat → V_X0)) (z19_v_savedCount : Int32) (z19_v_savedR : (Nat → Nat)) (y19_3 : Int32) (z19_v_lawn : V_X0) (z19_v_spareR : V_X3) (B19 : Int32 → V_X0 → V_X3 → Prop) (Q : Int32 → V_X0 → (Nat → V_X0) → Int32 → (Nat → Nat) → V_X3 → Prop) (QX : String → Prop) : Prop :=
  ((x1 ≤ y19_3 → Q ((X0_risen z19_v_lawn) - y19_2) z19_v_lawn z19_v_saved z19_v_savedCount z19_v_savedR z19_v_spareR) ∧
  (¬ x1 ≤ y19_3 → wp_X0_beat z19_v_lawn z19_v_spareR (fun z28_u_cells z28_u_ends z28_u_size z28_u_used z28_v_beats z28_v_caught z28_v_gnawed z28_v_moleCount z28_v_moles z28_v_molesR z28_v_mounds z28_v_risen z28_v_roots z28_v_traps z28_v_tunnels =>
  B19 (y19_3 + 1) (z28_v_mounds, (X0_opened z19_v_lawn), z28_v_roots, z28_v_traps, z28_v_tunnels, z28_v_molesR, z28_v_moles, z28_v_moleCount, (X0_fullAir z19_v_lawn), z28_v_beats, z28_v_caught, z28_v_gnawed, z28_v_risen, (X0_fallen z19_v_lawn)) (z28_u_cells, z28_u_ends, z28_u_used, z28_u_size))))
def wp_X6_pass_19 (v : V_X6) (x1 : Int32) (y19_2 : Int32) (z19_v_saved : (Nat → V_X0)) (z19_v_savedCount : Int32) (z19_v_savedR : (Nat → Nat)) (y19_3 : Int32) (z19_v_lawn : V_X0) (z19_v_spareR : V_X3) (Q : Int32 → V_X0 → (Nat → V_X0) → Int32 → (Nat → Nat) → V_X3 → Prop) (QX : String → Prop) : Prop :=
  ∃ (I : Int32 → V_X0 → V_X3 → Prop) (μ : Int32 → V_X0 → V_X3 → Nat), I y19_3 z19_v_lawn z19_v_spareR ∧ ∀ (s0 : Int32) (s1 : V_X0) (s2 : V_X3), I s0 s1 s2 → wb_X6_pass_19 v x1 y19_2 z19_v_saved z19_v_savedCount z19_v_savedR s0 s1 s2 (fun t0 t1 t2 => I t0 t1 t2 ∧ μ t0 t1 t2 < μ s0 s1 s2) Q QX
def wp_X6_pass (v : V_X6) (x1 : Int32) (Q : Int32 → V_X0 → (Nat → V_X0) → Int32 → (Nat → Nat) → V_X3 → Prop) (QX : String → Prop) : Prop :=
  wp_X6_checkBeats v x1 (wp_X6_saveState v (fun z6_v_saved z6_v_savedCount z6_v_savedR =>
  wp_X6_pass_19 v x1 (X0_risen (X6_lawn v)) z6_v_saved z6_v_savedCount z6_v_savedR 0 (X6_lawn v) (X6_spareR v) Q QX)) QX
def q_X6_pass (dC : Nat → ClassId) (dI : Nat → Nat → Nat) (cy : Nat → ClassId) (a : Nat → Nat) (v : V_X6) (x1 : Int32) (Q : Int32 → V_X0 → (Nat → V_X0) → Int32 → (Nat → Nat) → V_X3 → Prop) (A : Nat → Prop) : Array Value → State → Outcome → State → Prop := va_Qi (fun (r : Int32) (u : V_X0 × (Nat → V_X0) × Int32 × (Nat → Nat) × V_X3) => Q r u.1 u.2.1 u.2.2.1 u.2.2.2.1 u.2.2.2.2) (fun (u : V_X0 × (Nat → V_X0) × Int32 × (Nat → Nat) × V_X3) t => xAt dC dI cy A (cX6 cy a u.1 (X6_snapshot v) (X6_trial v) u.2.2.2.1 u.2.1 (X6_text v) (X6_survey v) (X6_paths v) (X6_snapshotTaken v) u.2.2.1 u.2.2.2.2) t) A
set_option maxHeartbeats 4000000 in
set_option maxRecDepth 100000 in
theorem c_X6_pass (l : Launch) (dC : Nat → ClassId) (dI : Nat → Nat → Nat) (cy : Nat → ClassId) (a : Nat → Nat) (sz : Nat) (v : V_X6) (x1 : Int32) (Q : Int32 → V_X0 → (Nat → V_X0) → Int32 → (Nat → Nat) → V_X3 → Prop) (QX : String → Prop) (hX : ∀ E, ¬ QX E) (hq : wp_X6_pass v x1 Q QX) : Met l yX6_pass wsX6_pass ({ frames := 6, cells := 0, slots := 0, locals := 143 } : Room) (va_Pc [.ref (a 0), .int x1] (xPreE dC dI cy (wX6 cy a v) sz)) (q_X6_pass dC dI cy a v x1 Q (va_A (wX6 cy a v) sz)) 0 0 (va_A (wX6 cy a v) sz) := by
  refine Met.ofW (cc := cX6_pass) (maxL := 4) (ret := (some .int)) (by decide) rfl ?_
  intro p e s m args below meth c s₁ B hml hv
  obtain ⟨rfl, hsz, hP, hK, hD0, hE⟩ := hv
  have hx := B.exec
  have hb := B.bytes
  have hr := B.returns
  have hts := atoms_spec (ws := wsX6_pass) B.pre
  have hown : s.vm.findClass RX6 = some m.cls := findClass_of_methodNamed B.named
  have hlocks := B.notSynchronized
  subst hsz
  have hD := hD0.self (sz := s.heap.size)
  generalize hAe : va_A (wX6 cy a v) s.heap.size = A at hD hE ⊢
  have hAe0 : ∀ q : Nat, s.heap.size ≤ q → A q := fun q h => by rw [← hAe]; exact Or.inr h
  have hS : va_S A s.heap s.heap [] := va_S.rf
  have hl := lv_entry ([.ref (a 0), .int x1]) (n := 4) (Nat.le_of_ble_eq_true rfl)
  rw [lg_entry_eq]
  generalize (lg_sl ([.ref (a 0), .int x1]) ++ List.replicate (4 - (lg_sl ([.ref (a 0), .int x1])).length) Slot.unset).toArray = ls at hl ⊢
  have hl : lv_has ls 4 [(0, .ref (a 0)), (1, .int x1)] := hl
  have lk0 := hts (Cond.fieldLink RX6 15 "MolesLawn" "lawn" "LMolesLawn$Lawn;") (List.mem_cons_of_mem _ (List.mem_append_left _ (List.mem_append_left _ (List.mem_append_left _ (List.mem_append_left _ (List.mem_append_left _ (List.mem_append_left _ (List.mem_of_getElem? (i := 0) rfl))))))))
  have lk1 := hts (Cond.fieldLink RX6 103 "MolesLawn$Lawn" "risen" "I") (List.mem_cons_of_mem _ (List.mem_append_left _ (List.mem_append_left _ (List.mem_append_left _ (List.mem_append_left _ (List.mem_append_left _ (List.mem_append_left _ (List.mem_of_getElem? (i := 1) rfl))))))))
  have iK0 : ∀ w ∈ wsX00, w ∈ wsX6_pass := fun _ h => (List.mem_cons_of_mem _ (List.mem_append_left _ (List.mem_append_left _ (List.mem_append_left _ (List.mem_append_right _ h)))))
  have iK6 : ∀ w ∈ wsX60, w ∈ wsX6_pass := fun _ h => (List.mem_cons_of_mem _ (List.mem_append_left _ (List.mem_append_left _ (List.mem_append_left _ (List.mem_append_left _ (List.mem_append_right _ h))))))
  unfold wp_X6_pass at hq
  have J19 : ∀ (y19_2 : Int32) (z19_v_saved : (Nat → V_X0)) (z19_v_savedCount : Int32) (z19_v_savedR : (Nat → Nat)) (y19_3 : Int32) (z19_v_lawn : V_X0) (z19_v_spareR : V_X3) (H : Heap) (locs : List Loc) (ls : Array Slot), wp_X6_pass_19 v x1 y19_2 z19_v_saved z19_v_savedCount z19_v_savedR y19_3 z19_v_lawn z19_v_spareR Q QX → va_P (dC, dI) vwCl (cX6 cy a z19_v_lawn (X6_snapshot v) (X6_trial v) z19_v_savedR z19_v_saved (X6_text v) (X6_survey v) (X6_paths v) (X6_snapshotTaken v) z19_v_savedCount z19_v_spareR) H → va_D A (cX6 cy a z19_v_lawn (X6_snapshot v) (X6_trial v) z19_v_savedR z19_v_saved (X6_text v) (X6_survey v) (X6_paths v) (X6_snapshotTaken v) z19_v_savedCount z19_v_spareR) → va_S A s.heap H locs → lv_has ls 4 [(0, .ref (a 0)), (1, .int x1), (2, .int y19_2), (3, .int y19_3)] → W p l e (headSpec wsX6_pass ({ frames := 6, cells := 0, slots := 0, locals := 143 } : Room)).room s m ([.ref (a 0), .int x1] : List Value).toArray below meth c H locs 0 0 (MQ below (q_X6_pass dC dI cy a v x1 Q A) ([.ref (a 0), .int x1] : List Value).toArray s 0 0 A) (F0 m 19 ls []) := by
    intro y19_2 z19_v_saved z19_v_savedCount z19_v_savedR y19_3 z19_v_lawn z19_v_spareR H locs ls hq hP hD hS hl
    obtain ⟨I19, μ19, h0, hs19⟩ := hq
    have key : ∀ (n : Nat) (y19_3 : Int32) (z19_v_lawn : V_X0) (z19_v_spareR : V_X3) (H : Heap) (locs : List Loc) (ls : Array Slot), I19 y19_3 z19_v_lawn z19_v_spareR → μ19 y19_3 z19_v_lawn z19_v_spareR < n → va_P (dC, dI) vwCl (cX6 cy a z19_v_lawn (X6_snapshot v) (X6_trial v) z19_v_savedR z19_v_saved (X6_text v) (X6_survey v) (X6_paths v) (X6_snapshotTaken v) z19_v_savedCount z19_v_spareR) H → va_D A (cX6 cy a z19_v_lawn (X6_snapshot v) (X6_trial v) z19_v_savedR z19_v_saved (X6_text v) (X6_survey v) (X6_paths v) (X6_snapshotTaken v) z19_v_savedCount z19_v_spareR) → va_S A s.heap H locs → lv_has ls 4 [(0, .ref (a 0)), (1, .int x1), (2, .int y19_2), (3, .int y19_3)] → W p l e (headSpec wsX6_pass ({ frames := 6, cells := 0, slots := 0, locals := 143 } : Room)).room s m ([.ref (a 0), .int x1] : List Value).toArray below meth c H locs 0 0 (MQ below (q_X6_pass dC dI cy a v x1 Q A) ([.ref (a 0), .int x1] : List Value).toArray s 0 0 A) (F0 m 19 ls []) := by
      intro n
      induction n with
      | zero => intro y19_3 z19_v_lawn z19_v_spareR H locs ls _ hm; exact absurd hm (Nat.not_lt_zero _)
      | succ n ih =>
        intro y19_3 z19_v_lawn z19_v_spareR H locs ls hI hm hP hD hS hl
        have hq := hs19 y19_3 z19_v_lawn z19_v_spareR hI
        generalize hB19 : (fun (t0 : Int32) (t1 : V_X0) (t2 : V_X3) => I19 t0 t1 t2 ∧ μ19 t0 t1 t2 < μ19 y19_3 z19_v_lawn z19_v_spareR) = B19 at hq
        have bk19 : ∀ (y19_3 : Int32) (z19_v_lawn : V_X0) (z19_v_spareR : V_X3) (H : Heap) (locs : List Loc) (ls : Array Slot), B19 y19_3 z19_v_lawn z19_v_spareR → va_P (dC, dI) vwCl (cX6 cy a z19_v_lawn (X6_snapshot v) (X6_trial v) z19_v_savedR z19_v_saved (X6_text v) (X6_survey v) (X6_paths v) (X6_snapshotTaken v) z19_v_savedCount z19_v_spareR) H → va_D A (cX6 cy a z19_v_lawn (X6_snapshot v) (X6_trial v) z19_v_savedR z19_v_saved (X6_text v) (X6_survey v) (X6_paths v) (X6_snapshotTaken v) z19_v_savedCount z19_v_spareR) → va_S A s.heap H locs → lv_has ls 4 [(0, .ref (a 0)), (1, .int x1), (2, .int y19_2), (3, .int y19_3)] → W p l e (headSpec wsX6_pass ({ frames := 6, cells := 0, slots := 0, locals := 143 } : Room)).room s m ([.ref (a 0), .int x1] : List Value).toArray below meth c H locs 0 0 (MQ below (q_X6_pass dC dI cy a v x1 Q A) ([.ref (a 0), .int x1] : List Value).toArray s 0 0 A) (F0 m 19 ls []) := by
          intro y19_3 z19_v_lawn z19_v_spareR H locs ls h
          rw [← hB19] at h
          exact ih y19_3 z19_v_lawn z19_v_spareR H locs ls h.1 (Nat.lt_of_lt_of_le h.2 (Nat.le_of_lt_succ hm))
        unfold wb_X6_pass_19 at hq
        refine lv_iload_n hx hb dX6_pass_19 rfl (lv_at hl 3 rfl) ?_
        refine lv_iload_n hx hb dX6_pass_20 rfl (lv_at hl 1 rfl) ?_
        obtain ⟨hqA, hqB⟩ := hq
        refine lv_icmp_ge (tgt := 37) hx hb dX6_pass_21 (by decide) (fun c1 => ?_) (fun c1 => ?_)
        · have hq := hqA c1
          refine lv_aload_n hx hb dX6_pass_37 rfl (lv_at hl 0 rfl) ?_
          refine va_get (D := (dC, dI)) (ci := 6) (v := .ref (a 4)) (C := RX6) (T := TX6) (N := 9) hx hb hts iK6 hown hK hP 0 rfl rfl 0 (by decide) lk0 (fun _ h9 => h9) rfl dX6_pass_38 ?_
          refine va_get (D := (dC, dI)) (ci := 0) (v := .int (X0_risen z19_v_lawn)) (C := RX0) (T := TX0) (N := 14) hx hb hts iK0 hown hK hP 4 rfl rfl 12 (by decide) lk1 (fun _ h9 => h9) rfl dX6_pass_41 ?_
          refine lv_iload_n hx hb dX6_pass_44 rfl (lv_at hl 2 rfl) ?_
          refine lv_isub hx hb dX6_pass_45 ?_
          exact W.iret (v := ((X0_risen z19_v_lawn) - y19_2)) hx hb hr (fun t ht hW => ⟨⟨((X0_risen z19_v_lawn) - y19_2), (z19_v_lawn, z19_v_saved, z19_v_savedCount, z19_v_savedR, z19_v_spareR), rfl, hq, (xAt_of hP hK hD ht hW)⟩, hS.F ht⟩) hS.2.2 dX6_pass_46
        · have hq := hqB c1
          refine lv_aload_n hx hb dX6_pass_24 rfl (lv_at hl 0 rfl) ?_
          refine va_get (D := (dC, dI)) (ci := 6) (v := .ref (a 4)) (C := RX6) (T := TX6) (N := 9) hx hb hts iK6 hown hK hP 0 rfl rfl 0 (by decide) lk0 (fun _ h9 => h9) rfl dX6_pass_25 ?_
          have hC : (([4, 5, 6, 7, 8, 9, 10, 11, 12, 13, 14, 15, 16, 17, 18, 19, 20, 21, 22, 23, 24, 1, 2, 3] : List Nat).map (fun i => (cX6 cy a z19_v_lawn (X6_snapshot v) (X6_trial v) z19_v_savedR z19_v_saved (X6_text v) (X6_survey v) (X6_paths v) (X6_snapshotTaken v) z19_v_savedCount z19_v_spareR)[i]?)) = (wX0 cy (sh a 4) (sh a 1) z19_v_lawn ++ wX3 cy (sh a 1) z19_v_spareR).map some := (xC_app (i1 := [4, 5, 6, 7, 8, 9, 10, 11, 12, 13, 14, 15, 16, 17, 18, 19, 20, 21, 22, 23, 24]) (i2 := [1, 2, 3]) rfl (xC_one (n := 4) (m := 21) rfl rfl rfl) (xC_one (n := 1) (m := 3) rfl rfl rfl))
          have hPc := xsubP hP hC
          have hDc := xsubD hD (by decide) hC
          have hFc := va_free (wc := (wX0 cy (sh a 4) (sh a 1) z19_v_lawn ++ wX3 cy (sh a 1) z19_v_spareR)) hD hS hAe0 [4, 5, 6, 7, 8, 9, 10, 11, 12, 13, 14, 15, 16, 17, 18, 19, 20, 21, 22, 23, 24, 1, 2, 3] hC
          refine va_callv (va_runV (As := []) (rest := []) ⟨hx, hb, hml, hown, hts⟩ (c_X0_beat l dC dI cy (sh a 4) (sh a 1) _ z19_v_lawn z19_v_spareR _ hq) (cwV 0 hts gX6_pass_X0_beat rfl rfl rfl (by decide +kernel) ⟨Nat.le_of_ble_eq_true rfl, Nat.le_of_ble_eq_true rfl⟩) ⟨xPre_blindE, va_recv hK hP (ci := 0) (q0 := 4) rfl rfl, xPre_ofE hPc hK hDc hE hS hFc⟩ rfl rfl hl.1 rfl (lv_room (Nat.le_of_ble_eq_true rfl)) dX6_pass_28 ⟨Nat.le_of_ble_eq_true rfl, Nat.le_of_ble_eq_true rfl⟩) hS (fun q _ h => hFc q h) hFc (fun u9 t H locs ht hvm hq hB hz1 hk1 hS => ?_)
          obtain ⟨z28_u_cells, z28_u_ends, z28_u_size, z28_u_used, z28_v_beats, z28_v_caught, z28_v_gnawed, z28_v_moleCount, z28_v_moles, z28_v_molesR, z28_v_mounds, z28_v_risen, z28_v_roots, z28_v_traps, z28_v_tunnels⟩ := u9
          obtain ⟨hP1, -, hD1⟩ := hB
          rw [ht] at hP1
          obtain ⟨hP, hD⟩ := xj hP hD [4, 5, 6, 7, 8, 9, 10, 11, 12, 13, 14, 15, 16, 17, 18, 19, 20, 21, 22, 23, 24, 1, 2, 3] (cX0 cy (sh a 4) (sh a 1) z28_v_mounds (X0_opened z19_v_lawn) z28_v_roots z28_v_traps z28_v_tunnels z28_v_molesR z28_v_moles z28_v_moleCount (X0_fullAir z19_v_lawn) z28_v_beats z28_v_caught z28_v_gnawed z28_v_risen (X0_fallen z19_v_lawn) ++ cX3 cy (sh a 1) z28_u_cells z28_u_ends z28_u_used z28_u_size) (ws' := (cX6 cy a (z28_v_mounds, (X0_opened z19_v_lawn), z28_v_roots, z28_v_traps, z28_v_tunnels, z28_v_molesR, z28_v_moles, z28_v_moleCount, (X0_fullAir z19_v_lawn), z28_v_beats, z28_v_caught, z28_v_gnawed, z28_v_risen, (X0_fallen z19_v_lawn)) (X6_snapshot v) (X6_trial v) z19_v_savedR z19_v_saved (X6_text v) (X6_survey v) (X6_paths v) (X6_snapshotTaken v) z19_v_savedCount (z28_u_cells, z28_u_ends, z28_u_used, z28_u_size))) hC rfl (xS_app (n := 4) (m := 21) (i2 := [1, 2, 3]) rfl rfl rfl (xS_one (n := 1) (m := 3) rfl rfl rfl)) hk1 hFc hP1
          refine lv_iinc (v := (y19_3 + 1)) (lv' := [(3, .int (y19_3 + 1)), (0, .ref (a 0)), (1, .int x1), (2, .int y19_2)]) hx hb dX6_pass_31 hl (k := 3) rfl rfl (by decide) rfl (fun ls hl => ?_)
          refine lv_goto (tgt := 19) hx hb dX6_pass_34 (by decide) ?_
          exact bk19 (y19_3 + 1) (z28_v_mounds, (X0_opened z19_v_lawn), z28_v_roots, z28_v_traps, z28_v_tunnels, z28_v_molesR, z28_v_moles, z28_v_moleCount, (X0_fullAir z19_v_lawn), z28_v_beats, z28_v_caught, z28_v_gnawed, z28_v_risen, (X0_fallen z19_v_lawn)) (z28_u_cells, z28_u_ends, z28_u_used, z28_u_size) _ _ _ hq hP hD hS (lv_sub hl [1, 2, 3, 0] rfl)
    exact key _ y19_3 z19_v_lawn z19_v_spareR H locs ls h0 (Nat.lt_succ_self _) hP hD hS hl
  refine lv_aload_n hx hb dX6_pass_0 rfl (lv_at hl 0 rfl) ?_
  refine lv_iload_n hx hb dX6_pass_1 rfl (lv_at hl 1 rfl) ?_
  have hFc := xfree_same hS hAe0 (ws := (wX6 cy a v)) hD
  refine va_callv (va_runV (As := [.int x1]) (rest := []) ⟨hx, hb, hml, hown, hts⟩ (c_X6_checkBeats l dC dI cy a _ v x1 _ _ hX hq) (cwV 1 hts gX6_pass_X6_checkBeats rfl rfl rfl (by decide +kernel) ⟨Nat.le_of_ble_eq_true rfl, Nat.le_of_ble_eq_true rfl⟩) ⟨xPre_blind, va_recv hK hP (ci := 6) (q0 := 0) rfl rfl, xPre_of hP hK hD⟩ rfl rfl hl.1 rfl (lv_room (Nat.le_of_ble_eq_true rfl)) dX6_pass_2 ⟨Nat.le_of_ble_eq_true rfl, Nat.le_of_ble_eq_true rfl⟩) hS (fun q _ h => hFc q h) hFc (fun u9 t H locs ht hvm hq hB hz1 hk1 hS => ?_)
  obtain ⟨hP1, -, hD1⟩ := hB
  rw [ht] at hP1
  have hP : va_P (dC, dI) vwCl (wX6 cy a v) H := hP1
  have hD : va_D A (wX6 cy a v) := hD1.weaken (fun _ q _ h => hFc q.1 h)
  refine lv_aload_n hx hb dX6_pass_5 rfl (lv_at hl 0 rfl) ?_
  have hFc := xfree_same hS hAe0 (ws := (wX6 cy a v)) hD
  refine va_callv (va_runV (As := []) (rest := []) ⟨hx, hb, hml, hown, hts⟩ (c_X6_saveState l dC dI cy a _ v _ hq) (cwV 0 hts gX6_pass_X6_saveState rfl rfl rfl (by decide +kernel) ⟨Nat.le_of_ble_eq_true rfl, Nat.le_of_ble_eq_true rfl⟩) ⟨xPre_blind, va_recv hK hP (ci := 6) (q0 := 0) rfl rfl, xPre_of hP hK hD⟩ rfl rfl hl.1 rfl (lv_room (Nat.le_of_ble_eq_true rfl)) dX6_pass_6 ⟨Nat.le_of_ble_eq_true rfl, Nat.le_of_ble_eq_true rfl⟩) hS (fun q _ h => hFc q h) hFc (fun u9 t H locs ht hvm hq hB hz1 hk1 hS => ?_)
  obtain ⟨z6_v_saved, z6_v_savedCount, z6_v_savedR⟩ := u9
  obtain ⟨hP1, -, hD1⟩ := hB
  rw [ht] at hP1
  have hP : va_P (dC, dI) vwCl (cX6 cy a (X6_lawn v) (X6_snapshot v) (X6_trial v) z6_v_savedR z6_v_saved (X6_text v) (X6_survey v) (X6_paths v) (X6_snapshotTaken v) z6_v_savedCount (X6_spareR v)) H := hP1
  have hD : va_D A (cX6 cy a (X6_lawn v) (X6_snapshot v) (X6_trial v) z6_v_savedR z6_v_saved (X6_text v) (X6_survey v) (X6_paths v) (X6_snapshotTaken v) z6_v_savedCount (X6_spareR v)) := hD1.weaken (fun _ q _ h => hFc q.1 h)
  refine lv_aload_n hx hb dX6_pass_9 rfl (lv_at hl 0 rfl) ?_
  refine va_get (D := (dC, dI)) (ci := 6) (v := .ref (a 4)) (C := RX6) (T := TX6) (N := 9) hx hb hts iK6 hown hK hP 0 rfl rfl 0 (by decide) lk0 (fun _ h9 => h9) rfl dX6_pass_10 ?_
  refine va_get (D := (dC, dI)) (ci := 0) (v := .int (X0_risen (X6_lawn v))) (C := RX0) (T := TX0) (N := 14) hx hb hts iK0 hown hK hP 4 rfl rfl 12 (by decide) lk1 (fun _ h9 => h9) rfl dX6_pass_13 ?_
  refine lv_istore_n (lv' := [(2, .int (X0_risen (X6_lawn v))), (0, .ref (a 0)), (1, .int x1)]) hx hb dX6_pass_16 rfl hl (by decide) rfl (fun ls hl => ?_)
  refine lv_iconst (v := 0) hx hb dX6_pass_17 (by decide) ?_
  refine lv_istore_n (lv' := [(3, .int 0), (2, .int (X0_risen (X6_lawn v))), (0, .ref (a 0)), (1, .int x1)]) hx hb dX6_pass_18 rfl hl (by decide) rfl (fun ls hl => ?_)
  exact J19 (X0_risen (X6_lawn v)) z6_v_saved z6_v_savedCount z6_v_savedR 0 (X6_lawn v) (X6_spareR v) _ _ _ hq hP hD hS (lv_sub hl [2, 3, 1, 0] rfl)
