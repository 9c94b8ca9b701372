set_option maxHeartbeats 4000000 in
set_option maxRecDepth 100000 in
theorem c_L_undo (l : Launch) (dC : Nat → ClassId) (dI : Nat → Nat → Nat) (cy : Nat → ClassId) (cJ : ClassId) (a : Nat → Nat) (o : Nat) (sz : Nat) (v : V_X6) (f : Nat → Int64) (Q : Int32 → V_X6 → (Nat → Int64) → Prop) (hl9 : l.stackTraces = false) (hq : wp_X6_undo v (fun r z_lawn z_savedCount => Q 0 (z_lawn, (X6_snapshot v), (X6_trial v), (X6_savedR v), (X6_saved v), (X6_text v), (X6_survey v), (X6_paths v), (X6_snapshotTaken v), z_savedCount, (X6_spareR v)) (vp_updL f (0 : Int32).toNatClampNeg r.toInt64)) (fun E => (E = eS ∧ Q 1 v f))) : vx_Met l yL_undo wsL_undo ({ frames := 7, cells := 1, slots := 6, locals := 122 } : Room) (va_Pc [.ref (a 0), .ref o] (preL dC dI cy cJ (wL cy cJ a o v f) sz)) (qL dC dI cy cJ a o Q (va_A (wL cy cJ a o v f) sz)) (xL (va_A (wL cy cJ a o v f) sz)) 1 6 (va_A (wL cy cJ a o v f) sz) := by
  refine vx_ofWH (cc := cL_undo) (maxL := 3) (ret := (some .int)) (hh := [(0, 8, 11, 15)]) (by decide) rfl ?_
  intro p e s m args below meth c s₁ B hml hv
  obtain ⟨rfl, hsz, hP, hK, hD0, hE⟩ := hv
  have hx := B.exec
  have hb := B.bytes
  have hr := B.returns
  have hts := atoms_spec (ws := wsL_undo) B.pre
  have hown : s.vm.findClass RL = some m.cls := findClass_of_methodNamed B.named
  have hlocks := B.notSynchronized
  have htab := vx_table (x := yL_undo) B (hts (Cond.codeWith yL_undo cL_undo 3 (some .int) [(0, 8, 11, 15)]) List.mem_cons_self)
  subst hsz
  have hD := hD0.self (sz := s.heap.size)
  generalize hAe : va_A (wL cy cJ a o v f) s.heap.size = A at hD hE ⊢
  have hAe0 : ∀ q : Nat, s.heap.size ≤ q → A q := fun q h => by rw [← hAe]; exact Or.inr h
  have hS : va_S A s.heap s.heap [] := va_S.rf
  have hl := lv_entry ([.ref (a 0), .ref o]) (n := 3) (Nat.le_of_ble_eq_true rfl)
  rw [lg_entry_eq]
  generalize (lg_sl ([.ref (a 0), .ref o]) ++ List.replicate (3 - (lg_sl ([.ref (a 0), .ref o])).length) Slot.unset).toArray = ls at hl ⊢
  have hl : lv_has ls 3 [(0, .ref (a 0)), (1, .ref o)] := hl
  refine lv_aload_n hx hb dL_undo_0 rfl (lv_at hl 1 rfl) ?_
  refine lv_iconst (v := 0) hx hb dL_undo_1 (by decide) ?_
  refine lv_aload_n hx hb dL_undo_2 rfl (lv_at hl 0 rfl) ?_
  have hC : (rng 0 204).map (fun i => (wL cy cJ a o v f)[i]?) = (wX6 cy a v).map some := xC_left wX6_len
  have hPc := xsubP hP hC
  have hDc := xsubD hD (rng_nd 204 0) hC
  have hFc := va_free (wc := wX6 cy a v) hD hS hAe0 (rng 0 204) hC
  have hKc := tysJ_sub hK
  refine vx_calli (vx_runV (As := []) (rest := [.int 0, .ref o]) ⟨hx, hb, hml, hown, hts⟩ (c_X6_undo l dC dI cy a _ v _ _ hl9 hq) (cwV 0 hts gL_undo_X6_undo rfl rfl rfl (by decide +kernel) ⟨Nat.le_of_ble_eq_true rfl, Nat.le_of_ble_eq_true rfl⟩) ⟨xPre_blindX, va_recv hKc hPc (ci := 6) (q0 := 0) rfl rfl, xPre_ofX hPc hKc hDc hE.1 hS hFc⟩ rfl rfl hl.1 rfl (lv_room (Nat.le_of_ble_eq_true rfl)) dL_undo_3 ⟨Nat.le_of_ble_eq_true rfl, Nat.le_of_ble_eq_true rfl⟩) hS (fun q _ h => hFc q h) hFc (fun q _ h => hFc q h) (fun E ce q9 _ t H locs ht hvm _ hB hz1 hk1 hS hce hcv hcl => ?_) (fun r u9 t H locs ht hvm hq hB hz1 hk1 hS => ?_)
  · obtain ⟨hqx, hP1, -, hD1⟩ := hB
    rw [ht] at hP1
    have hP : va_P (dC, dI) vwCl (wL cy cJ a o v f) H := xj_keep hP hD (rng 0 204) hC hP1 hk1
    obtain ⟨rfl, hqx⟩ := hqx
    refine vx_catch (own := RL) (name := eS) hown [] ⟨0, 8, 11, 15⟩ [] (by rw [htab]; rfl) (fun z hz => by cases hz) (by decide) (by decide) (hts (Cond.classLink RL 15 "java/lang/IllegalStateException") (List.mem_cons_of_mem _ (List.mem_append_left _ (List.mem_append_left _ (List.mem_append_left _ (List.mem_append_left _ (List.mem_append_left _ (List.mem_append_left _ (List.mem_of_getElem? (i := 0) rfl))))))))) (va_Nw.use rfl (hE.1.2.2.2.1 _ (List.mem_of_getElem? (i := 2) rfl))) hce hcv hcl ?_
    refine lv_astore_n (lv' := [(2, .ref q9), (0, .ref (a 0)), (1, .ref o)]) hx hb dL_undo_11 rfl hl (by decide) rfl (fun ls hl => ?_)
    refine lv_iconst (v := 1) hx hb dL_undo_12 (by decide) ?_
    exact vx_ret (W.iret (v := 1) hx hb hr (fun t ht hW => ⟨⟨1, (v, f), rfl, hqx, by rw [ht]; exact hP, hD⟩, hS.F ht⟩) hS.2.2 dL_undo_13)
  · obtain ⟨z_lawn, z_savedCount⟩ := u9
    obtain ⟨hP1, -, hD1⟩ := hB
    rw [ht] at hP1
    obtain ⟨hP, hD⟩ := xj hP hD (rng 0 204) (wX6 cy a (z_lawn, (X6_snapshot v), (X6_trial v), (X6_savedR v), (X6_saved v), (X6_text v), (X6_survey v), (X6_paths v), (X6_snapshotTaken v), z_savedCount, (X6_spareR v))) (ws' := wL cy cJ a o (z_lawn, (X6_snapshot v), (X6_trial v), (X6_savedR v), (X6_saved v), (X6_text v), (X6_survey v), (X6_paths v), (X6_snapshotTaken v), z_savedCount, (X6_spareR v)) f) hC wX6_fst (xS_left wX6_len wX6_len) hk1 hFc hP1
    refine lv_i2l hx hb dL_undo_6 rfl ?_
    refine va_last hx hb hK hP hD hS 204 4 wL_J0 rfl vin01 dL_undo_7 (fun H locs hP hD hS => ?_)
    rw [wL_set] at hP hD
    refine lv_goto (tgt := 14) hx hb dL_undo_8 (by decide) ?_
    refine lv_iconst (v := 0) hx hb dL_undo_14 (by decide) ?_
    exact vx_ret (W.iret (v := 0) hx hb hr (fun t ht hW => ⟨⟨0, ((z_lawn, (X6_snapshot v), (X6_trial v), (X6_savedR v), (X6_saved v), (X6_text v), (X6_survey v), (X6_paths v), (X6_snapshotTaken v), z_savedCount, (X6_spareR v)), _), rfl, hq, by rw [ht]; exact hP, hD⟩, hS.F ht⟩) hS.2.2 dL_undo_15)
set_option maxHeartbeats 4000000 in
set_option maxRecDepth 100000 in
theorem c_L_restore (l : Launch) (dC : Nat → ClassId) (dI : Nat → Nat → Nat) (cy : Nat → ClassId) (cJ : ClassId) (a : Nat → Nat) (o : Nat) (sz : Nat) (v : V_X6) (f : Nat → Int64) (Q : Int32 → V_X6 → (Nat → Int64) → Prop) (hl9 : l.stackTraces = false) (hq : wp_X6_restore v (fun r z_lawn z_saved z_savedCount z_savedR => Q 0 (z_lawn, (X6_snapshot v), (X6_trial v), z_savedR, z_saved, (X6_text v), (X6_survey v), (X6_paths v), (X6_snapshotTaken v), z_savedCount, (X6_spareR v)) (vp_updL f (0 : Int32).toNatClampNeg r.toInt64)) (fun E => (E = eS ∧ Q 1 v f))) : vx_Met l yL_restore wsL_restore ({ frames := 7, cells := 1, slots := 6, locals := 122 } : Room) (va_Pc [.ref (a 0), .ref o] (preL dC dI cy cJ (wL cy cJ a o v f) sz)) (qL dC dI cy cJ a o Q (va_A (wL cy cJ a o v f) sz)) (xL (va_A (wL cy cJ a o v f) sz)) 1 6 (va_A (wL cy cJ a o v f) sz) := by
  refine vx_ofWH (cc := cL_restore) (maxL := 3) (ret := (some .int)) (hh := [(0, 8, 11, 15)]) (by decide) rfl ?_
  intro p e s m args below meth c s₁ B hml hv
  obtain ⟨rfl, hsz, hP, hK, hD0, hE⟩ := hv
  have hx := B.exec
  have hb := B.bytes
  have hr := B.returns
  have hts := atoms_spec (ws := wsL_restore) B.pre
  have hown : s.vm.findClass RL = some m.cls := findClass_of_methodNamed B.named
  have hlocks := B.notSynchronized
  have htab := vx_table (x := yL_restore) B (hts (Cond.codeWith yL_restore cL_restore 3 (some .int) [(0, 8, 11, 15)]) List.mem_cons_self)
  subst hsz
  have hD := hD0.self (sz := s.heap.size)
  generalize hAe : va_A (wL cy cJ a o v f) s.heap.size = A at hD hE ⊢
  have hAe0 : ∀ q : Nat, s.heap.size ≤ q → A q := fun q h => by rw [← hAe]; exact Or.inr h
  have hS : va_S A s.heap s.heap [] := va_S.rf
  have hl := lv_entry ([.ref (a 0), .ref o]) (n := 3) (Nat.le_of_ble_eq_true rfl)
  rw [lg_entry_eq]
  generalize (lg_sl ([.ref (a 0), .ref o]) ++ List.replicate (3 - (lg_sl ([.ref (a 0), .ref o])).length) Slot.unset).toArray = ls at hl ⊢
  have hl : lv_has ls 3 [(0, .ref (a 0)), (1, .ref o)] := hl
  refine lv_aload_n hx hb dL_restore_0 rfl (lv_at hl 1 rfl) ?_
  refine lv_iconst (v := 0) hx hb dL_restore_1 (by decide) ?_
  refine lv_aload_n hx hb dL_restore_2 rfl (lv_at hl 0 rfl) ?_
  have hC : (rng 0 204).map (fun i => (wL cy cJ a o v f)[i]?) = (wX6 cy a v).map some := xC_left wX6_len
  have hPc := xsubP hP hC
  have hDc := xsubD hD (rng_nd 204 0) hC
  have hFc := va_free (wc := wX6 cy a v) hD hS hAe0 (rng 0 204) hC
  have hKc := tysJ_sub hK
  refine vx_calli (vx_runV (As := []) (rest := [.int 0, .ref o]) ⟨hx, hb, hml, hown, hts⟩ (c_X6_restore l dC dI cy a _ v _ _ hl9 hq) (cwV 0 hts gL_restore_X6_restore rfl rfl rfl (by decide +kernel) ⟨Nat.le_of_ble_eq_true rfl, Nat.le_of_ble_eq_true rfl⟩) ⟨xPre_blindX, va_recv hKc hPc (ci := 6) (q0 := 0) rfl rfl, xPre_ofX hPc hKc hDc hE.1 hS hFc⟩ rfl rfl hl.1 rfl (lv_room (Nat.le_of_ble_eq_true rfl)) dL_restore_3 ⟨Nat.le_of_ble_eq_true rfl, Nat.le_of_ble_eq_true rfl⟩) hS (fun q _ h => hFc q h) hFc (fun q _ h => hFc q h) (fun E ce q9 _ t H locs ht hvm _ hB hz1 hk1 hS hce hcv hcl => ?_) (fun r u9 t H locs ht hvm hq hB hz1 hk1 hS => ?_)
  · obtain ⟨hqx, hP1, -, hD1⟩ := hB
    rw [ht] at hP1
    have hP : va_P (dC, dI) vwCl (wL cy cJ a o v f) H := xj_keep hP hD (rng 0 204) hC hP1 hk1
    obtain ⟨rfl, hqx⟩ := hqx
    refine vx_catch (own := RL) (name := eS) hown [] ⟨0, 8, 11, 15⟩ [] (by rw [htab]; rfl) (fun z hz => by cases hz) (by decide) (by decide) (hts (Cond.classLink RL 15 "java/lang/IllegalStateException") (List.mem_cons_of_mem _ (List.mem_append_left _ (List.mem_append_left _ (List.mem_append_left _ (List.mem_append_left _ (List.mem_append_left _ (List.mem_append_left _ (List.mem_of_getElem? (i := 0) rfl))))))))) (va_Nw.use rfl (hE.1.2.2.2.1 _ (List.mem_of_getElem? (i := 2) rfl))) hce hcv hcl ?_
    refine lv_astore_n (lv' := [(2, .ref q9), (0, .ref (a 0)), (1, .ref o)]) hx hb dL_restore_11 rfl hl (by decide) rfl (fun ls hl => ?_)
    refine lv_iconst (v := 1) hx hb dL_restore_12 (by decide) ?_
    exact vx_ret (W.iret (v := 1) hx hb hr (fun t ht hW => ⟨⟨1, (v, f), rfl, hqx, by rw [ht]; exact hP, hD⟩, hS.F ht⟩) hS.2.2 dL_restore_13)
  · obtain ⟨z_lawn, z_saved, z_savedCount, z_savedR⟩ := u9
    obtain ⟨hP1, -, hD1⟩ := hB
    rw [ht] at hP1
    obtain ⟨hP, hD⟩ := xj hP hD (rng 0 204) (wX6 cy a (z_lawn, (X6_snapshot v), (X6_trial v), z_savedR, z_saved, (X6_text v), (X6_survey v), (X6_paths v), (X6_snapshotTaken v), z_savedCount, (X6_spareR v))) (ws' := wL cy cJ a o (z_lawn, (X6_snapshot v), (X6_trial v), z_savedR, z_saved, (X6_text v), (X6_survey v), (X6_paths v), (X6_snapshotTaken v), z_savedCount, (X6_spareR v)) f) hC wX6_fst (xS_left wX6_len wX6_len) hk1 hFc hP1
    refine lv_i2l hx hb dL_restore_6 rfl ?_
    refine va_last hx hb hK hP hD hS 204 4 wL_J0 rfl vin01 dL_restore_7 (fun H locs hP hD hS => ?_)
    rw [wL_set] at hP hD
    refine lv_goto (tgt := 14) hx hb dL_restore_8 (by decide) ?_
    refine lv_iconst (v := 0) hx hb dL_restore_14 (by decide) ?_
    exact vx_ret (W.iret (v := 0) hx hb hr (fun t ht hW => ⟨⟨0, ((z_lawn, (X6_snapshot v), (X6_trial v), z_savedR, z_saved, (X6_text v), (X6_survey v), (X6_paths v), (X6_snapshotTaken v), z_savedCount, (X6_spareR v)), _), rfl, hq, by rw [ht]; exact hP, hD⟩, hS.F ht⟩) hS.2.2 dL_restore_15)
set_option maxHeartbeats 4000000 in
set_option maxRecDepth 100000 in
theorem c_L_tuft (l : Launch) (dC : Nat → ClassId) (dI : Nat → Nat → Nat) (cy : Nat → ClassId) (cJ : ClassId) (a : Nat → Nat) (o : Nat) (sz : Nat) (v : V_X6) (f : Nat → Int64) (x1 x2 : Int32) (Q : Int32 → V_X6 → (Nat → Int64) → Prop) (hl9 : l.stackTraces = false) (hq : wp_X6_tuft v x1 x2 (fun r z_survey => Q 0 ((X6_lawn v), (X6_snapshot v), (X6_trial v), (X6_savedR v), (X6_saved v), (X6_text v), z_survey, (X6_paths v), (X6_snapshotTaken v), (X6_savedCount v), (X6_spareR v)) (vp_updL f (0 : Int32).toNatClampNeg r.toInt64)) (fun E => (E = eI ∧ Q 1 v f) ∨ (E = eA ∧ Q 2 v f))) : vx_Met l yL_tuft wsL_tuft ({ frames := 8, cells := 2, slots := 12, locals := 160 } : Room) (va_Pc [.ref (a 0), .int x1, .int x2, .ref o] (preL dC dI cy cJ (wL cy cJ a o v f) sz)) (qL dC dI cy cJ a o Q (va_A (wL cy cJ a o v f) sz)) (xL (va_A (wL cy cJ a o v f) sz)) 2 12 (va_A (wL cy cJ a o v f) sz) := by
  refine vx_ofWH (cc := cL_tuft) (maxL := 5) (ret := (some .int)) (hh := [(0, 10, 13, 13), (0, 10, 17, 21)]) (by decide) rfl ?_
  intro p e s m args below meth c s₁ B hml hv
  obtain ⟨rfl, hsz, hP, hK, hD0, hE⟩ := hv
  have hx := B.exec
  have hb := B.bytes
  have hr := B.returns
  have hts := atoms_spec (ws := wsL_tuft) B.pre
  have hown : s.vm.findClass RL = some m.cls := findClass_of_methodNamed B.named
  have hlocks := B.notSynchronized
  have htab := vx_table (x := yL_tuft) B (hts (Cond.codeWith yL_tuft cL_tuft 5 (some .int) [(0, 10, 13, 13), (0, 10, 17, 21)]) List.mem_cons_self)
  subst hsz
  have hD := hD0.self (sz := s.heap.size)
  generalize hAe : va_A (wL cy cJ a o v f) s.heap.size = A at hD hE ⊢
  have hAe0 : ∀ q : Nat, s.heap.size ≤ q → A q := fun q h => by rw [← hAe]; exact Or.inr h
  have hS : va_S A s.heap s.heap [] := va_S.rf
  have hl := lv_entry ([.ref (a 0), .int x1, .int x2, .ref o]) (n := 5) (Nat.le_of_ble_eq_true rfl)
  rw [lg_entry_eq]
  generalize (lg_sl ([.ref (a 0), .int x1, .int x2, .ref o]) ++ List.replicate (5 - (lg_sl ([.ref (a 0), .int x1, .int x2, .ref o])).length) Slot.unset).toArray = ls at hl ⊢
  have hl : lv_has ls 5 [(0, .ref (a 0)), (1, .int x1), (2, .int x2), (3, .ref o)] := hl
  refine lv_aload_n hx hb dL_tuft_0 rfl (lv_at hl 3 rfl) ?_
  refine lv_iconst (v := 0) hx hb dL_tuft_1 (by decide) ?_
  refine lv_aload_n hx hb dL_tuft_2 rfl (lv_at hl 0 rfl) ?_
  refine lv_iload_n hx hb dL_tuft_3 rfl (lv_at hl 1 rfl) ?_
  refine lv_iload_n hx hb dL_tuft_4 rfl (lv_at hl 2 rfl) ?_
  have hC : (rng 0 204).map (fun i => (wL cy cJ a o v f)[i]?) = (wX6 cy a v).map some := xC_left wX6_len
  have hPc := xsubP hP hC
  have hDc := xsubD hD (rng_nd 204 0) hC
  have hFc := va_free (wc := wX6 cy a v) hD hS hAe0 (rng 0 204) hC
  have hKc := tysJ_sub hK
  refine vx_calli (vx_runV (As := [.int x1, .int x2]) (rest := [.int 0, .ref o]) ⟨hx, hb, hml, hown, hts⟩ (c_X6_tuft l dC dI cy a _ v x1 x2 _ _ hl9 hq) (cwV 2 hts gL_tuft_X6_tuft rfl rfl rfl (by decide +kernel) ⟨Nat.le_of_ble_eq_true rfl, Nat.le_of_ble_eq_true rfl⟩) ⟨xPre_blindX, va_recv hKc hPc (ci := 6) (q0 := 0) rfl rfl, xPre_ofX hPc hKc hDc hE.1 hS hFc⟩ rfl rfl hl.1 rfl (lv_room (Nat.le_of_ble_eq_true rfl)) dL_tuft_5 ⟨Nat.le_of_ble_eq_true rfl, Nat.le_of_ble_eq_true rfl⟩) hS (fun q _ h => hFc q h) hFc (fun q _ h => hFc q h) (fun E ce q9 _ t H locs ht hvm _ hB hz1 hk1 hS hce hcv hcl => ?_) (fun r u9 t H locs ht hvm hq hB hz1 hk1 hS => ?_)
  · obtain ⟨hqx, hP1, -, hD1⟩ := hB
    rw [ht] at hP1
    have hP : va_P (dC, dI) vwCl (wL cy cJ a o v f) H := xj_keep hP hD (rng 0 204) hC hP1 hk1
    rcases hqx with ⟨rfl, hqx⟩ | ⟨rfl, hqx⟩
    · refine vx_catch (own := RL) (name := eI) hown [] ⟨0, 10, 13, 13⟩ [⟨0, 10, 17, 21⟩] (by rw [htab]; rfl) (fun z hz => by cases hz) (by decide) (by decide) (hts (Cond.classLink RL 13 "java/lang/IndexOutOfBoundsException") (List.mem_cons_of_mem _ (List.mem_append_left _ (List.mem_append_left _ (List.mem_append_left _ (List.mem_append_left _ (List.mem_append_left _ (List.mem_append_left _ (List.mem_append_left _ (List.mem_append_left _ (List.mem_of_getElem? (i := 0) rfl))))))))))) (va_Nw.use rfl (hE.1.2.2.2.1 _ (List.mem_of_getElem? (i := 0) rfl))) hce hcv hcl ?_
      refine lv_astore (lv' := [(4, .ref q9), (0, .ref (a 0)), (1, .int x1), (2, .int x2), (3, .ref o)]) hx hb dL_tuft_13 hl (by decide) rfl (fun ls hl => ?_)
      refine lv_iconst (v := 1) hx hb dL_tuft_15 (by decide) ?_
      exact vx_ret (W.iret (v := 1) hx hb hr (fun t ht hW => ⟨⟨1, (v, f), rfl, hqx, by rw [ht]; exact hP, hD⟩, hS.F ht⟩) hS.2.2 dL_tuft_16)
    · refine vx_catch (own := RL) (name := eA) hown [⟨0, 10, 13, 13⟩] ⟨0, 10, 17, 21⟩ [] (by rw [htab]; rfl) (fun z hz => by rcases List.mem_singleton.mp hz with rfl; exact Or.inr ⟨by decide, eI, hts (Cond.classLink RL 13 "java/lang/IndexOutOfBoundsException") (List.mem_cons_of_mem _ (List.mem_append_left _ (List.mem_append_left _ (List.mem_append_left _ (List.mem_append_left _ (List.mem_append_left _ (List.mem_append_left _ (List.mem_append_left _ (List.mem_append_left _ (List.mem_of_getElem? (i := 0) rfl)))))))))), hE.2 (eA, eI) (List.mem_of_getElem? (i := 0) rfl)⟩) (by decide) (by decide) (hts (Cond.classLink RL 21 "java/lang/IllegalArgumentException") (List.mem_cons_of_mem _ (List.mem_append_left _ (List.mem_append_left _ (List.mem_append_left _ (List.mem_append_left _ (List.mem_append_left _ (List.mem_append_left _ (List.mem_append_left _ (List.mem_append_left _ (List.mem_of_getElem? (i := 1) rfl))))))))))) (va_Nw.use rfl (hE.1.2.2.2.1 _ (List.mem_of_getElem? (i := 1) rfl))) hce hcv hcl ?_
      refine lv_astore (lv' := [(4, .ref q9), (0, .ref (a 0)), (1, .int x1), (2, .int x2), (3, .ref o)]) hx hb dL_tuft_17 hl (by decide) rfl (fun ls hl => ?_)
      refine lv_iconst (v := 2) hx hb dL_tuft_19 (by decide) ?_
      exact vx_ret (W.iret (v := 2) hx hb hr (fun t ht hW => ⟨⟨2, (v, f), rfl, hqx, by rw [ht]; exact hP, hD⟩, hS.F ht⟩) hS.2.2 dL_tuft_20)
  · obtain ⟨z_survey, rfl⟩ : ∃ z, z = u9 := ⟨_, rfl⟩
    obtain ⟨hP1, -, hD1⟩ := hB
    rw [ht] at hP1
    obtain ⟨hP, hD⟩ := xj hP hD (rng 0 204) (wX6 cy a ((X6_lawn v), (X6_snapshot v), (X6_trial v), (X6_savedR v), (X6_saved v), (X6_text v), z_survey, (X6_paths v), (X6_snapshotTaken v), (X6_savedCount v), (X6_spareR v))) (ws' := wL cy cJ a o ((X6_lawn v), (X6_snapshot v), (X6_trial v), (X6_savedR v), (X6_saved v), (X6_text v), z_survey, (X6_paths v), (X6_snapshotTaken v), (X6_savedCount v), (X6_spareR v)) f) hC wX6_fst (xS_left wX6_len wX6_len) hk1 hFc hP1
    refine lv_i2l hx hb dL_tuft_8 rfl ?_
    refine va_last hx hb hK hP hD hS 204 4 wL_J0 rfl vin01 dL_tuft_9 (fun H locs hP hD hS => ?_)
    rw [wL_set] at hP hD
    refine lv_goto (tgt := 21) hx hb dL_tuft_10 (by decide) ?_
    refine lv_iconst (v := 0) hx hb dL_tuft_21 (by decide) ?_
    exact vx_ret (W.iret (v := 0) hx hb hr (fun t ht hW => ⟨⟨0, (((X6_lawn v), (X6_snapshot v), (X6_trial v), (X6_savedR v), (X6_saved v), (X6_text v), z_survey, (X6_paths v), (X6_snapshotTaken v), (X6_savedCount v), (X6_spareR v)), _), rfl, hq, by rw [ht]; exact hP, hD⟩, hS.F ht⟩) hS.2.2 dL_tuft_22)
set_option maxHeartbeats 4000000 in
set_option maxRecDepth 100000 in
theorem c_L_moleOf (l : Launch) (dC : Nat → ClassId) (dI : Nat → Nat → Nat) (cy : Nat → ClassId) (cJ : ClassId) (a : Nat → Nat) (o : Nat) (sz : Nat) (v : V_X6) (f : Nat → Int64) (x1 x2 : Int32) (Q : Int32 → V_X6 → (Nat → Int64) → Prop) (hl9 : l.stackTraces = false) (hq : wp_X6_moleOf v x1 x2 (fun r => Q 0 v (vp_updL f (0 : Int32).toNatClampNeg r.toInt64)) (fun E => (E = eI ∧ Q 1 v f) ∨ (E = eA ∧ Q 2 v f))) : vx_Met l yL_moleOf wsL_moleOf ({ frames := 8, cells := 2, slots := 12, locals := 146 } : Room) (va_Pc [.ref (a 0), .int x1, .int x2, .ref o] (preL dC dI cy cJ (wL cy cJ a o v f) sz)) (qL dC dI cy cJ a o Q (va_A (wL cy cJ a o v f) sz)) (xL (va_A (wL cy cJ a o v f) sz)) 2 12 (va_A (wL cy cJ a o v f) sz) := by
  refine vx_ofWH (cc := cL_moleOf) (maxL := 5) (ret := (some .int)) (hh := [(0, 10, 13, 13), (0, 10, 17, 21)]) (by decide) rfl ?_
  intro p e s m args below meth c s₁ B hml hv
  obtain ⟨rfl, hsz, hP, hK, hD0, hE⟩ := hv
  have hx := B.exec
  have hb := B.bytes
  have hr := B.returns
  have hts := atoms_spec (ws := wsL_moleOf) B.pre
  have hown : s.vm.findClass RL = some m.cls := findClass_of_methodNamed B.named
  have hlocks := B.notSynchronized
  have htab := vx_table (x := yL_moleOf) B (hts (Cond.codeWith yL_moleOf cL_moleOf 5 (some .int) [(0, 10, 13, 13), (0, 10, 17, 21)]) List.mem_cons_self)
  subst hsz
  have hD := hD0.self (sz := s.heap.size)
  generalize hAe : va_A (wL cy cJ a o v f) s.heap.size = A at hD hE ⊢
  have hAe0 : ∀ q : Nat, s.heap.size ≤ q → A q := fun q h => by rw [← hAe]; exact Or.inr h
  have hS : va_S A s.heap s.heap [] := va_S.rf
  have hl := lv_entry ([.ref (a 0), .int x1, .int x2, .ref o]) (n := 5) (Nat.le_of_ble_eq_true rfl)
  rw [lg_entry_eq]
  generalize (lg_sl ([.ref (a 0), .int x1, .int x2, .ref o]) ++ List.replicate (5 - (lg_sl ([.ref (a 0), .int x1, .int x2, .ref o])).length) Slot.unset).toArray = ls at hl ⊢
  have hl : lv_has ls 5 [(0, .ref (a 0)), (1, .int x1), (2, .int x2), (3, .ref o)] := hl
  refine lv_aload_n hx hb dL_moleOf_0 rfl (lv_at hl 3 rfl) ?_
  refine lv_iconst (v := 0) hx hb dL_moleOf_1 (by decide) ?_
  refine lv_aload_n hx hb dL_moleOf_2 rfl (lv_at hl 0 rfl) ?_
  refine lv_iload_n hx hb dL_moleOf_3 rfl (lv_at hl 1 rfl) ?_
  refine lv_iload_n hx hb dL_moleOf_4 rfl (lv_at hl 2 rfl) ?_
  have hC : (rng 0 204).map (fun i => (wL cy cJ a o v f)[i]?) = (wX6 cy a v).map some := xC_left wX6_len
  have hPc := xsubP hP hC
  have hDc := xsubD hD (rng_nd 204 0) hC
  have hFc := va_free (wc := wX6 cy a v) hD hS hAe0 (rng 0 204) hC
  have hKc := tysJ_sub hK
  refine vx_calli (vx_runV (As := [.int x1, .int x2]) (rest := [.int 0, .ref o]) ⟨hx, hb, hml, hown, hts⟩ (c_X6_moleOf l dC dI cy a _ v x1 x2 _ _ hl9 hq) (cwV 2 hts gL_moleOf_X6_moleOf rfl rfl rfl (by decide +kernel) ⟨Nat.le_of_ble_eq_true rfl, Nat.le_of_ble_eq_true rfl⟩) ⟨xPre_blindX, va_recv hKc hPc (ci := 6) (q0 := 0) rfl rfl, xPre_ofX hPc hKc hDc hE.1 hS hFc⟩ rfl rfl hl.1 rfl (lv_room (Nat.le_of_ble_eq_true rfl)) dL_moleOf_5 ⟨Nat.le_of_ble_eq_true rfl, Nat.le_of_ble_eq_true rfl⟩) hS (fun q _ h => hFc q h) hFc (fun q _ h => hFc q h) (fun E ce q9 _ t H locs ht hvm _ hB hz1 hk1 hS hce hcv hcl => ?_) (fun r u9 t H locs ht hvm hq hB hz1 hk1 hS => ?_)
  · obtain ⟨hqx, hP1, -, hD1⟩ := hB
    rw [ht] at hP1
    have hP : va_P (dC, dI) vwCl (wL cy cJ a o v f) H := xj_keep hP hD (rng 0 204) hC hP1 hk1
    rcases hqx with ⟨rfl, hqx⟩ | ⟨rfl, hqx⟩
    · refine vx_catch (own := RL) (name := eI) hown [] ⟨0, 10, 13, 13⟩ [⟨0, 10, 17, 21⟩] (by rw [htab]; rfl) (fun z hz => by cases hz) (by decide) (by decide) (hts (Cond.classLink RL 13 "java/lang/IndexOutOfBoundsException") (List.mem_cons_of_mem _ (List.mem_append_left _ (List.mem_append_left _ (List.mem_append_left _ (List.mem_append_left _ (List.mem_append_left _ (List.mem_append_left _ (List.mem_of_getElem? (i := 0) rfl))))))))) (va_Nw.use rfl (hE.1.2.2.2.1 _ (List.mem_of_getElem? (i := 0) rfl))) hce hcv hcl ?_
      refine lv_astore (lv' := [(4, .ref q9), (0, .ref (a 0)), (1, .int x1), (2, .int x2), (3, .ref o)]) hx hb dL_moleOf_13 hl (by decide) rfl (fun ls hl => ?_)
      refine lv_iconst (v := 1) hx hb dL_moleOf_15 (by decide) ?_
      exact vx_ret (W.iret (v := 1) hx hb hr (fun t ht hW => ⟨⟨1, (v, f), rfl, hqx, by rw [ht]; exact hP, hD⟩, hS.F ht⟩) hS.2.2 dL_moleOf_16)
    · refine vx_catch (own := RL) (name := eA) hown [⟨0, 10, 13, 13⟩] ⟨0, 10, 17, 21⟩ [] (by rw [htab]; rfl) (fun z hz => by rcases List.mem_singleton.mp hz with rfl; exact Or.inr ⟨by decide, eI, hts (Cond.classLink RL 13 "java/lang/IndexOutOfBoundsException") (List.mem_cons_of_mem _ (List.mem_append_left _ (List.mem_append_left _ (List.mem_append_left _ (List.mem_append_left _ (List.mem_append_left _ (List.mem_append_left _ (List.mem_of_getElem? (i := 0) rfl)))))))), hE.2 (eA, eI) (List.mem_of_getElem? (i := 0) rfl)⟩) (by decide) (by decide) (hts (Cond.classLink RL 21 "java/lang/IllegalArgumentException") (List.mem_cons_of_mem _ (List.mem_append_left _ (List.mem_append_left _ (List.mem_append_left _ (List.mem_append_left _ (List.mem_append_left _ (List.mem_append_left _ (List.mem_of_getElem? (i := 1) rfl))))))))) (va_Nw.use rfl (hE.1.2.2.2.1 _ (List.mem_of_getElem? (i := 1) rfl))) hce hcv hcl ?_
      refine lv_astore (lv' := [(4, .ref q9), (0, .ref (a 0)), (1, .int x1), (2, .int x2), (3, .ref o)]) hx hb dL_moleOf_17 hl (by decide) rfl (fun ls hl => ?_)
      refine lv_iconst (v := 2) hx hb dL_moleOf_19 (by decide) ?_
      exact vx_ret (W.iret (v := 2) hx hb hr (fun t ht hW => ⟨⟨2, (v, f), rfl, hqx, by rw [ht]; exact hP, hD⟩, hS.F ht⟩) hS.2.2 dL_moleOf_20)
  · cases u9
    obtain ⟨hP1, -, hD1⟩ := hB
    rw [ht] at hP1
    have hP : va_P (dC, dI) vwCl (wL cy cJ a o v f) H := xj_keep hP hD (rng 0 204) hC hP1 hk1
    refine lv_i2l hx hb dL_moleOf_8 rfl ?_
    refine va_last hx hb hK hP hD hS 204 4 wL_J0 rfl vin01 dL_moleOf_9 (fun H locs hP hD hS => ?_)
    rw [wL_set] at hP hD
    refine lv_goto (tgt := 21) hx hb dL_moleOf_10 (by decide) ?_
    refine lv_iconst (v := 0) hx hb dL_moleOf_21 (by decide) ?_
    exact vx_ret (W.iret (v := 0) hx hb hr (fun t ht hW => ⟨⟨0, (v, _), rfl, hq, by rw [ht]; exact hP, hD⟩, hS.F ht⟩) hS.2.2 dL_moleOf_22)
set_option maxHeartbeats 4000000 in
set_option maxRecDepth 100000 in
theorem c_L_tunnel (l : Launch) (dC : Nat → ClassId) (dI : Nat → Nat → Nat) (cy : Nat → ClassId) (cJ : ClassId) (a : Nat → Nat) (o : Nat) (sz : Nat) (v : V_X6) (f : Nat → Int64) (x1 x2 : Int32) (Q : Int32 → V_X6 → (Nat → Int64) → Prop) (hl9 : l.stackTraces = false) (hq : wp_X6_tunnel v x1 x2 (fun r => Q 0 v (vp_updL f (0 : Int32).toNatClampNeg r.toInt64)) (fun E => (E = eI ∧ Q 1 v f) ∨ (E = eA ∧ Q 2 v f))) : vx_Met l yL_tunnel wsL_tunnel ({ frames := 8, cells := 2, slots := 12, locals := 146 } : Room) (va_Pc [.ref (a 0), .int x1, .int x2, .ref o] (preL dC dI cy cJ (wL cy cJ a o v f) sz)) (qL dC dI cy cJ a o Q (va_A (wL cy cJ a o v f) sz)) (xL (va_A (wL cy cJ a o v f) sz)) 2 12 (va_A (wL cy cJ a o v f) sz) := by
  refine vx_ofWH (cc := cL_tunnel) (maxL := 5) (ret := (some .int)) (hh := [(0, 10, 13, 13), (0, 10, 17, 21)]) (by decide) rfl ?_
  intro p e s m args below meth c s₁ B hml hv
  obtain ⟨rfl, hsz, hP, hK, hD0, hE⟩ := hv
  have hx := B.exec
  have hb := B.bytes
  have hr := B.returns
  have hts := atoms_spec (ws := wsL_tunnel) B.pre
  have hown : s.vm.findClass RL = some m.cls := findClass_of_methodNamed B.named
  have hlocks := B.notSynchronized
  have htab := vx_table (x := yL_tunnel) B (hts (Cond.codeWith yL_tunnel cL_tunnel 5 (some .int) [(0, 10, 13, 13), (0, 10, 17, 21)]) List.mem_cons_self)
  subst hsz
  have hD := hD0.self (sz := s.heap.size)
  generalize hAe : va_A (wL cy cJ a o v f) s.heap.size = A at hD hE ⊢
  have hAe0 : ∀ q : Nat, s.heap.size ≤ q → A q := fun q h => by rw [← hAe]; exact Or.inr h
  have hS : va_S A s.heap s.heap [] := va_S.rf
  have hl := lv_entry ([.ref (a 0), .int x1, .int x2, .ref o]) (n := 5) (Nat.le_of_ble_eq_true rfl)
  rw [lg_entry_eq]
  generalize (lg_sl ([.ref (a 0), .int x1, .int x2, .ref o]) ++ List.replicate (5 - (lg_sl ([.ref (a 0), .int x1, .int x2, .ref o])).length) Slot.unset).toArray = ls at hl ⊢
  have hl : lv_has ls 5 [(0, .ref (a 0)), (1, .int x1), (2, .int x2), (3, .ref o)] := hl
  refine lv_aload_n hx hb dL_tunnel_0 rfl (lv_at hl 3 rfl) ?_
  refine lv_iconst (v := 0) hx hb dL_tunnel_1 (by decide) ?_
  refine lv_aload_n hx hb dL_tunnel_2 rfl (lv_at hl 0 rfl) ?_
  refine lv_iload_n hx hb dL_tunnel_3 rfl (lv_at hl 1 rfl) ?_
  refine lv_iload_n hx hb dL_tunnel_4 rfl (lv_at hl 2 rfl) ?_
  have hC : (rng 0 204).map (fun i => (wL cy cJ a o v f)[i]?) = (wX6 cy a v).map some := xC_left wX6_len
  have hPc := xsubP hP hC
  have hDc := xsubD hD (rng_nd 204 0) hC
  have hFc := va_free (wc := wX6 cy a v) hD hS hAe0 (rng 0 204) hC
  have hKc := tysJ_sub hK
  refine vx_calli (vx_runV (As := [.int x1, .int x2]) (rest := [.int 0, .ref o]) ⟨hx, hb, hml, hown, hts⟩ (c_X6_tunnel l dC dI cy a _ v x1 x2 _ _ hl9 hq) (cwV 2 hts gL_tunnel_X6_tunnel rfl rfl rfl (by decide +kernel) ⟨Nat.le_of_ble_eq_true rfl, Nat.le_of_ble_eq_true rfl⟩) ⟨xPre_blindX, va_recv hKc hPc (ci := 6) (q0 := 0) rfl rfl, xPre_ofX hPc hKc hDc hE.1 hS hFc⟩ rfl rfl hl.1 rfl (lv_room (Nat.le_of_ble_eq_true rfl)) dL_tunnel_5 ⟨Nat.le_of_ble_eq_true rfl, Nat.le_of_ble_eq_true rfl⟩) hS (fun q _ h => hFc q h) hFc (fun q _ h => hFc q h) (fun E ce q9 _ t H locs ht hvm _ hB hz1 hk1 hS hce hcv hcl => ?_) (fun r u9 t H locs ht hvm hq hB hz1 hk1 hS => ?_)
  · obtain ⟨hqx, hP1, -, hD1⟩ := hB
    rw [ht] at hP1
    have hP : va_P (dC, dI) vwCl (wL cy cJ a o v f) H := xj_keep hP hD (rng 0 204) hC hP1 hk1
    rcases hqx with ⟨rfl, hqx⟩ | ⟨rfl, hqx⟩
    · refine vx_catch (own := RL) (name := eI) hown [] ⟨0, 10, 13, 13⟩ [⟨0, 10, 17, 21⟩] (by rw [htab]; rfl) (fun z hz => by cases hz) (by decide) (by decide) (hts (Cond.classLink RL 13 "java/lang/IndexOutOfBoundsException") (List.mem_cons_of_mem _ (List.mem_append_left _ (List.mem_append_left _ (List.mem_append_left _ (List.mem_append_left _ (List.mem_append_left _ (List.mem_append_left _ (List.mem_of_getElem? (i := 0) rfl))))))))) (va_Nw.use rfl (hE.1.2.2.2.1 _ (List.mem_of_getElem? (i := 0) rfl))) hce hcv hcl ?_
      refine lv_astore (lv' := [(4, .ref q9), (0, .ref (a 0)), (1, .int x1), (2, .int x2), (3, .ref o)]) hx hb dL_tunnel_13 hl (by decide) rfl (fun ls hl => ?_)
      refine lv_iconst (v := 1) hx hb dL_tunnel_15 (by decide) ?_
      exact vx_ret (W.iret (v := 1) hx hb hr (fun t ht hW => ⟨⟨1, (v, f), rfl, hqx, by rw [ht]; exact hP, hD⟩, hS.F ht⟩) hS.2.2 dL_tunnel_16)
    · refine vx_catch (own := RL) (name := eA) hown [⟨0, 10, 13, 13⟩] ⟨0, 10, 17, 21⟩ [] (by rw [htab]; rfl) (fun z hz => by rcases List.mem_singleton.mp hz with rfl; exact Or.inr ⟨by decide, eI, hts (Cond.classLink RL 13 "java/lang/IndexOutOfBoundsException") (List.mem_cons_of_mem _ (List.mem_append_left _ (List.mem_append_left _ (List.mem_append_left _ (List.mem_append_left _ (List.mem_append_left _ (List.mem_append_left _ (List.mem_of_getElem? (i := 0) rfl)))))))), hE.2 (eA, eI) (List.mem_of_getElem? (i := 0) rfl)⟩) (by decide) (by decide) (hts (Cond.classLink RL 21 "java/lang/IllegalArgumentException") (List.mem_cons_of_mem _ (List.mem_append_left _ (List.mem_append_left _ (List.mem_append_left _ (List.mem_append_left _ (List.mem_append_left _ (List.mem_append_left _ (List.mem_of_getElem? (i := 1) rfl))))))))) (va_Nw.use rfl (hE.1.2.2.2.1 _ (List.mem_of_getElem? (i := 1) rfl))) hce hcv hcl ?_
      refine lv_astore (lv' := [(4, .ref q9), (0, .ref (a 0)), (1, .int x1), (2, .int x2), (3, .ref o)]) hx hb dL_tunnel_17 hl (by decide) rfl (fun ls hl => ?_)
      refine lv_iconst (v := 2) hx hb dL_tunnel_19 (by decide) ?_
      exact vx_ret (W.iret (v := 2) hx hb hr (fun t ht hW => ⟨⟨2, (v, f), rfl, hqx, by rw [ht]; exact hP, hD⟩, hS.F ht⟩) hS.2.2 dL_tunnel_20)
  · cases u9
    obtain ⟨hP1, -, hD1⟩ := hB
    rw [ht] at hP1
    have hP : va_P (dC, dI) vwCl (wL cy cJ a o v f) H := xj_keep hP hD (rng 0 204) hC hP1 hk1
    refine lv_i2l hx hb dL_tunnel_8 rfl ?_
    refine va_last hx hb hK hP hD hS 204 4 wL_J0 rfl vin01 dL_tunnel_9 (fun H locs hP hD hS => ?_)
    rw [wL_set] at hP hD
    refine lv_goto (tgt := 21) hx hb dL_tunnel_10 (by decide) ?_
    refine lv_iconst (v := 0) hx hb dL_tunnel_21 (by decide) ?_
    exact vx_ret (W.iret (v := 0) hx hb hr (fun t ht hW => ⟨⟨0, (v, _), rfl, hq, by rw [ht]; exact hP, hD⟩, hS.F ht⟩) hS.2.2 dL_tunnel_22)
set_option maxHeartbeats 4000000 in
set_option maxRecDepth 100000 in
theorem c_L_cell (l : Launch) (dC : Nat → ClassId) (dI : Nat → Nat → Nat) (cy : Nat → ClassId) (cJ : ClassId) (a : Nat → Nat) (o : Nat) (sz : Nat) (v : V_X6) (f : Nat → Int64) (x1 x2 : Int32) (Q : Int32 → V_X6 → (Nat → Int64) → Prop) (hl9 : l.stackTraces = false) (hq : wp_X6_cell v x1 x2 (fun r => Q 0 v (vp_updL f (0 : Int32).toNatClampNeg r.toInt64)) (fun E => (E = eI ∧ Q 1 v f) ∨ (E = eA ∧ Q 2 v f))) : vx_Met l yL_cell wsL_cell ({ frames := 8, cells := 2, slots := 12, locals := 145 } : Room) (va_Pc [.ref (a 0), .int x1, .int x2, .ref o] (preL dC dI cy cJ (wL cy cJ a o v f) sz)) (qL dC dI cy cJ a o Q (va_A (wL cy cJ a o v f) sz)) (xL (va_A (wL cy cJ a o v f) sz)) 2 12 (va_A (wL cy cJ a o v f) sz) := by
  refine vx_ofWH (cc := cL_cell) (maxL := 5) (ret := (some .int)) (hh := [(0, 10, 13, 13), (0, 10, 17, 21)]) (by decide) rfl ?_
  intro p e s m args below meth c s₁ B hml hv
  obtain ⟨rfl, hsz, hP, hK, hD0, hE⟩ := hv
  have hx := B.exec
  have hb := B.bytes
  have hr := B.returns
  have hts := atoms_spec (ws := wsL_cell) B.pre
  have hown : s.vm.findClass RL = some m.cls := findClass_of_methodNamed B.named
  have hlocks := B.notSynchronized
  have htab := vx_table (x := yL_cell) B (hts (Cond.codeWith yL_cell cL_cell 5 (some .int) [(0, 10, 13, 13), (0, 10, 17, 21)]) List.mem_cons_self)
  subst hsz
  have hD := hD0.self (sz := s.heap.size)
  generalize hAe : va_A (wL cy cJ a o v f) s.heap.size = A at hD hE ⊢
  have hAe0 : ∀ q : Nat, s.heap.size ≤ q → A q := fun q h => by rw [← hAe]; exact Or.inr h
  have hS : va_S A s.heap s.heap [] := va_S.rf
  have hl := lv_entry ([.ref (a 0), .int x1, .int x2, .ref o]) (n := 5) (Nat.le_of_ble_eq_true rfl)
  rw [lg_entry_eq]
  generalize (lg_sl ([.ref (a 0), .int x1, .int x2, .ref o]) ++ List.replicate (5 - (lg_sl ([.ref (a 0), .int x1, .int x2, .ref o])).length) Slot.unset).toArray = ls at hl ⊢
  have hl : lv_has ls 5 [(0, .ref (a 0)), (1, .int x1), (2, .int x2), (3, .ref o)] := hl
  refine lv_aload_n hx hb dL_cell_0 rfl (lv_at hl 3 rfl) ?_
  refine lv_iconst (v := 0) hx hb dL_cell_1 (by decide) ?_
  refine lv_aload_n hx hb dL_cell_2 rfl (lv_at hl 0 rfl) ?_
  refine lv_iload_n hx hb dL_cell_3 rfl (lv_at hl 1 rfl) ?_
  refine lv_iload_n hx hb dL_cell_4 rfl (lv_at hl 2 rfl) ?_
  have hC : (rng 0 204).map (fun i => (wL cy cJ a o v f)[i]?) = (wX6 cy a v).map some := xC_left wX6_len
  have hPc := xsubP hP hC
  have hDc := xsubD hD (rng_nd 204 0) hC
  have hFc := va_free (wc := wX6 cy a v) hD hS hAe0 (rng 0 204) hC
  have hKc := tysJ_sub hK
  refine vx_calli (vx_runV (As := [.int x1, .int x2]) (rest := [.int 0, .ref o]) ⟨hx, hb, hml, hown, hts⟩ (c_X6_cell l dC dI cy a _ v x1 x2 _ _ hl9 hq) (cwV 2 hts gL_cell_X6_cell rfl rfl rfl (by decide +kernel) ⟨Nat.le_of_ble_eq_true rfl, Nat.le_of_ble_eq_true rfl⟩) ⟨xPre_blindX, va_recv hKc hPc (ci := 6) (q0 := 0) rfl rfl, xPre_ofX hPc hKc hDc hE.1 hS hFc⟩ rfl rfl hl.1 rfl (lv_room (Nat.le_of_ble_eq_true rfl)) dL_cell_5 ⟨Nat.le_of_ble_eq_true rfl, Nat.le_of_ble_eq_true rfl⟩) hS (fun q _ h => hFc q h) hFc (fun q _ h => hFc q h) (fun E ce q9 _ t H locs ht hvm _ hB hz1 hk1 hS hce hcv hcl => ?_) (fun r u9 t H locs ht hvm hq hB hz1 hk1 hS => ?_)
  · obtain ⟨hqx, hP1, -, hD1⟩ := hB
    rw [ht] at hP1
    have hP : va_P (dC, dI) vwCl (wL cy cJ a o v f) H := xj_keep hP hD (rng 0 204) hC hP1 hk1
    rcases hqx with ⟨rfl, hqx⟩ | ⟨rfl, hqx⟩
    · refine vx_catch (own := RL) (name := eI) hown [] ⟨0, 10, 13, 13⟩ [⟨0, 10, 17, 21⟩] (by rw [htab]; rfl) (fun z hz => by cases hz) (by decide) (by decide) (hts (Cond.classLink RL 13 "java/lang/IndexOutOfBoundsException") (List.mem_cons_of_mem _ (List.mem_append_left _ (List.mem_append_left _ (List.mem_append_left _ (List.mem_append_left _ (List.mem_append_left _ (List.mem_append_left _ (List.mem_of_getElem? (i := 0) rfl))))))))) (va_Nw.use rfl (hE.1.2.2.2.1 _ (List.mem_of_getElem? (i := 0) rfl))) hce hcv hcl ?_
      refine lv_astore (lv' := [(4, .ref q9), (0, .ref (a 0)), (1, .int x1), (2, .int x2), (3, .ref o)]) hx hb dL_cell_13 hl (by decide) rfl (fun ls hl => ?_)
      refine lv_iconst (v := 1) hx hb dL_cell_15 (by decide) ?_
      exact vx_ret (W.iret (v := 1) hx hb hr (fun t ht hW => ⟨⟨1, (v, f), rfl, hqx, by rw [ht]; exact hP, hD⟩, hS.F ht⟩) hS.2.2 dL_cell_16)
    · refine vx_catch (own := RL) (name := eA) hown [⟨0, 10, 13, 13⟩] ⟨0, 10, 17, 21⟩ [] (by rw [htab]; rfl) (fun z hz => by rcases List.mem_singleton.mp hz with rfl; exact Or.inr ⟨by decide, eI, hts (Cond.classLink RL 13 "java/lang/IndexOutOfBoundsException") (List.mem_cons_of_mem _ (List.mem_append_left _ (List.mem_append_left _ (List.mem_append_left _ (List.mem_append_left _ (List.mem_append_left _ (List.mem_append_left _ (List.mem_of_getElem? (i := 0) rfl)))))))), hE.2 (eA, eI) (List.mem_of_getElem? (i := 0) rfl)⟩) (by decide) (by decide) (hts (Cond.classLink RL 21 "java/lang/IllegalArgumentException") (List.mem_cons_of_mem _ (List.mem_append_left _ (List.mem_append_left _ (List.mem_append_left _ (List.mem_append_left _ (List.mem_append_left _ (List.mem_append_left _ (List.mem_of_getElem? (i := 1) rfl))))))))) (va_Nw.use rfl (hE.1.2.2.2.1 _ (List.mem_of_getElem? (i := 1) rfl))) hce hcv hcl ?_
      refine lv_astore (lv' := [(4, .ref q9), (0, .ref (a 0)), (1, .int x1), (2, .int x2), (3, .ref o)]) hx hb dL_cell_17 hl (by decide) rfl (fun ls hl => ?_)
      refine lv_iconst (v := 2) hx hb dL_cell_19 (by decide) ?_
      exact vx_ret (W.iret (v := 2) hx hb hr (fun t ht hW => ⟨⟨2, (v, f), rfl, hqx, by rw [ht]; exact hP, hD⟩, hS.F ht⟩) hS.2.2 dL_cell_20)
  · cases u9
    obtain ⟨hP1, -, hD1⟩ := hB
    rw [ht] at hP1
    have hP : va_P (dC, dI) vwCl (wL cy cJ a o v f) H := xj_keep hP hD (rng 0 204) hC hP1 hk1
    refine lv_i2l hx hb dL_cell_8 rfl ?_
    refine va_last hx hb hK hP hD hS 204 4 wL_J0 rfl vin01 dL_cell_9 (fun H locs hP hD hS => ?_)
    rw [wL_set] at hP hD
    refine lv_goto (tgt := 21) hx hb dL_cell_10 (by decide) ?_
    refine lv_iconst (v := 0) hx hb dL_cell_21 (by decide) ?_
    exact vx_ret (W.iret (v := 0) hx hb hr (fun t ht hW => ⟨⟨0, (v, _), rfl, hq, by rw [ht]; exact hP, hD⟩, hS.F ht⟩) hS.2.2 dL_cell_22)
set_option maxHeartbeats 4000000 in
set_option maxRecDepth 100000 in
theorem c_L_count (l : Launch) (dC : Nat → ClassId) (dI : Nat → Nat → Nat) (cy : Nat → ClassId) (cJ : ClassId) (a : Nat → Nat) (o : Nat) (sz : Nat) (v : V_X6) (f : Nat → Int64) (x1 : Int32) (Q : Int32 → V_X6 → (Nat → Int64) → Prop) (hl9 : l.stackTraces = false) (hq : wp_X6_count v x1 (fun r z_paths z_survey => Q 0 ((X6_lawn v), (X6_snapshot v), (X6_trial v), (X6_savedR v), (X6_saved v), (X6_text v), z_survey, z_paths, (X6_snapshotTaken v), (X6_savedCount v), (X6_spareR v)) (vp_updL f (0 : Int32).toNatClampNeg r.toInt64)) (fun E => (E = eA ∧ Q 1 v f))) : vx_Met l yL_count wsL_count ({ frames := 8, cells := 1, slots := 6, locals := 159 } : Room) (va_Pc [.ref (a 0), .int x1, .ref o] (preL dC dI cy cJ (wL cy cJ a o v f) sz)) (qL dC dI cy cJ a o Q (va_A (wL cy cJ a o v f) sz)) (xL (va_A (wL cy cJ a o v f) sz)) 1 6 (va_A (wL cy cJ a o v f) sz) := by
  refine vx_ofWH (cc := cL_count) (maxL := 4) (ret := (some .int)) (hh := [(0, 9, 12, 21)]) (by decide) rfl ?_
  intro p e s m args below meth c s₁ B hml hv
  obtain ⟨rfl, hsz, hP, hK, hD0, hE⟩ := hv
  have hx := B.exec
  have hb := B.bytes
  have hr := B.returns
  have hts := atoms_spec (ws := wsL_count) B.pre
  have hown : s.vm.findClass RL = some m.cls := findClass_of_methodNamed B.named
  have hlocks := B.notSynchronized
  have htab := vx_table (x := yL_count) B (hts (Cond.codeWith yL_count cL_count 4 (some .int) [(0, 9, 12, 21)]) List.mem_cons_self)
  subst hsz
  have hD := hD0.self (sz := s.heap.size)
  generalize hAe : va_A (wL cy cJ a o v f) s.heap.size = A at hD hE ⊢
  have hAe0 : ∀ q : Nat, s.heap.size ≤ q → A q := fun q h => by rw [← hAe]; exact Or.inr h
  have hS : va_S A s.heap s.heap [] := va_S.rf
  have hl := lv_entry ([.ref (a 0), .int x1, .ref o]) (n := 4) (Nat.le_of_ble_eq_true rfl)
  rw [lg_entry_eq]
  generalize (lg_sl ([.ref (a 0), .int x1, .ref o]) ++ List.replicate (4 - (lg_sl ([.ref (a 0), .int x1, .ref o])).length) Slot.unset).toArray = ls at hl ⊢
  have hl : lv_has ls 4 [(0, .ref (a 0)), (1, .int x1), (2, .ref o)] := hl
  refine lv_aload_n hx hb dL_count_0 rfl (lv_at hl 2 rfl) ?_
  refine lv_iconst (v := 0) hx hb dL_count_1 (by decide) ?_
  refine lv_aload_n hx hb dL_count_2 rfl (lv_at hl 0 rfl) ?_
  refine lv_iload_n hx hb dL_count_3 rfl (lv_at hl 1 rfl) ?_
  have hC : (rng 0 204).map (fun i => (wL cy cJ a o v f)[i]?) = (wX6 cy a v).map some := xC_left wX6_len
  have hPc := xsubP hP hC
  have hDc := xsubD hD (rng_nd 204 0) hC
  have hFc := va_free (wc := wX6 cy a v) hD hS hAe0 (rng 0 204) hC
  have hKc := tysJ_sub hK
  refine vx_calli (vx_runV (As := [.int x1]) (rest := [.int 0, .ref o]) ⟨hx, hb, hml, hown, hts⟩ (c_X6_count l dC dI cy a _ v x1 _ _ hl9 hq) (cwV 1 hts gL_count_X6_count rfl rfl rfl (by decide +kernel) ⟨Nat.le_of_ble_eq_true rfl, Nat.le_of_ble_eq_true rfl⟩) ⟨xPre_blindX, va_recv hKc hPc (ci := 6) (q0 := 0) rfl rfl, xPre_ofX hPc hKc hDc hE.1 hS hFc⟩ rfl rfl hl.1 rfl (lv_room (Nat.le_of_ble_eq_true rfl)) dL_count_4 ⟨Nat.le_of_ble_eq_true rfl, Nat.le_of_ble_eq_true rfl⟩) hS (fun q _ h => hFc q h) hFc (fun q _ h => hFc q h) (fun E ce q9 _ t H locs ht hvm _ hB hz1 hk1 hS hce hcv hcl => ?_) (fun r u9 t H locs ht hvm hq hB hz1 hk1 hS => ?_)
  · obtain ⟨hqx, hP1, -, hD1⟩ := hB
    rw [ht] at hP1
    have hP : va_P (dC, dI) vwCl (wL cy cJ a o v f) H := xj_keep hP hD (rng 0 204) hC hP1 hk1
    obtain ⟨rfl, hqx⟩ := hqx
    refine vx_catch (own := RL) (name := eA) hown [] ⟨0, 9, 12, 21⟩ [] (by rw [htab]; rfl) (fun z hz => by cases hz) (by decide) (by decide) (hts (Cond.classLink RL 21 "java/lang/IllegalArgumentException") (List.mem_cons_of_mem _ (List.mem_append_left _ (List.mem_append_left _ (List.mem_append_left _ (List.mem_append_left _ (List.mem_append_left _ (List.mem_append_left _ (List.mem_append_left _ (List.mem_append_left _ (List.mem_of_getElem? (i := 0) rfl))))))))))) (va_Nw.use rfl (hE.1.2.2.2.1 _ (List.mem_of_getElem? (i := 1) rfl))) hce hcv hcl ?_
    refine lv_astore_n (lv' := [(3, .ref q9), (0, .ref (a 0)), (1, .int x1), (2, .ref o)]) hx hb dL_count_12 rfl hl (by decide) rfl (fun ls hl => ?_)
    refine lv_iconst (v := 1) hx hb dL_count_13 (by decide) ?_
    exact vx_ret (W.iret (v := 1) hx hb hr (fun t ht hW => ⟨⟨1, (v, f), rfl, hqx, by rw [ht]; exact hP, hD⟩, hS.F ht⟩) hS.2.2 dL_count_14)
  · obtain ⟨z_paths, z_survey⟩ := u9
    obtain ⟨hP1, -, hD1⟩ := hB
    rw [ht] at hP1
    obtain ⟨hP, hD⟩ := xj hP hD (rng 0 204) (wX6 cy a ((X6_lawn v), (X6_snapshot v), (X6_trial v), (X6_savedR v), (X6_saved v), (X6_text v), z_survey, z_paths, (X6_snapshotTaken v), (X6_savedCount v), (X6_spareR v))) (ws' := wL cy cJ a o ((X6_lawn v), (X6_snapshot v), (X6_trial v), (X6_savedR v), (X6_saved v), (X6_text v), z_survey, z_paths, (X6_snapshotTaken v), (X6_savedCount v), (X6_spareR v)) f) hC wX6_fst (xS_left wX6_len wX6_len) hk1 hFc hP1
    refine lv_i2l hx hb dL_count_7 rfl ?_
    refine va_last hx hb hK hP hD hS 204 4 wL_J0 rfl vin01 dL_count_8 (fun H locs hP hD hS => ?_)
    rw [wL_set] at hP hD
    refine lv_goto (tgt := 15) hx hb dL_count_9 (by decide) ?_
    refine lv_iconst (v := 0) hx hb dL_count_15 (by decide) ?_
    exact vx_ret (W.iret (v := 0) hx hb hr (fun t ht hW => ⟨⟨0, (((X6_lawn v), (X6_snapshot v), (X6_trial v), (X6_savedR v), (X6_saved v), (X6_text v), z_survey, z_paths, (X6_snapshotTaken v), (X6_savedCount v), (X6_spareR v)), _), rfl, hq, by rw [ht]; exact hP, hD⟩, hS.F ht⟩) hS.2.2 dL_count_16)
set_option maxHeartbeats 4000000 in
set_option maxRecDepth 100000 in
theorem c_L_joined (l : Launch) (dC : Nat → ClassId) (dI : Nat → Nat → Nat) (cy : Nat → ClassId) (cJ : ClassId) (a : Nat → Nat) (o : Nat) (sz : Nat) (v : V_X6) (f : Nat → Int64) (x1 x2 : Int32) (Q : Int32 → V_X6 → (Nat → Int64) → Prop) (hl9 : l.stackTraces = false) (hq : wp_X6_joined v x1 x2 (fun r z_paths => Q 0 ((X6_lawn v), (X6_snapshot v), (X6_trial v), (X6_savedR v), (X6_saved v), (X6_text v), (X6_survey v), z_paths, (X6_snapshotTaken v), (X6_savedCount v), (X6_spareR v)) (vp_updL f (0 : Int32).toNatClampNeg r.toInt64)) (fun E => (E = eI ∧ Q 1 v f))) : vx_Met l yL_joined wsL_joined ({ frames := 8, cells := 2, slots := 12, locals := 145 } : Room) (va_Pc [.ref (a 0), .int x1, .int x2, .ref o] (preL dC dI cy cJ (wL cy cJ a o v f) sz)) (qL dC dI cy cJ a o Q (va_A (wL cy cJ a o v f) sz)) (xL (va_A (wL cy cJ a o v f) sz)) 2 12 (va_A (wL cy cJ a o v f) sz) := by
  refine vx_ofWH (cc := cL_joined) (maxL := 5) (ret := (some .int)) (hh := [(0, 10, 13, 13)]) (by decide) rfl ?_
  intro p e s m args below meth c s₁ B hml hv
  obtain ⟨rfl, hsz, hP, hK, hD0, hE⟩ := hv
  have hx := B.exec
  have hb := B.bytes
  have hr := B.returns
  have hts := atoms_spec (ws := wsL_joined) B.pre
  have hown : s.vm.findClass RL = some m.cls := findClass_of_methodNamed B.named
  have hlocks := B.notSynchronized
  have htab := vx_table (x := yL_joined) B (hts (Cond.codeWith yL_joined cL_joined 5 (some .int) [(0, 10, 13, 13)]) List.mem_cons_self)
  subst hsz
  have hD := hD0.self (sz := s.heap.size)
  generalize hAe : va_A (wL cy cJ a o v f) s.heap.size = A at hD hE ⊢
  have hAe0 : ∀ q : Nat, s.heap.size ≤ q → A q := fun q h => by rw [← hAe]; exact Or.inr h
  have hS : va_S A s.heap s.heap [] := va_S.rf
  have hl := lv_entry ([.ref (a 0), .int x1, .int x2, .ref o]) (n := 5) (Nat.le_of_ble_eq_true rfl)
  rw [lg_entry_eq]
  generalize (lg_sl ([.ref (a 0), .int x1, .int x2, .ref o]) ++ List.replicate (5 - (lg_sl ([.ref (a 0), .int x1, .int x2, .ref o])).length) Slot.unset).toArray = ls at hl ⊢
  have hl : lv_has ls 5 [(0, .ref (a 0)), (1, .int x1), (2, .int x2), (3, .ref o)] := hl
  refine lv_aload_n hx hb dL_joined_0 rfl (lv_at hl 3 rfl) ?_
  refine lv_iconst (v := 0) hx hb dL_joined_1 (by decide) ?_
  refine lv_aload_n hx hb dL_joined_2 rfl (lv_at hl 0 rfl) ?_
  refine lv_iload_n hx hb dL_joined_3 rfl (lv_at hl 1 rfl) ?_
  refine lv_iload_n hx hb dL_joined_4 rfl (lv_at hl 2 rfl) ?_
  have hC : (rng 0 204).map (fun i => (wL cy cJ a o v f)[i]?) = (wX6 cy a v).map some := xC_left wX6_len
  have hPc := xsubP hP hC
  have hDc := xsubD hD (rng_nd 204 0) hC
  have hFc := va_free (wc := wX6 cy a v) hD hS hAe0 (rng 0 204) hC
  have hKc := tysJ_sub hK
  refine vx_calli (vx_runV (As := [.int x1, .int x2]) (rest := [.int 0, .ref o]) ⟨hx, hb, hml, hown, hts⟩ (c_X6_joined l dC dI cy a _ v x1 x2 _ _ hl9 hq) (cwV 2 hts gL_joined_X6_joined rfl rfl rfl (by decide +kernel) ⟨Nat.le_of_ble_eq_true rfl, Nat.le_of_ble_eq_true rfl⟩) ⟨xPre_blindX, va_recv hKc hPc (ci := 6) (q0 := 0) rfl rfl, xPre_ofX hPc hKc hDc hE.1 hS hFc⟩ rfl rfl hl.1 rfl (lv_room (Nat.le_of_ble_eq_true rfl)) dL_joined_5 ⟨Nat.le_of_ble_eq_true rfl, Nat.le_of_ble_eq_true rfl⟩) hS (fun q _ h => hFc q h) hFc (fun q _ h => hFc q h) (fun E ce q9 _ t H locs ht hvm _ hB hz1 hk1 hS hce hcv hcl => ?_) (fun r u9 t H locs ht hvm hq hB hz1 hk1 hS => ?_)
  · obtain ⟨hqx, hP1, -, hD1⟩ := hB
    rw [ht] at hP1
    have hP : va_P (dC, dI) vwCl (wL cy cJ a o v f) H := xj_keep hP hD (rng 0 204) hC hP1 hk1
    obtain ⟨rfl, hqx⟩ := hqx
    refine vx_catch (own := RL) (name := eI) hown [] ⟨0, 10, 13, 13⟩ [] (by rw [htab]; rfl) (fun z hz => by cases hz) (by decide) (by decide) (hts (Cond.classLink RL 13 "java/lang/IndexOutOfBoundsException") (List.mem_cons_of_mem _ (List.mem_append_left _ (List.mem_append_left _ (List.mem_append_left _ (List.mem_append_left _ (List.mem_append_left _ (List.mem_append_left _ (List.mem_of_getElem? (i := 0) rfl))))))))) (va_Nw.use rfl (hE.1.2.2.2.1 _ (List.mem_of_getElem? (i := 0) rfl))) hce hcv hcl ?_
    refine lv_astore (lv' := [(4, .ref q9), (0, .ref (a 0)), (1, .int x1), (2, .int x2), (3, .ref o)]) hx hb dL_joined_13 hl (by decide) rfl (fun ls hl => ?_)
    refine lv_iconst (v := 1) hx hb dL_joined_15 (by decide) ?_
    exact vx_ret (W.iret (v := 1) hx hb hr (fun t ht hW => ⟨⟨1, (v, f), rfl, hqx, by rw [ht]; exact hP, hD⟩, hS.F ht⟩) hS.2.2 dL_joined_16)
  · obtain ⟨z_paths, rfl⟩ : ∃ z, z = u9 := ⟨_, rfl⟩
    obtain ⟨hP1, -, hD1⟩ := hB
    rw [ht] at hP1
    obtain ⟨hP, hD⟩ := xj hP hD (rng 0 204) (wX6 cy a ((X6_lawn v), (X6_snapshot v), (X6_trial v), (X6_savedR v), (X6_saved v), (X6_text v), (X6_survey v), z_paths, (X6_snapshotTaken v), (X6_savedCount v), (X6_spareR v))) (ws' := wL cy cJ a o ((X6_lawn v), (X6_snapshot v), (X6_trial v), (X6_savedR v), (X6_saved v), (X6_text v), (X6_survey v), z_paths, (X6_snapshotTaken v), (X6_savedCount v), (X6_spareR v)) f) hC wX6_fst (xS_left wX6_len wX6_len) hk1 hFc hP1
    refine lv_i2l hx hb dL_joined_8 rfl ?_
    refine va_last hx hb hK hP hD hS 204 4 wL_J0 rfl vin01 dL_joined_9 (fun H locs hP hD hS => ?_)
    rw [wL_set] at hP hD
    refine lv_goto (tgt := 17) hx hb dL_joined_10 (by decide) ?_
    refine lv_iconst (v := 0) hx hb dL_joined_17 (by decide) ?_
    exact vx_ret (W.iret (v := 0) hx hb hr (fun t ht hW => ⟨⟨0, (((X6_lawn v), (X6_snapshot v), (X6_trial v), (X6_savedR v), (X6_saved v), (X6_text v), (X6_survey v), z_paths, (X6_snapshotTaken v), (X6_savedCount v), (X6_spareR v)), _), rfl, hq, by rw [ht]; exact hP, hD⟩, hS.F ht⟩) hS.2.2 dL_joined_18)
set_option maxHeartbeats 4000000 in
set_option maxRecDepth 100000 in
theorem c_L_fewest (l : Launch) (dC : Nat → ClassId) (dI : Nat → Nat → Nat) (cy : Nat → ClassId) (cJ : ClassId) (a : Nat → Nat) (o : Nat) (sz : Nat) (v : V_X6) (f : Nat → Int64) (x1 x2 : Int32) (Q : Int32 → V_X6 → (Nat → Int64) → Prop) (hl9 : l.stackTraces = false) (hq : wp_X6_fewest v x1 x2 (fun r z_paths => Q 0 ((X6_lawn v), (X6_snapshot v), (X6_trial v), (X6_savedR v), (X6_saved v), (X6_text v), (X6_survey v), z_paths, (X6_snapshotTaken v), (X6_savedCount v), (X6_spareR v)) (vp_updL f (0 : Int32).toNatClampNeg r.toInt64)) (fun E => (E = eI ∧ Q 1 v f))) : vx_Met l yL_fewest wsL_fewest ({ frames := 8, cells := 2, slots := 12, locals := 145 } : Room) (va_Pc [.ref (a 0), .int x1, .int x2, .ref o] (preL dC dI cy cJ (wL cy cJ a o v f) sz)) (qL dC dI cy cJ a o Q (va_A (wL cy cJ a o v f) sz)) (xL (va_A (wL cy cJ a o v f) sz)) 2 12 (va_A (wL cy cJ a o v f) sz) := by
  refine vx_ofWH (cc := cL_fewest) (maxL := 5) (ret := (some .int)) (hh := [(0, 10, 13, 13)]) (by decide) rfl ?_
  intro p e s m args below meth c s₁ B hml hv
  obtain ⟨rfl, hsz, hP, hK, hD0, hE⟩ := hv
  have hx := B.exec
  have hb := B.bytes
  have hr := B.returns
  have hts := atoms_spec (ws := wsL_fewest) B.pre
  have hown : s.vm.findClass RL = some m.cls := findClass_of_methodNamed B.named
  have hlocks := B.notSynchronized
  have htab := vx_table (x := yL_fewest) B (hts (Cond.codeWith yL_fewest cL_fewest 5 (some .int) [(0, 10, 13, 13)]) List.mem_cons_self)
  subst hsz
  have hD := hD0.self (sz := s.heap.size)
  generalize hAe : va_A (wL cy cJ a o v f) s.heap.size = A at hD hE ⊢
  have hAe0 : ∀ q : Nat, s.heap.size ≤ q → A q := fun q h => by rw [← hAe]; exact Or.inr h
  have hS : va_S A s.heap s.heap [] := va_S.rf
  have hl := lv_entry ([.ref (a 0), .int x1, .int x2, .ref o]) (n := 5) (Nat.le_of_ble_eq_true rfl)
  rw [lg_entry_eq]
  generalize (lg_sl ([.ref (a 0), .int x1, .int x2, .ref o]) ++ List.replicate (5 - (lg_sl ([.ref (a 0), .int x1, .int x2, .ref o])).length) Slot.unset).toArray = ls at hl ⊢
  have hl : lv_has ls 5 [(0, .ref (a 0)), (1, .int x1), (2, .int x2), (3, .ref o)] := hl
  refine lv_aload_n hx hb dL_fewest_0 rfl (lv_at hl 3 rfl) ?_
  refine lv_iconst (v := 0) hx hb dL_fewest_1 (by decide) ?_
  refine lv_aload_n hx hb dL_fewest_2 rfl (lv_at hl 0 rfl) ?_
  refine lv_iload_n hx hb dL_fewest_3 rfl (lv_at hl 1 rfl) ?_
  refine lv_iload_n hx hb dL_fewest_4 rfl (lv_at hl 2 rfl) ?_
  have hC : (rng 0 204).map (fun i => (wL cy cJ a o v f)[i]?) = (wX6 cy a v).map some := xC_left wX6_len
  have hPc := xsubP hP hC
  have hDc := xsubD hD (rng_nd 204 0) hC
  have hFc := va_free (wc := wX6 cy a v) hD hS hAe0 (rng 0 204) hC
  have hKc := tysJ_sub hK
  refine vx_calli (vx_runV (As := [.int x1, .int x2]) (rest := [.int 0, .ref o]) ⟨hx, hb, hml, hown, hts⟩ (c_X6_fewest l dC dI cy a _ v x1 x2 _ _ hl9 hq) (cwV 2 hts gL_fewest_X6_fewest rfl rfl rfl (by decide +kernel) ⟨Nat.le_of_ble_eq_true rfl, Nat.le_of_ble_eq_true rfl⟩) ⟨xPre_blindX, va_recv hKc hPc (ci := 6) (q0 := 0) rfl rfl, xPre_ofX hPc hKc hDc hE.1 hS hFc⟩ rfl rfl hl.1 rfl (lv_room (Nat.le_of_ble_eq_true rfl)) dL_fewest_5 ⟨Nat.le_of_ble_eq_true rfl, Nat.le_of_ble_eq_true rfl⟩) hS (fun q _ h => hFc q h) hFc (fun q _ h => hFc q h) (fun E ce q9 _ t H locs ht hvm _ hB hz1 hk1 hS hce hcv hcl => ?_) (fun r u9 t H locs ht hvm hq hB hz1 hk1 hS => ?_)
  · obtain ⟨hqx, hP1, -, hD1⟩ := hB
    rw [ht] at hP1
    have hP : va_P (dC, dI) vwCl (wL cy cJ a o v f) H := xj_keep hP hD (rng 0 204) hC hP1 hk1
    obtain ⟨rfl, hqx⟩ := hqx
    refine vx_catch (own := RL) (name := eI) hown [] ⟨0, 10, 13, 13⟩ [] (by rw [htab]; rfl) (fun z hz => by cases hz) (by decide) (by decide) (hts (Cond.classLink RL 13 "java/lang/IndexOutOfBoundsException") (List.mem_cons_of_mem _ (List.mem_append_left _ (List.mem_append_left _ (List.mem_append_left _ (List.mem_append_left _ (List.mem_append_left _ (List.mem_append_left _ (List.mem_of_getElem? (i := 0) rfl))))))))) (va_Nw.use rfl (hE.1.2.2.2.1 _ (List.mem_of_getElem? (i := 0) rfl))) hce hcv hcl ?_
    refine lv_astore (lv' := [(4, .ref q9), (0, .ref (a 0)), (1, .int x1), (2, .int x2), (3, .ref o)]) hx hb dL_fewest_13 hl (by decide) rfl (fun ls hl => ?_)
    refine lv_iconst (v := 1) hx hb dL_fewest_15 (by decide) ?_
    exact vx_ret (W.iret (v := 1) hx hb hr (fun t ht hW => ⟨⟨1, (v, f), rfl, hqx, by rw [ht]; exact hP, hD⟩, hS.F ht⟩) hS.2.2 dL_fewest_16)
  · obtain ⟨z_paths, rfl⟩ : ∃ z, z = u9 := ⟨_, rfl⟩
    obtain ⟨hP1, -, hD1⟩ := hB
    rw [ht] at hP1
    obtain ⟨hP, hD⟩ := xj hP hD (rng 0 204) (wX6 cy a ((X6_lawn v), (X6_snapshot v), (X6_trial v), (X6_savedR v), (X6_saved v), (X6_text v), (X6_survey v), z_paths, (X6_snapshotTaken v), (X6_savedCount v), (X6_spareR v))) (ws' := wL cy cJ a o ((X6_lawn v), (X6_snapshot v), (X6_trial v), (X6_savedR v), (X6_saved v), (X6_text v), (X6_survey v), z_paths, (X6_snapshotTaken v), (X6_savedCount v), (X6_spareR v)) f) hC wX6_fst (xS_left wX6_len wX6_len) hk1 hFc hP1
    refine lv_i2l hx hb dL_fewest_8 rfl ?_
    refine va_last hx hb hK hP hD hS 204 4 wL_J0 rfl vin01 dL_fewest_9 (fun H locs hP hD hS => ?_)
    rw [wL_set] at hP hD
    refine lv_goto (tgt := 17) hx hb dL_fewest_10 (by decide) ?_
    refine lv_iconst (v := 0) hx hb dL_fewest_17 (by decide) ?_
    exact vx_ret (W.iret (v := 0) hx hb hr (fun t ht hW => ⟨⟨0, (((X6_lawn v), (X6_snapshot v), (X6_trial v), (X6_savedR v), (X6_saved v), (X6_text v), (X6_survey v), z_paths, (X6_snapshotTaken v), (X6_savedCount v), (X6_spareR v)), _), rfl, hq, by rw [ht]; exact hP, hD⟩, hS.F ht⟩) hS.2.2 dL_fewest_18)
set_option maxHeartbeats 4000000 in
set_option maxRecDepth 100000 in
theorem c_L_ifDug (l : Launch) (dC : Nat → ClassId) (dI : Nat → Nat → Nat) (cy : Nat → ClassId) (cJ : ClassId) (a : Nat → Nat) (o : Nat) (sz : Nat) (v : V_X6) (f : Nat → Int64) (x1 x2 : Int32) (Q : Int32 → V_X6 → (Nat → Int64) → Prop) (hl9 : l.stackTraces = false) (hq : wp_X6_ifDug v x1 x2 (fun r z_spareR z_survey z_trial => Q 0 ((X6_lawn v), (X6_snapshot v), z_trial, (X6_savedR v), (X6_saved v), (X6_text v), z_survey, (X6_paths v), (X6_snapshotTaken v), (X6_savedCount v), z_spareR) (vp_updL f (0 : Int32).toNatClampNeg r.toInt64)) (fun E => (E = eI ∧ Q 1 v f) ∨ (E = eA ∧ Q 2 v f))) : vx_Met l yL_ifDug wsL_ifDug ({ frames := 8, cells := 2, slots := 12, locals := 166 } : Room) (va_Pc [.ref (a 0), .int x1, .int x2, .ref o] (preL dC dI cy cJ (wL cy cJ a o v f) sz)) (qL dC dI cy cJ a o Q (va_A (wL cy cJ a o v f) sz)) (xL (va_A (wL cy cJ a o v f) sz)) 2 12 (va_A (wL cy cJ a o v f) sz) := by
  refine vx_ofWH (cc := cL_ifDug) (maxL := 5) (ret := (some .int)) (hh := [(0, 10, 13, 13), (0, 10, 17, 21)]) (by decide) rfl ?_
  intro p e s m args below meth c s₁ B hml hv
  obtain ⟨rfl, hsz, hP, hK, hD0, hE⟩ := hv
  have hx := B.exec
  have hb := B.bytes
  have hr := B.returns
  have hts := atoms_spec (ws := wsL_ifDug) B.pre
  have hown : s.vm.findClass RL = some m.cls := findClass_of_methodNamed B.named
  have hlocks := B.notSynchronized
  have htab := vx_table (x := yL_ifDug) B (hts (Cond.codeWith yL_ifDug cL_ifDug 5 (some .int) [(0, 10, 13, 13), (0, 10, 17, 21)]) List.mem_cons_self)
  subst hsz
  have hD := hD0.self (sz := s.heap.size)
  generalize hAe : va_A (wL cy cJ a o v f) s.heap.size = A at hD hE ⊢
  have hAe0 : ∀ q : Nat, s.heap.size ≤ q → A q := fun q h => by rw [← hAe]; exact Or.inr h
  have hS : va_S A s.heap s.heap [] := va_S.rf
  have hl := lv_entry ([.ref (a 0), .int x1, .int x2, .ref o]) (n := 5) (Nat.le_of_ble_eq_true rfl)
  rw [lg_entry_eq]
  generalize (lg_sl ([.ref (a 0), .int x1, .int x2, .ref o]) ++ List.replicate (5 - (lg_sl ([.ref (a 0), .int x1, .int x2, .ref o])).length) Slot.unset).toArray = ls at hl ⊢
  have hl : lv_has ls 5 [(0, .ref (a 0)), (1, .int x1), (2, .int x2), (3, .ref o)] := hl
  refine lv_aload_n hx hb dL_ifDug_0 rfl (lv_at hl 3 rfl) ?_
  refine lv_iconst (v := 0) hx hb dL_ifDug_1 (by decide) ?_
  refine lv_aload_n hx hb dL_ifDug_2 rfl (lv_at hl 0 rfl) ?_
  refine lv_iload_n hx hb dL_ifDug_3 rfl (lv_at hl 1 rfl) ?_
  refine lv_iload_n hx hb dL_ifDug_4 rfl (lv_at hl 2 rfl) ?_
  have hC : (rng 0 204).map (fun i => (wL cy cJ a o v f)[i]?) = (wX6 cy a v).map some := xC_left wX6_len
  have hPc := xsubP hP hC
  have hDc := xsubD hD (rng_nd 204 0) hC
  have hFc := va_free (wc := wX6 cy a v) hD hS hAe0 (rng 0 204) hC
  have hKc := tysJ_sub hK
  refine vx_calli (vx_runV (As := [.int x1, .int x2]) (rest := [.int 0, .ref o]) ⟨hx, hb, hml, hown, hts⟩ (c_X6_ifDug l dC dI cy a _ v x1 x2 _ _ hl9 hq) (cwV 2 hts gL_ifDug_X6_ifDug rfl rfl rfl (by decide +kernel) ⟨Nat.le_of_ble_eq_true rfl, Nat.le_of_ble_eq_true rfl⟩) ⟨xPre_blindX, va_recv hKc hPc (ci := 6) (q0 := 0) rfl rfl, xPre_ofX hPc hKc hDc hE.1 hS hFc⟩ rfl rfl hl.1 rfl (lv_room (Nat.le_of_ble_eq_true rfl)) dL_ifDug_5 ⟨Nat.le_of_ble_eq_true rfl, Nat.le_of_ble_eq_true rfl⟩) hS (fun q _ h => hFc q h) hFc (fun q _ h => hFc q h) (fun E ce q9 _ t H locs ht hvm _ hB hz1 hk1 hS hce hcv hcl => ?_) (fun r u9 t H locs ht hvm hq hB hz1 hk1 hS => ?_)
  · obtain ⟨hqx, hP1, -, hD1⟩ := hB
    rw [ht] at hP1
    have hP : va_P (dC, dI) vwCl (wL cy cJ a o v f) H := xj_keep hP hD (rng 0 204) hC hP1 hk1
    rcases hqx with ⟨rfl, hqx⟩ | ⟨rfl, hqx⟩
    · refine vx_catch (own := RL) (name := eI) hown [] ⟨0, 10, 13, 13⟩ [⟨0, 10, 17, 21⟩] (by rw [htab]; rfl) (fun z hz => by cases hz) (by decide) (by decide) (hts (Cond.classLink RL 13 "java/lang/IndexOutOfBoundsException") (List.mem_cons_of_mem _ (List.mem_append_left _ (List.mem_append_left _ (List.mem_append_left _ (List.mem_append_left _ (List.mem_append_left _ (List.mem_append_left _ (List.mem_append_left _ (List.mem_append_left _ (List.mem_of_getElem? (i := 0) rfl))))))))))) (va_Nw.use rfl (hE.1.2.2.2.1 _ (List.mem_of_getElem? (i := 0) rfl))) hce hcv hcl ?_
      refine lv_astore (lv' := [(4, .ref q9), (0, .ref (a 0)), (1, .int x1), (2, .int x2), (3, .ref o)]) hx hb dL_ifDug_13 hl (by decide) rfl (fun ls hl => ?_)
      refine lv_iconst (v := 1) hx hb dL_ifDug_15 (by decide) ?_
      exact vx_ret (W.iret (v := 1) hx hb hr (fun t ht hW => ⟨⟨1, (v, f), rfl, hqx, by rw [ht]; exact hP, hD⟩, hS.F ht⟩) hS.2.2 dL_ifDug_16)
    · refine vx_catch (own := RL) (name := eA) hown [⟨0, 10, 13, 13⟩] ⟨0, 10, 17, 21⟩ [] (by rw [htab]; rfl) (fun z hz => by rcases List.mem_singleton.mp hz with rfl; exact Or.inr ⟨by decide, eI, hts (Cond.classLink RL 13 "java/lang/IndexOutOfBoundsException") (List.mem_cons_of_mem _ (List.mem_append_left _ (List.mem_append_left _ (List.mem_append_left _ (List.mem_append_left _ (List.mem_append_left _ (List.mem_append_left _ (List.mem_append_left _ (List.mem_append_left _ (List.mem_of_getElem? (i := 0) rfl)))))))))), hE.2 (eA, eI) (List.mem_of_getElem? (i := 0) rfl)⟩) (by decide) (by decide) (hts (Cond.classLink RL 21 "java/lang/IllegalArgumentException") (List.mem_cons_of_mem _ (List.mem_append_left _ (List.mem_append_left _ (List.mem_append_left _ (List.mem_append_left _ (List.mem_append_left _ (List.mem_append_left _ (List.mem_append_left _ (List.mem_append_left _ (List.mem_of_getElem? (i := 1) rfl))))))))))) (va_Nw.use rfl (hE.1.2.2.2.1 _ (List.mem_of_getElem? (i := 1) rfl))) hce hcv hcl ?_
      refine lv_astore (lv' := [(4, .ref q9), (0, .ref (a 0)), (1, .int x1), (2, .int x2), (3, .ref o)]) hx hb dL_ifDug_17 hl (by decide) rfl (fun ls hl => ?_)
      refine lv_iconst (v := 2) hx hb dL_ifDug_19 (by decide) ?_
      exact vx_ret (W.iret (v := 2) hx hb hr (fun t ht hW => ⟨⟨2, (v, f), rfl, hqx, by rw [ht]; exact hP, hD⟩, hS.F ht⟩) hS.2.2 dL_ifDug_20)
  · obtain ⟨z_spareR, z_survey, z_trial⟩ := u9
    obtain ⟨hP1, -, hD1⟩ := hB
    rw [ht] at hP1
    obtain ⟨hP, hD⟩ := xj hP hD (rng 0 204) (wX6 cy a ((X6_lawn v), (X6_snapshot v), z_trial, (X6_savedR v), (X6_saved v), (X6_text v), z_survey, (X6_paths v), (X6_snapshotTaken v), (X6_savedCount v), z_spareR)) (ws' := wL cy cJ a o ((X6_lawn v), (X6_snapshot v), z_trial, (X6_savedR v), (X6_saved v), (X6_text v), z_survey, (X6_paths v), (X6_snapshotTaken v), (X6_savedCount v), z_spareR) f) hC wX6_fst (xS_left wX6_len wX6_len) hk1 hFc hP1
    refine lv_i2l hx hb dL_ifDug_8 rfl ?_
    refine va_last hx hb hK hP hD hS 204 4 wL_J0 rfl vin01 dL_ifDug_9 (fun H locs hP hD hS => ?_)
    rw [wL_set] at hP hD
    refine lv_goto (tgt := 21) hx hb dL_ifDug_10 (by decide) ?_
    refine lv_iconst (v := 0) hx hb dL_ifDug_21 (by decide) ?_
    exact vx_ret (W.iret (v := 0) hx hb hr (fun t ht hW => ⟨⟨0, (((X6_lawn v), (X6_snapshot v), z_trial, (X6_savedR v), (X6_saved v), (X6_text v), z_survey, (X6_paths v), (X6_snapshotTaken v), (X6_savedCount v), z_spareR), _), rfl, hq, by rw [ht]; exact hP, hD⟩, hS.F ht⟩) hS.2.2 dL_ifDug_22)
set_option maxHeartbeats 4000000 in
set_option maxRecDepth 100000 in
theorem c_L_ifPassed (l : Launch) (dC : Nat → ClassId) (dI : Nat → Nat → Nat) (cy : Nat → ClassId) (cJ : ClassId) (a : Nat → Nat) (o : Nat) (sz : Nat) (v : V_X6) (f : Nat → Int64) (x1 x2 : Int32) (Q : Int32 → V_X6 → (Nat → Int64) → Prop) (hl9 : l.stackTraces = false) (hq : wp_X6_ifPassed v x1 x2 (fun r z_spareR z_trial => Q 0 ((X6_lawn v), (X6_snapshot v), z_trial, (X6_savedR v), (X6_saved v), (X6_text v), (X6_survey v), (X6_paths v), (X6_snapshotTaken v), (X6_savedCount v), z_spareR) (vp_updL f (0 : Int32).toNatClampNeg r.toInt64)) (fun E => (E = eA ∧ Q 1 v f))) : vx_Met l yL_ifPassed wsL_ifPassed ({ frames := 8, cells := 2, slots := 12, locals := 187 } : Room) (va_Pc [.ref (a 0), .int x1, .int x2, .ref o] (preL dC dI cy cJ (wL cy cJ a o v f) sz)) (qL dC dI cy cJ a o Q (va_A (wL cy cJ a o v f) sz)) (xL (va_A (wL cy cJ a o v f) sz)) 2 12 (va_A (wL cy cJ a o v f) sz) := by
  refine vx_ofWH (cc := cL_ifPassed) (maxL := 5) (ret := (some .int)) (hh := [(0, 10, 13, 21)]) (by decide) rfl ?_
  intro p e s m args below meth c s₁ B hml hv
  obtain ⟨rfl, hsz, hP, hK, hD0, hE⟩ := hv
  have hx := B.exec
  have hb := B.bytes
  have hr := B.returns
  have hts := atoms_spec (ws := wsL_ifPassed) B.pre
  have hown : s.vm.findClass RL = some m.cls := findClass_of_methodNamed B.named
  have hlocks := B.notSynchronized
  have htab := vx_table (x := yL_ifPassed) B (hts (Cond.codeWith yL_ifPassed cL_ifPassed 5 (some .int) [(0, 10, 13, 21)]) List.mem_cons_self)
  subst hsz
  have hD := hD0.self (sz := s.heap.size)
  generalize hAe : va_A (wL cy cJ a o v f) s.heap.size = A at hD hE ⊢
  have hAe0 : ∀ q : Nat, s.heap.size ≤ q → A q := fun q h => by rw [← hAe]; exact Or.inr h
  have hS : va_S A s.heap s.heap [] := va_S.rf
  have hl := lv_entry ([.ref (a 0), .int x1, .int x2, .ref o]) (n := 5) (Nat.le_of_ble_eq_true rfl)
  rw [lg_entry_eq]
  generalize (lg_sl ([.ref (a 0), .int x1, .int x2, .ref o]) ++ List.replicate (5 - (lg_sl ([.ref (a 0), .int x1, .int x2, .ref o])).length) Slot.unset).toArray = ls at hl ⊢
  have hl : lv_has ls 5 [(0, .ref (a 0)), (1, .int x1), (2, .int x2), (3, .ref o)] := hl
  refine lv_aload_n hx hb dL_ifPassed_0 rfl (lv_at hl 3 rfl) ?_
  refine lv_iconst (v := 0) hx hb dL_ifPassed_1 (by decide) ?_
  refine lv_aload_n hx hb dL_ifPassed_2 rfl (lv_at hl 0 rfl) ?_
  refine lv_iload_n hx hb dL_ifPassed_3 rfl (lv_at hl 1 rfl) ?_
  refine lv_iload_n hx hb dL_ifPassed_4 rfl (lv_at hl 2 rfl) ?_
  have hC : (rng 0 204).map (fun i => (wL cy cJ a o v f)[i]?) = (wX6 cy a v).map some := xC_left wX6_len
  have hPc := xsubP hP hC
  have hDc := xsubD hD (rng_nd 204 0) hC
  have hFc := va_free (wc := wX6 cy a v) hD hS hAe0 (rng 0 204) hC
  have hKc := tysJ_sub hK
  refine vx_calli (vx_runV (As := [.int x1, .int x2]) (rest := [.int 0, .ref o]) ⟨hx, hb, hml, hown, hts⟩ (c_X6_ifPassed l dC dI cy a _ v x1 x2 _ _ hl9 hq) (cwV 2 hts gL_ifPassed_X6_ifPassed rfl rfl rfl (by decide +kernel) ⟨Nat.le_of_ble_eq_true rfl, Nat.le_of_ble_eq_true rfl⟩) ⟨xPre_blindX, va_recv hKc hPc (ci := 6) (q0 := 0) rfl rfl, xPre_ofX hPc hKc hDc hE.1 hS hFc⟩ rfl rfl hl.1 rfl (lv_room (Nat.le_of_ble_eq_true rfl)) dL_ifPassed_5 ⟨Nat.le_of_ble_eq_true rfl, Nat.le_of_ble_eq_true rfl⟩) hS (fun q _ h => hFc q h) hFc (fun q _ h => hFc q h) (fun E ce q9 _ t H locs ht hvm _ hB hz1 hk1 hS hce hcv hcl => ?_) (fun r u9 t H locs ht hvm hq hB hz1 hk1 hS => ?_)
  · obtain ⟨hqx, hP1, -, hD1⟩ := hB
    rw [ht] at hP1
    have hP : va_P (dC, dI) vwCl (wL cy cJ a o v f) H := xj_keep hP hD (rng 0 204) hC hP1 hk1
    obtain ⟨rfl, hqx⟩ := hqx
    refine vx_catch (own := RL) (name := eA) hown [] ⟨0, 10, 13, 21⟩ [] (by rw [htab]; rfl) (fun z hz => by cases hz) (by decide) (by decide) (hts (Cond.classLink RL 21 "java/lang/IllegalArgumentException") (List.mem_cons_of_mem _ (List.mem_append_left _ (List.mem_append_left _ (List.mem_append_left _ (List.mem_append_left _ (List.mem_append_left _ (List.mem_append_left _ (List.mem_of_getElem? (i := 0) rfl))))))))) (va_Nw.use rfl (hE.1.2.2.2.1 _ (List.mem_of_getElem? (i := 1) rfl))) hce hcv hcl ?_
    refine lv_astore (lv' := [(4, .ref q9), (0, .ref (a 0)), (1, .int x1), (2, .int x2), (3, .ref o)]) hx hb dL_ifPassed_13 hl (by decide) rfl (fun ls hl => ?_)
    refine lv_iconst (v := 1) hx hb dL_ifPassed_15 (by decide) ?_
    exact vx_ret (W.iret (v := 1) hx hb hr (fun t ht hW => ⟨⟨1, (v, f), rfl, hqx, by rw [ht]; exact hP, hD⟩, hS.F ht⟩) hS.2.2 dL_ifPassed_16)
  · obtain ⟨z_spareR, z_trial⟩ := u9
    obtain ⟨hP1, -, hD1⟩ := hB
    rw [ht] at hP1
    obtain ⟨hP, hD⟩ := xj hP hD (rng 0 204) (wX6 cy a ((X6_lawn v), (X6_snapshot v), z_trial, (X6_savedR v), (X6_saved v), (X6_text v), (X6_survey v), (X6_paths v), (X6_snapshotTaken v), (X6_savedCount v), z_spareR)) (ws' := wL cy cJ a o ((X6_lawn v), (X6_snapshot v), z_trial, (X6_savedR v), (X6_saved v), (X6_text v), (X6_survey v), (X6_paths v), (X6_snapshotTaken v), (X6_savedCount v), z_spareR) f) hC wX6_fst (xS_left wX6_len wX6_len) hk1 hFc hP1
    refine lv_i2l hx hb dL_ifPassed_8 rfl ?_
    refine va_last hx hb hK hP hD hS 204 4 wL_J0 rfl vin01 dL_ifPassed_9 (fun H locs hP hD hS => ?_)
    rw [wL_set] at hP hD
    refine lv_goto (tgt := 17) hx hb dL_ifPassed_10 (by decide) ?_
    refine lv_iconst (v := 0) hx hb dL_ifPassed_17 (by decide) ?_
    exact vx_ret (W.iret (v := 0) hx hb hr (fun t ht hW => ⟨⟨0, (((X6_lawn v), (X6_snapshot v), z_trial, (X6_savedR v), (X6_saved v), (X6_text v), (X6_survey v), (X6_paths v), (X6_snapshotTaken v), (X6_savedCount v), z_spareR), _), rfl, hq, by rw [ht]; exact hP, hD⟩, hS.F ht⟩) hS.2.2 dL_ifPassed_18)
