set_option maxHeartbeats 4000000 in
set_option maxRecDepth 100000 in
theorem c_L_mole (l : Launch) (dC : Nat → ClassId) (dI : Nat → Nat → Nat) (cy : Nat → ClassId) (cJ : ClassId) (a : Nat → Nat) (o : Nat) (sz : Nat) (v : V_X6) (f : Nat → Int64) (x1 : Int32) (Q : Int32 → V_X6 → (Nat → Int64) → Prop) (hl9 : l.stackTraces = false) (hq : wp_X6_mole v x1 (fun r z_lawn z_saved z_savedCount z_savedR z_spareR => Q 0 (z_lawn, (X6_snapshot v), (X6_trial v), z_savedR, z_saved, (X6_text v), (X6_survey v), (X6_paths v), (X6_snapshotTaken v), z_savedCount, z_spareR) (vp_updL f (0 : Int32).toNatClampNeg r.toInt64)) (fun E => (E = eI ∧ Q 1 v f) ∨ (E = eS ∧ Q 2 v f))) : vx_Met l yL_mole wsL_mole ({ frames := 8, cells := 2, slots := 12, locals := 144 } : Room) (va_Pc [.ref (a 0), .int x1, .ref o] (preL dC dI cy cJ (wL cy cJ a o v f) sz)) (qL dC dI cy cJ a o Q (va_A (wL cy cJ a o v f) sz)) (xL (va_A (wL cy cJ a o v f) sz)) 2 12 (va_A (wL cy cJ a o v f) sz) := by
  refine vx_ofWH (cc := cL_mole) (maxL := 4) (ret := (some .int)) (hh := [(0, 9, 12, 13), (0, 9, 15, 15)]) (by decide) rfl ?_
  intro p e s m args below meth c s₁ B hml hv
  obtain ⟨rfl, hsz, hP, hK, hD0, hE⟩ := hv
  have hx := B.exec
  have hb := B.bytes
  have hr := B.returns
  have hts := atoms_spec (ws := wsL_mole) B.pre
  have hown : s.vm.findClass RL = some m.cls := findClass_of_methodNamed B.named
  have hlocks := B.notSynchronized
  have htab := vx_table (x := yL_mole) B (hts (Cond.codeWith yL_mole cL_mole 4 (some .int) [(0, 9, 12, 13), (0, 9, 15, 15)]) List.mem_cons_self)
  subst hsz
  have hD := hD0.self (sz := s.heap.size)
  generalize hAe : va_A (wL cy cJ a o v f) s.heap.size = A at hD hE ⊢
  have hAe0 : ∀ q : Nat, s.heap.size ≤ q → A q := fun q h => by rw [← hAe]; exact Or.inr h
  have hS : va_S A s.heap s.heap [] := va_S.rf
  have hl := lv_entry ([.ref (a 0), .int x1, .ref o]) (n := 4) (Nat.le_of_ble_eq_true rfl)
  rw [lg_entry_eq]
  generalize (lg_sl ([.ref (a 0), .int x1, .ref o]) ++ List.replicate (4 - (lg_sl ([.ref (a 0), .int x1, .ref o])).length) Slot.unset).toArray = ls at hl ⊢
  have hl : lv_has ls 4 [(0, .ref (a 0)), (1, .int x1), (2, .ref o)] := hl
  refine lv_aload_n hx hb dL_mole_0 rfl (lv_at hl 2 rfl) ?_
  refine lv_iconst (v := 0) hx hb dL_mole_1 (by decide) ?_
  refine lv_aload_n hx hb dL_mole_2 rfl (lv_at hl 0 rfl) ?_
  refine lv_iload_n hx hb dL_mole_3 rfl (lv_at hl 1 rfl) ?_
  have hC : (rng 0 204).map (fun i => (wL cy cJ a o v f)[i]?) = (wX6 cy a v).map some := xC_left wX6_len
  have hPc := xsubP hP hC
  have hDc := xsubD hD (rng_nd 204 0) hC
  have hFc := va_free (wc := wX6 cy a v) hD hS hAe0 (rng 0 204) hC
  have hKc := tysJ_sub hK
  refine vx_calli (vx_runV (As := [.int x1]) (rest := [.int 0, .ref o]) ⟨hx, hb, hml, hown, hts⟩ (c_X6_mole l dC dI cy a _ v x1 _ _ hl9 hq) (cwV 1 hts gL_mole_X6_mole rfl rfl rfl (by decide +kernel) ⟨Nat.le_of_ble_eq_true rfl, Nat.le_of_ble_eq_true rfl⟩) ⟨xPre_blindX, va_recv hKc hPc (ci := 6) (q0 := 0) rfl rfl, xPre_ofX hPc hKc hDc hE.1 hS hFc⟩ rfl rfl hl.1 rfl (lv_room (Nat.le_of_ble_eq_true rfl)) dL_mole_4 ⟨Nat.le_of_ble_eq_true rfl, Nat.le_of_ble_eq_true rfl⟩) hS (fun q _ h => hFc q h) hFc (fun q _ h => hFc q h) (fun E ce q9 _ t H locs ht hvm _ hB hz1 hk1 hS hce hcv hcl => ?_) (fun r u9 t H locs ht hvm hq hB hz1 hk1 hS => ?_)
  · obtain ⟨hqx, hP1, -, hD1⟩ := hB
    rw [ht] at hP1
    have hP : va_P (dC, dI) vwCl (wL cy cJ a o v f) H := xj_keep hP hD (rng 0 204) hC hP1 hk1
    rcases hqx with ⟨rfl, hqx⟩ | ⟨rfl, hqx⟩
    · refine vx_catch (own := RL) (name := eI) hown [] ⟨0, 9, 12, 13⟩ [⟨0, 9, 15, 15⟩] (by rw [htab]; rfl) (fun z hz => by cases hz) (by decide) (by decide) (hts (Cond.classLink RL 13 "java/lang/IndexOutOfBoundsException") (List.mem_cons_of_mem _ (List.mem_append_left _ (List.mem_append_left _ (List.mem_append_left _ (List.mem_append_left _ (List.mem_append_left _ (List.mem_append_left _ (List.mem_append_left _ (List.mem_of_getElem? (i := 0) rfl)))))))))) (va_Nw.use rfl (hE.1.2.2.2.1 _ (List.mem_of_getElem? (i := 0) rfl))) hce hcv hcl ?_
      refine lv_astore_n (lv' := [(3, .ref q9), (0, .ref (a 0)), (1, .int x1), (2, .ref o)]) hx hb dL_mole_12 rfl hl (by decide) rfl (fun ls hl => ?_)
      refine lv_iconst (v := 1) hx hb dL_mole_13 (by decide) ?_
      exact vx_ret (W.iret (v := 1) hx hb hr (fun t ht hW => ⟨⟨1, (v, f), rfl, hqx, by rw [ht]; exact hP, hD⟩, hS.F ht⟩) hS.2.2 dL_mole_14)
    · refine vx_catch (own := RL) (name := eS) hown [⟨0, 9, 12, 13⟩] ⟨0, 9, 15, 15⟩ [] (by rw [htab]; rfl) (fun z hz => by rcases List.mem_singleton.mp hz with rfl; exact Or.inr ⟨by decide, eI, hts (Cond.classLink RL 13 "java/lang/IndexOutOfBoundsException") (List.mem_cons_of_mem _ (List.mem_append_left _ (List.mem_append_left _ (List.mem_append_left _ (List.mem_append_left _ (List.mem_append_left _ (List.mem_append_left _ (List.mem_append_left _ (List.mem_of_getElem? (i := 0) rfl))))))))), hE.2 (eS, eI) (List.mem_of_getElem? (i := 1) rfl)⟩) (by decide) (by decide) (hts (Cond.classLink RL 15 "java/lang/IllegalStateException") (List.mem_cons_of_mem _ (List.mem_append_left _ (List.mem_append_left _ (List.mem_append_left _ (List.mem_append_left _ (List.mem_append_left _ (List.mem_append_left _ (List.mem_append_left _ (List.mem_of_getElem? (i := 1) rfl)))))))))) (va_Nw.use rfl (hE.1.2.2.2.1 _ (List.mem_of_getElem? (i := 2) rfl))) hce hcv hcl ?_
      refine lv_astore_n (lv' := [(3, .ref q9), (0, .ref (a 0)), (1, .int x1), (2, .ref o)]) hx hb dL_mole_15 rfl hl (by decide) rfl (fun ls hl => ?_)
      refine lv_iconst (v := 2) hx hb dL_mole_16 (by decide) ?_
      exact vx_ret (W.iret (v := 2) hx hb hr (fun t ht hW => ⟨⟨2, (v, f), rfl, hqx, by rw [ht]; exact hP, hD⟩, hS.F ht⟩) hS.2.2 dL_mole_17)
  · obtain ⟨z_lawn, z_saved, z_savedCount, z_savedR, z_spareR⟩ := u9
    obtain ⟨hP1, -, hD1⟩ := hB
    rw [ht] at hP1
    obtain ⟨hP, hD⟩ := xj hP hD (rng 0 204) (wX6 cy a (z_lawn, (X6_snapshot v), (X6_trial v), z_savedR, z_saved, (X6_text v), (X6_survey v), (X6_paths v), (X6_snapshotTaken v), z_savedCount, z_spareR)) (ws' := wL cy cJ a o (z_lawn, (X6_snapshot v), (X6_trial v), z_savedR, z_saved, (X6_text v), (X6_survey v), (X6_paths v), (X6_snapshotTaken v), z_savedCount, z_spareR) f) hC wX6_fst (xS_left wX6_len wX6_len) hk1 hFc hP1
    refine lv_i2l hx hb dL_mole_7 rfl ?_
    refine va_last hx hb hK hP hD hS 204 4 wL_J0 rfl vin01 dL_mole_8 (fun H locs hP hD hS => ?_)
    rw [wL_set] at hP hD
    refine lv_goto (tgt := 18) hx hb dL_mole_9 (by decide) ?_
    refine lv_iconst (v := 0) hx hb dL_mole_18 (by decide) ?_
    exact vx_ret (W.iret (v := 0) hx hb hr (fun t ht hW => ⟨⟨0, ((z_lawn, (X6_snapshot v), (X6_trial v), z_savedR, z_saved, (X6_text v), (X6_survey v), (X6_paths v), (X6_snapshotTaken v), z_savedCount, z_spareR), _), rfl, hq, by rw [ht]; exact hP, hD⟩, hS.F ht⟩) hS.2.2 dL_mole_19)
set_option maxHeartbeats 4000000 in
set_option maxRecDepth 100000 in
theorem c_L_plan (l : Launch) (dC : Nat → ClassId) (dI : Nat → Nat → Nat) (cy : Nat → ClassId) (cJ : ClassId) (a : Nat → Nat) (o : Nat) (sz : Nat) (v : V_X6) (f : Nat → Int64) (x1 x2 : Int32) (Q : Int32 → V_X6 → (Nat → Int64) → Prop) (hl9 : l.stackTraces = false) (hq : wp_X6_plan v x1 x2 (fun r z_lawn z_saved z_savedCount z_savedR => Q 0 (z_lawn, (X6_snapshot v), (X6_trial v), z_savedR, z_saved, (X6_text v), (X6_survey v), (X6_paths v), (X6_snapshotTaken v), z_savedCount, (X6_spareR v)) (vp_updL f (0 : Int32).toNatClampNeg r.toInt64)) (fun E => (E = eI ∧ Q 1 v f) ∨ (E = eA ∧ Q 2 v f) ∨ (E = eS ∧ Q 3 v f))) : vx_Met l yL_plan wsL_plan ({ frames := 8, cells := 2, slots := 12, locals := 145 } : Room) (va_Pc [.ref (a 0), .int x1, .int x2, .ref o] (preL dC dI cy cJ (wL cy cJ a o v f) sz)) (qL dC dI cy cJ a o Q (va_A (wL cy cJ a o v f) sz)) (xL (va_A (wL cy cJ a o v f) sz)) 2 12 (va_A (wL cy cJ a o v f) sz) := by
  refine vx_ofWH (cc := cL_plan) (maxL := 5) (ret := (some .int)) (hh := [(0, 10, 13, 13), (0, 10, 17, 21), (0, 10, 21, 15)]) (by decide) rfl ?_
  intro p e s m args below meth c s₁ B hml hv
  obtain ⟨rfl, hsz, hP, hK, hD0, hE⟩ := hv
  have hx := B.exec
  have hb := B.bytes
  have hr := B.returns
  have hts := atoms_spec (ws := wsL_plan) B.pre
  have hown : s.vm.findClass RL = some m.cls := findClass_of_methodNamed B.named
  have hlocks := B.notSynchronized
  have htab := vx_table (x := yL_plan) B (hts (Cond.codeWith yL_plan cL_plan 5 (some .int) [(0, 10, 13, 13), (0, 10, 17, 21), (0, 10, 21, 15)]) List.mem_cons_self)
  subst hsz
  have hD := hD0.self (sz := s.heap.size)
  generalize hAe : va_A (wL cy cJ a o v f) s.heap.size = A at hD hE ⊢
  have hAe0 : ∀ q : Nat, s.heap.size ≤ q → A q := fun q h => by rw [← hAe]; exact Or.inr h
  have hS : va_S A s.heap s.heap [] := va_S.rf
  have hl := lv_entry ([.ref (a 0), .int x1, .int x2, .ref o]) (n := 5) (Nat.le_of_ble_eq_true rfl)
  rw [lg_entry_eq]
  generalize (lg_sl ([.ref (a 0), .int x1, .int x2, .ref o]) ++ List.replicate (5 - (lg_sl ([.ref (a 0), .int x1, .int x2, .ref o])).length) Slot.unset).toArray = ls at hl ⊢
  have hl : lv_has ls 5 [(0, .ref (a 0)), (1, .int x1), (2, .int x2), (3, .ref o)] := hl
  refine lv_aload_n hx hb dL_plan_0 rfl (lv_at hl 3 rfl) ?_
  refine lv_iconst (v := 0) hx hb dL_plan_1 (by decide) ?_
  refine lv_aload_n hx hb dL_plan_2 rfl (lv_at hl 0 rfl) ?_
  refine lv_iload_n hx hb dL_plan_3 rfl (lv_at hl 1 rfl) ?_
  refine lv_iload_n hx hb dL_plan_4 rfl (lv_at hl 2 rfl) ?_
  have hC : (rng 0 204).map (fun i => (wL cy cJ a o v f)[i]?) = (wX6 cy a v).map some := xC_left wX6_len
  have hPc := xsubP hP hC
  have hDc := xsubD hD (rng_nd 204 0) hC
  have hFc := va_free (wc := wX6 cy a v) hD hS hAe0 (rng 0 204) hC
  have hKc := tysJ_sub hK
  refine vx_calli (vx_runV (As := [.int x1, .int x2]) (rest := [.int 0, .ref o]) ⟨hx, hb, hml, hown, hts⟩ (c_X6_plan l dC dI cy a _ v x1 x2 _ _ hl9 hq) (cwV 2 hts gL_plan_X6_plan rfl rfl rfl (by decide +kernel) ⟨Nat.le_of_ble_eq_true rfl, Nat.le_of_ble_eq_true rfl⟩) ⟨xPre_blindX, va_recv hKc hPc (ci := 6) (q0 := 0) rfl rfl, xPre_ofX hPc hKc hDc hE.1 hS hFc⟩ rfl rfl hl.1 rfl (lv_room (Nat.le_of_ble_eq_true rfl)) dL_plan_5 ⟨Nat.le_of_ble_eq_true rfl, Nat.le_of_ble_eq_true rfl⟩) hS (fun q _ h => hFc q h) hFc (fun q _ h => hFc q h) (fun E ce q9 _ t H locs ht hvm _ hB hz1 hk1 hS hce hcv hcl => ?_) (fun r u9 t H locs ht hvm hq hB hz1 hk1 hS => ?_)
  · obtain ⟨hqx, hP1, -, hD1⟩ := hB
    rw [ht] at hP1
    have hP : va_P (dC, dI) vwCl (wL cy cJ a o v f) H := xj_keep hP hD (rng 0 204) hC hP1 hk1
    rcases hqx with ⟨rfl, hqx⟩ | ⟨rfl, hqx⟩ | ⟨rfl, hqx⟩
    · refine vx_catch (own := RL) (name := eI) hown [] ⟨0, 10, 13, 13⟩ [⟨0, 10, 17, 21⟩, ⟨0, 10, 21, 15⟩] (by rw [htab]; rfl) (fun z hz => by cases hz) (by decide) (by decide) (hts (Cond.classLink RL 13 "java/lang/IndexOutOfBoundsException") (List.mem_cons_of_mem _ (List.mem_append_left _ (List.mem_append_left _ (List.mem_append_left _ (List.mem_append_left _ (List.mem_append_left _ (List.mem_append_left _ (List.mem_append_left _ (List.mem_append_left _ (List.mem_of_getElem? (i := 0) rfl))))))))))) (va_Nw.use rfl (hE.1.2.2.2.1 _ (List.mem_of_getElem? (i := 0) rfl))) hce hcv hcl ?_
      refine lv_astore (lv' := [(4, .ref q9), (0, .ref (a 0)), (1, .int x1), (2, .int x2), (3, .ref o)]) hx hb dL_plan_13 hl (by decide) rfl (fun ls hl => ?_)
      refine lv_iconst (v := 1) hx hb dL_plan_15 (by decide) ?_
      exact vx_ret (W.iret (v := 1) hx hb hr (fun t ht hW => ⟨⟨1, (v, f), rfl, hqx, by rw [ht]; exact hP, hD⟩, hS.F ht⟩) hS.2.2 dL_plan_16)
    · refine vx_catch (own := RL) (name := eA) hown [⟨0, 10, 13, 13⟩] ⟨0, 10, 17, 21⟩ [⟨0, 10, 21, 15⟩] (by rw [htab]; rfl) (fun z hz => by rcases List.mem_singleton.mp hz with rfl; exact Or.inr ⟨by decide, eI, hts (Cond.classLink RL 13 "java/lang/IndexOutOfBoundsException") (List.mem_cons_of_mem _ (List.mem_append_left _ (List.mem_append_left _ (List.mem_append_left _ (List.mem_append_left _ (List.mem_append_left _ (List.mem_append_left _ (List.mem_append_left _ (List.mem_append_left _ (List.mem_of_getElem? (i := 0) rfl)))))))))), hE.2 (eA, eI) (List.mem_of_getElem? (i := 0) rfl)⟩) (by decide) (by decide) (hts (Cond.classLink RL 21 "java/lang/IllegalArgumentException") (List.mem_cons_of_mem _ (List.mem_append_left _ (List.mem_append_left _ (List.mem_append_left _ (List.mem_append_left _ (List.mem_append_left _ (List.mem_append_left _ (List.mem_append_left _ (List.mem_append_left _ (List.mem_of_getElem? (i := 1) rfl))))))))))) (va_Nw.use rfl (hE.1.2.2.2.1 _ (List.mem_of_getElem? (i := 1) rfl))) hce hcv hcl ?_
      refine lv_astore (lv' := [(4, .ref q9), (0, .ref (a 0)), (1, .int x1), (2, .int x2), (3, .ref o)]) hx hb dL_plan_17 hl (by decide) rfl (fun ls hl => ?_)
      refine lv_iconst (v := 2) hx hb dL_plan_19 (by decide) ?_
      exact vx_ret (W.iret (v := 2) hx hb hr (fun t ht hW => ⟨⟨2, (v, f), rfl, hqx, by rw [ht]; exact hP, hD⟩, hS.F ht⟩) hS.2.2 dL_plan_20)
    · refine vx_catch (own := RL) (name := eS) hown [⟨0, 10, 13, 13⟩, ⟨0, 10, 17, 21⟩] ⟨0, 10, 21, 15⟩ [] (by rw [htab]; rfl) (fun z hz => by rcases List.mem_cons.mp hz with rfl | hz; exact Or.inr ⟨by decide, eI, hts (Cond.classLink RL 13 "java/lang/IndexOutOfBoundsException") (List.mem_cons_of_mem _ (List.mem_append_left _ (List.mem_append_left _ (List.mem_append_left _ (List.mem_append_left _ (List.mem_append_left _ (List.mem_append_left _ (List.mem_append_left _ (List.mem_append_left _ (List.mem_of_getElem? (i := 0) rfl)))))))))), hE.2 (eS, eI) (List.mem_of_getElem? (i := 1) rfl)⟩; rcases List.mem_singleton.mp hz with rfl; exact Or.inr ⟨by decide, eA, hts (Cond.classLink RL 21 "java/lang/IllegalArgumentException") (List.mem_cons_of_mem _ (List.mem_append_left _ (List.mem_append_left _ (List.mem_append_left _ (List.mem_append_left _ (List.mem_append_left _ (List.mem_append_left _ (List.mem_append_left _ (List.mem_append_left _ (List.mem_of_getElem? (i := 1) rfl)))))))))), hE.2 (eS, eA) (List.mem_of_getElem? (i := 2) rfl)⟩) (by decide) (by decide) (hts (Cond.classLink RL 15 "java/lang/IllegalStateException") (List.mem_cons_of_mem _ (List.mem_append_left _ (List.mem_append_left _ (List.mem_append_left _ (List.mem_append_left _ (List.mem_append_left _ (List.mem_append_left _ (List.mem_append_left _ (List.mem_append_left _ (List.mem_of_getElem? (i := 2) rfl))))))))))) (va_Nw.use rfl (hE.1.2.2.2.1 _ (List.mem_of_getElem? (i := 2) rfl))) hce hcv hcl ?_
      refine lv_astore (lv' := [(4, .ref q9), (0, .ref (a 0)), (1, .int x1), (2, .int x2), (3, .ref o)]) hx hb dL_plan_21 hl (by decide) rfl (fun ls hl => ?_)
      refine lv_iconst (v := 3) hx hb dL_plan_23 (by decide) ?_
      exact vx_ret (W.iret (v := 3) hx hb hr (fun t ht hW => ⟨⟨3, (v, f), rfl, hqx, by rw [ht]; exact hP, hD⟩, hS.F ht⟩) hS.2.2 dL_plan_24)
  · obtain ⟨z_lawn, z_saved, z_savedCount, z_savedR⟩ := u9
    obtain ⟨hP1, -, hD1⟩ := hB
    rw [ht] at hP1
    obtain ⟨hP, hD⟩ := xj hP hD (rng 0 204) (wX6 cy a (z_lawn, (X6_snapshot v), (X6_trial v), z_savedR, z_saved, (X6_text v), (X6_survey v), (X6_paths v), (X6_snapshotTaken v), z_savedCount, (X6_spareR v))) (ws' := wL cy cJ a o (z_lawn, (X6_snapshot v), (X6_trial v), z_savedR, z_saved, (X6_text v), (X6_survey v), (X6_paths v), (X6_snapshotTaken v), z_savedCount, (X6_spareR v)) f) hC wX6_fst (xS_left wX6_len wX6_len) hk1 hFc hP1
    refine lv_i2l hx hb dL_plan_8 rfl ?_
    refine va_last hx hb hK hP hD hS 204 4 wL_J0 rfl vin01 dL_plan_9 (fun H locs hP hD hS => ?_)
    rw [wL_set] at hP hD
    refine lv_goto (tgt := 25) hx hb dL_plan_10 (by decide) ?_
    refine lv_iconst (v := 0) hx hb dL_plan_25 (by decide) ?_
    exact vx_ret (W.iret (v := 0) hx hb hr (fun t ht hW => ⟨⟨0, ((z_lawn, (X6_snapshot v), (X6_trial v), z_savedR, z_saved, (X6_text v), (X6_survey v), (X6_paths v), (X6_snapshotTaken v), z_savedCount, (X6_spareR v)), _), rfl, hq, by rw [ht]; exact hP, hD⟩, hS.F ht⟩) hS.2.2 dL_plan_26)
set_option maxHeartbeats 4000000 in
set_option maxRecDepth 100000 in
theorem c_L_rest (l : Launch) (dC : Nat → ClassId) (dI : Nat → Nat → Nat) (cy : Nat → ClassId) (cJ : ClassId) (a : Nat → Nat) (o : Nat) (sz : Nat) (v : V_X6) (f : Nat → Int64) (x1 : Int32) (Q : Int32 → V_X6 → (Nat → Int64) → Prop) (hl9 : l.stackTraces = false) (hq : wp_X6_rest v x1 (fun r z_lawn z_saved z_savedCount z_savedR => Q 0 (z_lawn, (X6_snapshot v), (X6_trial v), z_savedR, z_saved, (X6_text v), (X6_survey v), (X6_paths v), (X6_snapshotTaken v), z_savedCount, (X6_spareR v)) (vp_updL f (0 : Int32).toNatClampNeg r.toInt64)) (fun E => (E = eI ∧ Q 1 v f))) : vx_Met l yL_rest wsL_rest ({ frames := 8, cells := 1, slots := 6, locals := 145 } : Room) (va_Pc [.ref (a 0), .int x1, .ref o] (preL dC dI cy cJ (wL cy cJ a o v f) sz)) (qL dC dI cy cJ a o Q (va_A (wL cy cJ a o v f) sz)) (xL (va_A (wL cy cJ a o v f) sz)) 1 6 (va_A (wL cy cJ a o v f) sz) := by
  refine vx_ofWH (cc := cL_rest) (maxL := 4) (ret := (some .int)) (hh := [(0, 9, 12, 13)]) (by decide) rfl ?_
  intro p e s m args below meth c s₁ B hml hv
  obtain ⟨rfl, hsz, hP, hK, hD0, hE⟩ := hv
  have hx := B.exec
  have hb := B.bytes
  have hr := B.returns
  have hts := atoms_spec (ws := wsL_rest) B.pre
  have hown : s.vm.findClass RL = some m.cls := findClass_of_methodNamed B.named
  have hlocks := B.notSynchronized
  have htab := vx_table (x := yL_rest) B (hts (Cond.codeWith yL_rest cL_rest 4 (some .int) [(0, 9, 12, 13)]) List.mem_cons_self)
  subst hsz
  have hD := hD0.self (sz := s.heap.size)
  generalize hAe : va_A (wL cy cJ a o v f) s.heap.size = A at hD hE ⊢
  have hAe0 : ∀ q : Nat, s.heap.size ≤ q → A q := fun q h => by rw [← hAe]; exact Or.inr h
  have hS : va_S A s.heap s.heap [] := va_S.rf
  have hl := lv_entry ([.ref (a 0), .int x1, .ref o]) (n := 4) (Nat.le_of_ble_eq_true rfl)
  rw [lg_entry_eq]
  generalize (lg_sl ([.ref (a 0), .int x1, .ref o]) ++ List.replicate (4 - (lg_sl ([.ref (a 0), .int x1, .ref o])).length) Slot.unset).toArray = ls at hl ⊢
  have hl : lv_has ls 4 [(0, .ref (a 0)), (1, .int x1), (2, .ref o)] := hl
  refine lv_aload_n hx hb dL_rest_0 rfl (lv_at hl 2 rfl) ?_
  refine lv_iconst (v := 0) hx hb dL_rest_1 (by decide) ?_
  refine lv_aload_n hx hb dL_rest_2 rfl (lv_at hl 0 rfl) ?_
  refine lv_iload_n hx hb dL_rest_3 rfl (lv_at hl 1 rfl) ?_
  have hC : (rng 0 204).map (fun i => (wL cy cJ a o v f)[i]?) = (wX6 cy a v).map some := xC_left wX6_len
  have hPc := xsubP hP hC
  have hDc := xsubD hD (rng_nd 204 0) hC
  have hFc := va_free (wc := wX6 cy a v) hD hS hAe0 (rng 0 204) hC
  have hKc := tysJ_sub hK
  refine vx_calli (vx_runV (As := [.int x1]) (rest := [.int 0, .ref o]) ⟨hx, hb, hml, hown, hts⟩ (c_X6_rest l dC dI cy a _ v x1 _ _ hl9 hq) (cwV 1 hts gL_rest_X6_rest rfl rfl rfl (by decide +kernel) ⟨Nat.le_of_ble_eq_true rfl, Nat.le_of_ble_eq_true rfl⟩) ⟨xPre_blindX, va_recv hKc hPc (ci := 6) (q0 := 0) rfl rfl, xPre_ofX hPc hKc hDc hE.1 hS hFc⟩ rfl rfl hl.1 rfl (lv_room (Nat.le_of_ble_eq_true rfl)) dL_rest_4 ⟨Nat.le_of_ble_eq_true rfl, Nat.le_of_ble_eq_true rfl⟩) hS (fun q _ h => hFc q h) hFc (fun q _ h => hFc q h) (fun E ce q9 _ t H locs ht hvm _ hB hz1 hk1 hS hce hcv hcl => ?_) (fun r u9 t H locs ht hvm hq hB hz1 hk1 hS => ?_)
  · obtain ⟨hqx, hP1, -, hD1⟩ := hB
    rw [ht] at hP1
    have hP : va_P (dC, dI) vwCl (wL cy cJ a o v f) H := xj_keep hP hD (rng 0 204) hC hP1 hk1
    obtain ⟨rfl, hqx⟩ := hqx
    refine vx_catch (own := RL) (name := eI) hown [] ⟨0, 9, 12, 13⟩ [] (by rw [htab]; rfl) (fun z hz => by cases hz) (by decide) (by decide) (hts (Cond.classLink RL 13 "java/lang/IndexOutOfBoundsException") (List.mem_cons_of_mem _ (List.mem_append_left _ (List.mem_append_left _ (List.mem_append_left _ (List.mem_append_left _ (List.mem_append_left _ (List.mem_append_left _ (List.mem_of_getElem? (i := 0) rfl))))))))) (va_Nw.use rfl (hE.1.2.2.2.1 _ (List.mem_of_getElem? (i := 0) rfl))) hce hcv hcl ?_
    refine lv_astore_n (lv' := [(3, .ref q9), (0, .ref (a 0)), (1, .int x1), (2, .ref o)]) hx hb dL_rest_12 rfl hl (by decide) rfl (fun ls hl => ?_)
    refine lv_iconst (v := 1) hx hb dL_rest_13 (by decide) ?_
    exact vx_ret (W.iret (v := 1) hx hb hr (fun t ht hW => ⟨⟨1, (v, f), rfl, hqx, by rw [ht]; exact hP, hD⟩, hS.F ht⟩) hS.2.2 dL_rest_14)
  · obtain ⟨z_lawn, z_saved, z_savedCount, z_savedR⟩ := u9
    obtain ⟨hP1, -, hD1⟩ := hB
    rw [ht] at hP1
    obtain ⟨hP, hD⟩ := xj hP hD (rng 0 204) (wX6 cy a (z_lawn, (X6_snapshot v), (X6_trial v), z_savedR, z_saved, (X6_text v), (X6_survey v), (X6_paths v), (X6_snapshotTaken v), z_savedCount, (X6_spareR v))) (ws' := wL cy cJ a o (z_lawn, (X6_snapshot v), (X6_trial v), z_savedR, z_saved, (X6_text v), (X6_survey v), (X6_paths v), (X6_snapshotTaken v), z_savedCount, (X6_spareR v)) f) hC wX6_fst (xS_left wX6_len wX6_len) hk1 hFc hP1
    refine lv_i2l hx hb dL_rest_7 rfl ?_
    refine va_last hx hb hK hP hD hS 204 4 wL_J0 rfl vin01 dL_rest_8 (fun H locs hP hD hS => ?_)
    rw [wL_set] at hP hD
    refine lv_goto (tgt := 15) hx hb dL_rest_9 (by decide) ?_
    refine lv_iconst (v := 0) hx hb dL_rest_15 (by decide) ?_
    exact vx_ret (W.iret (v := 0) hx hb hr (fun t ht hW => ⟨⟨0, ((z_lawn, (X6_snapshot v), (X6_trial v), z_savedR, z_saved, (X6_text v), (X6_survey v), (X6_paths v), (X6_snapshotTaken v), z_savedCount, (X6_spareR v)), _), rfl, hq, by rw [ht]; exact hP, hD⟩, hS.F ht⟩) hS.2.2 dL_rest_16)
set_option maxHeartbeats 4000000 in
set_option maxRecDepth 100000 in
theorem c_L_pass (l : Launch) (dC : Nat → ClassId) (dI : Nat → Nat → Nat) (cy : Nat → ClassId) (cJ : ClassId) (a : Nat → Nat) (o : Nat) (sz : Nat) (v : V_X6) (f : Nat → Int64) (x1 : Int32) (Q : Int32 → V_X6 → (Nat → Int64) → Prop) (hl9 : l.stackTraces = false) (hq : wp_X6_pass v x1 (fun r z_lawn z_saved z_savedCount z_savedR z_spareR => Q 0 (z_lawn, (X6_snapshot v), (X6_trial v), z_savedR, z_saved, (X6_text v), (X6_survey v), (X6_paths v), (X6_snapshotTaken v), z_savedCount, z_spareR) (vp_updL f (0 : Int32).toNatClampNeg r.toInt64)) (fun E => (E = eA ∧ Q 1 v f))) : vx_Met l yL_pass wsL_pass ({ frames := 8, cells := 1, slots := 6, locals := 166 } : Room) (va_Pc [.ref (a 0), .int x1, .ref o] (preL dC dI cy cJ (wL cy cJ a o v f) sz)) (qL dC dI cy cJ a o Q (va_A (wL cy cJ a o v f) sz)) (xL (va_A (wL cy cJ a o v f) sz)) 1 6 (va_A (wL cy cJ a o v f) sz) := by
  refine vx_ofWH (cc := cL_pass) (maxL := 4) (ret := (some .int)) (hh := [(0, 9, 12, 21)]) (by decide) rfl ?_
  intro p e s m args below meth c s₁ B hml hv
  obtain ⟨rfl, hsz, hP, hK, hD0, hE⟩ := hv
  have hx := B.exec
  have hb := B.bytes
  have hr := B.returns
  have hts := atoms_spec (ws := wsL_pass) B.pre
  have hown : s.vm.findClass RL = some m.cls := findClass_of_methodNamed B.named
  have hlocks := B.notSynchronized
  have htab := vx_table (x := yL_pass) B (hts (Cond.codeWith yL_pass cL_pass 4 (some .int) [(0, 9, 12, 21)]) List.mem_cons_self)
  subst hsz
  have hD := hD0.self (sz := s.heap.size)
  generalize hAe : va_A (wL cy cJ a o v f) s.heap.size = A at hD hE ⊢
  have hAe0 : ∀ q : Nat, s.heap.size ≤ q → A q := fun q h => by rw [← hAe]; exact Or.inr h
  have hS : va_S A s.heap s.heap [] := va_S.rf
  have hl := lv_entry ([.ref (a 0), .int x1, .ref o]) (n := 4) (Nat.le_of_ble_eq_true rfl)
  rw [lg_entry_eq]
  generalize (lg_sl ([.ref (a 0), .int x1, .ref o]) ++ List.replicate (4 - (lg_sl ([.ref (a 0), .int x1, .ref o])).length) Slot.unset).toArray = ls at hl ⊢
  have hl : lv_has ls 4 [(0, .ref (a 0)), (1, .int x1), (2, .ref o)] := hl
  refine lv_aload_n hx hb dL_pass_0 rfl (lv_at hl 2 rfl) ?_
  refine lv_iconst (v := 0) hx hb dL_pass_1 (by decide) ?_
  refine lv_aload_n hx hb dL_pass_2 rfl (lv_at hl 0 rfl) ?_
  refine lv_iload_n hx hb dL_pass_3 rfl (lv_at hl 1 rfl) ?_
  have hC : (rng 0 204).map (fun i => (wL cy cJ a o v f)[i]?) = (wX6 cy a v).map some := xC_left wX6_len
  have hPc := xsubP hP hC
  have hDc := xsubD hD (rng_nd 204 0) hC
  have hFc := va_free (wc := wX6 cy a v) hD hS hAe0 (rng 0 204) hC
  have hKc := tysJ_sub hK
  refine vx_calli (vx_runV (As := [.int x1]) (rest := [.int 0, .ref o]) ⟨hx, hb, hml, hown, hts⟩ (c_X6_pass l dC dI cy a _ v x1 _ _ hl9 hq) (cwV 1 hts gL_pass_X6_pass rfl rfl rfl (by decide +kernel) ⟨Nat.le_of_ble_eq_true rfl, Nat.le_of_ble_eq_true rfl⟩) ⟨xPre_blindX, va_recv hKc hPc (ci := 6) (q0 := 0) rfl rfl, xPre_ofX hPc hKc hDc hE.1 hS hFc⟩ rfl rfl hl.1 rfl (lv_room (Nat.le_of_ble_eq_true rfl)) dL_pass_4 ⟨Nat.le_of_ble_eq_true rfl, Nat.le_of_ble_eq_true rfl⟩) hS (fun q _ h => hFc q h) hFc (fun q _ h => hFc q h) (fun E ce q9 _ t H locs ht hvm _ hB hz1 hk1 hS hce hcv hcl => ?_) (fun r u9 t H locs ht hvm hq hB hz1 hk1 hS => ?_)
  · obtain ⟨hqx, hP1, -, hD1⟩ := hB
    rw [ht] at hP1
    have hP : va_P (dC, dI) vwCl (wL cy cJ a o v f) H := xj_keep hP hD (rng 0 204) hC hP1 hk1
    obtain ⟨rfl, hqx⟩ := hqx
    refine vx_catch (own := RL) (name := eA) hown [] ⟨0, 9, 12, 21⟩ [] (by rw [htab]; rfl) (fun z hz => by cases hz) (by decide) (by decide) (hts (Cond.classLink RL 21 "java/lang/IllegalArgumentException") (List.mem_cons_of_mem _ (List.mem_append_left _ (List.mem_append_left _ (List.mem_append_left _ (List.mem_append_left _ (List.mem_append_left _ (List.mem_append_left _ (List.mem_of_getElem? (i := 0) rfl))))))))) (va_Nw.use rfl (hE.1.2.2.2.1 _ (List.mem_of_getElem? (i := 1) rfl))) hce hcv hcl ?_
    refine lv_astore_n (lv' := [(3, .ref q9), (0, .ref (a 0)), (1, .int x1), (2, .ref o)]) hx hb dL_pass_12 rfl hl (by decide) rfl (fun ls hl => ?_)
    refine lv_iconst (v := 1) hx hb dL_pass_13 (by decide) ?_
    exact vx_ret (W.iret (v := 1) hx hb hr (fun t ht hW => ⟨⟨1, (v, f), rfl, hqx, by rw [ht]; exact hP, hD⟩, hS.F ht⟩) hS.2.2 dL_pass_14)
  · obtain ⟨z_lawn, z_saved, z_savedCount, z_savedR, z_spareR⟩ := u9
    obtain ⟨hP1, -, hD1⟩ := hB
    rw [ht] at hP1
    obtain ⟨hP, hD⟩ := xj hP hD (rng 0 204) (wX6 cy a (z_lawn, (X6_snapshot v), (X6_trial v), z_savedR, z_saved, (X6_text v), (X6_survey v), (X6_paths v), (X6_snapshotTaken v), z_savedCount, z_spareR)) (ws' := wL cy cJ a o (z_lawn, (X6_snapshot v), (X6_trial v), z_savedR, z_saved, (X6_text v), (X6_survey v), (X6_paths v), (X6_snapshotTaken v), z_savedCount, z_spareR) f) hC wX6_fst (xS_left wX6_len wX6_len) hk1 hFc hP1
    refine lv_i2l hx hb dL_pass_7 rfl ?_
    refine va_last hx hb hK hP hD hS 204 4 wL_J0 rfl vin01 dL_pass_8 (fun H locs hP hD hS => ?_)
    rw [wL_set] at hP hD
    refine lv_goto (tgt := 15) hx hb dL_pass_9 (by decide) ?_
    refine lv_iconst (v := 0) hx hb dL_pass_15 (by decide) ?_
    exact vx_ret (W.iret (v := 0) hx hb hr (fun t ht hW => ⟨⟨0, ((z_lawn, (X6_snapshot v), (X6_trial v), z_savedR, z_saved, (X6_text v), (X6_survey v), (X6_paths v), (X6_snapshotTaken v), z_savedCount, z_spareR), _), rfl, hq, by rw [ht]; exact hP, hD⟩, hS.F ht⟩) hS.2.2 dL_pass_16)
set_option maxHeartbeats 4000000 in
set_option maxRecDepth 100000 in
theorem c_L_root (l : Launch) (dC : Nat → ClassId) (dI : Nat → Nat → Nat) (cy : Nat → ClassId) (cJ : ClassId) (a : Nat → Nat) (o : Nat) (sz : Nat) (v : V_X6) (f : Nat → Int64) (x1 x2 : Int32) (Q : Int32 → V_X6 → (Nat → Int64) → Prop) (hl9 : l.stackTraces = false) (hq : wp_X6_root v x1 x2 (fun r z_lawn z_saved z_savedCount z_savedR => Q 0 (z_lawn, (X6_snapshot v), (X6_trial v), z_savedR, z_saved, (X6_text v), (X6_survey v), (X6_paths v), (X6_snapshotTaken v), z_savedCount, (X6_spareR v)) (vp_updL f (0 : Int32).toNatClampNeg r.toInt64)) (fun E => (E = eI ∧ Q 1 v f) ∨ (E = eA ∧ Q 2 v f))) : vx_Met l yL_root wsL_root ({ frames := 8, cells := 2, slots := 12, locals := 146 } : Room) (va_Pc [.ref (a 0), .int x1, .int x2, .ref o] (preL dC dI cy cJ (wL cy cJ a o v f) sz)) (qL dC dI cy cJ a o Q (va_A (wL cy cJ a o v f) sz)) (xL (va_A (wL cy cJ a o v f) sz)) 2 12 (va_A (wL cy cJ a o v f) sz) := by
  refine vx_ofWH (cc := cL_root) (maxL := 5) (ret := (some .int)) (hh := [(0, 10, 13, 13), (0, 10, 17, 21)]) (by decide) rfl ?_
  intro p e s m args below meth c s₁ B hml hv
  obtain ⟨rfl, hsz, hP, hK, hD0, hE⟩ := hv
  have hx := B.exec
  have hb := B.bytes
  have hr := B.returns
  have hts := atoms_spec (ws := wsL_root) B.pre
  have hown : s.vm.findClass RL = some m.cls := findClass_of_methodNamed B.named
  have hlocks := B.notSynchronized
  have htab := vx_table (x := yL_root) B (hts (Cond.codeWith yL_root cL_root 5 (some .int) [(0, 10, 13, 13), (0, 10, 17, 21)]) List.mem_cons_self)
  subst hsz
  have hD := hD0.self (sz := s.heap.size)
  generalize hAe : va_A (wL cy cJ a o v f) s.heap.size = A at hD hE ⊢
  have hAe0 : ∀ q : Nat, s.heap.size ≤ q → A q := fun q h => by rw [← hAe]; exact Or.inr h
  have hS : va_S A s.heap s.heap [] := va_S.rf
  have hl := lv_entry ([.ref (a 0), .int x1, .int x2, .ref o]) (n := 5) (Nat.le_of_ble_eq_true rfl)
  rw [lg_entry_eq]
  generalize (lg_sl ([.ref (a 0), .int x1, .int x2, .ref o]) ++ List.replicate (5 - (lg_sl ([.ref (a 0), .int x1, .int x2, .ref o])).length) Slot.unset).toArray = ls at hl ⊢
  have hl : lv_has ls 5 [(0, .ref (a 0)), (1, .int x1), (2, .int x2), (3, .ref o)] := hl
  refine lv_aload_n hx hb dL_root_0 rfl (lv_at hl 3 rfl) ?_
  refine lv_iconst (v := 0) hx hb dL_root_1 (by decide) ?_
  refine lv_aload_n hx hb dL_root_2 rfl (lv_at hl 0 rfl) ?_
  refine lv_iload_n hx hb dL_root_3 rfl (lv_at hl 1 rfl) ?_
  refine lv_iload_n hx hb dL_root_4 rfl (lv_at hl 2 rfl) ?_
  have hC : (rng 0 204).map (fun i => (wL cy cJ a o v f)[i]?) = (wX6 cy a v).map some := xC_left wX6_len
  have hPc := xsubP hP hC
  have hDc := xsubD hD (rng_nd 204 0) hC
  have hFc := va_free (wc := wX6 cy a v) hD hS hAe0 (rng 0 204) hC
  have hKc := tysJ_sub hK
  refine vx_calli (vx_runV (As := [.int x1, .int x2]) (rest := [.int 0, .ref o]) ⟨hx, hb, hml, hown, hts⟩ (c_X6_root l dC dI cy a _ v x1 x2 _ _ hl9 hq) (cwV 2 hts gL_root_X6_root rfl rfl rfl (by decide +kernel) ⟨Nat.le_of_ble_eq_true rfl, Nat.le_of_ble_eq_true rfl⟩) ⟨xPre_blindX, va_recv hKc hPc (ci := 6) (q0 := 0) rfl rfl, xPre_ofX hPc hKc hDc hE.1 hS hFc⟩ rfl rfl hl.1 rfl (lv_room (Nat.le_of_ble_eq_true rfl)) dL_root_5 ⟨Nat.le_of_ble_eq_true rfl, Nat.le_of_ble_eq_true rfl⟩) hS (fun q _ h => hFc q h) hFc (fun q _ h => hFc q h) (fun E ce q9 _ t H locs ht hvm _ hB hz1 hk1 hS hce hcv hcl => ?_) (fun r u9 t H locs ht hvm hq hB hz1 hk1 hS => ?_)
  · obtain ⟨hqx, hP1, -, hD1⟩ := hB
    rw [ht] at hP1
    have hP : va_P (dC, dI) vwCl (wL cy cJ a o v f) H := xj_keep hP hD (rng 0 204) hC hP1 hk1
    rcases hqx with ⟨rfl, hqx⟩ | ⟨rfl, hqx⟩
    · refine vx_catch (own := RL) (name := eI) hown [] ⟨0, 10, 13, 13⟩ [⟨0, 10, 17, 21⟩] (by rw [htab]; rfl) (fun z hz => by cases hz) (by decide) (by decide) (hts (Cond.classLink RL 13 "java/lang/IndexOutOfBoundsException") (List.mem_cons_of_mem _ (List.mem_append_left _ (List.mem_append_left _ (List.mem_append_left _ (List.mem_append_left _ (List.mem_append_left _ (List.mem_append_left _ (List.mem_append_left _ (List.mem_of_getElem? (i := 0) rfl)))))))))) (va_Nw.use rfl (hE.1.2.2.2.1 _ (List.mem_of_getElem? (i := 0) rfl))) hce hcv hcl ?_
      refine lv_astore (lv' := [(4, .ref q9), (0, .ref (a 0)), (1, .int x1), (2, .int x2), (3, .ref o)]) hx hb dL_root_13 hl (by decide) rfl (fun ls hl => ?_)
      refine lv_iconst (v := 1) hx hb dL_root_15 (by decide) ?_
      exact vx_ret (W.iret (v := 1) hx hb hr (fun t ht hW => ⟨⟨1, (v, f), rfl, hqx, by rw [ht]; exact hP, hD⟩, hS.F ht⟩) hS.2.2 dL_root_16)
    · refine vx_catch (own := RL) (name := eA) hown [⟨0, 10, 13, 13⟩] ⟨0, 10, 17, 21⟩ [] (by rw [htab]; rfl) (fun z hz => by rcases List.mem_singleton.mp hz with rfl; exact Or.inr ⟨by decide, eI, hts (Cond.classLink RL 13 "java/lang/IndexOutOfBoundsException") (List.mem_cons_of_mem _ (List.mem_append_left _ (List.mem_append_left _ (List.mem_append_left _ (List.mem_append_left _ (List.mem_append_left _ (List.mem_append_left _ (List.mem_append_left _ (List.mem_of_getElem? (i := 0) rfl))))))))), hE.2 (eA, eI) (List.mem_of_getElem? (i := 0) rfl)⟩) (by decide) (by decide) (hts (Cond.classLink RL 21 "java/lang/IllegalArgumentException") (List.mem_cons_of_mem _ (List.mem_append_left _ (List.mem_append_left _ (List.mem_append_left _ (List.mem_append_left _ (List.mem_append_left _ (List.mem_append_left _ (List.mem_append_left _ (List.mem_of_getElem? (i := 1) rfl)))))))))) (va_Nw.use rfl (hE.1.2.2.2.1 _ (List.mem_of_getElem? (i := 1) rfl))) hce hcv hcl ?_
      refine lv_astore (lv' := [(4, .ref q9), (0, .ref (a 0)), (1, .int x1), (2, .int x2), (3, .ref o)]) hx hb dL_root_17 hl (by decide) rfl (fun ls hl => ?_)
      refine lv_iconst (v := 2) hx hb dL_root_19 (by decide) ?_
      exact vx_ret (W.iret (v := 2) hx hb hr (fun t ht hW => ⟨⟨2, (v, f), rfl, hqx, by rw [ht]; exact hP, hD⟩, hS.F ht⟩) hS.2.2 dL_root_20)
  · obtain ⟨z_lawn, z_saved, z_savedCount, z_savedR⟩ := u9
    obtain ⟨hP1, -, hD1⟩ := hB
    rw [ht] at hP1
    obtain ⟨hP, hD⟩ := xj hP hD (rng 0 204) (wX6 cy a (z_lawn, (X6_snapshot v), (X6_trial v), z_savedR, z_saved, (X6_text v), (X6_survey v), (X6_paths v), (X6_snapshotTaken v), z_savedCount, (X6_spareR v))) (ws' := wL cy cJ a o (z_lawn, (X6_snapshot v), (X6_trial v), z_savedR, z_saved, (X6_text v), (X6_survey v), (X6_paths v), (X6_snapshotTaken v), z_savedCount, (X6_spareR v)) f) hC wX6_fst (xS_left wX6_len wX6_len) hk1 hFc hP1
    refine lv_i2l hx hb dL_root_8 rfl ?_
    refine va_last hx hb hK hP hD hS 204 4 wL_J0 rfl vin01 dL_root_9 (fun H locs hP hD hS => ?_)
    rw [wL_set] at hP hD
    refine lv_goto (tgt := 21) hx hb dL_root_10 (by decide) ?_
    refine lv_iconst (v := 0) hx hb dL_root_21 (by decide) ?_
    exact vx_ret (W.iret (v := 0) hx hb hr (fun t ht hW => ⟨⟨0, ((z_lawn, (X6_snapshot v), (X6_trial v), z_savedR, z_saved, (X6_text v), (X6_survey v), (X6_paths v), (X6_snapshotTaken v), z_savedCount, (X6_spareR v)), _), rfl, hq, by rw [ht]; exact hP, hD⟩, hS.F ht⟩) hS.2.2 dL_root_22)
set_option maxHeartbeats 4000000 in
set_option maxRecDepth 100000 in
theorem c_L_trap (l : Launch) (dC : Nat → ClassId) (dI : Nat → Nat → Nat) (cy : Nat → ClassId) (cJ : ClassId) (a : Nat → Nat) (o : Nat) (sz : Nat) (v : V_X6) (f : Nat → Int64) (x1 x2 : Int32) (Q : Int32 → V_X6 → (Nat → Int64) → Prop) (hl9 : l.stackTraces = false) (hq : wp_X6_trap v x1 x2 (fun r z_lawn z_saved z_savedCount z_savedR => Q 0 (z_lawn, (X6_snapshot v), (X6_trial v), z_savedR, z_saved, (X6_text v), (X6_survey v), (X6_paths v), (X6_snapshotTaken v), z_savedCount, (X6_spareR v)) (vp_updL f (0 : Int32).toNatClampNeg r.toInt64)) (fun E => (E = eI ∧ Q 1 v f) ∨ (E = eA ∧ Q 2 v f) ∨ (E = eS ∧ Q 3 v f))) : vx_Met l yL_trap wsL_trap ({ frames := 8, cells := 2, slots := 12, locals := 145 } : Room) (va_Pc [.ref (a 0), .int x1, .int x2, .ref o] (preL dC dI cy cJ (wL cy cJ a o v f) sz)) (qL dC dI cy cJ a o Q (va_A (wL cy cJ a o v f) sz)) (xL (va_A (wL cy cJ a o v f) sz)) 2 12 (va_A (wL cy cJ a o v f) sz) := by
  refine vx_ofWH (cc := cL_trap) (maxL := 5) (ret := (some .int)) (hh := [(0, 10, 13, 13), (0, 10, 17, 21), (0, 10, 21, 15)]) (by decide) rfl ?_
  intro p e s m args below meth c s₁ B hml hv
  obtain ⟨rfl, hsz, hP, hK, hD0, hE⟩ := hv
  have hx := B.exec
  have hb := B.bytes
  have hr := B.returns
  have hts := atoms_spec (ws := wsL_trap) B.pre
  have hown : s.vm.findClass RL = some m.cls := findClass_of_methodNamed B.named
  have hlocks := B.notSynchronized
  have htab := vx_table (x := yL_trap) B (hts (Cond.codeWith yL_trap cL_trap 5 (some .int) [(0, 10, 13, 13), (0, 10, 17, 21), (0, 10, 21, 15)]) List.mem_cons_self)
  subst hsz
  have hD := hD0.self (sz := s.heap.size)
  generalize hAe : va_A (wL cy cJ a o v f) s.heap.size = A at hD hE ⊢
  have hAe0 : ∀ q : Nat, s.heap.size ≤ q → A q := fun q h => by rw [← hAe]; exact Or.inr h
  have hS : va_S A s.heap s.heap [] := va_S.rf
  have hl := lv_entry ([.ref (a 0), .int x1, .int x2, .ref o]) (n := 5) (Nat.le_of_ble_eq_true rfl)
  rw [lg_entry_eq]
  generalize (lg_sl ([.ref (a 0), .int x1, .int x2, .ref o]) ++ List.replicate (5 - (lg_sl ([.ref (a 0), .int x1, .int x2, .ref o])).length) Slot.unset).toArray = ls at hl ⊢
  have hl : lv_has ls 5 [(0, .ref (a 0)), (1, .int x1), (2, .int x2), (3, .ref o)] := hl
  refine lv_aload_n hx hb dL_trap_0 rfl (lv_at hl 3 rfl) ?_
  refine lv_iconst (v := 0) hx hb dL_trap_1 (by decide) ?_
  refine lv_aload_n hx hb dL_trap_2 rfl (lv_at hl 0 rfl) ?_
  refine lv_iload_n hx hb dL_trap_3 rfl (lv_at hl 1 rfl) ?_
  refine lv_iload_n hx hb dL_trap_4 rfl (lv_at hl 2 rfl) ?_
  have hC : (rng 0 204).map (fun i => (wL cy cJ a o v f)[i]?) = (wX6 cy a v).map some := xC_left wX6_len
  have hPc := xsubP hP hC
  have hDc := xsubD hD (rng_nd 204 0) hC
  have hFc := va_free (wc := wX6 cy a v) hD hS hAe0 (rng 0 204) hC
  have hKc := tysJ_sub hK
  refine vx_calli (vx_runV (As := [.int x1, .int x2]) (rest := [.int 0, .ref o]) ⟨hx, hb, hml, hown, hts⟩ (c_X6_trap l dC dI cy a _ v x1 x2 _ _ hl9 hq) (cwV 2 hts gL_trap_X6_trap rfl rfl rfl (by decide +kernel) ⟨Nat.le_of_ble_eq_true rfl, Nat.le_of_ble_eq_true rfl⟩) ⟨xPre_blindX, va_recv hKc hPc (ci := 6) (q0 := 0) rfl rfl, xPre_ofX hPc hKc hDc hE.1 hS hFc⟩ rfl rfl hl.1 rfl (lv_room (Nat.le_of_ble_eq_true rfl)) dL_trap_5 ⟨Nat.le_of_ble_eq_true rfl, Nat.le_of_ble_eq_true rfl⟩) hS (fun q _ h => hFc q h) hFc (fun q _ h => hFc q h) (fun E ce q9 _ t H locs ht hvm _ hB hz1 hk1 hS hce hcv hcl => ?_) (fun r u9 t H locs ht hvm hq hB hz1 hk1 hS => ?_)
  · obtain ⟨hqx, hP1, -, hD1⟩ := hB
    rw [ht] at hP1
    have hP : va_P (dC, dI) vwCl (wL cy cJ a o v f) H := xj_keep hP hD (rng 0 204) hC hP1 hk1
    rcases hqx with ⟨rfl, hqx⟩ | ⟨rfl, hqx⟩ | ⟨rfl, hqx⟩
    · refine vx_catch (own := RL) (name := eI) hown [] ⟨0, 10, 13, 13⟩ [⟨0, 10, 17, 21⟩, ⟨0, 10, 21, 15⟩] (by rw [htab]; rfl) (fun z hz => by cases hz) (by decide) (by decide) (hts (Cond.classLink RL 13 "java/lang/IndexOutOfBoundsException") (List.mem_cons_of_mem _ (List.mem_append_left _ (List.mem_append_left _ (List.mem_append_left _ (List.mem_append_left _ (List.mem_append_left _ (List.mem_append_left _ (List.mem_append_left _ (List.mem_append_left _ (List.mem_of_getElem? (i := 0) rfl))))))))))) (va_Nw.use rfl (hE.1.2.2.2.1 _ (List.mem_of_getElem? (i := 0) rfl))) hce hcv hcl ?_
      refine lv_astore (lv' := [(4, .ref q9), (0, .ref (a 0)), (1, .int x1), (2, .int x2), (3, .ref o)]) hx hb dL_trap_13 hl (by decide) rfl (fun ls hl => ?_)
      refine lv_iconst (v := 1) hx hb dL_trap_15 (by decide) ?_
      exact vx_ret (W.iret (v := 1) hx hb hr (fun t ht hW => ⟨⟨1, (v, f), rfl, hqx, by rw [ht]; exact hP, hD⟩, hS.F ht⟩) hS.2.2 dL_trap_16)
    · refine vx_catch (own := RL) (name := eA) hown [⟨0, 10, 13, 13⟩] ⟨0, 10, 17, 21⟩ [⟨0, 10, 21, 15⟩] (by rw [htab]; rfl) (fun z hz => by rcases List.mem_singleton.mp hz with rfl; exact Or.inr ⟨by decide, eI, hts (Cond.classLink RL 13 "java/lang/IndexOutOfBoundsException") (List.mem_cons_of_mem _ (List.mem_append_left _ (List.mem_append_left _ (List.mem_append_left _ (List.mem_append_left _ (List.mem_append_left _ (List.mem_append_left _ (List.mem_append_left _ (List.mem_append_left _ (List.mem_of_getElem? (i := 0) rfl)))))))))), hE.2 (eA, eI) (List.mem_of_getElem? (i := 0) rfl)⟩) (by decide) (by decide) (hts (Cond.classLink RL 21 "java/lang/IllegalArgumentException") (List.mem_cons_of_mem _ (List.mem_append_left _ (List.mem_append_left _ (List.mem_append_left _ (List.mem_append_left _ (List.mem_append_left _ (List.mem_append_left _ (List.mem_append_left _ (List.mem_append_left _ (List.mem_of_getElem? (i := 1) rfl))))))))))) (va_Nw.use rfl (hE.1.2.2.2.1 _ (List.mem_of_getElem? (i := 1) rfl))) hce hcv hcl ?_
      refine lv_astore (lv' := [(4, .ref q9), (0, .ref (a 0)), (1, .int x1), (2, .int x2), (3, .ref o)]) hx hb dL_trap_17 hl (by decide) rfl (fun ls hl => ?_)
      refine lv_iconst (v := 2) hx hb dL_trap_19 (by decide) ?_
      exact vx_ret (W.iret (v := 2) hx hb hr (fun t ht hW => ⟨⟨2, (v, f), rfl, hqx, by rw [ht]; exact hP, hD⟩, hS.F ht⟩) hS.2.2 dL_trap_20)
    · refine vx_catch (own := RL) (name := eS) hown [⟨0, 10, 13, 13⟩, ⟨0, 10, 17, 21⟩] ⟨0, 10, 21, 15⟩ [] (by rw [htab]; rfl) (fun z hz => by rcases List.mem_cons.mp hz with rfl | hz; exact Or.inr ⟨by decide, eI, hts (Cond.classLink RL 13 "java/lang/IndexOutOfBoundsException") (List.mem_cons_of_mem _ (List.mem_append_left _ (List.mem_append_left _ (List.mem_append_left _ (List.mem_append_left _ (List.mem_append_left _ (List.mem_append_left _ (List.mem_append_left _ (List.mem_append_left _ (List.mem_of_getElem? (i := 0) rfl)))))))))), hE.2 (eS, eI) (List.mem_of_getElem? (i := 1) rfl)⟩; rcases List.mem_singleton.mp hz with rfl; exact Or.inr ⟨by decide, eA, hts (Cond.classLink RL 21 "java/lang/IllegalArgumentException") (List.mem_cons_of_mem _ (List.mem_append_left _ (List.mem_append_left _ (List.mem_append_left _ (List.mem_append_left _ (List.mem_append_left _ (List.mem_append_left _ (List.mem_append_left _ (List.mem_append_left _ (List.mem_of_getElem? (i := 1) rfl)))))))))), hE.2 (eS, eA) (List.mem_of_getElem? (i := 2) rfl)⟩) (by decide) (by decide) (hts (Cond.classLink RL 15 "java/lang/IllegalStateException") (List.mem_cons_of_mem _ (List.mem_append_left _ (List.mem_append_left _ (List.mem_append_left _ (List.mem_append_left _ (List.mem_append_left _ (List.mem_append_left _ (List.mem_append_left _ (List.mem_append_left _ (List.mem_of_getElem? (i := 2) rfl))))))))))) (va_Nw.use rfl (hE.1.2.2.2.1 _ (List.mem_of_getElem? (i := 2) rfl))) hce hcv hcl ?_
      refine lv_astore (lv' := [(4, .ref q9), (0, .ref (a 0)), (1, .int x1), (2, .int x2), (3, .ref o)]) hx hb dL_trap_21 hl (by decide) rfl (fun ls hl => ?_)
      refine lv_iconst (v := 3) hx hb dL_trap_23 (by decide) ?_
      exact vx_ret (W.iret (v := 3) hx hb hr (fun t ht hW => ⟨⟨3, (v, f), rfl, hqx, by rw [ht]; exact hP, hD⟩, hS.F ht⟩) hS.2.2 dL_trap_24)
  · obtain ⟨z_lawn, z_saved, z_savedCount, z_savedR⟩ := u9
    obtain ⟨hP1, -, hD1⟩ := hB
    rw [ht] at hP1
    obtain ⟨hP, hD⟩ := xj hP hD (rng 0 204) (wX6 cy a (z_lawn, (X6_snapshot v), (X6_trial v), z_savedR, z_saved, (X6_text v), (X6_survey v), (X6_paths v), (X6_snapshotTaken v), z_savedCount, (X6_spareR v))) (ws' := wL cy cJ a o (z_lawn, (X6_snapshot v), (X6_trial v), z_savedR, z_saved, (X6_text v), (X6_survey v), (X6_paths v), (X6_snapshotTaken v), z_savedCount, (X6_spareR v)) f) hC wX6_fst (xS_left wX6_len wX6_len) hk1 hFc hP1
    refine lv_i2l hx hb dL_trap_8 rfl ?_
    refine va_last hx hb hK hP hD hS 204 4 wL_J0 rfl vin01 dL_trap_9 (fun H locs hP hD hS => ?_)
    rw [wL_set] at hP hD
    refine lv_goto (tgt := 25) hx hb dL_trap_10 (by decide) ?_
    refine lv_iconst (v := 0) hx hb dL_trap_25 (by decide) ?_
    exact vx_ret (W.iret (v := 0) hx hb hr (fun t ht hW => ⟨⟨0, ((z_lawn, (X6_snapshot v), (X6_trial v), z_savedR, z_saved, (X6_text v), (X6_survey v), (X6_paths v), (X6_snapshotTaken v), z_savedCount, (X6_spareR v)), _), rfl, hq, by rw [ht]; exact hP, hD⟩, hS.F ht⟩) hS.2.2 dL_trap_26)
set_option maxHeartbeats 4000000 in
set_option maxRecDepth 100000 in
theorem c_L_dig (l : Launch) (dC : Nat → ClassId) (dI : Nat → Nat → Nat) (cy : Nat → ClassId) (cJ : ClassId) (a : Nat → Nat) (o : Nat) (sz : Nat) (v : V_X6) (f : Nat → Int64) (x1 : Int32) (Q : Int32 → V_X6 → (Nat → Int64) → Prop) (hl9 : l.stackTraces = false) (hq : wp_X6_dig v x1 (fun r z_lawn z_saved z_savedCount z_savedR z_spareR => Q 0 (z_lawn, (X6_snapshot v), (X6_trial v), z_savedR, z_saved, (X6_text v), (X6_survey v), (X6_paths v), (X6_snapshotTaken v), z_savedCount, z_spareR) (vp_updL f (0 : Int32).toNatClampNeg r.toInt64)) (fun E => (E = eI ∧ Q 1 v f))) : vx_Met l yL_dig wsL_dig ({ frames := 8, cells := 1, slots := 6, locals := 164 } : Room) (va_Pc [.ref (a 0), .int x1, .ref o] (preL dC dI cy cJ (wL cy cJ a o v f) sz)) (qL dC dI cy cJ a o Q (va_A (wL cy cJ a o v f) sz)) (xL (va_A (wL cy cJ a o v f) sz)) 1 6 (va_A (wL cy cJ a o v f) sz) := by
  refine vx_ofWH (cc := cL_dig) (maxL := 4) (ret := (some .int)) (hh := [(0, 9, 12, 13)]) (by decide) rfl ?_
  intro p e s m args below meth c s₁ B hml hv
  obtain ⟨rfl, hsz, hP, hK, hD0, hE⟩ := hv
  have hx := B.exec
  have hb := B.bytes
  have hr := B.returns
  have hts := atoms_spec (ws := wsL_dig) B.pre
  have hown : s.vm.findClass RL = some m.cls := findClass_of_methodNamed B.named
  have hlocks := B.notSynchronized
  have htab := vx_table (x := yL_dig) B (hts (Cond.codeWith yL_dig cL_dig 4 (some .int) [(0, 9, 12, 13)]) List.mem_cons_self)
  subst hsz
  have hD := hD0.self (sz := s.heap.size)
  generalize hAe : va_A (wL cy cJ a o v f) s.heap.size = A at hD hE ⊢
  have hAe0 : ∀ q : Nat, s.heap.size ≤ q → A q := fun q h => by rw [← hAe]; exact Or.inr h
  have hS : va_S A s.heap s.heap [] := va_S.rf
  have hl := lv_entry ([.ref (a 0), .int x1, .ref o]) (n := 4) (Nat.le_of_ble_eq_true rfl)
  rw [lg_entry_eq]
  generalize (lg_sl ([.ref (a 0), .int x1, .ref o]) ++ List.replicate (4 - (lg_sl ([.ref (a 0), .int x1, .ref o])).length) Slot.unset).toArray = ls at hl ⊢
  have hl : lv_has ls 4 [(0, .ref (a 0)), (1, .int x1), (2, .ref o)] := hl
  refine lv_aload_n hx hb dL_dig_0 rfl (lv_at hl 2 rfl) ?_
  refine lv_iconst (v := 0) hx hb dL_dig_1 (by decide) ?_
  refine lv_aload_n hx hb dL_dig_2 rfl (lv_at hl 0 rfl) ?_
  refine lv_iload_n hx hb dL_dig_3 rfl (lv_at hl 1 rfl) ?_
  have hC : (rng 0 204).map (fun i => (wL cy cJ a o v f)[i]?) = (wX6 cy a v).map some := xC_left wX6_len
  have hPc := xsubP hP hC
  have hDc := xsubD hD (rng_nd 204 0) hC
  have hFc := va_free (wc := wX6 cy a v) hD hS hAe0 (rng 0 204) hC
  have hKc := tysJ_sub hK
  refine vx_calli (vx_runV (As := [.int x1]) (rest := [.int 0, .ref o]) ⟨hx, hb, hml, hown, hts⟩ (c_X6_dig l dC dI cy a _ v x1 _ _ hl9 hq) (cwV 1 hts gL_dig_X6_dig rfl rfl rfl (by decide +kernel) ⟨Nat.le_of_ble_eq_true rfl, Nat.le_of_ble_eq_true rfl⟩) ⟨xPre_blindX, va_recv hKc hPc (ci := 6) (q0 := 0) rfl rfl, xPre_ofX hPc hKc hDc hE.1 hS hFc⟩ rfl rfl hl.1 rfl (lv_room (Nat.le_of_ble_eq_true rfl)) dL_dig_4 ⟨Nat.le_of_ble_eq_true rfl, Nat.le_of_ble_eq_true rfl⟩) hS (fun q _ h => hFc q h) hFc (fun q _ h => hFc q h) (fun E ce q9 _ t H locs ht hvm _ hB hz1 hk1 hS hce hcv hcl => ?_) (fun r u9 t H locs ht hvm hq hB hz1 hk1 hS => ?_)
  · obtain ⟨hqx, hP1, -, hD1⟩ := hB
    rw [ht] at hP1
    have hP : va_P (dC, dI) vwCl (wL cy cJ a o v f) H := xj_keep hP hD (rng 0 204) hC hP1 hk1
    obtain ⟨rfl, hqx⟩ := hqx
    refine vx_catch (own := RL) (name := eI) hown [] ⟨0, 9, 12, 13⟩ [] (by rw [htab]; rfl) (fun z hz => by cases hz) (by decide) (by decide) (hts (Cond.classLink RL 13 "java/lang/IndexOutOfBoundsException") (List.mem_cons_of_mem _ (List.mem_append_left _ (List.mem_append_left _ (List.mem_append_left _ (List.mem_append_left _ (List.mem_append_left _ (List.mem_append_left _ (List.mem_of_getElem? (i := 0) rfl))))))))) (va_Nw.use rfl (hE.1.2.2.2.1 _ (List.mem_of_getElem? (i := 0) rfl))) hce hcv hcl ?_
    refine lv_astore_n (lv' := [(3, .ref q9), (0, .ref (a 0)), (1, .int x1), (2, .ref o)]) hx hb dL_dig_12 rfl hl (by decide) rfl (fun ls hl => ?_)
    refine lv_iconst (v := 1) hx hb dL_dig_13 (by decide) ?_
    exact vx_ret (W.iret (v := 1) hx hb hr (fun t ht hW => ⟨⟨1, (v, f), rfl, hqx, by rw [ht]; exact hP, hD⟩, hS.F ht⟩) hS.2.2 dL_dig_14)
  · obtain ⟨z_lawn, z_saved, z_savedCount, z_savedR, z_spareR⟩ := u9
    obtain ⟨hP1, -, hD1⟩ := hB
    rw [ht] at hP1
    obtain ⟨hP, hD⟩ := xj hP hD (rng 0 204) (wX6 cy a (z_lawn, (X6_snapshot v), (X6_trial v), z_savedR, z_saved, (X6_text v), (X6_survey v), (X6_paths v), (X6_snapshotTaken v), z_savedCount, z_spareR)) (ws' := wL cy cJ a o (z_lawn, (X6_snapshot v), (X6_trial v), z_savedR, z_saved, (X6_text v), (X6_survey v), (X6_paths v), (X6_snapshotTaken v), z_savedCount, z_spareR) f) hC wX6_fst (xS_left wX6_len wX6_len) hk1 hFc hP1
    refine lv_i2l hx hb dL_dig_7 rfl ?_
    refine va_last hx hb hK hP hD hS 204 4 wL_J0 rfl vin01 dL_dig_8 (fun H locs hP hD hS => ?_)
    rw [wL_set] at hP hD
    refine lv_goto (tgt := 15) hx hb dL_dig_9 (by decide) ?_
    refine lv_iconst (v := 0) hx hb dL_dig_15 (by decide) ?_
    exact vx_ret (W.iret (v := 0) hx hb hr (fun t ht hW => ⟨⟨0, ((z_lawn, (X6_snapshot v), (X6_trial v), z_savedR, z_saved, (X6_text v), (X6_survey v), (X6_paths v), (X6_snapshotTaken v), z_savedCount, z_spareR), _), rfl, hq, by rw [ht]; exact hP, hD⟩, hS.F ht⟩) hS.2.2 dL_dig_16)
set_option maxHeartbeats 4000000 in
set_option maxRecDepth 100000 in
theorem c_L_rake (l : Launch) (dC : Nat → ClassId) (dI : Nat → Nat → Nat) (cy : Nat → ClassId) (cJ : ClassId) (a : Nat → Nat) (o : Nat) (sz : Nat) (v : V_X6) (f : Nat → Int64) (x1 : Int32) (Q : Int32 → V_X6 → (Nat → Int64) → Prop) (hl9 : l.stackTraces = false) (hq : wp_X6_rake v x1 (fun r z_lawn z_saved z_savedCount z_savedR z_spareR => Q 0 (z_lawn, (X6_snapshot v), (X6_trial v), z_savedR, z_saved, (X6_text v), (X6_survey v), (X6_paths v), (X6_snapshotTaken v), z_savedCount, z_spareR) (vp_updL f (0 : Int32).toNatClampNeg r.toInt64)) (fun E => (E = eI ∧ Q 1 v f) ∨ (E = eS ∧ Q 2 v f))) : vx_Met l yL_rake wsL_rake ({ frames := 8, cells := 2, slots := 12, locals := 182 } : Room) (va_Pc [.ref (a 0), .int x1, .ref o] (preL dC dI cy cJ (wL cy cJ a o v f) sz)) (qL dC dI cy cJ a o Q (va_A (wL cy cJ a o v f) sz)) (xL (va_A (wL cy cJ a o v f) sz)) 2 12 (va_A (wL cy cJ a o v f) sz) := by
  refine vx_ofWH (cc := cL_rake) (maxL := 4) (ret := (some .int)) (hh := [(0, 9, 12, 13), (0, 9, 15, 15)]) (by decide) rfl ?_
  intro p e s m args below meth c s₁ B hml hv
  obtain ⟨rfl, hsz, hP, hK, hD0, hE⟩ := hv
  have hx := B.exec
  have hb := B.bytes
  have hr := B.returns
  have hts := atoms_spec (ws := wsL_rake) B.pre
  have hown : s.vm.findClass RL = some m.cls := findClass_of_methodNamed B.named
  have hlocks := B.notSynchronized
  have htab := vx_table (x := yL_rake) B (hts (Cond.codeWith yL_rake cL_rake 4 (some .int) [(0, 9, 12, 13), (0, 9, 15, 15)]) List.mem_cons_self)
  subst hsz
  have hD := hD0.self (sz := s.heap.size)
  generalize hAe : va_A (wL cy cJ a o v f) s.heap.size = A at hD hE ⊢
  have hAe0 : ∀ q : Nat, s.heap.size ≤ q → A q := fun q h => by rw [← hAe]; exact Or.inr h
  have hS : va_S A s.heap s.heap [] := va_S.rf
  have hl := lv_entry ([.ref (a 0), .int x1, .ref o]) (n := 4) (Nat.le_of_ble_eq_true rfl)
  rw [lg_entry_eq]
  generalize (lg_sl ([.ref (a 0), .int x1, .ref o]) ++ List.replicate (4 - (lg_sl ([.ref (a 0), .int x1, .ref o])).length) Slot.unset).toArray = ls at hl ⊢
  have hl : lv_has ls 4 [(0, .ref (a 0)), (1, .int x1), (2, .ref o)] := hl
  refine lv_aload_n hx hb dL_rake_0 rfl (lv_at hl 2 rfl) ?_
  refine lv_iconst (v := 0) hx hb dL_rake_1 (by decide) ?_
  refine lv_aload_n hx hb dL_rake_2 rfl (lv_at hl 0 rfl) ?_
  refine lv_iload_n hx hb dL_rake_3 rfl (lv_at hl 1 rfl) ?_
  have hC : (rng 0 204).map (fun i => (wL cy cJ a o v f)[i]?) = (wX6 cy a v).map some := xC_left wX6_len
  have hPc := xsubP hP hC
  have hDc := xsubD hD (rng_nd 204 0) hC
  have hFc := va_free (wc := wX6 cy a v) hD hS hAe0 (rng 0 204) hC
  have hKc := tysJ_sub hK
  refine vx_calli (vx_runV (As := [.int x1]) (rest := [.int 0, .ref o]) ⟨hx, hb, hml, hown, hts⟩ (c_X6_rake l dC dI cy a _ v x1 _ _ hl9 hq) (cwV 1 hts gL_rake_X6_rake rfl rfl rfl (by decide +kernel) ⟨Nat.le_of_ble_eq_true rfl, Nat.le_of_ble_eq_true rfl⟩) ⟨xPre_blindX, va_recv hKc hPc (ci := 6) (q0 := 0) rfl rfl, xPre_ofX hPc hKc hDc hE.1 hS hFc⟩ rfl rfl hl.1 rfl (lv_room (Nat.le_of_ble_eq_true rfl)) dL_rake_4 ⟨Nat.le_of_ble_eq_true rfl, Nat.le_of_ble_eq_true rfl⟩) hS (fun q _ h => hFc q h) hFc (fun q _ h => hFc q h) (fun E ce q9 _ t H locs ht hvm _ hB hz1 hk1 hS hce hcv hcl => ?_) (fun r u9 t H locs ht hvm hq hB hz1 hk1 hS => ?_)
  · obtain ⟨hqx, hP1, -, hD1⟩ := hB
    rw [ht] at hP1
    have hP : va_P (dC, dI) vwCl (wL cy cJ a o v f) H := xj_keep hP hD (rng 0 204) hC hP1 hk1
    rcases hqx with ⟨rfl, hqx⟩ | ⟨rfl, hqx⟩
    · refine vx_catch (own := RL) (name := eI) hown [] ⟨0, 9, 12, 13⟩ [⟨0, 9, 15, 15⟩] (by rw [htab]; rfl) (fun z hz => by cases hz) (by decide) (by decide) (hts (Cond.classLink RL 13 "java/lang/IndexOutOfBoundsException") (List.mem_cons_of_mem _ (List.mem_append_left _ (List.mem_append_left _ (List.mem_append_left _ (List.mem_append_left _ (List.mem_append_left _ (List.mem_append_left _ (List.mem_append_left _ (List.mem_of_getElem? (i := 0) rfl)))))))))) (va_Nw.use rfl (hE.1.2.2.2.1 _ (List.mem_of_getElem? (i := 0) rfl))) hce hcv hcl ?_
      refine lv_astore_n (lv' := [(3, .ref q9), (0, .ref (a 0)), (1, .int x1), (2, .ref o)]) hx hb dL_rake_12 rfl hl (by decide) rfl (fun ls hl => ?_)
      refine lv_iconst (v := 1) hx hb dL_rake_13 (by decide) ?_
      exact vx_ret (W.iret (v := 1) hx hb hr (fun t ht hW => ⟨⟨1, (v, f), rfl, hqx, by rw [ht]; exact hP, hD⟩, hS.F ht⟩) hS.2.2 dL_rake_14)
    · refine vx_catch (own := RL) (name := eS) hown [⟨0, 9, 12, 13⟩] ⟨0, 9, 15, 15⟩ [] (by rw [htab]; rfl) (fun z hz => by rcases List.mem_singleton.mp hz with rfl; exact Or.inr ⟨by decide, eI, hts (Cond.classLink RL 13 "java/lang/IndexOutOfBoundsException") (List.mem_cons_of_mem _ (List.mem_append_left _ (List.mem_append_left _ (List.mem_append_left _ (List.mem_append_left _ (List.mem_append_left _ (List.mem_append_left _ (List.mem_append_left _ (List.mem_of_getElem? (i := 0) rfl))))))))), hE.2 (eS, eI) (List.mem_of_getElem? (i := 1) rfl)⟩) (by decide) (by decide) (hts (Cond.classLink RL 15 "java/lang/IllegalStateException") (List.mem_cons_of_mem _ (List.mem_append_left _ (List.mem_append_left _ (List.mem_append_left _ (List.mem_append_left _ (List.mem_append_left _ (List.mem_append_left _ (List.mem_append_left _ (List.mem_of_getElem? (i := 1) rfl)))))))))) (va_Nw.use rfl (hE.1.2.2.2.1 _ (List.mem_of_getElem? (i := 2) rfl))) hce hcv hcl ?_
      refine lv_astore_n (lv' := [(3, .ref q9), (0, .ref (a 0)), (1, .int x1), (2, .ref o)]) hx hb dL_rake_15 rfl hl (by decide) rfl (fun ls hl => ?_)
      refine lv_iconst (v := 2) hx hb dL_rake_16 (by decide) ?_
      exact vx_ret (W.iret (v := 2) hx hb hr (fun t ht hW => ⟨⟨2, (v, f), rfl, hqx, by rw [ht]; exact hP, hD⟩, hS.F ht⟩) hS.2.2 dL_rake_17)
  · obtain ⟨z_lawn, z_saved, z_savedCount, z_savedR, z_spareR⟩ := u9
    obtain ⟨hP1, -, hD1⟩ := hB
    rw [ht] at hP1
    obtain ⟨hP, hD⟩ := xj hP hD (rng 0 204) (wX6 cy a (z_lawn, (X6_snapshot v), (X6_trial v), z_savedR, z_saved, (X6_text v), (X6_survey v), (X6_paths v), (X6_snapshotTaken v), z_savedCount, z_spareR)) (ws' := wL cy cJ a o (z_lawn, (X6_snapshot v), (X6_trial v), z_savedR, z_saved, (X6_text v), (X6_survey v), (X6_paths v), (X6_snapshotTaken v), z_savedCount, z_spareR) f) hC wX6_fst (xS_left wX6_len wX6_len) hk1 hFc hP1
    refine lv_i2l hx hb dL_rake_7 rfl ?_
    refine va_last hx hb hK hP hD hS 204 4 wL_J0 rfl vin01 dL_rake_8 (fun H locs hP hD hS => ?_)
    rw [wL_set] at hP hD
    refine lv_goto (tgt := 18) hx hb dL_rake_9 (by decide) ?_
    refine lv_iconst (v := 0) hx hb dL_rake_18 (by decide) ?_
    exact vx_ret (W.iret (v := 0) hx hb hr (fun t ht hW => ⟨⟨0, ((z_lawn, (X6_snapshot v), (X6_trial v), z_savedR, z_saved, (X6_text v), (X6_survey v), (X6_paths v), (X6_snapshotTaken v), z_savedCount, z_spareR), _), rfl, hq, by rw [ht]; exact hP, hD⟩, hS.F ht⟩) hS.2.2 dL_rake_19)
set_option maxHeartbeats 4000000 in
set_option maxRecDepth 100000 in
theorem c_L_set (l : Launch) (dC : Nat → ClassId) (dI : Nat → Nat → Nat) (cy : Nat → ClassId) (cJ : ClassId) (a : Nat → Nat) (o : Nat) (sz : Nat) (v : V_X6) (f : Nat → Int64) (x1 : Int32) (Q : Int32 → V_X6 → (Nat → Int64) → Prop) (hl9 : l.stackTraces = false) (hq : wp_X6_set v x1 (fun r z_lawn z_saved z_savedCount z_savedR => Q 0 (z_lawn, (X6_snapshot v), (X6_trial v), z_savedR, z_saved, (X6_text v), (X6_survey v), (X6_paths v), (X6_snapshotTaken v), z_savedCount, (X6_spareR v)) (vp_updL f (0 : Int32).toNatClampNeg r.toInt64)) (fun E => (E = eA ∧ Q 1 v f))) : vx_Met l yL_set wsL_set ({ frames := 7, cells := 1, slots := 6, locals := 124 } : Room) (va_Pc [.ref (a 0), .int x1, .ref o] (preL dC dI cy cJ (wL cy cJ a o v f) sz)) (qL dC dI cy cJ a o Q (va_A (wL cy cJ a o v f) sz)) (xL (va_A (wL cy cJ a o v f) sz)) 1 6 (va_A (wL cy cJ a o v f) sz) := by
  refine vx_ofWH (cc := cL_set) (maxL := 4) (ret := (some .int)) (hh := [(0, 9, 12, 21)]) (by decide) rfl ?_
  intro p e s m args below meth c s₁ B hml hv
  obtain ⟨rfl, hsz, hP, hK, hD0, hE⟩ := hv
  have hx := B.exec
  have hb := B.bytes
  have hr := B.returns
  have hts := atoms_spec (ws := wsL_set) B.pre
  have hown : s.vm.findClass RL = some m.cls := findClass_of_methodNamed B.named
  have hlocks := B.notSynchronized
  have htab := vx_table (x := yL_set) B (hts (Cond.codeWith yL_set cL_set 4 (some .int) [(0, 9, 12, 21)]) List.mem_cons_self)
  subst hsz
  have hD := hD0.self (sz := s.heap.size)
  generalize hAe : va_A (wL cy cJ a o v f) s.heap.size = A at hD hE ⊢
  have hAe0 : ∀ q : Nat, s.heap.size ≤ q → A q := fun q h => by rw [← hAe]; exact Or.inr h
  have hS : va_S A s.heap s.heap [] := va_S.rf
  have hl := lv_entry ([.ref (a 0), .int x1, .ref o]) (n := 4) (Nat.le_of_ble_eq_true rfl)
  rw [lg_entry_eq]
  generalize (lg_sl ([.ref (a 0), .int x1, .ref o]) ++ List.replicate (4 - (lg_sl ([.ref (a 0), .int x1, .ref o])).length) Slot.unset).toArray = ls at hl ⊢
  have hl : lv_has ls 4 [(0, .ref (a 0)), (1, .int x1), (2, .ref o)] := hl
  refine lv_aload_n hx hb dL_set_0 rfl (lv_at hl 2 rfl) ?_
  refine lv_iconst (v := 0) hx hb dL_set_1 (by decide) ?_
  refine lv_aload_n hx hb dL_set_2 rfl (lv_at hl 0 rfl) ?_
  refine lv_iload_n hx hb dL_set_3 rfl (lv_at hl 1 rfl) ?_
  have hC : (rng 0 204).map (fun i => (wL cy cJ a o v f)[i]?) = (wX6 cy a v).map some := xC_left wX6_len
  have hPc := xsubP hP hC
  have hDc := xsubD hD (rng_nd 204 0) hC
  have hFc := va_free (wc := wX6 cy a v) hD hS hAe0 (rng 0 204) hC
  have hKc := tysJ_sub hK
  refine vx_calli (vx_runV (As := [.int x1]) (rest := [.int 0, .ref o]) ⟨hx, hb, hml, hown, hts⟩ (c_X6_set l dC dI cy a _ v x1 _ _ hl9 hq) (cwV 1 hts gL_set_X6_set rfl rfl rfl (by decide +kernel) ⟨Nat.le_of_ble_eq_true rfl, Nat.le_of_ble_eq_true rfl⟩) ⟨xPre_blindX, va_recv hKc hPc (ci := 6) (q0 := 0) rfl rfl, xPre_ofX hPc hKc hDc hE.1 hS hFc⟩ rfl rfl hl.1 rfl (lv_room (Nat.le_of_ble_eq_true rfl)) dL_set_4 ⟨Nat.le_of_ble_eq_true rfl, Nat.le_of_ble_eq_true rfl⟩) hS (fun q _ h => hFc q h) hFc (fun q _ h => hFc q h) (fun E ce q9 _ t H locs ht hvm _ hB hz1 hk1 hS hce hcv hcl => ?_) (fun r u9 t H locs ht hvm hq hB hz1 hk1 hS => ?_)
  · obtain ⟨hqx, hP1, -, hD1⟩ := hB
    rw [ht] at hP1
    have hP : va_P (dC, dI) vwCl (wL cy cJ a o v f) H := xj_keep hP hD (rng 0 204) hC hP1 hk1
    obtain ⟨rfl, hqx⟩ := hqx
    refine vx_catch (own := RL) (name := eA) hown [] ⟨0, 9, 12, 21⟩ [] (by rw [htab]; rfl) (fun z hz => by cases hz) (by decide) (by decide) (hts (Cond.classLink RL 21 "java/lang/IllegalArgumentException") (List.mem_cons_of_mem _ (List.mem_append_left _ (List.mem_append_left _ (List.mem_append_left _ (List.mem_append_left _ (List.mem_append_left _ (List.mem_append_left _ (List.mem_of_getElem? (i := 0) rfl))))))))) (va_Nw.use rfl (hE.1.2.2.2.1 _ (List.mem_of_getElem? (i := 1) rfl))) hce hcv hcl ?_
    refine lv_astore_n (lv' := [(3, .ref q9), (0, .ref (a 0)), (1, .int x1), (2, .ref o)]) hx hb dL_set_12 rfl hl (by decide) rfl (fun ls hl => ?_)
    refine lv_iconst (v := 1) hx hb dL_set_13 (by decide) ?_
    exact vx_ret (W.iret (v := 1) hx hb hr (fun t ht hW => ⟨⟨1, (v, f), rfl, hqx, by rw [ht]; exact hP, hD⟩, hS.F ht⟩) hS.2.2 dL_set_14)
  · obtain ⟨z_lawn, z_saved, z_savedCount, z_savedR⟩ := u9
    obtain ⟨hP1, -, hD1⟩ := hB
    rw [ht] at hP1
    obtain ⟨hP, hD⟩ := xj hP hD (rng 0 204) (wX6 cy a (z_lawn, (X6_snapshot v), (X6_trial v), z_savedR, z_saved, (X6_text v), (X6_survey v), (X6_paths v), (X6_snapshotTaken v), z_savedCount, (X6_spareR v))) (ws' := wL cy cJ a o (z_lawn, (X6_snapshot v), (X6_trial v), z_savedR, z_saved, (X6_text v), (X6_survey v), (X6_paths v), (X6_snapshotTaken v), z_savedCount, (X6_spareR v)) f) hC wX6_fst (xS_left wX6_len wX6_len) hk1 hFc hP1
    refine lv_i2l hx hb dL_set_7 rfl ?_
    refine va_last hx hb hK hP hD hS 204 4 wL_J0 rfl vin01 dL_set_8 (fun H locs hP hD hS => ?_)
    rw [wL_set] at hP hD
    refine lv_goto (tgt := 15) hx hb dL_set_9 (by decide) ?_
    refine lv_iconst (v := 0) hx hb dL_set_15 (by decide) ?_
    exact vx_ret (W.iret (v := 0) hx hb hr (fun t ht hW => ⟨⟨0, ((z_lawn, (X6_snapshot v), (X6_trial v), z_savedR, z_saved, (X6_text v), (X6_survey v), (X6_paths v), (X6_snapshotTaken v), z_savedCount, (X6_spareR v)), _), rfl, hq, by rw [ht]; exact hP, hD⟩, hS.F ht⟩) hS.2.2 dL_set_16)
set_option maxHeartbeats 4000000 in
set_option maxRecDepth 100000 in
theorem c_L_append (l : Launch) (dC : Nat → ClassId) (dI : Nat → Nat → Nat) (cy : Nat → ClassId) (cJ : ClassId) (a : Nat → Nat) (o : Nat) (sz : Nat) (v : V_X6) (f : Nat → Int64) (x1 : Int32) (Q : Int32 → V_X6 → (Nat → Int64) → Prop) (hl9 : l.stackTraces = false) (hq : wp_X6_append v x1 (fun r z_text => Q 0 ((X6_lawn v), (X6_snapshot v), (X6_trial v), (X6_savedR v), (X6_saved v), z_text, (X6_survey v), (X6_paths v), (X6_snapshotTaken v), (X6_savedCount v), (X6_spareR v)) (vp_updL f (0 : Int32).toNatClampNeg r.toInt64)) (fun E => (E = eA ∧ Q 1 v f) ∨ (E = eS ∧ Q 2 v f))) : vx_Met l yL_append wsL_append ({ frames := 7, cells := 1, slots := 6, locals := 123 } : Room) (va_Pc [.ref (a 0), .int x1, .ref o] (preL dC dI cy cJ (wL cy cJ a o v f) sz)) (qL dC dI cy cJ a o Q (va_A (wL cy cJ a o v f) sz)) (xL (va_A (wL cy cJ a o v f) sz)) 1 6 (va_A (wL cy cJ a o v f) sz) := by
  refine vx_ofWH (cc := cL_append) (maxL := 4) (ret := (some .int)) (hh := [(0, 9, 12, 21), (0, 9, 15, 15)]) (by decide) rfl ?_
  intro p e s m args below meth c s₁ B hml hv
  obtain ⟨rfl, hsz, hP, hK, hD0, hE⟩ := hv
  have hx := B.exec
  have hb := B.bytes
  have hr := B.returns
  have hts := atoms_spec (ws := wsL_append) B.pre
  have hown : s.vm.findClass RL = some m.cls := findClass_of_methodNamed B.named
  have hlocks := B.notSynchronized
  have htab := vx_table (x := yL_append) B (hts (Cond.codeWith yL_append cL_append 4 (some .int) [(0, 9, 12, 21), (0, 9, 15, 15)]) List.mem_cons_self)
  subst hsz
  have hD := hD0.self (sz := s.heap.size)
  generalize hAe : va_A (wL cy cJ a o v f) s.heap.size = A at hD hE ⊢
  have hAe0 : ∀ q : Nat, s.heap.size ≤ q → A q := fun q h => by rw [← hAe]; exact Or.inr h
  have hS : va_S A s.heap s.heap [] := va_S.rf
  have hl := lv_entry ([.ref (a 0), .int x1, .ref o]) (n := 4) (Nat.le_of_ble_eq_true rfl)
  rw [lg_entry_eq]
  generalize (lg_sl ([.ref (a 0), .int x1, .ref o]) ++ List.replicate (4 - (lg_sl ([.ref (a 0), .int x1, .ref o])).length) Slot.unset).toArray = ls at hl ⊢
  have hl : lv_has ls 4 [(0, .ref (a 0)), (1, .int x1), (2, .ref o)] := hl
  refine lv_aload_n hx hb dL_append_0 rfl (lv_at hl 2 rfl) ?_
  refine lv_iconst (v := 0) hx hb dL_append_1 (by decide) ?_
  refine lv_aload_n hx hb dL_append_2 rfl (lv_at hl 0 rfl) ?_
  refine lv_iload_n hx hb dL_append_3 rfl (lv_at hl 1 rfl) ?_
  have hC : (rng 0 204).map (fun i => (wL cy cJ a o v f)[i]?) = (wX6 cy a v).map some := xC_left wX6_len
  have hPc := xsubP hP hC
  have hDc := xsubD hD (rng_nd 204 0) hC
  have hFc := va_free (wc := wX6 cy a v) hD hS hAe0 (rng 0 204) hC
  have hKc := tysJ_sub hK
  refine vx_calli (vx_runV (As := [.int x1]) (rest := [.int 0, .ref o]) ⟨hx, hb, hml, hown, hts⟩ (c_X6_append l dC dI cy a _ v x1 _ _ hl9 hq) (cwV 1 hts gL_append_X6_append rfl rfl rfl (by decide +kernel) ⟨Nat.le_of_ble_eq_true rfl, Nat.le_of_ble_eq_true rfl⟩) ⟨xPre_blindX, va_recv hKc hPc (ci := 6) (q0 := 0) rfl rfl, xPre_ofX hPc hKc hDc hE.1 hS hFc⟩ rfl rfl hl.1 rfl (lv_room (Nat.le_of_ble_eq_true rfl)) dL_append_4 ⟨Nat.le_of_ble_eq_true rfl, Nat.le_of_ble_eq_true rfl⟩) hS (fun q _ h => hFc q h) hFc (fun q _ h => hFc q h) (fun E ce q9 _ t H locs ht hvm _ hB hz1 hk1 hS hce hcv hcl => ?_) (fun r u9 t H locs ht hvm hq hB hz1 hk1 hS => ?_)
  · obtain ⟨hqx, hP1, -, hD1⟩ := hB
    rw [ht] at hP1
    have hP : va_P (dC, dI) vwCl (wL cy cJ a o v f) H := xj_keep hP hD (rng 0 204) hC hP1 hk1
    rcases hqx with ⟨rfl, hqx⟩ | ⟨rfl, hqx⟩
    · refine vx_catch (own := RL) (name := eA) hown [] ⟨0, 9, 12, 21⟩ [⟨0, 9, 15, 15⟩] (by rw [htab]; rfl) (fun z hz => by cases hz) (by decide) (by decide) (hts (Cond.classLink RL 21 "java/lang/IllegalArgumentException") (List.mem_cons_of_mem _ (List.mem_append_left _ (List.mem_append_left _ (List.mem_append_left _ (List.mem_append_left _ (List.mem_of_getElem? (i := 0) rfl))))))) (va_Nw.use rfl (hE.1.2.2.2.1 _ (List.mem_of_getElem? (i := 1) rfl))) hce hcv hcl ?_
      refine lv_astore_n (lv' := [(3, .ref q9), (0, .ref (a 0)), (1, .int x1), (2, .ref o)]) hx hb dL_append_12 rfl hl (by decide) rfl (fun ls hl => ?_)
      refine lv_iconst (v := 1) hx hb dL_append_13 (by decide) ?_
      exact vx_ret (W.iret (v := 1) hx hb hr (fun t ht hW => ⟨⟨1, (v, f), rfl, hqx, by rw [ht]; exact hP, hD⟩, hS.F ht⟩) hS.2.2 dL_append_14)
    · refine vx_catch (own := RL) (name := eS) hown [⟨0, 9, 12, 21⟩] ⟨0, 9, 15, 15⟩ [] (by rw [htab]; rfl) (fun z hz => by rcases List.mem_singleton.mp hz with rfl; exact Or.inr ⟨by decide, eA, hts (Cond.classLink RL 21 "java/lang/IllegalArgumentException") (List.mem_cons_of_mem _ (List.mem_append_left _ (List.mem_append_left _ (List.mem_append_left _ (List.mem_append_left _ (List.mem_of_getElem? (i := 0) rfl)))))), hE.2 (eS, eA) (List.mem_of_getElem? (i := 2) rfl)⟩) (by decide) (by decide) (hts (Cond.classLink RL 15 "java/lang/IllegalStateException") (List.mem_cons_of_mem _ (List.mem_append_left _ (List.mem_append_left _ (List.mem_append_left _ (List.mem_append_left _ (List.mem_of_getElem? (i := 1) rfl))))))) (va_Nw.use rfl (hE.1.2.2.2.1 _ (List.mem_of_getElem? (i := 2) rfl))) hce hcv hcl ?_
      refine lv_astore_n (lv' := [(3, .ref q9), (0, .ref (a 0)), (1, .int x1), (2, .ref o)]) hx hb dL_append_15 rfl hl (by decide) rfl (fun ls hl => ?_)
      refine lv_iconst (v := 2) hx hb dL_append_16 (by decide) ?_
      exact vx_ret (W.iret (v := 2) hx hb hr (fun t ht hW => ⟨⟨2, (v, f), rfl, hqx, by rw [ht]; exact hP, hD⟩, hS.F ht⟩) hS.2.2 dL_append_17)
  · obtain ⟨z_text, rfl⟩ : ∃ z, z = u9 := ⟨_, rfl⟩
    obtain ⟨hP1, -, hD1⟩ := hB
    rw [ht] at hP1
    obtain ⟨hP, hD⟩ := xj hP hD (rng 0 204) (wX6 cy a ((X6_lawn v), (X6_snapshot v), (X6_trial v), (X6_savedR v), (X6_saved v), z_text, (X6_survey v), (X6_paths v), (X6_snapshotTaken v), (X6_savedCount v), (X6_spareR v))) (ws' := wL cy cJ a o ((X6_lawn v), (X6_snapshot v), (X6_trial v), (X6_savedR v), (X6_saved v), z_text, (X6_survey v), (X6_paths v), (X6_snapshotTaken v), (X6_savedCount v), (X6_spareR v)) f) hC wX6_fst (xS_left wX6_len wX6_len) hk1 hFc hP1
    refine lv_i2l hx hb dL_append_7 rfl ?_
    refine va_last hx hb hK hP hD hS 204 4 wL_J0 rfl vin01 dL_append_8 (fun H locs hP hD hS => ?_)
    rw [wL_set] at hP hD
    refine lv_goto (tgt := 18) hx hb dL_append_9 (by decide) ?_
    refine lv_iconst (v := 0) hx hb dL_append_18 (by decide) ?_
    exact vx_ret (W.iret (v := 0) hx hb hr (fun t ht hW => ⟨⟨0, (((X6_lawn v), (X6_snapshot v), (X6_trial v), (X6_savedR v), (X6_saved v), z_text, (X6_survey v), (X6_paths v), (X6_snapshotTaken v), (X6_savedCount v), (X6_spareR v)), _), rfl, hq, by rw [ht]; exact hP, hD⟩, hS.F ht⟩) hS.2.2 dL_append_19)
set_option maxHeartbeats 4000000 in
set_option maxRecDepth 100000 in
theorem c_L_plans (l : Launch) (dC : Nat → ClassId) (dI : Nat → Nat → Nat) (cy : Nat → ClassId) (cJ : ClassId) (a : Nat → Nat) (o : Nat) (sz : Nat) (v : V_X6) (f : Nat → Int64) (Q : Int32 → V_X6 → (Nat → Int64) → Prop) (hl9 : l.stackTraces = false) (hq : wp_X6_plans v (fun r z_lawn z_saved z_savedCount z_savedR z_text => Q 0 (z_lawn, (X6_snapshot v), (X6_trial v), z_savedR, z_saved, z_text, (X6_survey v), (X6_paths v), (X6_snapshotTaken v), z_savedCount, (X6_spareR v)) (vp_updL f (0 : Int32).toNatClampNeg r.toInt64)) (fun E => (E = eA ∧ Q 1 v f))) : vx_Met l yL_plans wsL_plans ({ frames := 7, cells := 1, slots := 6, locals := 126 } : Room) (va_Pc [.ref (a 0), .ref o] (preL dC dI cy cJ (wL cy cJ a o v f) sz)) (qL dC dI cy cJ a o Q (va_A (wL cy cJ a o v f) sz)) (xL (va_A (wL cy cJ a o v f) sz)) 1 6 (va_A (wL cy cJ a o v f) sz) := by
  refine vx_ofWH (cc := cL_plans) (maxL := 3) (ret := (some .int)) (hh := [(0, 8, 11, 21)]) (by decide) rfl ?_
  intro p e s m args below meth c s₁ B hml hv
  obtain ⟨rfl, hsz, hP, hK, hD0, hE⟩ := hv
  have hx := B.exec
  have hb := B.bytes
  have hr := B.returns
  have hts := atoms_spec (ws := wsL_plans) B.pre
  have hown : s.vm.findClass RL = some m.cls := findClass_of_methodNamed B.named
  have hlocks := B.notSynchronized
  have htab := vx_table (x := yL_plans) B (hts (Cond.codeWith yL_plans cL_plans 3 (some .int) [(0, 8, 11, 21)]) List.mem_cons_self)
  subst hsz
  have hD := hD0.self (sz := s.heap.size)
  generalize hAe : va_A (wL cy cJ a o v f) s.heap.size = A at hD hE ⊢
  have hAe0 : ∀ q : Nat, s.heap.size ≤ q → A q := fun q h => by rw [← hAe]; exact Or.inr h
  have hS : va_S A s.heap s.heap [] := va_S.rf
  have hl := lv_entry ([.ref (a 0), .ref o]) (n := 3) (Nat.le_of_ble_eq_true rfl)
  rw [lg_entry_eq]
  generalize (lg_sl ([.ref (a 0), .ref o]) ++ List.replicate (3 - (lg_sl ([.ref (a 0), .ref o])).length) Slot.unset).toArray = ls at hl ⊢
  have hl : lv_has ls 3 [(0, .ref (a 0)), (1, .ref o)] := hl
  refine lv_aload_n hx hb dL_plans_0 rfl (lv_at hl 1 rfl) ?_
  refine lv_iconst (v := 0) hx hb dL_plans_1 (by decide) ?_
  refine lv_aload_n hx hb dL_plans_2 rfl (lv_at hl 0 rfl) ?_
  have hC : (rng 0 204).map (fun i => (wL cy cJ a o v f)[i]?) = (wX6 cy a v).map some := xC_left wX6_len
  have hPc := xsubP hP hC
  have hDc := xsubD hD (rng_nd 204 0) hC
  have hFc := va_free (wc := wX6 cy a v) hD hS hAe0 (rng 0 204) hC
  have hKc := tysJ_sub hK
  refine vx_calli (vx_runV (As := []) (rest := [.int 0, .ref o]) ⟨hx, hb, hml, hown, hts⟩ (c_X6_plans l dC dI cy a _ v _ _ hl9 hq) (cwV 0 hts gL_plans_X6_plans rfl rfl rfl (by decide +kernel) ⟨Nat.le_of_ble_eq_true rfl, Nat.le_of_ble_eq_true rfl⟩) ⟨xPre_blindX, va_recv hKc hPc (ci := 6) (q0 := 0) rfl rfl, xPre_ofX hPc hKc hDc hE.1 hS hFc⟩ rfl rfl hl.1 rfl (lv_room (Nat.le_of_ble_eq_true rfl)) dL_plans_3 ⟨Nat.le_of_ble_eq_true rfl, Nat.le_of_ble_eq_true rfl⟩) hS (fun q _ h => hFc q h) hFc (fun q _ h => hFc q h) (fun E ce q9 _ t H locs ht hvm _ hB hz1 hk1 hS hce hcv hcl => ?_) (fun r u9 t H locs ht hvm hq hB hz1 hk1 hS => ?_)
  · obtain ⟨hqx, hP1, -, hD1⟩ := hB
    rw [ht] at hP1
    have hP : va_P (dC, dI) vwCl (wL cy cJ a o v f) H := xj_keep hP hD (rng 0 204) hC hP1 hk1
    obtain ⟨rfl, hqx⟩ := hqx
    refine vx_catch (own := RL) (name := eA) hown [] ⟨0, 8, 11, 21⟩ [] (by rw [htab]; rfl) (fun z hz => by cases hz) (by decide) (by decide) (hts (Cond.classLink RL 21 "java/lang/IllegalArgumentException") (List.mem_cons_of_mem _ (List.mem_append_left _ (List.mem_append_left _ (List.mem_append_left _ (List.mem_append_left _ (List.mem_append_left _ (List.mem_append_left _ (List.mem_append_left _ (List.mem_of_getElem? (i := 0) rfl)))))))))) (va_Nw.use rfl (hE.1.2.2.2.1 _ (List.mem_of_getElem? (i := 1) rfl))) hce hcv hcl ?_
    refine lv_astore_n (lv' := [(2, .ref q9), (0, .ref (a 0)), (1, .ref o)]) hx hb dL_plans_11 rfl hl (by decide) rfl (fun ls hl => ?_)
    refine lv_iconst (v := 1) hx hb dL_plans_12 (by decide) ?_
    exact vx_ret (W.iret (v := 1) hx hb hr (fun t ht hW => ⟨⟨1, (v, f), rfl, hqx, by rw [ht]; exact hP, hD⟩, hS.F ht⟩) hS.2.2 dL_plans_13)
  · obtain ⟨z_lawn, z_saved, z_savedCount, z_savedR, z_text⟩ := u9
    obtain ⟨hP1, -, hD1⟩ := hB
    rw [ht] at hP1
    obtain ⟨hP, hD⟩ := xj hP hD (rng 0 204) (wX6 cy a (z_lawn, (X6_snapshot v), (X6_trial v), z_savedR, z_saved, z_text, (X6_survey v), (X6_paths v), (X6_snapshotTaken v), z_savedCount, (X6_spareR v))) (ws' := wL cy cJ a o (z_lawn, (X6_snapshot v), (X6_trial v), z_savedR, z_saved, z_text, (X6_survey v), (X6_paths v), (X6_snapshotTaken v), z_savedCount, (X6_spareR v)) f) hC wX6_fst (xS_left wX6_len wX6_len) hk1 hFc hP1
    refine lv_i2l hx hb dL_plans_6 rfl ?_
    refine va_last hx hb hK hP hD hS 204 4 wL_J0 rfl vin01 dL_plans_7 (fun H locs hP hD hS => ?_)
    rw [wL_set] at hP hD
    refine lv_goto (tgt := 14) hx hb dL_plans_8 (by decide) ?_
    refine lv_iconst (v := 0) hx hb dL_plans_14 (by decide) ?_
    exact vx_ret (W.iret (v := 0) hx hb hr (fun t ht hW => ⟨⟨0, ((z_lawn, (X6_snapshot v), (X6_trial v), z_savedR, z_saved, z_text, (X6_survey v), (X6_paths v), (X6_snapshotTaken v), z_savedCount, (X6_spareR v)), _), rfl, hq, by rw [ht]; exact hP, hD⟩, hS.F ht⟩) hS.2.2 dL_plans_15)
