set_option maxHeartbeats 8000000 in
set_option maxRecDepth 100000 in
theorem c_X3_init (l : Launch) (dC : Nat → ClassId) (dI : Nat → Nat → Nat) (cy : Nat → ClassId) (q0 : Nat) (sz : Nat) : Met l yX3_init wsX3_init ({ frames := 1, cells := 2, slots := 1536, locals := 12 } : Room) (va_Pc [.ref q0] (xPre dC dI cy [(q0, .inr (3, [.null, .null, .int 0, .int 0]))] sz)) (va_Qv (fun (a : Nat → Nat) => a 0 = q0) (fun a t => xAt dC dI cy (va_A [(q0, .inr (3, [.null, .null, .int 0, .int 0]))] sz) (wX3 cy a v0_X3) t) (va_A [(q0, .inr (3, [.null, .null, .int 0, .int 0]))] sz)) 2 1536 (va_A [(q0, .inr (3, [.null, .null, .int 0, .int 0]))] sz) := by
  refine Met.ofW (cc := cX3_init) (maxL := 1) (ret := none) (by decide) rfl ?_
  intro p e s m args below meth c s₁ B hml hv
  obtain ⟨rfl, hsz, hP, hK, hD0⟩ := hv
  have hx := B.exec
  have hb := B.bytes
  have hr := B.returns
  have hts := atoms_spec (ws := wsX3_init) B.pre
  have hown : s.vm.findClass RX3 = some m.cls := findClass_of_methodNamed B.named
  have hlocks := B.notSynchronized
  have hin : meth.name = "<init>" := (name_of_methodNamed B.named B.method).1
  subst hsz
  have hD := hD0.self (sz := s.heap.size)
  generalize hAe : va_A [(q0, .inr (3, [.null, .null, .int 0, .int 0]))] s.heap.size = A at hD ⊢
  have hAe0 : ∀ q : Nat, s.heap.size ≤ q → A q := fun q h => by rw [← hAe]; exact Or.inr h
  have hS : va_S A s.heap s.heap [] := va_S.rf
  have hl := lv_entry ([.ref q0]) (n := 1) (Nat.le_of_ble_eq_true rfl)
  rw [lg_entry_eq]
  generalize (lg_sl ([.ref q0]) ++ List.replicate (1 - (lg_sl ([.ref q0])).length) Slot.unset).toArray = ls at hl ⊢
  have hl : lv_has ls 1 [(0, .ref q0)] := hl
  refine lv_aload_n hx hb dX3_init_0 rfl (lv_at hl 0 rfl) ?_
  refine W.objInit hx hb hown (hts (Cond.methodLink RX3 3 objectInit) (List.mem_cons_of_mem _ (List.mem_append_left _ (List.mem_of_getElem? (i := 0) rfl)))) (hts (Cond.instanceMethod objectInit) (List.mem_cons_of_mem _ (List.mem_append_left _ (List.mem_of_getElem? (i := 1) rfl)))) (hts (Cond.code objectInit ⟨#[0xb1]⟩ 1 none) (List.mem_cons_of_mem _ (List.mem_append_left _ (List.mem_of_getElem? (i := 2) rfl)))) rfl (by rw [hml]; exact hl.1) rfl dX3_init_1 (Nat.le_of_ble_eq_true rfl) (Nat.le_of_ble_eq_true rfl) ?_
  refine W.eq (g2 := F0 m 4 ls []) rfl ?_
  refine lv_aload_n hx hb dX3_init_4 rfl (lv_at hl 0 rfl) ?_
  refine lv_sipush (v := 1024) hx hb dX3_init_5 (by decide) ?_
  refine va_newa (atype := .int) (ty := .int) (a0 := (1024, .inl (fun _ => 0))) hx hb (hts (Cond.arrayClass .int) (List.mem_cons_of_mem _ (List.mem_append_left _ (List.mem_of_getElem? (i := 3) rfl)))) rfl hK hP hD hS hAe0 (fun _ => rfl) (by decide) (by decide) (Nat.le_of_ble_eq_true rfl) (Nat.le_of_ble_eq_true rfl) (Nat.le_of_ble_eq_true rfl) dX3_init_8 (fun q8 cA H hK9 hP hD hS => ?_)
  obtain rfl := xcy (i := 4) (j := 0) hK9 rfl rfl
  have hP : va_P (dC, dI) vwCl (([(q0, .inr (3, [.null, .null, .int 0, .int 0]))] : va_W) ++ ([(q8, .inl (cy 0, 1024, .inl (fun _ => 0)))] : va_W)) H := hP
  have hD : va_D A (([(q0, .inr (3, [.null, .null, .int 0, .int 0]))] : va_W) ++ ([(q8, .inl (cy 0, 1024, .inl (fun _ => 0)))] : va_W)) := hD
  refine va_putF (D := (dC, dI)) (ci := 3) (v := .ref q8) (ty := (.array .int)) (C := RX3) (T := TX3) (N := 4) hx hb hts (fun _ h => (List.mem_cons_of_mem _ (List.mem_append_right _ h))) tyX3 tyX3_ok nmX3 hown hK hP hD hS 0 rfl rfl 0 (by decide) (hts (Cond.fieldLink RX3 9 "MolesLawn$Rows" "cells" "[I") (List.mem_cons_of_mem _ (List.mem_append_left _ (List.mem_of_getElem? (i := 4) rfl)))) (fun _ h9 => h9) rfl hin rfl (by decide +kernel) rfl rfl (Nat.le_of_ble_eq_true rfl) dX3_init_10 (fun H locs hP hD hS => ?_)
  have hP : va_P (dC, dI) vwCl (([(q0, .inr (3, [.ref q8, .null, .int 0, .int 0]))] : va_W) ++ ([(q8, .inl (cy 0, 1024, .inl (fun _ => 0)))] : va_W)) H := hP
  have hD : va_D A (([(q0, .inr (3, [.ref q8, .null, .int 0, .int 0]))] : va_W) ++ ([(q8, .inl (cy 0, 1024, .inl (fun _ => 0)))] : va_W)) := hD
  refine lv_aload_n hx hb dX3_init_13 rfl (lv_at hl 0 rfl) ?_
  refine lv_sipush (v := 512) hx hb dX3_init_14 (by decide) ?_
  refine va_newa (atype := .int) (ty := .int) (a0 := (512, .inl (fun _ => 0))) hx hb (hts (Cond.arrayClass .int) (List.mem_cons_of_mem _ (List.mem_append_left _ (List.mem_of_getElem? (i := 3) rfl)))) rfl hK hP hD hS hAe0 (fun _ => rfl) (by decide) (by decide) (Nat.le_of_ble_eq_true rfl) (Nat.le_of_ble_eq_true rfl) (Nat.le_of_ble_eq_true rfl) dX3_init_17 (fun q17 cA H hK9 hP hD hS => ?_)
  obtain rfl := xcy (i := 4) (j := 0) hK9 rfl rfl
  have hP : va_P (dC, dI) vwCl ((([(q0, .inr (3, [.ref q8, .null, .int 0, .int 0]))] : va_W) ++ ([(q8, .inl (cy 0, 1024, .inl (fun _ => 0)))] : va_W)) ++ ([(q17, .inl (cy 0, 512, .inl (fun _ => 0)))] : va_W)) H := hP
  have hD : va_D A ((([(q0, .inr (3, [.ref q8, .null, .int 0, .int 0]))] : va_W) ++ ([(q8, .inl (cy 0, 1024, .inl (fun _ => 0)))] : va_W)) ++ ([(q17, .inl (cy 0, 512, .inl (fun _ => 0)))] : va_W)) := hD
  refine va_putF (D := (dC, dI)) (ci := 3) (v := .ref q17) (ty := (.array .int)) (C := RX3) (T := TX3) (N := 4) hx hb hts (fun _ h => (List.mem_cons_of_mem _ (List.mem_append_right _ h))) tyX3 tyX3_ok nmX3 hown hK hP hD hS 0 rfl rfl 1 (by decide) (hts (Cond.fieldLink RX3 15 "MolesLawn$Rows" "ends" "[I") (List.mem_cons_of_mem _ (List.mem_append_left _ (List.mem_of_getElem? (i := 5) rfl)))) (fun _ h9 => h9) rfl hin rfl (by decide +kernel) rfl rfl (Nat.le_of_ble_eq_true rfl) dX3_init_19 (fun H locs hP hD hS => ?_)
  have hP : va_P (dC, dI) vwCl ((([(q0, .inr (3, [.ref q8, .ref q17, .int 0, .int 0]))] : va_W) ++ ([(q8, .inl (cy 0, 1024, .inl (fun _ => 0)))] : va_W)) ++ ([(q17, .inl (cy 0, 512, .inl (fun _ => 0)))] : va_W)) H := hP
  have hD : va_D A ((([(q0, .inr (3, [.ref q8, .ref q17, .int 0, .int 0]))] : va_W) ++ ([(q8, .inl (cy 0, 1024, .inl (fun _ => 0)))] : va_W)) ++ ([(q17, .inl (cy 0, 512, .inl (fun _ => 0)))] : va_W)) := hD
  obtain ⟨aa, eaa⟩ : ∃ z : Nat → Nat, z = adr [(1, fun _ => q0), (1, fun _ => q8), (1, fun _ => q17)] := ⟨_, rfl⟩
  have e0 : aa 0 = q0 := by rw [eaa]; rfl
  have hP : va_P (dC, dI) vwCl (wX3 cy aa v0_X3) H := by subst eaa; exact hP
  have hD : va_D A (wX3 cy aa v0_X3) := by subst eaa; exact hD
  refine W.widen (k := 2) (n := 1536) (Nat.le_of_ble_eq_true rfl) (Nat.le_of_ble_eq_true rfl) ?_
  exact W.vret hx hb hr (fun t ht hW => ⟨⟨aa, rfl, e0, xAt_of hP hK hD ht hW⟩, hS.F ht⟩) hS.2.2 dX3_init_22
set_option maxHeartbeats 8000000 in
set_option maxRecDepth 100000 in
theorem c_X1_init (l : Launch) (dC : Nat → ClassId) (dI : Nat → Nat → Nat) (cy : Nat → ClassId) (q0 : Nat) (sz : Nat) : Met l yX1_init wsX1_init ({ frames := 1, cells := 2, slots := 41, locals := 12 } : Room) (va_Pc [.ref q0] (xPre dC dI cy [(q0, .inr (1, [.null, .null, .int 0, .int 0, .int 0, .int 0, .int 0]))] sz)) (va_Qv (fun (a : Nat → Nat) => a 0 = q0) (fun a t => xAt dC dI cy (va_A [(q0, .inr (1, [.null, .null, .int 0, .int 0, .int 0, .int 0, .int 0]))] sz) (wX1 cy a v0_X1) t) (va_A [(q0, .inr (1, [.null, .null, .int 0, .int 0, .int 0, .int 0, .int 0]))] sz)) 2 41 (va_A [(q0, .inr (1, [.null, .null, .int 0, .int 0, .int 0, .int 0, .int 0]))] sz) := by
  refine Met.ofW (cc := cX1_init) (maxL := 1) (ret := none) (by decide) rfl ?_
  intro p e s m args below meth c s₁ B hml hv
  obtain ⟨rfl, hsz, hP, hK, hD0⟩ := hv
  have hx := B.exec
  have hb := B.bytes
  have hr := B.returns
  have hts := atoms_spec (ws := wsX1_init) B.pre
  have hown : s.vm.findClass RX1 = some m.cls := findClass_of_methodNamed B.named
  have hlocks := B.notSynchronized
  have hin : meth.name = "<init>" := (name_of_methodNamed B.named B.method).1
  subst hsz
  have hD := hD0.self (sz := s.heap.size)
  generalize hAe : va_A [(q0, .inr (1, [.null, .null, .int 0, .int 0, .int 0, .int 0, .int 0]))] s.heap.size = A at hD ⊢
  have hAe0 : ∀ q : Nat, s.heap.size ≤ q → A q := fun q h => by rw [← hAe]; exact Or.inr h
  have hS : va_S A s.heap s.heap [] := va_S.rf
  have hl := lv_entry ([.ref q0]) (n := 1) (Nat.le_of_ble_eq_true rfl)
  rw [lg_entry_eq]
  generalize (lg_sl ([.ref q0]) ++ List.replicate (1 - (lg_sl ([.ref q0])).length) Slot.unset).toArray = ls at hl ⊢
  have hl : lv_has ls 1 [(0, .ref q0)] := hl
  refine lv_aload_n hx hb dX1_init_0 rfl (lv_at hl 0 rfl) ?_
  refine W.objInit hx hb hown (hts (Cond.methodLink RX1 3 objectInit) (List.mem_cons_of_mem _ (List.mem_append_left _ (List.mem_of_getElem? (i := 0) rfl)))) (hts (Cond.instanceMethod objectInit) (List.mem_cons_of_mem _ (List.mem_append_left _ (List.mem_of_getElem? (i := 1) rfl)))) (hts (Cond.code objectInit ⟨#[0xb1]⟩ 1 none) (List.mem_cons_of_mem _ (List.mem_append_left _ (List.mem_of_getElem? (i := 2) rfl)))) rfl (by rw [hml]; exact hl.1) rfl dX1_init_1 (Nat.le_of_ble_eq_true rfl) (Nat.le_of_ble_eq_true rfl) ?_
  refine W.eq (g2 := F0 m 4 ls []) rfl ?_
  refine lv_aload_n hx hb dX1_init_4 rfl (lv_at hl 0 rfl) ?_
  refine lv_bipush (v := 20) hx hb dX1_init_5 (by decide) ?_
  refine va_newa (atype := .int) (ty := .int) (a0 := (20, .inl (fun _ => 0))) hx hb (hts (Cond.arrayClass .int) (List.mem_cons_of_mem _ (List.mem_append_left _ (List.mem_of_getElem? (i := 3) rfl)))) rfl hK hP hD hS hAe0 (fun _ => rfl) (by decide) (by decide) (Nat.le_of_ble_eq_true rfl) (Nat.le_of_ble_eq_true rfl) (Nat.le_of_ble_eq_true rfl) dX1_init_7 (fun q7 cA H hK9 hP hD hS => ?_)
  obtain rfl := xcy (i := 4) (j := 0) hK9 rfl rfl
  have hP : va_P (dC, dI) vwCl (([(q0, .inr (1, [.null, .null, .int 0, .int 0, .int 0, .int 0, .int 0]))] : va_W) ++ ([(q7, .inl (cy 0, 20, .inl (fun _ => 0)))] : va_W)) H := hP
  have hD : va_D A (([(q0, .inr (1, [.null, .null, .int 0, .int 0, .int 0, .int 0, .int 0]))] : va_W) ++ ([(q7, .inl (cy 0, 20, .inl (fun _ => 0)))] : va_W)) := hD
  refine va_putF (D := (dC, dI)) (ci := 1) (v := .ref q7) (ty := (.array .int)) (C := RX1) (T := TX1) (N := 7) hx hb hts (fun _ h => (List.mem_cons_of_mem _ (List.mem_append_right _ h))) tyX1 tyX1_ok nmX1 hown hK hP hD hS 0 rfl rfl 0 (by decide) (hts (Cond.fieldLink RX1 9 "MolesLawn$Mole" "directions" "[I") (List.mem_cons_of_mem _ (List.mem_append_left _ (List.mem_of_getElem? (i := 4) rfl)))) (fun _ h9 => h9) rfl hin rfl (by decide +kernel) rfl rfl (Nat.le_of_ble_eq_true rfl) dX1_init_9 (fun H locs hP hD hS => ?_)
  have hP : va_P (dC, dI) vwCl (([(q0, .inr (1, [.ref q7, .null, .int 0, .int 0, .int 0, .int 0, .int 0]))] : va_W) ++ ([(q7, .inl (cy 0, 20, .inl (fun _ => 0)))] : va_W)) H := hP
  have hD : va_D A (([(q0, .inr (1, [.ref q7, .null, .int 0, .int 0, .int 0, .int 0, .int 0]))] : va_W) ++ ([(q7, .inl (cy 0, 20, .inl (fun _ => 0)))] : va_W)) := hD
  refine lv_aload_n hx hb dX1_init_12 rfl (lv_at hl 0 rfl) ?_
  refine lv_bipush (v := 21) hx hb dX1_init_13 (by decide) ?_
  refine va_newa (atype := .int) (ty := .int) (a0 := (21, .inl (fun _ => 0))) hx hb (hts (Cond.arrayClass .int) (List.mem_cons_of_mem _ (List.mem_append_left _ (List.mem_of_getElem? (i := 3) rfl)))) rfl hK hP hD hS hAe0 (fun _ => rfl) (by decide) (by decide) (Nat.le_of_ble_eq_true rfl) (Nat.le_of_ble_eq_true rfl) (Nat.le_of_ble_eq_true rfl) dX1_init_15 (fun q15 cA H hK9 hP hD hS => ?_)
  obtain rfl := xcy (i := 4) (j := 0) hK9 rfl rfl
  have hP : va_P (dC, dI) vwCl ((([(q0, .inr (1, [.ref q7, .null, .int 0, .int 0, .int 0, .int 0, .int 0]))] : va_W) ++ ([(q7, .inl (cy 0, 20, .inl (fun _ => 0)))] : va_W)) ++ ([(q15, .inl (cy 0, 21, .inl (fun _ => 0)))] : va_W)) H := hP
  have hD : va_D A ((([(q0, .inr (1, [.ref q7, .null, .int 0, .int 0, .int 0, .int 0, .int 0]))] : va_W) ++ ([(q7, .inl (cy 0, 20, .inl (fun _ => 0)))] : va_W)) ++ ([(q15, .inl (cy 0, 21, .inl (fun _ => 0)))] : va_W)) := hD
  refine va_putF (D := (dC, dI)) (ci := 1) (v := .ref q15) (ty := (.array .int)) (C := RX1) (T := TX1) (N := 7) hx hb hts (fun _ h => (List.mem_cons_of_mem _ (List.mem_append_right _ h))) tyX1 tyX1_ok nmX1 hown hK hP hD hS 0 rfl rfl 1 (by decide) (hts (Cond.fieldLink RX1 15 "MolesLawn$Mole" "trail" "[I") (List.mem_cons_of_mem _ (List.mem_append_left _ (List.mem_of_getElem? (i := 5) rfl)))) (fun _ h9 => h9) rfl hin rfl (by decide +kernel) rfl rfl (Nat.le_of_ble_eq_true rfl) dX1_init_17 (fun H locs hP hD hS => ?_)
  have hP : va_P (dC, dI) vwCl ((([(q0, .inr (1, [.ref q7, .ref q15, .int 0, .int 0, .int 0, .int 0, .int 0]))] : va_W) ++ ([(q7, .inl (cy 0, 20, .inl (fun _ => 0)))] : va_W)) ++ ([(q15, .inl (cy 0, 21, .inl (fun _ => 0)))] : va_W)) H := hP
  have hD : va_D A ((([(q0, .inr (1, [.ref q7, .ref q15, .int 0, .int 0, .int 0, .int 0, .int 0]))] : va_W) ++ ([(q7, .inl (cy 0, 20, .inl (fun _ => 0)))] : va_W)) ++ ([(q15, .inl (cy 0, 21, .inl (fun _ => 0)))] : va_W)) := hD
  refine lv_aload_n hx hb dX1_init_20 rfl (lv_at hl 0 rfl) ?_
  refine lv_iconst (v := 1) hx hb dX1_init_21 (by decide) ?_
  refine va_put (D := (dC, dI)) (ci := 1) (v := .int 1) (ty := .int) (C := RX1) (T := TX1) (N := 7) hx hb hts (fun _ h => (List.mem_cons_of_mem _ (List.mem_append_right _ h))) tyX1 tyX1_ok nmX1 hown hK hP hD hS 0 rfl rfl 3 (by decide) (hts (Cond.fieldLink RX1 18 "MolesLawn$Mole" "trailLength" "I") (List.mem_cons_of_mem _ (List.mem_append_left _ (List.mem_of_getElem? (i := 6) rfl)))) (fun _ h9 => h9) rfl (by decide +kernel) rfl rfl (Nat.le_of_ble_eq_true rfl) dX1_init_22 (fun H locs hP hD hS => ?_)
  have hP : va_P (dC, dI) vwCl ((([(q0, .inr (1, [.ref q7, .ref q15, .int 0, .int 1, .int 0, .int 0, .int 0]))] : va_W) ++ ([(q7, .inl (cy 0, 20, .inl (fun _ => 0)))] : va_W)) ++ ([(q15, .inl (cy 0, 21, .inl (fun _ => 0)))] : va_W)) H := hP
  have hD : va_D A ((([(q0, .inr (1, [.ref q7, .ref q15, .int 0, .int 1, .int 0, .int 0, .int 0]))] : va_W) ++ ([(q7, .inl (cy 0, 20, .inl (fun _ => 0)))] : va_W)) ++ ([(q15, .inl (cy 0, 21, .inl (fun _ => 0)))] : va_W)) := hD
  obtain ⟨aa, eaa⟩ : ∃ z : Nat → Nat, z = adr [(1, fun _ => q0), (1, fun _ => q7), (1, fun _ => q15)] := ⟨_, rfl⟩
  have e0 : aa 0 = q0 := by rw [eaa]; rfl
  have hP : va_P (dC, dI) vwCl (wX1 cy aa v0_X1) H := by subst eaa; exact hP
  have hD : va_D A (wX1 cy aa v0_X1) := by subst eaa; exact hD
  refine W.widen (k := 2) (n := 41) (Nat.le_of_ble_eq_true rfl) (Nat.le_of_ble_eq_true rfl) ?_
  exact W.vret hx hb hr (fun t ht hW => ⟨⟨aa, rfl, e0, xAt_of hP hK hD ht hW⟩, hS.F ht⟩) hS.2.2 dX1_init_25
set_option maxHeartbeats 8000000 in
set_option maxRecDepth 100000 in
theorem c_X2_init (l : Launch) (dC : Nat → ClassId) (dI : Nat → Nat → Nat) (cy : Nat → ClassId) (q0 : Nat) (sz : Nat) : Met l yX2_init wsX2_init ({ frames := 1, cells := 2, slots := 128, locals := 12 } : Room) (va_Pc [.ref q0] (xPre dC dI cy [(q0, .inr (2, [.null, .null]))] sz)) (va_Qv (fun (a : Nat → Nat) => a 0 = q0) (fun a t => xAt dC dI cy (va_A [(q0, .inr (2, [.null, .null]))] sz) (wX2 cy a v0_X2) t) (va_A [(q0, .inr (2, [.null, .null]))] sz)) 2 128 (va_A [(q0, .inr (2, [.null, .null]))] sz) := by
  refine Met.ofW (cc := cX2_init) (maxL := 1) (ret := none) (by decide) rfl ?_
  intro p e s m args below meth c s₁ B hml hv
  obtain ⟨rfl, hsz, hP, hK, hD0⟩ := hv
  have hx := B.exec
  have hb := B.bytes
  have hr := B.returns
  have hts := atoms_spec (ws := wsX2_init) B.pre
  have hown : s.vm.findClass RX2 = some m.cls := findClass_of_methodNamed B.named
  have hlocks := B.notSynchronized
  have hin : meth.name = "<init>" := (name_of_methodNamed B.named B.method).1
  subst hsz
  have hD := hD0.self (sz := s.heap.size)
  generalize hAe : va_A [(q0, .inr (2, [.null, .null]))] s.heap.size = A at hD ⊢
  have hAe0 : ∀ q : Nat, s.heap.size ≤ q → A q := fun q h => by rw [← hAe]; exact Or.inr h
  have hS : va_S A s.heap s.heap [] := va_S.rf
  have hl := lv_entry ([.ref q0]) (n := 1) (Nat.le_of_ble_eq_true rfl)
  rw [lg_entry_eq]
  generalize (lg_sl ([.ref q0]) ++ List.replicate (1 - (lg_sl ([.ref q0])).length) Slot.unset).toArray = ls at hl ⊢
  have hl : lv_has ls 1 [(0, .ref q0)] := hl
  refine lv_aload_n hx hb dX2_init_0 rfl (lv_at hl 0 rfl) ?_
  refine W.objInit hx hb hown (hts (Cond.methodLink RX2 3 objectInit) (List.mem_cons_of_mem _ (List.mem_append_left _ (List.mem_of_getElem? (i := 0) rfl)))) (hts (Cond.instanceMethod objectInit) (List.mem_cons_of_mem _ (List.mem_append_left _ (List.mem_of_getElem? (i := 1) rfl)))) (hts (Cond.code objectInit ⟨#[0xb1]⟩ 1 none) (List.mem_cons_of_mem _ (List.mem_append_left _ (List.mem_of_getElem? (i := 2) rfl)))) rfl (by rw [hml]; exact hl.1) rfl dX2_init_1 (Nat.le_of_ble_eq_true rfl) (Nat.le_of_ble_eq_true rfl) ?_
  refine W.eq (g2 := F0 m 4 ls []) rfl ?_
  refine lv_aload_n hx hb dX2_init_4 rfl (lv_at hl 0 rfl) ?_
  refine lv_bipush (v := 64) hx hb dX2_init_5 (by decide) ?_
  refine va_newa (atype := .int) (ty := .int) (a0 := (64, .inl (fun _ => 0))) hx hb (hts (Cond.arrayClass .int) (List.mem_cons_of_mem _ (List.mem_append_left _ (List.mem_of_getElem? (i := 3) rfl)))) rfl hK hP hD hS hAe0 (fun _ => rfl) (by decide) (by decide) (Nat.le_of_ble_eq_true rfl) (Nat.le_of_ble_eq_true rfl) (Nat.le_of_ble_eq_true rfl) dX2_init_7 (fun q7 cA H hK9 hP hD hS => ?_)
  obtain rfl := xcy (i := 4) (j := 0) hK9 rfl rfl
  have hP : va_P (dC, dI) vwCl (([(q0, .inr (2, [.null, .null]))] : va_W) ++ ([(q7, .inl (cy 0, 64, .inl (fun _ => 0)))] : va_W)) H := hP
  have hD : va_D A (([(q0, .inr (2, [.null, .null]))] : va_W) ++ ([(q7, .inl (cy 0, 64, .inl (fun _ => 0)))] : va_W)) := hD
  refine va_putF (D := (dC, dI)) (ci := 2) (v := .ref q7) (ty := (.array .int)) (C := RX2) (T := TX2) (N := 2) hx hb hts (fun _ h => (List.mem_cons_of_mem _ (List.mem_append_right _ h))) tyX2 tyX2_ok nmX2 hown hK hP hD hS 0 rfl rfl 0 (by decide) (hts (Cond.fieldLink RX2 9 "MolesLawn$Paths" "distance" "[I") (List.mem_cons_of_mem _ (List.mem_append_left _ (List.mem_of_getElem? (i := 4) rfl)))) (fun _ h9 => h9) rfl hin rfl (by decide +kernel) rfl rfl (Nat.le_of_ble_eq_true rfl) dX2_init_9 (fun H locs hP hD hS => ?_)
  have hP : va_P (dC, dI) vwCl (([(q0, .inr (2, [.ref q7, .null]))] : va_W) ++ ([(q7, .inl (cy 0, 64, .inl (fun _ => 0)))] : va_W)) H := hP
  have hD : va_D A (([(q0, .inr (2, [.ref q7, .null]))] : va_W) ++ ([(q7, .inl (cy 0, 64, .inl (fun _ => 0)))] : va_W)) := hD
  refine lv_aload_n hx hb dX2_init_12 rfl (lv_at hl 0 rfl) ?_
  refine lv_bipush (v := 64) hx hb dX2_init_13 (by decide) ?_
  refine va_newa (atype := .int) (ty := .int) (a0 := (64, .inl (fun _ => 0))) hx hb (hts (Cond.arrayClass .int) (List.mem_cons_of_mem _ (List.mem_append_left _ (List.mem_of_getElem? (i := 3) rfl)))) rfl hK hP hD hS hAe0 (fun _ => rfl) (by decide) (by decide) (Nat.le_of_ble_eq_true rfl) (Nat.le_of_ble_eq_true rfl) (Nat.le_of_ble_eq_true rfl) dX2_init_15 (fun q15 cA H hK9 hP hD hS => ?_)
  obtain rfl := xcy (i := 4) (j := 0) hK9 rfl rfl
  have hP : va_P (dC, dI) vwCl ((([(q0, .inr (2, [.ref q7, .null]))] : va_W) ++ ([(q7, .inl (cy 0, 64, .inl (fun _ => 0)))] : va_W)) ++ ([(q15, .inl (cy 0, 64, .inl (fun _ => 0)))] : va_W)) H := hP
  have hD : va_D A ((([(q0, .inr (2, [.ref q7, .null]))] : va_W) ++ ([(q7, .inl (cy 0, 64, .inl (fun _ => 0)))] : va_W)) ++ ([(q15, .inl (cy 0, 64, .inl (fun _ => 0)))] : va_W)) := hD
  refine va_putF (D := (dC, dI)) (ci := 2) (v := .ref q15) (ty := (.array .int)) (C := RX2) (T := TX2) (N := 2) hx hb hts (fun _ h => (List.mem_cons_of_mem _ (List.mem_append_right _ h))) tyX2 tyX2_ok nmX2 hown hK hP hD hS 0 rfl rfl 1 (by decide) (hts (Cond.fieldLink RX2 15 "MolesLawn$Paths" "group" "[I") (List.mem_cons_of_mem _ (List.mem_append_left _ (List.mem_of_getElem? (i := 5) rfl)))) (fun _ h9 => h9) rfl hin rfl (by decide +kernel) rfl rfl (Nat.le_of_ble_eq_true rfl) dX2_init_17 (fun H locs hP hD hS => ?_)
  have hP : va_P (dC, dI) vwCl ((([(q0, .inr (2, [.ref q7, .ref q15]))] : va_W) ++ ([(q7, .inl (cy 0, 64, .inl (fun _ => 0)))] : va_W)) ++ ([(q15, .inl (cy 0, 64, .inl (fun _ => 0)))] : va_W)) H := hP
  have hD : va_D A ((([(q0, .inr (2, [.ref q7, .ref q15]))] : va_W) ++ ([(q7, .inl (cy 0, 64, .inl (fun _ => 0)))] : va_W)) ++ ([(q15, .inl (cy 0, 64, .inl (fun _ => 0)))] : va_W)) := hD
  obtain ⟨aa, eaa⟩ : ∃ z : Nat → Nat, z = adr [(1, fun _ => q0), (1, fun _ => q7), (1, fun _ => q15)] := ⟨_, rfl⟩
  have e0 : aa 0 = q0 := by rw [eaa]; rfl
  have hP : va_P (dC, dI) vwCl (wX2 cy aa v0_X2) H := by subst eaa; exact hP
  have hD : va_D A (wX2 cy aa v0_X2) := by subst eaa; exact hD
  refine W.widen (k := 2) (n := 128) (Nat.le_of_ble_eq_true rfl) (Nat.le_of_ble_eq_true rfl) ?_
  exact W.vret hx hb hr (fun t ht hW => ⟨⟨aa, rfl, e0, xAt_of hP hK hD ht hW⟩, hS.F ht⟩) hS.2.2 dX2_init_20
set_option maxHeartbeats 8000000 in
set_option maxRecDepth 100000 in
theorem c_X4_init (l : Launch) (dC : Nat → ClassId) (dI : Nat → Nat → Nat) (cy : Nat → ClassId) (q0 : Nat) (sz : Nat) : Met l yX4_init wsX4_init ({ frames := 1, cells := 4, slots := 256, locals := 12 } : Room) (va_Pc [.ref q0] (xPre dC dI cy [(q0, .inr (4, [.null, .null, .null, .null]))] sz)) (va_Qv (fun (a : Nat → Nat) => a 0 = q0) (fun a t => xAt dC dI cy (va_A [(q0, .inr (4, [.null, .null, .null, .null]))] sz) (wX4 cy a v0_X4) t) (va_A [(q0, .inr (4, [.null, .null, .null, .null]))] sz)) 4 256 (va_A [(q0, .inr (4, [.null, .null, .null, .null]))] sz) := by
  refine Met.ofW (cc := cX4_init) (maxL := 1) (ret := none) (by decide) rfl ?_
  intro p e s m args below meth c s₁ B hml hv
  obtain ⟨rfl, hsz, hP, hK, hD0⟩ := hv
  have hx := B.exec
  have hb := B.bytes
  have hr := B.returns
  have hts := atoms_spec (ws := wsX4_init) B.pre
  have hown : s.vm.findClass RX4 = some m.cls := findClass_of_methodNamed B.named
  have hlocks := B.notSynchronized
  have hin : meth.name = "<init>" := (name_of_methodNamed B.named B.method).1
  subst hsz
  have hD := hD0.self (sz := s.heap.size)
  generalize hAe : va_A [(q0, .inr (4, [.null, .null, .null, .null]))] s.heap.size = A at hD ⊢
  have hAe0 : ∀ q : Nat, s.heap.size ≤ q → A q := fun q h => by rw [← hAe]; exact Or.inr h
  have hS : va_S A s.heap s.heap [] := va_S.rf
  have hl := lv_entry ([.ref q0]) (n := 1) (Nat.le_of_ble_eq_true rfl)
  rw [lg_entry_eq]
  generalize (lg_sl ([.ref q0]) ++ List.replicate (1 - (lg_sl ([.ref q0])).length) Slot.unset).toArray = ls at hl ⊢
  have hl : lv_has ls 1 [(0, .ref q0)] := hl
  refine lv_aload_n hx hb dX4_init_0 rfl (lv_at hl 0 rfl) ?_
  refine W.objInit hx hb hown (hts (Cond.methodLink RX4 3 objectInit) (List.mem_cons_of_mem _ (List.mem_append_left _ (List.mem_of_getElem? (i := 0) rfl)))) (hts (Cond.instanceMethod objectInit) (List.mem_cons_of_mem _ (List.mem_append_left _ (List.mem_of_getElem? (i := 1) rfl)))) (hts (Cond.code objectInit ⟨#[0xb1]⟩ 1 none) (List.mem_cons_of_mem _ (List.mem_append_left _ (List.mem_of_getElem? (i := 2) rfl)))) rfl (by rw [hml]; exact hl.1) rfl dX4_init_1 (Nat.le_of_ble_eq_true rfl) (Nat.le_of_ble_eq_true rfl) ?_
  refine W.eq (g2 := F0 m 4 ls []) rfl ?_
  refine lv_aload_n hx hb dX4_init_4 rfl (lv_at hl 0 rfl) ?_
  refine lv_bipush (v := 64) hx hb dX4_init_5 (by decide) ?_
  refine va_newa (atype := .int) (ty := .int) (a0 := (64, .inl (fun _ => 0))) hx hb (hts (Cond.arrayClass .int) (List.mem_cons_of_mem _ (List.mem_append_left _ (List.mem_of_getElem? (i := 3) rfl)))) rfl hK hP hD hS hAe0 (fun _ => rfl) (by decide) (by decide) (Nat.le_of_ble_eq_true rfl) (Nat.le_of_ble_eq_true rfl) (Nat.le_of_ble_eq_true rfl) dX4_init_7 (fun q7 cA H hK9 hP hD hS => ?_)
  obtain rfl := xcy (i := 4) (j := 0) hK9 rfl rfl
  have hP : va_P (dC, dI) vwCl (([(q0, .inr (4, [.null, .null, .null, .null]))] : va_W) ++ ([(q7, .inl (cy 0, 64, .inl (fun _ => 0)))] : va_W)) H := hP
  have hD : va_D A (([(q0, .inr (4, [.null, .null, .null, .null]))] : va_W) ++ ([(q7, .inl (cy 0, 64, .inl (fun _ => 0)))] : va_W)) := hD
  refine va_putF (D := (dC, dI)) (ci := 4) (v := .ref q7) (ty := (.array .int)) (C := RX4) (T := TX4) (N := 4) hx hb hts (fun _ h => (List.mem_cons_of_mem _ (List.mem_append_right _ h))) tyX4 tyX4_ok nmX4 hown hK hP hD hS 0 rfl rfl 0 (by decide) (hts (Cond.fieldLink RX4 9 "MolesLawn$Survey" "hollow" "[I") (List.mem_cons_of_mem _ (List.mem_append_left _ (List.mem_of_getElem? (i := 4) rfl)))) (fun _ h9 => h9) rfl hin rfl (by decide +kernel) rfl rfl (Nat.le_of_ble_eq_true rfl) dX4_init_9 (fun H locs hP hD hS => ?_)
  have hP : va_P (dC, dI) vwCl (([(q0, .inr (4, [.ref q7, .null, .null, .null]))] : va_W) ++ ([(q7, .inl (cy 0, 64, .inl (fun _ => 0)))] : va_W)) H := hP
  have hD : va_D A (([(q0, .inr (4, [.ref q7, .null, .null, .null]))] : va_W) ++ ([(q7, .inl (cy 0, 64, .inl (fun _ => 0)))] : va_W)) := hD
  refine lv_aload_n hx hb dX4_init_12 rfl (lv_at hl 0 rfl) ?_
  refine lv_bipush (v := 64) hx hb dX4_init_13 (by decide) ?_
  refine va_newa (atype := .int) (ty := .int) (a0 := (64, .inl (fun _ => 0))) hx hb (hts (Cond.arrayClass .int) (List.mem_cons_of_mem _ (List.mem_append_left _ (List.mem_of_getElem? (i := 3) rfl)))) rfl hK hP hD hS hAe0 (fun _ => rfl) (by decide) (by decide) (Nat.le_of_ble_eq_true rfl) (Nat.le_of_ble_eq_true rfl) (Nat.le_of_ble_eq_true rfl) dX4_init_15 (fun q15 cA H hK9 hP hD hS => ?_)
  obtain rfl := xcy (i := 4) (j := 0) hK9 rfl rfl
  have hP : va_P (dC, dI) vwCl ((([(q0, .inr (4, [.ref q7, .null, .null, .null]))] : va_W) ++ ([(q7, .inl (cy 0, 64, .inl (fun _ => 0)))] : va_W)) ++ ([(q15, .inl (cy 0, 64, .inl (fun _ => 0)))] : va_W)) H := hP
  have hD : va_D A ((([(q0, .inr (4, [.ref q7, .null, .null, .null]))] : va_W) ++ ([(q7, .inl (cy 0, 64, .inl (fun _ => 0)))] : va_W)) ++ ([(q15, .inl (cy 0, 64, .inl (fun _ => 0)))] : va_W)) := hD
  refine va_putF (D := (dC, dI)) (ci := 4) (v := .ref q15) (ty := (.array .int)) (C := RX4) (T := TX4) (N := 4) hx hb hts (fun _ h => (List.mem_cons_of_mem _ (List.mem_append_right _ h))) tyX4 tyX4_ok nmX4 hown hK hP hD hS 0 rfl rfl 1 (by decide) (hts (Cond.fieldLink RX4 15 "MolesLawn$Survey" "crossings" "[I") (List.mem_cons_of_mem _ (List.mem_append_left _ (List.mem_of_getElem? (i := 5) rfl)))) (fun _ h9 => h9) rfl hin rfl (by decide +kernel) rfl rfl (Nat.le_of_ble_eq_true rfl) dX4_init_17 (fun H locs hP hD hS => ?_)
  have hP : va_P (dC, dI) vwCl ((([(q0, .inr (4, [.ref q7, .ref q15, .null, .null]))] : va_W) ++ ([(q7, .inl (cy 0, 64, .inl (fun _ => 0)))] : va_W)) ++ ([(q15, .inl (cy 0, 64, .inl (fun _ => 0)))] : va_W)) H := hP
  have hD : va_D A ((([(q0, .inr (4, [.ref q7, .ref q15, .null, .null]))] : va_W) ++ ([(q7, .inl (cy 0, 64, .inl (fun _ => 0)))] : va_W)) ++ ([(q15, .inl (cy 0, 64, .inl (fun _ => 0)))] : va_W)) := hD
  refine lv_aload_n hx hb dX4_init_20 rfl (lv_at hl 0 rfl) ?_
  refine lv_bipush (v := 64) hx hb dX4_init_21 (by decide) ?_
  refine va_newa (atype := .int) (ty := .int) (a0 := (64, .inl (fun _ => 0))) hx hb (hts (Cond.arrayClass .int) (List.mem_cons_of_mem _ (List.mem_append_left _ (List.mem_of_getElem? (i := 3) rfl)))) rfl hK hP hD hS hAe0 (fun _ => rfl) (by decide) (by decide) (Nat.le_of_ble_eq_true rfl) (Nat.le_of_ble_eq_true rfl) (Nat.le_of_ble_eq_true rfl) dX4_init_23 (fun q23 cA H hK9 hP hD hS => ?_)
  obtain rfl := xcy (i := 4) (j := 0) hK9 rfl rfl
  have hP : va_P (dC, dI) vwCl (((([(q0, .inr (4, [.ref q7, .ref q15, .null, .null]))] : va_W) ++ ([(q7, .inl (cy 0, 64, .inl (fun _ => 0)))] : va_W)) ++ ([(q15, .inl (cy 0, 64, .inl (fun _ => 0)))] : va_W)) ++ ([(q23, .inl (cy 0, 64, .inl (fun _ => 0)))] : va_W)) H := hP
  have hD : va_D A (((([(q0, .inr (4, [.ref q7, .ref q15, .null, .null]))] : va_W) ++ ([(q7, .inl (cy 0, 64, .inl (fun _ => 0)))] : va_W)) ++ ([(q15, .inl (cy 0, 64, .inl (fun _ => 0)))] : va_W)) ++ ([(q23, .inl (cy 0, 64, .inl (fun _ => 0)))] : va_W)) := hD
  refine va_putF (D := (dC, dI)) (ci := 4) (v := .ref q23) (ty := (.array .int)) (C := RX4) (T := TX4) (N := 4) hx hb hts (fun _ h => (List.mem_cons_of_mem _ (List.mem_append_right _ h))) tyX4 tyX4_ok nmX4 hown hK hP hD hS 0 rfl rfl 2 (by decide) (hts (Cond.fieldLink RX4 18 "MolesLawn$Survey" "sure" "[I") (List.mem_cons_of_mem _ (List.mem_append_left _ (List.mem_of_getElem? (i := 6) rfl)))) (fun _ h9 => h9) rfl hin rfl (by decide +kernel) rfl rfl (Nat.le_of_ble_eq_true rfl) dX4_init_25 (fun H locs hP hD hS => ?_)
  have hP : va_P (dC, dI) vwCl (((([(q0, .inr (4, [.ref q7, .ref q15, .ref q23, .null]))] : va_W) ++ ([(q7, .inl (cy 0, 64, .inl (fun _ => 0)))] : va_W)) ++ ([(q15, .inl (cy 0, 64, .inl (fun _ => 0)))] : va_W)) ++ ([(q23, .inl (cy 0, 64, .inl (fun _ => 0)))] : va_W)) H := hP
  have hD : va_D A (((([(q0, .inr (4, [.ref q7, .ref q15, .ref q23, .null]))] : va_W) ++ ([(q7, .inl (cy 0, 64, .inl (fun _ => 0)))] : va_W)) ++ ([(q15, .inl (cy 0, 64, .inl (fun _ => 0)))] : va_W)) ++ ([(q23, .inl (cy 0, 64, .inl (fun _ => 0)))] : va_W)) := hD
  refine lv_aload_n hx hb dX4_init_28 rfl (lv_at hl 0 rfl) ?_
  refine lv_bipush (v := 64) hx hb dX4_init_29 (by decide) ?_
  refine va_newa (atype := .int) (ty := .int) (a0 := (64, .inl (fun _ => 0))) hx hb (hts (Cond.arrayClass .int) (List.mem_cons_of_mem _ (List.mem_append_left _ (List.mem_of_getElem? (i := 3) rfl)))) rfl hK hP hD hS hAe0 (fun _ => rfl) (by decide) (by decide) (Nat.le_of_ble_eq_true rfl) (Nat.le_of_ble_eq_true rfl) (Nat.le_of_ble_eq_true rfl) dX4_init_31 (fun q31 cA H hK9 hP hD hS => ?_)
  obtain rfl := xcy (i := 4) (j := 0) hK9 rfl rfl
  have hP : va_P (dC, dI) vwCl ((((([(q0, .inr (4, [.ref q7, .ref q15, .ref q23, .null]))] : va_W) ++ ([(q7, .inl (cy 0, 64, .inl (fun _ => 0)))] : va_W)) ++ ([(q15, .inl (cy 0, 64, .inl (fun _ => 0)))] : va_W)) ++ ([(q23, .inl (cy 0, 64, .inl (fun _ => 0)))] : va_W)) ++ ([(q31, .inl (cy 0, 64, .inl (fun _ => 0)))] : va_W)) H := hP
  have hD : va_D A ((((([(q0, .inr (4, [.ref q7, .ref q15, .ref q23, .null]))] : va_W) ++ ([(q7, .inl (cy 0, 64, .inl (fun _ => 0)))] : va_W)) ++ ([(q15, .inl (cy 0, 64, .inl (fun _ => 0)))] : va_W)) ++ ([(q23, .inl (cy 0, 64, .inl (fun _ => 0)))] : va_W)) ++ ([(q31, .inl (cy 0, 64, .inl (fun _ => 0)))] : va_W)) := hD
  refine va_putF (D := (dC, dI)) (ci := 4) (v := .ref q31) (ty := (.array .int)) (C := RX4) (T := TX4) (N := 4) hx hb hts (fun _ h => (List.mem_cons_of_mem _ (List.mem_append_right _ h))) tyX4 tyX4_ok nmX4 hown hK hP hD hS 0 rfl rfl 3 (by decide) (hts (Cond.fieldLink RX4 21 "MolesLawn$Survey" "seenBy" "[I") (List.mem_cons_of_mem _ (List.mem_append_left _ (List.mem_of_getElem? (i := 7) rfl)))) (fun _ h9 => h9) rfl hin rfl (by decide +kernel) rfl rfl (Nat.le_of_ble_eq_true rfl) dX4_init_33 (fun H locs hP hD hS => ?_)
  have hP : va_P (dC, dI) vwCl ((((([(q0, .inr (4, [.ref q7, .ref q15, .ref q23, .ref q31]))] : va_W) ++ ([(q7, .inl (cy 0, 64, .inl (fun _ => 0)))] : va_W)) ++ ([(q15, .inl (cy 0, 64, .inl (fun _ => 0)))] : va_W)) ++ ([(q23, .inl (cy 0, 64, .inl (fun _ => 0)))] : va_W)) ++ ([(q31, .inl (cy 0, 64, .inl (fun _ => 0)))] : va_W)) H := hP
  have hD : va_D A ((((([(q0, .inr (4, [.ref q7, .ref q15, .ref q23, .ref q31]))] : va_W) ++ ([(q7, .inl (cy 0, 64, .inl (fun _ => 0)))] : va_W)) ++ ([(q15, .inl (cy 0, 64, .inl (fun _ => 0)))] : va_W)) ++ ([(q23, .inl (cy 0, 64, .inl (fun _ => 0)))] : va_W)) ++ ([(q31, .inl (cy 0, 64, .inl (fun _ => 0)))] : va_W)) := hD
  obtain ⟨aa, eaa⟩ : ∃ z : Nat → Nat, z = adr [(1, fun _ => q0), (1, fun _ => q7), (1, fun _ => q15), (1, fun _ => q23), (1, fun _ => q31)] := ⟨_, rfl⟩
  have e0 : aa 0 = q0 := by rw [eaa]; rfl
  have hP : va_P (dC, dI) vwCl (wX4 cy aa v0_X4) H := by subst eaa; exact hP
  have hD : va_D A (wX4 cy aa v0_X4) := by subst eaa; exact hD
  refine W.widen (k := 4) (n := 256) (Nat.le_of_ble_eq_true rfl) (Nat.le_of_ble_eq_true rfl) ?_
  exact W.vret hx hb hr (fun t ht hW => ⟨⟨aa, rfl, e0, xAt_of hP hK hD ht hW⟩, hS.F ht⟩) hS.2.2 dX4_init_36
set_option maxHeartbeats 8000000 in
set_option maxRecDepth 100000 in
theorem c_X5_init (l : Launch) (dC : Nat → ClassId) (dI : Nat → Nat → Nat) (cy : Nat → ClassId) (q0 : Nat) (sz : Nat) : Met l yX5_init wsX5_init ({ frames := 1, cells := 1, slots := 60, locals := 12 } : Room) (va_Pc [.ref q0] (xPre dC dI cy [(q0, .inr (5, [.null, .int 0]))] sz)) (va_Qv (fun (a : Nat → Nat) => a 0 = q0) (fun a t => xAt dC dI cy (va_A [(q0, .inr (5, [.null, .int 0]))] sz) (wX5 cy a v0_X5) t) (va_A [(q0, .inr (5, [.null, .int 0]))] sz)) 1 60 (va_A [(q0, .inr (5, [.null, .int 0]))] sz) := by
  refine Met.ofW (cc := cX5_init) (maxL := 1) (ret := none) (by decide) rfl ?_
  intro p e s m args below meth c s₁ B hml hv
  obtain ⟨rfl, hsz, hP, hK, hD0⟩ := hv
  have hx := B.exec
  have hb := B.bytes
  have hr := B.returns
  have hts := atoms_spec (ws := wsX5_init) B.pre
  have hown : s.vm.findClass RX5 = some m.cls := findClass_of_methodNamed B.named
  have hlocks := B.notSynchronized
  have hin : meth.name = "<init>" := (name_of_methodNamed B.named B.method).1
  subst hsz
  have hD := hD0.self (sz := s.heap.size)
  generalize hAe : va_A [(q0, .inr (5, [.null, .int 0]))] s.heap.size = A at hD ⊢
  have hAe0 : ∀ q : Nat, s.heap.size ≤ q → A q := fun q h => by rw [← hAe]; exact Or.inr h
  have hS : va_S A s.heap s.heap [] := va_S.rf
  have hl := lv_entry ([.ref q0]) (n := 1) (Nat.le_of_ble_eq_true rfl)
  rw [lg_entry_eq]
  generalize (lg_sl ([.ref q0]) ++ List.replicate (1 - (lg_sl ([.ref q0])).length) Slot.unset).toArray = ls at hl ⊢
  have hl : lv_has ls 1 [(0, .ref q0)] := hl
  refine lv_aload_n hx hb dX5_init_0 rfl (lv_at hl 0 rfl) ?_
  refine W.objInit hx hb hown (hts (Cond.methodLink RX5 3 objectInit) (List.mem_cons_of_mem _ (List.mem_append_left _ (List.mem_of_getElem? (i := 0) rfl)))) (hts (Cond.instanceMethod objectInit) (List.mem_cons_of_mem _ (List.mem_append_left _ (List.mem_of_getElem? (i := 1) rfl)))) (hts (Cond.code objectInit ⟨#[0xb1]⟩ 1 none) (List.mem_cons_of_mem _ (List.mem_append_left _ (List.mem_of_getElem? (i := 2) rfl)))) rfl (by rw [hml]; exact hl.1) rfl dX5_init_1 (Nat.le_of_ble_eq_true rfl) (Nat.le_of_ble_eq_true rfl) ?_
  refine W.eq (g2 := F0 m 4 ls []) rfl ?_
  refine lv_aload_n hx hb dX5_init_4 rfl (lv_at hl 0 rfl) ?_
  refine lv_bipush (v := 60) hx hb dX5_init_5 (by decide) ?_
  refine va_newa (atype := .int) (ty := .int) (a0 := (60, .inl (fun _ => 0))) hx hb (hts (Cond.arrayClass .int) (List.mem_cons_of_mem _ (List.mem_append_left _ (List.mem_of_getElem? (i := 3) rfl)))) rfl hK hP hD hS hAe0 (fun _ => rfl) (by decide) (by decide) (Nat.le_of_ble_eq_true rfl) (Nat.le_of_ble_eq_true rfl) (Nat.le_of_ble_eq_true rfl) dX5_init_7 (fun q7 cA H hK9 hP hD hS => ?_)
  obtain rfl := xcy (i := 4) (j := 0) hK9 rfl rfl
  have hP : va_P (dC, dI) vwCl (([(q0, .inr (5, [.null, .int 0]))] : va_W) ++ ([(q7, .inl (cy 0, 60, .inl (fun _ => 0)))] : va_W)) H := hP
  have hD : va_D A (([(q0, .inr (5, [.null, .int 0]))] : va_W) ++ ([(q7, .inl (cy 0, 60, .inl (fun _ => 0)))] : va_W)) := hD
  refine va_putF (D := (dC, dI)) (ci := 5) (v := .ref q7) (ty := (.array .int)) (C := RX5) (T := TX5) (N := 2) hx hb hts (fun _ h => (List.mem_cons_of_mem _ (List.mem_append_right _ h))) tyX5 tyX5_ok nmX5 hown hK hP hD hS 0 rfl rfl 0 (by decide) (hts (Cond.fieldLink RX5 9 "MolesLawn$Text" "codes" "[I") (List.mem_cons_of_mem _ (List.mem_append_left _ (List.mem_of_getElem? (i := 4) rfl)))) (fun _ h9 => h9) rfl hin rfl (by decide +kernel) rfl rfl (Nat.le_of_ble_eq_true rfl) dX5_init_9 (fun H locs hP hD hS => ?_)
  have hP : va_P (dC, dI) vwCl (([(q0, .inr (5, [.ref q7, .int 0]))] : va_W) ++ ([(q7, .inl (cy 0, 60, .inl (fun _ => 0)))] : va_W)) H := hP
  have hD : va_D A (([(q0, .inr (5, [.ref q7, .int 0]))] : va_W) ++ ([(q7, .inl (cy 0, 60, .inl (fun _ => 0)))] : va_W)) := hD
  obtain ⟨aa, eaa⟩ : ∃ z : Nat → Nat, z = adr [(1, fun _ => q0), (1, fun _ => q7)] := ⟨_, rfl⟩
  have e0 : aa 0 = q0 := by rw [eaa]; rfl
  have hP : va_P (dC, dI) vwCl (wX5 cy aa v0_X5) H := by subst eaa; exact hP
  have hD : va_D A (wX5 cy aa v0_X5) := by subst eaa; exact hD
  refine W.widen (k := 1) (n := 60) (Nat.le_of_ble_eq_true rfl) (Nat.le_of_ble_eq_true rfl) ?_
  exact W.vret hx hb hr (fun t ht hW => ⟨⟨aa, rfl, e0, xAt_of hP hK hD ht hW⟩, hS.F ht⟩) hS.2.2 dX5_init_12
