def wb_X0_splitTunnels_9 (v : V_X0) (u : V_X3) (x1 : Int32)  (y9_2 : Int32) (z9_u_cells : (Nat → Int32)) (z9_u_ends : (Nat → Int32)) (z9_u_size : Int32) (z9_u_used : Int32) (B9 : Int32 → (Nat → Int32) → (Nat → Int32) → Int32 → Int32 → Prop) (Q : (Nat → Int32) → (Nat → Int32) → Int32 → Int32 → V_X3 → Prop) : Prop :=
  (((X3_size (X0_tunnels v)) ≤ y9_2 → wp_X3_copyFrom (X0_tunnels v) (z9_u_cells, z9_u_ends, z9_u_used, z9_u_size) (fun z138_v_cells z138_v_ends z138_v_size z138_v_used =>
  Q z9_u_cells z9_u_ends z9_u_size z9_u_used (z138_v_cells, z138_v_ends, z138_v_used, z138_v_size))) ∧
  (¬ (X3_size (X0_tunnels v)) ≤ y9_2 → wp_X3_firstIndex (X0_tunnels v) y9_2 x1 (fun r26 =>
  ((r26 = (-1) → wp_X3_from (X0_tunnels v) y9_2 (fun r51 =>
  wp_X3_to (X0_tunnels v) y9_2 (fun r59 =>
  wp_X3_addRow (z9_u_cells, z9_u_ends, z9_u_used, z9_u_size) 1024 (X3_cells (X0_tunnels v)) r51 r59 (fun z62_v_cells z62_v_ends z62_v_size z62_v_used =>
  B9 (y9_2 + 1) z62_v_cells z62_v_ends z62_v_size z62_v_used)))) ∧
  (¬ r26 = (-1) → wp_X3_from (X0_tunnels v) y9_2 (fun r84 =>
  wp_X3_addRow (z9_u_cells, z9_u_ends, z9_u_used, z9_u_size) 1024 (X3_cells (X0_tunnels v)) r84 (r26 + 1) (fun z90_v_cells z90_v_ends z90_v_size z90_v_used =>
  wp_X3_lastIndex (X0_tunnels v) y9_2 x1 (fun r110 =>
  wp_X3_to (X0_tunnels v) y9_2 (fun r118 =>
  wp_X3_addRow (z90_v_cells, z90_v_ends, z90_v_used, z90_v_size) 1024 (X3_cells (X0_tunnels v)) r110 r118 (fun z121_v_cells z121_v_ends z121_v_size z121_v_used =>
  B9 (y9_2 + 1) z121_v_cells z121_v_ends z121_v_size z121_v_used))))))))))
def wp_X0_splitTunnels_9 (v : V_X0) (u : V_X3) (x1 : Int32)  (y9_2 : Int32) (z9_u_cells : (Nat → Int32)) (z9_u_ends : (Nat → Int32)) (z9_u_size : Int32) (z9_u_used : Int32) (Q : (Nat → Int32) → (Nat → Int32) → Int32 → Int32 → V_X3 → Prop) : Prop :=
  ∃ (I : Int32 → (Nat → Int32) → (Nat → Int32) → Int32 → Int32 → Prop) (μ : Int32 → (Nat → Int32) → (Nat → Int32) → Int32 → Int32 → Nat), I y9_2 z9_u_cells z9_u_ends z9_u_size z9_u_used ∧ ∀ (s0 : Int32) (s1 : (Nat → Int32)) (s2 : (Nat → Int32)) (s3 : Int32) (s4 : Int32), I s0 s1 s2 s3 s4 → wb_X0_splitTunnels_9 v u x1  s0 s1 s2 s3 s4 (fun t0 t1 t2 t3 t4 => I t0 t1 t2 t3 t4 ∧ μ t0 t1 t2 t3 t4 < μ s0 s1 s2 s3 s4) Q
def wp_X0_splitTunnels (v : V_X0) (u : V_X3) (x1 : Int32) (Q : (Nat → Int32) → (Nat → Int32) → Int32 → Int32 → V_X3 → Prop) : Prop :=
  wp_X3_empty u (fun z4_v_size z4_v_used =>
  wp_X0_splitTunnels_9 v u x1  0 (X3_cells u) (X3_ends u) z4_v_size z4_v_used Q)
def q_X0_splitTunnels (dC : Nat → ClassId) (dI : Nat → Nat → Nat) (cy : Nat → ClassId) (a b : Nat → Nat) (v : V_X0) (u : V_X3) (x1 : Int32) (Q : (Nat → Int32) → (Nat → Int32) → Int32 → Int32 → V_X3 → Prop) (A : Nat → Prop) : Array Value → State → Outcome → State → Prop := va_Qv (fun (u : (Nat → Int32) × (Nat → Int32) × Int32 × Int32 × V_X3) => Q u.1 u.2.1 u.2.2.1 u.2.2.2.1 u.2.2.2.2) (fun (u : (Nat → Int32) × (Nat → Int32) × Int32 × Int32 × V_X3) t => xAt dC dI cy A (cX0 cy a b (X0_mounds v) (X0_opened v) (X0_roots v) (X0_traps v) u.2.2.2.2 (X0_molesR v) (X0_moles v) (X0_moleCount v) (X0_fullAir v) (X0_beats v) (X0_caught v) (X0_gnawed v) (X0_risen v) (X0_fallen v) ++ cX3 cy b u.1 u.2.1 u.2.2.2.1 u.2.2.1) t) A
set_option maxHeartbeats 4000000 in
set_option maxRecDepth 100000 in
theorem c_X0_splitTunnels (l : Launch) (dC : Nat → ClassId) (dI : Nat → Nat → Nat) (cy : Nat → ClassId) (a b : Nat → Nat) (sz : Nat) (v : V_X0) (u : V_X3) (x1 : Int32) (Q : (Nat → Int32) → (Nat → Int32) → Int32 → Int32 → V_X3 → Prop) (hq : wp_X0_splitTunnels v u x1 Q) : Met l yX0_splitTunnels wsX0_splitTunnels ({ frames := 2, cells := 0, slots := 0, locals := 50 } : Room) (va_Pc [.ref (a 0), .int x1] (xPre dC dI cy (wX0 cy a b v ++ wX3 cy b u) sz)) (q_X0_splitTunnels dC dI cy a b v u x1 Q (va_A (wX0 cy a b v ++ wX3 cy b u) sz)) 0 0 (va_A (wX0 cy a b v ++ wX3 cy b u) sz) := by
  refine Met.ofW (cc := cX0_splitTunnels) (maxL := 4) (ret := none) (by decide) rfl ?_
  intro p e s m args below meth c s₁ B hml hv
  obtain ⟨rfl, hsz, hP, hK, hD0⟩ := hv
  have hx := B.exec
  have hb := B.bytes
  have hr := B.returns
  have hts := atoms_spec (ws := wsX0_splitTunnels) B.pre
  have hown : s.vm.findClass RX0 = some m.cls := findClass_of_methodNamed B.named
  have hlocks := B.notSynchronized
  subst hsz
  have hD := hD0.self (sz := s.heap.size)
  generalize hAe : va_A (wX0 cy a b v ++ wX3 cy b u) s.heap.size = A at hD ⊢
  have hAe0 : ∀ q : Nat, s.heap.size ≤ q → A q := fun q h => by rw [← hAe]; exact Or.inr h
  have hS : va_S A s.heap s.heap [] := va_S.rf
  have hl := lv_entry ([.ref (a 0), .int x1]) (n := 4) (Nat.le_of_ble_eq_true rfl)
  rw [lg_entry_eq]
  generalize (lg_sl ([.ref (a 0), .int x1]) ++ List.replicate (4 - (lg_sl ([.ref (a 0), .int x1])).length) Slot.unset).toArray = ls at hl ⊢
  have hl : lv_has ls 4 [(0, .ref (a 0)), (1, .int x1)] := hl
  have lk0 := hts (Cond.fieldLink RX0 28 "MolesLawn$Lawn" "tunnels" "LMolesLawn$Rows;") (List.mem_cons_of_mem _ (List.mem_append_left _ (List.mem_append_left _ (List.mem_append_left _ (List.mem_of_getElem? (i := 1) rfl)))))
  have lk1 := hts (Cond.fieldLink RX0 123 "MolesLawn$Rows" "size" "I") (List.mem_cons_of_mem _ (List.mem_append_left _ (List.mem_append_left _ (List.mem_append_left _ (List.mem_of_getElem? (i := 2) rfl)))))
  have lk2 := hts (Cond.fieldLink RX0 42 "MolesLawn$Lawn" "spare" "LMolesLawn$Rows;") (List.mem_cons_of_mem _ (List.mem_append_left _ (List.mem_append_left _ (List.mem_append_left _ (List.mem_of_getElem? (i := 0) rfl)))))
  have lk3 := hts (Cond.fieldLink RX0 128 "MolesLawn$Rows" "cells" "[I") (List.mem_cons_of_mem _ (List.mem_append_left _ (List.mem_append_left _ (List.mem_append_left _ (List.mem_of_getElem? (i := 3) rfl)))))
  have iK0 : ∀ w ∈ wsX00, w ∈ wsX0_splitTunnels := fun _ h => (List.mem_cons_of_mem _ (List.mem_append_left _ (List.mem_append_right _ h)))
  have iK3 : ∀ w ∈ wsX30, w ∈ wsX0_splitTunnels := fun _ h => (List.mem_cons_of_mem _ (List.mem_append_right _ h))
  unfold wp_X0_splitTunnels at hq
  have J9 : ∀  (y9_2 : Int32) (z9_u_cells : (Nat → Int32)) (z9_u_ends : (Nat → Int32)) (z9_u_size : Int32) (z9_u_used : Int32) (H : Heap) (locs : List Loc) (ls : Array Slot), wp_X0_splitTunnels_9 v u x1  y9_2 z9_u_cells z9_u_ends z9_u_size z9_u_used Q → va_P (dC, dI) vwCl (wX0 cy a b v ++ cX3 cy b z9_u_cells z9_u_ends z9_u_used z9_u_size) H → va_D A (wX0 cy a b v ++ cX3 cy b z9_u_cells z9_u_ends z9_u_used z9_u_size) → va_S A s.heap H locs → lv_has ls 4 [(0, .ref (a 0)), (1, .int x1), (2, .int y9_2)] → W p l e (headSpec wsX0_splitTunnels ({ frames := 2, cells := 0, slots := 0, locals := 50 } : Room)).room s m ([.ref (a 0), .int x1] : List Value).toArray below meth c H locs 0 0 (MQ below (q_X0_splitTunnels dC dI cy a b v u x1 Q A) ([.ref (a 0), .int x1] : List Value).toArray s 0 0 A) (F0 m 9 ls []) := by
    intro  y9_2 z9_u_cells z9_u_ends z9_u_size z9_u_used H locs ls hq hP hD hS hl
    obtain ⟨I9, μ9, h0, hs9⟩ := hq
    have key : ∀ (n : Nat) (y9_2 : Int32) (z9_u_cells : (Nat → Int32)) (z9_u_ends : (Nat → Int32)) (z9_u_size : Int32) (z9_u_used : Int32) (H : Heap) (locs : List Loc) (ls : Array Slot), I9 y9_2 z9_u_cells z9_u_ends z9_u_size z9_u_used → μ9 y9_2 z9_u_cells z9_u_ends z9_u_size z9_u_used < n → va_P (dC, dI) vwCl (wX0 cy a b v ++ cX3 cy b z9_u_cells z9_u_ends z9_u_used z9_u_size) H → va_D A (wX0 cy a b v ++ cX3 cy b z9_u_cells z9_u_ends z9_u_used z9_u_size) → va_S A s.heap H locs → lv_has ls 4 [(0, .ref (a 0)), (1, .int x1), (2, .int y9_2)] → W p l e (headSpec wsX0_splitTunnels ({ frames := 2, cells := 0, slots := 0, locals := 50 } : Room)).room s m ([.ref (a 0), .int x1] : List Value).toArray below meth c H locs 0 0 (MQ below (q_X0_splitTunnels dC dI cy a b v u x1 Q A) ([.ref (a 0), .int x1] : List Value).toArray s 0 0 A) (F0 m 9 ls []) := by
      intro n
      induction n with
      | zero => intro y9_2 z9_u_cells z9_u_ends z9_u_size z9_u_used H locs ls _ hm; exact absurd hm (Nat.not_lt_zero _)
      | succ n ih =>
        intro y9_2 z9_u_cells z9_u_ends z9_u_size z9_u_used H locs ls hI hm hP hD hS hl
        have hq := hs9 y9_2 z9_u_cells z9_u_ends z9_u_size z9_u_used hI
        generalize hB9 : (fun (t0 : Int32) (t1 : (Nat → Int32)) (t2 : (Nat → Int32)) (t3 : Int32) (t4 : Int32) => I9 t0 t1 t2 t3 t4 ∧ μ9 t0 t1 t2 t3 t4 < μ9 y9_2 z9_u_cells z9_u_ends z9_u_size z9_u_used) = B9 at hq
        have bk9 : ∀ (y9_2 : Int32) (z9_u_cells : (Nat → Int32)) (z9_u_ends : (Nat → Int32)) (z9_u_size : Int32) (z9_u_used : Int32) (H : Heap) (locs : List Loc) (ls : Array Slot), B9 y9_2 z9_u_cells z9_u_ends z9_u_size z9_u_used → va_P (dC, dI) vwCl (wX0 cy a b v ++ cX3 cy b z9_u_cells z9_u_ends z9_u_used z9_u_size) H → va_D A (wX0 cy a b v ++ cX3 cy b z9_u_cells z9_u_ends z9_u_used z9_u_size) → va_S A s.heap H locs → lv_has ls 4 [(0, .ref (a 0)), (1, .int x1), (2, .int y9_2)] → W p l e (headSpec wsX0_splitTunnels ({ frames := 2, cells := 0, slots := 0, locals := 50 } : Room)).room s m ([.ref (a 0), .int x1] : List Value).toArray below meth c H locs 0 0 (MQ below (q_X0_splitTunnels dC dI cy a b v u x1 Q A) ([.ref (a 0), .int x1] : List Value).toArray s 0 0 A) (F0 m 9 ls []) := by
          intro y9_2 z9_u_cells z9_u_ends z9_u_size z9_u_used H locs ls h
          rw [← hB9] at h
          exact ih y9_2 z9_u_cells z9_u_ends z9_u_size z9_u_used H locs ls h.1 (Nat.lt_of_lt_of_le h.2 (Nat.le_of_lt_succ hm))
        unfold wb_X0_splitTunnels_9 at hq
        refine lv_iload_n hx hb dX0_splitTunnels_9 rfl (lv_at hl 2 rfl) ?_
        refine lv_aload_n hx hb dX0_splitTunnels_10 rfl (lv_at hl 0 rfl) ?_
        refine va_get (D := (dC, dI)) (ci := 0) (v := .ref (a 5)) (C := RX0) (T := TX0) (N := 14) hx hb hts iK0 hown hK hP 0 rfl rfl 4 (by decide) lk0 (fun _ h9 => h9) rfl dX0_splitTunnels_11 ?_
        refine va_get (D := (dC, dI)) (ci := 3) (v := .int (X3_size (X0_tunnels v))) (C := RX3) (T := TX3) (N := 4) hx hb hts iK3 hown hK hP 5 rfl rfl 3 (by decide) lk1 (fun _ h9 => h9) rfl dX0_splitTunnels_14 ?_
        obtain ⟨hqA, hqB⟩ := hq
        refine lv_icmp_ge (tgt := 130) hx hb dX0_splitTunnels_17 (by decide) (fun c2 => ?_) (fun c2 => ?_)
        · have hq := hqA c2
          refine lv_aload_n hx hb dX0_splitTunnels_130 rfl (lv_at hl 0 rfl) ?_
          refine va_get (D := (dC, dI)) (ci := 0) (v := .ref (a 5)) (C := RX0) (T := TX0) (N := 14) hx hb hts iK0 hown hK hP 0 rfl rfl 4 (by decide) lk0 (fun _ h9 => h9) rfl dX0_splitTunnels_131 ?_
          refine lv_aload_n hx hb dX0_splitTunnels_134 rfl (lv_at hl 0 rfl) ?_
          refine va_get (D := (dC, dI)) (ci := 0) (v := .ref (b 0)) (C := RX0) (T := TX0) (N := 14) hx hb hts iK0 hown hK hP 0 rfl rfl 5 (by decide) lk2 (fun _ h9 => h9) rfl dX0_splitTunnels_135 ?_
          have hC : (([5, 6, 7, 21, 22, 23] : List Nat).map (fun i => (wX0 cy a b v ++ cX3 cy b z9_u_cells z9_u_ends z9_u_used z9_u_size)[i]?)) = (wX3 cy (sh a 5) (X0_tunnels v) ++ cX3 cy b z9_u_cells z9_u_ends z9_u_used z9_u_size).map some := (xC_app (i1 := [5, 6, 7]) (i2 := [21, 22, 23]) rfl (xC_one (n := 5) (m := 3) rfl rfl rfl) (xC_one (n := 21) (m := 3) rfl rfl rfl))
          have hPc := xsubP hP hC
          have hDc := xsubD hD (by decide) hC
          have hFc := va_free (wc := (wX3 cy (sh a 5) (X0_tunnels v) ++ cX3 cy b z9_u_cells z9_u_ends z9_u_used z9_u_size)) hD hS hAe0 [5, 6, 7, 21, 22, 23] hC
          refine va_callv (va_runV (As := [.ref (b 0)]) (rest := []) ⟨hx, hb, hml, hown, hts⟩ (c_X3_copyFrom l dC dI cy (sh a 5) b _ (X0_tunnels v) (z9_u_cells, z9_u_ends, z9_u_used, z9_u_size) _ hq) (cwV 1 hts gX0_splitTunnels_X3_copyFrom rfl rfl rfl (by decide +kernel) ⟨Nat.le_of_ble_eq_true rfl, Nat.le_of_ble_eq_true rfl⟩) ⟨xPre_blind, va_recv hK hP (ci := 3) (q0 := 5) rfl rfl, xPre_of hPc hK hDc⟩ rfl rfl hl.1 rfl (lv_room (Nat.le_of_ble_eq_true rfl)) dX0_splitTunnels_138 ⟨Nat.le_of_ble_eq_true rfl, Nat.le_of_ble_eq_true rfl⟩) hS (fun q _ h => hFc q h) hFc (fun u9 t H locs ht hvm hq hB hz1 hk1 hS => ?_)
          obtain ⟨z138_v_cells, z138_v_ends, z138_v_size, z138_v_used⟩ := u9
          obtain ⟨hP1, -, hD1⟩ := hB
          rw [ht] at hP1
          obtain ⟨hP, hD⟩ := xj hP hD [5, 6, 7, 21, 22, 23] (cX3 cy (sh a 5) z138_v_cells z138_v_ends z138_v_used z138_v_size ++ cX3 cy b z9_u_cells z9_u_ends z9_u_used z9_u_size) (ws' := (cX0 cy a b (X0_mounds v) (X0_opened v) (X0_roots v) (X0_traps v) (z138_v_cells, z138_v_ends, z138_v_used, z138_v_size) (X0_molesR v) (X0_moles v) (X0_moleCount v) (X0_fullAir v) (X0_beats v) (X0_caught v) (X0_gnawed v) (X0_risen v) (X0_fallen v) ++ cX3 cy b z9_u_cells z9_u_ends z9_u_used z9_u_size)) hC rfl (xS_app (n := 5) (m := 3) (i2 := [21, 22, 23]) rfl rfl rfl (xS_one (n := 21) (m := 3) rfl rfl rfl)) hk1 hFc hP1
          exact W.vret hx hb hr (fun t ht hW => ⟨⟨(z9_u_cells, z9_u_ends, z9_u_size, z9_u_used, (z138_v_cells, z138_v_ends, z138_v_used, z138_v_size)), rfl, hq, (xAt_of hP hK hD ht hW)⟩, hS.F ht⟩) hS.2.2 dX0_splitTunnels_141
        · have hq := hqB c2
          refine lv_aload_n hx hb dX0_splitTunnels_20 rfl (lv_at hl 0 rfl) ?_
          refine va_get (D := (dC, dI)) (ci := 0) (v := .ref (a 5)) (C := RX0) (T := TX0) (N := 14) hx hb hts iK0 hown hK hP 0 rfl rfl 4 (by decide) lk0 (fun _ h9 => h9) rfl dX0_splitTunnels_21 ?_
          refine lv_iload_n hx hb dX0_splitTunnels_24 rfl (lv_at hl 2 rfl) ?_
          refine lv_iload_n hx hb dX0_splitTunnels_25 rfl (lv_at hl 1 rfl) ?_
          have hC : (([5, 6, 7] : List Nat).map (fun i => (wX0 cy a b v ++ cX3 cy b z9_u_cells z9_u_ends z9_u_used z9_u_size)[i]?)) = (wX3 cy (sh a 5) (X0_tunnels v)).map some := rfl
          have hPc := xsubP hP hC
          have hDc := xsubD hD (by decide) hC
          have hFc := va_free (wc := (wX3 cy (sh a 5) (X0_tunnels v))) hD hS hAe0 [5, 6, 7] hC
          refine va_calli (va_runV (As := [.int y9_2, .int x1]) (rest := []) ⟨hx, hb, hml, hown, hts⟩ (c_X3_firstIndex l dC dI cy (sh a 5) _ (X0_tunnels v) y9_2 x1 _ hq) (cwV 2 hts gX0_splitTunnels_X3_firstIndex rfl rfl rfl (by decide +kernel) ⟨Nat.le_of_ble_eq_true rfl, Nat.le_of_ble_eq_true rfl⟩) ⟨xPre_blind, va_recv hK hP (ci := 3) (q0 := 5) rfl rfl, xPre_of hPc hK hDc⟩ rfl rfl hl.1 rfl (lv_room (Nat.le_of_ble_eq_true rfl)) dX0_splitTunnels_26 ⟨Nat.le_of_ble_eq_true rfl, Nat.le_of_ble_eq_true rfl⟩) hS (fun q _ h => hFc q h) hFc (fun r26 u9 t H locs ht hvm hq hB hz1 hk1 hS => ?_)
          obtain ⟨hP1, -, hD1⟩ := hB
          rw [ht] at hP1
          have hP : va_P (dC, dI) vwCl (wX0 cy a b v ++ cX3 cy b z9_u_cells z9_u_ends z9_u_used z9_u_size) H := xj_keep hP hD [5, 6, 7] hC hP1 hk1
          refine lv_istore_n (lv' := [(3, .int r26), (0, .ref (a 0)), (1, .int x1), (2, .int y9_2)]) hx hb dX0_splitTunnels_29 rfl hl (by decide) rfl (fun ls hl => ?_)
          refine lv_iload_n hx hb dX0_splitTunnels_30 rfl (lv_at hl 0 rfl) ?_
          refine lv_iconst (v := (-1)) hx hb dX0_splitTunnels_31 (by decide) ?_
          obtain ⟨hqA, hqB⟩ := hq
          refine lv_icmp_ne (tgt := 68) hx hb dX0_splitTunnels_32 (by decide) (fun c1 => ?_) (fun c1 => ?_)
          · have hq := hqB c1
            refine lv_aload_n hx hb dX0_splitTunnels_68 rfl (lv_at hl 1 rfl) ?_
            refine va_get (D := (dC, dI)) (ci := 0) (v := .ref (b 0)) (C := RX0) (T := TX0) (N := 14) hx hb hts iK0 hown hK hP 0 rfl rfl 5 (by decide) lk2 (fun _ h9 => h9) rfl dX0_splitTunnels_69 ?_
            refine lv_aload_n hx hb dX0_splitTunnels_72 rfl (lv_at hl 1 rfl) ?_
            refine va_get (D := (dC, dI)) (ci := 0) (v := .ref (a 5)) (C := RX0) (T := TX0) (N := 14) hx hb hts iK0 hown hK hP 0 rfl rfl 4 (by decide) lk0 (fun _ h9 => h9) rfl dX0_splitTunnels_73 ?_
            refine va_get (D := (dC, dI)) (ci := 3) (v := .ref (a 6)) (C := RX3) (T := TX3) (N := 4) hx hb hts iK3 hown hK hP 5 rfl rfl 0 (by decide) lk3 (fun _ h9 => h9) rfl dX0_splitTunnels_76 ?_
            refine lv_aload_n hx hb dX0_splitTunnels_79 rfl (lv_at hl 1 rfl) ?_
            refine va_get (D := (dC, dI)) (ci := 0) (v := .ref (a 5)) (C := RX0) (T := TX0) (N := 14) hx hb hts iK0 hown hK hP 0 rfl rfl 4 (by decide) lk0 (fun _ h9 => h9) rfl dX0_splitTunnels_80 ?_
            refine lv_iload_n hx hb dX0_splitTunnels_83 rfl (lv_at hl 3 rfl) ?_
            have hC : (([5, 6, 7] : List Nat).map (fun i => (wX0 cy a b v ++ cX3 cy b z9_u_cells z9_u_ends z9_u_used z9_u_size)[i]?)) = (wX3 cy (sh a 5) (X0_tunnels v)).map some := rfl
            have hPc := xsubP hP hC
            have hDc := xsubD hD (by decide) hC
            have hFc := va_free (wc := (wX3 cy (sh a 5) (X0_tunnels v))) hD hS hAe0 [5, 6, 7] hC
            refine va_calli (va_runV (As := [.int y9_2]) (rest := [.ref (a 6), .ref (b 0)]) ⟨hx, hb, hml, hown, hts⟩ (c_X3_from l dC dI cy (sh a 5) _ (X0_tunnels v) y9_2 _ hq) (cwV 1 hts gX0_splitTunnels_X3_from rfl rfl rfl (by decide +kernel) ⟨Nat.le_of_ble_eq_true rfl, Nat.le_of_ble_eq_true rfl⟩) ⟨xPre_blind, va_recv hK hP (ci := 3) (q0 := 5) rfl rfl, xPre_of hPc hK hDc⟩ rfl rfl hl.1 rfl (lv_room (Nat.le_of_ble_eq_true rfl)) dX0_splitTunnels_84 ⟨Nat.le_of_ble_eq_true rfl, Nat.le_of_ble_eq_true rfl⟩) hS (fun q _ h => hFc q h) hFc (fun r84 u9 t H locs ht hvm hq hB hz1 hk1 hS => ?_)
            obtain ⟨hP1, -, hD1⟩ := hB
            rw [ht] at hP1
            have hP : va_P (dC, dI) vwCl (wX0 cy a b v ++ cX3 cy b z9_u_cells z9_u_ends z9_u_used z9_u_size) H := xj_keep hP hD [5, 6, 7] hC hP1 hk1
            refine lv_iload_n hx hb dX0_splitTunnels_87 rfl (lv_at hl 0 rfl) ?_
            refine lv_iconst (v := 1) hx hb dX0_splitTunnels_88 (by decide) ?_
            refine lv_iadd hx hb dX0_splitTunnels_89 ?_
            have hC : (([21, 22, 23, 6] : List Nat).map (fun i => (wX0 cy a b v ++ cX3 cy b z9_u_cells z9_u_ends z9_u_used z9_u_size)[i]?)) = (cX3 cy b z9_u_cells z9_u_ends z9_u_used z9_u_size ++ cAI cy (sh a 6) 1024 (X3_cells (X0_tunnels v))).map some := (xC_app (i1 := [21, 22, 23]) (i2 := [6]) rfl (xC_one (n := 21) (m := 3) rfl rfl rfl) (xC_one (n := 6) (m := 1) rfl rfl rfl))
            have hPc := xsubP hP hC
            have hDc := xsubD hD (by decide) hC
            have hFc := va_free (wc := (cX3 cy b z9_u_cells z9_u_ends z9_u_used z9_u_size ++ cAI cy (sh a 6) 1024 (X3_cells (X0_tunnels v)))) hD hS hAe0 [21, 22, 23, 6] hC
            refine va_callv (va_runV (As := [.ref (a 6), .int r84, .int (r26 + 1)]) (rest := []) ⟨hx, hb, hml, hown, hts⟩ (c_X3_addRow l dC dI cy b (sh a 6) _ (z9_u_cells, z9_u_ends, z9_u_used, z9_u_size) 1024 (X3_cells (X0_tunnels v)) r84 (r26 + 1) _ hq) (cwV 3 hts gX0_splitTunnels_X3_addRow rfl rfl rfl (by decide +kernel) ⟨Nat.le_of_ble_eq_true rfl, Nat.le_of_ble_eq_true rfl⟩) ⟨xPre_blind, va_recv hK hP (ci := 3) (q0 := 21) rfl rfl, xPre_of hPc hK hDc⟩ rfl rfl hl.1 rfl (lv_room (Nat.le_of_ble_eq_true rfl)) dX0_splitTunnels_90 ⟨Nat.le_of_ble_eq_true rfl, Nat.le_of_ble_eq_true rfl⟩) hS (fun q _ h => hFc q h) hFc (fun u9 t H locs ht hvm hq hB hz1 hk1 hS => ?_)
            obtain ⟨z90_v_cells, z90_v_ends, z90_v_size, z90_v_used⟩ := u9
            obtain ⟨hP1, -, hD1⟩ := hB
            rw [ht] at hP1
            obtain ⟨hP, hD⟩ := xj hP hD [21, 22, 23, 6] (cX3 cy b z90_v_cells z90_v_ends z90_v_used z90_v_size ++ cAI cy (sh a 6) 1024 (X3_cells (X0_tunnels v))) (ws' := (wX0 cy a b v ++ cX3 cy b z90_v_cells z90_v_ends z90_v_used z90_v_size)) hC rfl (xS_app (n := 21) (m := 3) (i2 := [6]) rfl rfl rfl (xS_one (n := 6) (m := 1) rfl rfl rfl)) hk1 hFc hP1
            refine lv_aload_n hx hb dX0_splitTunnels_93 rfl (lv_at hl 1 rfl) ?_
            refine va_get (D := (dC, dI)) (ci := 0) (v := .ref (b 0)) (C := RX0) (T := TX0) (N := 14) hx hb hts iK0 hown hK hP 0 rfl rfl 5 (by decide) lk2 (fun _ h9 => h9) rfl dX0_splitTunnels_94 ?_
            refine lv_aload_n hx hb dX0_splitTunnels_97 rfl (lv_at hl 1 rfl) ?_
            refine va_get (D := (dC, dI)) (ci := 0) (v := .ref (a 5)) (C := RX0) (T := TX0) (N := 14) hx hb hts iK0 hown hK hP 0 rfl rfl 4 (by decide) lk0 (fun _ h9 => h9) rfl dX0_splitTunnels_98 ?_
            refine va_get (D := (dC, dI)) (ci := 3) (v := .ref (a 6)) (C := RX3) (T := TX3) (N := 4) hx hb hts iK3 hown hK hP 5 rfl rfl 0 (by decide) lk3 (fun _ h9 => h9) rfl dX0_splitTunnels_101 ?_
            refine lv_aload_n hx hb dX0_splitTunnels_104 rfl (lv_at hl 1 rfl) ?_
            refine va_get (D := (dC, dI)) (ci := 0) (v := .ref (a 5)) (C := RX0) (T := TX0) (N := 14) hx hb hts iK0 hown hK hP 0 rfl rfl 4 (by decide) lk0 (fun _ h9 => h9) rfl dX0_splitTunnels_105 ?_
            refine lv_iload_n hx hb dX0_splitTunnels_108 rfl (lv_at hl 3 rfl) ?_
            refine lv_iload_n hx hb dX0_splitTunnels_109 rfl (lv_at hl 2 rfl) ?_
            have hC : (([5, 6, 7] : List Nat).map (fun i => (wX0 cy a b v ++ cX3 cy b z90_v_cells z90_v_ends z90_v_used z90_v_size)[i]?)) = (wX3 cy (sh a 5) (X0_tunnels v)).map some := rfl
            have hPc := xsubP hP hC
            have hDc := xsubD hD (by decide) hC
            have hFc := va_free (wc := (wX3 cy (sh a 5) (X0_tunnels v))) hD hS hAe0 [5, 6, 7] hC
            refine va_calli (va_runV (As := [.int y9_2, .int x1]) (rest := [.ref (a 6), .ref (b 0)]) ⟨hx, hb, hml, hown, hts⟩ (c_X3_lastIndex l dC dI cy (sh a 5) _ (X0_tunnels v) y9_2 x1 _ hq) (cwV 2 hts gX0_splitTunnels_X3_lastIndex rfl rfl rfl (by decide +kernel) ⟨Nat.le_of_ble_eq_true rfl, Nat.le_of_ble_eq_true rfl⟩) ⟨xPre_blind, va_recv hK hP (ci := 3) (q0 := 5) rfl rfl, xPre_of hPc hK hDc⟩ rfl rfl hl.1 rfl (lv_room (Nat.le_of_ble_eq_true rfl)) dX0_splitTunnels_110 ⟨Nat.le_of_ble_eq_true rfl, Nat.le_of_ble_eq_true rfl⟩) hS (fun q _ h => hFc q h) hFc (fun r110 u9 t H locs ht hvm hq hB hz1 hk1 hS => ?_)
            obtain ⟨hP1, -, hD1⟩ := hB
            rw [ht] at hP1
            have hP : va_P (dC, dI) vwCl (wX0 cy a b v ++ cX3 cy b z90_v_cells z90_v_ends z90_v_used z90_v_size) H := xj_keep hP hD [5, 6, 7] hC hP1 hk1
            refine lv_aload_n hx hb dX0_splitTunnels_113 rfl (lv_at hl 1 rfl) ?_
            refine va_get (D := (dC, dI)) (ci := 0) (v := .ref (a 5)) (C := RX0) (T := TX0) (N := 14) hx hb hts iK0 hown hK hP 0 rfl rfl 4 (by decide) lk0 (fun _ h9 => h9) rfl dX0_splitTunnels_114 ?_
            refine lv_iload_n hx hb dX0_splitTunnels_117 rfl (lv_at hl 3 rfl) ?_
            have hC : (([5, 6, 7] : List Nat).map (fun i => (wX0 cy a b v ++ cX3 cy b z90_v_cells z90_v_ends z90_v_used z90_v_size)[i]?)) = (wX3 cy (sh a 5) (X0_tunnels v)).map some := rfl
            have hPc := xsubP hP hC
            have hDc := xsubD hD (by decide) hC
            have hFc := va_free (wc := (wX3 cy (sh a 5) (X0_tunnels v))) hD hS hAe0 [5, 6, 7] hC
            refine va_calli (va_runV (As := [.int y9_2]) (rest := [.int r110, .ref (a 6), .ref (b 0)]) ⟨hx, hb, hml, hown, hts⟩ (c_X3_to l dC dI cy (sh a 5) _ (X0_tunnels v) y9_2 _ hq) (cwV 1 hts gX0_splitTunnels_X3_to rfl rfl rfl (by decide +kernel) ⟨Nat.le_of_ble_eq_true rfl, Nat.le_of_ble_eq_true rfl⟩) ⟨xPre_blind, va_recv hK hP (ci := 3) (q0 := 5) rfl rfl, xPre_of hPc hK hDc⟩ rfl rfl hl.1 rfl (lv_room (Nat.le_of_ble_eq_true rfl)) dX0_splitTunnels_118 ⟨Nat.le_of_ble_eq_true rfl, Nat.le_of_ble_eq_true rfl⟩) hS (fun q _ h => hFc q h) hFc (fun r118 u9 t H locs ht hvm hq hB hz1 hk1 hS => ?_)
            obtain ⟨hP1, -, hD1⟩ := hB
            rw [ht] at hP1
            have hP : va_P (dC, dI) vwCl (wX0 cy a b v ++ cX3 cy b z90_v_cells z90_v_ends z90_v_used z90_v_size) H := xj_keep hP hD [5, 6, 7] hC hP1 hk1
            have hC : (([21, 22, 23, 6] : List Nat).map (fun i => (wX0 cy a b v ++ cX3 cy b z90_v_cells z90_v_ends z90_v_used z90_v_size)[i]?)) = (cX3 cy b z90_v_cells z90_v_ends z90_v_used z90_v_size ++ cAI cy (sh a 6) 1024 (X3_cells (X0_tunnels v))).map some := (xC_app (i1 := [21, 22, 23]) (i2 := [6]) rfl (xC_one (n := 21) (m := 3) rfl rfl rfl) (xC_one (n := 6) (m := 1) rfl rfl rfl))
            have hPc := xsubP hP hC
            have hDc := xsubD hD (by decide) hC
            have hFc := va_free (wc := (cX3 cy b z90_v_cells z90_v_ends z90_v_used z90_v_size ++ cAI cy (sh a 6) 1024 (X3_cells (X0_tunnels v)))) hD hS hAe0 [21, 22, 23, 6] hC
            refine va_callv (va_runV (As := [.ref (a 6), .int r110, .int r118]) (rest := []) ⟨hx, hb, hml, hown, hts⟩ (c_X3_addRow l dC dI cy b (sh a 6) _ (z90_v_cells, z90_v_ends, z90_v_used, z90_v_size) 1024 (X3_cells (X0_tunnels v)) r110 r118 _ hq) (cwV 3 hts gX0_splitTunnels_X3_addRow rfl rfl rfl (by decide +kernel) ⟨Nat.le_of_ble_eq_true rfl, Nat.le_of_ble_eq_true rfl⟩) ⟨xPre_blind, va_recv hK hP (ci := 3) (q0 := 21) rfl rfl, xPre_of hPc hK hDc⟩ rfl rfl hl.1 rfl (lv_room (Nat.le_of_ble_eq_true rfl)) dX0_splitTunnels_121 ⟨Nat.le_of_ble_eq_true rfl, Nat.le_of_ble_eq_true rfl⟩) hS (fun q _ h => hFc q h) hFc (fun u9 t H locs ht hvm hq hB hz1 hk1 hS => ?_)
            obtain ⟨z121_v_cells, z121_v_ends, z121_v_size, z121_v_used⟩ := u9
            obtain ⟨hP1, -, hD1⟩ := hB
            rw [ht] at hP1
            obtain ⟨hP, hD⟩ := xj hP hD [21, 22, 23, 6] (cX3 cy b z121_v_cells z121_v_ends z121_v_used z121_v_size ++ cAI cy (sh a 6) 1024 (X3_cells (X0_tunnels v))) (ws' := (wX0 cy a b v ++ cX3 cy b z121_v_cells z121_v_ends z121_v_used z121_v_size)) hC rfl (xS_app (n := 21) (m := 3) (i2 := [6]) rfl rfl rfl (xS_one (n := 6) (m := 1) rfl rfl rfl)) hk1 hFc hP1
            refine lv_iinc (v := (y9_2 + 1)) (lv' := [(2, .int (y9_2 + 1)), (3, .int r26), (0, .ref (a 0)), (1, .int x1)]) hx hb dX0_splitTunnels_124 hl (k := 3) rfl rfl (by decide) rfl (fun ls hl => ?_)
            refine lv_goto (tgt := 9) hx hb dX0_splitTunnels_127 (by decide) ?_
            exact bk9 (y9_2 + 1) z121_v_cells z121_v_ends z121_v_size z121_v_used _ _ _ hq hP hD hS (lv_sub hl [2, 3, 0] rfl)
          · have hq := hqA c1
            refine lv_aload_n hx hb dX0_splitTunnels_35 rfl (lv_at hl 1 rfl) ?_
            refine va_get (D := (dC, dI)) (ci := 0) (v := .ref (b 0)) (C := RX0) (T := TX0) (N := 14) hx hb hts iK0 hown hK hP 0 rfl rfl 5 (by decide) lk2 (fun _ h9 => h9) rfl dX0_splitTunnels_36 ?_
            refine lv_aload_n hx hb dX0_splitTunnels_39 rfl (lv_at hl 1 rfl) ?_
            refine va_get (D := (dC, dI)) (ci := 0) (v := .ref (a 5)) (C := RX0) (T := TX0) (N := 14) hx hb hts iK0 hown hK hP 0 rfl rfl 4 (by decide) lk0 (fun _ h9 => h9) rfl dX0_splitTunnels_40 ?_
            refine va_get (D := (dC, dI)) (ci := 3) (v := .ref (a 6)) (C := RX3) (T := TX3) (N := 4) hx hb hts iK3 hown hK hP 5 rfl rfl 0 (by decide) lk3 (fun _ h9 => h9) rfl dX0_splitTunnels_43 ?_
            refine lv_aload_n hx hb dX0_splitTunnels_46 rfl (lv_at hl 1 rfl) ?_
            refine va_get (D := (dC, dI)) (ci := 0) (v := .ref (a 5)) (C := RX0) (T := TX0) (N := 14) hx hb hts iK0 hown hK hP 0 rfl rfl 4 (by decide) lk0 (fun _ h9 => h9) rfl dX0_splitTunnels_47 ?_
            refine lv_iload_n hx hb dX0_splitTunnels_50 rfl (lv_at hl 3 rfl) ?_
            have hC : (([5, 6, 7] : List Nat).map (fun i => (wX0 cy a b v ++ cX3 cy b z9_u_cells z9_u_ends z9_u_used z9_u_size)[i]?)) = (wX3 cy (sh a 5) (X0_tunnels v)).map some := rfl
            have hPc := xsubP hP hC
            have hDc := xsubD hD (by decide) hC
            have hFc := va_free (wc := (wX3 cy (sh a 5) (X0_tunnels v))) hD hS hAe0 [5, 6, 7] hC
            refine va_calli (va_runV (As := [.int y9_2]) (rest := [.ref (a 6), .ref (b 0)]) ⟨hx, hb, hml, hown, hts⟩ (c_X3_from l dC dI cy (sh a 5) _ (X0_tunnels v) y9_2 _ hq) (cwV 1 hts gX0_splitTunnels_X3_from rfl rfl rfl (by decide +kernel) ⟨Nat.le_of_ble_eq_true rfl, Nat.le_of_ble_eq_true rfl⟩) ⟨xPre_blind, va_recv hK hP (ci := 3) (q0 := 5) rfl rfl, xPre_of hPc hK hDc⟩ rfl rfl hl.1 rfl (lv_room (Nat.le_of_ble_eq_true rfl)) dX0_splitTunnels_51 ⟨Nat.le_of_ble_eq_true rfl, Nat.le_of_ble_eq_true rfl⟩) hS (fun q _ h => hFc q h) hFc (fun r51 u9 t H locs ht hvm hq hB hz1 hk1 hS => ?_)
            obtain ⟨hP1, -, hD1⟩ := hB
            rw [ht] at hP1
            have hP : va_P (dC, dI) vwCl (wX0 cy a b v ++ cX3 cy b z9_u_cells z9_u_ends z9_u_used z9_u_size) H := xj_keep hP hD [5, 6, 7] hC hP1 hk1
            refine lv_aload_n hx hb dX0_splitTunnels_54 rfl (lv_at hl 1 rfl) ?_
            refine va_get (D := (dC, dI)) (ci := 0) (v := .ref (a 5)) (C := RX0) (T := TX0) (N := 14) hx hb hts iK0 hown hK hP 0 rfl rfl 4 (by decide) lk0 (fun _ h9 => h9) rfl dX0_splitTunnels_55 ?_
            refine lv_iload_n hx hb dX0_splitTunnels_58 rfl (lv_at hl 3 rfl) ?_
            have hC : (([5, 6, 7] : List Nat).map (fun i => (wX0 cy a b v ++ cX3 cy b z9_u_cells z9_u_ends z9_u_used z9_u_size)[i]?)) = (wX3 cy (sh a 5) (X0_tunnels v)).map some := rfl
            have hPc := xsubP hP hC
            have hDc := xsubD hD (by decide) hC
            have hFc := va_free (wc := (wX3 cy (sh a 5) (X0_tunnels v))) hD hS hAe0 [5, 6, 7] hC
            refine va_calli (va_runV (As := [.int y9_2]) (rest := [.int r51, .ref (a 6), .ref (b 0)]) ⟨hx, hb, hml, hown, hts⟩ (c_X3_to l dC dI cy (sh a 5) _ (X0_tunnels v) y9_2 _ hq) (cwV 1 hts gX0_splitTunnels_X3_to rfl rfl rfl (by decide +kernel) ⟨Nat.le_of_ble_eq_true rfl, Nat.le_of_ble_eq_true rfl⟩) ⟨xPre_blind, va_recv hK hP (ci := 3) (q0 := 5) rfl rfl, xPre_of hPc hK hDc⟩ rfl rfl hl.1 rfl (lv_room (Nat.le_of_ble_eq_true rfl)) dX0_splitTunnels_59 ⟨Nat.le_of_ble_eq_true rfl, Nat.le_of_ble_eq_true rfl⟩) hS (fun q _ h => hFc q h) hFc (fun r59 u9 t H locs ht hvm hq hB hz1 hk1 hS => ?_)
            obtain ⟨hP1, -, hD1⟩ := hB
            rw [ht] at hP1
            have hP : va_P (dC, dI) vwCl (wX0 cy a b v ++ cX3 cy b z9_u_cells z9_u_ends z9_u_used z9_u_size) H := xj_keep hP hD [5, 6, 7] hC hP1 hk1
            have hC : (([21, 22, 23, 6] : List Nat).map (fun i => (wX0 cy a b v ++ cX3 cy b z9_u_cells z9_u_ends z9_u_used z9_u_size)[i]?)) = (cX3 cy b z9_u_cells z9_u_ends z9_u_used z9_u_size ++ cAI cy (sh a 6) 1024 (X3_cells (X0_tunnels v))).map some := (xC_app (i1 := [21, 22, 23]) (i2 := [6]) rfl (xC_one (n := 21) (m := 3) rfl rfl rfl) (xC_one (n := 6) (m := 1) rfl rfl rfl))
            have hPc := xsubP hP hC
            have hDc := xsubD hD (by decide) hC
            have hFc := va_free (wc := (cX3 cy b z9_u_cells z9_u_ends z9_u_used z9_u_size ++ cAI cy (sh a 6) 1024 (X3_cells (X0_tunnels v)))) hD hS hAe0 [21, 22, 23, 6] hC
            refine va_callv (va_runV (As := [.ref (a 6), .int r51, .int r59]) (rest := []) ⟨hx, hb, hml, hown, hts⟩ (c_X3_addRow l dC dI cy b (sh a 6) _ (z9_u_cells, z9_u_ends, z9_u_used, z9_u_size) 1024 (X3_cells (X0_tunnels v)) r51 r59 _ hq) (cwV 3 hts gX0_splitTunnels_X3_addRow rfl rfl rfl (by decide +kernel) ⟨Nat.le_of_ble_eq_true rfl, Nat.le_of_ble_eq_true rfl⟩) ⟨xPre_blind, va_recv hK hP (ci := 3) (q0 := 21) rfl rfl, xPre_of hPc hK hDc⟩ rfl rfl hl.1 rfl (lv_room (Nat.le_of_ble_eq_true rfl)) dX0_splitTunnels_62 ⟨Nat.le_of_ble_eq_true rfl, Nat.le_of_ble_eq_true rfl⟩) hS (fun q _ h => hFc q h) hFc (fun u9 t H locs ht hvm hq hB hz1 hk1 hS => ?_)
            obtain ⟨z62_v_cells, z62_v_ends, z62_v_size, z62_v_used⟩ := u9
            obtain ⟨hP1, -, hD1⟩ := hB
            rw [ht] at hP1
            obtain ⟨hP, hD⟩ := xj hP hD [21, 22, 23, 6] (cX3 cy b z62_v_cells z62_v_ends z62_v_used z62_v_size ++ cAI cy (sh a 6) 1024 (X3_cells (X0_tunnels v))) (ws' := (wX0 cy a b v ++ cX3 cy b z62_v_cells z62_v_ends z62_v_used z62_v_size)) hC rfl (xS_app (n := 21) (m := 3) (i2 := [6]) rfl rfl rfl (xS_one (n := 6) (m := 1) rfl rfl rfl)) hk1 hFc hP1
            refine lv_goto (tgt := 124) hx hb dX0_splitTunnels_65 (by decide) ?_
            refine lv_iinc (v := (y9_2 + 1)) (lv' := [(2, .int (y9_2 + 1)), (3, .int r26), (0, .ref (a 0)), (1, .int x1)]) hx hb dX0_splitTunnels_124 hl (k := 3) rfl rfl (by decide) rfl (fun ls hl => ?_)
            refine lv_goto (tgt := 9) hx hb dX0_splitTunnels_127 (by decide) ?_
            exact bk9 (y9_2 + 1) z62_v_cells z62_v_ends z62_v_size z62_v_used _ _ _ hq hP hD hS (lv_sub hl [2, 3, 0] rfl)
    exact key _ y9_2 z9_u_cells z9_u_ends z9_u_size z9_u_used H locs ls h0 (Nat.lt_succ_self _) hP hD hS hl
  refine lv_aload_n hx hb dX0_splitTunnels_0 rfl (lv_at hl 0 rfl) ?_
  refine va_get (D := (dC, dI)) (ci := 0) (v := .ref (b 0)) (C := RX0) (T := TX0) (N := 14) hx hb hts iK0 hown hK hP 0 rfl rfl 5 (by decide) lk2 (fun _ h9 => h9) rfl dX0_splitTunnels_1 ?_
  have hC : (([21, 22, 23] : List Nat).map (fun i => (wX0 cy a b v ++ wX3 cy b u)[i]?)) = (wX3 cy b u).map some := rfl
  have hPc := xsubP hP hC
  have hDc := xsubD hD (by decide) hC
  have hFc := va_free (wc := (wX3 cy b u)) hD hS hAe0 [21, 22, 23] hC
  refine va_callv (va_runV (As := []) (rest := []) ⟨hx, hb, hml, hown, hts⟩ (c_X3_empty l dC dI cy b _ u _ hq) (cwV 0 hts gX0_splitTunnels_X3_empty rfl rfl rfl (by decide +kernel) ⟨Nat.le_of_ble_eq_true rfl, Nat.le_of_ble_eq_true rfl⟩) ⟨xPre_blind, va_recv hK hP (ci := 3) (q0 := 21) rfl rfl, xPre_of hPc hK hDc⟩ rfl rfl hl.1 rfl (lv_room (Nat.le_of_ble_eq_true rfl)) dX0_splitTunnels_4 ⟨Nat.le_of_ble_eq_true rfl, Nat.le_of_ble_eq_true rfl⟩) hS (fun q _ h => hFc q h) hFc (fun u9 t H locs ht hvm hq hB hz1 hk1 hS => ?_)
  obtain ⟨z4_v_size, z4_v_used⟩ := u9
  obtain ⟨hP1, -, hD1⟩ := hB
  rw [ht] at hP1
  obtain ⟨hP, hD⟩ := xj hP hD [21, 22, 23] (cX3 cy b (X3_cells u) (X3_ends u) z4_v_used z4_v_size) (ws' := (wX0 cy a b v ++ cX3 cy b (X3_cells u) (X3_ends u) z4_v_used z4_v_size)) hC rfl rfl hk1 hFc hP1
  refine lv_iconst (v := 0) hx hb dX0_splitTunnels_7 (by decide) ?_
  refine lv_istore_n (lv' := [(2, .int 0), (0, .ref (a 0)), (1, .int x1)]) hx hb dX0_splitTunnels_8 rfl hl (by decide) rfl (fun ls hl => ?_)
  exact J9  0 (X3_cells u) (X3_ends u) z4_v_size z4_v_used _ _ _ hq hP hD hS (lv_sub hl [1, 2, 0] rfl)
