def wb_X0_splitTunnels_9 (v : V_X0) (u : V_X3) (x1 : Int32)  (y9_2 : Int32) (z9_u_cells : (Nat → Int32)) (z9_u_ends : (Nat → Int32)) (z9_u_size : Int32) (z9_u_used : Int32) (B9 : Int32 → (Nat → Int32) → (Nat → Int32) → Int32 → Int32 → Prop) (Q : (Nat → Int32) → (Nat → Int32) → Int32 → Int32 → V_X3 → Prop) : Prop :=
  (((X3_size (X0_tunnels v)) ≤ y9_2 → wp_X3_copyFrom (X0_tunnels v) (X3_s3 (X3_s2 (X3_s1 (X3_s0 u z9_u_cells) z9_u_ends) z9_u_used) z9_u_size) (fun z138_v_cells z138_v_ends z138_v_size z138_v_used =>
  Q z9_u_cells z9_u_ends z9_u_size z9_u_used (X3_s3 (X3_s2 (X3_s1 (X3_s0 (X0_tunnels v) z138_v_cells) z138_v_ends) z138_v_used) z138_v_size))) ∧
  (¬ (X3_size (X0_tunnels v)) ≤ y9_2 → wp_X3_firstIndex (X0_tunnels v) y9_2 x1 (fun r26 =>
  ((r26 = (-1) → wp_X3_from (X0_tunnels v) y9_2 (fun r51 =>
  wp_X3_to (X0_tunnels v) y9_2 (fun r59 =>
  wp_X3_addRow (X3_s3 (X3_s2 (X3_s1 (X3_s0 u z9_u_cells) z9_u_ends) z9_u_used) z9_u_size) 1024 (X3_cells (X0_tunnels v)) r51 r59 (fun z62_v_cells z62_v_ends z62_v_size z62_v_used =>
  B9 (y9_2 + 1) z62_v_cells z62_v_ends z62_v_size z62_v_used)))) ∧
  (¬ r26 = (-1) → wp_X3_from (X0_tunnels v) y9_2 (fun r84 =>
  wp_X3_addRow (X3_s3 (X3_s2 (X3_s1 (X3_s0 u z9_u_cells) z9_u_ends) z9_u_used) z9_u_size) 1024 (X3_cells (X0_tunnels v)) r84 (r26 + 1) (fun z90_v_cells z90_v_ends z90_v_size z90_v_used =>
  wp_X3_lastIndex (X0_tunnels v) y9_2 x1 (fun r110 =>
  wp_X3_to (X0_tunnels v) y9_2 (fun r118 =>
  wp_X3_addRow (X3_s3 (X3_s2 (X3_s1 (X3_s0 u z90_v_cells) z90_v_ends) z90_v_used) z90_v_size) 1024 (X3_cells (X0_tunnels v)) r110 r118 (fun z121_v_cells z121_v_ends z121_v_size z121_v_used =>
  B9 (y9_2 + 1) z121_v_cells z121_v_ends z121_v_size z121_v_used))))))))))
def wp_X0_splitTunnels_9 (v : V_X0) (u : V_X3) (x1 : Int32)  (y9_2 : Int32) (z9_u_cells : (Nat → Int32)) (z9_u_ends : (Nat → Int32)) (z9_u_size : Int32) (z9_u_used : Int32) (Q : (Nat → Int32) → (Nat → Int32) → Int32 → Int32 → V_X3 → Prop) : Prop :=
  ∃ (I : Int32 → (Nat → Int32) → (Nat → Int32) → Int32 → Int32 → Prop) (μ : Int32 → (Nat → Int32) → (Nat → Int32) → Int32 → Int32 → Nat), I y9_2 z9_u_cells z9_u_ends z9_u_size z9_u_used ∧ ∀ (s0 : Int32) (s1 : (Nat → Int32)) (s2 : (Nat → Int32)) (s3 : Int32) (s4 : Int32), I s0 s1 s2 s3 s4 → wb_X0_splitTunnels_9 v u x1  s0 s1 s2 s3 s4 (fun t0 t1 t2 t3 t4 => I t0 t1 t2 t3 t4 ∧ μ t0 t1 t2 t3 t4 < μ s0 s1 s2 s3 s4) Q
def wp_X0_splitTunnels (v : V_X0) (u : V_X3) (x1 : Int32) (Q : (Nat → Int32) → (Nat → Int32) → Int32 → Int32 → V_X3 → Prop) : Prop :=
  wp_X3_empty u (fun z4_v_size z4_v_used =>
  wp_X0_splitTunnels_9 v u x1  0 (X3_cells u) (X3_ends u) z4_v_size z4_v_used Q)
def q_X0_splitTunnels (dC : Nat → ClassId) (dI : Nat → Nat → Nat) (cy : Nat → ClassId) (a b : Nat → Nat) (v : V_X0) (u : V_X3) (x1 : Int32) (Q : (Nat → Int32) → (Nat → Int32) → Int32 → Int32 → V_X3 → Prop) (A : Nat → Prop) : Array Value → State → Outcome → State → Prop := va_Qv (fun (u : (Nat → Int32) × (Nat → Int32) × Int32 × Int32 × V_X3) => Q u.1 u.2.1 u.2.2.1 u.2.2.2.1 u.2.2.2.2) (fun (u : (Nat → Int32) × (Nat → Int32) × Int32 × Int32 × V_X3) t => xAt dC dI cy A (cX0 cy a b (X0_mounds v) (X0_opened v) (X0_roots v) (X0_traps v) u.2.2.2.2 (X0_molesR v) (X0_moles v) (X0_moleCount v) (X0_fullAir v) (X0_beats v) (X0_caught v) (X0_gnawed v) (X0_risen v) (X0_fallen v) ++ cX3 cy b u.1 u.2.1 u.2.2.2.1 u.2.2.1) t) A
set_option maxHeartbeats 4000000 in
set_option maxRecDepth 100000 in
theorem c_X0_splitTunnels (l : Launch) (dC : Nat → ClassId) (dI : Nat → Nat → Nat) (cy : Nat → ClassId) (a b : Nat → Nat) (sz : Nat) (v : V_X0) (u : V_X3) (x1 : Int32) (Q : (Nat → Int32) → (Nat → Int32) → Int32 → Int32 → V_X3 → Prop) (hq : wp_X0_splitTunnels v u x1 Q) : Met l yX0_splitTunnels wsX0_splitTunnels ({ frames := 2, cells := 0, slots := 0, locals := 50 } : Room) (va_Pc [.ref (a 0), .int x1] (xPre dC dI cy (wX0 cy a b v ++ wX3 cy b u) sz)) (q_X0_splitTunnels dC dI cy a b v u x1 Q (va_A (wX0 cy a b v ++ wX3 cy b u) sz)) 0 0 (va_A (wX0 cy a b v ++ wX3 cy b u) sz) := by
  refine Met.ofW (cc := cX0_splitTunnels) (maxL := 4) (ret := none) (by decide) rfl ?_
  intro p e s m args below meth c s₁ B hml hv
  obtain ⟨rfl, hsz, hP, hK, hD0⟩ := hv
  have hx := B.exec
  have hb := B.bytes
  have hr := B.returns
  have hts := atoms_spec (ws := wsX0_splitTunnels) B.pre
  have hown : s.vm.findClass RX0 = some m.cls := findClass_of_methodNamed B.named
  have hlocks := B.notSynchronized
  subst hsz
  have hD := hD0.self (sz := s.heap.size)
  generalize hAe : va_A (wX0 cy a b v ++ wX3 cy b u) s.heap.size = A at hD ⊢
  have hAe0 : ∀ q : Nat, s.heap.size ≤ q → A q := fun q h => by rw [← hAe]; exact Or.inr h
  have hS : va_S A s.heap s.heap [] := va_S.rf
  have hl := lv_entry ([.ref (a 0), .int x1]) (n := 4) (Nat.le_of_ble_eq_true rfl)
  rw [lg_entry_eq]
  generalize (lg_sl ([.ref (a 0), .int x1]) ++ List.replicate (4 - (lg_sl ([.ref (a 0), .int x1])).length) Slot.unset).toArray = ls at hl ⊢
  have hl : lv_has ls 4 [(0, .ref (a 0)), (1, .int x1)] := hl
  have lk0 := hts (Cond.fieldLink RX0 28 "MolesLawn$Lawn" "tunnels" "LMolesLawn$Rows;") (List.mem_cons_of_mem _ (List.mem_append_left _ (List.mem_append_left _ (List.mem_append_left _ (List.mem_of_getElem? (i := 1) rfl)))))
  have lk1 := hts (Cond.fieldLink RX0 123 "MolesLawn$Rows" "size" "I") (List.mem_cons_of_mem _ (List.mem_append_left _ (List.mem_append_left _ (List.mem_append_left _ (List.mem_of_getElem? (i := 2) rfl)))))
  have lk2 := hts (Cond.fieldLink RX0 42 "MolesLawn$Lawn" "spare" "LMolesLawn$Rows;") (List.mem_cons_of_mem _ (List.mem_append_left _ (List.mem_append_left _ (List.mem_append_left _ (List.mem_of_getElem? (i := 0) rfl)))))
  have lk3 := hts (Cond.fieldLink RX0 128 "MolesLawn$Rows" "cells" "[I") (List.mem_cons_of_mem _ (List.mem_append_left _ (List.mem_append_left _ (List.mem_append_left _ (List.mem_of_getElem? (i := 3) rfl)))))
  have iK0 : ∀ w ∈ wsX00, w ∈ wsX0_splitTunnels := fun _ h => (List.mem_cons_of_mem _ (List.mem_append_left _ (List.mem_append_right _ h)))
  have iK3 : ∀ w ∈ wsX30, w ∈ wsX0_splitTunnels := fun _ h => (List.mem_cons_of_mem _ (List.mem_append_right _ h))
  unfold wp_X0_splitTunnels at hq
  have J9 : ∀  (y9_2 : Int32) (z9_u_cells : (Nat → Int32)) (z9_u_ends : (Nat → Int32)) (z9_u_size : Int32) (z9_u_used : Int32) (H : Heap) (locs : List Loc) (ls : Array Slot), wp_X0_splitTunnels_9 v u x1  y9_2 z9_u_cells z9_u_ends z9_u_size z9_u_used Q → va_P (dC, dI) vwCl (wX0 cy a b v ++ cX3 cy b z9_u_cells z9_u_ends z9_u_used z9_u_size) H → va_D A (wX0 cy a b v ++ cX3 cy b z9_u_cells z9_u_ends z9_u_used z9_u_size) → va_S A s.heap H locs → lv_has ls 4 [(0, .ref (a 0)), (1, .int x1), (2, .int y9_2)] → W p l e (headSpec wsX0_splitTunnels ({ frames := 2, cells := 0, slots := 0, locals := 50 } : Room)).room s m ([.ref (a 0), .int x1] : List Value).toArray below meth c H locs 0 0 (MQ below (q_X0_splitTunnels dC dI cy a b v u x1 Q A) ([.ref (a 0), .int x1] : List Value).toArray s 0 0 A) (F0 m 9 ls []) := by
    intro  y9_2 z9_u_cells z9_u_ends z9_u_size z9_u_used H locs ls hq hP hD hS hl
    obtain ⟨I9, μ9, h0, hs9⟩ := hq
    have key : ∀ (n : Nat) (y9_2 : Int32) (z9_u_cells : (Nat → Int32)) (z9_u_ends : (Nat → Int32)) (z9_u_size : Int32) (z9_u_used : Int32) (H : Heap) (locs : List Loc) (ls : Array Slot), I9 y9_2 z9_u_cells z9_u_ends z9_u_size z9_u_used → μ9 y9_2 z9_u_cells z9_u_ends z9_u_size z9_u_used < n → va_P (dC, dI) vwCl (wX0 cy a b v ++ cX3 cy b z9_u_cells z9_u_ends z9_u_used z9_u_size) H → va_D A (wX0 cy a b v ++ cX3 cy b z9_u_cells z9_u_ends z9_u_used z9_u_size) → va_S A s.heap H locs → lv_has ls 4 [(0, .ref (a 0)), (1, .int x1), (2, .int y9_2)] → W p l e (headSpec wsX0_splitTunnels ({ frames := 2, cells := 0, slots := 0, locals := 50 } : Room)).room s m ([.ref (a 0), .int x1] : List Value).toArray below meth c H locs 0 0 (MQ below (q_X0_splitTunnels dC dI cy a b v u x1 Q A) ([.ref (a 0), .int x1] : List Value).toArray s 0 0 A) (F0 m 9 ls []) := by
      intro n
      induction n with
      | zero => intro y9_2 z9_u_cells z9_u_ends z9_u_size z9_u_used H locs ls _ hm; exact absurd hm (Nat.not_lt_zero _)
      | succ n ih =>
        intro y9_2 z9_u_cells z9_u_ends z9_u_size z9_u_used H locs ls hI hm hP hD hS hl
        have hq := hs9 y9_2 z9_u_cells z9_u_ends z9_u_size z9_u_used hI
        generalize hB9 : (fun (t0 : Int32) (t1 : (Nat → Int32)) (t2 : (Nat → Int32)) (t3 : Int32) (t4 : Int32) => I9 t0 t1 t2 t3 t4 ∧ μ9 t0 t1 t2 t3 t4 < μ9 y9_2 z9_u_cells z9_u_ends z9_u_size z9_u_used) = B9 at hq
        have bk9 : ∀ (y9_2 : Int32) (z9_u_cells : (Nat → Int32)) (z9_u_ends : (Nat → Int32)) (z9_u_size : Int32) (z9_u_used : Int32) (H : Heap) (locs : List Loc) (ls : Array Slot), B9 y9_2 z9_u_cells z9_u_ends z9_u_size z9_u_used → va_P (dC, dI) vwCl (wX0 cy a b v ++ cX3 cy b z9_u_cells z9_u_ends z9_u_used z9_u_size) H → va_D A (wX0 cy a b v ++ cX3 cy b z9_u_cells z9_u_ends z9_u_used z9_u_size) → va_S A s.heap H locs → lv_has ls 4 [(0, .ref (a 0)), (1, .int x1), (2, .int y9_2)] → W p l e (headSpec wsX0_splitTunnels ({ frames := 2, cells := 0, slots := 0, locals := 50 } : Room)).room s m ([.ref (a 0), .int x1] : List Value).toArray below meth c H locs 0 0 (MQ below (q_X0_splitTunnels dC dI cy a b v u x1 Q A) ([.ref (a 0), .int x1] : List Value).toArray s 0 0 A) (F0 m 9 ls []) := by
          intro y9_2 z9_u_cells z9_u_ends z9_u_size z9_u_used H locs ls h
          rw [← hB9] at h
          exact ih y9_2 z9_u_cells z9_u_ends z9_u_size z9_u_used H locs ls h.1 (Nat.lt_of_lt_of_le h.2 (Nat.le_of_lt_succ hm))
        unfold wb_X0_splitTunnels_9 at hq
        refine lv_iload_n hx hb dX0_splitTunnels_9 rfl (lv_at hl 2 rfl) ?_
        refine lv_aload_n hx hb dX0_splitTunnels_10 rfl (lv_at hl 0 rfl) ?_
        refine va_get (D := (dC, dI)) (ci := 0) (v := .ref (a 5)) (C := RX0) (T := TX0) (N := 14) hx hb hts iK0 hown hK hP 0 rfl rfl 4 (by decide) lk0 (fun _ h9 => h9) rfl dX0_splitTunnels_11 ?_
        refine va_get (D := (dC, dI)) (ci := 3) (v := .int (X3_size (X0_tunnels v))) (C := RX3) (T := TX3) (N := 4) hx hb hts iK3 hown hK hP 5 rfl rfl 3 (by decide) lk1 (fun _ h9 => h9) rfl dX0_splitTunnels_14 ?_
        obtain ⟨hqA, hqB⟩ := hq
        refine lv_icmp_ge (tgt := 130) hx hb dX0_splitTunnels_17 (by decide) (fun c2 => ?_) (fun c2 => ?_)
        · have hq := hqA c2
          refine lv_aload_n hx hb dX0_splitTunnels_130 rfl (lv_at hl 0 rfl) ?_
          refine va_get (D := (dC, dI)) (ci := 0) (v := .ref (a 5)) (C := RX0) (T := TX0) (N := 14) hx hb hts iK0 hown hK hP 0 rfl rfl 4 (by decide) lk0 (fun _ h9 => h9) rfl dX0_splitTunnels_131 ?_
          refine lv_aload_n hx hb dX0_splitTunnels_134 rfl (lv_at hl 0 rfl) ?_
          refine va_get (D := (dC, dI)) (ci := 0) (v := .ref (b 0)) (C := RX0) (T := TX0) (N := 14) hx hb hts iK0 hown hK hP 0 rfl rfl 5 (by decide) lk2 (fun _ h9 => h9) rfl dX0_splitTunnels_135 ?_
          have hC : (([5, 6, 7, 21, 22, 23] : List Nat).map (fun i => (wX0 cy a b v ++ cX3 cy b z9_u_cells z9_u_ends z9_u_used z9_u_size)[i]?)) = (wX3 cy (sh a 5) (X0_tunnels v) ++ cX3 cy b z9_u_cells z9_u_ends z9_u_used z9_u_size).map some := rfl
          have hPc := xsubP hP hC
          have hDc := xsubD hD (by decide) hC
          have hFc := va_free (wc := (wX3 cy (sh a 5) (X0_tunnels v) ++ cX3 cy b z9_u_cells z9_u_ends z9_u_used z9_u_size)) hD hS hAe0 [5, 6, 7, 21, 22, 23] hC
          refine va_callv (va_runV (As := [.ref (b 0)]) (rest := []) ⟨hx, hb, hml, hown, hts⟩ (c_X3_copyFrom l dC dI cy (sh a 5) b _ (X0_tunnels v) (X3_s3 (X3_s2 (X3_s1 (X3_s0 u z9_u_cells) z9_u_ends) z9_u_used) z9_u_size) _ hq) (cwV 1 hts gX0_splitTunnels_X3_copyFrom rfl rfl rfl (by decide +kernel) ⟨Nat.le_of_ble_eq_true rfl, Nat.le_of_ble_eq_true rfl⟩) ⟨xPre_blind, va_recv hK hP (ci := 3) (q0 := 5) rfl rfl, xPre_of hPc hK hDc⟩ rfl rfl hl.1 rfl (lv_room (Nat.le_of_ble_eq_true rfl)) dX0_splitTunnels_138 ⟨Nat.le_of_ble_eq_true rfl, Nat.le_of_ble_eq_true rfl⟩) hS (fun q _ h => hFc q h) hFc (fun u t H locs ht hvm hq hB hz1 hk1 hS => ?_)
          obtain ⟨z138_v_cells, z138_v_ends, z138_v_size, z138_v_used⟩ := u
          obtain ⟨hP1, -, hD1⟩ := hB
          rw [ht] at hP1
          obtain ⟨hP, hD⟩ := xj hP hD [5, 6, 7, 21, 22, 23] (cX3 cy (sh a 5) z138_v_cells z138_v_ends z138_v_used z138_v_size ++ cX3 cy b z9_u_cells z9_u_ends z9_u_used z9_u_size) (ws' := (cX0 cy a b (X0_mounds v) (X0_opened v) (X0_roots v) (X0_traps v) (z138_v_cells, z138_v_ends, z138_v_used, z138_v_size) (X0_molesR v) (X0_moles v) (X0_moleCount v) (X0_fullAir v) (X0_beats v) (X0_caught v) (X0_gnawed v) (X0_risen v) (X0_fallen v) ++ cX3 cy b z9_u_cells z9_u_ends z9_u_used z9_u_size)) hC rfl rfl hk1 hFc hP1
          exact W.vret hx hb hr (fun t ht hW => ⟨⟨(z9_u_cells, z9_u_ends, z9_u_size, z9_u_used, (X3_s3 (X3_s2 (X3_s1 (X3_s0 (X0_tunnels v) z138_v_cells) z138_v_ends) z138_v_used) z138_v_size)), rfl, hq, (xAt_of hP hK hD ht hW)⟩, hS.F ht⟩) hS.2.2 dX0_splitTunnels_141
        · have hq := hqB c2
          refine lv_aload_n hx hb dX0_splitTunnels_20 rfl (lv_at hl 0 rfl) ?_
          refine va_get (D := (dC, dI)) (ci := 0) (v := .ref (a 5)) (C := RX0) (T := TX0) (N := 14) hx hb hts iK0 hown hK hP 0 rfl rfl 4 (by decide) lk0 (fun _ h9 => h9) rfl dX0_splitTunnels_21 ?_
          refine lv_iload_n hx hb dX0_splitTunnels_24 rfl (lv_at hl 2 rfl) ?_
          refine lv_iload_n hx hb dX0_splitTunnels_25 rfl (lv_at hl 1 rfl) ?_
          have hC : (([5, 6, 7] : List Nat).map (fun i => (wX0 cy a b v ++ cX3 cy b z9_u_cells z9_u_ends z9_u_used z9_u_size)[i]?)) = (wX3 cy (sh a 5) (X0_tunnels v)).map some := rfl
          have hPc := xsubP hP hC
          have hDc := xsubD hD (by decide) hC
          have hFc := va_free (wc := (wX3 cy (sh a 5) (X0_tunnels v))) hD hS hAe0 [5, 6, 7] hC
          refine va_calli (va_runV (As := [.int y9_2, .int x1]) (rest := []) ⟨hx, hb, hml, hown, hts⟩ (c_X3_firstIndex l dC dI cy (sh a 5) _ (X0_tunnels v) y9_2 x1 _ hq) (cwV 2 hts gX0_splitTunnels_X3_firstIndex rfl rfl rfl (by decide +kernel) ⟨Nat.le_of_ble_eq_true rfl, Nat.le_of_ble_eq_true rfl⟩) ⟨xPre_blind, va_recv hK hP (ci := 3) (q0 := 5) rfl rfl, xPre_of hPc hK hDc⟩ rfl rfl hl.1 rfl (lv_room (Nat.le_of_ble_eq_true rfl)) dX0_splitTunnels_26 ⟨Nat.le_of_ble_eq_true rfl, Nat.le_of_ble_eq_true rfl⟩) hS (fun q _ h => hFc q h) hFc (fun r26 u t H locs ht hvm hq hB hz1 hk1 hS => ?_)
          obtain ⟨hP1, -, hD1⟩ := hB
          rw [ht] at hP1
          have hP : va_P (dC, dI) vwCl (wX0 cy a b v ++ cX3 cy b z9_u_cells z9_u_ends z9_u_used z9_u_size) H := xj_keep hP hD [5, 6, 7] hC hP1 hk1
          refine lv_istore_n (lv' := [(3, .int r26), (0, .ref (a 0)), (1, .int x1), (2, .int y9_2)]) hx hb dX0_splitTunnels_29 rfl hl (by decide) rfl (fun ls hl => ?_)
          refine lv_iload_n hx hb dX0_splitTunnels_30 rfl (lv_at hl 0 rfl) ?_
          refine lv_iconst (v := (-1)) hx hb dX0_splitTunnels_31 (by decide) ?_
          obtain ⟨hqA, hqB⟩ := hq
          refine lv_icmp_ne (tgt := 68) hx hb dX0_splitTunnels_32 (by decide) (fun c1 => ?_) (fun c1 => ?_)
          · have hq := hqB c1
            refine lv_aload_n hx hb dX0_splitTunnels_68 rfl (lv_at hl 1 rfl) ?_
            refine va_get (D := (dC, dI)) (ci := 0) (v := .ref (b 0)) (C := RX0) (T := TX0) (N := 14) hx hb hts iK0 hown hK hP 0 rfl rfl 5 (by decide) lk2 (fun _ h9 => h9) rfl dX0_splitTunnels_69 ?_
            refine lv_aload_n hx hb dX0_splitTunnels_72 rfl (lv_at hl 1 rfl) ?_
            refine va_get (D := (dC, dI)) (ci := 0) (v := .ref (a 5)) (C := RX0) (T := TX0) (N := 14) hx hb hts iK0 hown hK hP 0 rfl rfl 4 (by decide) lk0 (fun _ h9 => h9) rfl dX0_splitTunnels_73 ?_
            refine va_get (D := (dC, dI)) (ci := 3) (v := .ref (a 6)) (C := RX3) (T := TX3) (N := 4) hx hb hts iK3 hown hK hP 5 rfl rfl 0 (by decide) lk3 (fun _ h9 => h9) rfl dX0_splitTunnels_76 ?_
            refine lv_aload_n hx hb dX0_splitTunnels_79 rfl (lv_at hl 1 rfl) ?_
            refine va_get (D := (dC, dI)) (ci := 0) (v := .ref (a 5)) (C := RX0) (T := TX0) (N := 14) hx hb hts iK0 hown hK hP 0 rfl rfl 4 (by decide) lk0 (fun _ h9 => h9) rfl dX0_splitTunnels_80 ?_
            refine lv_iload_n hx hb dX0_splitTunnels_83 rfl (lv_at hl 3 rfl) ?_
            have hC : (([5, 6, 7] : List Nat).map (fun i => (wX0 cy a b v ++ cX3 cy b z9_u_cells z9_u_ends z9_u_used z9_u_size)[i]?)) = (wX3 cy (sh a 5) (X0_tunnels v)).map some := rfl
            have hPc := xsubP hP hC
            have hDc := xsubD hD (by decide) hC
            have hFc := va_free (wc := (wX3 cy (sh a 5) (X0_tunnels v))) hD hS hAe0 [5, 6, 7] hC
            refine va_calli (va_runV (As := [.int y9_2]) (rest := [.ref (a 6), .ref (b 0)]) ⟨hx, hb, hml, hown, hts⟩ (c_X3_from l dC dI cy (sh a 5) _ (X0_tunnels v) y9_2 _ hq) (cwV 1 hts gX0_splitTunnels_X3_from rfl rfl rfl (by decide +kernel) ⟨Nat.le_of_ble_eq_true rfl, Nat.le_of_ble_eq_true rfl⟩) ⟨xPre_blind, va_recv hK hP (ci := 3) (q0 := 5) rfl rfl, xPre_of hPc hK hDc⟩ rfl rfl hl.1 rfl (lv_room (Nat.le_of_ble_eq_true rfl)) dX0_splitTunnels_84 ⟨Nat.le_of_ble_eq_true rfl, Nat.le_of_ble_eq_true rfl⟩) hS (fun q _ h => hFc q h) hFc (fun r84 u t H locs ht hvm hq hB hz1 hk1 hS => ?_)
            obtain ⟨hP1, -, hD1⟩ := hB
            rw [ht] at hP1
            have hP : va_P (dC, dI) vwCl (wX0 cy a b v ++ cX3 cy b z9_u_cells z9_u_ends z9_u_used z9_u_size) H := xj_keep hP hD [5, 6, 7] hC hP1 hk1
            refine lv_iload_n hx hb dX0_splitTunnels_87 rfl (lv_at hl 0 rfl) ?_
            refine lv_iconst (v := 1) hx hb dX0_splitTunnels_88 (by decide) ?_
            refine lv_iadd hx hb dX0_splitTunnels_89 ?_
            have hC : (([21, 22, 23, 6] : List Nat).map (fun i => (wX0 cy a b v ++ cX3 cy b z9_u_cells z9_u_ends z9_u_used z9_u_size)[i]?)) = (cX3 cy b z9_u_cells z9_u_ends z9_u_used z9_u_size ++ cAI cy (sh a 6) 1024 (X3_cells (X0_tunnels v))).map some := rfl
            have hPc := xsubP hP hC
            have hDc := xsubD hD (by decide) hC
            have hFc := va_free (wc := (cX3 cy b z9_u_cells z9_u_ends z9_u_used z9_u_size ++ cAI cy (sh a 6) 1024 (X3_cells (X0_tunnels v)))) hD hS hAe0 [21, 22, 23, 6] hC
            refine va_callv (va_runV (As := [.ref (a 6), .int r84, .int (r26 + 1)]) (rest := []) ⟨hx, hb, hml, hown, hts⟩ (c_X3_addRow l dC dI cy b (sh a 6) _ (X3_s3 (X3_s2 (X3_s1 (X3_s0 u z9_u_cells) z9_u_ends) z9_u_used) z9_u_size) 1024 (X3_cells (X0_tunnels v)) r84 (r26 + 1) _ hq) (cwV 3 hts gX0_splitTunnels_X3_addRow rfl rfl rfl (by decide +kernel) ⟨Nat.le_of_ble_eq_true rfl, Nat.le_of_ble_eq_true rfl⟩) ⟨xPre_blind, va_recv hK hP (ci := 3) (q0 := 21) rfl rfl, xPre_of hPc hK hDc⟩ rfl rfl hl.1 rfl (lv_room (Nat.le_of_ble_eq_true rfl)) dX0_splitTunnels_90 ⟨Nat.le_of_ble_eq_true rfl, Nat.le_of_ble_eq_true rfl⟩) hS (fun q _ h => hFc q h) hFc (fun u t H locs ht hvm hq hB hz1 hk1 hS => ?_)
            obtain ⟨z90_v_cells, z90_v_ends, z90_v_size, z90_v_used⟩ := u
            obtain ⟨hP1, -, hD1⟩ := hB
            rw [ht] at hP1
            obtain ⟨hP, hD⟩ := xj hP hD [21, 22, 23, 6] (cX3 cy b z90_v_cells z90_v_ends z90_v_used z90_v_size ++ cAI cy (sh a 6) 1024 (X3_cells (X0_tunnels v))) (ws' := (wX0 cy a b v ++ cX3 cy b z90_v_cells z90_v_ends z90_v_used z90_v_size)) hC rfl rfl hk1 hFc hP1
            refine lv_aload_n hx hb dX0_splitTunnels_93 rfl (lv_at hl 1 rfl) ?_
            refine va_get (D := (dC, dI)) (ci := 0) (v := .ref (b 0)) (C := RX0) (T := TX0) (N := 14) hx hb hts iK0 hown hK hP 0 rfl rfl 5 (by decide) lk2 (fun _ h9 => h9) rfl dX0_splitTunnels_94 ?_
            refine lv_aload_n hx hb dX0_splitTunnels_97 rfl (lv_at hl 1 rfl) ?_
            refine va_get (D := (dC, dI)) (ci := 0) (v := .ref (a 5)) (C := RX0) (T := TX0) (N := 14) hx hb hts iK0 hown hK hP 0 rfl rfl 4 (by decide) lk0 (fun _ h9 => h9) rfl dX0_splitTunnels_98 ?_
            refine va_get (D := (dC, dI)) (ci := 3) (v := .ref (a 6)) (C := RX3) (T := TX3) (N := 4) hx hb hts iK3 hown hK hP 5 rfl rfl 0 (by decide) lk3 (fun _ h9 => h9) rfl dX0_splitTunnels_101 ?_
            refine lv_aload_n hx hb dX0_splitTunnels_104 rfl (lv_at hl 1 rfl) ?_
            refine va_get (D := (dC, dI)) (ci := 0) (v := .ref (a 5)) (C := RX0) (T := TX0) (N := 14) hx hb hts iK0 hown hK hP 0 rfl rfl 4 (by decide) lk0 (fun _ h9 => h9) rfl dX0_splitTunnels_105 ?_
            refine lv_iload_n hx hb dX0_splitTunnels_108 rfl (lv_at hl 3 rfl) ?_
            refine lv_iload_n hx hb dX0_splitTunnels_109 rfl (lv_at hl 2 rfl) ?_
            have hC : (([5, 6, 7] : List Nat).map (fun i => (wX0 cy a b v ++ cX3 cy b z90_v_cells z90_v_ends z90_v_used z90_v_size)[i]?)) = (wX3 cy (sh a 5) (X0_tunnels v)).map some := rfl
            have hPc := xsubP hP hC
            have hDc := xsubD hD (by decide) hC
            have hFc := va_free (wc := (wX3 cy (sh a 5) (X0_tunnels v))) hD hS hAe0 [5, 6, 7] hC
            refine va_calli (va_runV (As := [.int y9_2, .int x1]) (rest := [.ref (a 6), .ref (b 0)]) ⟨hx, hb, hml, hown, hts⟩ (c_X3_lastIndex l dC dI cy (sh a 5) _ (X0_tunnels v) y9_2 x1 _ hq) (cwV 2 hts gX0_splitTunnels_X3_lastIndex rfl rfl rfl (by decide +kernel) ⟨Nat.le_of_ble_eq_true rfl, Nat.le_of_ble_eq_true rfl⟩) ⟨xPre_blind, va_recv hK hP (ci := 3) (q0 := 5) rfl rfl, xPre_of hPc hK hDc⟩ rfl rfl hl.1 rfl (lv_room (Nat.le_of_ble_eq_true rfl)) dX0_splitTunnels_110 ⟨Nat.le_of_ble_eq_true rfl, Nat.le_of_ble_eq_true rfl⟩) hS (fun q _ h => hFc q h) hFc (fun r110 u t H locs ht hvm hq hB hz1 hk1 hS => ?_)
            obtain ⟨hP1, -, hD1⟩ := hB
            rw [ht] at hP1
            have hP : va_P (dC, dI) vwCl (wX0 cy a b v ++ cX3 cy b z90_v_cells z90_v_ends z90_v_used z90_v_size) H := xj_keep hP hD [5, 6, 7] hC hP1 hk1
            refine lv_aload_n hx hb dX0_splitTunnels_113 rfl (lv_at hl 1 rfl) ?_
            refine va_get (D := (dC, dI)) (ci := 0) (v := .ref (a 5)) (C := RX0) (T := TX0) (N := 14) hx hb hts iK0 hown hK hP 0 rfl rfl 4 (by decide) lk0 (fun _ h9 => h9) rfl dX0_splitTunnels_114 ?_
            refine lv_iload_n hx hb dX0_splitTunnels_117 rfl (lv_at hl 3 rfl) ?_
            have hC : (([5, 6, 7] : List Nat).map (fun i => (wX0 cy a b v ++ cX3 cy b z90_v_cells z90_v_ends z90_v_used z90_v_size)[i]?)) = (wX3 cy (sh a 5) (X0_tunnels v)).map some := rfl
            have hPc := xsubP hP hC
            have hDc := xsubD hD (by decide) hC
            have hFc := va_free (wc := (wX3 cy (sh a 5) (X0_tunnels v))) hD hS hAe0 [5, 6, 7] hC
            refine va_calli (va_runV (As := [.int y9_2]) (rest := [.int r110, .ref (a 6), .ref (b 0)]) ⟨hx, hb, hml, hown, hts⟩ (c_X3_to l dC dI cy (sh a 5) _ (X0_tunnels v) y9_2 _ hq) (cwV 1 hts gX0_splitTunnels_X3_to rfl rfl rfl (by decide +kernel) ⟨Nat.le_of_ble_eq_true rfl, Nat.le_of_ble_eq_true rfl⟩) ⟨xPre_blind, va_recv hK hP (ci := 3) (q0 := 5) rfl rfl, xPre_of hPc hK hDc⟩ rfl rfl hl.1 rfl (lv_room (Nat.le_of_ble_eq_true rfl)) dX0_splitTunnels_118 ⟨Nat.le_of_ble_eq_true rfl, Nat.le_of_ble_eq_true rfl⟩) hS (fun q _ h => hFc q h) hFc (fun r118 u t H locs ht hvm hq hB hz1 hk1 hS => ?_)
            obtain ⟨hP1, -, hD1⟩ := hB
            rw [ht] at hP1
            have hP : va_P (dC, dI) vwCl (wX0 cy a b v ++ cX3 cy b z90_v_cells z90_v_ends z90_v_used z90_v_size) H := xj_keep hP hD [5, 6, 7] hC hP1 hk1
            have hC : (([21, 22, 23, 6] : List Nat).map (fun i => (wX0 cy a b v ++ cX3 cy b z90_v_cells z90_v_ends z90_v_used z90_v_size)[i]?)) = (cX3 cy b z90_v_cells z90_v_ends z90_v_used z90_v_size ++ cAI cy (sh a 6) 1024 (X3_cells (X0_tunnels v))).map some := rfl
            have hPc := xsubP hP hC
            have hDc := xsubD hD (by decide) hC
            have hFc := va_free (wc := (cX3 cy b z90_v_cells z90_v_ends z90_v_used z90_v_size ++ cAI cy (sh a 6) 1024 (X3_cells (X0_tunnels v)))) hD hS hAe0 [21, 22, 23, 6] hC
            refine va_callv (va_runV (As := [.ref (a 6), .int r110, .int r118]) (rest := []) ⟨hx, hb, hml, hown, hts⟩ (c_X3_addRow l dC dI cy b (sh a 6) _ (X3_s3 (X3_s2 (X3_s1 (X3_s0 u z90_v_cells) z90_v_ends) z90_v_used) z90_v_size) 1024 (X3_cells (X0_tunnels v)) r110 r118 _ hq) (cwV 3 hts gX0_splitTunnels_X3_addRow rfl rfl rfl (by decide +kernel) ⟨Nat.le_of_ble_eq_true rfl, Nat.le_of_ble_eq_true rfl⟩) ⟨xPre_blind, va_recv hK hP (ci := 3) (q0 := 21) rfl rfl, xPre_of hPc hK hDc⟩ rfl rfl hl.1 rfl (lv_room (Nat.le_of_ble_eq_true rfl)) dX0_splitTunnels_121 ⟨Nat.le_of_ble_eq_true rfl, Nat.le_of_ble_eq_true rfl⟩) hS (fun q _ h => hFc q h) hFc (fun u t H locs ht hvm hq hB hz1 hk1 hS => ?_)
            obtain ⟨z121_v_cells, z121_v_ends, z121_v_size, z121_v_used⟩ := u
            obtain ⟨hP1, -, hD1⟩ := hB
            rw [ht] at hP1
            obtain ⟨hP, hD⟩ := xj hP hD [21, 22, 23, 6] (cX3 cy b z121_v_cells z121_v_ends z121_v_used z121_v_size ++ cAI cy (sh a 6) 1024 (X3_cells (X0_tunnels v))) (ws' := (wX0 cy a b v ++ cX3 cy b z121_v_cells z121_v_ends z121_v_used z121_v_size)) hC rfl rfl hk1 hFc hP1
            refine lv_iinc (v := (y9_2 + 1)) (lv' := [(2, .int (y9_2 + 1)), (3, .int r26), (0, .ref (a 0)), (1, .int x1)]) hx hb dX0_splitTunnels_124 hl (k := 3) rfl rfl (by decide) rfl (fun ls hl => ?_)
            refine lv_goto (tgt := 9) hx hb dX0_splitTunnels_127 (by decide) ?_
            exact bk9 (y9_2 + 1) z121_v_cells z121_v_ends z121_v_size z121_v_used _ _ _ hq hP hD hS (lv_sub hl [2, 3, 0] rfl)
          · have hq := hqA c1
            refine lv_aload_n hx hb dX0_splitTunnels_35 rfl (lv_at hl 1 rfl) ?_
            refine va_get (D := (dC, dI)) (ci := 0) (v := .ref (b 0)) (C := RX0) (T := TX0) (N := 14) hx hb hts iK0 hown hK hP 0 rfl rfl 5 (by decide) lk2 (fun _ h9 => h9) rfl dX0_splitTunnels_36 ?_
            refine lv_aload_n hx hb dX0_splitTunnels_39 rfl (lv_at hl 1 rfl) ?_
            refine va_get (D := (dC, dI)) (ci := 0) (v := .ref (a 5)) (C := RX0) (T := TX0) (N := 14) hx hb hts iK0 hown hK hP 0 rfl rfl 4 (by decide) lk0 (fun _ h9 => h9) rfl dX0_splitTunnels_40 ?_
            refine va_get (D := (dC, dI)) (ci := 3) (v := .ref (a 6)) (C := RX3) (T := TX3) (N := 4) hx hb hts iK3 hown hK hP 5 rfl rfl 0 (by decide) lk3 (fun _ h9 => h9) rfl dX0_splitTunnels_43 ?_
            refine lv_aload_n hx hb dX0_splitTunnels_46 rfl (lv_at hl 1 rfl) ?_
            refine va_get (D := (dC, dI)) (ci := 0) (v := .ref (a 5)) (C := RX0) (T := TX0) (N := 14) hx hb hts iK0 hown hK hP 0 rfl rfl 4 (by decide) lk0 (fun _ h9 => h9) rfl dX0_splitTunnels_47 ?_
            refine lv_iload_n hx hb dX0_splitTunnels_50 rfl (lv_at hl 3 rfl) ?_
            have hC : (([5, 6, 7] : List Nat).map (fun i => (wX0 cy a b v ++ cX3 cy b z9_u_cells z9_u_ends z9_u_used z9_u_size)[i]?)) = (wX3 cy (sh a 5) (X0_tunnels v)).map some := rfl
            have hPc := xsubP hP hC
            have hDc := xsubD hD (by decide) hC
            have hFc := va_free (wc := (wX3 cy (sh a 5) (X0_tunnels v))) hD hS hAe0 [5, 6, 7] hC
            refine va_calli (va_runV (As := [.int y9_2]) (rest := [.ref (a 6), .ref (b 0)]) ⟨hx, hb, hml, hown, hts⟩ (c_X3_from l dC dI cy (sh a 5) _ (X0_tunnels v) y9_2 _ hq) (cwV 1 hts gX0_splitTunnels_X3_from rfl rfl rfl (by decide +kernel) ⟨Nat.le_of_ble_eq_true rfl, Nat.le_of_ble_eq_true rfl⟩) ⟨xPre_blind, va_recv hK hP (ci := 3) (q0 := 5) rfl rfl, xPre_of hPc hK hDc⟩ rfl rfl hl.1 rfl (lv_room (Nat.le_of_ble_eq_true rfl)) dX0_splitTunnels_51 ⟨Nat.le_of_ble_eq_true rfl, Nat.le_of_ble_eq_true rfl⟩) hS (fun q _ h => hFc q h) hFc (fun r51 u t H locs ht hvm hq hB hz1 hk1 hS => ?_)
            obtain ⟨hP1, -, hD1⟩ := hB
            rw [ht] at hP1
            have hP : va_P (dC, dI) vwCl (wX0 cy a b v ++ cX3 cy b z9_u_cells z9_u_ends z9_u_used z9_u_size) H := xj_keep hP hD [5, 6, 7] hC hP1 hk1
            refine lv_aload_n hx hb dX0_splitTunnels_54 rfl (lv_at hl 1 rfl) ?_
            refine va_get (D := (dC, dI)) (ci := 0) (v := .ref (a 5)) (C := RX0) (T := TX0) (N := 14) hx hb hts iK0 hown hK hP 0 rfl rfl 4 (by decide) lk0 (fun _ h9 => h9) rfl dX0_splitTunnels_55 ?_
            refine lv_iload_n hx hb dX0_splitTunnels_58 rfl (lv_at hl 3 rfl) ?_
            have hC : (([5, 6, 7] : List Nat).map (fun i => (wX0 cy a b v ++ cX3 cy b z9_u_cells z9_u_ends z9_u_used z9_u_size)[i]?)) = (wX3 cy (sh a 5) (X0_tunnels v)).map some := rfl
            have hPc := xsubP hP hC
            have hDc := xsubD hD (by decide) hC
            have hFc := va_free (wc := (wX3 cy (sh a 5) (X0_tunnels v))) hD hS hAe0 [5, 6, 7] hC
            refine va_calli (va_runV (As := [.int y9_2]) (rest := [.int r51, .ref (a 6), .ref (b 0)]) ⟨hx, hb, hml, hown, hts⟩ (c_X3_to l dC dI cy (sh a 5) _ (X0_tunnels v) y9_2 _ hq) (cwV 1 hts gX0_splitTunnels_X3_to rfl rfl rfl (by decide +kernel) ⟨Nat.le_of_ble_eq_true rfl, Nat.le_of_ble_eq_true rfl⟩) ⟨xPre_blind, va_recv hK hP (ci := 3) (q0 := 5) rfl rfl, xPre_of hPc hK hDc⟩ rfl rfl hl.1 rfl (lv_room (Nat.le_of_ble_eq_true rfl)) dX0_splitTunnels_59 ⟨Nat.le_of_ble_eq_true rfl, Nat.le_of_ble_eq_true rfl⟩) hS (fun q _ h => hFc q h) hFc (fun r59 u t H locs ht hvm hq hB hz1 hk1 hS => ?_)
            obtain ⟨hP1, -, hD1⟩ := hB
            rw [ht] at hP1
            have hP : va_P (dC, dI) vwCl (wX0 cy a b v ++ cX3 cy b z9_u_cells z9_u_ends z9_u_used z9_u_size) H := xj_keep hP hD [5, 6, 7] hC hP1 hk1
            have hC : (([21, 22, 23, 6] : List Nat).map (fun i => (wX0 cy a b v ++ cX3 cy b z9_u_cells z9_u_ends z9_u_used z9_u_size)[i]?)) = (cX3 cy b z9_u_cells z9_u_ends z9_u_used z9_u_size ++ cAI cy (sh a 6) 1024 (X3_cells (X0_tunnels v))).map some := rfl
            have hPc := xsubP hP hC
            have hDc := xsubD hD (by decide) hC
            have hFc := va_free (wc := (cX3 cy b z9_u_cells z9_u_ends z9_u_used z9_u_size ++ cAI cy (sh a 6) 1024 (X3_cells (X0_tunnels v)))) hD hS hAe0 [21, 22, 23, 6] hC
            refine va_callv (va_runV (As := [.ref (a 6), .int r51, .int r59]) (rest := []) ⟨hx, hb, hml, hown, hts⟩ (c_X3_addRow l dC dI cy b (sh a 6) _ (X3_s3 (X3_s2 (X3_s1 (X3_s0 u z9_u_cells) z9_u_ends) z9_u_used) z9_u_size) 1024 (X3_cells (X0_tunnels v)) r51 r59 _ hq) (cwV 3 hts gX0_splitTunnels_X3_addRow rfl rfl rfl (by decide +kernel) ⟨Nat.le_of_ble_eq_true rfl, Nat.le_of_ble_eq_true rfl⟩) ⟨xPre_blind, va_recv hK hP (ci := 3) (q0 := 21) rfl rfl, xPre_of hPc hK hDc⟩ rfl rfl hl.1 rfl (lv_room (Nat.le_of_ble_eq_true rfl)) dX0_splitTunnels_62 ⟨Nat.le_of_ble_eq_true rfl, Nat.le_of_ble_eq_true rfl⟩) hS (fun q _ h => hFc q h) hFc (fun u t H locs ht hvm hq hB hz1 hk1 hS => ?_)
            obtain ⟨z62_v_cells, z62_v_ends, z62_v_size, z62_v_used⟩ := u
            obtain ⟨hP1, -, hD1⟩ := hB
            rw [ht] at hP1
            obtain ⟨hP, hD⟩ := xj hP hD [21, 22, 23, 6] (cX3 cy b z62_v_cells z62_v_ends z62_v_used z62_v_size ++ cAI cy (sh a 6) 1024 (X3_cells (X0_tunnels v))) (ws' := (wX0 cy a b v ++ cX3 cy b z62_v_cells z62_v_ends z62_v_used z62_v_size)) hC rfl rfl hk1 hFc hP1
            refine lv_goto (tgt := 124) hx hb dX0_splitTunnels_65 (by decide) ?_
            refine lv_iinc (v := (y9_2 + 1)) (lv' := [(2, .int (y9_2 + 1)), (3, .int r26), (0, .ref (a 0)), (1, .int x1)]) hx hb dX0_splitTunnels_124 hl (k := 3) rfl rfl (by decide) rfl (fun ls hl => ?_)
            refine lv_goto (tgt := 9) hx hb dX0_splitTunnels_127 (by decide) ?_
            exact bk9 (y9_2 + 1) z62_v_cells z62_v_ends z62_v_size z62_v_used _ _ _ hq hP hD hS (lv_sub hl [2, 3, 0] rfl)
    exact key _ y9_2 z9_u_cells z9_u_ends z9_u_size z9_u_used H locs ls h0 (Nat.lt_succ_self _) hP hD hS hl
  refine lv_aload_n hx hb dX0_splitTunnels_0 rfl (lv_at hl 0 rfl) ?_
  refine va_get (D := (dC, dI)) (ci := 0) (v := .ref (b 0)) (C := RX0) (T := TX0) (N := 14) hx hb hts iK0 hown hK hP 0 rfl rfl 5 (by decide) lk2 (fun _ h9 => h9) rfl dX0_splitTunnels_1 ?_
  have hC : (([21, 22, 23] : List Nat).map (fun i => (wX0 cy a b v ++ wX3 cy b u)[i]?)) = (wX3 cy b u).map some := rfl
  have hPc := xsubP hP hC
  have hDc := xsubD hD (by decide) hC
  have hFc := va_free (wc := (wX3 cy b u)) hD hS hAe0 [21, 22, 23] hC
  refine va_callv (va_runV (As := []) (rest := []) ⟨hx, hb, hml, hown, hts⟩ (c_X3_empty l dC dI cy b _ u _ hq) (cwV 0 hts gX0_splitTunnels_X3_empty rfl rfl rfl (by decide +kernel) ⟨Nat.le_of_ble_eq_true rfl, Nat.le_of_ble_eq_true rfl⟩) ⟨xPre_blind, va_recv hK hP (ci := 3) (q0 := 21) rfl rfl, xPre_of hPc hK hDc⟩ rfl rfl hl.1 rfl (lv_room (Nat.le_of_ble_eq_true rfl)) dX0_splitTunnels_4 ⟨Nat.le_of_ble_eq_true rfl, Nat.le_of_ble_eq_true rfl⟩) hS (fun q _ h => hFc q h) hFc (fun u t H locs ht hvm hq hB hz1 hk1 hS => ?_)
  obtain ⟨z4_v_size, z4_v_used⟩ := u
  obtain ⟨hP1, -, hD1⟩ := hB
  rw [ht] at hP1
  obtain ⟨hP, hD⟩ := xj hP hD [21, 22, 23] (cX3 cy b (X3_cells u) (X3_ends u) z4_v_used z4_v_size) (ws' := (wX0 cy a b v ++ cX3 cy b (X3_cells u) (X3_ends u) z4_v_used z4_v_size)) hC rfl rfl hk1 hFc hP1
  refine lv_iconst (v := 0) hx hb dX0_splitTunnels_7 (by decide) ?_
  refine lv_istore_n (lv' := [(2, .int 0), (0, .ref (a 0)), (1, .int x1)]) hx hb dX0_splitTunnels_8 rfl hl (by decide) rfl (fun ls hl => ?_)
  exact J9  0 (X3_cells u) (X3_ends u) z4_v_size z4_v_used _ _ _ hq hP hD hS (lv_sub hl [1, 2, 0] rfl)
def wb_X0_ensureMound_34 (v : V_X0) (u : V_X3) (x1 : Int32) (z34_u_cells : (Nat → Int32)) (z34_u_ends : (Nat → Int32)) (z34_u_size : Int32) (z34_u_used : Int32) (z34_v_mounds : (Nat → Int32)) (z34_v_risen : Int32) (y34_2 : Int32) (z34_v_moles : (Nat → V_X1)) (z34_v_tunnels : V_X3) (B34 : Int32 → (Nat → V_X1) → V_X3 → Prop) (Q : (Nat → Int32) → (Nat → Int32) → Int32 → Int32 → (Nat → V_X1) → (Nat → Int32) → Int32 → V_X3 → Prop) : Prop :=
  (((X0_moleCount v) ≤ y34_2 → Q z34_u_cells z34_u_ends z34_u_size z34_u_used z34_v_moles z34_v_mounds z34_v_risen z34_v_tunnels) ∧
  (¬ (X0_moleCount v) ≤ y34_2 → vp_in y34_2 4 ∧ ((X0_molesR v) y34_2.toNatClampNeg) < 4 ∧ wp_X1_firstIndex (z34_v_moles ((X0_molesR v) y34_2.toNatClampNeg)) x1 (fun r51 =>
  ((r51 ≤ 0 → B34 (y34_2 + 1) z34_v_moles z34_v_tunnels) ∧
  (¬ r51 ≤ 0 → wp_X3_addRow z34_v_tunnels 21 (X1_trail (z34_v_moles ((X0_molesR v) y34_2.toNatClampNeg))) 0 (r51 + 1) (fun z74_v_cells z74_v_ends z74_v_size z74_v_used =>
  wp_X1_dropBeforeLast (z34_v_moles ((X0_molesR v) y34_2.toNatClampNeg)) x1 (fun z79_v_trail z79_v_trailLength =>
  B34 (y34_2 + 1) (va_up z34_v_moles ((X0_molesR v) y34_2.toNatClampNeg) (X1_s3 (X1_s1 (z34_v_moles ((X0_molesR v) y34_2.toNatClampNeg)) z79_v_trail) z79_v_trailLength)) (X3_s3 (X3_s2 (X3_s1 (X3_s0 z34_v_tunnels z74_v_cells) z74_v_ends) z74_v_used) z74_v_size))))))))
def wp_X0_ensureMound_34 (v : V_X0) (u : V_X3) (x1 : Int32) (z34_u_cells : (Nat → Int32)) (z34_u_ends : (Nat → Int32)) (z34_u_size : Int32) (z34_u_used : Int32) (z34_v_mounds : (Nat → Int32)) (z34_v_risen : Int32) (y34_2 : Int32) (z34_v_moles : (Nat → V_X1)) (z34_v_tunnels : V_X3) (Q : (Nat → Int32) → (Nat → Int32) → Int32 → Int32 → (Nat → V_X1) → (Nat → Int32) → Int32 → V_X3 → Prop) : Prop :=
  ∃ (I : Int32 → (Nat → V_X1) → V_X3 → Prop) (μ : Int32 → (Nat → V_X1) → V_X3 → Nat), I y34_2 z34_v_moles z34_v_tunnels ∧ ∀ (s0 : Int32) (s1 : (Nat → V_X1)) (s2 : V_X3), I s0 s1 s2 → wb_X0_ensureMound_34 v u x1 z34_u_cells z34_u_ends z34_u_size z34_u_used z34_v_mounds z34_v_risen s0 s1 s2 (fun t0 t1 t2 => I t0 t1 t2 ∧ μ t0 t1 t2 < μ s0 s1 s2) Q
def wp_X0_ensureMound (v : V_X0) (u : V_X3) (x1 : Int32) (Q : (Nat → Int32) → (Nat → Int32) → Int32 → Int32 → (Nat → V_X1) → (Nat → Int32) → Int32 → V_X3 → Prop) : Prop :=
  vp_in x1 64 ∧ ((((X0_mounds v) x1.toNatClampNeg) = 0 → wp_X0_splitTunnels (X0_s12 (X0_s0 v (upd (X0_mounds v) x1.toNatClampNeg 1)) ((X0_risen v) + 1)) u x1 (fun z29_u_cells z29_u_ends z29_u_size z29_u_used z29_v_tunnels =>
  wp_X0_ensureMound_34 v u x1 z29_u_cells z29_u_ends z29_u_size z29_u_used (upd (X0_mounds v) x1.toNatClampNeg 1) ((X0_risen v) + 1) 0 (X0_moles v) z29_v_tunnels Q)) ∧
  (¬ ((X0_mounds v) x1.toNatClampNeg) = 0 → Q (X3_cells u) (X3_ends u) (X3_size u) (X3_used u) (X0_moles v) (X0_mounds v) (X0_risen v) (X0_tunnels v)))
def q_X0_ensureMound (dC : Nat → ClassId) (dI : Nat → Nat → Nat) (cy : Nat → ClassId) (a b : Nat → Nat) (v : V_X0) (u : V_X3) (x1 : Int32) (Q : (Nat → Int32) → (Nat → Int32) → Int32 → Int32 → (Nat → V_X1) → (Nat → Int32) → Int32 → V_X3 → Prop) (A : Nat → Prop) : Array Value → State → Outcome → State → Prop := va_Qv (fun (u : (Nat → Int32) × (Nat → Int32) × Int32 × Int32 × (Nat → V_X1) × (Nat → Int32) × Int32 × V_X3) => Q u.1 u.2.1 u.2.2.1 u.2.2.2.1 u.2.2.2.2.1 u.2.2.2.2.2.1 u.2.2.2.2.2.2.1 u.2.2.2.2.2.2.2) (fun (u : (Nat → Int32) × (Nat → Int32) × Int32 × Int32 × (Nat → V_X1) × (Nat → Int32) × Int32 × V_X3) t => xAt dC dI cy A (cX0 cy a b u.2.2.2.2.2.1 (X0_opened v) (X0_roots v) (X0_traps v) u.2.2.2.2.2.2.2 (X0_molesR v) u.2.2.2.2.1 (X0_moleCount v) (X0_fullAir v) (X0_beats v) (X0_caught v) (X0_gnawed v) u.2.2.2.2.2.2.1 (X0_fallen v) ++ cX3 cy b u.1 u.2.1 u.2.2.2.1 u.2.2.1) t) A
set_option maxHeartbeats 4000000 in
set_option maxRecDepth 100000 in
theorem c_X0_ensureMound (l : Launch) (dC : Nat → ClassId) (dI : Nat → Nat → Nat) (cy : Nat → ClassId) (a b : Nat → Nat) (sz : Nat) (v : V_X0) (u : V_X3) (x1 : Int32) (Q : (Nat → Int32) → (Nat → Int32) → Int32 → Int32 → (Nat → V_X1) → (Nat → Int32) → Int32 → V_X3 → Prop) (hq : wp_X0_ensureMound v u x1 Q) : Met l yX0_ensureMound wsX0_ensureMound ({ frames := 3, cells := 0, slots := 0, locals := 73 } : Room) (va_Pc [.ref (a 0), .int x1] (xPre dC dI cy (wX0 cy a b v ++ wX3 cy b u) sz)) (q_X0_ensureMound dC dI cy a b v u x1 Q (va_A (wX0 cy a b v ++ wX3 cy b u) sz)) 0 0 (va_A (wX0 cy a b v ++ wX3 cy b u) sz) := by
  refine Met.ofW (cc := cX0_ensureMound) (maxL := 5) (ret := none) (by decide) rfl ?_
  intro p e s m args below meth c s₁ B hml hv
  obtain ⟨rfl, hsz, hP, hK, hD0⟩ := hv
  have hx := B.exec
  have hb := B.bytes
  have hr := B.returns
  have hts := atoms_spec (ws := wsX0_ensureMound) B.pre
  have hown : s.vm.findClass RX0 = some m.cls := findClass_of_methodNamed B.named
  have hlocks := B.notSynchronized
  subst hsz
  have hD := hD0.self (sz := s.heap.size)
  generalize hAe : va_A (wX0 cy a b v ++ wX3 cy b u) s.heap.size = A at hD ⊢
  have hAe0 : ∀ q : Nat, s.heap.size ≤ q → A q := fun q h => by rw [← hAe]; exact Or.inr h
  have hS : va_S A s.heap s.heap [] := va_S.rf
  have hl := lv_entry ([.ref (a 0), .int x1]) (n := 5) (Nat.le_of_ble_eq_true rfl)
  rw [lg_entry_eq]
  generalize (lg_sl ([.ref (a 0), .int x1]) ++ List.replicate (5 - (lg_sl ([.ref (a 0), .int x1])).length) Slot.unset).toArray = ls at hl ⊢
  have hl : lv_has ls 5 [(0, .ref (a 0)), (1, .int x1)] := hl
  have lk0 := hts (Cond.fieldLink RX0 56 "MolesLawn$Lawn" "moleCount" "I") (List.mem_cons_of_mem _ (List.mem_append_left _ (List.mem_append_left _ (List.mem_append_left _ (List.mem_append_left _ (List.mem_of_getElem? (i := 2) rfl))))))
  have lk1 := hts (Cond.fieldLink RX0 34 "MolesLawn$Lawn" "moles" "[LMolesLawn$Mole;") (List.mem_cons_of_mem _ (List.mem_append_left _ (List.mem_append_left _ (List.mem_append_left _ (List.mem_append_left _ (List.mem_of_getElem? (i := 3) rfl))))))
  have lk2 := hts (Cond.fieldLink RX0 28 "MolesLawn$Lawn" "tunnels" "LMolesLawn$Rows;") (List.mem_cons_of_mem _ (List.mem_append_left _ (List.mem_append_left _ (List.mem_append_left _ (List.mem_append_left _ (List.mem_of_getElem? (i := 4) rfl))))))
  have lk3 := hts (Cond.fieldLink RX0 81 "MolesLawn$Mole" "trail" "[I") (List.mem_cons_of_mem _ (List.mem_append_left _ (List.mem_append_left _ (List.mem_append_left _ (List.mem_append_left _ (List.mem_of_getElem? (i := 5) rfl))))))
  have lk4 := hts (Cond.fieldLink RX0 9 "MolesLawn$Lawn" "mounds" "[Z") (List.mem_cons_of_mem _ (List.mem_append_left _ (List.mem_append_left _ (List.mem_append_left _ (List.mem_append_left _ (List.mem_of_getElem? (i := 0) rfl))))))
  have lk5 := hts (Cond.fieldLink RX0 71 "MolesLawn$Lawn" "risen" "I") (List.mem_cons_of_mem _ (List.mem_append_left _ (List.mem_append_left _ (List.mem_append_left _ (List.mem_append_left _ (List.mem_of_getElem? (i := 1) rfl))))))
  have iK0 : ∀ w ∈ wsX00, w ∈ wsX0_ensureMound := fun _ h => (List.mem_cons_of_mem _ (List.mem_append_left _ (List.mem_append_left _ (List.mem_append_right _ h))))
  have iK1 : ∀ w ∈ wsX10, w ∈ wsX0_ensureMound := fun _ h => (List.mem_cons_of_mem _ (List.mem_append_left _ (List.mem_append_right _ h)))
  unfold wp_X0_ensureMound at hq
  have J34 : ∀ (z34_u_cells : (Nat → Int32)) (z34_u_ends : (Nat → Int32)) (z34_u_size : Int32) (z34_u_used : Int32) (z34_v_mounds : (Nat → Int32)) (z34_v_risen : Int32) (y34_2 : Int32) (z34_v_moles : (Nat → V_X1)) (z34_v_tunnels : V_X3) (H : Heap) (locs : List Loc) (ls : Array Slot), wp_X0_ensureMound_34 v u x1 z34_u_cells z34_u_ends z34_u_size z34_u_used z34_v_mounds z34_v_risen y34_2 z34_v_moles z34_v_tunnels Q → va_P (dC, dI) vwCl (cX0 cy a b z34_v_mounds (X0_opened v) (X0_roots v) (X0_traps v) z34_v_tunnels (X0_molesR v) z34_v_moles (X0_moleCount v) (X0_fullAir v) (X0_beats v) (X0_caught v) (X0_gnawed v) z34_v_risen (X0_fallen v) ++ cX3 cy b z34_u_cells z34_u_ends z34_u_used z34_u_size) H → va_D A (cX0 cy a b z34_v_mounds (X0_opened v) (X0_roots v) (X0_traps v) z34_v_tunnels (X0_molesR v) z34_v_moles (X0_moleCount v) (X0_fullAir v) (X0_beats v) (X0_caught v) (X0_gnawed v) z34_v_risen (X0_fallen v) ++ cX3 cy b z34_u_cells z34_u_ends z34_u_used z34_u_size) → va_S A s.heap H locs → lv_has ls 5 [(0, .ref (a 0)), (1, .int x1), (2, .int y34_2)] → W p l e (headSpec wsX0_ensureMound ({ frames := 3, cells := 0, slots := 0, locals := 73 } : Room)).room s m ([.ref (a 0), .int x1] : List Value).toArray below meth c H locs 0 0 (MQ below (q_X0_ensureMound dC dI cy a b v u x1 Q A) ([.ref (a 0), .int x1] : List Value).toArray s 0 0 A) (F0 m 34 ls []) := by
    intro z34_u_cells z34_u_ends z34_u_size z34_u_used z34_v_mounds z34_v_risen y34_2 z34_v_moles z34_v_tunnels H locs ls hq hP hD hS hl
    obtain ⟨I34, μ34, h0, hs34⟩ := hq
    have key : ∀ (n : Nat) (y34_2 : Int32) (z34_v_moles : (Nat → V_X1)) (z34_v_tunnels : V_X3) (H : Heap) (locs : List Loc) (ls : Array Slot), I34 y34_2 z34_v_moles z34_v_tunnels → μ34 y34_2 z34_v_moles z34_v_tunnels < n → va_P (dC, dI) vwCl (cX0 cy a b z34_v_mounds (X0_opened v) (X0_roots v) (X0_traps v) z34_v_tunnels (X0_molesR v) z34_v_moles (X0_moleCount v) (X0_fullAir v) (X0_beats v) (X0_caught v) (X0_gnawed v) z34_v_risen (X0_fallen v) ++ cX3 cy b z34_u_cells z34_u_ends z34_u_used z34_u_size) H → va_D A (cX0 cy a b z34_v_mounds (X0_opened v) (X0_roots v) (X0_traps v) z34_v_tunnels (X0_molesR v) z34_v_moles (X0_moleCount v) (X0_fullAir v) (X0_beats v) (X0_caught v) (X0_gnawed v) z34_v_risen (X0_fallen v) ++ cX3 cy b z34_u_cells z34_u_ends z34_u_used z34_u_size) → va_S A s.heap H locs → lv_has ls 5 [(0, .ref (a 0)), (1, .int x1), (2, .int y34_2)] → W p l e (headSpec wsX0_ensureMound ({ frames := 3, cells := 0, slots := 0, locals := 73 } : Room)).room s m ([.ref (a 0), .int x1] : List Value).toArray below meth c H locs 0 0 (MQ below (q_X0_ensureMound dC dI cy a b v u x1 Q A) ([.ref (a 0), .int x1] : List Value).toArray s 0 0 A) (F0 m 34 ls []) := by
      intro n
      induction n with
      | zero => intro y34_2 z34_v_moles z34_v_tunnels H locs ls _ hm; exact absurd hm (Nat.not_lt_zero _)
      | succ n ih =>
        intro y34_2 z34_v_moles z34_v_tunnels H locs ls hI hm hP hD hS hl
        have hq := hs34 y34_2 z34_v_moles z34_v_tunnels hI
        generalize hB34 : (fun (t0 : Int32) (t1 : (Nat → V_X1)) (t2 : V_X3) => I34 t0 t1 t2 ∧ μ34 t0 t1 t2 < μ34 y34_2 z34_v_moles z34_v_tunnels) = B34 at hq
        have bk34 : ∀ (y34_2 : Int32) (z34_v_moles : (Nat → V_X1)) (z34_v_tunnels : V_X3) (H : Heap) (locs : List Loc) (ls : Array Slot), B34 y34_2 z34_v_moles z34_v_tunnels → va_P (dC, dI) vwCl (cX0 cy a b z34_v_mounds (X0_opened v) (X0_roots v) (X0_traps v) z34_v_tunnels (X0_molesR v) z34_v_moles (X0_moleCount v) (X0_fullAir v) (X0_beats v) (X0_caught v) (X0_gnawed v) z34_v_risen (X0_fallen v) ++ cX3 cy b z34_u_cells z34_u_ends z34_u_used z34_u_size) H → va_D A (cX0 cy a b z34_v_mounds (X0_opened v) (X0_roots v) (X0_traps v) z34_v_tunnels (X0_molesR v) z34_v_moles (X0_moleCount v) (X0_fullAir v) (X0_beats v) (X0_caught v) (X0_gnawed v) z34_v_risen (X0_fallen v) ++ cX3 cy b z34_u_cells z34_u_ends z34_u_used z34_u_size) → va_S A s.heap H locs → lv_has ls 5 [(0, .ref (a 0)), (1, .int x1), (2, .int y34_2)] → W p l e (headSpec wsX0_ensureMound ({ frames := 3, cells := 0, slots := 0, locals := 73 } : Room)).room s m ([.ref (a 0), .int x1] : List Value).toArray below meth c H locs 0 0 (MQ below (q_X0_ensureMound dC dI cy a b v u x1 Q A) ([.ref (a 0), .int x1] : List Value).toArray s 0 0 A) (F0 m 34 ls []) := by
          intro y34_2 z34_v_moles z34_v_tunnels H locs ls h
          rw [← hB34] at h
          exact ih y34_2 z34_v_moles z34_v_tunnels H locs ls h.1 (Nat.lt_of_lt_of_le h.2 (Nat.le_of_lt_succ hm))
        unfold wb_X0_ensureMound_34 at hq
        refine lv_iload_n hx hb dX0_ensureMound_34 rfl (lv_at hl 2 rfl) ?_
        refine lv_aload_n hx hb dX0_ensureMound_35 rfl (lv_at hl 0 rfl) ?_
        refine va_get (D := (dC, dI)) (ci := 0) (v := .int (X0_moleCount v)) (C := RX0) (T := TX0) (N := 14) hx hb hts iK0 hown hK hP 0 rfl rfl 7 (by decide) lk0 (fun _ h9 => h9) rfl dX0_ensureMound_36 ?_
        obtain ⟨hqA, hqB⟩ := hq
        refine lv_icmp_ge (tgt := 88) hx hb dX0_ensureMound_39 (by decide) (fun c4 => ?_) (fun c4 => ?_)
        · have hq := hqA c4
          exact W.vret hx hb hr (fun t ht hW => ⟨⟨(z34_u_cells, z34_u_ends, z34_u_size, z34_u_used, z34_v_moles, z34_v_mounds, z34_v_risen, z34_v_tunnels), rfl, hq, (xAt_of hP hK hD ht hW)⟩, hS.F ht⟩) hS.2.2 dX0_ensureMound_88
        · have hq := hqB c4
          refine lv_aload_n hx hb dX0_ensureMound_42 rfl (lv_at hl 0 rfl) ?_
          refine va_get (D := (dC, dI)) (ci := 0) (v := .ref (a 8)) (C := RX0) (T := TX0) (N := 14) hx hb hts iK0 hown hK hP 0 rfl rfl 6 (by decide) lk1 (fun _ h9 => h9) rfl dX0_ensureMound_43 ?_
          refine lv_iload_n hx hb dX0_ensureMound_46 rfl (lv_at hl 2 rfl) ?_
          obtain ⟨g1, hq⟩ := hq
          obtain ⟨g2, hq⟩ := hq
          refine va_aldq hx hb hK hP 8 2 rfl rfl g1 dX0_ensureMound_47 ?_
          refine lv_astore_n (lv' := [(3, .ref (a (9 + 3 * ((X0_molesR v) y34_2.toNatClampNeg)))), (0, .ref (a 0)), (1, .int x1), (2, .int y34_2)]) hx hb dX0_ensureMound_48 rfl hl (by decide) rfl (fun ls hl => ?_)
          refine lv_aload_n hx hb dX0_ensureMound_49 rfl (lv_at hl 0 rfl) ?_
          refine lv_iload_n hx hb dX0_ensureMound_50 rfl (lv_at hl 2 rfl) ?_
          have hC : (([(9 + 3 * ((X0_molesR v) y34_2.toNatClampNeg)), (10 + 3 * ((X0_molesR v) y34_2.toNatClampNeg)), (11 + 3 * ((X0_molesR v) y34_2.toNatClampNeg))] : List Nat).map (fun i => (cX0 cy a b z34_v_mounds (X0_opened v) (X0_roots v) (X0_traps v) z34_v_tunnels (X0_molesR v) z34_v_moles (X0_moleCount v) (X0_fullAir v) (X0_beats v) (X0_caught v) (X0_gnawed v) z34_v_risen (X0_fallen v) ++ cX3 cy b z34_u_cells z34_u_ends z34_u_used z34_u_size)[i]?)) = (wX1 cy (sh a (9 + 3 * ((X0_molesR v) y34_2.toNatClampNeg))) (z34_v_moles ((X0_molesR v) y34_2.toNatClampNeg))).map some := (co_4 (P := fun i19 => (([(9 + 3 * i19), (10 + 3 * i19), (11 + 3 * i19)] : List Nat).map (fun i => (cX0 cy a b z34_v_mounds (X0_opened v) (X0_roots v) (X0_traps v) z34_v_tunnels (X0_molesR v) z34_v_moles (X0_moleCount v) (X0_fullAir v) (X0_beats v) (X0_caught v) (X0_gnawed v) z34_v_risen (X0_fallen v) ++ cX3 cy b z34_u_cells z34_u_ends z34_u_used z34_u_size)[i]?)) = (wX1 cy (sh a (9 + 3 * i19)) (z34_v_moles i19)).map some) rfl rfl rfl rfl g2)
          have hN : va_nd [(9 + 3 * ((X0_molesR v) y34_2.toNatClampNeg)), (10 + 3 * ((X0_molesR v) y34_2.toNatClampNeg)), (11 + 3 * ((X0_molesR v) y34_2.toNatClampNeg))] = true := (co_4 (P := fun i19 => va_nd [(9 + 3 * i19), (10 + 3 * i19), (11 + 3 * i19)] = true) rfl rfl rfl rfl g2)
          have hPc := xsubP hP hC
          have hDc := xsubD hD hN hC
          have hFc := va_free (wc := (wX1 cy (sh a (9 + 3 * ((X0_molesR v) y34_2.toNatClampNeg))) (z34_v_moles ((X0_molesR v) y34_2.toNatClampNeg)))) hD hS hAe0 [(9 + 3 * ((X0_molesR v) y34_2.toNatClampNeg)), (10 + 3 * ((X0_molesR v) y34_2.toNatClampNeg)), (11 + 3 * ((X0_molesR v) y34_2.toNatClampNeg))] hC
          refine va_calli (va_runV (As := [.int x1]) (rest := []) ⟨hx, hb, hml, hown, hts⟩ (c_X1_firstIndex l dC dI cy (sh a (9 + 3 * ((X0_molesR v) y34_2.toNatClampNeg))) _ (z34_v_moles ((X0_molesR v) y34_2.toNatClampNeg)) x1 _ hq) (cwV 1 hts gX0_ensureMound_X1_firstIndex rfl rfl rfl (by decide +kernel) ⟨Nat.le_of_ble_eq_true rfl, Nat.le_of_ble_eq_true rfl⟩) ⟨xPre_blind, va_recv hK hP (ci := 1) (q0 := (9 + 3 * ((X0_molesR v) y34_2.toNatClampNeg))) rfl (co_4 (P := fun i19 => (cX0 cy a b z34_v_mounds (X0_opened v) (X0_roots v) (X0_traps v) z34_v_tunnels (X0_molesR v) z34_v_moles (X0_moleCount v) (X0_fullAir v) (X0_beats v) (X0_caught v) (X0_gnawed v) z34_v_risen (X0_fallen v) ++ cX3 cy b z34_u_cells z34_u_ends z34_u_used z34_u_size)[(9 + 3 * i19)]? = (wX1 cy (sh a (9 + 3 * i19)) (z34_v_moles i19))[0]?) rfl rfl rfl rfl g2), xPre_of hPc hK hDc⟩ rfl rfl hl.1 rfl (lv_room (Nat.le_of_ble_eq_true rfl)) dX0_ensureMound_51 ⟨Nat.le_of_ble_eq_true rfl, Nat.le_of_ble_eq_true rfl⟩) hS (fun q _ h => hFc q h) hFc (fun r51 u t H locs ht hvm hq hB hz1 hk1 hS => ?_)
          obtain ⟨hP1, -, hD1⟩ := hB
          rw [ht] at hP1
          have hP : va_P (dC, dI) vwCl (cX0 cy a b z34_v_mounds (X0_opened v) (X0_roots v) (X0_traps v) z34_v_tunnels (X0_molesR v) z34_v_moles (X0_moleCount v) (X0_fullAir v) (X0_beats v) (X0_caught v) (X0_gnawed v) z34_v_risen (X0_fallen v) ++ cX3 cy b z34_u_cells z34_u_ends z34_u_used z34_u_size) H := xj_keep hP hD [(9 + 3 * ((X0_molesR v) y34_2.toNatClampNeg)), (10 + 3 * ((X0_molesR v) y34_2.toNatClampNeg)), (11 + 3 * ((X0_molesR v) y34_2.toNatClampNeg))] hC hP1 hk1
          refine lv_istore (lv' := [(4, .int r51), (3, .ref (a (9 + 3 * ((X0_molesR v) y34_2.toNatClampNeg)))), (0, .ref (a 0)), (1, .int x1), (2, .int y34_2)]) hx hb dX0_ensureMound_54 hl (by decide) rfl (fun ls hl => ?_)
          refine lv_iload hx hb dX0_ensureMound_56 (lv_at hl 0 rfl) ?_
          obtain ⟨hqA, hqB⟩ := hq
          refine lv_if_le (tgt := 82) hx hb dX0_ensureMound_58 (by decide) (fun c3 => ?_) (fun c3 => ?_)
          · have hq := hqA c3
            refine lv_iinc (v := (y34_2 + 1)) (lv' := [(2, .int (y34_2 + 1)), (4, .int r51), (3, .ref (a (9 + 3 * ((X0_molesR v) y34_2.toNatClampNeg)))), (0, .ref (a 0)), (1, .int x1)]) hx hb dX0_ensureMound_82 hl (k := 4) rfl rfl (by decide) rfl (fun ls hl => ?_)
            refine lv_goto (tgt := 34) hx hb dX0_ensureMound_85 (by decide) ?_
            exact bk34 (y34_2 + 1) z34_v_moles z34_v_tunnels _ _ _ hq hP hD hS (lv_sub hl [3, 4, 0] rfl)
          · have hq := hqB c3
            refine lv_aload_n hx hb dX0_ensureMound_61 rfl (lv_at hl 2 rfl) ?_
            refine va_get (D := (dC, dI)) (ci := 0) (v := .ref (a 5)) (C := RX0) (T := TX0) (N := 14) hx hb hts iK0 hown hK hP 0 rfl rfl 4 (by decide) lk2 (fun _ h9 => h9) rfl dX0_ensureMound_62 ?_
            refine lv_aload_n hx hb dX0_ensureMound_65 rfl (lv_at hl 1 rfl) ?_
            refine va_get (D := (dC, dI)) (ci := 1) (v := .ref (a (9 + 3 * ((X0_molesR v) y34_2.toNatClampNeg) + 2))) (C := RX1) (T := TX1) (N := 7) hx hb hts iK1 hown hK hP (9 + 3 * ((X0_molesR v) y34_2.toNatClampNeg)) (co_4 (P := fun i19 => (cX0 cy a b z34_v_mounds (X0_opened v) (X0_roots v) (X0_traps v) z34_v_tunnels (X0_molesR v) z34_v_moles (X0_moleCount v) (X0_fullAir v) (X0_beats v) (X0_caught v) (X0_gnawed v) z34_v_risen (X0_fallen v) ++ cX3 cy b z34_u_cells z34_u_ends z34_u_used z34_u_size)[(9 + 3 * i19)]? = (wX1 cy (sh a (9 + 3 * i19)) (z34_v_moles i19))[0]?) rfl rfl rfl rfl g2) rfl 1 (by decide) lk3 (fun _ h9 => h9) rfl dX0_ensureMound_66 ?_
            refine lv_iconst (v := 0) hx hb dX0_ensureMound_69 (by decide) ?_
            refine lv_iload hx hb dX0_ensureMound_70 (lv_at hl 0 rfl) ?_
            refine lv_iconst (v := 1) hx hb dX0_ensureMound_72 (by decide) ?_
            refine lv_iadd hx hb dX0_ensureMound_73 ?_
            have hC : (([5, 6, 7, (9 + 3 * ((X0_molesR v) y34_2.toNatClampNeg) + 2)] : List Nat).map (fun i => (cX0 cy a b z34_v_mounds (X0_opened v) (X0_roots v) (X0_traps v) z34_v_tunnels (X0_molesR v) z34_v_moles (X0_moleCount v) (X0_fullAir v) (X0_beats v) (X0_caught v) (X0_gnawed v) z34_v_risen (X0_fallen v) ++ cX3 cy b z34_u_cells z34_u_ends z34_u_used z34_u_size)[i]?)) = (wX3 cy (sh a 5) z34_v_tunnels ++ cAI cy (sh a (9 + 3 * ((X0_molesR v) y34_2.toNatClampNeg) + 2)) 21 (X1_trail (z34_v_moles ((X0_molesR v) y34_2.toNatClampNeg)))).map some := (co_4 (P := fun i19 => (([5, 6, 7, (9 + 3 * i19 + 2)] : List Nat).map (fun i => (cX0 cy a b z34_v_mounds (X0_opened v) (X0_roots v) (X0_traps v) z34_v_tunnels (X0_molesR v) z34_v_moles (X0_moleCount v) (X0_fullAir v) (X0_beats v) (X0_caught v) (X0_gnawed v) z34_v_risen (X0_fallen v) ++ cX3 cy b z34_u_cells z34_u_ends z34_u_used z34_u_size)[i]?)) = (wX3 cy (sh a 5) z34_v_tunnels ++ cAI cy (sh a (9 + 3 * i19 + 2)) 21 (X1_trail (z34_v_moles i19))).map some) rfl rfl rfl rfl g2)
            have hN : va_nd [5, 6, 7, (9 + 3 * ((X0_molesR v) y34_2.toNatClampNeg) + 2)] = true := (co_4 (P := fun i19 => va_nd [5, 6, 7, (9 + 3 * i19 + 2)] = true) rfl rfl rfl rfl g2)
            have hPc := xsubP hP hC
            have hDc := xsubD hD hN hC
            have hFc := va_free (wc := (wX3 cy (sh a 5) z34_v_tunnels ++ cAI cy (sh a (9 + 3 * ((X0_molesR v) y34_2.toNatClampNeg) + 2)) 21 (X1_trail (z34_v_moles ((X0_molesR v) y34_2.toNatClampNeg))))) hD hS hAe0 [5, 6, 7, (9 + 3 * ((X0_molesR v) y34_2.toNatClampNeg) + 2)] hC
            refine va_callv (va_runV (As := [.ref (a (9 + 3 * ((X0_molesR v) y34_2.toNatClampNeg) + 2)), .int 0, .int (r51 + 1)]) (rest := []) ⟨hx, hb, hml, hown, hts⟩ (c_X3_addRow l dC dI cy (sh a 5) (sh a (9 + 3 * ((X0_molesR v) y34_2.toNatClampNeg) + 2)) _ z34_v_tunnels 21 (X1_trail (z34_v_moles ((X0_molesR v) y34_2.toNatClampNeg))) 0 (r51 + 1) _ hq) (cwV 3 hts gX0_ensureMound_X3_addRow rfl rfl rfl (by decide +kernel) ⟨Nat.le_of_ble_eq_true rfl, Nat.le_of_ble_eq_true rfl⟩) ⟨xPre_blind, va_recv hK hP (ci := 3) (q0 := 5) rfl rfl, xPre_of hPc hK hDc⟩ rfl rfl hl.1 rfl (lv_room (Nat.le_of_ble_eq_true rfl)) dX0_ensureMound_74 ⟨Nat.le_of_ble_eq_true rfl, Nat.le_of_ble_eq_true rfl⟩) hS (fun q _ h => hFc q h) hFc (fun u t H locs ht hvm hq hB hz1 hk1 hS => ?_)
            obtain ⟨z74_v_cells, z74_v_ends, z74_v_size, z74_v_used⟩ := u
            obtain ⟨hP1, -, hD1⟩ := hB
            rw [ht] at hP1
            obtain ⟨hP, hD⟩ := xj hP hD [5, 6, 7, (9 + 3 * ((X0_molesR v) y34_2.toNatClampNeg) + 2)] (cX3 cy (sh a 5) z74_v_cells z74_v_ends z74_v_used z74_v_size ++ cAI cy (sh a (9 + 3 * ((X0_molesR v) y34_2.toNatClampNeg) + 2)) 21 (X1_trail (z34_v_moles ((X0_molesR v) y34_2.toNatClampNeg)))) (ws' := (cX0 cy a b z34_v_mounds (X0_opened v) (X0_roots v) (X0_traps v) (z74_v_cells, z74_v_ends, z74_v_used, z74_v_size) (X0_molesR v) z34_v_moles (X0_moleCount v) (X0_fullAir v) (X0_beats v) (X0_caught v) (X0_gnawed v) z34_v_risen (X0_fallen v) ++ cX3 cy b z34_u_cells z34_u_ends z34_u_used z34_u_size)) hC rfl (co_4 (P := fun i19 => xput (cX0 cy a b z34_v_mounds (X0_opened v) (X0_roots v) (X0_traps v) z34_v_tunnels (X0_molesR v) z34_v_moles (X0_moleCount v) (X0_fullAir v) (X0_beats v) (X0_caught v) (X0_gnawed v) z34_v_risen (X0_fallen v) ++ cX3 cy b z34_u_cells z34_u_ends z34_u_used z34_u_size) [5, 6, 7, (9 + 3 * i19 + 2)] (cX3 cy (sh a 5) z74_v_cells z74_v_ends z74_v_used z74_v_size ++ cAI cy (sh a (9 + 3 * i19 + 2)) 21 (X1_trail (z34_v_moles i19))) = (cX0 cy a b z34_v_mounds (X0_opened v) (X0_roots v) (X0_traps v) (z74_v_cells, z74_v_ends, z74_v_used, z74_v_size) (X0_molesR v) z34_v_moles (X0_moleCount v) (X0_fullAir v) (X0_beats v) (X0_caught v) (X0_gnawed v) z34_v_risen (X0_fallen v) ++ cX3 cy b z34_u_cells z34_u_ends z34_u_used z34_u_size)) rfl rfl rfl rfl g2) hk1 hFc hP1
            refine lv_aload_n hx hb dX0_ensureMound_77 rfl (lv_at hl 1 rfl) ?_
            refine lv_iload_n hx hb dX0_ensureMound_78 rfl (lv_at hl 3 rfl) ?_
            have hC : (([(9 + 3 * ((X0_molesR v) y34_2.toNatClampNeg)), (10 + 3 * ((X0_molesR v) y34_2.toNatClampNeg)), (11 + 3 * ((X0_molesR v) y34_2.toNatClampNeg))] : List Nat).map (fun i => (cX0 cy a b z34_v_mounds (X0_opened v) (X0_roots v) (X0_traps v) (z74_v_cells, z74_v_ends, z74_v_used, z74_v_size) (X0_molesR v) z34_v_moles (X0_moleCount v) (X0_fullAir v) (X0_beats v) (X0_caught v) (X0_gnawed v) z34_v_risen (X0_fallen v) ++ cX3 cy b z34_u_cells z34_u_ends z34_u_used z34_u_size)[i]?)) = (wX1 cy (sh a (9 + 3 * ((X0_molesR v) y34_2.toNatClampNeg))) (z34_v_moles ((X0_molesR v) y34_2.toNatClampNeg))).map some := (co_4 (P := fun i19 => (([(9 + 3 * i19), (10 + 3 * i19), (11 + 3 * i19)] : List Nat).map (fun i => (cX0 cy a b z34_v_mounds (X0_opened v) (X0_roots v) (X0_traps v) (z74_v_cells, z74_v_ends, z74_v_used, z74_v_size) (X0_molesR v) z34_v_moles (X0_moleCount v) (X0_fullAir v) (X0_beats v) (X0_caught v) (X0_gnawed v) z34_v_risen (X0_fallen v) ++ cX3 cy b z34_u_cells z34_u_ends z34_u_used z34_u_size)[i]?)) = (wX1 cy (sh a (9 + 3 * i19)) (z34_v_moles i19)).map some) rfl rfl rfl rfl g2)
            have hN : va_nd [(9 + 3 * ((X0_molesR v) y34_2.toNatClampNeg)), (10 + 3 * ((X0_molesR v) y34_2.toNatClampNeg)), (11 + 3 * ((X0_molesR v) y34_2.toNatClampNeg))] = true := (co_4 (P := fun i19 => va_nd [(9 + 3 * i19), (10 + 3 * i19), (11 + 3 * i19)] = true) rfl rfl rfl rfl g2)
            have hPc := xsubP hP hC
            have hDc := xsubD hD hN hC
            have hFc := va_free (wc := (wX1 cy (sh a (9 + 3 * ((X0_molesR v) y34_2.toNatClampNeg))) (z34_v_moles ((X0_molesR v) y34_2.toNatClampNeg)))) hD hS hAe0 [(9 + 3 * ((X0_molesR v) y34_2.toNatClampNeg)), (10 + 3 * ((X0_molesR v) y34_2.toNatClampNeg)), (11 + 3 * ((X0_molesR v) y34_2.toNatClampNeg))] hC
            refine va_callv (va_runV (As := [.int x1]) (rest := []) ⟨hx, hb, hml, hown, hts⟩ (c_X1_dropBeforeLast l dC dI cy (sh a (9 + 3 * ((X0_molesR v) y34_2.toNatClampNeg))) _ (z34_v_moles ((X0_molesR v) y34_2.toNatClampNeg)) x1 _ hq) (cwV 1 hts gX0_ensureMound_X1_dropBeforeLast rfl rfl rfl (by decide +kernel) ⟨Nat.le_of_ble_eq_true rfl, Nat.le_of_ble_eq_true rfl⟩) ⟨xPre_blind, va_recv hK hP (ci := 1) (q0 := (9 + 3 * ((X0_molesR v) y34_2.toNatClampNeg))) rfl (co_4 (P := fun i19 => (cX0 cy a b z34_v_mounds (X0_opened v) (X0_roots v) (X0_traps v) (z74_v_cells, z74_v_ends, z74_v_used, z74_v_size) (X0_molesR v) z34_v_moles (X0_moleCount v) (X0_fullAir v) (X0_beats v) (X0_caught v) (X0_gnawed v) z34_v_risen (X0_fallen v) ++ cX3 cy b z34_u_cells z34_u_ends z34_u_used z34_u_size)[(9 + 3 * i19)]? = (wX1 cy (sh a (9 + 3 * i19)) (z34_v_moles i19))[0]?) rfl rfl rfl rfl g2), xPre_of hPc hK hDc⟩ rfl rfl hl.1 rfl (lv_room (Nat.le_of_ble_eq_true rfl)) dX0_ensureMound_79 ⟨Nat.le_of_ble_eq_true rfl, Nat.le_of_ble_eq_true rfl⟩) hS (fun q _ h => hFc q h) hFc (fun u t H locs ht hvm hq hB hz1 hk1 hS => ?_)
            obtain ⟨z79_v_trail, z79_v_trailLength⟩ := u
            obtain ⟨hP1, -, hD1⟩ := hB
            rw [ht] at hP1
            obtain ⟨hP, hD⟩ := xj hP hD [(9 + 3 * ((X0_molesR v) y34_2.toNatClampNeg)), (10 + 3 * ((X0_molesR v) y34_2.toNatClampNeg)), (11 + 3 * ((X0_molesR v) y34_2.toNatClampNeg))] (cX1 cy (sh a (9 + 3 * ((X0_molesR v) y34_2.toNatClampNeg))) (X1_directions (z34_v_moles ((X0_molesR v) y34_2.toNatClampNeg))) z79_v_trail (X1_planned (z34_v_moles ((X0_molesR v) y34_2.toNatClampNeg))) z79_v_trailLength (X1_air (z34_v_moles ((X0_molesR v) y34_2.toNatClampNeg))) (X1_steps (z34_v_moles ((X0_molesR v) y34_2.toNatClampNeg))) (X1_lost (z34_v_moles ((X0_molesR v) y34_2.toNatClampNeg)))) (ws' := (cX0 cy a b z34_v_mounds (X0_opened v) (X0_roots v) (X0_traps v) (z74_v_cells, z74_v_ends, z74_v_used, z74_v_size) (X0_molesR v) (va_up z34_v_moles ((X0_molesR v) y34_2.toNatClampNeg) ((X1_directions (z34_v_moles ((X0_molesR v) y34_2.toNatClampNeg))), z79_v_trail, (X1_planned (z34_v_moles ((X0_molesR v) y34_2.toNatClampNeg))), z79_v_trailLength, (X1_air (z34_v_moles ((X0_molesR v) y34_2.toNatClampNeg))), (X1_steps (z34_v_moles ((X0_molesR v) y34_2.toNatClampNeg))), (X1_lost (z34_v_moles ((X0_molesR v) y34_2.toNatClampNeg))))) (X0_moleCount v) (X0_fullAir v) (X0_beats v) (X0_caught v) (X0_gnawed v) z34_v_risen (X0_fallen v) ++ cX3 cy b z34_u_cells z34_u_ends z34_u_used z34_u_size)) hC rfl (co_4 (P := fun i19 => xput (cX0 cy a b z34_v_mounds (X0_opened v) (X0_roots v) (X0_traps v) (z74_v_cells, z74_v_ends, z74_v_used, z74_v_size) (X0_molesR v) z34_v_moles (X0_moleCount v) (X0_fullAir v) (X0_beats v) (X0_caught v) (X0_gnawed v) z34_v_risen (X0_fallen v) ++ cX3 cy b z34_u_cells z34_u_ends z34_u_used z34_u_size) [(9 + 3 * i19), (10 + 3 * i19), (11 + 3 * i19)] (cX1 cy (sh a (9 + 3 * i19)) (X1_directions (z34_v_moles i19)) z79_v_trail (X1_planned (z34_v_moles i19)) z79_v_trailLength (X1_air (z34_v_moles i19)) (X1_steps (z34_v_moles i19)) (X1_lost (z34_v_moles i19))) = (cX0 cy a b z34_v_mounds (X0_opened v) (X0_roots v) (X0_traps v) (z74_v_cells, z74_v_ends, z74_v_used, z74_v_size) (X0_molesR v) (va_up z34_v_moles i19 ((X1_directions (z34_v_moles i19)), z79_v_trail, (X1_planned (z34_v_moles i19)), z79_v_trailLength, (X1_air (z34_v_moles i19)), (X1_steps (z34_v_moles i19)), (X1_lost (z34_v_moles i19)))) (X0_moleCount v) (X0_fullAir v) (X0_beats v) (X0_caught v) (X0_gnawed v) z34_v_risen (X0_fallen v) ++ cX3 cy b z34_u_cells z34_u_ends z34_u_used z34_u_size)) rfl rfl rfl rfl g2) hk1 hFc hP1
            refine lv_iinc (v := (y34_2 + 1)) (lv' := [(2, .int (y34_2 + 1)), (4, .int r51), (3, .ref (a (9 + 3 * ((X0_molesR v) y34_2.toNatClampNeg)))), (0, .ref (a 0)), (1, .int x1)]) hx hb dX0_ensureMound_82 hl (k := 4) rfl rfl (by decide) rfl (fun ls hl => ?_)
            refine lv_goto (tgt := 34) hx hb dX0_ensureMound_85 (by decide) ?_
            exact bk34 (y34_2 + 1) (va_up z34_v_moles ((X0_molesR v) y34_2.toNatClampNeg) (X1_s3 (X1_s1 (z34_v_moles ((X0_molesR v) y34_2.toNatClampNeg)) z79_v_trail) z79_v_trailLength)) (X3_s3 (X3_s2 (X3_s1 (X3_s0 z34_v_tunnels z74_v_cells) z74_v_ends) z74_v_used) z74_v_size) _ _ _ hq hP hD hS (lv_sub hl [3, 4, 0] rfl)
    exact key _ y34_2 z34_v_moles z34_v_tunnels H locs ls h0 (Nat.lt_succ_self _) hP hD hS hl
  refine lv_aload_n hx hb dX0_ensureMound_0 rfl (lv_at hl 0 rfl) ?_
  refine va_get (D := (dC, dI)) (ci := 0) (v := .ref (a 1)) (C := RX0) (T := TX0) (N := 14) hx hb hts iK0 hown hK hP 0 rfl rfl 0 (by decide) lk4 (fun _ h9 => h9) rfl dX0_ensureMound_1 ?_
  refine lv_iload_n hx hb dX0_ensureMound_4 rfl (lv_at hl 1 rfl) ?_
  obtain ⟨g5, hq⟩ := hq
  refine va_zald hx hb hK hP 1 1 rfl rfl g5 dX0_ensureMound_5 ?_
  obtain ⟨hqA, hqB⟩ := hq
  refine lv_if_eq (tgt := 10) hx hb dX0_ensureMound_6 (by decide) (fun c6 => ?_) (fun c6 => ?_)
  · have hq := hqA c6
    refine lv_aload_n hx hb dX0_ensureMound_10 rfl (lv_at hl 0 rfl) ?_
    refine va_get (D := (dC, dI)) (ci := 0) (v := .ref (a 1)) (C := RX0) (T := TX0) (N := 14) hx hb hts iK0 hown hK hP 0 rfl rfl 0 (by decide) lk4 (fun _ h9 => h9) rfl dX0_ensureMound_11 ?_
    refine lv_iload_n hx hb dX0_ensureMound_14 rfl (lv_at hl 1 rfl) ?_
    refine lv_iconst (v := 1) hx hb dX0_ensureMound_15 (by decide) ?_
    refine va_zast hx hb hK hP hD hS 1 1 rfl rfl g5 dX0_ensureMound_16 (fun H locs hP hD hS => ?_)
    rw [xnar1] at hP hD
    have hP : va_P (dC, dI) vwCl (cX0 cy a b (upd (X0_mounds v) x1.toNatClampNeg 1) (X0_opened v) (X0_roots v) (X0_traps v) (X0_tunnels v) (X0_molesR v) (X0_moles v) (X0_moleCount v) (X0_fullAir v) (X0_beats v) (X0_caught v) (X0_gnawed v) (X0_risen v) (X0_fallen v) ++ wX3 cy b u) H := hP
    have hD : va_D A (cX0 cy a b (upd (X0_mounds v) x1.toNatClampNeg 1) (X0_opened v) (X0_roots v) (X0_traps v) (X0_tunnels v) (X0_molesR v) (X0_moles v) (X0_moleCount v) (X0_fullAir v) (X0_beats v) (X0_caught v) (X0_gnawed v) (X0_risen v) (X0_fallen v) ++ wX3 cy b u) := hD
    refine lv_aload_n hx hb dX0_ensureMound_17 rfl (lv_at hl 0 rfl) ?_
    refine lv_dup hx hb dX0_ensureMound_18 rfl ?_
    refine va_get (D := (dC, dI)) (ci := 0) (v := .int (X0_risen v)) (C := RX0) (T := TX0) (N := 14) hx hb hts iK0 hown hK hP 0 rfl rfl 12 (by decide) lk5 (fun _ h9 => h9) rfl dX0_ensureMound_19 ?_
    refine lv_iconst (v := 1) hx hb dX0_ensureMound_22 (by decide) ?_
    refine lv_iadd hx hb dX0_ensureMound_23 ?_
    refine va_put (D := (dC, dI)) (ci := 0) (v := .int ((X0_risen v) + 1)) (ty := .int) (C := RX0) (T := TX0) (N := 14) hx hb hts iK0 tyX0 tyX0_ok nmX0 hown hK hP hD hS 0 rfl rfl 12 (by decide) lk5 (fun _ h9 => h9) rfl (by decide +kernel) rfl rfl (Nat.le_of_ble_eq_true rfl) dX0_ensureMound_24 (fun H locs hP hD hS => ?_)
    have hP : va_P (dC, dI) vwCl (cX0 cy a b (upd (X0_mounds v) x1.toNatClampNeg 1) (X0_opened v) (X0_roots v) (X0_traps v) (X0_tunnels v) (X0_molesR v) (X0_moles v) (X0_moleCount v) (X0_fullAir v) (X0_beats v) (X0_caught v) (X0_gnawed v) ((X0_risen v) + 1) (X0_fallen v) ++ wX3 cy b u) H := hP
    have hD : va_D A (cX0 cy a b (upd (X0_mounds v) x1.toNatClampNeg 1) (X0_opened v) (X0_roots v) (X0_traps v) (X0_tunnels v) (X0_molesR v) (X0_moles v) (X0_moleCount v) (X0_fullAir v) (X0_beats v) (X0_caught v) (X0_gnawed v) ((X0_risen v) + 1) (X0_fallen v) ++ wX3 cy b u) := hD
    refine lv_aload_n hx hb dX0_ensureMound_27 rfl (lv_at hl 0 rfl) ?_
    refine lv_iload_n hx hb dX0_ensureMound_28 rfl (lv_at hl 1 rfl) ?_
    have hFc := xfree_same hS hAe0 (ws := (cX0 cy a b (upd (X0_mounds v) x1.toNatClampNeg 1) (X0_opened v) (X0_roots v) (X0_traps v) (X0_tunnels v) (X0_molesR v) (X0_moles v) (X0_moleCount v) (X0_fullAir v) (X0_beats v) (X0_caught v) (X0_gnawed v) ((X0_risen v) + 1) (X0_fallen v) ++ wX3 cy b u)) hD
    refine va_callv (va_runV (As := [.int x1]) (rest := []) ⟨hx, hb, hml, hown, hts⟩ (c_X0_splitTunnels l dC dI cy a b _ (X0_s12 (X0_s0 v (upd (X0_mounds v) x1.toNatClampNeg 1)) ((X0_risen v) + 1)) u x1 _ hq) (cwV 1 hts gX0_ensureMound_X0_splitTunnels rfl rfl rfl (by decide +kernel) ⟨Nat.le_of_ble_eq_true rfl, Nat.le_of_ble_eq_true rfl⟩) ⟨xPre_blind, va_recv hK hP (ci := 0) (q0 := 0) rfl rfl, xPre_of hP hK hD⟩ rfl rfl hl.1 rfl (lv_room (Nat.le_of_ble_eq_true rfl)) dX0_ensureMound_29 ⟨Nat.le_of_ble_eq_true rfl, Nat.le_of_ble_eq_true rfl⟩) hS (fun q _ h => hFc q h) hFc (fun u t H locs ht hvm hq hB hz1 hk1 hS => ?_)
    obtain ⟨z29_u_cells, z29_u_ends, z29_u_size, z29_u_used, z29_v_tunnels⟩ := u
    obtain ⟨hP1, -, hD1⟩ := hB
    rw [ht] at hP1
    have hP : va_P (dC, dI) vwCl (cX0 cy a b (upd (X0_mounds v) x1.toNatClampNeg 1) (X0_opened v) (X0_roots v) (X0_traps v) z29_v_tunnels (X0_molesR v) (X0_moles v) (X0_moleCount v) (X0_fullAir v) (X0_beats v) (X0_caught v) (X0_gnawed v) ((X0_risen v) + 1) (X0_fallen v) ++ cX3 cy b z29_u_cells z29_u_ends z29_u_used z29_u_size) H := hP1
    have hD : va_D A (cX0 cy a b (upd (X0_mounds v) x1.toNatClampNeg 1) (X0_opened v) (X0_roots v) (X0_traps v) z29_v_tunnels (X0_molesR v) (X0_moles v) (X0_moleCount v) (X0_fullAir v) (X0_beats v) (X0_caught v) (X0_gnawed v) ((X0_risen v) + 1) (X0_fallen v) ++ cX3 cy b z29_u_cells z29_u_ends z29_u_used z29_u_size) := hD1.weaken (fun _ q _ h => hFc q.1 h)
    refine lv_iconst (v := 0) hx hb dX0_ensureMound_32 (by decide) ?_
    refine lv_istore_n (lv' := [(2, .int 0), (0, .ref (a 0)), (1, .int x1)]) hx hb dX0_ensureMound_33 rfl hl (by decide) rfl (fun ls hl => ?_)
    exact J34 z29_u_cells z29_u_ends z29_u_size z29_u_used (upd (X0_mounds v) x1.toNatClampNeg 1) ((X0_risen v) + 1) 0 (X0_moles v) z29_v_tunnels _ _ _ hq hP hD hS (lv_sub hl [1, 2, 0] rfl)
  · have hq := hqB c6
    exact W.vret hx hb hr (fun t ht hW => ⟨⟨((X3_cells u), (X3_ends u), (X3_size u), (X3_used u), (X0_moles v), (X0_mounds v), (X0_risen v), (X0_tunnels v)), rfl, hq, (xAt_of hP hK hD ht hW)⟩, hS.F ht⟩) hS.2.2 dX0_ensureMound_9
def wp_X0_welcome (v : V_X0) (u : V_X3) (x1 : Int32) (Q : Int32 → (Nat → Int32) → (Nat → Int32) → Int32 → Int32 → Int32 → (Nat → V_X1) → (Nat → Int32) → Int32 → V_X3 → Prop) : Prop :=
  (((X0_moleCount v) < 4 → wp_X0_ensureMound v u x1 (fun z12_u_cells z12_u_ends z12_u_size z12_u_used z12_v_moles z12_v_mounds z12_v_risen z12_v_tunnels =>
  vp_in (X0_moleCount v) 4 ∧ ((X0_molesR v) (X0_moleCount v).toNatClampNeg) < 4 ∧ wp_X1_beginTrail (z12_v_moles ((X0_molesR v) (X0_moleCount v).toNatClampNeg)) x1 (fun z27_v_trail z27_v_trailLength =>
  Q (((X0_moleCount v) + 1) - 1) z12_u_cells z12_u_ends z12_u_size z12_u_used ((X0_moleCount v) + 1) (va_up z12_v_moles ((X0_molesR v) (X0_moleCount v).toNatClampNeg) (X1_s5 (X1_s4 (X1_s3 (X1_s2 (X1_s1 (z12_v_moles ((X0_molesR v) (X0_moleCount v).toNatClampNeg)) z27_v_trail) 0) z27_v_trailLength) (X0_fullAir v)) 0)) z12_v_mounds z12_v_risen z12_v_tunnels))) ∧
  (¬ (X0_moleCount v) < 4 → Q (-1) (X3_cells u) (X3_ends u) (X3_size u) (X3_used u) (X0_moleCount v) (X0_moles v) (X0_mounds v) (X0_risen v) (X0_tunnels v)))
def q_X0_welcome (dC : Nat → ClassId) (dI : Nat → Nat → Nat) (cy : Nat → ClassId) (a b : Nat → Nat) (v : V_X0) (u : V_X3) (x1 : Int32) (Q : Int32 → (Nat → Int32) → (Nat → Int32) → Int32 → Int32 → Int32 → (Nat → V_X1) → (Nat → Int32) → Int32 → V_X3 → Prop) (A : Nat → Prop) : Array Value → State → Outcome → State → Prop := va_Qi (fun (r : Int32) (u : (Nat → Int32) × (Nat → Int32) × Int32 × Int32 × Int32 × (Nat → V_X1) × (Nat → Int32) × Int32 × V_X3) => Q r u.1 u.2.1 u.2.2.1 u.2.2.2.1 u.2.2.2.2.1 u.2.2.2.2.2.1 u.2.2.2.2.2.2.1 u.2.2.2.2.2.2.2.1 u.2.2.2.2.2.2.2.2) (fun (u : (Nat → Int32) × (Nat → Int32) × Int32 × Int32 × Int32 × (Nat → V_X1) × (Nat → Int32) × Int32 × V_X3) t => xAt dC dI cy A (cX0 cy a b u.2.2.2.2.2.2.1 (X0_opened v) (X0_roots v) (X0_traps v) u.2.2.2.2.2.2.2.2 (X0_molesR v) u.2.2.2.2.2.1 u.2.2.2.2.1 (X0_fullAir v) (X0_beats v) (X0_caught v) (X0_gnawed v) u.2.2.2.2.2.2.2.1 (X0_fallen v) ++ cX3 cy b u.1 u.2.1 u.2.2.2.1 u.2.2.1) t) A
set_option maxHeartbeats 4000000 in
set_option maxRecDepth 100000 in
theorem c_X0_welcome (l : Launch) (dC : Nat → ClassId) (dI : Nat → Nat → Nat) (cy : Nat → ClassId) (a b : Nat → Nat) (sz : Nat) (v : V_X0) (u : V_X3) (x1 : Int32) (Q : Int32 → (Nat → Int32) → (Nat → Int32) → Int32 → Int32 → Int32 → (Nat → V_X1) → (Nat → Int32) → Int32 → V_X3 → Prop) (hq : wp_X0_welcome v u x1 Q) : Met l yX0_welcome wsX0_welcome ({ frames := 4, cells := 0, slots := 0, locals := 97 } : Room) (va_Pc [.ref (a 0), .int x1] (xPre dC dI cy (wX0 cy a b v ++ wX3 cy b u) sz)) (q_X0_welcome dC dI cy a b v u x1 Q (va_A (wX0 cy a b v ++ wX3 cy b u) sz)) 0 0 (va_A (wX0 cy a b v ++ wX3 cy b u) sz) := by
  refine Met.ofW (cc := cX0_welcome) (maxL := 3) (ret := (some .int)) (by decide) rfl ?_
  intro p e s m args below meth c s₁ B hml hv
  obtain ⟨rfl, hsz, hP, hK, hD0⟩ := hv
  have hx := B.exec
  have hb := B.bytes
  have hr := B.returns
  have hts := atoms_spec (ws := wsX0_welcome) B.pre
  have hown : s.vm.findClass RX0 = some m.cls := findClass_of_methodNamed B.named
  have hlocks := B.notSynchronized
  subst hsz
  have hD := hD0.self (sz := s.heap.size)
  generalize hAe : va_A (wX0 cy a b v ++ wX3 cy b u) s.heap.size = A at hD ⊢
  have hAe0 : ∀ q : Nat, s.heap.size ≤ q → A q := fun q h => by rw [← hAe]; exact Or.inr h
  have hS : va_S A s.heap s.heap [] := va_S.rf
  have hl := lv_entry ([.ref (a 0), .int x1]) (n := 3) (Nat.le_of_ble_eq_true rfl)
  rw [lg_entry_eq]
  generalize (lg_sl ([.ref (a 0), .int x1]) ++ List.replicate (3 - (lg_sl ([.ref (a 0), .int x1])).length) Slot.unset).toArray = ls at hl ⊢
  have hl : lv_has ls 3 [(0, .ref (a 0)), (1, .int x1)] := hl
  have lk0 := hts (Cond.fieldLink RX0 56 "MolesLawn$Lawn" "moleCount" "I") (List.mem_cons_of_mem _ (List.mem_append_left _ (List.mem_append_left _ (List.mem_append_left _ (List.mem_append_left _ (List.mem_of_getElem? (i := 0) rfl))))))
  have lk1 := hts (Cond.fieldLink RX0 34 "MolesLawn$Lawn" "moles" "[LMolesLawn$Mole;") (List.mem_cons_of_mem _ (List.mem_append_left _ (List.mem_append_left _ (List.mem_append_left _ (List.mem_append_left _ (List.mem_of_getElem? (i := 1) rfl))))))
  have lk2 := hts (Cond.fieldLink RX0 84 "MolesLawn$Mole" "planned" "I") (List.mem_cons_of_mem _ (List.mem_append_left _ (List.mem_append_left _ (List.mem_append_left _ (List.mem_append_left _ (List.mem_of_getElem? (i := 2) rfl))))))
  have lk3 := hts (Cond.fieldLink RX0 38 "MolesLawn$Lawn" "fullAir" "I") (List.mem_cons_of_mem _ (List.mem_append_left _ (List.mem_append_left _ (List.mem_append_left _ (List.mem_append_left _ (List.mem_of_getElem? (i := 3) rfl))))))
  have lk4 := hts (Cond.fieldLink RX0 87 "MolesLawn$Mole" "air" "I") (List.mem_cons_of_mem _ (List.mem_append_left _ (List.mem_append_left _ (List.mem_append_left _ (List.mem_append_left _ (List.mem_of_getElem? (i := 4) rfl))))))
  have lk5 := hts (Cond.fieldLink RX0 103 "MolesLawn$Mole" "steps" "I") (List.mem_cons_of_mem _ (List.mem_append_left _ (List.mem_append_left _ (List.mem_append_left _ (List.mem_append_left _ (List.mem_of_getElem? (i := 5) rfl))))))
  have iK0 : ∀ w ∈ wsX00, w ∈ wsX0_welcome := fun _ h => (List.mem_cons_of_mem _ (List.mem_append_left _ (List.mem_append_left _ (List.mem_append_right _ h))))
  have iK1 : ∀ w ∈ wsX10, w ∈ wsX0_welcome := fun _ h => (List.mem_cons_of_mem _ (List.mem_append_left _ (List.mem_append_right _ h)))
  unfold wp_X0_welcome at hq
  refine lv_aload_n hx hb dX0_welcome_0 rfl (lv_at hl 0 rfl) ?_
  refine va_get (D := (dC, dI)) (ci := 0) (v := .int (X0_moleCount v)) (C := RX0) (T := TX0) (N := 14) hx hb hts iK0 hown hK hP 0 rfl rfl 7 (by decide) lk0 (fun _ h9 => h9) rfl dX0_welcome_1 ?_
  refine lv_iconst (v := 4) hx hb dX0_welcome_4 (by decide) ?_
  obtain ⟨hqA, hqB⟩ := hq
  refine lv_icmp_lt (tgt := 10) hx hb dX0_welcome_5 (by decide) (fun c3 => ?_) (fun c3 => ?_)
  · have hq := hqA c3
    refine lv_aload_n hx hb dX0_welcome_10 rfl (lv_at hl 0 rfl) ?_
    refine lv_iload_n hx hb dX0_welcome_11 rfl (lv_at hl 1 rfl) ?_
    have hFc := xfree_same hS hAe0 (ws := (wX0 cy a b v ++ wX3 cy b u)) hD
    refine va_callv (va_runV (As := [.int x1]) (rest := []) ⟨hx, hb, hml, hown, hts⟩ (c_X0_ensureMound l dC dI cy a b _ v u x1 _ hq) (cwV 1 hts gX0_welcome_X0_ensureMound rfl rfl rfl (by decide +kernel) ⟨Nat.le_of_ble_eq_true rfl, Nat.le_of_ble_eq_true rfl⟩) ⟨xPre_blind, va_recv hK hP (ci := 0) (q0 := 0) rfl rfl, xPre_of hP hK hD⟩ rfl rfl hl.1 rfl (lv_room (Nat.le_of_ble_eq_true rfl)) dX0_welcome_12 ⟨Nat.le_of_ble_eq_true rfl, Nat.le_of_ble_eq_true rfl⟩) hS (fun q _ h => hFc q h) hFc (fun u t H locs ht hvm hq hB hz1 hk1 hS => ?_)
    obtain ⟨z12_u_cells, z12_u_ends, z12_u_size, z12_u_used, z12_v_moles, z12_v_mounds, z12_v_risen, z12_v_tunnels⟩ := u
    obtain ⟨hP1, -, hD1⟩ := hB
    rw [ht] at hP1
    have hP : va_P (dC, dI) vwCl (cX0 cy a b z12_v_mounds (X0_opened v) (X0_roots v) (X0_traps v) z12_v_tunnels (X0_molesR v) z12_v_moles (X0_moleCount v) (X0_fullAir v) (X0_beats v) (X0_caught v) (X0_gnawed v) z12_v_risen (X0_fallen v) ++ cX3 cy b z12_u_cells z12_u_ends z12_u_used z12_u_size) H := hP1
    have hD : va_D A (cX0 cy a b z12_v_mounds (X0_opened v) (X0_roots v) (X0_traps v) z12_v_tunnels (X0_molesR v) z12_v_moles (X0_moleCount v) (X0_fullAir v) (X0_beats v) (X0_caught v) (X0_gnawed v) z12_v_risen (X0_fallen v) ++ cX3 cy b z12_u_cells z12_u_ends z12_u_used z12_u_size) := hD1.weaken (fun _ q _ h => hFc q.1 h)
    refine lv_aload_n hx hb dX0_welcome_15 rfl (lv_at hl 0 rfl) ?_
    refine va_get (D := (dC, dI)) (ci := 0) (v := .ref (a 8)) (C := RX0) (T := TX0) (N := 14) hx hb hts iK0 hown hK hP 0 rfl rfl 6 (by decide) lk1 (fun _ h9 => h9) rfl dX0_welcome_16 ?_
    refine lv_aload_n hx hb dX0_welcome_19 rfl (lv_at hl 0 rfl) ?_
    refine va_get (D := (dC, dI)) (ci := 0) (v := .int (X0_moleCount v)) (C := RX0) (T := TX0) (N := 14) hx hb hts iK0 hown hK hP 0 rfl rfl 7 (by decide) lk0 (fun _ h9 => h9) rfl dX0_welcome_20 ?_
    obtain ⟨g1, hq⟩ := hq
    obtain ⟨g2, hq⟩ := hq
    refine va_aldq hx hb hK hP 8 2 rfl rfl g1 dX0_welcome_23 ?_
    refine lv_astore_n (lv' := [(2, .ref (a (9 + 3 * ((X0_molesR v) (X0_moleCount v).toNatClampNeg)))), (0, .ref (a 0)), (1, .int x1)]) hx hb dX0_welcome_24 rfl hl (by decide) rfl (fun ls hl => ?_)
    refine lv_aload_n hx hb dX0_welcome_25 rfl (lv_at hl 0 rfl) ?_
    refine lv_iload_n hx hb dX0_welcome_26 rfl (lv_at hl 2 rfl) ?_
    have hC : (([(9 + 3 * ((X0_molesR v) (X0_moleCount v).toNatClampNeg)), (10 + 3 * ((X0_molesR v) (X0_moleCount v).toNatClampNeg)), (11 + 3 * ((X0_molesR v) (X0_moleCount v).toNatClampNeg))] : List Nat).map (fun i => (cX0 cy a b z12_v_mounds (X0_opened v) (X0_roots v) (X0_traps v) z12_v_tunnels (X0_molesR v) z12_v_moles (X0_moleCount v) (X0_fullAir v) (X0_beats v) (X0_caught v) (X0_gnawed v) z12_v_risen (X0_fallen v) ++ cX3 cy b z12_u_cells z12_u_ends z12_u_used z12_u_size)[i]?)) = (wX1 cy (sh a (9 + 3 * ((X0_molesR v) (X0_moleCount v).toNatClampNeg))) (z12_v_moles ((X0_molesR v) (X0_moleCount v).toNatClampNeg))).map some := (co_4 (P := fun i19 => (([(9 + 3 * i19), (10 + 3 * i19), (11 + 3 * i19)] : List Nat).map (fun i => (cX0 cy a b z12_v_mounds (X0_opened v) (X0_roots v) (X0_traps v) z12_v_tunnels (X0_molesR v) z12_v_moles (X0_moleCount v) (X0_fullAir v) (X0_beats v) (X0_caught v) (X0_gnawed v) z12_v_risen (X0_fallen v) ++ cX3 cy b z12_u_cells z12_u_ends z12_u_used z12_u_size)[i]?)) = (wX1 cy (sh a (9 + 3 * i19)) (z12_v_moles i19)).map some) rfl rfl rfl rfl g2)
    have hN : va_nd [(9 + 3 * ((X0_molesR v) (X0_moleCount v).toNatClampNeg)), (10 + 3 * ((X0_molesR v) (X0_moleCount v).toNatClampNeg)), (11 + 3 * ((X0_molesR v) (X0_moleCount v).toNatClampNeg))] = true := (co_4 (P := fun i19 => va_nd [(9 + 3 * i19), (10 + 3 * i19), (11 + 3 * i19)] = true) rfl rfl rfl rfl g2)
    have hPc := xsubP hP hC
    have hDc := xsubD hD hN hC
    have hFc := va_free (wc := (wX1 cy (sh a (9 + 3 * ((X0_molesR v) (X0_moleCount v).toNatClampNeg))) (z12_v_moles ((X0_molesR v) (X0_moleCount v).toNatClampNeg)))) hD hS hAe0 [(9 + 3 * ((X0_molesR v) (X0_moleCount v).toNatClampNeg)), (10 + 3 * ((X0_molesR v) (X0_moleCount v).toNatClampNeg)), (11 + 3 * ((X0_molesR v) (X0_moleCount v).toNatClampNeg))] hC
    refine va_callv (va_runV (As := [.int x1]) (rest := []) ⟨hx, hb, hml, hown, hts⟩ (c_X1_beginTrail l dC dI cy (sh a (9 + 3 * ((X0_molesR v) (X0_moleCount v).toNatClampNeg))) _ (z12_v_moles ((X0_molesR v) (X0_moleCount v).toNatClampNeg)) x1 _ hq) (cwV 1 hts gX0_welcome_X1_beginTrail rfl rfl rfl (by decide +kernel) ⟨Nat.le_of_ble_eq_true rfl, Nat.le_of_ble_eq_true rfl⟩) ⟨xPre_blind, va_recv hK hP (ci := 1) (q0 := (9 + 3 * ((X0_molesR v) (X0_moleCount v).toNatClampNeg))) rfl (co_4 (P := fun i19 => (cX0 cy a b z12_v_mounds (X0_opened v) (X0_roots v) (X0_traps v) z12_v_tunnels (X0_molesR v) z12_v_moles (X0_moleCount v) (X0_fullAir v) (X0_beats v) (X0_caught v) (X0_gnawed v) z12_v_risen (X0_fallen v) ++ cX3 cy b z12_u_cells z12_u_ends z12_u_used z12_u_size)[(9 + 3 * i19)]? = (wX1 cy (sh a (9 + 3 * i19)) (z12_v_moles i19))[0]?) rfl rfl rfl rfl g2), xPre_of hPc hK hDc⟩ rfl rfl hl.1 rfl (lv_room (Nat.le_of_ble_eq_true rfl)) dX0_welcome_27 ⟨Nat.le_of_ble_eq_true rfl, Nat.le_of_ble_eq_true rfl⟩) hS (fun q _ h => hFc q h) hFc (fun u t H locs ht hvm hq hB hz1 hk1 hS => ?_)
    obtain ⟨z27_v_trail, z27_v_trailLength⟩ := u
    obtain ⟨hP1, -, hD1⟩ := hB
    rw [ht] at hP1
    obtain ⟨hP, hD⟩ := xj hP hD [(9 + 3 * ((X0_molesR v) (X0_moleCount v).toNatClampNeg)), (10 + 3 * ((X0_molesR v) (X0_moleCount v).toNatClampNeg)), (11 + 3 * ((X0_molesR v) (X0_moleCount v).toNatClampNeg))] (cX1 cy (sh a (9 + 3 * ((X0_molesR v) (X0_moleCount v).toNatClampNeg))) (X1_directions (z12_v_moles ((X0_molesR v) (X0_moleCount v).toNatClampNeg))) z27_v_trail (X1_planned (z12_v_moles ((X0_molesR v) (X0_moleCount v).toNatClampNeg))) z27_v_trailLength (X1_air (z12_v_moles ((X0_molesR v) (X0_moleCount v).toNatClampNeg))) (X1_steps (z12_v_moles ((X0_molesR v) (X0_moleCount v).toNatClampNeg))) (X1_lost (z12_v_moles ((X0_molesR v) (X0_moleCount v).toNatClampNeg)))) (ws' := (cX0 cy a b z12_v_mounds (X0_opened v) (X0_roots v) (X0_traps v) z12_v_tunnels (X0_molesR v) (va_up z12_v_moles ((X0_molesR v) (X0_moleCount v).toNatClampNeg) ((X1_directions (z12_v_moles ((X0_molesR v) (X0_moleCount v).toNatClampNeg))), z27_v_trail, (X1_planned (z12_v_moles ((X0_molesR v) (X0_moleCount v).toNatClampNeg))), z27_v_trailLength, (X1_air (z12_v_moles ((X0_molesR v) (X0_moleCount v).toNatClampNeg))), (X1_steps (z12_v_moles ((X0_molesR v) (X0_moleCount v).toNatClampNeg))), (X1_lost (z12_v_moles ((X0_molesR v) (X0_moleCount v).toNatClampNeg))))) (X0_moleCount v) (X0_fullAir v) (X0_beats v) (X0_caught v) (X0_gnawed v) z12_v_risen (X0_fallen v) ++ cX3 cy b z12_u_cells z12_u_ends z12_u_used z12_u_size)) hC rfl (co_4 (P := fun i19 => xput (cX0 cy a b z12_v_mounds (X0_opened v) (X0_roots v) (X0_traps v) z12_v_tunnels (X0_molesR v) z12_v_moles (X0_moleCount v) (X0_fullAir v) (X0_beats v) (X0_caught v) (X0_gnawed v) z12_v_risen (X0_fallen v) ++ cX3 cy b z12_u_cells z12_u_ends z12_u_used z12_u_size) [(9 + 3 * i19), (10 + 3 * i19), (11 + 3 * i19)] (cX1 cy (sh a (9 + 3 * i19)) (X1_directions (z12_v_moles i19)) z27_v_trail (X1_planned (z12_v_moles i19)) z27_v_trailLength (X1_air (z12_v_moles i19)) (X1_steps (z12_v_moles i19)) (X1_lost (z12_v_moles i19))) = (cX0 cy a b z12_v_mounds (X0_opened v) (X0_roots v) (X0_traps v) z12_v_tunnels (X0_molesR v) (va_up z12_v_moles i19 ((X1_directions (z12_v_moles i19)), z27_v_trail, (X1_planned (z12_v_moles i19)), z27_v_trailLength, (X1_air (z12_v_moles i19)), (X1_steps (z12_v_moles i19)), (X1_lost (z12_v_moles i19)))) (X0_moleCount v) (X0_fullAir v) (X0_beats v) (X0_caught v) (X0_gnawed v) z12_v_risen (X0_fallen v) ++ cX3 cy b z12_u_cells z12_u_ends z12_u_used z12_u_size)) rfl rfl rfl rfl g2) hk1 hFc hP1
    refine lv_aload_n hx hb dX0_welcome_30 rfl (lv_at hl 0 rfl) ?_
    refine lv_iconst (v := 0) hx hb dX0_welcome_31 (by decide) ?_
    refine va_put (D := (dC, dI)) (ci := 1) (v := .int 0) (ty := .int) (C := RX1) (T := TX1) (N := 7) hx hb hts iK1 tyX1 tyX1_ok nmX1 hown hK hP hD hS (9 + 3 * ((X0_molesR v) (X0_moleCount v).toNatClampNeg)) ((co_4 (P := fun i19 => (cX0 cy a b z12_v_mounds (X0_opened v) (X0_roots v) (X0_traps v) z12_v_tunnels (X0_molesR v) (va_up z12_v_moles i19 ((X1_directions (z12_v_moles i19)), z27_v_trail, (X1_planned (z12_v_moles i19)), z27_v_trailLength, (X1_air (z12_v_moles i19)), (X1_steps (z12_v_moles i19)), (X1_lost (z12_v_moles i19)))) (X0_moleCount v) (X0_fullAir v) (X0_beats v) (X0_caught v) (X0_gnawed v) z12_v_risen (X0_fallen v) ++ cX3 cy b z12_u_cells z12_u_ends z12_u_used z12_u_size)[(9 + 3 * i19)]? = (wX1 cy (sh a (9 + 3 * i19)) ((va_up z12_v_moles i19 ((X1_directions (z12_v_moles i19)), z27_v_trail, (X1_planned (z12_v_moles i19)), z27_v_trailLength, (X1_air (z12_v_moles i19)), (X1_steps (z12_v_moles i19)), (X1_lost (z12_v_moles i19)))) i19))[0]?) rfl rfl rfl rfl g2).trans (congrArg (fun (q : V_X1) => (wX1 cy (sh a (9 + 3 * ((X0_molesR v) (X0_moleCount v).toNatClampNeg))) q)[0]?) (va_up_self _ _ _))) rfl 2 (by decide) lk2 (fun _ h9 => h9) rfl (by decide +kernel) rfl rfl (Nat.le_of_ble_eq_true rfl) dX0_welcome_32 (fun H locs hP hD hS => ?_)
    have eW := (co_4 (P := fun i19 => (cX0 cy a b z12_v_mounds (X0_opened v) (X0_roots v) (X0_traps v) z12_v_tunnels (X0_molesR v) (va_up z12_v_moles i19 ((X1_directions (z12_v_moles i19)), z27_v_trail, (X1_planned (z12_v_moles i19)), z27_v_trailLength, (X1_air (z12_v_moles i19)), (X1_steps (z12_v_moles i19)), (X1_lost (z12_v_moles i19)))) (X0_moleCount v) (X0_fullAir v) (X0_beats v) (X0_caught v) (X0_gnawed v) z12_v_risen (X0_fallen v) ++ cX3 cy b z12_u_cells z12_u_ends z12_u_used z12_u_size).set (9 + 3 * i19) ((cX1 cy (sh a (9 + 3 * i19)) (X1_directions (z12_v_moles i19)) z27_v_trail 0 z27_v_trailLength (X1_air (z12_v_moles i19)) (X1_steps (z12_v_moles i19)) (X1_lost (z12_v_moles i19)))[0]?.getD (0, .inr (0, []))) = (cX0 cy a b z12_v_mounds (X0_opened v) (X0_roots v) (X0_traps v) z12_v_tunnels (X0_molesR v) (va_up z12_v_moles i19 ((X1_directions (z12_v_moles i19)), z27_v_trail, 0, z27_v_trailLength, (X1_air (z12_v_moles i19)), (X1_steps (z12_v_moles i19)), (X1_lost (z12_v_moles i19)))) (X0_moleCount v) (X0_fullAir v) (X0_beats v) (X0_caught v) (X0_gnawed v) z12_v_risen (X0_fallen v) ++ cX3 cy b z12_u_cells z12_u_ends z12_u_used z12_u_size)) rfl rfl rfl rfl g2)
    have hP : va_P (dC, dI) vwCl (cX0 cy a b z12_v_mounds (X0_opened v) (X0_roots v) (X0_traps v) z12_v_tunnels (X0_molesR v) (va_up z12_v_moles ((X0_molesR v) (X0_moleCount v).toNatClampNeg) ((X1_directions (z12_v_moles ((X0_molesR v) (X0_moleCount v).toNatClampNeg))), z27_v_trail, 0, z27_v_trailLength, (X1_air (z12_v_moles ((X0_molesR v) (X0_moleCount v).toNatClampNeg))), (X1_steps (z12_v_moles ((X0_molesR v) (X0_moleCount v).toNatClampNeg))), (X1_lost (z12_v_moles ((X0_molesR v) (X0_moleCount v).toNatClampNeg))))) (X0_moleCount v) (X0_fullAir v) (X0_beats v) (X0_caught v) (X0_gnawed v) z12_v_risen (X0_fallen v) ++ cX3 cy b z12_u_cells z12_u_ends z12_u_used z12_u_size) H := by rw [← eW]; exact hP
    have hD : va_D A (cX0 cy a b z12_v_mounds (X0_opened v) (X0_roots v) (X0_traps v) z12_v_tunnels (X0_molesR v) (va_up z12_v_moles ((X0_molesR v) (X0_moleCount v).toNatClampNeg) ((X1_directions (z12_v_moles ((X0_molesR v) (X0_moleCount v).toNatClampNeg))), z27_v_trail, 0, z27_v_trailLength, (X1_air (z12_v_moles ((X0_molesR v) (X0_moleCount v).toNatClampNeg))), (X1_steps (z12_v_moles ((X0_molesR v) (X0_moleCount v).toNatClampNeg))), (X1_lost (z12_v_moles ((X0_molesR v) (X0_moleCount v).toNatClampNeg))))) (X0_moleCount v) (X0_fullAir v) (X0_beats v) (X0_caught v) (X0_gnawed v) z12_v_risen (X0_fallen v) ++ cX3 cy b z12_u_cells z12_u_ends z12_u_used z12_u_size) := by rw [← eW]; exact hD
    refine lv_aload_n hx hb dX0_welcome_35 rfl (lv_at hl 0 rfl) ?_
    refine lv_aload_n hx hb dX0_welcome_36 rfl (lv_at hl 1 rfl) ?_
    refine va_get (D := (dC, dI)) (ci := 0) (v := .int (X0_fullAir v)) (C := RX0) (T := TX0) (N := 14) hx hb hts iK0 hown hK hP 0 rfl rfl 8 (by decide) lk3 (fun _ h9 => h9) rfl dX0_welcome_37 ?_
    refine va_put (D := (dC, dI)) (ci := 1) (v := .int (X0_fullAir v)) (ty := .int) (C := RX1) (T := TX1) (N := 7) hx hb hts iK1 tyX1 tyX1_ok nmX1 hown hK hP hD hS (9 + 3 * ((X0_molesR v) (X0_moleCount v).toNatClampNeg)) ((co_4 (P := fun i19 => (cX0 cy a b z12_v_mounds (X0_opened v) (X0_roots v) (X0_traps v) z12_v_tunnels (X0_molesR v) (va_up z12_v_moles i19 ((X1_directions (z12_v_moles i19)), z27_v_trail, 0, z27_v_trailLength, (X1_air (z12_v_moles i19)), (X1_steps (z12_v_moles i19)), (X1_lost (z12_v_moles i19)))) (X0_moleCount v) (X0_fullAir v) (X0_beats v) (X0_caught v) (X0_gnawed v) z12_v_risen (X0_fallen v) ++ cX3 cy b z12_u_cells z12_u_ends z12_u_used z12_u_size)[(9 + 3 * i19)]? = (wX1 cy (sh a (9 + 3 * i19)) ((va_up z12_v_moles i19 ((X1_directions (z12_v_moles i19)), z27_v_trail, 0, z27_v_trailLength, (X1_air (z12_v_moles i19)), (X1_steps (z12_v_moles i19)), (X1_lost (z12_v_moles i19)))) i19))[0]?) rfl rfl rfl rfl g2).trans (congrArg (fun (q : V_X1) => (wX1 cy (sh a (9 + 3 * ((X0_molesR v) (X0_moleCount v).toNatClampNeg))) q)[0]?) (va_up_self _ _ _))) rfl 4 (by decide) lk4 (fun _ h9 => h9) rfl (by decide +kernel) rfl rfl (Nat.le_of_ble_eq_true rfl) dX0_welcome_40 (fun H locs hP hD hS => ?_)
    have eW := (co_4 (P := fun i19 => (cX0 cy a b z12_v_mounds (X0_opened v) (X0_roots v) (X0_traps v) z12_v_tunnels (X0_molesR v) (va_up z12_v_moles i19 ((X1_directions (z12_v_moles i19)), z27_v_trail, 0, z27_v_trailLength, (X1_air (z12_v_moles i19)), (X1_steps (z12_v_moles i19)), (X1_lost (z12_v_moles i19)))) (X0_moleCount v) (X0_fullAir v) (X0_beats v) (X0_caught v) (X0_gnawed v) z12_v_risen (X0_fallen v) ++ cX3 cy b z12_u_cells z12_u_ends z12_u_used z12_u_size).set (9 + 3 * i19) ((cX1 cy (sh a (9 + 3 * i19)) (X1_directions (z12_v_moles i19)) z27_v_trail 0 z27_v_trailLength (X0_fullAir v) (X1_steps (z12_v_moles i19)) (X1_lost (z12_v_moles i19)))[0]?.getD (0, .inr (0, []))) = (cX0 cy a b z12_v_mounds (X0_opened v) (X0_roots v) (X0_traps v) z12_v_tunnels (X0_molesR v) (va_up z12_v_moles i19 ((X1_directions (z12_v_moles i19)), z27_v_trail, 0, z27_v_trailLength, (X0_fullAir v), (X1_steps (z12_v_moles i19)), (X1_lost (z12_v_moles i19)))) (X0_moleCount v) (X0_fullAir v) (X0_beats v) (X0_caught v) (X0_gnawed v) z12_v_risen (X0_fallen v) ++ cX3 cy b z12_u_cells z12_u_ends z12_u_used z12_u_size)) rfl rfl rfl rfl g2)
    have hP : va_P (dC, dI) vwCl (cX0 cy a b z12_v_mounds (X0_opened v) (X0_roots v) (X0_traps v) z12_v_tunnels (X0_molesR v) (va_up z12_v_moles ((X0_molesR v) (X0_moleCount v).toNatClampNeg) ((X1_directions (z12_v_moles ((X0_molesR v) (X0_moleCount v).toNatClampNeg))), z27_v_trail, 0, z27_v_trailLength, (X0_fullAir v), (X1_steps (z12_v_moles ((X0_molesR v) (X0_moleCount v).toNatClampNeg))), (X1_lost (z12_v_moles ((X0_molesR v) (X0_moleCount v).toNatClampNeg))))) (X0_moleCount v) (X0_fullAir v) (X0_beats v) (X0_caught v) (X0_gnawed v) z12_v_risen (X0_fallen v) ++ cX3 cy b z12_u_cells z12_u_ends z12_u_used z12_u_size) H := by rw [← eW]; exact hP
    have hD : va_D A (cX0 cy a b z12_v_mounds (X0_opened v) (X0_roots v) (X0_traps v) z12_v_tunnels (X0_molesR v) (va_up z12_v_moles ((X0_molesR v) (X0_moleCount v).toNatClampNeg) ((X1_directions (z12_v_moles ((X0_molesR v) (X0_moleCount v).toNatClampNeg))), z27_v_trail, 0, z27_v_trailLength, (X0_fullAir v), (X1_steps (z12_v_moles ((X0_molesR v) (X0_moleCount v).toNatClampNeg))), (X1_lost (z12_v_moles ((X0_molesR v) (X0_moleCount v).toNatClampNeg))))) (X0_moleCount v) (X0_fullAir v) (X0_beats v) (X0_caught v) (X0_gnawed v) z12_v_risen (X0_fallen v) ++ cX3 cy b z12_u_cells z12_u_ends z12_u_used z12_u_size) := by rw [← eW]; exact hD
    refine lv_aload_n hx hb dX0_welcome_43 rfl (lv_at hl 0 rfl) ?_
    refine lv_iconst (v := 0) hx hb dX0_welcome_44 (by decide) ?_
    refine va_put (D := (dC, dI)) (ci := 1) (v := .int 0) (ty := .int) (C := RX1) (T := TX1) (N := 7) hx hb hts iK1 tyX1 tyX1_ok nmX1 hown hK hP hD hS (9 + 3 * ((X0_molesR v) (X0_moleCount v).toNatClampNeg)) ((co_4 (P := fun i19 => (cX0 cy a b z12_v_mounds (X0_opened v) (X0_roots v) (X0_traps v) z12_v_tunnels (X0_molesR v) (va_up z12_v_moles i19 ((X1_directions (z12_v_moles i19)), z27_v_trail, 0, z27_v_trailLength, (X0_fullAir v), (X1_steps (z12_v_moles i19)), (X1_lost (z12_v_moles i19)))) (X0_moleCount v) (X0_fullAir v) (X0_beats v) (X0_caught v) (X0_gnawed v) z12_v_risen (X0_fallen v) ++ cX3 cy b z12_u_cells z12_u_ends z12_u_used z12_u_size)[(9 + 3 * i19)]? = (wX1 cy (sh a (9 + 3 * i19)) ((va_up z12_v_moles i19 ((X1_directions (z12_v_moles i19)), z27_v_trail, 0, z27_v_trailLength, (X0_fullAir v), (X1_steps (z12_v_moles i19)), (X1_lost (z12_v_moles i19)))) i19))[0]?) rfl rfl rfl rfl g2).trans (congrArg (fun (q : V_X1) => (wX1 cy (sh a (9 + 3 * ((X0_molesR v) (X0_moleCount v).toNatClampNeg))) q)[0]?) (va_up_self _ _ _))) rfl 5 (by decide) lk5 (fun _ h9 => h9) rfl (by decide +kernel) rfl rfl (Nat.le_of_ble_eq_true rfl) dX0_welcome_45 (fun H locs hP hD hS => ?_)
    have eW := (co_4 (P := fun i19 => (cX0 cy a b z12_v_mounds (X0_opened v) (X0_roots v) (X0_traps v) z12_v_tunnels (X0_molesR v) (va_up z12_v_moles i19 ((X1_directions (z12_v_moles i19)), z27_v_trail, 0, z27_v_trailLength, (X0_fullAir v), (X1_steps (z12_v_moles i19)), (X1_lost (z12_v_moles i19)))) (X0_moleCount v) (X0_fullAir v) (X0_beats v) (X0_caught v) (X0_gnawed v) z12_v_risen (X0_fallen v) ++ cX3 cy b z12_u_cells z12_u_ends z12_u_used z12_u_size).set (9 + 3 * i19) ((cX1 cy (sh a (9 + 3 * i19)) (X1_directions (z12_v_moles i19)) z27_v_trail 0 z27_v_trailLength (X0_fullAir v) 0 (X1_lost (z12_v_moles i19)))[0]?.getD (0, .inr (0, []))) = (cX0 cy a b z12_v_mounds (X0_opened v) (X0_roots v) (X0_traps v) z12_v_tunnels (X0_molesR v) (va_up z12_v_moles i19 ((X1_directions (z12_v_moles i19)), z27_v_trail, 0, z27_v_trailLength, (X0_fullAir v), 0, (X1_lost (z12_v_moles i19)))) (X0_moleCount v) (X0_fullAir v) (X0_beats v) (X0_caught v) (X0_gnawed v) z12_v_risen (X0_fallen v) ++ cX3 cy b z12_u_cells z12_u_ends z12_u_used z12_u_size)) rfl rfl rfl rfl g2)
    have hP : va_P (dC, dI) vwCl (cX0 cy a b z12_v_mounds (X0_opened v) (X0_roots v) (X0_traps v) z12_v_tunnels (X0_molesR v) (va_up z12_v_moles ((X0_molesR v) (X0_moleCount v).toNatClampNeg) ((X1_directions (z12_v_moles ((X0_molesR v) (X0_moleCount v).toNatClampNeg))), z27_v_trail, 0, z27_v_trailLength, (X0_fullAir v), 0, (X1_lost (z12_v_moles ((X0_molesR v) (X0_moleCount v).toNatClampNeg))))) (X0_moleCount v) (X0_fullAir v) (X0_beats v) (X0_caught v) (X0_gnawed v) z12_v_risen (X0_fallen v) ++ cX3 cy b z12_u_cells z12_u_ends z12_u_used z12_u_size) H := by rw [← eW]; exact hP
    have hD : va_D A (cX0 cy a b z12_v_mounds (X0_opened v) (X0_roots v) (X0_traps v) z12_v_tunnels (X0_molesR v) (va_up z12_v_moles ((X0_molesR v) (X0_moleCount v).toNatClampNeg) ((X1_directions (z12_v_moles ((X0_molesR v) (X0_moleCount v).toNatClampNeg))), z27_v_trail, 0, z27_v_trailLength, (X0_fullAir v), 0, (X1_lost (z12_v_moles ((X0_molesR v) (X0_moleCount v).toNatClampNeg))))) (X0_moleCount v) (X0_fullAir v) (X0_beats v) (X0_caught v) (X0_gnawed v) z12_v_risen (X0_fallen v) ++ cX3 cy b z12_u_cells z12_u_ends z12_u_used z12_u_size) := by rw [← eW]; exact hD
    refine lv_aload_n hx hb dX0_welcome_48 rfl (lv_at hl 1 rfl) ?_
    refine lv_dup hx hb dX0_welcome_49 rfl ?_
    refine va_get (D := (dC, dI)) (ci := 0) (v := .int (X0_moleCount v)) (C := RX0) (T := TX0) (N := 14) hx hb hts iK0 hown hK hP 0 rfl rfl 7 (by decide) lk0 (fun _ h9 => h9) rfl dX0_welcome_50 ?_
    refine lv_iconst (v := 1) hx hb dX0_welcome_53 (by decide) ?_
    refine lv_iadd hx hb dX0_welcome_54 ?_
    refine va_put (D := (dC, dI)) (ci := 0) (v := .int ((X0_moleCount v) + 1)) (ty := .int) (C := RX0) (T := TX0) (N := 14) hx hb hts iK0 tyX0 tyX0_ok nmX0 hown hK hP hD hS 0 rfl rfl 7 (by decide) lk0 (fun _ h9 => h9) rfl (by decide +kernel) rfl rfl (Nat.le_of_ble_eq_true rfl) dX0_welcome_55 (fun H locs hP hD hS => ?_)
    have hP : va_P (dC, dI) vwCl (cX0 cy a b z12_v_mounds (X0_opened v) (X0_roots v) (X0_traps v) z12_v_tunnels (X0_molesR v) (va_up z12_v_moles ((X0_molesR v) (X0_moleCount v).toNatClampNeg) ((X1_directions (z12_v_moles ((X0_molesR v) (X0_moleCount v).toNatClampNeg))), z27_v_trail, 0, z27_v_trailLength, (X0_fullAir v), 0, (X1_lost (z12_v_moles ((X0_molesR v) (X0_moleCount v).toNatClampNeg))))) ((X0_moleCount v) + 1) (X0_fullAir v) (X0_beats v) (X0_caught v) (X0_gnawed v) z12_v_risen (X0_fallen v) ++ cX3 cy b z12_u_cells z12_u_ends z12_u_used z12_u_size) H := hP
    have hD : va_D A (cX0 cy a b z12_v_mounds (X0_opened v) (X0_roots v) (X0_traps v) z12_v_tunnels (X0_molesR v) (va_up z12_v_moles ((X0_molesR v) (X0_moleCount v).toNatClampNeg) ((X1_directions (z12_v_moles ((X0_molesR v) (X0_moleCount v).toNatClampNeg))), z27_v_trail, 0, z27_v_trailLength, (X0_fullAir v), 0, (X1_lost (z12_v_moles ((X0_molesR v) (X0_moleCount v).toNatClampNeg))))) ((X0_moleCount v) + 1) (X0_fullAir v) (X0_beats v) (X0_caught v) (X0_gnawed v) z12_v_risen (X0_fallen v) ++ cX3 cy b z12_u_cells z12_u_ends z12_u_used z12_u_size) := hD
    refine lv_aload_n hx hb dX0_welcome_58 rfl (lv_at hl 1 rfl) ?_
    refine va_get (D := (dC, dI)) (ci := 0) (v := .int ((X0_moleCount v) + 1)) (C := RX0) (T := TX0) (N := 14) hx hb hts iK0 hown hK hP 0 rfl rfl 7 (by decide) lk0 (fun _ h9 => h9) rfl dX0_welcome_59 ?_
    refine lv_iconst (v := 1) hx hb dX0_welcome_62 (by decide) ?_
    refine lv_isub hx hb dX0_welcome_63 ?_
    exact W.iret (v := (((X0_moleCount v) + 1) - 1)) hx hb hr (fun t ht hW => ⟨⟨(((X0_moleCount v) + 1) - 1), (z12_u_cells, z12_u_ends, z12_u_size, z12_u_used, ((X0_moleCount v) + 1), (va_up z12_v_moles ((X0_molesR v) (X0_moleCount v).toNatClampNeg) (X1_s5 (X1_s4 (X1_s3 (X1_s2 (X1_s1 (z12_v_moles ((X0_molesR v) (X0_moleCount v).toNatClampNeg)) z27_v_trail) 0) z27_v_trailLength) (X0_fullAir v)) 0)), z12_v_mounds, z12_v_risen, z12_v_tunnels), rfl, hq, (xAt_of hP hK hD ht hW)⟩, hS.F ht⟩) hS.2.2 dX0_welcome_64
  · have hq := hqB c3
    refine lv_iconst (v := (-1)) hx hb dX0_welcome_8 (by decide) ?_
    exact W.iret (v := (-1)) hx hb hr (fun t ht hW => ⟨⟨(-1), ((X3_cells u), (X3_ends u), (X3_size u), (X3_used u), (X0_moleCount v), (X0_moles v), (X0_mounds v), (X0_risen v), (X0_tunnels v)), rfl, hq, (xAt_of hP hK hD ht hW)⟩, hS.F ht⟩) hS.2.2 dX0_welcome_9
def wb_X0_dropTunnels_17 (v : V_X0) (u : V_X3) (x1 : Int32) (y17_2 : Int32) (y17_3 : Int32) (z17_u_cells : (Nat → Int32)) (z17_u_ends : (Nat → Int32)) (z17_u_size : Int32) (z17_u_used : Int32) (B17 : Int32 → (Nat → Int32) → (Nat → Int32) → Int32 → Int32 → Prop) (Q : (Nat → Int32) → (Nat → Int32) → Int32 → Int32 → Int32 → V_X3 → Prop) : Prop :=
  (((X3_size (X0_tunnels v)) ≤ y17_3 → wp_X3_copyFrom (X0_tunnels v) (X3_s3 (X3_s2 (X3_s1 (X3_s0 u z17_u_cells) z17_u_ends) z17_u_used) z17_u_size) (fun z85_v_cells z85_v_ends z85_v_size z85_v_used =>
  Q z17_u_cells z17_u_ends z17_u_size z17_u_used ((X0_fallen v) + (y17_2 - z85_v_size)) (X3_s3 (X3_s2 (X3_s1 (X3_s0 (X0_tunnels v) z85_v_cells) z85_v_ends) z85_v_used) z85_v_size))) ∧
  (¬ (X3_size (X0_tunnels v)) ≤ y17_3 → wp_X3_firstIndex (X0_tunnels v) y17_3 x1 (fun r34 =>
  ((r34 = (-1) → wp_X3_from (X0_tunnels v) y17_3 (fun r57 =>
  wp_X3_to (X0_tunnels v) y17_3 (fun r65 =>
  wp_X3_addRow (X3_s3 (X3_s2 (X3_s1 (X3_s0 u z17_u_cells) z17_u_ends) z17_u_used) z17_u_size) 1024 (X3_cells (X0_tunnels v)) r57 r65 (fun z68_v_cells z68_v_ends z68_v_size z68_v_used =>
  B17 (y17_3 + 1) z68_v_cells z68_v_ends z68_v_size z68_v_used)))) ∧
  (¬ r34 = (-1) → B17 (y17_3 + 1) z17_u_cells z17_u_ends z17_u_size z17_u_used)))))
def wp_X0_dropTunnels_17 (v : V_X0) (u : V_X3) (x1 : Int32) (y17_2 : Int32) (y17_3 : Int32) (z17_u_cells : (Nat → Int32)) (z17_u_ends : (Nat → Int32)) (z17_u_size : Int32) (z17_u_used : Int32) (Q : (Nat → Int32) → (Nat → Int32) → Int32 → Int32 → Int32 → V_X3 → Prop) : Prop :=
  ∃ (I : Int32 → (Nat → Int32) → (Nat → Int32) → Int32 → Int32 → Prop) (μ : Int32 → (Nat → Int32) → (Nat → Int32) → Int32 → Int32 → Nat), I y17_3 z17_u_cells z17_u_ends z17_u_size z17_u_used ∧ ∀ (s0 : Int32) (s1 : (Nat → Int32)) (s2 : (Nat → Int32)) (s3 : Int32) (s4 : Int32), I s0 s1 s2 s3 s4 → wb_X0_dropTunnels_17 v u x1 y17_2 s0 s1 s2 s3 s4 (fun t0 t1 t2 t3 t4 => I t0 t1 t2 t3 t4 ∧ μ t0 t1 t2 t3 t4 < μ s0 s1 s2 s3 s4) Q
def wp_X0_dropTunnels (v : V_X0) (u : V_X3) (x1 : Int32) (Q : (Nat → Int32) → (Nat → Int32) → Int32 → Int32 → Int32 → V_X3 → Prop) : Prop :=
  wp_X3_empty u (fun z12_v_size z12_v_used =>
  wp_X0_dropTunnels_17 v u x1 (X3_size (X0_tunnels v)) 0 (X3_cells u) (X3_ends u) z12_v_size z12_v_used Q)
def q_X0_dropTunnels (dC : Nat → ClassId) (dI : Nat → Nat → Nat) (cy : Nat → ClassId) (a b : Nat → Nat) (v : V_X0) (u : V_X3) (x1 : Int32) (Q : (Nat → Int32) → (Nat → Int32) → Int32 → Int32 → Int32 → V_X3 → Prop) (A : Nat → Prop) : Array Value → State → Outcome → State → Prop := va_Qv (fun (u : (Nat → Int32) × (Nat → Int32) × Int32 × Int32 × Int32 × V_X3) => Q u.1 u.2.1 u.2.2.1 u.2.2.2.1 u.2.2.2.2.1 u.2.2.2.2.2) (fun (u : (Nat → Int32) × (Nat → Int32) × Int32 × Int32 × Int32 × V_X3) t => xAt dC dI cy A (cX0 cy a b (X0_mounds v) (X0_opened v) (X0_roots v) (X0_traps v) u.2.2.2.2.2 (X0_molesR v) (X0_moles v) (X0_moleCount v) (X0_fullAir v) (X0_beats v) (X0_caught v) (X0_gnawed v) (X0_risen v) u.2.2.2.2.1 ++ cX3 cy b u.1 u.2.1 u.2.2.2.1 u.2.2.1) t) A
set_option maxHeartbeats 4000000 in
set_option maxRecDepth 100000 in
theorem c_X0_dropTunnels (l : Launch) (dC : Nat → ClassId) (dI : Nat → Nat → Nat) (cy : Nat → ClassId) (a b : Nat → Nat) (sz : Nat) (v : V_X0) (u : V_X3) (x1 : Int32) (Q : (Nat → Int32) → (Nat → Int32) → Int32 → Int32 → Int32 → V_X3 → Prop) (hq : wp_X0_dropTunnels v u x1 Q) : Met l yX0_dropTunnels wsX0_dropTunnels ({ frames := 2, cells := 0, slots := 0, locals := 50 } : Room) (va_Pc [.ref (a 0), .int x1] (xPre dC dI cy (wX0 cy a b v ++ wX3 cy b u) sz)) (q_X0_dropTunnels dC dI cy a b v u x1 Q (va_A (wX0 cy a b v ++ wX3 cy b u) sz)) 0 0 (va_A (wX0 cy a b v ++ wX3 cy b u) sz) := by
  refine Met.ofW (cc := cX0_dropTunnels) (maxL := 4) (ret := none) (by decide) rfl ?_
  intro p e s m args below meth c s₁ B hml hv
  obtain ⟨rfl, hsz, hP, hK, hD0⟩ := hv
  have hx := B.exec
  have hb := B.bytes
  have hr := B.returns
  have hts := atoms_spec (ws := wsX0_dropTunnels) B.pre
  have hown : s.vm.findClass RX0 = some m.cls := findClass_of_methodNamed B.named
  have hlocks := B.notSynchronized
  subst hsz
  have hD := hD0.self (sz := s.heap.size)
  generalize hAe : va_A (wX0 cy a b v ++ wX3 cy b u) s.heap.size = A at hD ⊢
  have hAe0 : ∀ q : Nat, s.heap.size ≤ q → A q := fun q h => by rw [← hAe]; exact Or.inr h
  have hS : va_S A s.heap s.heap [] := va_S.rf
  have hl := lv_entry ([.ref (a 0), .int x1]) (n := 4) (Nat.le_of_ble_eq_true rfl)
  rw [lg_entry_eq]
  generalize (lg_sl ([.ref (a 0), .int x1]) ++ List.replicate (4 - (lg_sl ([.ref (a 0), .int x1])).length) Slot.unset).toArray = ls at hl ⊢
  have hl : lv_has ls 4 [(0, .ref (a 0)), (1, .int x1)] := hl
  have lk0 := hts (Cond.fieldLink RX0 28 "MolesLawn$Lawn" "tunnels" "LMolesLawn$Rows;") (List.mem_cons_of_mem _ (List.mem_append_left _ (List.mem_append_left _ (List.mem_append_left _ (List.mem_of_getElem? (i := 0) rfl)))))
  have lk1 := hts (Cond.fieldLink RX0 123 "MolesLawn$Rows" "size" "I") (List.mem_cons_of_mem _ (List.mem_append_left _ (List.mem_append_left _ (List.mem_append_left _ (List.mem_of_getElem? (i := 1) rfl)))))
  have lk2 := hts (Cond.fieldLink RX0 42 "MolesLawn$Lawn" "spare" "LMolesLawn$Rows;") (List.mem_cons_of_mem _ (List.mem_append_left _ (List.mem_append_left _ (List.mem_append_left _ (List.mem_of_getElem? (i := 2) rfl)))))
  have lk3 := hts (Cond.fieldLink RX0 74 "MolesLawn$Lawn" "fallen" "I") (List.mem_cons_of_mem _ (List.mem_append_left _ (List.mem_append_left _ (List.mem_append_left _ (List.mem_of_getElem? (i := 4) rfl)))))
  have lk4 := hts (Cond.fieldLink RX0 128 "MolesLawn$Rows" "cells" "[I") (List.mem_cons_of_mem _ (List.mem_append_left _ (List.mem_append_left _ (List.mem_append_left _ (List.mem_of_getElem? (i := 3) rfl)))))
  have iK0 : ∀ w ∈ wsX00, w ∈ wsX0_dropTunnels := fun _ h => (List.mem_cons_of_mem _ (List.mem_append_left _ (List.mem_append_right _ h)))
  have iK3 : ∀ w ∈ wsX30, w ∈ wsX0_dropTunnels := fun _ h => (List.mem_cons_of_mem _ (List.mem_append_right _ h))
  unfold wp_X0_dropTunnels at hq
  have J17 : ∀ (y17_2 : Int32) (y17_3 : Int32) (z17_u_cells : (Nat → Int32)) (z17_u_ends : (Nat → Int32)) (z17_u_size : Int32) (z17_u_used : Int32) (H : Heap) (locs : List Loc) (ls : Array Slot), wp_X0_dropTunnels_17 v u x1 y17_2 y17_3 z17_u_cells z17_u_ends z17_u_size z17_u_used Q → va_P (dC, dI) vwCl (wX0 cy a b v ++ cX3 cy b z17_u_cells z17_u_ends z17_u_used z17_u_size) H → va_D A (wX0 cy a b v ++ cX3 cy b z17_u_cells z17_u_ends z17_u_used z17_u_size) → va_S A s.heap H locs → lv_has ls 4 [(0, .ref (a 0)), (1, .int x1), (2, .int y17_2), (3, .int y17_3)] → W p l e (headSpec wsX0_dropTunnels ({ frames := 2, cells := 0, slots := 0, locals := 50 } : Room)).room s m ([.ref (a 0), .int x1] : List Value).toArray below meth c H locs 0 0 (MQ below (q_X0_dropTunnels dC dI cy a b v u x1 Q A) ([.ref (a 0), .int x1] : List Value).toArray s 0 0 A) (F0 m 17 ls []) := by
    intro y17_2 y17_3 z17_u_cells z17_u_ends z17_u_size z17_u_used H locs ls hq hP hD hS hl
    obtain ⟨I17, μ17, h0, hs17⟩ := hq
    have key : ∀ (n : Nat) (y17_3 : Int32) (z17_u_cells : (Nat → Int32)) (z17_u_ends : (Nat → Int32)) (z17_u_size : Int32) (z17_u_used : Int32) (H : Heap) (locs : List Loc) (ls : Array Slot), I17 y17_3 z17_u_cells z17_u_ends z17_u_size z17_u_used → μ17 y17_3 z17_u_cells z17_u_ends z17_u_size z17_u_used < n → va_P (dC, dI) vwCl (wX0 cy a b v ++ cX3 cy b z17_u_cells z17_u_ends z17_u_used z17_u_size) H → va_D A (wX0 cy a b v ++ cX3 cy b z17_u_cells z17_u_ends z17_u_used z17_u_size) → va_S A s.heap H locs → lv_has ls 4 [(0, .ref (a 0)), (1, .int x1), (2, .int y17_2), (3, .int y17_3)] → W p l e (headSpec wsX0_dropTunnels ({ frames := 2, cells := 0, slots := 0, locals := 50 } : Room)).room s m ([.ref (a 0), .int x1] : List Value).toArray below meth c H locs 0 0 (MQ below (q_X0_dropTunnels dC dI cy a b v u x1 Q A) ([.ref (a 0), .int x1] : List Value).toArray s 0 0 A) (F0 m 17 ls []) := by
      intro n
      induction n with
      | zero => intro y17_3 z17_u_cells z17_u_ends z17_u_size z17_u_used H locs ls _ hm; exact absurd hm (Nat.not_lt_zero _)
      | succ n ih =>
        intro y17_3 z17_u_cells z17_u_ends z17_u_size z17_u_used H locs ls hI hm hP hD hS hl
        have hq := hs17 y17_3 z17_u_cells z17_u_ends z17_u_size z17_u_used hI
        generalize hB17 : (fun (t0 : Int32) (t1 : (Nat → Int32)) (t2 : (Nat → Int32)) (t3 : Int32) (t4 : Int32) => I17 t0 t1 t2 t3 t4 ∧ μ17 t0 t1 t2 t3 t4 < μ17 y17_3 z17_u_cells z17_u_ends z17_u_size z17_u_used) = B17 at hq
        have bk17 : ∀ (y17_3 : Int32) (z17_u_cells : (Nat → Int32)) (z17_u_ends : (Nat → Int32)) (z17_u_size : Int32) (z17_u_used : Int32) (H : Heap) (locs : List Loc) (ls : Array Slot), B17 y17_3 z17_u_cells z17_u_ends z17_u_size z17_u_used → va_P (dC, dI) vwCl (wX0 cy a b v ++ cX3 cy b z17_u_cells z17_u_ends z17_u_used z17_u_size) H → va_D A (wX0 cy a b v ++ cX3 cy b z17_u_cells z17_u_ends z17_u_used z17_u_size) → va_S A s.heap H locs → lv_has ls 4 [(0, .ref (a 0)), (1, .int x1), (2, .int y17_2), (3, .int y17_3)] → W p l e (headSpec wsX0_dropTunnels ({ frames := 2, cells := 0, slots := 0, locals := 50 } : Room)).room s m ([.ref (a 0), .int x1] : List Value).toArray below meth c H locs 0 0 (MQ below (q_X0_dropTunnels dC dI cy a b v u x1 Q A) ([.ref (a 0), .int x1] : List Value).toArray s 0 0 A) (F0 m 17 ls []) := by
          intro y17_3 z17_u_cells z17_u_ends z17_u_size z17_u_used H locs ls h
          rw [← hB17] at h
          exact ih y17_3 z17_u_cells z17_u_ends z17_u_size z17_u_used H locs ls h.1 (Nat.lt_of_lt_of_le h.2 (Nat.le_of_lt_succ hm))
        unfold wb_X0_dropTunnels_17 at hq
        refine lv_iload_n hx hb dX0_dropTunnels_17 rfl (lv_at hl 3 rfl) ?_
        refine lv_aload_n hx hb dX0_dropTunnels_18 rfl (lv_at hl 0 rfl) ?_
        refine va_get (D := (dC, dI)) (ci := 0) (v := .ref (a 5)) (C := RX0) (T := TX0) (N := 14) hx hb hts iK0 hown hK hP 0 rfl rfl 4 (by decide) lk0 (fun _ h9 => h9) rfl dX0_dropTunnels_19 ?_
        refine va_get (D := (dC, dI)) (ci := 3) (v := .int (X3_size (X0_tunnels v))) (C := RX3) (T := TX3) (N := 4) hx hb hts iK3 hown hK hP 5 rfl rfl 3 (by decide) lk1 (fun _ h9 => h9) rfl dX0_dropTunnels_22 ?_
        obtain ⟨hqA, hqB⟩ := hq
        refine lv_icmp_ge (tgt := 77) hx hb dX0_dropTunnels_25 (by decide) (fun c2 => ?_) (fun c2 => ?_)
        · have hq := hqA c2
          refine lv_aload_n hx hb dX0_dropTunnels_77 rfl (lv_at hl 0 rfl) ?_
          refine va_get (D := (dC, dI)) (ci := 0) (v := .ref (a 5)) (C := RX0) (T := TX0) (N := 14) hx hb hts iK0 hown hK hP 0 rfl rfl 4 (by decide) lk0 (fun _ h9 => h9) rfl dX0_dropTunnels_78 ?_
          refine lv_aload_n hx hb dX0_dropTunnels_81 rfl (lv_at hl 0 rfl) ?_
          refine va_get (D := (dC, dI)) (ci := 0) (v := .ref (b 0)) (C := RX0) (T := TX0) (N := 14) hx hb hts iK0 hown hK hP 0 rfl rfl 5 (by decide) lk2 (fun _ h9 => h9) rfl dX0_dropTunnels_82 ?_
          have hC : (([5, 6, 7, 21, 22, 23] : List Nat).map (fun i => (wX0 cy a b v ++ cX3 cy b z17_u_cells z17_u_ends z17_u_used z17_u_size)[i]?)) = (wX3 cy (sh a 5) (X0_tunnels v) ++ cX3 cy b z17_u_cells z17_u_ends z17_u_used z17_u_size).map some := rfl
          have hPc := xsubP hP hC
          have hDc := xsubD hD (by decide) hC
          have hFc := va_free (wc := (wX3 cy (sh a 5) (X0_tunnels v) ++ cX3 cy b z17_u_cells z17_u_ends z17_u_used z17_u_size)) hD hS hAe0 [5, 6, 7, 21, 22, 23] hC
          refine va_callv (va_runV (As := [.ref (b 0)]) (rest := []) ⟨hx, hb, hml, hown, hts⟩ (c_X3_copyFrom l dC dI cy (sh a 5) b _ (X0_tunnels v) (X3_s3 (X3_s2 (X3_s1 (X3_s0 u z17_u_cells) z17_u_ends) z17_u_used) z17_u_size) _ hq) (cwV 1 hts gX0_dropTunnels_X3_copyFrom rfl rfl rfl (by decide +kernel) ⟨Nat.le_of_ble_eq_true rfl, Nat.le_of_ble_eq_true rfl⟩) ⟨xPre_blind, va_recv hK hP (ci := 3) (q0 := 5) rfl rfl, xPre_of hPc hK hDc⟩ rfl rfl hl.1 rfl (lv_room (Nat.le_of_ble_eq_true rfl)) dX0_dropTunnels_85 ⟨Nat.le_of_ble_eq_true rfl, Nat.le_of_ble_eq_true rfl⟩) hS (fun q _ h => hFc q h) hFc (fun u t H locs ht hvm hq hB hz1 hk1 hS => ?_)
          obtain ⟨z85_v_cells, z85_v_ends, z85_v_size, z85_v_used⟩ := u
          obtain ⟨hP1, -, hD1⟩ := hB
          rw [ht] at hP1
          obtain ⟨hP, hD⟩ := xj hP hD [5, 6, 7, 21, 22, 23] (cX3 cy (sh a 5) z85_v_cells z85_v_ends z85_v_used z85_v_size ++ cX3 cy b z17_u_cells z17_u_ends z17_u_used z17_u_size) (ws' := (cX0 cy a b (X0_mounds v) (X0_opened v) (X0_roots v) (X0_traps v) (z85_v_cells, z85_v_ends, z85_v_used, z85_v_size) (X0_molesR v) (X0_moles v) (X0_moleCount v) (X0_fullAir v) (X0_beats v) (X0_caught v) (X0_gnawed v) (X0_risen v) (X0_fallen v) ++ cX3 cy b z17_u_cells z17_u_ends z17_u_used z17_u_size)) hC rfl rfl hk1 hFc hP1
          refine lv_aload_n hx hb dX0_dropTunnels_88 rfl (lv_at hl 0 rfl) ?_
          refine lv_dup hx hb dX0_dropTunnels_89 rfl ?_
          refine va_get (D := (dC, dI)) (ci := 0) (v := .int (X0_fallen v)) (C := RX0) (T := TX0) (N := 14) hx hb hts iK0 hown hK hP 0 rfl rfl 13 (by decide) lk3 (fun _ h9 => h9) rfl dX0_dropTunnels_90 ?_
          refine lv_iload_n hx hb dX0_dropTunnels_93 rfl (lv_at hl 2 rfl) ?_
          refine lv_aload_n hx hb dX0_dropTunnels_94 rfl (lv_at hl 0 rfl) ?_
          refine va_get (D := (dC, dI)) (ci := 0) (v := .ref (a 5)) (C := RX0) (T := TX0) (N := 14) hx hb hts iK0 hown hK hP 0 rfl rfl 4 (by decide) lk0 (fun _ h9 => h9) rfl dX0_dropTunnels_95 ?_
          refine va_get (D := (dC, dI)) (ci := 3) (v := .int z85_v_size) (C := RX3) (T := TX3) (N := 4) hx hb hts iK3 hown hK hP 5 rfl rfl 3 (by decide) lk1 (fun _ h9 => h9) rfl dX0_dropTunnels_98 ?_
          refine lv_isub hx hb dX0_dropTunnels_101 ?_
          refine lv_iadd hx hb dX0_dropTunnels_102 ?_
          refine va_put (D := (dC, dI)) (ci := 0) (v := .int ((X0_fallen v) + (y17_2 - z85_v_size))) (ty := .int) (C := RX0) (T := TX0) (N := 14) hx hb hts iK0 tyX0 tyX0_ok nmX0 hown hK hP hD hS 0 rfl rfl 13 (by decide) lk3 (fun _ h9 => h9) rfl (by decide +kernel) rfl rfl (Nat.le_of_ble_eq_true rfl) dX0_dropTunnels_103 (fun H locs hP hD hS => ?_)
          have hP : va_P (dC, dI) vwCl (cX0 cy a b (X0_mounds v) (X0_opened v) (X0_roots v) (X0_traps v) (z85_v_cells, z85_v_ends, z85_v_used, z85_v_size) (X0_molesR v) (X0_moles v) (X0_moleCount v) (X0_fullAir v) (X0_beats v) (X0_caught v) (X0_gnawed v) (X0_risen v) ((X0_fallen v) + (y17_2 - z85_v_size)) ++ cX3 cy b z17_u_cells z17_u_ends z17_u_used z17_u_size) H := hP
          have hD : va_D A (cX0 cy a b (X0_mounds v) (X0_opened v) (X0_roots v) (X0_traps v) (z85_v_cells, z85_v_ends, z85_v_used, z85_v_size) (X0_molesR v) (X0_moles v) (X0_moleCount v) (X0_fullAir v) (X0_beats v) (X0_caught v) (X0_gnawed v) (X0_risen v) ((X0_fallen v) + (y17_2 - z85_v_size)) ++ cX3 cy b z17_u_cells z17_u_ends z17_u_used z17_u_size) := hD
          exact W.vret hx hb hr (fun t ht hW => ⟨⟨(z17_u_cells, z17_u_ends, z17_u_size, z17_u_used, ((X0_fallen v) + (y17_2 - z85_v_size)), (X3_s3 (X3_s2 (X3_s1 (X3_s0 (X0_tunnels v) z85_v_cells) z85_v_ends) z85_v_used) z85_v_size)), rfl, hq, (xAt_of hP hK hD ht hW)⟩, hS.F ht⟩) hS.2.2 dX0_dropTunnels_106
        · have hq := hqB c2
          refine lv_aload_n hx hb dX0_dropTunnels_28 rfl (lv_at hl 0 rfl) ?_
          refine va_get (D := (dC, dI)) (ci := 0) (v := .ref (a 5)) (C := RX0) (T := TX0) (N := 14) hx hb hts iK0 hown hK hP 0 rfl rfl 4 (by decide) lk0 (fun _ h9 => h9) rfl dX0_dropTunnels_29 ?_
          refine lv_iload_n hx hb dX0_dropTunnels_32 rfl (lv_at hl 3 rfl) ?_
          refine lv_iload_n hx hb dX0_dropTunnels_33 rfl (lv_at hl 1 rfl) ?_
          have hC : (([5, 6, 7] : List Nat).map (fun i => (wX0 cy a b v ++ cX3 cy b z17_u_cells z17_u_ends z17_u_used z17_u_size)[i]?)) = (wX3 cy (sh a 5) (X0_tunnels v)).map some := rfl
          have hPc := xsubP hP hC
          have hDc := xsubD hD (by decide) hC
          have hFc := va_free (wc := (wX3 cy (sh a 5) (X0_tunnels v))) hD hS hAe0 [5, 6, 7] hC
          refine va_calli (va_runV (As := [.int y17_3, .int x1]) (rest := []) ⟨hx, hb, hml, hown, hts⟩ (c_X3_firstIndex l dC dI cy (sh a 5) _ (X0_tunnels v) y17_3 x1 _ hq) (cwV 2 hts gX0_dropTunnels_X3_firstIndex rfl rfl rfl (by decide +kernel) ⟨Nat.le_of_ble_eq_true rfl, Nat.le_of_ble_eq_true rfl⟩) ⟨xPre_blind, va_recv hK hP (ci := 3) (q0 := 5) rfl rfl, xPre_of hPc hK hDc⟩ rfl rfl hl.1 rfl (lv_room (Nat.le_of_ble_eq_true rfl)) dX0_dropTunnels_34 ⟨Nat.le_of_ble_eq_true rfl, Nat.le_of_ble_eq_true rfl⟩) hS (fun q _ h => hFc q h) hFc (fun r34 u t H locs ht hvm hq hB hz1 hk1 hS => ?_)
          obtain ⟨hP1, -, hD1⟩ := hB
          rw [ht] at hP1
          have hP : va_P (dC, dI) vwCl (wX0 cy a b v ++ cX3 cy b z17_u_cells z17_u_ends z17_u_used z17_u_size) H := xj_keep hP hD [5, 6, 7] hC hP1 hk1
          refine lv_iconst (v := (-1)) hx hb dX0_dropTunnels_37 (by decide) ?_
          obtain ⟨hqA, hqB⟩ := hq
          refine lv_icmp_ne (tgt := 71) hx hb dX0_dropTunnels_38 (by decide) (fun c1 => ?_) (fun c1 => ?_)
          · have hq := hqB c1
            refine lv_iinc (v := (y17_3 + 1)) (lv' := [(3, .int (y17_3 + 1)), (0, .ref (a 0)), (1, .int x1), (2, .int y17_2)]) hx hb dX0_dropTunnels_71 hl (k := 3) rfl rfl (by decide) rfl (fun ls hl => ?_)
            refine lv_goto (tgt := 17) hx hb dX0_dropTunnels_74 (by decide) ?_
            exact bk17 (y17_3 + 1) z17_u_cells z17_u_ends z17_u_size z17_u_used _ _ _ hq hP hD hS (lv_sub hl [1, 2, 3, 0] rfl)
          · have hq := hqA c1
            refine lv_aload_n hx hb dX0_dropTunnels_41 rfl (lv_at hl 0 rfl) ?_
            refine va_get (D := (dC, dI)) (ci := 0) (v := .ref (b 0)) (C := RX0) (T := TX0) (N := 14) hx hb hts iK0 hown hK hP 0 rfl rfl 5 (by decide) lk2 (fun _ h9 => h9) rfl dX0_dropTunnels_42 ?_
            refine lv_aload_n hx hb dX0_dropTunnels_45 rfl (lv_at hl 0 rfl) ?_
            refine va_get (D := (dC, dI)) (ci := 0) (v := .ref (a 5)) (C := RX0) (T := TX0) (N := 14) hx hb hts iK0 hown hK hP 0 rfl rfl 4 (by decide) lk0 (fun _ h9 => h9) rfl dX0_dropTunnels_46 ?_
            refine va_get (D := (dC, dI)) (ci := 3) (v := .ref (a 6)) (C := RX3) (T := TX3) (N := 4) hx hb hts iK3 hown hK hP 5 rfl rfl 0 (by decide) lk4 (fun _ h9 => h9) rfl dX0_dropTunnels_49 ?_
            refine lv_aload_n hx hb dX0_dropTunnels_52 rfl (lv_at hl 0 rfl) ?_
            refine va_get (D := (dC, dI)) (ci := 0) (v := .ref (a 5)) (C := RX0) (T := TX0) (N := 14) hx hb hts iK0 hown hK hP 0 rfl rfl 4 (by decide) lk0 (fun _ h9 => h9) rfl dX0_dropTunnels_53 ?_
            refine lv_iload_n hx hb dX0_dropTunnels_56 rfl (lv_at hl 3 rfl) ?_
            have hC : (([5, 6, 7] : List Nat).map (fun i => (wX0 cy a b v ++ cX3 cy b z17_u_cells z17_u_ends z17_u_used z17_u_size)[i]?)) = (wX3 cy (sh a 5) (X0_tunnels v)).map some := rfl
            have hPc := xsubP hP hC
            have hDc := xsubD hD (by decide) hC
            have hFc := va_free (wc := (wX3 cy (sh a 5) (X0_tunnels v))) hD hS hAe0 [5, 6, 7] hC
            refine va_calli (va_runV (As := [.int y17_3]) (rest := [.ref (a 6), .ref (b 0)]) ⟨hx, hb, hml, hown, hts⟩ (c_X3_from l dC dI cy (sh a 5) _ (X0_tunnels v) y17_3 _ hq) (cwV 1 hts gX0_dropTunnels_X3_from rfl rfl rfl (by decide +kernel) ⟨Nat.le_of_ble_eq_true rfl, Nat.le_of_ble_eq_true rfl⟩) ⟨xPre_blind, va_recv hK hP (ci := 3) (q0 := 5) rfl rfl, xPre_of hPc hK hDc⟩ rfl rfl hl.1 rfl (lv_room (Nat.le_of_ble_eq_true rfl)) dX0_dropTunnels_57 ⟨Nat.le_of_ble_eq_true rfl, Nat.le_of_ble_eq_true rfl⟩) hS (fun q _ h => hFc q h) hFc (fun r57 u t H locs ht hvm hq hB hz1 hk1 hS => ?_)
            obtain ⟨hP1, -, hD1⟩ := hB
            rw [ht] at hP1
            have hP : va_P (dC, dI) vwCl (wX0 cy a b v ++ cX3 cy b z17_u_cells z17_u_ends z17_u_used z17_u_size) H := xj_keep hP hD [5, 6, 7] hC hP1 hk1
            refine lv_aload_n hx hb dX0_dropTunnels_60 rfl (lv_at hl 0 rfl) ?_
            refine va_get (D := (dC, dI)) (ci := 0) (v := .ref (a 5)) (C := RX0) (T := TX0) (N := 14) hx hb hts iK0 hown hK hP 0 rfl rfl 4 (by decide) lk0 (fun _ h9 => h9) rfl dX0_dropTunnels_61 ?_
            refine lv_iload_n hx hb dX0_dropTunnels_64 rfl (lv_at hl 3 rfl) ?_
            have hC : (([5, 6, 7] : List Nat).map (fun i => (wX0 cy a b v ++ cX3 cy b z17_u_cells z17_u_ends z17_u_used z17_u_size)[i]?)) = (wX3 cy (sh a 5) (X0_tunnels v)).map some := rfl
            have hPc := xsubP hP hC
            have hDc := xsubD hD (by decide) hC
            have hFc := va_free (wc := (wX3 cy (sh a 5) (X0_tunnels v))) hD hS hAe0 [5, 6, 7] hC
            refine va_calli (va_runV (As := [.int y17_3]) (rest := [.int r57, .ref (a 6), .ref (b 0)]) ⟨hx, hb, hml, hown, hts⟩ (c_X3_to l dC dI cy (sh a 5) _ (X0_tunnels v) y17_3 _ hq) (cwV 1 hts gX0_dropTunnels_X3_to rfl rfl rfl (by decide +kernel) ⟨Nat.le_of_ble_eq_true rfl, Nat.le_of_ble_eq_true rfl⟩) ⟨xPre_blind, va_recv hK hP (ci := 3) (q0 := 5) rfl rfl, xPre_of hPc hK hDc⟩ rfl rfl hl.1 rfl (lv_room (Nat.le_of_ble_eq_true rfl)) dX0_dropTunnels_65 ⟨Nat.le_of_ble_eq_true rfl, Nat.le_of_ble_eq_true rfl⟩) hS (fun q _ h => hFc q h) hFc (fun r65 u t H locs ht hvm hq hB hz1 hk1 hS => ?_)
            obtain ⟨hP1, -, hD1⟩ := hB
            rw [ht] at hP1
            have hP : va_P (dC, dI) vwCl (wX0 cy a b v ++ cX3 cy b z17_u_cells z17_u_ends z17_u_used z17_u_size) H := xj_keep hP hD [5, 6, 7] hC hP1 hk1
            have hC : (([21, 22, 23, 6] : List Nat).map (fun i => (wX0 cy a b v ++ cX3 cy b z17_u_cells z17_u_ends z17_u_used z17_u_size)[i]?)) = (cX3 cy b z17_u_cells z17_u_ends z17_u_used z17_u_size ++ cAI cy (sh a 6) 1024 (X3_cells (X0_tunnels v))).map some := rfl
            have hPc := xsubP hP hC
            have hDc := xsubD hD (by decide) hC
            have hFc := va_free (wc := (cX3 cy b z17_u_cells z17_u_ends z17_u_used z17_u_size ++ cAI cy (sh a 6) 1024 (X3_cells (X0_tunnels v)))) hD hS hAe0 [21, 22, 23, 6] hC
            refine va_callv (va_runV (As := [.ref (a 6), .int r57, .int r65]) (rest := []) ⟨hx, hb, hml, hown, hts⟩ (c_X3_addRow l dC dI cy b (sh a 6) _ (X3_s3 (X3_s2 (X3_s1 (X3_s0 u z17_u_cells) z17_u_ends) z17_u_used) z17_u_size) 1024 (X3_cells (X0_tunnels v)) r57 r65 _ hq) (cwV 3 hts gX0_dropTunnels_X3_addRow rfl rfl rfl (by decide +kernel) ⟨Nat.le_of_ble_eq_true rfl, Nat.le_of_ble_eq_true rfl⟩) ⟨xPre_blind, va_recv hK hP (ci := 3) (q0 := 21) rfl rfl, xPre_of hPc hK hDc⟩ rfl rfl hl.1 rfl (lv_room (Nat.le_of_ble_eq_true rfl)) dX0_dropTunnels_68 ⟨Nat.le_of_ble_eq_true rfl, Nat.le_of_ble_eq_true rfl⟩) hS (fun q _ h => hFc q h) hFc (fun u t H locs ht hvm hq hB hz1 hk1 hS => ?_)
            obtain ⟨z68_v_cells, z68_v_ends, z68_v_size, z68_v_used⟩ := u
            obtain ⟨hP1, -, hD1⟩ := hB
            rw [ht] at hP1
            obtain ⟨hP, hD⟩ := xj hP hD [21, 22, 23, 6] (cX3 cy b z68_v_cells z68_v_ends z68_v_used z68_v_size ++ cAI cy (sh a 6) 1024 (X3_cells (X0_tunnels v))) (ws' := (wX0 cy a b v ++ cX3 cy b z68_v_cells z68_v_ends z68_v_used z68_v_size)) hC rfl rfl hk1 hFc hP1
            refine lv_iinc (v := (y17_3 + 1)) (lv' := [(3, .int (y17_3 + 1)), (0, .ref (a 0)), (1, .int x1), (2, .int y17_2)]) hx hb dX0_dropTunnels_71 hl (k := 3) rfl rfl (by decide) rfl (fun ls hl => ?_)
            refine lv_goto (tgt := 17) hx hb dX0_dropTunnels_74 (by decide) ?_
            exact bk17 (y17_3 + 1) z68_v_cells z68_v_ends z68_v_size z68_v_used _ _ _ hq hP hD hS (lv_sub hl [1, 2, 3, 0] rfl)
    exact key _ y17_3 z17_u_cells z17_u_ends z17_u_size z17_u_used H locs ls h0 (Nat.lt_succ_self _) hP hD hS hl
  refine lv_aload_n hx hb dX0_dropTunnels_0 rfl (lv_at hl 0 rfl) ?_
  refine va_get (D := (dC, dI)) (ci := 0) (v := .ref (a 5)) (C := RX0) (T := TX0) (N := 14) hx hb hts iK0 hown hK hP 0 rfl rfl 4 (by decide) lk0 (fun _ h9 => h9) rfl dX0_dropTunnels_1 ?_
  refine va_get (D := (dC, dI)) (ci := 3) (v := .int (X3_size (X0_tunnels v))) (C := RX3) (T := TX3) (N := 4) hx hb hts iK3 hown hK hP 5 rfl rfl 3 (by decide) lk1 (fun _ h9 => h9) rfl dX0_dropTunnels_4 ?_
  refine lv_istore_n (lv' := [(2, .int (X3_size (X0_tunnels v))), (0, .ref (a 0)), (1, .int x1)]) hx hb dX0_dropTunnels_7 rfl hl (by decide) rfl (fun ls hl => ?_)
  refine lv_aload_n hx hb dX0_dropTunnels_8 rfl (lv_at hl 1 rfl) ?_
  refine va_get (D := (dC, dI)) (ci := 0) (v := .ref (b 0)) (C := RX0) (T := TX0) (N := 14) hx hb hts iK0 hown hK hP 0 rfl rfl 5 (by decide) lk2 (fun _ h9 => h9) rfl dX0_dropTunnels_9 ?_
  have hC : (([21, 22, 23] : List Nat).map (fun i => (wX0 cy a b v ++ wX3 cy b u)[i]?)) = (wX3 cy b u).map some := rfl
  have hPc := xsubP hP hC
  have hDc := xsubD hD (by decide) hC
  have hFc := va_free (wc := (wX3 cy b u)) hD hS hAe0 [21, 22, 23] hC
  refine va_callv (va_runV (As := []) (rest := []) ⟨hx, hb, hml, hown, hts⟩ (c_X3_empty l dC dI cy b _ u _ hq) (cwV 0 hts gX0_dropTunnels_X3_empty rfl rfl rfl (by decide +kernel) ⟨Nat.le_of_ble_eq_true rfl, Nat.le_of_ble_eq_true rfl⟩) ⟨xPre_blind, va_recv hK hP (ci := 3) (q0 := 21) rfl rfl, xPre_of hPc hK hDc⟩ rfl rfl hl.1 rfl (lv_room (Nat.le_of_ble_eq_true rfl)) dX0_dropTunnels_12 ⟨Nat.le_of_ble_eq_true rfl, Nat.le_of_ble_eq_true rfl⟩) hS (fun q _ h => hFc q h) hFc (fun u t H locs ht hvm hq hB hz1 hk1 hS => ?_)
  obtain ⟨z12_v_size, z12_v_used⟩ := u
  obtain ⟨hP1, -, hD1⟩ := hB
  rw [ht] at hP1
  obtain ⟨hP, hD⟩ := xj hP hD [21, 22, 23] (cX3 cy b (X3_cells u) (X3_ends u) z12_v_used z12_v_size) (ws' := (wX0 cy a b v ++ cX3 cy b (X3_cells u) (X3_ends u) z12_v_used z12_v_size)) hC rfl rfl hk1 hFc hP1
  refine lv_iconst (v := 0) hx hb dX0_dropTunnels_15 (by decide) ?_
  refine lv_istore_n (lv' := [(3, .int 0), (2, .int (X3_size (X0_tunnels v))), (0, .ref (a 0)), (1, .int x1)]) hx hb dX0_dropTunnels_16 rfl hl (by decide) rfl (fun ls hl => ?_)
  exact J17 (X3_size (X0_tunnels v)) 0 (X3_cells u) (X3_ends u) z12_v_size z12_v_used _ _ _ hq hP hD hS (lv_sub hl [2, 3, 1, 0] rfl)
def wb_X0_dropTrails_58 (v : V_X0) (u : V_X3) (x1 : Int32)  (y58_2 : Int32) (z58_u_cells : (Nat → Int32)) (z58_u_ends : (Nat → Int32)) (z58_u_size : Int32) (z58_u_used : Int32) (z58_v_moles : (Nat → V_X1)) (z58_v_mounds : (Nat → Int32)) (z58_v_risen : Int32) (z58_v_tunnels : V_X3) (B58 : Int32 → (Nat → Int32) → (Nat → Int32) → Int32 → Int32 → (Nat → V_X1) → (Nat → Int32) → Int32 → V_X3 → Prop) (Q : (Nat → Int32) → (Nat → Int32) → Int32 → Int32 → (Nat → V_X1) → (Nat → Int32) → Int32 → V_X3 → Prop) : Prop :=
  (((X0_moleCount v) ≤ y58_2 → Q z58_u_cells z58_u_ends z58_u_size z58_u_used z58_v_moles z58_v_mounds z58_v_risen z58_v_tunnels) ∧
  (¬ (X0_moleCount v) ≤ y58_2 → vp_in y58_2 4 ∧ ((X0_molesR v) y58_2.toNatClampNeg) < 4 ∧ (((X1_lost (z58_v_moles ((X0_molesR v) y58_2.toNatClampNeg))) = 0 → B58 (y58_2 + 1) z58_u_cells z58_u_ends z58_u_size z58_u_used z58_v_moles z58_v_mounds z58_v_risen z58_v_tunnels) ∧
  (¬ (X1_lost (z58_v_moles ((X0_molesR v) y58_2.toNatClampNeg))) = 0 → wp_X1_place (X1_s6 (z58_v_moles ((X0_molesR v) y58_2.toNatClampNeg)) 0) (fun r87 =>
  wp_X0_ensureMound (X0_s12 (X0_s6 (X0_s4 (X0_s0 v z58_v_mounds) z58_v_tunnels) (va_up z58_v_moles ((X0_molesR v) y58_2.toNatClampNeg) (X1_s6 (z58_v_moles ((X0_molesR v) y58_2.toNatClampNeg)) 0))) z58_v_risen) (X3_s3 (X3_s2 (X3_s1 (X3_s0 u z58_u_cells) z58_u_ends) z58_u_used) z58_u_size) r87 (fun z90_u_cells z90_u_ends z90_u_size z90_u_used z90_v_moles z90_v_mounds z90_v_risen z90_v_tunnels =>
  B58 (y58_2 + 1) z90_u_cells z90_u_ends z90_u_size z90_u_used (va_up z90_v_moles ((X0_molesR v) y58_2.toNatClampNeg) (X1_s4 (z90_v_moles ((X0_molesR v) y58_2.toNatClampNeg)) (X0_fullAir v))) z90_v_mounds z90_v_risen z90_v_tunnels))))))
def wp_X0_dropTrails_58 (v : V_X0) (u : V_X3) (x1 : Int32)  (y58_2 : Int32) (z58_u_cells : (Nat → Int32)) (z58_u_ends : (Nat → Int32)) (z58_u_size : Int32) (z58_u_used : Int32) (z58_v_moles : (Nat → V_X1)) (z58_v_mounds : (Nat → Int32)) (z58_v_risen : Int32) (z58_v_tunnels : V_X3) (Q : (Nat → Int32) → (Nat → Int32) → Int32 → Int32 → (Nat → V_X1) → (Nat → Int32) → Int32 → V_X3 → Prop) : Prop :=
  ∃ (I : Int32 → (Nat → Int32) → (Nat → Int32) → Int32 → Int32 → (Nat → V_X1) → (Nat → Int32) → Int32 → V_X3 → Prop) (μ : Int32 → (Nat → Int32) → (Nat → Int32) → Int32 → Int32 → (Nat → V_X1) → (Nat → Int32) → Int32 → V_X3 → Nat), I y58_2 z58_u_cells z58_u_ends z58_u_size z58_u_used z58_v_moles z58_v_mounds z58_v_risen z58_v_tunnels ∧ ∀ (s0 : Int32) (s1 : (Nat → Int32)) (s2 : (Nat → Int32)) (s3 : Int32) (s4 : Int32) (s5 : (Nat → V_X1)) (s6 : (Nat → Int32)) (s7 : Int32) (s8 : V_X3), I s0 s1 s2 s3 s4 s5 s6 s7 s8 → wb_X0_dropTrails_58 v u x1  s0 s1 s2 s3 s4 s5 s6 s7 s8 (fun t0 t1 t2 t3 t4 t5 t6 t7 t8 => I t0 t1 t2 t3 t4 t5 t6 t7 t8 ∧ μ t0 t1 t2 t3 t4 t5 t6 t7 t8 < μ s0 s1 s2 s3 s4 s5 s6 s7 s8) Q
def wp_X0_dropTrails_32 (v : V_X0) (u : V_X3) (x1 : Int32) (y2_2 : Int32) (z2_v_moles : (Nat → V_X1)) (B2 : Int32 → (Nat → V_X1) → Prop) (j32_3 : Nat) (k32_0 : Int32) (h32_1 : Nat) (Q : (Nat → Int32) → (Nat → Int32) → Int32 → Int32 → (Nat → V_X1) → (Nat → Int32) → Int32 → V_X3 → Prop) : Prop :=
  bz k32_0 ∧ h32_1 < 4 ∧ j32_3 < 4 ∧ (((X1_lost ((va_up z2_v_moles h32_1 (X1_s6 (z2_v_moles h32_1) k32_0)) j32_3)) = 0 → B2 (y2_2 + 1) (va_up z2_v_moles h32_1 (X1_s6 (z2_v_moles h32_1) k32_0))) ∧
  (¬ (X1_lost ((va_up z2_v_moles h32_1 (X1_s6 (z2_v_moles h32_1) k32_0)) j32_3)) = 0 → wp_X1_place ((va_up z2_v_moles h32_1 (X1_s6 (z2_v_moles h32_1) k32_0)) j32_3) (fun r44 =>
  wp_X1_beginTrail ((va_up z2_v_moles h32_1 (X1_s6 (z2_v_moles h32_1) k32_0)) j32_3) r44 (fun z47_v_trail z47_v_trailLength =>
  B2 (y2_2 + 1) (va_up (va_up z2_v_moles h32_1 (X1_s6 (z2_v_moles h32_1) k32_0)) j32_3 (X1_s3 (X1_s1 ((va_up z2_v_moles h32_1 (X1_s6 (z2_v_moles h32_1) k32_0)) j32_3) z47_v_trail) z47_v_trailLength))))))
def wb_X0_dropTrails_2 (v : V_X0) (u : V_X3) (x1 : Int32)  (y2_2 : Int32) (z2_v_moles : (Nat → V_X1)) (B2 : Int32 → (Nat → V_X1) → Prop) (Q : (Nat → Int32) → (Nat → Int32) → Int32 → Int32 → (Nat → V_X1) → (Nat → Int32) → Int32 → V_X3 → Prop) : Prop :=
  (((X0_moleCount v) ≤ y2_2 → wp_X0_dropTrails_58 v u x1  0 (X3_cells u) (X3_ends u) (X3_size u) (X3_used u) z2_v_moles (X0_mounds v) (X0_risen v) (X0_tunnels v) Q) ∧
  (¬ (X0_moleCount v) ≤ y2_2 → vp_in y2_2 4 ∧ ((X0_molesR v) y2_2.toNatClampNeg) < 4 ∧ wp_X1_firstIndex (z2_v_moles ((X0_molesR v) y2_2.toNatClampNeg)) x1 (fun r20 =>
  ((r20 = (-1) → wp_X0_dropTrails_32 v u x1 y2_2 z2_v_moles B2 ((X0_molesR v) y2_2.toNatClampNeg) 0 ((X0_molesR v) y2_2.toNatClampNeg)  Q) ∧
  (¬ r20 = (-1) → wp_X0_dropTrails_32 v u x1 y2_2 z2_v_moles B2 ((X0_molesR v) y2_2.toNatClampNeg) 1 ((X0_molesR v) y2_2.toNatClampNeg)  Q)))))
def wp_X0_dropTrails_2 (v : V_X0) (u : V_X3) (x1 : Int32)  (y2_2 : Int32) (z2_v_moles : (Nat → V_X1)) (Q : (Nat → Int32) → (Nat → Int32) → Int32 → Int32 → (Nat → V_X1) → (Nat → Int32) → Int32 → V_X3 → Prop) : Prop :=
  ∃ (I : Int32 → (Nat → V_X1) → Prop) (μ : Int32 → (Nat → V_X1) → Nat), I y2_2 z2_v_moles ∧ ∀ (s0 : Int32) (s1 : (Nat → V_X1)), I s0 s1 → wb_X0_dropTrails_2 v u x1  s0 s1 (fun t0 t1 => I t0 t1 ∧ μ t0 t1 < μ s0 s1) Q
def wp_X0_dropTrails (v : V_X0) (u : V_X3) (x1 : Int32) (Q : (Nat → Int32) → (Nat → Int32) → Int32 → Int32 → (Nat → V_X1) → (Nat → Int32) → Int32 → V_X3 → Prop) : Prop :=
  wp_X0_dropTrails_2 v u x1  0 (X0_moles v) Q
def q_X0_dropTrails (dC : Nat → ClassId) (dI : Nat → Nat → Nat) (cy : Nat → ClassId) (a b : Nat → Nat) (v : V_X0) (u : V_X3) (x1 : Int32) (Q : (Nat → Int32) → (Nat → Int32) → Int32 → Int32 → (Nat → V_X1) → (Nat → Int32) → Int32 → V_X3 → Prop) (A : Nat → Prop) : Array Value → State → Outcome → State → Prop := va_Qv (fun (u : (Nat → Int32) × (Nat → Int32) × Int32 × Int32 × (Nat → V_X1) × (Nat → Int32) × Int32 × V_X3) => Q u.1 u.2.1 u.2.2.1 u.2.2.2.1 u.2.2.2.2.1 u.2.2.2.2.2.1 u.2.2.2.2.2.2.1 u.2.2.2.2.2.2.2) (fun (u : (Nat → Int32) × (Nat → Int32) × Int32 × Int32 × (Nat → V_X1) × (Nat → Int32) × Int32 × V_X3) t => xAt dC dI cy A (cX0 cy a b u.2.2.2.2.2.1 (X0_opened v) (X0_roots v) (X0_traps v) u.2.2.2.2.2.2.2 (X0_molesR v) u.2.2.2.2.1 (X0_moleCount v) (X0_fullAir v) (X0_beats v) (X0_caught v) (X0_gnawed v) u.2.2.2.2.2.2.1 (X0_fallen v) ++ cX3 cy b u.1 u.2.1 u.2.2.2.1 u.2.2.1) t) A
set_option maxHeartbeats 4000000 in
set_option maxRecDepth 100000 in
theorem c_X0_dropTrails (l : Launch) (dC : Nat → ClassId) (dI : Nat → Nat → Nat) (cy : Nat → ClassId) (a b : Nat → Nat) (sz : Nat) (v : V_X0) (u : V_X3) (x1 : Int32) (Q : (Nat → Int32) → (Nat → Int32) → Int32 → Int32 → (Nat → V_X1) → (Nat → Int32) → Int32 → V_X3 → Prop) (hq : wp_X0_dropTrails v u x1 Q) : Met l yX0_dropTrails wsX0_dropTrails ({ frames := 4, cells := 0, slots := 0, locals := 97 } : Room) (va_Pc [.ref (a 0), .int x1] (xPre dC dI cy (wX0 cy a b v ++ wX3 cy b u) sz)) (q_X0_dropTrails dC dI cy a b v u x1 Q (va_A (wX0 cy a b v ++ wX3 cy b u) sz)) 0 0 (va_A (wX0 cy a b v ++ wX3 cy b u) sz) := by
  refine Met.ofW (cc := cX0_dropTrails) (maxL := 4) (ret := none) (by decide) rfl ?_
  intro p e s m args below meth c s₁ B hml hv
  obtain ⟨rfl, hsz, hP, hK, hD0⟩ := hv
  have hx := B.exec
  have hb := B.bytes
  have hr := B.returns
  have hts := atoms_spec (ws := wsX0_dropTrails) B.pre
  have hown : s.vm.findClass RX0 = some m.cls := findClass_of_methodNamed B.named
  have hlocks := B.notSynchronized
  subst hsz
  have hD := hD0.self (sz := s.heap.size)
  generalize hAe : va_A (wX0 cy a b v ++ wX3 cy b u) s.heap.size = A at hD ⊢
  have hAe0 : ∀ q : Nat, s.heap.size ≤ q → A q := fun q h => by rw [← hAe]; exact Or.inr h
  have hS : va_S A s.heap s.heap [] := va_S.rf
  have hl := lv_entry ([.ref (a 0), .int x1]) (n := 4) (Nat.le_of_ble_eq_true rfl)
  rw [lg_entry_eq]
  generalize (lg_sl ([.ref (a 0), .int x1]) ++ List.replicate (4 - (lg_sl ([.ref (a 0), .int x1])).length) Slot.unset).toArray = ls at hl ⊢
  have hl : lv_has ls 4 [(0, .ref (a 0)), (1, .int x1)] := hl
  have lk0 := hts (Cond.fieldLink RX0 56 "MolesLawn$Lawn" "moleCount" "I") (List.mem_cons_of_mem _ (List.mem_append_left _ (List.mem_append_left _ (List.mem_append_left _ (List.mem_append_left _ (List.mem_of_getElem? (i := 0) rfl))))))
  have lk1 := hts (Cond.fieldLink RX0 34 "MolesLawn$Lawn" "moles" "[LMolesLawn$Mole;") (List.mem_cons_of_mem _ (List.mem_append_left _ (List.mem_append_left _ (List.mem_append_left _ (List.mem_append_left _ (List.mem_of_getElem? (i := 1) rfl))))))
  have lk2 := hts (Cond.fieldLink RX0 168 "MolesLawn$Mole" "lost" "Z") (List.mem_cons_of_mem _ (List.mem_append_left _ (List.mem_append_left _ (List.mem_append_left _ (List.mem_append_left _ (List.mem_of_getElem? (i := 2) rfl))))))
  have lk3 := hts (Cond.fieldLink RX0 38 "MolesLawn$Lawn" "fullAir" "I") (List.mem_cons_of_mem _ (List.mem_append_left _ (List.mem_append_left _ (List.mem_append_left _ (List.mem_append_left _ (List.mem_of_getElem? (i := 3) rfl))))))
  have lk4 := hts (Cond.fieldLink RX0 87 "MolesLawn$Mole" "air" "I") (List.mem_cons_of_mem _ (List.mem_append_left _ (List.mem_append_left _ (List.mem_append_left _ (List.mem_append_left _ (List.mem_of_getElem? (i := 4) rfl))))))
  have iK0 : ∀ w ∈ wsX00, w ∈ wsX0_dropTrails := fun _ h => (List.mem_cons_of_mem _ (List.mem_append_left _ (List.mem_append_left _ (List.mem_append_right _ h))))
  have iK1 : ∀ w ∈ wsX10, w ∈ wsX0_dropTrails := fun _ h => (List.mem_cons_of_mem _ (List.mem_append_left _ (List.mem_append_right _ h)))
  unfold wp_X0_dropTrails at hq
  have J58 : ∀  (y58_2 : Int32) (z58_u_cells : (Nat → Int32)) (z58_u_ends : (Nat → Int32)) (z58_u_size : Int32) (z58_u_used : Int32) (z58_v_moles : (Nat → V_X1)) (z58_v_mounds : (Nat → Int32)) (z58_v_risen : Int32) (z58_v_tunnels : V_X3) (H : Heap) (locs : List Loc) (ls : Array Slot), wp_X0_dropTrails_58 v u x1  y58_2 z58_u_cells z58_u_ends z58_u_size z58_u_used z58_v_moles z58_v_mounds z58_v_risen z58_v_tunnels Q → va_P (dC, dI) vwCl (cX0 cy a b z58_v_mounds (X0_opened v) (X0_roots v) (X0_traps v) z58_v_tunnels (X0_molesR v) z58_v_moles (X0_moleCount v) (X0_fullAir v) (X0_beats v) (X0_caught v) (X0_gnawed v) z58_v_risen (X0_fallen v) ++ cX3 cy b z58_u_cells z58_u_ends z58_u_used z58_u_size) H → va_D A (cX0 cy a b z58_v_mounds (X0_opened v) (X0_roots v) (X0_traps v) z58_v_tunnels (X0_molesR v) z58_v_moles (X0_moleCount v) (X0_fullAir v) (X0_beats v) (X0_caught v) (X0_gnawed v) z58_v_risen (X0_fallen v) ++ cX3 cy b z58_u_cells z58_u_ends z58_u_used z58_u_size) → va_S A s.heap H locs → lv_has ls 4 [(0, .ref (a 0)), (2, .int y58_2)] → W p l e (headSpec wsX0_dropTrails ({ frames := 4, cells := 0, slots := 0, locals := 97 } : Room)).room s m ([.ref (a 0), .int x1] : List Value).toArray below meth c H locs 0 0 (MQ below (q_X0_dropTrails dC dI cy a b v u x1 Q A) ([.ref (a 0), .int x1] : List Value).toArray s 0 0 A) (F0 m 58 ls []) := by
    intro  y58_2 z58_u_cells z58_u_ends z58_u_size z58_u_used z58_v_moles z58_v_mounds z58_v_risen z58_v_tunnels H locs ls hq hP hD hS hl
    obtain ⟨I58, μ58, h0, hs58⟩ := hq
    have key : ∀ (n : Nat) (y58_2 : Int32) (z58_u_cells : (Nat → Int32)) (z58_u_ends : (Nat → Int32)) (z58_u_size : Int32) (z58_u_used : Int32) (z58_v_moles : (Nat → V_X1)) (z58_v_mounds : (Nat → Int32)) (z58_v_risen : Int32) (z58_v_tunnels : V_X3) (H : Heap) (locs : List Loc) (ls : Array Slot), I58 y58_2 z58_u_cells z58_u_ends z58_u_size z58_u_used z58_v_moles z58_v_mounds z58_v_risen z58_v_tunnels → μ58 y58_2 z58_u_cells z58_u_ends z58_u_size z58_u_used z58_v_moles z58_v_mounds z58_v_risen z58_v_tunnels < n → va_P (dC, dI) vwCl (cX0 cy a b z58_v_mounds (X0_opened v) (X0_roots v) (X0_traps v) z58_v_tunnels (X0_molesR v) z58_v_moles (X0_moleCount v) (X0_fullAir v) (X0_beats v) (X0_caught v) (X0_gnawed v) z58_v_risen (X0_fallen v) ++ cX3 cy b z58_u_cells z58_u_ends z58_u_used z58_u_size) H → va_D A (cX0 cy a b z58_v_mounds (X0_opened v) (X0_roots v) (X0_traps v) z58_v_tunnels (X0_molesR v) z58_v_moles (X0_moleCount v) (X0_fullAir v) (X0_beats v) (X0_caught v) (X0_gnawed v) z58_v_risen (X0_fallen v) ++ cX3 cy b z58_u_cells z58_u_ends z58_u_used z58_u_size) → va_S A s.heap H locs → lv_has ls 4 [(0, .ref (a 0)), (2, .int y58_2)] → W p l e (headSpec wsX0_dropTrails ({ frames := 4, cells := 0, slots := 0, locals := 97 } : Room)).room s m ([.ref (a 0), .int x1] : List Value).toArray below meth c H locs 0 0 (MQ below (q_X0_dropTrails dC dI cy a b v u x1 Q A) ([.ref (a 0), .int x1] : List Value).toArray s 0 0 A) (F0 m 58 ls []) := by
      intro n
      induction n with
      | zero => intro y58_2 z58_u_cells z58_u_ends z58_u_size z58_u_used z58_v_moles z58_v_mounds z58_v_risen z58_v_tunnels H locs ls _ hm; exact absurd hm (Nat.not_lt_zero _)
      | succ n ih =>
        intro y58_2 z58_u_cells z58_u_ends z58_u_size z58_u_used z58_v_moles z58_v_mounds z58_v_risen z58_v_tunnels H locs ls hI hm hP hD hS hl
        have hq := hs58 y58_2 z58_u_cells z58_u_ends z58_u_size z58_u_used z58_v_moles z58_v_mounds z58_v_risen z58_v_tunnels hI
        generalize hB58 : (fun (t0 : Int32) (t1 : (Nat → Int32)) (t2 : (Nat → Int32)) (t3 : Int32) (t4 : Int32) (t5 : (Nat → V_X1)) (t6 : (Nat → Int32)) (t7 : Int32) (t8 : V_X3) => I58 t0 t1 t2 t3 t4 t5 t6 t7 t8 ∧ μ58 t0 t1 t2 t3 t4 t5 t6 t7 t8 < μ58 y58_2 z58_u_cells z58_u_ends z58_u_size z58_u_used z58_v_moles z58_v_mounds z58_v_risen z58_v_tunnels) = B58 at hq
        have bk58 : ∀ (y58_2 : Int32) (z58_u_cells : (Nat → Int32)) (z58_u_ends : (Nat → Int32)) (z58_u_size : Int32) (z58_u_used : Int32) (z58_v_moles : (Nat → V_X1)) (z58_v_mounds : (Nat → Int32)) (z58_v_risen : Int32) (z58_v_tunnels : V_X3) (H : Heap) (locs : List Loc) (ls : Array Slot), B58 y58_2 z58_u_cells z58_u_ends z58_u_size z58_u_used z58_v_moles z58_v_mounds z58_v_risen z58_v_tunnels → va_P (dC, dI) vwCl (cX0 cy a b z58_v_mounds (X0_opened v) (X0_roots v) (X0_traps v) z58_v_tunnels (X0_molesR v) z58_v_moles (X0_moleCount v) (X0_fullAir v) (X0_beats v) (X0_caught v) (X0_gnawed v) z58_v_risen (X0_fallen v) ++ cX3 cy b z58_u_cells z58_u_ends z58_u_used z58_u_size) H → va_D A (cX0 cy a b z58_v_mounds (X0_opened v) (X0_roots v) (X0_traps v) z58_v_tunnels (X0_molesR v) z58_v_moles (X0_moleCount v) (X0_fullAir v) (X0_beats v) (X0_caught v) (X0_gnawed v) z58_v_risen (X0_fallen v) ++ cX3 cy b z58_u_cells z58_u_ends z58_u_used z58_u_size) → va_S A s.heap H locs → lv_has ls 4 [(0, .ref (a 0)), (2, .int y58_2)] → W p l e (headSpec wsX0_dropTrails ({ frames := 4, cells := 0, slots := 0, locals := 97 } : Room)).room s m ([.ref (a 0), .int x1] : List Value).toArray below meth c H locs 0 0 (MQ below (q_X0_dropTrails dC dI cy a b v u x1 Q A) ([.ref (a 0), .int x1] : List Value).toArray s 0 0 A) (F0 m 58 ls []) := by
          intro y58_2 z58_u_cells z58_u_ends z58_u_size z58_u_used z58_v_moles z58_v_mounds z58_v_risen z58_v_tunnels H locs ls h
          rw [← hB58] at h
          exact ih y58_2 z58_u_cells z58_u_ends z58_u_size z58_u_used z58_v_moles z58_v_mounds z58_v_risen z58_v_tunnels H locs ls h.1 (Nat.lt_of_lt_of_le h.2 (Nat.le_of_lt_succ hm))
        unfold wb_X0_dropTrails_58 at hq
        refine lv_iload_n hx hb dX0_dropTrails_58 rfl (lv_at hl 1 rfl) ?_
        refine lv_aload_n hx hb dX0_dropTrails_59 rfl (lv_at hl 0 rfl) ?_
        refine va_get (D := (dC, dI)) (ci := 0) (v := .int (X0_moleCount v)) (C := RX0) (T := TX0) (N := 14) hx hb hts iK0 hown hK hP 0 rfl rfl 7 (by decide) lk0 (fun _ h9 => h9) rfl dX0_dropTrails_60 ?_
        obtain ⟨hqA, hqB⟩ := hq
        refine lv_icmp_ge (tgt := 107) hx hb dX0_dropTrails_63 (by decide) (fun c4 => ?_) (fun c4 => ?_)
        · have hq := hqA c4
          exact W.vret hx hb hr (fun t ht hW => ⟨⟨(z58_u_cells, z58_u_ends, z58_u_size, z58_u_used, z58_v_moles, z58_v_mounds, z58_v_risen, z58_v_tunnels), rfl, hq, (xAt_of hP hK hD ht hW)⟩, hS.F ht⟩) hS.2.2 dX0_dropTrails_107
        · have hq := hqB c4
          refine lv_aload_n hx hb dX0_dropTrails_66 rfl (lv_at hl 0 rfl) ?_
          refine va_get (D := (dC, dI)) (ci := 0) (v := .ref (a 8)) (C := RX0) (T := TX0) (N := 14) hx hb hts iK0 hown hK hP 0 rfl rfl 6 (by decide) lk1 (fun _ h9 => h9) rfl dX0_dropTrails_67 ?_
          refine lv_iload_n hx hb dX0_dropTrails_70 rfl (lv_at hl 1 rfl) ?_
          obtain ⟨g1, hq⟩ := hq
          obtain ⟨g2, hq⟩ := hq
          refine va_aldq hx hb hK hP 8 2 rfl rfl g1 dX0_dropTrails_71 ?_
          refine lv_astore_n (lv' := [(3, .ref (a (9 + 3 * ((X0_molesR v) y58_2.toNatClampNeg)))), (0, .ref (a 0)), (2, .int y58_2)]) hx hb dX0_dropTrails_72 rfl hl (by decide) rfl (fun ls hl => ?_)
          refine lv_aload_n hx hb dX0_dropTrails_73 rfl (lv_at hl 0 rfl) ?_
          refine va_get (D := (dC, dI)) (ci := 1) (v := .int (X1_lost (z58_v_moles ((X0_molesR v) y58_2.toNatClampNeg)))) (C := RX1) (T := TX1) (N := 7) hx hb hts iK1 hown hK hP (9 + 3 * ((X0_molesR v) y58_2.toNatClampNeg)) (co_4 (P := fun i19 => (cX0 cy a b z58_v_mounds (X0_opened v) (X0_roots v) (X0_traps v) z58_v_tunnels (X0_molesR v) z58_v_moles (X0_moleCount v) (X0_fullAir v) (X0_beats v) (X0_caught v) (X0_gnawed v) z58_v_risen (X0_fallen v) ++ cX3 cy b z58_u_cells z58_u_ends z58_u_used z58_u_size)[(9 + 3 * i19)]? = (wX1 cy (sh a (9 + 3 * i19)) (z58_v_moles i19))[0]?) rfl rfl rfl rfl g2) rfl 6 (by decide) lk2 (fun _ h9 => h9) rfl dX0_dropTrails_74 ?_
          obtain ⟨hqA, hqB⟩ := hq
          refine lv_if_eq (tgt := 101) hx hb dX0_dropTrails_77 (by decide) (fun c3 => ?_) (fun c3 => ?_)
          · have hq := hqA c3
            refine lv_iinc (v := (y58_2 + 1)) (lv' := [(2, .int (y58_2 + 1)), (3, .ref (a (9 + 3 * ((X0_molesR v) y58_2.toNatClampNeg)))), (0, .ref (a 0))]) hx hb dX0_dropTrails_101 hl (k := 2) rfl rfl (by decide) rfl (fun ls hl => ?_)
            refine lv_goto (tgt := 58) hx hb dX0_dropTrails_104 (by decide) ?_
            exact bk58 (y58_2 + 1) z58_u_cells z58_u_ends z58_u_size z58_u_used z58_v_moles z58_v_mounds z58_v_risen z58_v_tunnels _ _ _ hq hP hD hS (lv_sub hl [2, 0] rfl)
          · have hq := hqB c3
            refine lv_aload_n hx hb dX0_dropTrails_80 rfl (lv_at hl 0 rfl) ?_
            refine lv_iconst (v := 0) hx hb dX0_dropTrails_81 (by decide) ?_
            refine va_put (D := (dC, dI)) (ci := 1) (v := .int 0) (ty := .boolean) (C := RX1) (T := TX1) (N := 7) hx hb hts iK1 tyX1 tyX1_ok nmX1 hown hK hP hD hS (9 + 3 * ((X0_molesR v) y58_2.toNatClampNeg)) (co_4 (P := fun i19 => (cX0 cy a b z58_v_mounds (X0_opened v) (X0_roots v) (X0_traps v) z58_v_tunnels (X0_molesR v) z58_v_moles (X0_moleCount v) (X0_fullAir v) (X0_beats v) (X0_caught v) (X0_gnawed v) z58_v_risen (X0_fallen v) ++ cX3 cy b z58_u_cells z58_u_ends z58_u_used z58_u_size)[(9 + 3 * i19)]? = (wX1 cy (sh a (9 + 3 * i19)) (z58_v_moles i19))[0]?) rfl rfl rfl rfl g2) rfl 6 (by decide) lk2 (fun _ h9 => h9) rfl (by decide +kernel) rfl rfl (Nat.le_of_ble_eq_true rfl) dX0_dropTrails_82 (fun H locs hP hD hS => ?_)
            have eW := (co_4 (P := fun i19 => (cX0 cy a b z58_v_mounds (X0_opened v) (X0_roots v) (X0_traps v) z58_v_tunnels (X0_molesR v) z58_v_moles (X0_moleCount v) (X0_fullAir v) (X0_beats v) (X0_caught v) (X0_gnawed v) z58_v_risen (X0_fallen v) ++ cX3 cy b z58_u_cells z58_u_ends z58_u_used z58_u_size).set (9 + 3 * i19) ((cX1 cy (sh a (9 + 3 * i19)) (X1_directions (z58_v_moles i19)) (X1_trail (z58_v_moles i19)) (X1_planned (z58_v_moles i19)) (X1_trailLength (z58_v_moles i19)) (X1_air (z58_v_moles i19)) (X1_steps (z58_v_moles i19)) 0)[0]?.getD (0, .inr (0, []))) = (cX0 cy a b z58_v_mounds (X0_opened v) (X0_roots v) (X0_traps v) z58_v_tunnels (X0_molesR v) (va_up z58_v_moles i19 ((X1_directions (z58_v_moles i19)), (X1_trail (z58_v_moles i19)), (X1_planned (z58_v_moles i19)), (X1_trailLength (z58_v_moles i19)), (X1_air (z58_v_moles i19)), (X1_steps (z58_v_moles i19)), 0)) (X0_moleCount v) (X0_fullAir v) (X0_beats v) (X0_caught v) (X0_gnawed v) z58_v_risen (X0_fallen v) ++ cX3 cy b z58_u_cells z58_u_ends z58_u_used z58_u_size)) rfl rfl rfl rfl g2)
            have hP : va_P (dC, dI) vwCl (cX0 cy a b z58_v_mounds (X0_opened v) (X0_roots v) (X0_traps v) z58_v_tunnels (X0_molesR v) (va_up z58_v_moles ((X0_molesR v) y58_2.toNatClampNeg) ((X1_directions (z58_v_moles ((X0_molesR v) y58_2.toNatClampNeg))), (X1_trail (z58_v_moles ((X0_molesR v) y58_2.toNatClampNeg))), (X1_planned (z58_v_moles ((X0_molesR v) y58_2.toNatClampNeg))), (X1_trailLength (z58_v_moles ((X0_molesR v) y58_2.toNatClampNeg))), (X1_air (z58_v_moles ((X0_molesR v) y58_2.toNatClampNeg))), (X1_steps (z58_v_moles ((X0_molesR v) y58_2.toNatClampNeg))), 0)) (X0_moleCount v) (X0_fullAir v) (X0_beats v) (X0_caught v) (X0_gnawed v) z58_v_risen (X0_fallen v) ++ cX3 cy b z58_u_cells z58_u_ends z58_u_used z58_u_size) H := by rw [← eW]; exact hP
            have hD : va_D A (cX0 cy a b z58_v_mounds (X0_opened v) (X0_roots v) (X0_traps v) z58_v_tunnels (X0_molesR v) (va_up z58_v_moles ((X0_molesR v) y58_2.toNatClampNeg) ((X1_directions (z58_v_moles ((X0_molesR v) y58_2.toNatClampNeg))), (X1_trail (z58_v_moles ((X0_molesR v) y58_2.toNatClampNeg))), (X1_planned (z58_v_moles ((X0_molesR v) y58_2.toNatClampNeg))), (X1_trailLength (z58_v_moles ((X0_molesR v) y58_2.toNatClampNeg))), (X1_air (z58_v_moles ((X0_molesR v) y58_2.toNatClampNeg))), (X1_steps (z58_v_moles ((X0_molesR v) y58_2.toNatClampNeg))), 0)) (X0_moleCount v) (X0_fullAir v) (X0_beats v) (X0_caught v) (X0_gnawed v) z58_v_risen (X0_fallen v) ++ cX3 cy b z58_u_cells z58_u_ends z58_u_used z58_u_size) := by rw [← eW]; exact hD
            refine lv_aload_n hx hb dX0_dropTrails_85 rfl (lv_at hl 1 rfl) ?_
            refine lv_aload_n hx hb dX0_dropTrails_86 rfl (lv_at hl 0 rfl) ?_
            have hC : (([(9 + 3 * ((X0_molesR v) y58_2.toNatClampNeg)), (10 + 3 * ((X0_molesR v) y58_2.toNatClampNeg)), (11 + 3 * ((X0_molesR v) y58_2.toNatClampNeg))] : List Nat).map (fun i => (cX0 cy a b z58_v_mounds (X0_opened v) (X0_roots v) (X0_traps v) z58_v_tunnels (X0_molesR v) (va_up z58_v_moles ((X0_molesR v) y58_2.toNatClampNeg) ((X1_directions (z58_v_moles ((X0_molesR v) y58_2.toNatClampNeg))), (X1_trail (z58_v_moles ((X0_molesR v) y58_2.toNatClampNeg))), (X1_planned (z58_v_moles ((X0_molesR v) y58_2.toNatClampNeg))), (X1_trailLength (z58_v_moles ((X0_molesR v) y58_2.toNatClampNeg))), (X1_air (z58_v_moles ((X0_molesR v) y58_2.toNatClampNeg))), (X1_steps (z58_v_moles ((X0_molesR v) y58_2.toNatClampNeg))), 0)) (X0_moleCount v) (X0_fullAir v) (X0_beats v) (X0_caught v) (X0_gnawed v) z58_v_risen (X0_fallen v) ++ cX3 cy b z58_u_cells z58_u_ends z58_u_used z58_u_size)[i]?)) = (wX1 cy (sh a (9 + 3 * ((X0_molesR v) y58_2.toNatClampNeg))) ((va_up z58_v_moles ((X0_molesR v) y58_2.toNatClampNeg) ((X1_directions (z58_v_moles ((X0_molesR v) y58_2.toNatClampNeg))), (X1_trail (z58_v_moles ((X0_molesR v) y58_2.toNatClampNeg))), (X1_planned (z58_v_moles ((X0_molesR v) y58_2.toNatClampNeg))), (X1_trailLength (z58_v_moles ((X0_molesR v) y58_2.toNatClampNeg))), (X1_air (z58_v_moles ((X0_molesR v) y58_2.toNatClampNeg))), (X1_steps (z58_v_moles ((X0_molesR v) y58_2.toNatClampNeg))), 0)) ((X0_molesR v) y58_2.toNatClampNeg))).map some := (co_4 (P := fun i19 => (([(9 + 3 * i19), (10 + 3 * i19), (11 + 3 * i19)] : List Nat).map (fun i => (cX0 cy a b z58_v_mounds (X0_opened v) (X0_roots v) (X0_traps v) z58_v_tunnels (X0_molesR v) (va_up z58_v_moles i19 ((X1_directions (z58_v_moles i19)), (X1_trail (z58_v_moles i19)), (X1_planned (z58_v_moles i19)), (X1_trailLength (z58_v_moles i19)), (X1_air (z58_v_moles i19)), (X1_steps (z58_v_moles i19)), 0)) (X0_moleCount v) (X0_fullAir v) (X0_beats v) (X0_caught v) (X0_gnawed v) z58_v_risen (X0_fallen v) ++ cX3 cy b z58_u_cells z58_u_ends z58_u_used z58_u_size)[i]?)) = (wX1 cy (sh a (9 + 3 * i19)) ((va_up z58_v_moles i19 ((X1_directions (z58_v_moles i19)), (X1_trail (z58_v_moles i19)), (X1_planned (z58_v_moles i19)), (X1_trailLength (z58_v_moles i19)), (X1_air (z58_v_moles i19)), (X1_steps (z58_v_moles i19)), 0)) i19)).map some) rfl rfl rfl rfl g2)
            simp only [va_up_self] at hC
            have hN : va_nd [(9 + 3 * ((X0_molesR v) y58_2.toNatClampNeg)), (10 + 3 * ((X0_molesR v) y58_2.toNatClampNeg)), (11 + 3 * ((X0_molesR v) y58_2.toNatClampNeg))] = true := (co_4 (P := fun i19 => va_nd [(9 + 3 * i19), (10 + 3 * i19), (11 + 3 * i19)] = true) rfl rfl rfl rfl g2)
            have hPc := xsubP hP hC
            have hDc := xsubD hD hN hC
            have hFc := va_free (wc := (cX1 cy (sh a (9 + 3 * ((X0_molesR v) y58_2.toNatClampNeg))) (X1_directions (z58_v_moles ((X0_molesR v) y58_2.toNatClampNeg))) (X1_trail (z58_v_moles ((X0_molesR v) y58_2.toNatClampNeg))) (X1_planned (z58_v_moles ((X0_molesR v) y58_2.toNatClampNeg))) (X1_trailLength (z58_v_moles ((X0_molesR v) y58_2.toNatClampNeg))) (X1_air (z58_v_moles ((X0_molesR v) y58_2.toNatClampNeg))) (X1_steps (z58_v_moles ((X0_molesR v) y58_2.toNatClampNeg))) 0)) hD hS hAe0 [(9 + 3 * ((X0_molesR v) y58_2.toNatClampNeg)), (10 + 3 * ((X0_molesR v) y58_2.toNatClampNeg)), (11 + 3 * ((X0_molesR v) y58_2.toNatClampNeg))] hC
            refine va_calli (va_runV (As := []) (rest := [.ref (a 0)]) ⟨hx, hb, hml, hown, hts⟩ (c_X1_place l dC dI cy (sh a (9 + 3 * ((X0_molesR v) y58_2.toNatClampNeg))) _ (X1_s6 (z58_v_moles ((X0_molesR v) y58_2.toNatClampNeg)) 0) _ hq) (cwV 0 hts gX0_dropTrails_X1_place rfl rfl rfl (by decide +kernel) ⟨Nat.le_of_ble_eq_true rfl, Nat.le_of_ble_eq_true rfl⟩) ⟨xPre_blind, va_recv hK hP (ci := 1) (q0 := (9 + 3 * ((X0_molesR v) y58_2.toNatClampNeg))) rfl ((co_4 (P := fun i19 => (cX0 cy a b z58_v_mounds (X0_opened v) (X0_roots v) (X0_traps v) z58_v_tunnels (X0_molesR v) (va_up z58_v_moles i19 ((X1_directions (z58_v_moles i19)), (X1_trail (z58_v_moles i19)), (X1_planned (z58_v_moles i19)), (X1_trailLength (z58_v_moles i19)), (X1_air (z58_v_moles i19)), (X1_steps (z58_v_moles i19)), 0)) (X0_moleCount v) (X0_fullAir v) (X0_beats v) (X0_caught v) (X0_gnawed v) z58_v_risen (X0_fallen v) ++ cX3 cy b z58_u_cells z58_u_ends z58_u_used z58_u_size)[(9 + 3 * i19)]? = (wX1 cy (sh a (9 + 3 * i19)) ((va_up z58_v_moles i19 ((X1_directions (z58_v_moles i19)), (X1_trail (z58_v_moles i19)), (X1_planned (z58_v_moles i19)), (X1_trailLength (z58_v_moles i19)), (X1_air (z58_v_moles i19)), (X1_steps (z58_v_moles i19)), 0)) i19))[0]?) rfl rfl rfl rfl g2).trans (congrArg (fun (q : V_X1) => (wX1 cy (sh a (9 + 3 * ((X0_molesR v) y58_2.toNatClampNeg))) q)[0]?) (va_up_self _ _ _))), xPre_of hPc hK hDc⟩ rfl rfl hl.1 rfl (lv_room (Nat.le_of_ble_eq_true rfl)) dX0_dropTrails_87 ⟨Nat.le_of_ble_eq_true rfl, Nat.le_of_ble_eq_true rfl⟩) hS (fun q _ h => hFc q h) hFc (fun r87 u t H locs ht hvm hq hB hz1 hk1 hS => ?_)
            obtain ⟨hP1, -, hD1⟩ := hB
            rw [ht] at hP1
            have hP : va_P (dC, dI) vwCl (cX0 cy a b z58_v_mounds (X0_opened v) (X0_roots v) (X0_traps v) z58_v_tunnels (X0_molesR v) (va_up z58_v_moles ((X0_molesR v) y58_2.toNatClampNeg) ((X1_directions (z58_v_moles ((X0_molesR v) y58_2.toNatClampNeg))), (X1_trail (z58_v_moles ((X0_molesR v) y58_2.toNatClampNeg))), (X1_planned (z58_v_moles ((X0_molesR v) y58_2.toNatClampNeg))), (X1_trailLength (z58_v_moles ((X0_molesR v) y58_2.toNatClampNeg))), (X1_air (z58_v_moles ((X0_molesR v) y58_2.toNatClampNeg))), (X1_steps (z58_v_moles ((X0_molesR v) y58_2.toNatClampNeg))), 0)) (X0_moleCount v) (X0_fullAir v) (X0_beats v) (X0_caught v) (X0_gnawed v) z58_v_risen (X0_fallen v) ++ cX3 cy b z58_u_cells z58_u_ends z58_u_used z58_u_size) H := xj_keep hP hD [(9 + 3 * ((X0_molesR v) y58_2.toNatClampNeg)), (10 + 3 * ((X0_molesR v) y58_2.toNatClampNeg)), (11 + 3 * ((X0_molesR v) y58_2.toNatClampNeg))] hC hP1 hk1
            have hFc := xfree_same hS hAe0 (ws := (cX0 cy a b z58_v_mounds (X0_opened v) (X0_roots v) (X0_traps v) z58_v_tunnels (X0_molesR v) (va_up z58_v_moles ((X0_molesR v) y58_2.toNatClampNeg) ((X1_directions (z58_v_moles ((X0_molesR v) y58_2.toNatClampNeg))), (X1_trail (z58_v_moles ((X0_molesR v) y58_2.toNatClampNeg))), (X1_planned (z58_v_moles ((X0_molesR v) y58_2.toNatClampNeg))), (X1_trailLength (z58_v_moles ((X0_molesR v) y58_2.toNatClampNeg))), (X1_air (z58_v_moles ((X0_molesR v) y58_2.toNatClampNeg))), (X1_steps (z58_v_moles ((X0_molesR v) y58_2.toNatClampNeg))), 0)) (X0_moleCount v) (X0_fullAir v) (X0_beats v) (X0_caught v) (X0_gnawed v) z58_v_risen (X0_fallen v) ++ cX3 cy b z58_u_cells z58_u_ends z58_u_used z58_u_size)) hD
            refine va_callv (va_runV (As := [.int r87]) (rest := []) ⟨hx, hb, hml, hown, hts⟩ (c_X0_ensureMound l dC dI cy a b _ (X0_s12 (X0_s6 (X0_s4 (X0_s0 v z58_v_mounds) z58_v_tunnels) (va_up z58_v_moles ((X0_molesR v) y58_2.toNatClampNeg) (X1_s6 (z58_v_moles ((X0_molesR v) y58_2.toNatClampNeg)) 0))) z58_v_risen) (X3_s3 (X3_s2 (X3_s1 (X3_s0 u z58_u_cells) z58_u_ends) z58_u_used) z58_u_size) r87 _ hq) (cwV 1 hts gX0_dropTrails_X0_ensureMound rfl rfl rfl (by decide +kernel) ⟨Nat.le_of_ble_eq_true rfl, Nat.le_of_ble_eq_true rfl⟩) ⟨xPre_blind, va_recv hK hP (ci := 0) (q0 := 0) rfl rfl, xPre_of hP hK hD⟩ rfl rfl hl.1 rfl (lv_room (Nat.le_of_ble_eq_true rfl)) dX0_dropTrails_90 ⟨Nat.le_of_ble_eq_true rfl, Nat.le_of_ble_eq_true rfl⟩) hS (fun q _ h => hFc q h) hFc (fun u t H locs ht hvm hq hB hz1 hk1 hS => ?_)
            obtain ⟨z90_u_cells, z90_u_ends, z90_u_size, z90_u_used, z90_v_moles, z90_v_mounds, z90_v_risen, z90_v_tunnels⟩ := u
            obtain ⟨hP1, -, hD1⟩ := hB
            rw [ht] at hP1
            have hP : va_P (dC, dI) vwCl (cX0 cy a b z90_v_mounds (X0_opened v) (X0_roots v) (X0_traps v) z90_v_tunnels (X0_molesR v) z90_v_moles (X0_moleCount v) (X0_fullAir v) (X0_beats v) (X0_caught v) (X0_gnawed v) z90_v_risen (X0_fallen v) ++ cX3 cy b z90_u_cells z90_u_ends z90_u_used z90_u_size) H := hP1
            have hD : va_D A (cX0 cy a b z90_v_mounds (X0_opened v) (X0_roots v) (X0_traps v) z90_v_tunnels (X0_molesR v) z90_v_moles (X0_moleCount v) (X0_fullAir v) (X0_beats v) (X0_caught v) (X0_gnawed v) z90_v_risen (X0_fallen v) ++ cX3 cy b z90_u_cells z90_u_ends z90_u_used z90_u_size) := hD1.weaken (fun _ q _ h => hFc q.1 h)
            refine lv_aload_n hx hb dX0_dropTrails_93 rfl (lv_at hl 0 rfl) ?_
            refine lv_aload_n hx hb dX0_dropTrails_94 rfl (lv_at hl 1 rfl) ?_
            refine va_get (D := (dC, dI)) (ci := 0) (v := .int (X0_fullAir v)) (C := RX0) (T := TX0) (N := 14) hx hb hts iK0 hown hK hP 0 rfl rfl 8 (by decide) lk3 (fun _ h9 => h9) rfl dX0_dropTrails_95 ?_
            refine va_put (D := (dC, dI)) (ci := 1) (v := .int (X0_fullAir v)) (ty := .int) (C := RX1) (T := TX1) (N := 7) hx hb hts iK1 tyX1 tyX1_ok nmX1 hown hK hP hD hS (9 + 3 * ((X0_molesR v) y58_2.toNatClampNeg)) (co_4 (P := fun i19 => (cX0 cy a b z90_v_mounds (X0_opened v) (X0_roots v) (X0_traps v) z90_v_tunnels (X0_molesR v) z90_v_moles (X0_moleCount v) (X0_fullAir v) (X0_beats v) (X0_caught v) (X0_gnawed v) z90_v_risen (X0_fallen v) ++ cX3 cy b z90_u_cells z90_u_ends z90_u_used z90_u_size)[(9 + 3 * i19)]? = (wX1 cy (sh a (9 + 3 * i19)) (z90_v_moles i19))[0]?) rfl rfl rfl rfl g2) rfl 4 (by decide) lk4 (fun _ h9 => h9) rfl (by decide +kernel) rfl rfl (Nat.le_of_ble_eq_true rfl) dX0_dropTrails_98 (fun H locs hP hD hS => ?_)
            have eW := (co_4 (P := fun i19 => (cX0 cy a b z90_v_mounds (X0_opened v) (X0_roots v) (X0_traps v) z90_v_tunnels (X0_molesR v) z90_v_moles (X0_moleCount v) (X0_fullAir v) (X0_beats v) (X0_caught v) (X0_gnawed v) z90_v_risen (X0_fallen v) ++ cX3 cy b z90_u_cells z90_u_ends z90_u_used z90_u_size).set (9 + 3 * i19) ((cX1 cy (sh a (9 + 3 * i19)) (X1_directions (z90_v_moles i19)) (X1_trail (z90_v_moles i19)) (X1_planned (z90_v_moles i19)) (X1_trailLength (z90_v_moles i19)) (X0_fullAir v) (X1_steps (z90_v_moles i19)) (X1_lost (z90_v_moles i19)))[0]?.getD (0, .inr (0, []))) = (cX0 cy a b z90_v_mounds (X0_opened v) (X0_roots v) (X0_traps v) z90_v_tunnels (X0_molesR v) (va_up z90_v_moles i19 ((X1_directions (z90_v_moles i19)), (X1_trail (z90_v_moles i19)), (X1_planned (z90_v_moles i19)), (X1_trailLength (z90_v_moles i19)), (X0_fullAir v), (X1_steps (z90_v_moles i19)), (X1_lost (z90_v_moles i19)))) (X0_moleCount v) (X0_fullAir v) (X0_beats v) (X0_caught v) (X0_gnawed v) z90_v_risen (X0_fallen v) ++ cX3 cy b z90_u_cells z90_u_ends z90_u_used z90_u_size)) rfl rfl rfl rfl g2)
            have hP : va_P (dC, dI) vwCl (cX0 cy a b z90_v_mounds (X0_opened v) (X0_roots v) (X0_traps v) z90_v_tunnels (X0_molesR v) (va_up z90_v_moles ((X0_molesR v) y58_2.toNatClampNeg) ((X1_directions (z90_v_moles ((X0_molesR v) y58_2.toNatClampNeg))), (X1_trail (z90_v_moles ((X0_molesR v) y58_2.toNatClampNeg))), (X1_planned (z90_v_moles ((X0_molesR v) y58_2.toNatClampNeg))), (X1_trailLength (z90_v_moles ((X0_molesR v) y58_2.toNatClampNeg))), (X0_fullAir v), (X1_steps (z90_v_moles ((X0_molesR v) y58_2.toNatClampNeg))), (X1_lost (z90_v_moles ((X0_molesR v) y58_2.toNatClampNeg))))) (X0_moleCount v) (X0_fullAir v) (X0_beats v) (X0_caught v) (X0_gnawed v) z90_v_risen (X0_fallen v) ++ cX3 cy b z90_u_cells z90_u_ends z90_u_used z90_u_size) H := by rw [← eW]; exact hP
            have hD : va_D A (cX0 cy a b z90_v_mounds (X0_opened v) (X0_roots v) (X0_traps v) z90_v_tunnels (X0_molesR v) (va_up z90_v_moles ((X0_molesR v) y58_2.toNatClampNeg) ((X1_directions (z90_v_moles ((X0_molesR v) y58_2.toNatClampNeg))), (X1_trail (z90_v_moles ((X0_molesR v) y58_2.toNatClampNeg))), (X1_planned (z90_v_moles ((X0_molesR v) y58_2.toNatClampNeg))), (X1_trailLength (z90_v_moles ((X0_molesR v) y58_2.toNatClampNeg))), (X0_fullAir v), (X1_steps (z90_v_moles ((X0_molesR v) y58_2.toNatClampNeg))), (X1_lost (z90_v_moles ((X0_molesR v) y58_2.toNatClampNeg))))) (X0_moleCount v) (X0_fullAir v) (X0_beats v) (X0_caught v) (X0_gnawed v) z90_v_risen (X0_fallen v) ++ cX3 cy b z90_u_cells z90_u_ends z90_u_used z90_u_size) := by rw [← eW]; exact hD
            refine lv_iinc (v := (y58_2 + 1)) (lv' := [(2, .int (y58_2 + 1)), (3, .ref (a (9 + 3 * ((X0_molesR v) y58_2.toNatClampNeg)))), (0, .ref (a 0))]) hx hb dX0_dropTrails_101 hl (k := 2) rfl rfl (by decide) rfl (fun ls hl => ?_)
            refine lv_goto (tgt := 58) hx hb dX0_dropTrails_104 (by decide) ?_
            exact bk58 (y58_2 + 1) z90_u_cells z90_u_ends z90_u_size z90_u_used (va_up z90_v_moles ((X0_molesR v) y58_2.toNatClampNeg) (X1_s4 (z90_v_moles ((X0_molesR v) y58_2.toNatClampNeg)) (X0_fullAir v))) z90_v_mounds z90_v_risen z90_v_tunnels _ _ _ hq hP hD hS (lv_sub hl [2, 0] rfl)
    exact key _ y58_2 z58_u_cells z58_u_ends z58_u_size z58_u_used z58_v_moles z58_v_mounds z58_v_risen z58_v_tunnels H locs ls h0 (Nat.lt_succ_self _) hP hD hS hl
  have J2 : ∀  (y2_2 : Int32) (z2_v_moles : (Nat → V_X1)) (H : Heap) (locs : List Loc) (ls : Array Slot), wp_X0_dropTrails_2 v u x1  y2_2 z2_v_moles Q → va_P (dC, dI) vwCl (cX0 cy a b (X0_mounds v) (X0_opened v) (X0_roots v) (X0_traps v) (X0_tunnels v) (X0_molesR v) z2_v_moles (X0_moleCount v) (X0_fullAir v) (X0_beats v) (X0_caught v) (X0_gnawed v) (X0_risen v) (X0_fallen v) ++ wX3 cy b u) H → va_D A (cX0 cy a b (X0_mounds v) (X0_opened v) (X0_roots v) (X0_traps v) (X0_tunnels v) (X0_molesR v) z2_v_moles (X0_moleCount v) (X0_fullAir v) (X0_beats v) (X0_caught v) (X0_gnawed v) (X0_risen v) (X0_fallen v) ++ wX3 cy b u) → va_S A s.heap H locs → lv_has ls 4 [(0, .ref (a 0)), (1, .int x1), (2, .int y2_2)] → W p l e (headSpec wsX0_dropTrails ({ frames := 4, cells := 0, slots := 0, locals := 97 } : Room)).room s m ([.ref (a 0), .int x1] : List Value).toArray below meth c H locs 0 0 (MQ below (q_X0_dropTrails dC dI cy a b v u x1 Q A) ([.ref (a 0), .int x1] : List Value).toArray s 0 0 A) (F0 m 2 ls []) := by
    intro  y2_2 z2_v_moles H locs ls hq hP hD hS hl
    obtain ⟨I2, μ2, h0, hs2⟩ := hq
    have key : ∀ (n : Nat) (y2_2 : Int32) (z2_v_moles : (Nat → V_X1)) (H : Heap) (locs : List Loc) (ls : Array Slot), I2 y2_2 z2_v_moles → μ2 y2_2 z2_v_moles < n → va_P (dC, dI) vwCl (cX0 cy a b (X0_mounds v) (X0_opened v) (X0_roots v) (X0_traps v) (X0_tunnels v) (X0_molesR v) z2_v_moles (X0_moleCount v) (X0_fullAir v) (X0_beats v) (X0_caught v) (X0_gnawed v) (X0_risen v) (X0_fallen v) ++ wX3 cy b u) H → va_D A (cX0 cy a b (X0_mounds v) (X0_opened v) (X0_roots v) (X0_traps v) (X0_tunnels v) (X0_molesR v) z2_v_moles (X0_moleCount v) (X0_fullAir v) (X0_beats v) (X0_caught v) (X0_gnawed v) (X0_risen v) (X0_fallen v) ++ wX3 cy b u) → va_S A s.heap H locs → lv_has ls 4 [(0, .ref (a 0)), (1, .int x1), (2, .int y2_2)] → W p l e (headSpec wsX0_dropTrails ({ frames := 4, cells := 0, slots := 0, locals := 97 } : Room)).room s m ([.ref (a 0), .int x1] : List Value).toArray below meth c H locs 0 0 (MQ below (q_X0_dropTrails dC dI cy a b v u x1 Q A) ([.ref (a 0), .int x1] : List Value).toArray s 0 0 A) (F0 m 2 ls []) := by
      intro n
      induction n with
      | zero => intro y2_2 z2_v_moles H locs ls _ hm; exact absurd hm (Nat.not_lt_zero _)
      | succ n ih =>
        intro y2_2 z2_v_moles H locs ls hI hm hP hD hS hl
        have hq := hs2 y2_2 z2_v_moles hI
        generalize hB2 : (fun (t0 : Int32) (t1 : (Nat → V_X1)) => I2 t0 t1 ∧ μ2 t0 t1 < μ2 y2_2 z2_v_moles) = B2 at hq
        have bk2 : ∀ (y2_2 : Int32) (z2_v_moles : (Nat → V_X1)) (H : Heap) (locs : List Loc) (ls : Array Slot), B2 y2_2 z2_v_moles → va_P (dC, dI) vwCl (cX0 cy a b (X0_mounds v) (X0_opened v) (X0_roots v) (X0_traps v) (X0_tunnels v) (X0_molesR v) z2_v_moles (X0_moleCount v) (X0_fullAir v) (X0_beats v) (X0_caught v) (X0_gnawed v) (X0_risen v) (X0_fallen v) ++ wX3 cy b u) H → va_D A (cX0 cy a b (X0_mounds v) (X0_opened v) (X0_roots v) (X0_traps v) (X0_tunnels v) (X0_molesR v) z2_v_moles (X0_moleCount v) (X0_fullAir v) (X0_beats v) (X0_caught v) (X0_gnawed v) (X0_risen v) (X0_fallen v) ++ wX3 cy b u) → va_S A s.heap H locs → lv_has ls 4 [(0, .ref (a 0)), (1, .int x1), (2, .int y2_2)] → W p l e (headSpec wsX0_dropTrails ({ frames := 4, cells := 0, slots := 0, locals := 97 } : Room)).room s m ([.ref (a 0), .int x1] : List Value).toArray below meth c H locs 0 0 (MQ below (q_X0_dropTrails dC dI cy a b v u x1 Q A) ([.ref (a 0), .int x1] : List Value).toArray s 0 0 A) (F0 m 2 ls []) := by
          intro y2_2 z2_v_moles H locs ls h
          rw [← hB2] at h
          exact ih y2_2 z2_v_moles H locs ls h.1 (Nat.lt_of_lt_of_le h.2 (Nat.le_of_lt_succ hm))
        unfold wb_X0_dropTrails_2 at hq
        have J32 : ∀ (j32_3 : Nat) (k32_0 : Int32) (h32_1 : Nat) (H : Heap) (locs : List Loc) (ls : Array Slot), wp_X0_dropTrails_32 v u x1 y2_2 z2_v_moles B2 j32_3 k32_0 h32_1 Q → va_P (dC, dI) vwCl (cX0 cy a b (X0_mounds v) (X0_opened v) (X0_roots v) (X0_traps v) (X0_tunnels v) (X0_molesR v) z2_v_moles (X0_moleCount v) (X0_fullAir v) (X0_beats v) (X0_caught v) (X0_gnawed v) (X0_risen v) (X0_fallen v) ++ wX3 cy b u) H → va_D A (cX0 cy a b (X0_mounds v) (X0_opened v) (X0_roots v) (X0_traps v) (X0_tunnels v) (X0_molesR v) z2_v_moles (X0_moleCount v) (X0_fullAir v) (X0_beats v) (X0_caught v) (X0_gnawed v) (X0_risen v) (X0_fallen v) ++ wX3 cy b u) → va_S A s.heap H locs → lv_has ls 4 [(0, .ref (a 0)), (1, .int x1), (2, .int y2_2), (3, .ref (a (9 + 3 * j32_3)))] → W p l e (headSpec wsX0_dropTrails ({ frames := 4, cells := 0, slots := 0, locals := 97 } : Room)).room s m ([.ref (a 0), .int x1] : List Value).toArray below meth c H locs 0 0 (MQ below (q_X0_dropTrails dC dI cy a b v u x1 Q A) ([.ref (a 0), .int x1] : List Value).toArray s 0 0 A) (F0 m 32 ls [.int k32_0, .ref (a (9 + 3 * h32_1))]) := by
          intro j32_3 k32_0 h32_1 H locs ls hq hP hD hS hl
          unfold wp_X0_dropTrails_32 at hq
          obtain ⟨g5, hq⟩ := hq
          obtain ⟨g6, hq⟩ := hq
          refine va_put (D := (dC, dI)) (ci := 1) (v := .int k32_0) (ty := .boolean) (C := RX1) (T := TX1) (N := 7) hx hb hts iK1 tyX1 tyX1_ok nmX1 hown hK hP hD hS (9 + 3 * h32_1) (co_4 (P := fun i19 => (cX0 cy a b (X0_mounds v) (X0_opened v) (X0_roots v) (X0_traps v) (X0_tunnels v) (X0_molesR v) z2_v_moles (X0_moleCount v) (X0_fullAir v) (X0_beats v) (X0_caught v) (X0_gnawed v) (X0_risen v) (X0_fallen v) ++ wX3 cy b u)[(9 + 3 * i19)]? = (wX1 cy (sh a (9 + 3 * i19)) (z2_v_moles i19))[0]?) rfl rfl rfl rfl g6) rfl 6 (by decide) lk2 (fun _ h9 => h9) rfl (by decide +kernel) (bz_nar g5) (bz_fit g5) (Nat.le_of_ble_eq_true rfl) dX0_dropTrails_32 (fun H locs hP hD hS => ?_)
          have eW := (co_4 (P := fun i19 => (cX0 cy a b (X0_mounds v) (X0_opened v) (X0_roots v) (X0_traps v) (X0_tunnels v) (X0_molesR v) z2_v_moles (X0_moleCount v) (X0_fullAir v) (X0_beats v) (X0_caught v) (X0_gnawed v) (X0_risen v) (X0_fallen v) ++ wX3 cy b u).set (9 + 3 * i19) ((cX1 cy (sh a (9 + 3 * i19)) (X1_directions (z2_v_moles i19)) (X1_trail (z2_v_moles i19)) (X1_planned (z2_v_moles i19)) (X1_trailLength (z2_v_moles i19)) (X1_air (z2_v_moles i19)) (X1_steps (z2_v_moles i19)) k32_0)[0]?.getD (0, .inr (0, []))) = (cX0 cy a b (X0_mounds v) (X0_opened v) (X0_roots v) (X0_traps v) (X0_tunnels v) (X0_molesR v) (va_up z2_v_moles i19 ((X1_directions (z2_v_moles i19)), (X1_trail (z2_v_moles i19)), (X1_planned (z2_v_moles i19)), (X1_trailLength (z2_v_moles i19)), (X1_air (z2_v_moles i19)), (X1_steps (z2_v_moles i19)), k32_0)) (X0_moleCount v) (X0_fullAir v) (X0_beats v) (X0_caught v) (X0_gnawed v) (X0_risen v) (X0_fallen v) ++ wX3 cy b u)) rfl rfl rfl rfl g6)
          have hP : va_P (dC, dI) vwCl (cX0 cy a b (X0_mounds v) (X0_opened v) (X0_roots v) (X0_traps v) (X0_tunnels v) (X0_molesR v) (va_up z2_v_moles h32_1 ((X1_directions (z2_v_moles h32_1)), (X1_trail (z2_v_moles h32_1)), (X1_planned (z2_v_moles h32_1)), (X1_trailLength (z2_v_moles h32_1)), (X1_air (z2_v_moles h32_1)), (X1_steps (z2_v_moles h32_1)), k32_0)) (X0_moleCount v) (X0_fullAir v) (X0_beats v) (X0_caught v) (X0_gnawed v) (X0_risen v) (X0_fallen v) ++ wX3 cy b u) H := by rw [← eW]; exact hP
          have hD : va_D A (cX0 cy a b (X0_mounds v) (X0_opened v) (X0_roots v) (X0_traps v) (X0_tunnels v) (X0_molesR v) (va_up z2_v_moles h32_1 ((X1_directions (z2_v_moles h32_1)), (X1_trail (z2_v_moles h32_1)), (X1_planned (z2_v_moles h32_1)), (X1_trailLength (z2_v_moles h32_1)), (X1_air (z2_v_moles h32_1)), (X1_steps (z2_v_moles h32_1)), k32_0)) (X0_moleCount v) (X0_fullAir v) (X0_beats v) (X0_caught v) (X0_gnawed v) (X0_risen v) (X0_fallen v) ++ wX3 cy b u) := by rw [← eW]; exact hD
          refine lv_aload_n hx hb dX0_dropTrails_35 rfl (lv_at hl 3 rfl) ?_
          obtain ⟨g7, hq⟩ := hq
          refine va_get (D := (dC, dI)) (ci := 1) (v := .int (X1_lost ((va_up z2_v_moles h32_1 (X1_s6 (z2_v_moles h32_1) k32_0)) j32_3))) (C := RX1) (T := TX1) (N := 7) hx hb hts iK1 hown hK hP (9 + 3 * j32_3) (co_4 (P := fun i19 => (cX0 cy a b (X0_mounds v) (X0_opened v) (X0_roots v) (X0_traps v) (X0_tunnels v) (X0_molesR v) (va_up z2_v_moles h32_1 ((X1_directions (z2_v_moles h32_1)), (X1_trail (z2_v_moles h32_1)), (X1_planned (z2_v_moles h32_1)), (X1_trailLength (z2_v_moles h32_1)), (X1_air (z2_v_moles h32_1)), (X1_steps (z2_v_moles h32_1)), k32_0)) (X0_moleCount v) (X0_fullAir v) (X0_beats v) (X0_caught v) (X0_gnawed v) (X0_risen v) (X0_fallen v) ++ wX3 cy b u)[(9 + 3 * i19)]? = (wX1 cy (sh a (9 + 3 * i19)) ((va_up z2_v_moles h32_1 ((X1_directions (z2_v_moles h32_1)), (X1_trail (z2_v_moles h32_1)), (X1_planned (z2_v_moles h32_1)), (X1_trailLength (z2_v_moles h32_1)), (X1_air (z2_v_moles h32_1)), (X1_steps (z2_v_moles h32_1)), k32_0)) i19))[0]?) rfl rfl rfl rfl g7) rfl 6 (by decide) lk2 (fun _ h9 => h9) rfl dX0_dropTrails_36 ?_
          obtain ⟨hqA, hqB⟩ := hq
          refine lv_if_eq (tgt := 50) hx hb dX0_dropTrails_39 (by decide) (fun c8 => ?_) (fun c8 => ?_)
          · have hq := hqA c8
            refine lv_iinc (v := (y2_2 + 1)) (lv' := [(2, .int (y2_2 + 1)), (0, .ref (a 0)), (1, .int x1), (3, .ref (a (9 + 3 * j32_3)))]) hx hb dX0_dropTrails_50 hl (k := 2) rfl rfl (by decide) rfl (fun ls hl => ?_)
            refine lv_goto (tgt := 2) hx hb dX0_dropTrails_53 (by decide) ?_
            exact bk2 (y2_2 + 1) (va_up z2_v_moles h32_1 (X1_s6 (z2_v_moles h32_1) k32_0)) _ _ _ hq hP hD hS (lv_sub hl [1, 2, 0] rfl)
          · have hq := hqB c8
            refine lv_aload_n hx hb dX0_dropTrails_42 rfl (lv_at hl 3 rfl) ?_
            refine lv_aload_n hx hb dX0_dropTrails_43 rfl (lv_at hl 3 rfl) ?_
            have hC : (([(9 + 3 * j32_3), (10 + 3 * j32_3), (11 + 3 * j32_3)] : List Nat).map (fun i => (cX0 cy a b (X0_mounds v) (X0_opened v) (X0_roots v) (X0_traps v) (X0_tunnels v) (X0_molesR v) (va_up z2_v_moles h32_1 ((X1_directions (z2_v_moles h32_1)), (X1_trail (z2_v_moles h32_1)), (X1_planned (z2_v_moles h32_1)), (X1_trailLength (z2_v_moles h32_1)), (X1_air (z2_v_moles h32_1)), (X1_steps (z2_v_moles h32_1)), k32_0)) (X0_moleCount v) (X0_fullAir v) (X0_beats v) (X0_caught v) (X0_gnawed v) (X0_risen v) (X0_fallen v) ++ wX3 cy b u)[i]?)) = (wX1 cy (sh a (9 + 3 * j32_3)) ((va_up z2_v_moles h32_1 (X1_s6 (z2_v_moles h32_1) k32_0)) j32_3)).map some := (co_4 (P := fun i19 => (([(9 + 3 * i19), (10 + 3 * i19), (11 + 3 * i19)] : List Nat).map (fun i => (cX0 cy a b (X0_mounds v) (X0_opened v) (X0_roots v) (X0_traps v) (X0_tunnels v) (X0_molesR v) (va_up z2_v_moles h32_1 ((X1_directions (z2_v_moles h32_1)), (X1_trail (z2_v_moles h32_1)), (X1_planned (z2_v_moles h32_1)), (X1_trailLength (z2_v_moles h32_1)), (X1_air (z2_v_moles h32_1)), (X1_steps (z2_v_moles h32_1)), k32_0)) (X0_moleCount v) (X0_fullAir v) (X0_beats v) (X0_caught v) (X0_gnawed v) (X0_risen v) (X0_fallen v) ++ wX3 cy b u)[i]?)) = (wX1 cy (sh a (9 + 3 * i19)) ((va_up z2_v_moles h32_1 (X1_s6 (z2_v_moles h32_1) k32_0)) i19)).map some) rfl rfl rfl rfl g7)
            have hN : va_nd [(9 + 3 * j32_3), (10 + 3 * j32_3), (11 + 3 * j32_3)] = true := (co_4 (P := fun i19 => va_nd [(9 + 3 * i19), (10 + 3 * i19), (11 + 3 * i19)] = true) rfl rfl rfl rfl g7)
            have hPc := xsubP hP hC
            have hDc := xsubD hD hN hC
            have hFc := va_free (wc := (wX1 cy (sh a (9 + 3 * j32_3)) ((va_up z2_v_moles h32_1 (X1_s6 (z2_v_moles h32_1) k32_0)) j32_3))) hD hS hAe0 [(9 + 3 * j32_3), (10 + 3 * j32_3), (11 + 3 * j32_3)] hC
            refine va_calli (va_runV (As := []) (rest := [.ref (a (9 + 3 * j32_3))]) ⟨hx, hb, hml, hown, hts⟩ (c_X1_place l dC dI cy (sh a (9 + 3 * j32_3)) _ ((va_up z2_v_moles h32_1 (X1_s6 (z2_v_moles h32_1) k32_0)) j32_3) _ hq) (cwV 0 hts gX0_dropTrails_X1_place rfl rfl rfl (by decide +kernel) ⟨Nat.le_of_ble_eq_true rfl, Nat.le_of_ble_eq_true rfl⟩) ⟨xPre_blind, va_recv hK hP (ci := 1) (q0 := (9 + 3 * j32_3)) rfl (co_4 (P := fun i19 => (cX0 cy a b (X0_mounds v) (X0_opened v) (X0_roots v) (X0_traps v) (X0_tunnels v) (X0_molesR v) (va_up z2_v_moles h32_1 ((X1_directions (z2_v_moles h32_1)), (X1_trail (z2_v_moles h32_1)), (X1_planned (z2_v_moles h32_1)), (X1_trailLength (z2_v_moles h32_1)), (X1_air (z2_v_moles h32_1)), (X1_steps (z2_v_moles h32_1)), k32_0)) (X0_moleCount v) (X0_fullAir v) (X0_beats v) (X0_caught v) (X0_gnawed v) (X0_risen v) (X0_fallen v) ++ wX3 cy b u)[(9 + 3 * i19)]? = (wX1 cy (sh a (9 + 3 * i19)) ((va_up z2_v_moles h32_1 ((X1_directions (z2_v_moles h32_1)), (X1_trail (z2_v_moles h32_1)), (X1_planned (z2_v_moles h32_1)), (X1_trailLength (z2_v_moles h32_1)), (X1_air (z2_v_moles h32_1)), (X1_steps (z2_v_moles h32_1)), k32_0)) i19))[0]?) rfl rfl rfl rfl g7), xPre_of hPc hK hDc⟩ rfl rfl hl.1 rfl (lv_room (Nat.le_of_ble_eq_true rfl)) dX0_dropTrails_44 ⟨Nat.le_of_ble_eq_true rfl, Nat.le_of_ble_eq_true rfl⟩) hS (fun q _ h => hFc q h) hFc (fun r44 u t H locs ht hvm hq hB hz1 hk1 hS => ?_)
            obtain ⟨hP1, -, hD1⟩ := hB
            rw [ht] at hP1
            have hP : va_P (dC, dI) vwCl (cX0 cy a b (X0_mounds v) (X0_opened v) (X0_roots v) (X0_traps v) (X0_tunnels v) (X0_molesR v) (va_up z2_v_moles h32_1 ((X1_directions (z2_v_moles h32_1)), (X1_trail (z2_v_moles h32_1)), (X1_planned (z2_v_moles h32_1)), (X1_trailLength (z2_v_moles h32_1)), (X1_air (z2_v_moles h32_1)), (X1_steps (z2_v_moles h32_1)), k32_0)) (X0_moleCount v) (X0_fullAir v) (X0_beats v) (X0_caught v) (X0_gnawed v) (X0_risen v) (X0_fallen v) ++ wX3 cy b u) H := xj_keep hP hD [(9 + 3 * j32_3), (10 + 3 * j32_3), (11 + 3 * j32_3)] hC hP1 hk1
            have hC : (([(9 + 3 * j32_3), (10 + 3 * j32_3), (11 + 3 * j32_3)] : List Nat).map (fun i => (cX0 cy a b (X0_mounds v) (X0_opened v) (X0_roots v) (X0_traps v) (X0_tunnels v) (X0_molesR v) (va_up z2_v_moles h32_1 ((X1_directions (z2_v_moles h32_1)), (X1_trail (z2_v_moles h32_1)), (X1_planned (z2_v_moles h32_1)), (X1_trailLength (z2_v_moles h32_1)), (X1_air (z2_v_moles h32_1)), (X1_steps (z2_v_moles h32_1)), k32_0)) (X0_moleCount v) (X0_fullAir v) (X0_beats v) (X0_caught v) (X0_gnawed v) (X0_risen v) (X0_fallen v) ++ wX3 cy b u)[i]?)) = (wX1 cy (sh a (9 + 3 * j32_3)) ((va_up z2_v_moles h32_1 (X1_s6 (z2_v_moles h32_1) k32_0)) j32_3)).map some := (co_4 (P := fun i19 => (([(9 + 3 * i19), (10 + 3 * i19), (11 + 3 * i19)] : List Nat).map (fun i => (cX0 cy a b (X0_mounds v) (X0_opened v) (X0_roots v) (X0_traps v) (X0_tunnels v) (X0_molesR v) (va_up z2_v_moles h32_1 ((X1_directions (z2_v_moles h32_1)), (X1_trail (z2_v_moles h32_1)), (X1_planned (z2_v_moles h32_1)), (X1_trailLength (z2_v_moles h32_1)), (X1_air (z2_v_moles h32_1)), (X1_steps (z2_v_moles h32_1)), k32_0)) (X0_moleCount v) (X0_fullAir v) (X0_beats v) (X0_caught v) (X0_gnawed v) (X0_risen v) (X0_fallen v) ++ wX3 cy b u)[i]?)) = (wX1 cy (sh a (9 + 3 * i19)) ((va_up z2_v_moles h32_1 (X1_s6 (z2_v_moles h32_1) k32_0)) i19)).map some) rfl rfl rfl rfl g7)
            have hN : va_nd [(9 + 3 * j32_3), (10 + 3 * j32_3), (11 + 3 * j32_3)] = true := (co_4 (P := fun i19 => va_nd [(9 + 3 * i19), (10 + 3 * i19), (11 + 3 * i19)] = true) rfl rfl rfl rfl g7)
            have hPc := xsubP hP hC
            have hDc := xsubD hD hN hC
            have hFc := va_free (wc := (wX1 cy (sh a (9 + 3 * j32_3)) ((va_up z2_v_moles h32_1 (X1_s6 (z2_v_moles h32_1) k32_0)) j32_3))) hD hS hAe0 [(9 + 3 * j32_3), (10 + 3 * j32_3), (11 + 3 * j32_3)] hC
            refine va_callv (va_runV (As := [.int r44]) (rest := []) ⟨hx, hb, hml, hown, hts⟩ (c_X1_beginTrail l dC dI cy (sh a (9 + 3 * j32_3)) _ ((va_up z2_v_moles h32_1 (X1_s6 (z2_v_moles h32_1) k32_0)) j32_3) r44 _ hq) (cwV 1 hts gX0_dropTrails_X1_beginTrail rfl rfl rfl (by decide +kernel) ⟨Nat.le_of_ble_eq_true rfl, Nat.le_of_ble_eq_true rfl⟩) ⟨xPre_blind, va_recv hK hP (ci := 1) (q0 := (9 + 3 * j32_3)) rfl (co_4 (P := fun i19 => (cX0 cy a b (X0_mounds v) (X0_opened v) (X0_roots v) (X0_traps v) (X0_tunnels v) (X0_molesR v) (va_up z2_v_moles h32_1 ((X1_directions (z2_v_moles h32_1)), (X1_trail (z2_v_moles h32_1)), (X1_planned (z2_v_moles h32_1)), (X1_trailLength (z2_v_moles h32_1)), (X1_air (z2_v_moles h32_1)), (X1_steps (z2_v_moles h32_1)), k32_0)) (X0_moleCount v) (X0_fullAir v) (X0_beats v) (X0_caught v) (X0_gnawed v) (X0_risen v) (X0_fallen v) ++ wX3 cy b u)[(9 + 3 * i19)]? = (wX1 cy (sh a (9 + 3 * i19)) ((va_up z2_v_moles h32_1 ((X1_directions (z2_v_moles h32_1)), (X1_trail (z2_v_moles h32_1)), (X1_planned (z2_v_moles h32_1)), (X1_trailLength (z2_v_moles h32_1)), (X1_air (z2_v_moles h32_1)), (X1_steps (z2_v_moles h32_1)), k32_0)) i19))[0]?) rfl rfl rfl rfl g7), xPre_of hPc hK hDc⟩ rfl rfl hl.1 rfl (lv_room (Nat.le_of_ble_eq_true rfl)) dX0_dropTrails_47 ⟨Nat.le_of_ble_eq_true rfl, Nat.le_of_ble_eq_true rfl⟩) hS (fun q _ h => hFc q h) hFc (fun u t H locs ht hvm hq hB hz1 hk1 hS => ?_)
            obtain ⟨z47_v_trail, z47_v_trailLength⟩ := u
            obtain ⟨hP1, -, hD1⟩ := hB
            rw [ht] at hP1
            obtain ⟨hP, hD⟩ := xj hP hD [(9 + 3 * j32_3), (10 + 3 * j32_3), (11 + 3 * j32_3)] (cX1 cy (sh a (9 + 3 * j32_3)) (X1_directions ((va_up z2_v_moles h32_1 (X1_s6 (z2_v_moles h32_1) k32_0)) j32_3)) z47_v_trail (X1_planned ((va_up z2_v_moles h32_1 (X1_s6 (z2_v_moles h32_1) k32_0)) j32_3)) z47_v_trailLength (X1_air ((va_up z2_v_moles h32_1 (X1_s6 (z2_v_moles h32_1) k32_0)) j32_3)) (X1_steps ((va_up z2_v_moles h32_1 (X1_s6 (z2_v_moles h32_1) k32_0)) j32_3)) (X1_lost ((va_up z2_v_moles h32_1 (X1_s6 (z2_v_moles h32_1) k32_0)) j32_3))) (ws' := (cX0 cy a b (X0_mounds v) (X0_opened v) (X0_roots v) (X0_traps v) (X0_tunnels v) (X0_molesR v) (va_up (va_up z2_v_moles h32_1 (X1_s6 (z2_v_moles h32_1) k32_0)) j32_3 ((X1_directions ((va_up z2_v_moles h32_1 (X1_s6 (z2_v_moles h32_1) k32_0)) j32_3)), z47_v_trail, (X1_planned ((va_up z2_v_moles h32_1 (X1_s6 (z2_v_moles h32_1) k32_0)) j32_3)), z47_v_trailLength, (X1_air ((va_up z2_v_moles h32_1 (X1_s6 (z2_v_moles h32_1) k32_0)) j32_3)), (X1_steps ((va_up z2_v_moles h32_1 (X1_s6 (z2_v_moles h32_1) k32_0)) j32_3)), (X1_lost ((va_up z2_v_moles h32_1 (X1_s6 (z2_v_moles h32_1) k32_0)) j32_3)))) (X0_moleCount v) (X0_fullAir v) (X0_beats v) (X0_caught v) (X0_gnawed v) (X0_risen v) (X0_fallen v) ++ wX3 cy b u)) hC rfl (co_4 (P := fun i19 => xput (cX0 cy a b (X0_mounds v) (X0_opened v) (X0_roots v) (X0_traps v) (X0_tunnels v) (X0_molesR v) (va_up z2_v_moles h32_1 ((X1_directions (z2_v_moles h32_1)), (X1_trail (z2_v_moles h32_1)), (X1_planned (z2_v_moles h32_1)), (X1_trailLength (z2_v_moles h32_1)), (X1_air (z2_v_moles h32_1)), (X1_steps (z2_v_moles h32_1)), k32_0)) (X0_moleCount v) (X0_fullAir v) (X0_beats v) (X0_caught v) (X0_gnawed v) (X0_risen v) (X0_fallen v) ++ wX3 cy b u) [(9 + 3 * i19), (10 + 3 * i19), (11 + 3 * i19)] (cX1 cy (sh a (9 + 3 * i19)) (X1_directions ((va_up z2_v_moles h32_1 (X1_s6 (z2_v_moles h32_1) k32_0)) i19)) z47_v_trail (X1_planned ((va_up z2_v_moles h32_1 (X1_s6 (z2_v_moles h32_1) k32_0)) i19)) z47_v_trailLength (X1_air ((va_up z2_v_moles h32_1 (X1_s6 (z2_v_moles h32_1) k32_0)) i19)) (X1_steps ((va_up z2_v_moles h32_1 (X1_s6 (z2_v_moles h32_1) k32_0)) i19)) (X1_lost ((va_up z2_v_moles h32_1 (X1_s6 (z2_v_moles h32_1) k32_0)) i19))) = (cX0 cy a b (X0_mounds v) (X0_opened v) (X0_roots v) (X0_traps v) (X0_tunnels v) (X0_molesR v) (va_up (va_up z2_v_moles h32_1 (X1_s6 (z2_v_moles h32_1) k32_0)) i19 ((X1_directions ((va_up z2_v_moles h32_1 (X1_s6 (z2_v_moles h32_1) k32_0)) i19)), z47_v_trail, (X1_planned ((va_up z2_v_moles h32_1 (X1_s6 (z2_v_moles h32_1) k32_0)) i19)), z47_v_trailLength, (X1_air ((va_up z2_v_moles h32_1 (X1_s6 (z2_v_moles h32_1) k32_0)) i19)), (X1_steps ((va_up z2_v_moles h32_1 (X1_s6 (z2_v_moles h32_1) k32_0)) i19)), (X1_lost ((va_up z2_v_moles h32_1 (X1_s6 (z2_v_moles h32_1) k32_0)) i19)))) (X0_moleCount v) (X0_fullAir v) (X0_beats v) (X0_caught v) (X0_gnawed v) (X0_risen v) (X0_fallen v) ++ wX3 cy b u)) rfl rfl rfl rfl g7) hk1 hFc hP1
            refine lv_iinc (v := (y2_2 + 1)) (lv' := [(2, .int (y2_2 + 1)), (0, .ref (a 0)), (1, .int x1), (3, .ref (a (9 + 3 * j32_3)))]) hx hb dX0_dropTrails_50 hl (k := 2) rfl rfl (by decide) rfl (fun ls hl => ?_)
            refine lv_goto (tgt := 2) hx hb dX0_dropTrails_53 (by decide) ?_
            exact bk2 (y2_2 + 1) (va_up (va_up z2_v_moles h32_1 (X1_s6 (z2_v_moles h32_1) k32_0)) j32_3 (X1_s3 (X1_s1 ((va_up z2_v_moles h32_1 (X1_s6 (z2_v_moles h32_1) k32_0)) j32_3) z47_v_trail) z47_v_trailLength)) _ _ _ hq hP hD hS (lv_sub hl [1, 2, 0] rfl)
        refine lv_iload_n hx hb dX0_dropTrails_2 rfl (lv_at hl 2 rfl) ?_
        refine lv_aload_n hx hb dX0_dropTrails_3 rfl (lv_at hl 0 rfl) ?_
        refine va_get (D := (dC, dI)) (ci := 0) (v := .int (X0_moleCount v)) (C := RX0) (T := TX0) (N := 14) hx hb hts iK0 hown hK hP 0 rfl rfl 7 (by decide) lk0 (fun _ h9 => h9) rfl dX0_dropTrails_4 ?_
        obtain ⟨hqA, hqB⟩ := hq
        refine lv_icmp_ge (tgt := 56) hx hb dX0_dropTrails_7 (by decide) (fun c12 => ?_) (fun c12 => ?_)
        · have hq := hqA c12
          refine lv_iconst (v := 0) hx hb dX0_dropTrails_56 (by decide) ?_
          refine lv_istore_n (lv' := [(2, .int 0), (0, .ref (a 0)), (1, .int x1)]) hx hb dX0_dropTrails_57 rfl hl (by decide) rfl (fun ls hl => ?_)
          exact J58  0 (X3_cells u) (X3_ends u) (X3_size u) (X3_used u) z2_v_moles (X0_mounds v) (X0_risen v) (X0_tunnels v) _ _ _ hq hP hD hS (lv_sub hl [1, 0] rfl)
        · have hq := hqB c12
          refine lv_aload_n hx hb dX0_dropTrails_10 rfl (lv_at hl 0 rfl) ?_
          refine va_get (D := (dC, dI)) (ci := 0) (v := .ref (a 8)) (C := RX0) (T := TX0) (N := 14) hx hb hts iK0 hown hK hP 0 rfl rfl 6 (by decide) lk1 (fun _ h9 => h9) rfl dX0_dropTrails_11 ?_
          refine lv_iload_n hx hb dX0_dropTrails_14 rfl (lv_at hl 2 rfl) ?_
          obtain ⟨g9, hq⟩ := hq
          obtain ⟨g10, hq⟩ := hq
          refine va_aldq hx hb hK hP 8 2 rfl rfl g9 dX0_dropTrails_15 ?_
          refine lv_astore_n (lv' := [(3, .ref (a (9 + 3 * ((X0_molesR v) y2_2.toNatClampNeg)))), (0, .ref (a 0)), (1, .int x1), (2, .int y2_2)]) hx hb dX0_dropTrails_16 rfl hl (by decide) rfl (fun ls hl => ?_)
          refine lv_aload_n hx hb dX0_dropTrails_17 rfl (lv_at hl 0 rfl) ?_
          refine lv_aload_n hx hb dX0_dropTrails_18 rfl (lv_at hl 0 rfl) ?_
          refine lv_iload_n hx hb dX0_dropTrails_19 rfl (lv_at hl 2 rfl) ?_
          have hC : (([(9 + 3 * ((X0_molesR v) y2_2.toNatClampNeg)), (10 + 3 * ((X0_molesR v) y2_2.toNatClampNeg)), (11 + 3 * ((X0_molesR v) y2_2.toNatClampNeg))] : List Nat).map (fun i => (cX0 cy a b (X0_mounds v) (X0_opened v) (X0_roots v) (X0_traps v) (X0_tunnels v) (X0_molesR v) z2_v_moles (X0_moleCount v) (X0_fullAir v) (X0_beats v) (X0_caught v) (X0_gnawed v) (X0_risen v) (X0_fallen v) ++ wX3 cy b u)[i]?)) = (wX1 cy (sh a (9 + 3 * ((X0_molesR v) y2_2.toNatClampNeg))) (z2_v_moles ((X0_molesR v) y2_2.toNatClampNeg))).map some := (co_4 (P := fun i19 => (([(9 + 3 * i19), (10 + 3 * i19), (11 + 3 * i19)] : List Nat).map (fun i => (cX0 cy a b (X0_mounds v) (X0_opened v) (X0_roots v) (X0_traps v) (X0_tunnels v) (X0_molesR v) z2_v_moles (X0_moleCount v) (X0_fullAir v) (X0_beats v) (X0_caught v) (X0_gnawed v) (X0_risen v) (X0_fallen v) ++ wX3 cy b u)[i]?)) = (wX1 cy (sh a (9 + 3 * i19)) (z2_v_moles i19)).map some) rfl rfl rfl rfl g10)
          have hN : va_nd [(9 + 3 * ((X0_molesR v) y2_2.toNatClampNeg)), (10 + 3 * ((X0_molesR v) y2_2.toNatClampNeg)), (11 + 3 * ((X0_molesR v) y2_2.toNatClampNeg))] = true := (co_4 (P := fun i19 => va_nd [(9 + 3 * i19), (10 + 3 * i19), (11 + 3 * i19)] = true) rfl rfl rfl rfl g10)
          have hPc := xsubP hP hC
          have hDc := xsubD hD hN hC
          have hFc := va_free (wc := (wX1 cy (sh a (9 + 3 * ((X0_molesR v) y2_2.toNatClampNeg))) (z2_v_moles ((X0_molesR v) y2_2.toNatClampNeg)))) hD hS hAe0 [(9 + 3 * ((X0_molesR v) y2_2.toNatClampNeg)), (10 + 3 * ((X0_molesR v) y2_2.toNatClampNeg)), (11 + 3 * ((X0_molesR v) y2_2.toNatClampNeg))] hC
          refine va_calli (va_runV (As := [.int x1]) (rest := [.ref (a (9 + 3 * ((X0_molesR v) y2_2.toNatClampNeg)))]) ⟨hx, hb, hml, hown, hts⟩ (c_X1_firstIndex l dC dI cy (sh a (9 + 3 * ((X0_molesR v) y2_2.toNatClampNeg))) _ (z2_v_moles ((X0_molesR v) y2_2.toNatClampNeg)) x1 _ hq) (cwV 1 hts gX0_dropTrails_X1_firstIndex rfl rfl rfl (by decide +kernel) ⟨Nat.le_of_ble_eq_true rfl, Nat.le_of_ble_eq_true rfl⟩) ⟨xPre_blind, va_recv hK hP (ci := 1) (q0 := (9 + 3 * ((X0_molesR v) y2_2.toNatClampNeg))) rfl (co_4 (P := fun i19 => (cX0 cy a b (X0_mounds v) (X0_opened v) (X0_roots v) (X0_traps v) (X0_tunnels v) (X0_molesR v) z2_v_moles (X0_moleCount v) (X0_fullAir v) (X0_beats v) (X0_caught v) (X0_gnawed v) (X0_risen v) (X0_fallen v) ++ wX3 cy b u)[(9 + 3 * i19)]? = (wX1 cy (sh a (9 + 3 * i19)) (z2_v_moles i19))[0]?) rfl rfl rfl rfl g10), xPre_of hPc hK hDc⟩ rfl rfl hl.1 rfl (lv_room (Nat.le_of_ble_eq_true rfl)) dX0_dropTrails_20 ⟨Nat.le_of_ble_eq_true rfl, Nat.le_of_ble_eq_true rfl⟩) hS (fun q _ h => hFc q h) hFc (fun r20 u t H locs ht hvm hq hB hz1 hk1 hS => ?_)
          obtain ⟨hP1, -, hD1⟩ := hB
          rw [ht] at hP1
          have hP : va_P (dC, dI) vwCl (cX0 cy a b (X0_mounds v) (X0_opened v) (X0_roots v) (X0_traps v) (X0_tunnels v) (X0_molesR v) z2_v_moles (X0_moleCount v) (X0_fullAir v) (X0_beats v) (X0_caught v) (X0_gnawed v) (X0_risen v) (X0_fallen v) ++ wX3 cy b u) H := xj_keep hP hD [(9 + 3 * ((X0_molesR v) y2_2.toNatClampNeg)), (10 + 3 * ((X0_molesR v) y2_2.toNatClampNeg)), (11 + 3 * ((X0_molesR v) y2_2.toNatClampNeg))] hC hP1 hk1
          refine lv_iconst (v := (-1)) hx hb dX0_dropTrails_23 (by decide) ?_
          obtain ⟨hqA, hqB⟩ := hq
          refine lv_icmp_eq (tgt := 31) hx hb dX0_dropTrails_24 (by decide) (fun c11 => ?_) (fun c11 => ?_)
          · have hq := hqA c11
            refine lv_iconst (v := 0) hx hb dX0_dropTrails_31 (by decide) ?_
            exact J32 ((X0_molesR v) y2_2.toNatClampNeg) 0 ((X0_molesR v) y2_2.toNatClampNeg)  _ _ _ hq hP hD hS (lv_sub hl [1, 2, 3, 0] rfl)
          · have hq := hqB c11
            refine lv_iconst (v := 1) hx hb dX0_dropTrails_27 (by decide) ?_
            refine lv_goto (tgt := 32) hx hb dX0_dropTrails_28 (by decide) ?_
            exact J32 ((X0_molesR v) y2_2.toNatClampNeg) 1 ((X0_molesR v) y2_2.toNatClampNeg)  _ _ _ hq hP hD hS (lv_sub hl [1, 2, 3, 0] rfl)
    exact key _ y2_2 z2_v_moles H locs ls h0 (Nat.lt_succ_self _) hP hD hS hl
  refine lv_iconst (v := 0) hx hb dX0_dropTrails_0 (by decide) ?_
  refine lv_istore_n (lv' := [(2, .int 0), (0, .ref (a 0)), (1, .int x1)]) hx hb dX0_dropTrails_1 rfl hl (by decide) rfl (fun ls hl => ?_)
  exact J2  0 (X0_moles v) _ _ _ hq hP hD hS (lv_sub hl [1, 2, 0] rfl)
def wb_X0_digUp_33 (v : V_X0) (u : V_X3) (x1 : Int32) (y33_2 : Int32) (z33_v_opened : (Nat → Int32)) (z33_v_roots : (Nat → Int32)) (z33_v_traps : (Nat → Int32)) (y33_3 : Int32) (z33_v_caught : Int32) (z33_v_moleCount : Int32) (z33_v_molesR : (Nat → Nat)) (B33 : Int32 → Int32 → Int32 → (Nat → Nat) → Prop) (Q : Int32 → (Nat → Int32) → (Nat → Int32) → Int32 → Int32 → Int32 → Int32 → Int32 → (Nat → V_X1) → (Nat → Nat) → (Nat → Int32) → (Nat → Int32) → Int32 → (Nat → Int32) → (Nat → Int32) → V_X3 → Prop) : Prop :=
  ((y33_3 < 0 → vp_in x1 64 ∧ wp_X0_dropTunnels (X0_s10 (X0_s7 (X0_s5 (X0_s3 (X0_s2 (X0_s1 (X0_s0 v (upd (X0_mounds v) x1.toNatClampNeg 0)) z33_v_opened) z33_v_roots) z33_v_traps) z33_v_molesR) z33_v_moleCount) z33_v_caught) u x1 (fun z70_u_cells z70_u_ends z70_u_size z70_u_used z70_v_fallen z70_v_tunnels =>
  wp_X0_dropTrails (X0_s13 (X0_s10 (X0_s7 (X0_s5 (X0_s4 (X0_s3 (X0_s2 (X0_s1 (X0_s0 v (upd (X0_mounds v) x1.toNatClampNeg 0)) z33_v_opened) z33_v_roots) z33_v_traps) z70_v_tunnels) z33_v_molesR) z33_v_moleCount) z33_v_caught) z70_v_fallen) (X3_s3 (X3_s2 (X3_s1 (X3_s0 u z70_u_cells) z70_u_ends) z70_u_used) z70_u_size) x1 (fun z75_u_cells z75_u_ends z75_u_size z75_u_used z75_v_moles z75_v_mounds z75_v_risen z75_v_tunnels =>
  Q (z33_v_caught - y33_2) z75_u_cells z75_u_ends z75_u_size z75_u_used z33_v_caught z70_v_fallen z33_v_moleCount z75_v_moles z33_v_molesR z75_v_mounds z33_v_opened z75_v_risen z33_v_roots z33_v_traps z75_v_tunnels))) ∧
  (¬ y33_3 < 0 → vp_in y33_3 4 ∧ (z33_v_molesR y33_3.toNatClampNeg) < 4 ∧ wp_X1_place ((X0_moles v) (z33_v_molesR y33_3.toNatClampNeg)) (fun r43 =>
  ((r43 = x1 → wp_X0_catchMole (X0_s10 (X0_s7 (X0_s5 (X0_s3 (X0_s2 (X0_s1 v z33_v_opened) z33_v_roots) z33_v_traps) z33_v_molesR) z33_v_moleCount) z33_v_caught) y33_3 (fun z52_v_caught z52_v_moleCount z52_v_molesR =>
  B33 (y33_3 + (-1)) z52_v_caught z52_v_moleCount z52_v_molesR)) ∧
  (¬ r43 = x1 → B33 (y33_3 + (-1)) z33_v_caught z33_v_moleCount z33_v_molesR)))))
def wp_X0_digUp_33 (v : V_X0) (u : V_X3) (x1 : Int32) (y33_2 : Int32) (z33_v_opened : (Nat → Int32)) (z33_v_roots : (Nat → Int32)) (z33_v_traps : (Nat → Int32)) (y33_3 : Int32) (z33_v_caught : Int32) (z33_v_moleCount : Int32) (z33_v_molesR : (Nat → Nat)) (Q : Int32 → (Nat → Int32) → (Nat → Int32) → Int32 → Int32 → Int32 → Int32 → Int32 → (Nat → V_X1) → (Nat → Nat) → (Nat → Int32) → (Nat → Int32) → Int32 → (Nat → Int32) → (Nat → Int32) → V_X3 → Prop) : Prop :=
  ∃ (I : Int32 → Int32 → Int32 → (Nat → Nat) → Prop) (μ : Int32 → Int32 → Int32 → (Nat → Nat) → Nat), I y33_3 z33_v_caught z33_v_moleCount z33_v_molesR ∧ ∀ (s0 : Int32) (s1 : Int32) (s2 : Int32) (s3 : (Nat → Nat)), I s0 s1 s2 s3 → wb_X0_digUp_33 v u x1 y33_2 z33_v_opened z33_v_roots z33_v_traps s0 s1 s2 s3 (fun t0 t1 t2 t3 => I t0 t1 t2 t3 ∧ μ t0 t1 t2 t3 < μ s0 s1 s2 s3) Q
def wp_X0_digUp (v : V_X0) (u : V_X3) (x1 : Int32) (Q : Int32 → (Nat → Int32) → (Nat → Int32) → Int32 → Int32 → Int32 → Int32 → Int32 → (Nat → V_X1) → (Nat → Nat) → (Nat → Int32) → (Nat → Int32) → Int32 → (Nat → Int32) → (Nat → Int32) → V_X3 → Prop) : Prop :=
  vp_in x1 64 ∧ wp_X0_digUp_33 v u x1 (X0_caught v) (upd (X0_opened v) x1.toNatClampNeg 1) (upd (X0_roots v) x1.toNatClampNeg 0) (upd (X0_traps v) x1.toNatClampNeg (-1)) ((X0_moleCount v) - 1) (X0_caught v) (X0_moleCount v) (X0_molesR v) Q
def q_X0_digUp (dC : Nat → ClassId) (dI : Nat → Nat → Nat) (cy : Nat → ClassId) (a b : Nat → Nat) (v : V_X0) (u : V_X3) (x1 : Int32) (Q : Int32 → (Nat → Int32) → (Nat → Int32) → Int32 → Int32 → Int32 → Int32 → Int32 → (Nat → V_X1) → (Nat → Nat) → (Nat → Int32) → (Nat → Int32) → Int32 → (Nat → Int32) → (Nat → Int32) → V_X3 → Prop) (A : Nat → Prop) : Array Value → State → Outcome → State → Prop := va_Qi (fun (r : Int32) (u : (Nat → Int32) × (Nat → Int32) × Int32 × Int32 × Int32 × Int32 × Int32 × (Nat → V_X1) × (Nat → Nat) × (Nat → Int32) × (Nat → Int32) × Int32 × (Nat → Int32) × (Nat → Int32) × V_X3) => Q r u.1 u.2.1 u.2.2.1 u.2.2.2.1 u.2.2.2.2.1 u.2.2.2.2.2.1 u.2.2.2.2.2.2.1 u.2.2.2.2.2.2.2.1 u.2.2.2.2.2.2.2.2.1 u.2.2.2.2.2.2.2.2.2.1 u.2.2.2.2.2.2.2.2.2.2.1 u.2.2.2.2.2.2.2.2.2.2.2.1 u.2.2.2.2.2.2.2.2.2.2.2.2.1 u.2.2.2.2.2.2.2.2.2.2.2.2.2.1 u.2.2.2.2.2.2.2.2.2.2.2.2.2.2) (fun (u : (Nat → Int32) × (Nat → Int32) × Int32 × Int32 × Int32 × Int32 × Int32 × (Nat → V_X1) × (Nat → Nat) × (Nat → Int32) × (Nat → Int32) × Int32 × (Nat → Int32) × (Nat → Int32) × V_X3) t => xAt dC dI cy A (cX0 cy a b u.2.2.2.2.2.2.2.2.2.1 u.2.2.2.2.2.2.2.2.2.2.1 u.2.2.2.2.2.2.2.2.2.2.2.2.1 u.2.2.2.2.2.2.2.2.2.2.2.2.2.1 u.2.2.2.2.2.2.2.2.2.2.2.2.2.2 u.2.2.2.2.2.2.2.2.1 u.2.2.2.2.2.2.2.1 u.2.2.2.2.2.2.1 (X0_fullAir v) (X0_beats v) u.2.2.2.2.1 (X0_gnawed v) u.2.2.2.2.2.2.2.2.2.2.2.1 u.2.2.2.2.2.1 ++ cX3 cy b u.1 u.2.1 u.2.2.2.1 u.2.2.1) t) A
set_option maxHeartbeats 4000000 in
set_option maxRecDepth 100000 in
theorem c_X0_digUp (l : Launch) (dC : Nat → ClassId) (dI : Nat → Nat → Nat) (cy : Nat → ClassId) (a b : Nat → Nat) (sz : Nat) (v : V_X0) (u : V_X3) (x1 : Int32) (Q : Int32 → (Nat → Int32) → (Nat → Int32) → Int32 → Int32 → Int32 → Int32 → Int32 → (Nat → V_X1) → (Nat → Nat) → (Nat → Int32) → (Nat → Int32) → Int32 → (Nat → Int32) → (Nat → Int32) → V_X3 → Prop) (hq : wp_X0_digUp v u x1 Q) : Met l yX0_digUp wsX0_digUp ({ frames := 5, cells := 0, slots := 0, locals := 120 } : Room) (va_Pc [.ref (a 0), .int x1] (xPre dC dI cy (wX0 cy a b v ++ wX3 cy b u) sz)) (q_X0_digUp dC dI cy a b v u x1 Q (va_A (wX0 cy a b v ++ wX3 cy b u) sz)) 0 0 (va_A (wX0 cy a b v ++ wX3 cy b u) sz) := by
  refine Met.ofW (cc := cX0_digUp) (maxL := 4) (ret := (some .int)) (by decide) rfl ?_
  intro p e s m args below meth c s₁ B hml hv
  obtain ⟨rfl, hsz, hP, hK, hD0⟩ := hv
  have hx := B.exec
  have hb := B.bytes
  have hr := B.returns
  have hts := atoms_spec (ws := wsX0_digUp) B.pre
  have hown : s.vm.findClass RX0 = some m.cls := findClass_of_methodNamed B.named
  have hlocks := B.notSynchronized
  subst hsz
  have hD := hD0.self (sz := s.heap.size)
  generalize hAe : va_A (wX0 cy a b v ++ wX3 cy b u) s.heap.size = A at hD ⊢
  have hAe0 : ∀ q : Nat, s.heap.size ≤ q → A q := fun q h => by rw [← hAe]; exact Or.inr h
  have hS : va_S A s.heap s.heap [] := va_S.rf
  have hl := lv_entry ([.ref (a 0), .int x1]) (n := 4) (Nat.le_of_ble_eq_true rfl)
  rw [lg_entry_eq]
  generalize (lg_sl ([.ref (a 0), .int x1]) ++ List.replicate (4 - (lg_sl ([.ref (a 0), .int x1])).length) Slot.unset).toArray = ls at hl ⊢
  have hl : lv_has ls 4 [(0, .ref (a 0)), (1, .int x1)] := hl
  have lk0 := hts (Cond.fieldLink RX0 9 "MolesLawn$Lawn" "mounds" "[Z") (List.mem_cons_of_mem _ (List.mem_append_left _ (List.mem_append_left _ (List.mem_append_left _ (List.mem_append_left _ (List.mem_of_getElem? (i := 6) rfl))))))
  have lk1 := hts (Cond.fieldLink RX0 65 "MolesLawn$Lawn" "caught" "I") (List.mem_cons_of_mem _ (List.mem_append_left _ (List.mem_append_left _ (List.mem_append_left _ (List.mem_append_left _ (List.mem_of_getElem? (i := 3) rfl))))))
  have lk2 := hts (Cond.fieldLink RX0 34 "MolesLawn$Lawn" "moles" "[LMolesLawn$Mole;") (List.mem_cons_of_mem _ (List.mem_append_left _ (List.mem_append_left _ (List.mem_append_left _ (List.mem_append_left _ (List.mem_of_getElem? (i := 5) rfl))))))
  have lk3 := hts (Cond.fieldLink RX0 15 "MolesLawn$Lawn" "opened" "[Z") (List.mem_cons_of_mem _ (List.mem_append_left _ (List.mem_append_left _ (List.mem_append_left _ (List.mem_append_left _ (List.mem_of_getElem? (i := 0) rfl))))))
  have lk4 := hts (Cond.fieldLink RX0 18 "MolesLawn$Lawn" "roots" "[I") (List.mem_cons_of_mem _ (List.mem_append_left _ (List.mem_append_left _ (List.mem_append_left _ (List.mem_append_left _ (List.mem_of_getElem? (i := 1) rfl))))))
  have lk5 := hts (Cond.fieldLink RX0 22 "MolesLawn$Lawn" "traps" "[I") (List.mem_cons_of_mem _ (List.mem_append_left _ (List.mem_append_left _ (List.mem_append_left _ (List.mem_append_left _ (List.mem_of_getElem? (i := 2) rfl))))))
  have lk6 := hts (Cond.fieldLink RX0 56 "MolesLawn$Lawn" "moleCount" "I") (List.mem_cons_of_mem _ (List.mem_append_left _ (List.mem_append_left _ (List.mem_append_left _ (List.mem_append_left _ (List.mem_of_getElem? (i := 4) rfl))))))
  have iK0 : ∀ w ∈ wsX00, w ∈ wsX0_digUp := fun _ h => (List.mem_cons_of_mem _ (List.mem_append_left _ (List.mem_append_left _ (List.mem_append_right _ h))))
  unfold wp_X0_digUp at hq
  have J33 : ∀ (y33_2 : Int32) (z33_v_opened : (Nat → Int32)) (z33_v_roots : (Nat → Int32)) (z33_v_traps : (Nat → Int32)) (y33_3 : Int32) (z33_v_caught : Int32) (z33_v_moleCount : Int32) (z33_v_molesR : (Nat → Nat)) (H : Heap) (locs : List Loc) (ls : Array Slot), wp_X0_digUp_33 v u x1 y33_2 z33_v_opened z33_v_roots z33_v_traps y33_3 z33_v_caught z33_v_moleCount z33_v_molesR Q → va_P (dC, dI) vwCl (cX0 cy a b (X0_mounds v) z33_v_opened z33_v_roots z33_v_traps (X0_tunnels v) z33_v_molesR (X0_moles v) z33_v_moleCount (X0_fullAir v) (X0_beats v) z33_v_caught (X0_gnawed v) (X0_risen v) (X0_fallen v) ++ wX3 cy b u) H → va_D A (cX0 cy a b (X0_mounds v) z33_v_opened z33_v_roots z33_v_traps (X0_tunnels v) z33_v_molesR (X0_moles v) z33_v_moleCount (X0_fullAir v) (X0_beats v) z33_v_caught (X0_gnawed v) (X0_risen v) (X0_fallen v) ++ wX3 cy b u) → va_S A s.heap H locs → lv_has ls 4 [(0, .ref (a 0)), (1, .int x1), (2, .int y33_2), (3, .int y33_3)] → W p l e (headSpec wsX0_digUp ({ frames := 5, cells := 0, slots := 0, locals := 120 } : Room)).room s m ([.ref (a 0), .int x1] : List Value).toArray below meth c H locs 0 0 (MQ below (q_X0_digUp dC dI cy a b v u x1 Q A) ([.ref (a 0), .int x1] : List Value).toArray s 0 0 A) (F0 m 33 ls []) := by
    intro y33_2 z33_v_opened z33_v_roots z33_v_traps y33_3 z33_v_caught z33_v_moleCount z33_v_molesR H locs ls hq hP hD hS hl
    obtain ⟨I33, μ33, h0, hs33⟩ := hq
    have key : ∀ (n : Nat) (y33_3 : Int32) (z33_v_caught : Int32) (z33_v_moleCount : Int32) (z33_v_molesR : (Nat → Nat)) (H : Heap) (locs : List Loc) (ls : Array Slot), I33 y33_3 z33_v_caught z33_v_moleCount z33_v_molesR → μ33 y33_3 z33_v_caught z33_v_moleCount z33_v_molesR < n → va_P (dC, dI) vwCl (cX0 cy a b (X0_mounds v) z33_v_opened z33_v_roots z33_v_traps (X0_tunnels v) z33_v_molesR (X0_moles v) z33_v_moleCount (X0_fullAir v) (X0_beats v) z33_v_caught (X0_gnawed v) (X0_risen v) (X0_fallen v) ++ wX3 cy b u) H → va_D A (cX0 cy a b (X0_mounds v) z33_v_opened z33_v_roots z33_v_traps (X0_tunnels v) z33_v_molesR (X0_moles v) z33_v_moleCount (X0_fullAir v) (X0_beats v) z33_v_caught (X0_gnawed v) (X0_risen v) (X0_fallen v) ++ wX3 cy b u) → va_S A s.heap H locs → lv_has ls 4 [(0, .ref (a 0)), (1, .int x1), (2, .int y33_2), (3, .int y33_3)] → W p l e (headSpec wsX0_digUp ({ frames := 5, cells := 0, slots := 0, locals := 120 } : Room)).room s m ([.ref (a 0), .int x1] : List Value).toArray below meth c H locs 0 0 (MQ below (q_X0_digUp dC dI cy a b v u x1 Q A) ([.ref (a 0), .int x1] : List Value).toArray s 0 0 A) (F0 m 33 ls []) := by
      intro n
      induction n with
      | zero => intro y33_3 z33_v_caught z33_v_moleCount z33_v_molesR H locs ls _ hm; exact absurd hm (Nat.not_lt_zero _)
      | succ n ih =>
        intro y33_3 z33_v_caught z33_v_moleCount z33_v_molesR H locs ls hI hm hP hD hS hl
        have hq := hs33 y33_3 z33_v_caught z33_v_moleCount z33_v_molesR hI
        generalize hB33 : (fun (t0 : Int32) (t1 : Int32) (t2 : Int32) (t3 : (Nat → Nat)) => I33 t0 t1 t2 t3 ∧ μ33 t0 t1 t2 t3 < μ33 y33_3 z33_v_caught z33_v_moleCount z33_v_molesR) = B33 at hq
        have bk33 : ∀ (y33_3 : Int32) (z33_v_caught : Int32) (z33_v_moleCount : Int32) (z33_v_molesR : (Nat → Nat)) (H : Heap) (locs : List Loc) (ls : Array Slot), B33 y33_3 z33_v_caught z33_v_moleCount z33_v_molesR → va_P (dC, dI) vwCl (cX0 cy a b (X0_mounds v) z33_v_opened z33_v_roots z33_v_traps (X0_tunnels v) z33_v_molesR (X0_moles v) z33_v_moleCount (X0_fullAir v) (X0_beats v) z33_v_caught (X0_gnawed v) (X0_risen v) (X0_fallen v) ++ wX3 cy b u) H → va_D A (cX0 cy a b (X0_mounds v) z33_v_opened z33_v_roots z33_v_traps (X0_tunnels v) z33_v_molesR (X0_moles v) z33_v_moleCount (X0_fullAir v) (X0_beats v) z33_v_caught (X0_gnawed v) (X0_risen v) (X0_fallen v) ++ wX3 cy b u) → va_S A s.heap H locs → lv_has ls 4 [(0, .ref (a 0)), (1, .int x1), (2, .int y33_2), (3, .int y33_3)] → W p l e (headSpec wsX0_digUp ({ frames := 5, cells := 0, slots := 0, locals := 120 } : Room)).room s m ([.ref (a 0), .int x1] : List Value).toArray below meth c H locs 0 0 (MQ below (q_X0_digUp dC dI cy a b v u x1 Q A) ([.ref (a 0), .int x1] : List Value).toArray s 0 0 A) (F0 m 33 ls []) := by
          intro y33_3 z33_v_caught z33_v_moleCount z33_v_molesR H locs ls h
          rw [← hB33] at h
          exact ih y33_3 z33_v_caught z33_v_moleCount z33_v_molesR H locs ls h.1 (Nat.lt_of_lt_of_le h.2 (Nat.le_of_lt_succ hm))
        unfold wb_X0_digUp_33 at hq
        refine lv_iload_n hx hb dX0_digUp_33 rfl (lv_at hl 3 rfl) ?_
        obtain ⟨hqA, hqB⟩ := hq
        refine lv_if_lt (tgt := 61) hx hb dX0_digUp_34 (by decide) (fun c5 => ?_) (fun c5 => ?_)
        · have hq := hqA c5
          refine lv_aload_n hx hb dX0_digUp_61 rfl (lv_at hl 0 rfl) ?_
          refine va_get (D := (dC, dI)) (ci := 0) (v := .ref (a 1)) (C := RX0) (T := TX0) (N := 14) hx hb hts iK0 hown hK hP 0 rfl rfl 0 (by decide) lk0 (fun _ h9 => h9) rfl dX0_digUp_62 ?_
          refine lv_iload_n hx hb dX0_digUp_65 rfl (lv_at hl 1 rfl) ?_
          refine lv_iconst (v := 0) hx hb dX0_digUp_66 (by decide) ?_
          obtain ⟨g1, hq⟩ := hq
          refine va_zast hx hb hK hP hD hS 1 1 rfl rfl g1 dX0_digUp_67 (fun H locs hP hD hS => ?_)
          rw [xnar0] at hP hD
          have hP : va_P (dC, dI) vwCl (cX0 cy a b (upd (X0_mounds v) x1.toNatClampNeg 0) z33_v_opened z33_v_roots z33_v_traps (X0_tunnels v) z33_v_molesR (X0_moles v) z33_v_moleCount (X0_fullAir v) (X0_beats v) z33_v_caught (X0_gnawed v) (X0_risen v) (X0_fallen v) ++ wX3 cy b u) H := hP
          have hD : va_D A (cX0 cy a b (upd (X0_mounds v) x1.toNatClampNeg 0) z33_v_opened z33_v_roots z33_v_traps (X0_tunnels v) z33_v_molesR (X0_moles v) z33_v_moleCount (X0_fullAir v) (X0_beats v) z33_v_caught (X0_gnawed v) (X0_risen v) (X0_fallen v) ++ wX3 cy b u) := hD
          refine lv_aload_n hx hb dX0_digUp_68 rfl (lv_at hl 0 rfl) ?_
          refine lv_iload_n hx hb dX0_digUp_69 rfl (lv_at hl 1 rfl) ?_
          have hFc := xfree_same hS hAe0 (ws := (cX0 cy a b (upd (X0_mounds v) x1.toNatClampNeg 0) z33_v_opened z33_v_roots z33_v_traps (X0_tunnels v) z33_v_molesR (X0_moles v) z33_v_moleCount (X0_fullAir v) (X0_beats v) z33_v_caught (X0_gnawed v) (X0_risen v) (X0_fallen v) ++ wX3 cy b u)) hD
          refine va_callv (va_runV (As := [.int x1]) (rest := []) ⟨hx, hb, hml, hown, hts⟩ (c_X0_dropTunnels l dC dI cy a b _ (X0_s10 (X0_s7 (X0_s5 (X0_s3 (X0_s2 (X0_s1 (X0_s0 v (upd (X0_mounds v) x1.toNatClampNeg 0)) z33_v_opened) z33_v_roots) z33_v_traps) z33_v_molesR) z33_v_moleCount) z33_v_caught) u x1 _ hq) (cwV 1 hts gX0_digUp_X0_dropTunnels rfl rfl rfl (by decide +kernel) ⟨Nat.le_of_ble_eq_true rfl, Nat.le_of_ble_eq_true rfl⟩) ⟨xPre_blind, va_recv hK hP (ci := 0) (q0 := 0) rfl rfl, xPre_of hP hK hD⟩ rfl rfl hl.1 rfl (lv_room (Nat.le_of_ble_eq_true rfl)) dX0_digUp_70 ⟨Nat.le_of_ble_eq_true rfl, Nat.le_of_ble_eq_true rfl⟩) hS (fun q _ h => hFc q h) hFc (fun u t H locs ht hvm hq hB hz1 hk1 hS => ?_)
          obtain ⟨z70_u_cells, z70_u_ends, z70_u_size, z70_u_used, z70_v_fallen, z70_v_tunnels⟩ := u
          obtain ⟨hP1, -, hD1⟩ := hB
          rw [ht] at hP1
          have hP : va_P (dC, dI) vwCl (cX0 cy a b (upd (X0_mounds v) x1.toNatClampNeg 0) z33_v_opened z33_v_roots z33_v_traps z70_v_tunnels z33_v_molesR (X0_moles v) z33_v_moleCount (X0_fullAir v) (X0_beats v) z33_v_caught (X0_gnawed v) (X0_risen v) z70_v_fallen ++ cX3 cy b z70_u_cells z70_u_ends z70_u_used z70_u_size) H := hP1
          have hD : va_D A (cX0 cy a b (upd (X0_mounds v) x1.toNatClampNeg 0) z33_v_opened z33_v_roots z33_v_traps z70_v_tunnels z33_v_molesR (X0_moles v) z33_v_moleCount (X0_fullAir v) (X0_beats v) z33_v_caught (X0_gnawed v) (X0_risen v) z70_v_fallen ++ cX3 cy b z70_u_cells z70_u_ends z70_u_used z70_u_size) := hD1.weaken (fun _ q _ h => hFc q.1 h)
          refine lv_aload_n hx hb dX0_digUp_73 rfl (lv_at hl 0 rfl) ?_
          refine lv_iload_n hx hb dX0_digUp_74 rfl (lv_at hl 1 rfl) ?_
          have hFc := xfree_same hS hAe0 (ws := (cX0 cy a b (upd (X0_mounds v) x1.toNatClampNeg 0) z33_v_opened z33_v_roots z33_v_traps z70_v_tunnels z33_v_molesR (X0_moles v) z33_v_moleCount (X0_fullAir v) (X0_beats v) z33_v_caught (X0_gnawed v) (X0_risen v) z70_v_fallen ++ cX3 cy b z70_u_cells z70_u_ends z70_u_used z70_u_size)) hD
          refine va_callv (va_runV (As := [.int x1]) (rest := []) ⟨hx, hb, hml, hown, hts⟩ (c_X0_dropTrails l dC dI cy a b _ (X0_s13 (X0_s10 (X0_s7 (X0_s5 (X0_s4 (X0_s3 (X0_s2 (X0_s1 (X0_s0 v (upd (X0_mounds v) x1.toNatClampNeg 0)) z33_v_opened) z33_v_roots) z33_v_traps) z70_v_tunnels) z33_v_molesR) z33_v_moleCount) z33_v_caught) z70_v_fallen) (X3_s3 (X3_s2 (X3_s1 (X3_s0 u z70_u_cells) z70_u_ends) z70_u_used) z70_u_size) x1 _ hq) (cwV 1 hts gX0_digUp_X0_dropTrails rfl rfl rfl (by decide +kernel) ⟨Nat.le_of_ble_eq_true rfl, Nat.le_of_ble_eq_true rfl⟩) ⟨xPre_blind, va_recv hK hP (ci := 0) (q0 := 0) rfl rfl, xPre_of hP hK hD⟩ rfl rfl hl.1 rfl (lv_room (Nat.le_of_ble_eq_true rfl)) dX0_digUp_75 ⟨Nat.le_of_ble_eq_true rfl, Nat.le_of_ble_eq_true rfl⟩) hS (fun q _ h => hFc q h) hFc (fun u t H locs ht hvm hq hB hz1 hk1 hS => ?_)
          obtain ⟨z75_u_cells, z75_u_ends, z75_u_size, z75_u_used, z75_v_moles, z75_v_mounds, z75_v_risen, z75_v_tunnels⟩ := u
          obtain ⟨hP1, -, hD1⟩ := hB
          rw [ht] at hP1
          have hP : va_P (dC, dI) vwCl (cX0 cy a b z75_v_mounds z33_v_opened z33_v_roots z33_v_traps z75_v_tunnels z33_v_molesR z75_v_moles z33_v_moleCount (X0_fullAir v) (X0_beats v) z33_v_caught (X0_gnawed v) z75_v_risen z70_v_fallen ++ cX3 cy b z75_u_cells z75_u_ends z75_u_used z75_u_size) H := hP1
          have hD : va_D A (cX0 cy a b z75_v_mounds z33_v_opened z33_v_roots z33_v_traps z75_v_tunnels z33_v_molesR z75_v_moles z33_v_moleCount (X0_fullAir v) (X0_beats v) z33_v_caught (X0_gnawed v) z75_v_risen z70_v_fallen ++ cX3 cy b z75_u_cells z75_u_ends z75_u_used z75_u_size) := hD1.weaken (fun _ q _ h => hFc q.1 h)
          refine lv_aload_n hx hb dX0_digUp_78 rfl (lv_at hl 0 rfl) ?_
          refine va_get (D := (dC, dI)) (ci := 0) (v := .int z33_v_caught) (C := RX0) (T := TX0) (N := 14) hx hb hts iK0 hown hK hP 0 rfl rfl 10 (by decide) lk1 (fun _ h9 => h9) rfl dX0_digUp_79 ?_
          refine lv_iload_n hx hb dX0_digUp_82 rfl (lv_at hl 2 rfl) ?_
          refine lv_isub hx hb dX0_digUp_83 ?_
          exact W.iret (v := (z33_v_caught - y33_2)) hx hb hr (fun t ht hW => ⟨⟨(z33_v_caught - y33_2), (z75_u_cells, z75_u_ends, z75_u_size, z75_u_used, z33_v_caught, z70_v_fallen, z33_v_moleCount, z75_v_moles, z33_v_molesR, z75_v_mounds, z33_v_opened, z75_v_risen, z33_v_roots, z33_v_traps, z75_v_tunnels), rfl, hq, (xAt_of hP hK hD ht hW)⟩, hS.F ht⟩) hS.2.2 dX0_digUp_84
        · have hq := hqB c5
          refine lv_aload_n hx hb dX0_digUp_37 rfl (lv_at hl 0 rfl) ?_
          refine va_get (D := (dC, dI)) (ci := 0) (v := .ref (a 8)) (C := RX0) (T := TX0) (N := 14) hx hb hts iK0 hown hK hP 0 rfl rfl 6 (by decide) lk2 (fun _ h9 => h9) rfl dX0_digUp_38 ?_
          refine lv_iload_n hx hb dX0_digUp_41 rfl (lv_at hl 3 rfl) ?_
          obtain ⟨g2, hq⟩ := hq
          obtain ⟨g3, hq⟩ := hq
          refine va_aldq hx hb hK hP 8 2 rfl rfl g2 dX0_digUp_42 ?_
          have hC : (([(9 + 3 * (z33_v_molesR y33_3.toNatClampNeg)), (10 + 3 * (z33_v_molesR y33_3.toNatClampNeg)), (11 + 3 * (z33_v_molesR y33_3.toNatClampNeg))] : List Nat).map (fun i => (cX0 cy a b (X0_mounds v) z33_v_opened z33_v_roots z33_v_traps (X0_tunnels v) z33_v_molesR (X0_moles v) z33_v_moleCount (X0_fullAir v) (X0_beats v) z33_v_caught (X0_gnawed v) (X0_risen v) (X0_fallen v) ++ wX3 cy b u)[i]?)) = (wX1 cy (sh a (9 + 3 * (z33_v_molesR y33_3.toNatClampNeg))) ((X0_moles v) (z33_v_molesR y33_3.toNatClampNeg))).map some := (co_4 (P := fun i19 => (([(9 + 3 * i19), (10 + 3 * i19), (11 + 3 * i19)] : List Nat).map (fun i => (cX0 cy a b (X0_mounds v) z33_v_opened z33_v_roots z33_v_traps (X0_tunnels v) z33_v_molesR (X0_moles v) z33_v_moleCount (X0_fullAir v) (X0_beats v) z33_v_caught (X0_gnawed v) (X0_risen v) (X0_fallen v) ++ wX3 cy b u)[i]?)) = (wX1 cy (sh a (9 + 3 * i19)) ((X0_moles v) i19)).map some) rfl rfl rfl rfl g3)
          have hN : va_nd [(9 + 3 * (z33_v_molesR y33_3.toNatClampNeg)), (10 + 3 * (z33_v_molesR y33_3.toNatClampNeg)), (11 + 3 * (z33_v_molesR y33_3.toNatClampNeg))] = true := (co_4 (P := fun i19 => va_nd [(9 + 3 * i19), (10 + 3 * i19), (11 + 3 * i19)] = true) rfl rfl rfl rfl g3)
          have hPc := xsubP hP hC
          have hDc := xsubD hD hN hC
          have hFc := va_free (wc := (wX1 cy (sh a (9 + 3 * (z33_v_molesR y33_3.toNatClampNeg))) ((X0_moles v) (z33_v_molesR y33_3.toNatClampNeg)))) hD hS hAe0 [(9 + 3 * (z33_v_molesR y33_3.toNatClampNeg)), (10 + 3 * (z33_v_molesR y33_3.toNatClampNeg)), (11 + 3 * (z33_v_molesR y33_3.toNatClampNeg))] hC
          refine va_calli (va_runV (As := []) (rest := []) ⟨hx, hb, hml, hown, hts⟩ (c_X1_place l dC dI cy (sh a (9 + 3 * (z33_v_molesR y33_3.toNatClampNeg))) _ ((X0_moles v) (z33_v_molesR y33_3.toNatClampNeg)) _ hq) (cwV 0 hts gX0_digUp_X1_place rfl rfl rfl (by decide +kernel) ⟨Nat.le_of_ble_eq_true rfl, Nat.le_of_ble_eq_true rfl⟩) ⟨xPre_blind, va_recv hK hP (ci := 1) (q0 := (9 + 3 * (z33_v_molesR y33_3.toNatClampNeg))) rfl (co_4 (P := fun i19 => (cX0 cy a b (X0_mounds v) z33_v_opened z33_v_roots z33_v_traps (X0_tunnels v) z33_v_molesR (X0_moles v) z33_v_moleCount (X0_fullAir v) (X0_beats v) z33_v_caught (X0_gnawed v) (X0_risen v) (X0_fallen v) ++ wX3 cy b u)[(9 + 3 * i19)]? = (wX1 cy (sh a (9 + 3 * i19)) ((X0_moles v) i19))[0]?) rfl rfl rfl rfl g3), xPre_of hPc hK hDc⟩ rfl rfl hl.1 rfl (lv_room (Nat.le_of_ble_eq_true rfl)) dX0_digUp_43 ⟨Nat.le_of_ble_eq_true rfl, Nat.le_of_ble_eq_true rfl⟩) hS (fun q _ h => hFc q h) hFc (fun r43 u t H locs ht hvm hq hB hz1 hk1 hS => ?_)
          obtain ⟨hP1, -, hD1⟩ := hB
          rw [ht] at hP1
          have hP : va_P (dC, dI) vwCl (cX0 cy a b (X0_mounds v) z33_v_opened z33_v_roots z33_v_traps (X0_tunnels v) z33_v_molesR (X0_moles v) z33_v_moleCount (X0_fullAir v) (X0_beats v) z33_v_caught (X0_gnawed v) (X0_risen v) (X0_fallen v) ++ wX3 cy b u) H := xj_keep hP hD [(9 + 3 * (z33_v_molesR y33_3.toNatClampNeg)), (10 + 3 * (z33_v_molesR y33_3.toNatClampNeg)), (11 + 3 * (z33_v_molesR y33_3.toNatClampNeg))] hC hP1 hk1
          refine lv_iload_n hx hb dX0_digUp_46 rfl (lv_at hl 1 rfl) ?_
          obtain ⟨hqA, hqB⟩ := hq
          refine lv_icmp_ne (tgt := 55) hx hb dX0_digUp_47 (by decide) (fun c4 => ?_) (fun c4 => ?_)
          · have hq := hqB c4
            refine lv_iinc (v := (y33_3 + (-1))) (lv' := [(3, .int (y33_3 + (-1))), (0, .ref (a 0)), (1, .int x1), (2, .int y33_2)]) hx hb dX0_digUp_55 hl (k := 3) rfl rfl (by decide) rfl (fun ls hl => ?_)
            refine lv_goto (tgt := 33) hx hb dX0_digUp_58 (by decide) ?_
            exact bk33 (y33_3 + (-1)) z33_v_caught z33_v_moleCount z33_v_molesR _ _ _ hq hP hD hS (lv_sub hl [1, 2, 3, 0] rfl)
          · have hq := hqA c4
            refine lv_aload_n hx hb dX0_digUp_50 rfl (lv_at hl 0 rfl) ?_
            refine lv_iload_n hx hb dX0_digUp_51 rfl (lv_at hl 3 rfl) ?_
            have hC : (([0, 1, 2, 3, 4, 5, 6, 7, 8, 9, 10, 11, 12, 13, 14, 15, 16, 17, 18, 19, 20] : List Nat).map (fun i => (cX0 cy a b (X0_mounds v) z33_v_opened z33_v_roots z33_v_traps (X0_tunnels v) z33_v_molesR (X0_moles v) z33_v_moleCount (X0_fullAir v) (X0_beats v) z33_v_caught (X0_gnawed v) (X0_risen v) (X0_fallen v) ++ wX3 cy b u)[i]?)) = (cX0 cy a b (X0_mounds v) z33_v_opened z33_v_roots z33_v_traps (X0_tunnels v) z33_v_molesR (X0_moles v) z33_v_moleCount (X0_fullAir v) (X0_beats v) z33_v_caught (X0_gnawed v) (X0_risen v) (X0_fallen v)).map some := rfl
            have hPc := xsubP hP hC
            have hDc := xsubD hD (by decide) hC
            have hFc := va_free (wc := (cX0 cy a b (X0_mounds v) z33_v_opened z33_v_roots z33_v_traps (X0_tunnels v) z33_v_molesR (X0_moles v) z33_v_moleCount (X0_fullAir v) (X0_beats v) z33_v_caught (X0_gnawed v) (X0_risen v) (X0_fallen v))) hD hS hAe0 [0, 1, 2, 3, 4, 5, 6, 7, 8, 9, 10, 11, 12, 13, 14, 15, 16, 17, 18, 19, 20] hC
            refine va_callv (va_runV (As := [.int y33_3]) (rest := []) ⟨hx, hb, hml, hown, hts⟩ (c_X0_catchMole l dC dI cy a b _ (X0_s10 (X0_s7 (X0_s5 (X0_s3 (X0_s2 (X0_s1 v z33_v_opened) z33_v_roots) z33_v_traps) z33_v_molesR) z33_v_moleCount) z33_v_caught) y33_3 _ hq) (cwV 1 hts gX0_digUp_X0_catchMole rfl rfl rfl (by decide +kernel) ⟨Nat.le_of_ble_eq_true rfl, Nat.le_of_ble_eq_true rfl⟩) ⟨xPre_blind, va_recv hK hP (ci := 0) (q0 := 0) rfl rfl, xPre_of hPc hK hDc⟩ rfl rfl hl.1 rfl (lv_room (Nat.le_of_ble_eq_true rfl)) dX0_digUp_52 ⟨Nat.le_of_ble_eq_true rfl, Nat.le_of_ble_eq_true rfl⟩) hS (fun q _ h => hFc q h) hFc (fun u t H locs ht hvm hq hB hz1 hk1 hS => ?_)
            obtain ⟨z52_v_caught, z52_v_moleCount, z52_v_molesR⟩ := u
            obtain ⟨hP1, -, hD1⟩ := hB
            rw [ht] at hP1
            obtain ⟨hP, hD⟩ := xj hP hD [0, 1, 2, 3, 4, 5, 6, 7, 8, 9, 10, 11, 12, 13, 14, 15, 16, 17, 18, 19, 20] (cX0 cy a b (X0_mounds v) z33_v_opened z33_v_roots z33_v_traps (X0_tunnels v) z52_v_molesR (X0_moles v) z52_v_moleCount (X0_fullAir v) (X0_beats v) z52_v_caught (X0_gnawed v) (X0_risen v) (X0_fallen v)) (ws' := (cX0 cy a b (X0_mounds v) z33_v_opened z33_v_roots z33_v_traps (X0_tunnels v) z52_v_molesR (X0_moles v) z52_v_moleCount (X0_fullAir v) (X0_beats v) z52_v_caught (X0_gnawed v) (X0_risen v) (X0_fallen v) ++ wX3 cy b u)) hC rfl rfl hk1 hFc hP1
            refine lv_iinc (v := (y33_3 + (-1))) (lv' := [(3, .int (y33_3 + (-1))), (0, .ref (a 0)), (1, .int x1), (2, .int y33_2)]) hx hb dX0_digUp_55 hl (k := 3) rfl rfl (by decide) rfl (fun ls hl => ?_)
            refine lv_goto (tgt := 33) hx hb dX0_digUp_58 (by decide) ?_
            exact bk33 (y33_3 + (-1)) z52_v_caught z52_v_moleCount z52_v_molesR _ _ _ hq hP hD hS (lv_sub hl [1, 2, 3, 0] rfl)
    exact key _ y33_3 z33_v_caught z33_v_moleCount z33_v_molesR H locs ls h0 (Nat.lt_succ_self _) hP hD hS hl
  refine lv_aload_n hx hb dX0_digUp_0 rfl (lv_at hl 0 rfl) ?_
  refine va_get (D := (dC, dI)) (ci := 0) (v := .ref (a 2)) (C := RX0) (T := TX0) (N := 14) hx hb hts iK0 hown hK hP 0 rfl rfl 1 (by decide) lk3 (fun _ h9 => h9) rfl dX0_digUp_1 ?_
  refine lv_iload_n hx hb dX0_digUp_4 rfl (lv_at hl 1 rfl) ?_
  refine lv_iconst (v := 1) hx hb dX0_digUp_5 (by decide) ?_
  obtain ⟨g6, hq⟩ := hq
  refine va_zast hx hb hK hP hD hS 2 1 rfl rfl g6 dX0_digUp_6 (fun H locs hP hD hS => ?_)
  rw [xnar1] at hP hD
  have hP : va_P (dC, dI) vwCl (cX0 cy a b (X0_mounds v) (upd (X0_opened v) x1.toNatClampNeg 1) (X0_roots v) (X0_traps v) (X0_tunnels v) (X0_molesR v) (X0_moles v) (X0_moleCount v) (X0_fullAir v) (X0_beats v) (X0_caught v) (X0_gnawed v) (X0_risen v) (X0_fallen v) ++ wX3 cy b u) H := hP
  have hD : va_D A (cX0 cy a b (X0_mounds v) (upd (X0_opened v) x1.toNatClampNeg 1) (X0_roots v) (X0_traps v) (X0_tunnels v) (X0_molesR v) (X0_moles v) (X0_moleCount v) (X0_fullAir v) (X0_beats v) (X0_caught v) (X0_gnawed v) (X0_risen v) (X0_fallen v) ++ wX3 cy b u) := hD
  refine lv_aload_n hx hb dX0_digUp_7 rfl (lv_at hl 0 rfl) ?_
  refine va_get (D := (dC, dI)) (ci := 0) (v := .ref (a 3)) (C := RX0) (T := TX0) (N := 14) hx hb hts iK0 hown hK hP 0 rfl rfl 2 (by decide) lk4 (fun _ h9 => h9) rfl dX0_digUp_8 ?_
  refine lv_iload_n hx hb dX0_digUp_11 rfl (lv_at hl 1 rfl) ?_
  refine lv_iconst (v := 0) hx hb dX0_digUp_12 (by decide) ?_
  refine va_iast hx hb hK hP hD hS 3 0 rfl rfl g6 dX0_digUp_13 (fun H locs hP hD hS => ?_)
  have hP : va_P (dC, dI) vwCl (cX0 cy a b (X0_mounds v) (upd (X0_opened v) x1.toNatClampNeg 1) (upd (X0_roots v) x1.toNatClampNeg 0) (X0_traps v) (X0_tunnels v) (X0_molesR v) (X0_moles v) (X0_moleCount v) (X0_fullAir v) (X0_beats v) (X0_caught v) (X0_gnawed v) (X0_risen v) (X0_fallen v) ++ wX3 cy b u) H := hP
  have hD : va_D A (cX0 cy a b (X0_mounds v) (upd (X0_opened v) x1.toNatClampNeg 1) (upd (X0_roots v) x1.toNatClampNeg 0) (X0_traps v) (X0_tunnels v) (X0_molesR v) (X0_moles v) (X0_moleCount v) (X0_fullAir v) (X0_beats v) (X0_caught v) (X0_gnawed v) (X0_risen v) (X0_fallen v) ++ wX3 cy b u) := hD
  refine lv_aload_n hx hb dX0_digUp_14 rfl (lv_at hl 0 rfl) ?_
  refine va_get (D := (dC, dI)) (ci := 0) (v := .ref (a 4)) (C := RX0) (T := TX0) (N := 14) hx hb hts iK0 hown hK hP 0 rfl rfl 3 (by decide) lk5 (fun _ h9 => h9) rfl dX0_digUp_15 ?_
  refine lv_iload_n hx hb dX0_digUp_18 rfl (lv_at hl 1 rfl) ?_
  refine lv_iconst (v := (-1)) hx hb dX0_digUp_19 (by decide) ?_
  refine va_iast hx hb hK hP hD hS 4 0 rfl rfl g6 dX0_digUp_20 (fun H locs hP hD hS => ?_)
  have hP : va_P (dC, dI) vwCl (cX0 cy a b (X0_mounds v) (upd (X0_opened v) x1.toNatClampNeg 1) (upd (X0_roots v) x1.toNatClampNeg 0) (upd (X0_traps v) x1.toNatClampNeg (-1)) (X0_tunnels v) (X0_molesR v) (X0_moles v) (X0_moleCount v) (X0_fullAir v) (X0_beats v) (X0_caught v) (X0_gnawed v) (X0_risen v) (X0_fallen v) ++ wX3 cy b u) H := hP
  have hD : va_D A (cX0 cy a b (X0_mounds v) (upd (X0_opened v) x1.toNatClampNeg 1) (upd (X0_roots v) x1.toNatClampNeg 0) (upd (X0_traps v) x1.toNatClampNeg (-1)) (X0_tunnels v) (X0_molesR v) (X0_moles v) (X0_moleCount v) (X0_fullAir v) (X0_beats v) (X0_caught v) (X0_gnawed v) (X0_risen v) (X0_fallen v) ++ wX3 cy b u) := hD
  refine lv_aload_n hx hb dX0_digUp_21 rfl (lv_at hl 0 rfl) ?_
  refine va_get (D := (dC, dI)) (ci := 0) (v := .int (X0_caught v)) (C := RX0) (T := TX0) (N := 14) hx hb hts iK0 hown hK hP 0 rfl rfl 10 (by decide) lk1 (fun _ h9 => h9) rfl dX0_digUp_22 ?_
  refine lv_istore_n (lv' := [(2, .int (X0_caught v)), (0, .ref (a 0)), (1, .int x1)]) hx hb dX0_digUp_25 rfl hl (by decide) rfl (fun ls hl => ?_)
  refine lv_aload_n hx hb dX0_digUp_26 rfl (lv_at hl 1 rfl) ?_
  refine va_get (D := (dC, dI)) (ci := 0) (v := .int (X0_moleCount v)) (C := RX0) (T := TX0) (N := 14) hx hb hts iK0 hown hK hP 0 rfl rfl 7 (by decide) lk6 (fun _ h9 => h9) rfl dX0_digUp_27 ?_
  refine lv_iconst (v := 1) hx hb dX0_digUp_30 (by decide) ?_
  refine lv_isub hx hb dX0_digUp_31 ?_
  refine lv_istore_n (lv' := [(3, .int ((X0_moleCount v) - 1)), (2, .int (X0_caught v)), (0, .ref (a 0)), (1, .int x1)]) hx hb dX0_digUp_32 rfl hl (by decide) rfl (fun ls hl => ?_)
  exact J33 (X0_caught v) (upd (X0_opened v) x1.toNatClampNeg 1) (upd (X0_roots v) x1.toNatClampNeg 0) (upd (X0_traps v) x1.toNatClampNeg (-1)) ((X0_moleCount v) - 1) (X0_caught v) (X0_moleCount v) (X0_molesR v) _ _ _ hq hP hD hS (lv_sub hl [2, 3, 1, 0] rfl)
def wp_X0_putJoined_144 (v : V_X0) (u : V_X3) (x1 : Int32) (x2 : Int32) (x3 : Int32) (y111_4 : Int32) (y111_5 : Int32) (y111_6 : Int32) (z111_u_cells : (Nat → Int32)) (z111_u_used : Int32) (B111 : Int32 → (Nat → Int32) → Int32 → Prop) (k144_0 : Int32) (k144_1 : Int32) (Q : (Nat → Int32) → (Nat → Int32) → Int32 → Int32 → Prop) : Prop :=
  wp_X3_at (X0_tunnels v) k144_1 k144_0 (fun r144 =>
  wp_X3_put (X3_s2 (X3_s0 u z111_u_cells) z111_u_used) r144 (fun z147_v_cells z147_v_used =>
  B111 (y111_6 + 1) z147_v_cells z147_v_used))
def wb_X0_putJoined_111 (v : V_X0) (u : V_X3) (x1 : Int32) (x2 : Int32) (x3 : Int32) (y111_4 : Int32) (y111_5 : Int32) (y111_6 : Int32) (z111_u_cells : (Nat → Int32)) (z111_u_used : Int32) (B111 : Int32 → (Nat → Int32) → Int32 → Prop) (Q : (Nat → Int32) → (Nat → Int32) → Int32 → Int32 → Prop) : Prop :=
  ((y111_4 ≤ y111_6 → wp_X3_close (X3_s2 (X3_s0 u z111_u_cells) z111_u_used) (fun z160_v_ends z160_v_size =>
  Q z111_u_cells z160_v_ends z160_v_size z111_u_used)) ∧
  (¬ y111_4 ≤ y111_6 → ((y111_5 = 0 → wp_X0_putJoined_144 v u x1 x2 x3 y111_4 y111_5 y111_6 z111_u_cells z111_u_used B111 ((y111_4 - 1) - y111_6) x2  Q) ∧
  (¬ y111_5 = 0 → wp_X0_putJoined_144 v u x1 x2 x3 y111_4 y111_5 y111_6 z111_u_cells z111_u_used B111 y111_6 x2  Q))))
def wp_X0_putJoined_111 (v : V_X0) (u : V_X3) (x1 : Int32) (x2 : Int32) (x3 : Int32) (y111_4 : Int32) (y111_5 : Int32) (y111_6 : Int32) (z111_u_cells : (Nat → Int32)) (z111_u_used : Int32) (Q : (Nat → Int32) → (Nat → Int32) → Int32 → Int32 → Prop) : Prop :=
  ∃ (I : Int32 → (Nat → Int32) → Int32 → Prop) (μ : Int32 → (Nat → Int32) → Int32 → Nat), I y111_6 z111_u_cells z111_u_used ∧ ∀ (s0 : Int32) (s1 : (Nat → Int32)) (s2 : Int32), I s0 s1 s2 → wb_X0_putJoined_111 v u x1 x2 x3 y111_4 y111_5 s0 s1 s2 (fun t0 t1 t2 => I t0 t1 t2 ∧ μ t0 t1 t2 < μ s0 s1 s2) Q
def wp_X0_putJoined_66 (v : V_X0) (u : V_X3) (x1 : Int32) (x2 : Int32) (x3 : Int32) (y33_4 : Int32) (y33_5 : Int32) (y33_6 : Int32) (z33_u_cells : (Nat → Int32)) (z33_u_used : Int32) (B33 : Int32 → (Nat → Int32) → Int32 → Prop) (k66_0 : Int32) (k66_1 : Int32) (Q : (Nat → Int32) → (Nat → Int32) → Int32 → Int32 → Prop) : Prop :=
  wp_X3_at (X0_tunnels v) k66_1 k66_0 (fun r66 =>
  wp_X3_put (X3_s2 (X3_s0 u z33_u_cells) z33_u_used) r66 (fun z69_v_cells z69_v_used =>
  B33 (y33_6 + 1) z69_v_cells z69_v_used))
def wb_X0_putJoined_33 (v : V_X0) (u : V_X3) (x1 : Int32) (x2 : Int32) (x3 : Int32) (y33_4 : Int32) (y33_5 : Int32) (y33_6 : Int32) (z33_u_cells : (Nat → Int32)) (z33_u_used : Int32) (B33 : Int32 → (Nat → Int32) → Int32 → Prop) (Q : (Nat → Int32) → (Nat → Int32) → Int32 → Int32 → Prop) : Prop :=
  ((y33_4 ≤ y33_6 → wp_X3_number (X0_tunnels v) x2 2 (fun r84 =>
  wp_X3_first (X0_tunnels v) x2 (fun r94 =>
  ((r94 = x3 → wp_X0_putJoined_111 v u x1 x2 x3 r84 1 1 z33_u_cells z33_u_used Q) ∧
  (¬ r94 = x3 → wp_X0_putJoined_111 v u x1 x2 x3 r84 0 1 z33_u_cells z33_u_used Q))))) ∧
  (¬ y33_4 ≤ y33_6 → ((y33_5 = 0 → wp_X0_putJoined_66 v u x1 x2 x3 y33_4 y33_5 y33_6 z33_u_cells z33_u_used B33 ((y33_4 - 1) - y33_6) x1  Q) ∧
  (¬ y33_5 = 0 → wp_X0_putJoined_66 v u x1 x2 x3 y33_4 y33_5 y33_6 z33_u_cells z33_u_used B33 y33_6 x1  Q))))
def wp_X0_putJoined_33 (v : V_X0) (u : V_X3) (x1 : Int32) (x2 : Int32) (x3 : Int32) (y33_4 : Int32) (y33_5 : Int32) (y33_6 : Int32) (z33_u_cells : (Nat → Int32)) (z33_u_used : Int32) (Q : (Nat → Int32) → (Nat → Int32) → Int32 → Int32 → Prop) : Prop :=
  ∃ (I : Int32 → (Nat → Int32) → Int32 → Prop) (μ : Int32 → (Nat → Int32) → Int32 → Nat), I y33_6 z33_u_cells z33_u_used ∧ ∀ (s0 : Int32) (s1 : (Nat → Int32)) (s2 : Int32), I s0 s1 s2 → wb_X0_putJoined_33 v u x1 x2 x3 y33_4 y33_5 s0 s1 s2 (fun t0 t1 t2 => I t0 t1 t2 ∧ μ t0 t1 t2 < μ s0 s1 s2) Q
def wp_X0_putJoined (v : V_X0) (u : V_X3) (x1 : Int32) (x2 : Int32) (x3 : Int32) (Q : (Nat → Int32) → (Nat → Int32) → Int32 → Int32 → Prop) : Prop :=
  wp_X3_number (X0_tunnels v) x1 2 (fun r6 =>
  wp_X3_last (X0_tunnels v) x1 (fun r16 =>
  ((r16 = x3 → wp_X0_putJoined_33 v u x1 x2 x3 r6 1 0 (X3_cells u) (X3_used u) Q) ∧
  (¬ r16 = x3 → wp_X0_putJoined_33 v u x1 x2 x3 r6 0 0 (X3_cells u) (X3_used u) Q))))
def q_X0_putJoined (dC : Nat → ClassId) (dI : Nat → Nat → Nat) (cy : Nat → ClassId) (a b : Nat → Nat) (v : V_X0) (u : V_X3) (x1 : Int32) (x2 : Int32) (x3 : Int32) (Q : (Nat → Int32) → (Nat → Int32) → Int32 → Int32 → Prop) (A : Nat → Prop) : Array Value → State → Outcome → State → Prop := va_Qv (fun (u : (Nat → Int32) × (Nat → Int32) × Int32 × Int32) => Q u.1 u.2.1 u.2.2.1 u.2.2.2) (fun (u : (Nat → Int32) × (Nat → Int32) × Int32 × Int32) t => xAt dC dI cy A (wX0 cy a b v ++ cX3 cy b u.1 u.2.1 u.2.2.2 u.2.2.1) t) A
set_option maxHeartbeats 4000000 in
set_option maxRecDepth 100000 in
theorem c_X0_putJoined (l : Launch) (dC : Nat → ClassId) (dI : Nat → Nat → Nat) (cy : Nat → ClassId) (a b : Nat → Nat) (sz : Nat) (v : V_X0) (u : V_X3) (x1 : Int32) (x2 : Int32) (x3 : Int32) (Q : (Nat → Int32) → (Nat → Int32) → Int32 → Int32 → Prop) (hq : wp_X0_putJoined v u x1 x2 x3 Q) : Met l yX0_putJoined wsX0_putJoined ({ frames := 4, cells := 0, slots := 0, locals := 86 } : Room) (va_Pc [.ref (a 0), .int x1, .int x2, .int x3] (xPre dC dI cy (wX0 cy a b v ++ wX3 cy b u) sz)) (q_X0_putJoined dC dI cy a b v u x1 x2 x3 Q (va_A (wX0 cy a b v ++ wX3 cy b u) sz)) 0 0 (va_A (wX0 cy a b v ++ wX3 cy b u) sz) := by
  refine Met.ofW (cc := cX0_putJoined) (maxL := 7) (ret := none) (by decide) rfl ?_
  intro p e s m args below meth c s₁ B hml hv
  obtain ⟨rfl, hsz, hP, hK, hD0⟩ := hv
  have hx := B.exec
  have hb := B.bytes
  have hr := B.returns
  have hts := atoms_spec (ws := wsX0_putJoined) B.pre
  have hown : s.vm.findClass RX0 = some m.cls := findClass_of_methodNamed B.named
  have hlocks := B.notSynchronized
  subst hsz
  have hD := hD0.self (sz := s.heap.size)
  generalize hAe : va_A (wX0 cy a b v ++ wX3 cy b u) s.heap.size = A at hD ⊢
  have hAe0 : ∀ q : Nat, s.heap.size ≤ q → A q := fun q h => by rw [← hAe]; exact Or.inr h
  have hS : va_S A s.heap s.heap [] := va_S.rf
  have hl := lv_entry ([.ref (a 0), .int x1, .int x2, .int x3]) (n := 7) (Nat.le_of_ble_eq_true rfl)
  rw [lg_entry_eq]
  generalize (lg_sl ([.ref (a 0), .int x1, .int x2, .int x3]) ++ List.replicate (7 - (lg_sl ([.ref (a 0), .int x1, .int x2, .int x3])).length) Slot.unset).toArray = ls at hl ⊢
  have hl : lv_has ls 7 [(0, .ref (a 0)), (1, .int x1), (2, .int x2), (3, .int x3)] := hl
  have lk0 := hts (Cond.fieldLink RX0 42 "MolesLawn$Lawn" "spare" "LMolesLawn$Rows;") (List.mem_cons_of_mem _ (List.mem_append_left _ (List.mem_append_left _ (List.mem_append_left _ (List.mem_of_getElem? (i := 1) rfl)))))
  have lk1 := hts (Cond.fieldLink RX0 28 "MolesLawn$Lawn" "tunnels" "LMolesLawn$Rows;") (List.mem_cons_of_mem _ (List.mem_append_left _ (List.mem_append_left _ (List.mem_append_left _ (List.mem_of_getElem? (i := 0) rfl)))))
  have iK0 : ∀ w ∈ wsX00, w ∈ wsX0_putJoined := fun _ h => (List.mem_cons_of_mem _ (List.mem_append_left _ (List.mem_append_right _ h)))
  unfold wp_X0_putJoined at hq
  have J111 : ∀ (y111_4 : Int32) (y111_5 : Int32) (y111_6 : Int32) (z111_u_cells : (Nat → Int32)) (z111_u_used : Int32) (H : Heap) (locs : List Loc) (ls : Array Slot), wp_X0_putJoined_111 v u x1 x2 x3 y111_4 y111_5 y111_6 z111_u_cells z111_u_used Q → va_P (dC, dI) vwCl (wX0 cy a b v ++ cX3 cy b z111_u_cells (X3_ends u) z111_u_used (X3_size u)) H → va_D A (wX0 cy a b v ++ cX3 cy b z111_u_cells (X3_ends u) z111_u_used (X3_size u)) → va_S A s.heap H locs → lv_has ls 7 [(0, .ref (a 0)), (2, .int x2), (4, .int y111_4), (5, .int y111_5), (6, .int y111_6)] → W p l e (headSpec wsX0_putJoined ({ frames := 4, cells := 0, slots := 0, locals := 86 } : Room)).room s m ([.ref (a 0), .int x1, .int x2, .int x3] : List Value).toArray below meth c H locs 0 0 (MQ below (q_X0_putJoined dC dI cy a b v u x1 x2 x3 Q A) ([.ref (a 0), .int x1, .int x2, .int x3] : List Value).toArray s 0 0 A) (F0 m 111 ls []) := by
    intro y111_4 y111_5 y111_6 z111_u_cells z111_u_used H locs ls hq hP hD hS hl
    obtain ⟨I111, μ111, h0, hs111⟩ := hq
    have key : ∀ (n : Nat) (y111_6 : Int32) (z111_u_cells : (Nat → Int32)) (z111_u_used : Int32) (H : Heap) (locs : List Loc) (ls : Array Slot), I111 y111_6 z111_u_cells z111_u_used → μ111 y111_6 z111_u_cells z111_u_used < n → va_P (dC, dI) vwCl (wX0 cy a b v ++ cX3 cy b z111_u_cells (X3_ends u) z111_u_used (X3_size u)) H → va_D A (wX0 cy a b v ++ cX3 cy b z111_u_cells (X3_ends u) z111_u_used (X3_size u)) → va_S A s.heap H locs → lv_has ls 7 [(0, .ref (a 0)), (2, .int x2), (4, .int y111_4), (5, .int y111_5), (6, .int y111_6)] → W p l e (headSpec wsX0_putJoined ({ frames := 4, cells := 0, slots := 0, locals := 86 } : Room)).room s m ([.ref (a 0), .int x1, .int x2, .int x3] : List Value).toArray below meth c H locs 0 0 (MQ below (q_X0_putJoined dC dI cy a b v u x1 x2 x3 Q A) ([.ref (a 0), .int x1, .int x2, .int x3] : List Value).toArray s 0 0 A) (F0 m 111 ls []) := by
      intro n
      induction n with
      | zero => intro y111_6 z111_u_cells z111_u_used H locs ls _ hm; exact absurd hm (Nat.not_lt_zero _)
      | succ n ih =>
        intro y111_6 z111_u_cells z111_u_used H locs ls hI hm hP hD hS hl
        have hq := hs111 y111_6 z111_u_cells z111_u_used hI
        generalize hB111 : (fun (t0 : Int32) (t1 : (Nat → Int32)) (t2 : Int32) => I111 t0 t1 t2 ∧ μ111 t0 t1 t2 < μ111 y111_6 z111_u_cells z111_u_used) = B111 at hq
        have bk111 : ∀ (y111_6 : Int32) (z111_u_cells : (Nat → Int32)) (z111_u_used : Int32) (H : Heap) (locs : List Loc) (ls : Array Slot), B111 y111_6 z111_u_cells z111_u_used → va_P (dC, dI) vwCl (wX0 cy a b v ++ cX3 cy b z111_u_cells (X3_ends u) z111_u_used (X3_size u)) H → va_D A (wX0 cy a b v ++ cX3 cy b z111_u_cells (X3_ends u) z111_u_used (X3_size u)) → va_S A s.heap H locs → lv_has ls 7 [(0, .ref (a 0)), (2, .int x2), (4, .int y111_4), (5, .int y111_5), (6, .int y111_6)] → W p l e (headSpec wsX0_putJoined ({ frames := 4, cells := 0, slots := 0, locals := 86 } : Room)).room s m ([.ref (a 0), .int x1, .int x2, .int x3] : List Value).toArray below meth c H locs 0 0 (MQ below (q_X0_putJoined dC dI cy a b v u x1 x2 x3 Q A) ([.ref (a 0), .int x1, .int x2, .int x3] : List Value).toArray s 0 0 A) (F0 m 111 ls []) := by
          intro y111_6 z111_u_cells z111_u_used H locs ls h
          rw [← hB111] at h
          exact ih y111_6 z111_u_cells z111_u_used H locs ls h.1 (Nat.lt_of_lt_of_le h.2 (Nat.le_of_lt_succ hm))
        unfold wb_X0_putJoined_111 at hq
        have J144 : ∀ (k144_0 : Int32) (k144_1 : Int32) (H : Heap) (locs : List Loc) (ls : Array Slot), wp_X0_putJoined_144 v u x1 x2 x3 y111_4 y111_5 y111_6 z111_u_cells z111_u_used B111 k144_0 k144_1 Q → va_P (dC, dI) vwCl (wX0 cy a b v ++ cX3 cy b z111_u_cells (X3_ends u) z111_u_used (X3_size u)) H → va_D A (wX0 cy a b v ++ cX3 cy b z111_u_cells (X3_ends u) z111_u_used (X3_size u)) → va_S A s.heap H locs → lv_has ls 7 [(0, .ref (a 0)), (2, .int x2), (4, .int y111_4), (5, .int y111_5), (6, .int y111_6)] → W p l e (headSpec wsX0_putJoined ({ frames := 4, cells := 0, slots := 0, locals := 86 } : Room)).room s m ([.ref (a 0), .int x1, .int x2, .int x3] : List Value).toArray below meth c H locs 0 0 (MQ below (q_X0_putJoined dC dI cy a b v u x1 x2 x3 Q A) ([.ref (a 0), .int x1, .int x2, .int x3] : List Value).toArray s 0 0 A) (F0 m 144 ls [.int k144_0, .int k144_1, .ref (a 5), .ref (b 0)]) := by
          intro k144_0 k144_1 H locs ls hq hP hD hS hl
          unfold wp_X0_putJoined_144 at hq
          have hC : (([5, 6, 7] : List Nat).map (fun i => (wX0 cy a b v ++ cX3 cy b z111_u_cells (X3_ends u) z111_u_used (X3_size u))[i]?)) = (wX3 cy (sh a 5) (X0_tunnels v)).map some := rfl
          have hPc := xsubP hP hC
          have hDc := xsubD hD (by decide) hC
          have hFc := va_free (wc := (wX3 cy (sh a 5) (X0_tunnels v))) hD hS hAe0 [5, 6, 7] hC
          refine va_calli (va_runV (As := [.int k144_1, .int k144_0]) (rest := [.ref (b 0)]) ⟨hx, hb, hml, hown, hts⟩ (c_X3_at l dC dI cy (sh a 5) _ (X0_tunnels v) k144_1 k144_0 _ hq) (cwV 2 hts gX0_putJoined_X3_at rfl rfl rfl (by decide +kernel) ⟨Nat.le_of_ble_eq_true rfl, Nat.le_of_ble_eq_true rfl⟩) ⟨xPre_blind, va_recv hK hP (ci := 3) (q0 := 5) rfl rfl, xPre_of hPc hK hDc⟩ rfl rfl hl.1 rfl (lv_room (Nat.le_of_ble_eq_true rfl)) dX0_putJoined_144 ⟨Nat.le_of_ble_eq_true rfl, Nat.le_of_ble_eq_true rfl⟩) hS (fun q _ h => hFc q h) hFc (fun r144 u t H locs ht hvm hq hB hz1 hk1 hS => ?_)
          obtain ⟨hP1, -, hD1⟩ := hB
          rw [ht] at hP1
          have hP : va_P (dC, dI) vwCl (wX0 cy a b v ++ cX3 cy b z111_u_cells (X3_ends u) z111_u_used (X3_size u)) H := xj_keep hP hD [5, 6, 7] hC hP1 hk1
          have hC : (([21, 22, 23] : List Nat).map (fun i => (wX0 cy a b v ++ cX3 cy b z111_u_cells (X3_ends u) z111_u_used (X3_size u))[i]?)) = (cX3 cy b z111_u_cells (X3_ends u) z111_u_used (X3_size u)).map some := rfl
          have hPc := xsubP hP hC
          have hDc := xsubD hD (by decide) hC
          have hFc := va_free (wc := (cX3 cy b z111_u_cells (X3_ends u) z111_u_used (X3_size u))) hD hS hAe0 [21, 22, 23] hC
          refine va_callv (va_runV (As := [.int r144]) (rest := []) ⟨hx, hb, hml, hown, hts⟩ (c_X3_put l dC dI cy b _ (X3_s2 (X3_s0 u z111_u_cells) z111_u_used) r144 _ hq) (cwV 1 hts gX0_putJoined_X3_put rfl rfl rfl (by decide +kernel) ⟨Nat.le_of_ble_eq_true rfl, Nat.le_of_ble_eq_true rfl⟩) ⟨xPre_blind, va_recv hK hP (ci := 3) (q0 := 21) rfl rfl, xPre_of hPc hK hDc⟩ rfl rfl hl.1 rfl (lv_room (Nat.le_of_ble_eq_true rfl)) dX0_putJoined_147 ⟨Nat.le_of_ble_eq_true rfl, Nat.le_of_ble_eq_true rfl⟩) hS (fun q _ h => hFc q h) hFc (fun u t H locs ht hvm hq hB hz1 hk1 hS => ?_)
          obtain ⟨z147_v_cells, z147_v_used⟩ := u
          obtain ⟨hP1, -, hD1⟩ := hB
          rw [ht] at hP1
          obtain ⟨hP, hD⟩ := xj hP hD [21, 22, 23] (cX3 cy b z147_v_cells (X3_ends u) z147_v_used (X3_size u)) (ws' := (wX0 cy a b v ++ cX3 cy b z147_v_cells (X3_ends u) z147_v_used (X3_size u))) hC rfl rfl hk1 hFc hP1
          refine lv_iinc (v := (y111_6 + 1)) (lv' := [(6, .int (y111_6 + 1)), (0, .ref (a 0)), (2, .int x2), (4, .int y111_4), (5, .int y111_5)]) hx hb dX0_putJoined_150 hl (k := 4) rfl rfl (by decide) rfl (fun ls hl => ?_)
          refine lv_goto (tgt := 111) hx hb dX0_putJoined_153 (by decide) ?_
          exact bk111 (y111_6 + 1) z147_v_cells z147_v_used _ _ _ hq hP hD hS (lv_sub hl [1, 2, 3, 4, 0] rfl)
        refine lv_iload hx hb dX0_putJoined_111 (lv_at hl 4 rfl) ?_
        refine lv_iload hx hb dX0_putJoined_113 (lv_at hl 2 rfl) ?_
        obtain ⟨hqA, hqB⟩ := hq
        refine lv_icmp_ge (tgt := 156) hx hb dX0_putJoined_115 (by decide) (fun c2 => ?_) (fun c2 => ?_)
        · have hq := hqA c2
          refine lv_aload_n hx hb dX0_putJoined_156 rfl (lv_at hl 0 rfl) ?_
          refine va_get (D := (dC, dI)) (ci := 0) (v := .ref (b 0)) (C := RX0) (T := TX0) (N := 14) hx hb hts iK0 hown hK hP 0 rfl rfl 5 (by decide) lk0 (fun _ h9 => h9) rfl dX0_putJoined_157 ?_
          have hC : (([21, 22, 23] : List Nat).map (fun i => (wX0 cy a b v ++ cX3 cy b z111_u_cells (X3_ends u) z111_u_used (X3_size u))[i]?)) = (cX3 cy b z111_u_cells (X3_ends u) z111_u_used (X3_size u)).map some := rfl
          have hPc := xsubP hP hC
          have hDc := xsubD hD (by decide) hC
          have hFc := va_free (wc := (cX3 cy b z111_u_cells (X3_ends u) z111_u_used (X3_size u))) hD hS hAe0 [21, 22, 23] hC
          refine va_callv (va_runV (As := []) (rest := []) ⟨hx, hb, hml, hown, hts⟩ (c_X3_close l dC dI cy b _ (X3_s2 (X3_s0 u z111_u_cells) z111_u_used) _ hq) (cwV 0 hts gX0_putJoined_X3_close rfl rfl rfl (by decide +kernel) ⟨Nat.le_of_ble_eq_true rfl, Nat.le_of_ble_eq_true rfl⟩) ⟨xPre_blind, va_recv hK hP (ci := 3) (q0 := 21) rfl rfl, xPre_of hPc hK hDc⟩ rfl rfl hl.1 rfl (lv_room (Nat.le_of_ble_eq_true rfl)) dX0_putJoined_160 ⟨Nat.le_of_ble_eq_true rfl, Nat.le_of_ble_eq_true rfl⟩) hS (fun q _ h => hFc q h) hFc (fun u t H locs ht hvm hq hB hz1 hk1 hS => ?_)
          obtain ⟨z160_v_ends, z160_v_size⟩ := u
          obtain ⟨hP1, -, hD1⟩ := hB
          rw [ht] at hP1
          obtain ⟨hP, hD⟩ := xj hP hD [21, 22, 23] (cX3 cy b z111_u_cells z160_v_ends z111_u_used z160_v_size) (ws' := (wX0 cy a b v ++ cX3 cy b z111_u_cells z160_v_ends z111_u_used z160_v_size)) hC rfl rfl hk1 hFc hP1
          exact W.vret hx hb hr (fun t ht hW => ⟨⟨(z111_u_cells, z160_v_ends, z160_v_size, z111_u_used), rfl, hq, (xAt_of hP hK hD ht hW)⟩, hS.F ht⟩) hS.2.2 dX0_putJoined_163
        · have hq := hqB c2
          refine lv_aload_n hx hb dX0_putJoined_118 rfl (lv_at hl 0 rfl) ?_
          refine va_get (D := (dC, dI)) (ci := 0) (v := .ref (b 0)) (C := RX0) (T := TX0) (N := 14) hx hb hts iK0 hown hK hP 0 rfl rfl 5 (by decide) lk0 (fun _ h9 => h9) rfl dX0_putJoined_119 ?_
          refine lv_aload_n hx hb dX0_putJoined_122 rfl (lv_at hl 0 rfl) ?_
          refine va_get (D := (dC, dI)) (ci := 0) (v := .ref (a 5)) (C := RX0) (T := TX0) (N := 14) hx hb hts iK0 hown hK hP 0 rfl rfl 4 (by decide) lk1 (fun _ h9 => h9) rfl dX0_putJoined_123 ?_
          refine lv_iload_n hx hb dX0_putJoined_126 rfl (lv_at hl 1 rfl) ?_
          refine lv_iload hx hb dX0_putJoined_127 (lv_at hl 3 rfl) ?_
          obtain ⟨hqA, hqB⟩ := hq
          refine lv_if_eq (tgt := 137) hx hb dX0_putJoined_129 (by decide) (fun c1 => ?_) (fun c1 => ?_)
          · have hq := hqA c1
            refine lv_iload hx hb dX0_putJoined_137 (lv_at hl 2 rfl) ?_
            refine lv_iconst (v := 1) hx hb dX0_putJoined_139 (by decide) ?_
            refine lv_isub hx hb dX0_putJoined_140 ?_
            refine lv_iload hx hb dX0_putJoined_141 (lv_at hl 4 rfl) ?_
            refine lv_isub hx hb dX0_putJoined_143 ?_
            exact J144 ((y111_4 - 1) - y111_6) x2  _ _ _ hq hP hD hS (lv_sub hl [0, 1, 2, 3, 4] rfl)
          · have hq := hqB c1
            refine lv_iload hx hb dX0_putJoined_132 (lv_at hl 4 rfl) ?_
            refine lv_goto (tgt := 144) hx hb dX0_putJoined_134 (by decide) ?_
            exact J144 y111_6 x2  _ _ _ hq hP hD hS (lv_sub hl [0, 1, 2, 3, 4] rfl)
    exact key _ y111_6 z111_u_cells z111_u_used H locs ls h0 (Nat.lt_succ_self _) hP hD hS hl
  have J33 : ∀ (y33_4 : Int32) (y33_5 : Int32) (y33_6 : Int32) (z33_u_cells : (Nat → Int32)) (z33_u_used : Int32) (H : Heap) (locs : List Loc) (ls : Array Slot), wp_X0_putJoined_33 v u x1 x2 x3 y33_4 y33_5 y33_6 z33_u_cells z33_u_used Q → va_P (dC, dI) vwCl (wX0 cy a b v ++ cX3 cy b z33_u_cells (X3_ends u) z33_u_used (X3_size u)) H → va_D A (wX0 cy a b v ++ cX3 cy b z33_u_cells (X3_ends u) z33_u_used (X3_size u)) → va_S A s.heap H locs → lv_has ls 7 [(0, .ref (a 0)), (1, .int x1), (2, .int x2), (3, .int x3), (4, .int y33_4), (5, .int y33_5), (6, .int y33_6)] → W p l e (headSpec wsX0_putJoined ({ frames := 4, cells := 0, slots := 0, locals := 86 } : Room)).room s m ([.ref (a 0), .int x1, .int x2, .int x3] : List Value).toArray below meth c H locs 0 0 (MQ below (q_X0_putJoined dC dI cy a b v u x1 x2 x3 Q A) ([.ref (a 0), .int x1, .int x2, .int x3] : List Value).toArray s 0 0 A) (F0 m 33 ls []) := by
    intro y33_4 y33_5 y33_6 z33_u_cells z33_u_used H locs ls hq hP hD hS hl
    obtain ⟨I33, μ33, h0, hs33⟩ := hq
    have key : ∀ (n : Nat) (y33_6 : Int32) (z33_u_cells : (Nat → Int32)) (z33_u_used : Int32) (H : Heap) (locs : List Loc) (ls : Array Slot), I33 y33_6 z33_u_cells z33_u_used → μ33 y33_6 z33_u_cells z33_u_used < n → va_P (dC, dI) vwCl (wX0 cy a b v ++ cX3 cy b z33_u_cells (X3_ends u) z33_u_used (X3_size u)) H → va_D A (wX0 cy a b v ++ cX3 cy b z33_u_cells (X3_ends u) z33_u_used (X3_size u)) → va_S A s.heap H locs → lv_has ls 7 [(0, .ref (a 0)), (1, .int x1), (2, .int x2), (3, .int x3), (4, .int y33_4), (5, .int y33_5), (6, .int y33_6)] → W p l e (headSpec wsX0_putJoined ({ frames := 4, cells := 0, slots := 0, locals := 86 } : Room)).room s m ([.ref (a 0), .int x1, .int x2, .int x3] : List Value).toArray below meth c H locs 0 0 (MQ below (q_X0_putJoined dC dI cy a b v u x1 x2 x3 Q A) ([.ref (a 0), .int x1, .int x2, .int x3] : List Value).toArray s 0 0 A) (F0 m 33 ls []) := by
      intro n
      induction n with
      | zero => intro y33_6 z33_u_cells z33_u_used H locs ls _ hm; exact absurd hm (Nat.not_lt_zero _)
      | succ n ih =>
        intro y33_6 z33_u_cells z33_u_used H locs ls hI hm hP hD hS hl
        have hq := hs33 y33_6 z33_u_cells z33_u_used hI
        generalize hB33 : (fun (t0 : Int32) (t1 : (Nat → Int32)) (t2 : Int32) => I33 t0 t1 t2 ∧ μ33 t0 t1 t2 < μ33 y33_6 z33_u_cells z33_u_used) = B33 at hq
        have bk33 : ∀ (y33_6 : Int32) (z33_u_cells : (Nat → Int32)) (z33_u_used : Int32) (H : Heap) (locs : List Loc) (ls : Array Slot), B33 y33_6 z33_u_cells z33_u_used → va_P (dC, dI) vwCl (wX0 cy a b v ++ cX3 cy b z33_u_cells (X3_ends u) z33_u_used (X3_size u)) H → va_D A (wX0 cy a b v ++ cX3 cy b z33_u_cells (X3_ends u) z33_u_used (X3_size u)) → va_S A s.heap H locs → lv_has ls 7 [(0, .ref (a 0)), (1, .int x1), (2, .int x2), (3, .int x3), (4, .int y33_4), (5, .int y33_5), (6, .int y33_6)] → W p l e (headSpec wsX0_putJoined ({ frames := 4, cells := 0, slots := 0, locals := 86 } : Room)).room s m ([.ref (a 0), .int x1, .int x2, .int x3] : List Value).toArray below meth c H locs 0 0 (MQ below (q_X0_putJoined dC dI cy a b v u x1 x2 x3 Q A) ([.ref (a 0), .int x1, .int x2, .int x3] : List Value).toArray s 0 0 A) (F0 m 33 ls []) := by
          intro y33_6 z33_u_cells z33_u_used H locs ls h
          rw [← hB33] at h
          exact ih y33_6 z33_u_cells z33_u_used H locs ls h.1 (Nat.lt_of_lt_of_le h.2 (Nat.le_of_lt_succ hm))
        unfold wb_X0_putJoined_33 at hq
        have J66 : ∀ (k66_0 : Int32) (k66_1 : Int32) (H : Heap) (locs : List Loc) (ls : Array Slot), wp_X0_putJoined_66 v u x1 x2 x3 y33_4 y33_5 y33_6 z33_u_cells z33_u_used B33 k66_0 k66_1 Q → va_P (dC, dI) vwCl (wX0 cy a b v ++ cX3 cy b z33_u_cells (X3_ends u) z33_u_used (X3_size u)) H → va_D A (wX0 cy a b v ++ cX3 cy b z33_u_cells (X3_ends u) z33_u_used (X3_size u)) → va_S A s.heap H locs → lv_has ls 7 [(0, .ref (a 0)), (1, .int x1), (2, .int x2), (3, .int x3), (4, .int y33_4), (5, .int y33_5), (6, .int y33_6)] → W p l e (headSpec wsX0_putJoined ({ frames := 4, cells := 0, slots := 0, locals := 86 } : Room)).room s m ([.ref (a 0), .int x1, .int x2, .int x3] : List Value).toArray below meth c H locs 0 0 (MQ below (q_X0_putJoined dC dI cy a b v u x1 x2 x3 Q A) ([.ref (a 0), .int x1, .int x2, .int x3] : List Value).toArray s 0 0 A) (F0 m 66 ls [.int k66_0, .int k66_1, .ref (a 5), .ref (b 0)]) := by
          intro k66_0 k66_1 H locs ls hq hP hD hS hl
          unfold wp_X0_putJoined_66 at hq
          have hC : (([5, 6, 7] : List Nat).map (fun i => (wX0 cy a b v ++ cX3 cy b z33_u_cells (X3_ends u) z33_u_used (X3_size u))[i]?)) = (wX3 cy (sh a 5) (X0_tunnels v)).map some := rfl
          have hPc := xsubP hP hC
          have hDc := xsubD hD (by decide) hC
          have hFc := va_free (wc := (wX3 cy (sh a 5) (X0_tunnels v))) hD hS hAe0 [5, 6, 7] hC
          refine va_calli (va_runV (As := [.int k66_1, .int k66_0]) (rest := [.ref (b 0)]) ⟨hx, hb, hml, hown, hts⟩ (c_X3_at l dC dI cy (sh a 5) _ (X0_tunnels v) k66_1 k66_0 _ hq) (cwV 2 hts gX0_putJoined_X3_at rfl rfl rfl (by decide +kernel) ⟨Nat.le_of_ble_eq_true rfl, Nat.le_of_ble_eq_true rfl⟩) ⟨xPre_blind, va_recv hK hP (ci := 3) (q0 := 5) rfl rfl, xPre_of hPc hK hDc⟩ rfl rfl hl.1 rfl (lv_room (Nat.le_of_ble_eq_true rfl)) dX0_putJoined_66 ⟨Nat.le_of_ble_eq_true rfl, Nat.le_of_ble_eq_true rfl⟩) hS (fun q _ h => hFc q h) hFc (fun r66 u t H locs ht hvm hq hB hz1 hk1 hS => ?_)
          obtain ⟨hP1, -, hD1⟩ := hB
          rw [ht] at hP1
          have hP : va_P (dC, dI) vwCl (wX0 cy a b v ++ cX3 cy b z33_u_cells (X3_ends u) z33_u_used (X3_size u)) H := xj_keep hP hD [5, 6, 7] hC hP1 hk1
          have hC : (([21, 22, 23] : List Nat).map (fun i => (wX0 cy a b v ++ cX3 cy b z33_u_cells (X3_ends u) z33_u_used (X3_size u))[i]?)) = (cX3 cy b z33_u_cells (X3_ends u) z33_u_used (X3_size u)).map some := rfl
          have hPc := xsubP hP hC
          have hDc := xsubD hD (by decide) hC
          have hFc := va_free (wc := (cX3 cy b z33_u_cells (X3_ends u) z33_u_used (X3_size u))) hD hS hAe0 [21, 22, 23] hC
          refine va_callv (va_runV (As := [.int r66]) (rest := []) ⟨hx, hb, hml, hown, hts⟩ (c_X3_put l dC dI cy b _ (X3_s2 (X3_s0 u z33_u_cells) z33_u_used) r66 _ hq) (cwV 1 hts gX0_putJoined_X3_put rfl rfl rfl (by decide +kernel) ⟨Nat.le_of_ble_eq_true rfl, Nat.le_of_ble_eq_true rfl⟩) ⟨xPre_blind, va_recv hK hP (ci := 3) (q0 := 21) rfl rfl, xPre_of hPc hK hDc⟩ rfl rfl hl.1 rfl (lv_room (Nat.le_of_ble_eq_true rfl)) dX0_putJoined_69 ⟨Nat.le_of_ble_eq_true rfl, Nat.le_of_ble_eq_true rfl⟩) hS (fun q _ h => hFc q h) hFc (fun u t H locs ht hvm hq hB hz1 hk1 hS => ?_)
          obtain ⟨z69_v_cells, z69_v_used⟩ := u
          obtain ⟨hP1, -, hD1⟩ := hB
          rw [ht] at hP1
          obtain ⟨hP, hD⟩ := xj hP hD [21, 22, 23] (cX3 cy b z69_v_cells (X3_ends u) z69_v_used (X3_size u)) (ws' := (wX0 cy a b v ++ cX3 cy b z69_v_cells (X3_ends u) z69_v_used (X3_size u))) hC rfl rfl hk1 hFc hP1
          refine lv_iinc (v := (y33_6 + 1)) (lv' := [(6, .int (y33_6 + 1)), (0, .ref (a 0)), (1, .int x1), (2, .int x2), (3, .int x3), (4, .int y33_4), (5, .int y33_5)]) hx hb dX0_putJoined_72 hl (k := 6) rfl rfl (by decide) rfl (fun ls hl => ?_)
          refine lv_goto (tgt := 33) hx hb dX0_putJoined_75 (by decide) ?_
          exact bk33 (y33_6 + 1) z69_v_cells z69_v_used _ _ _ hq hP hD hS (lv_sub hl [1, 2, 3, 4, 5, 6, 0] rfl)
        refine lv_iload hx hb dX0_putJoined_33 (lv_at hl 6 rfl) ?_
        refine lv_iload hx hb dX0_putJoined_35 (lv_at hl 4 rfl) ?_
        obtain ⟨hqA, hqB⟩ := hq
        refine lv_icmp_ge (tgt := 78) hx hb dX0_putJoined_37 (by decide) (fun c5 => ?_) (fun c5 => ?_)
        · have hq := hqA c5
          refine lv_aload_n hx hb dX0_putJoined_78 rfl (lv_at hl 0 rfl) ?_
          refine va_get (D := (dC, dI)) (ci := 0) (v := .ref (a 5)) (C := RX0) (T := TX0) (N := 14) hx hb hts iK0 hown hK hP 0 rfl rfl 4 (by decide) lk1 (fun _ h9 => h9) rfl dX0_putJoined_79 ?_
          refine lv_iload_n hx hb dX0_putJoined_82 rfl (lv_at hl 2 rfl) ?_
          refine lv_iconst (v := 2) hx hb dX0_putJoined_83 (by decide) ?_
          have hC : (([5, 6, 7] : List Nat).map (fun i => (wX0 cy a b v ++ cX3 cy b z33_u_cells (X3_ends u) z33_u_used (X3_size u))[i]?)) = (wX3 cy (sh a 5) (X0_tunnels v)).map some := rfl
          have hPc := xsubP hP hC
          have hDc := xsubD hD (by decide) hC
          have hFc := va_free (wc := (wX3 cy (sh a 5) (X0_tunnels v))) hD hS hAe0 [5, 6, 7] hC
          refine va_calli (va_runV (As := [.int x2, .int 2]) (rest := []) ⟨hx, hb, hml, hown, hts⟩ (c_X3_number l dC dI cy (sh a 5) _ (X0_tunnels v) x2 2 _ hq) (cwV 2 hts gX0_putJoined_X3_number rfl rfl rfl (by decide +kernel) ⟨Nat.le_of_ble_eq_true rfl, Nat.le_of_ble_eq_true rfl⟩) ⟨xPre_blind, va_recv hK hP (ci := 3) (q0 := 5) rfl rfl, xPre_of hPc hK hDc⟩ rfl rfl hl.1 rfl (lv_room (Nat.le_of_ble_eq_true rfl)) dX0_putJoined_84 ⟨Nat.le_of_ble_eq_true rfl, Nat.le_of_ble_eq_true rfl⟩) hS (fun q _ h => hFc q h) hFc (fun r84 u t H locs ht hvm hq hB hz1 hk1 hS => ?_)
          obtain ⟨hP1, -, hD1⟩ := hB
          rw [ht] at hP1
          have hP : va_P (dC, dI) vwCl (wX0 cy a b v ++ cX3 cy b z33_u_cells (X3_ends u) z33_u_used (X3_size u)) H := xj_keep hP hD [5, 6, 7] hC hP1 hk1
          refine lv_istore (lv' := [(4, .int r84), (0, .ref (a 0)), (1, .int x1), (2, .int x2), (3, .int x3), (5, .int y33_5), (6, .int y33_6)]) hx hb dX0_putJoined_87 hl (by decide) rfl (fun ls hl => ?_)
          refine lv_aload_n hx hb dX0_putJoined_89 rfl (lv_at hl 1 rfl) ?_
          refine va_get (D := (dC, dI)) (ci := 0) (v := .ref (a 5)) (C := RX0) (T := TX0) (N := 14) hx hb hts iK0 hown hK hP 0 rfl rfl 4 (by decide) lk1 (fun _ h9 => h9) rfl dX0_putJoined_90 ?_
          refine lv_iload_n hx hb dX0_putJoined_93 rfl (lv_at hl 3 rfl) ?_
          have hC : (([5, 6, 7] : List Nat).map (fun i => (wX0 cy a b v ++ cX3 cy b z33_u_cells (X3_ends u) z33_u_used (X3_size u))[i]?)) = (wX3 cy (sh a 5) (X0_tunnels v)).map some := rfl
          have hPc := xsubP hP hC
          have hDc := xsubD hD (by decide) hC
          have hFc := va_free (wc := (wX3 cy (sh a 5) (X0_tunnels v))) hD hS hAe0 [5, 6, 7] hC
          refine va_calli (va_runV (As := [.int x2]) (rest := []) ⟨hx, hb, hml, hown, hts⟩ (c_X3_first l dC dI cy (sh a 5) _ (X0_tunnels v) x2 _ hq) (cwV 1 hts gX0_putJoined_X3_first rfl rfl rfl (by decide +kernel) ⟨Nat.le_of_ble_eq_true rfl, Nat.le_of_ble_eq_true rfl⟩) ⟨xPre_blind, va_recv hK hP (ci := 3) (q0 := 5) rfl rfl, xPre_of hPc hK hDc⟩ rfl rfl hl.1 rfl (lv_room (Nat.le_of_ble_eq_true rfl)) dX0_putJoined_94 ⟨Nat.le_of_ble_eq_true rfl, Nat.le_of_ble_eq_true rfl⟩) hS (fun q _ h => hFc q h) hFc (fun r94 u t H locs ht hvm hq hB hz1 hk1 hS => ?_)
          obtain ⟨hP1, -, hD1⟩ := hB
          rw [ht] at hP1
          have hP : va_P (dC, dI) vwCl (wX0 cy a b v ++ cX3 cy b z33_u_cells (X3_ends u) z33_u_used (X3_size u)) H := xj_keep hP hD [5, 6, 7] hC hP1 hk1
          refine lv_iload_n hx hb dX0_putJoined_97 rfl (lv_at hl 4 rfl) ?_
          obtain ⟨hqA, hqB⟩ := hq
          refine lv_icmp_ne (tgt := 105) hx hb dX0_putJoined_98 (by decide) (fun c3 => ?_) (fun c3 => ?_)
          · have hq := hqB c3
            refine lv_iconst (v := 0) hx hb dX0_putJoined_105 (by decide) ?_
            refine lv_istore (lv' := [(5, .int 0), (4, .int r84), (0, .ref (a 0)), (1, .int x1), (2, .int x2), (3, .int x3), (6, .int y33_6)]) hx hb dX0_putJoined_106 hl (by decide) rfl (fun ls hl => ?_)
            refine lv_iconst (v := 1) hx hb dX0_putJoined_108 (by decide) ?_
            refine lv_istore (lv' := [(6, .int 1), (5, .int 0), (4, .int r84), (0, .ref (a 0)), (1, .int x1), (2, .int x2), (3, .int x3)]) hx hb dX0_putJoined_109 hl (by decide) rfl (fun ls hl => ?_)
            exact J111 r84 0 1 z33_u_cells z33_u_used _ _ _ hq hP hD hS (lv_sub hl [3, 5, 2, 1, 0] rfl)
          · have hq := hqA c3
            refine lv_iconst (v := 1) hx hb dX0_putJoined_101 (by decide) ?_
            refine lv_goto (tgt := 106) hx hb dX0_putJoined_102 (by decide) ?_
            refine lv_istore (lv' := [(5, .int 1), (4, .int r84), (0, .ref (a 0)), (1, .int x1), (2, .int x2), (3, .int x3), (6, .int y33_6)]) hx hb dX0_putJoined_106 hl (by decide) rfl (fun ls hl => ?_)
            refine lv_iconst (v := 1) hx hb dX0_putJoined_108 (by decide) ?_
            refine lv_istore (lv' := [(6, .int 1), (5, .int 1), (4, .int r84), (0, .ref (a 0)), (1, .int x1), (2, .int x2), (3, .int x3)]) hx hb dX0_putJoined_109 hl (by decide) rfl (fun ls hl => ?_)
            exact J111 r84 1 1 z33_u_cells z33_u_used _ _ _ hq hP hD hS (lv_sub hl [3, 5, 2, 1, 0] rfl)
        · have hq := hqB c5
          refine lv_aload_n hx hb dX0_putJoined_40 rfl (lv_at hl 0 rfl) ?_
          refine va_get (D := (dC, dI)) (ci := 0) (v := .ref (b 0)) (C := RX0) (T := TX0) (N := 14) hx hb hts iK0 hown hK hP 0 rfl rfl 5 (by decide) lk0 (fun _ h9 => h9) rfl dX0_putJoined_41 ?_
          refine lv_aload_n hx hb dX0_putJoined_44 rfl (lv_at hl 0 rfl) ?_
          refine va_get (D := (dC, dI)) (ci := 0) (v := .ref (a 5)) (C := RX0) (T := TX0) (N := 14) hx hb hts iK0 hown hK hP 0 rfl rfl 4 (by decide) lk1 (fun _ h9 => h9) rfl dX0_putJoined_45 ?_
          refine lv_iload_n hx hb dX0_putJoined_48 rfl (lv_at hl 1 rfl) ?_
          refine lv_iload hx hb dX0_putJoined_49 (lv_at hl 5 rfl) ?_
          obtain ⟨hqA, hqB⟩ := hq
          refine lv_if_eq (tgt := 59) hx hb dX0_putJoined_51 (by decide) (fun c4 => ?_) (fun c4 => ?_)
          · have hq := hqA c4
            refine lv_iload hx hb dX0_putJoined_59 (lv_at hl 4 rfl) ?_
            refine lv_iconst (v := 1) hx hb dX0_putJoined_61 (by decide) ?_
            refine lv_isub hx hb dX0_putJoined_62 ?_
            refine lv_iload hx hb dX0_putJoined_63 (lv_at hl 6 rfl) ?_
            refine lv_isub hx hb dX0_putJoined_65 ?_
            exact J66 ((y33_4 - 1) - y33_6) x1  _ _ _ hq hP hD hS (lv_sub hl [0, 1, 2, 3, 4, 5, 6] rfl)
          · have hq := hqB c4
            refine lv_iload hx hb dX0_putJoined_54 (lv_at hl 6 rfl) ?_
            refine lv_goto (tgt := 66) hx hb dX0_putJoined_56 (by decide) ?_
            exact J66 y33_6 x1  _ _ _ hq hP hD hS (lv_sub hl [0, 1, 2, 3, 4, 5, 6] rfl)
    exact key _ y33_6 z33_u_cells z33_u_used H locs ls h0 (Nat.lt_succ_self _) hP hD hS hl
  refine lv_aload_n hx hb dX0_putJoined_0 rfl (lv_at hl 0 rfl) ?_
  refine va_get (D := (dC, dI)) (ci := 0) (v := .ref (a 5)) (C := RX0) (T := TX0) (N := 14) hx hb hts iK0 hown hK hP 0 rfl rfl 4 (by decide) lk1 (fun _ h9 => h9) rfl dX0_putJoined_1 ?_
  refine lv_iload_n hx hb dX0_putJoined_4 rfl (lv_at hl 1 rfl) ?_
  refine lv_iconst (v := 2) hx hb dX0_putJoined_5 (by decide) ?_
  have hC : (([5, 6, 7] : List Nat).map (fun i => (wX0 cy a b v ++ wX3 cy b u)[i]?)) = (wX3 cy (sh a 5) (X0_tunnels v)).map some := rfl
  have hPc := xsubP hP hC
  have hDc := xsubD hD (by decide) hC
  have hFc := va_free (wc := (wX3 cy (sh a 5) (X0_tunnels v))) hD hS hAe0 [5, 6, 7] hC
  refine va_calli (va_runV (As := [.int x1, .int 2]) (rest := []) ⟨hx, hb, hml, hown, hts⟩ (c_X3_number l dC dI cy (sh a 5) _ (X0_tunnels v) x1 2 _ hq) (cwV 2 hts gX0_putJoined_X3_number rfl rfl rfl (by decide +kernel) ⟨Nat.le_of_ble_eq_true rfl, Nat.le_of_ble_eq_true rfl⟩) ⟨xPre_blind, va_recv hK hP (ci := 3) (q0 := 5) rfl rfl, xPre_of hPc hK hDc⟩ rfl rfl hl.1 rfl (lv_room (Nat.le_of_ble_eq_true rfl)) dX0_putJoined_6 ⟨Nat.le_of_ble_eq_true rfl, Nat.le_of_ble_eq_true rfl⟩) hS (fun q _ h => hFc q h) hFc (fun r6 u t H locs ht hvm hq hB hz1 hk1 hS => ?_)
  obtain ⟨hP1, -, hD1⟩ := hB
  rw [ht] at hP1
  have hP : va_P (dC, dI) vwCl (wX0 cy a b v ++ wX3 cy b u) H := xj_keep hP hD [5, 6, 7] hC hP1 hk1
  refine lv_istore (lv' := [(4, .int r6), (0, .ref (a 0)), (1, .int x1), (2, .int x2), (3, .int x3)]) hx hb dX0_putJoined_9 hl (by decide) rfl (fun ls hl => ?_)
  refine lv_aload_n hx hb dX0_putJoined_11 rfl (lv_at hl 1 rfl) ?_
  refine va_get (D := (dC, dI)) (ci := 0) (v := .ref (a 5)) (C := RX0) (T := TX0) (N := 14) hx hb hts iK0 hown hK hP 0 rfl rfl 4 (by decide) lk1 (fun _ h9 => h9) rfl dX0_putJoined_12 ?_
  refine lv_iload_n hx hb dX0_putJoined_15 rfl (lv_at hl 2 rfl) ?_
  have hC : (([5, 6, 7] : List Nat).map (fun i => (wX0 cy a b v ++ wX3 cy b u)[i]?)) = (wX3 cy (sh a 5) (X0_tunnels v)).map some := rfl
  have hPc := xsubP hP hC
  have hDc := xsubD hD (by decide) hC
  have hFc := va_free (wc := (wX3 cy (sh a 5) (X0_tunnels v))) hD hS hAe0 [5, 6, 7] hC
  refine va_calli (va_runV (As := [.int x1]) (rest := []) ⟨hx, hb, hml, hown, hts⟩ (c_X3_last l dC dI cy (sh a 5) _ (X0_tunnels v) x1 _ hq) (cwV 1 hts gX0_putJoined_X3_last rfl rfl rfl (by decide +kernel) ⟨Nat.le_of_ble_eq_true rfl, Nat.le_of_ble_eq_true rfl⟩) ⟨xPre_blind, va_recv hK hP (ci := 3) (q0 := 5) rfl rfl, xPre_of hPc hK hDc⟩ rfl rfl hl.1 rfl (lv_room (Nat.le_of_ble_eq_true rfl)) dX0_putJoined_16 ⟨Nat.le_of_ble_eq_true rfl, Nat.le_of_ble_eq_true rfl⟩) hS (fun q _ h => hFc q h) hFc (fun r16 u t H locs ht hvm hq hB hz1 hk1 hS => ?_)
  obtain ⟨hP1, -, hD1⟩ := hB
  rw [ht] at hP1
  have hP : va_P (dC, dI) vwCl (wX0 cy a b v ++ wX3 cy b u) H := xj_keep hP hD [5, 6, 7] hC hP1 hk1
  refine lv_iload_n hx hb dX0_putJoined_19 rfl (lv_at hl 4 rfl) ?_
  obtain ⟨hqA, hqB⟩ := hq
  refine lv_icmp_ne (tgt := 27) hx hb dX0_putJoined_20 (by decide) (fun c6 => ?_) (fun c6 => ?_)
  · have hq := hqB c6
    refine lv_iconst (v := 0) hx hb dX0_putJoined_27 (by decide) ?_
    refine lv_istore (lv' := [(5, .int 0), (4, .int r6), (0, .ref (a 0)), (1, .int x1), (2, .int x2), (3, .int x3)]) hx hb dX0_putJoined_28 hl (by decide) rfl (fun ls hl => ?_)
    refine lv_iconst (v := 0) hx hb dX0_putJoined_30 (by decide) ?_
    refine lv_istore (lv' := [(6, .int 0), (5, .int 0), (4, .int r6), (0, .ref (a 0)), (1, .int x1), (2, .int x2), (3, .int x3)]) hx hb dX0_putJoined_31 hl (by decide) rfl (fun ls hl => ?_)
    exact J33 r6 0 0 (X3_cells u) (X3_used u) _ _ _ hq hP hD hS (lv_sub hl [3, 4, 5, 6, 2, 1, 0] rfl)
  · have hq := hqA c6
    refine lv_iconst (v := 1) hx hb dX0_putJoined_23 (by decide) ?_
    refine lv_goto (tgt := 28) hx hb dX0_putJoined_24 (by decide) ?_
    refine lv_istore (lv' := [(5, .int 1), (4, .int r6), (0, .ref (a 0)), (1, .int x1), (2, .int x2), (3, .int x3)]) hx hb dX0_putJoined_28 hl (by decide) rfl (fun ls hl => ?_)
    refine lv_iconst (v := 0) hx hb dX0_putJoined_30 (by decide) ?_
    refine lv_istore (lv' := [(6, .int 0), (5, .int 1), (4, .int r6), (0, .ref (a 0)), (1, .int x1), (2, .int x2), (3, .int x3)]) hx hb dX0_putJoined_31 hl (by decide) rfl (fun ls hl => ?_)
    exact J33 r6 1 0 (X3_cells u) (X3_used u) _ _ _ hq hP hD hS (lv_sub hl [3, 4, 5, 6, 2, 1, 0] rfl)
def wb_X0_joinTunnels_10 (v : V_X0) (u : V_X3) (x1 : Int32) (x2 : Int32) (x3 : Int32)  (y10_4 : Int32) (z10_u_cells : (Nat → Int32)) (z10_u_ends : (Nat → Int32)) (z10_u_size : Int32) (z10_u_used : Int32) (B10 : Int32 → (Nat → Int32) → (Nat → Int32) → Int32 → Int32 → Prop) (Q : (Nat → Int32) → (Nat → Int32) → Int32 → Int32 → V_X3 → Prop) : Prop :=
  (((X3_size (X0_tunnels v)) ≤ y10_4 → wp_X3_copyFrom (X0_tunnels v) (X3_s3 (X3_s2 (X3_s1 (X3_s0 u z10_u_cells) z10_u_ends) z10_u_used) z10_u_size) (fun z90_v_cells z90_v_ends z90_v_size z90_v_used =>
  Q z10_u_cells z10_u_ends z10_u_size z10_u_used (X3_s3 (X3_s2 (X3_s1 (X3_s0 (X0_tunnels v) z90_v_cells) z90_v_ends) z90_v_used) z90_v_size))) ∧
  (¬ (X3_size (X0_tunnels v)) ≤ y10_4 → ((y10_4 = x1 → wp_X0_putJoined v (X3_s3 (X3_s2 (X3_s1 (X3_s0 u z10_u_cells) z10_u_ends) z10_u_used) z10_u_size) x1 x2 x3 (fun z32_u_cells z32_u_ends z32_u_size z32_u_used =>
  B10 (y10_4 + 1) z32_u_cells z32_u_ends z32_u_size z32_u_used)) ∧
  (¬ y10_4 = x1 → ((y10_4 = x2 → B10 (y10_4 + 1) z10_u_cells z10_u_ends z10_u_size z10_u_used) ∧
  (¬ y10_4 = x2 → wp_X3_from (X0_tunnels v) y10_4 (fun r61 =>
  wp_X3_to (X0_tunnels v) y10_4 (fun r70 =>
  wp_X3_addRow (X3_s3 (X3_s2 (X3_s1 (X3_s0 u z10_u_cells) z10_u_ends) z10_u_used) z10_u_size) 1024 (X3_cells (X0_tunnels v)) r61 r70 (fun z73_v_cells z73_v_ends z73_v_size z73_v_used =>
  B10 (y10_4 + 1) z73_v_cells z73_v_ends z73_v_size z73_v_used)))))))))
def wp_X0_joinTunnels_10 (v : V_X0) (u : V_X3) (x1 : Int32) (x2 : Int32) (x3 : Int32)  (y10_4 : Int32) (z10_u_cells : (Nat → Int32)) (z10_u_ends : (Nat → Int32)) (z10_u_size : Int32) (z10_u_used : Int32) (Q : (Nat → Int32) → (Nat → Int32) → Int32 → Int32 → V_X3 → Prop) : Prop :=
  ∃ (I : Int32 → (Nat → Int32) → (Nat → Int32) → Int32 → Int32 → Prop) (μ : Int32 → (Nat → Int32) → (Nat → Int32) → Int32 → Int32 → Nat), I y10_4 z10_u_cells z10_u_ends z10_u_size z10_u_used ∧ ∀ (s0 : Int32) (s1 : (Nat → Int32)) (s2 : (Nat → Int32)) (s3 : Int32) (s4 : Int32), I s0 s1 s2 s3 s4 → wb_X0_joinTunnels_10 v u x1 x2 x3  s0 s1 s2 s3 s4 (fun t0 t1 t2 t3 t4 => I t0 t1 t2 t3 t4 ∧ μ t0 t1 t2 t3 t4 < μ s0 s1 s2 s3 s4) Q
def wp_X0_joinTunnels (v : V_X0) (u : V_X3) (x1 : Int32) (x2 : Int32) (x3 : Int32) (Q : (Nat → Int32) → (Nat → Int32) → Int32 → Int32 → V_X3 → Prop) : Prop :=
  wp_X3_empty u (fun z4_v_size z4_v_used =>
  wp_X0_joinTunnels_10 v u x1 x2 x3  0 (X3_cells u) (X3_ends u) z4_v_size z4_v_used Q)
def q_X0_joinTunnels (dC : Nat → ClassId) (dI : Nat → Nat → Nat) (cy : Nat → ClassId) (a b : Nat → Nat) (v : V_X0) (u : V_X3) (x1 : Int32) (x2 : Int32) (x3 : Int32) (Q : (Nat → Int32) → (Nat → Int32) → Int32 → Int32 → V_X3 → Prop) (A : Nat → Prop) : Array Value → State → Outcome → State → Prop := va_Qv (fun (u : (Nat → Int32) × (Nat → Int32) × Int32 × Int32 × V_X3) => Q u.1 u.2.1 u.2.2.1 u.2.2.2.1 u.2.2.2.2) (fun (u : (Nat → Int32) × (Nat → Int32) × Int32 × Int32 × V_X3) t => xAt dC dI cy A (cX0 cy a b (X0_mounds v) (X0_opened v) (X0_roots v) (X0_traps v) u.2.2.2.2 (X0_molesR v) (X0_moles v) (X0_moleCount v) (X0_fullAir v) (X0_beats v) (X0_caught v) (X0_gnawed v) (X0_risen v) (X0_fallen v) ++ cX3 cy b u.1 u.2.1 u.2.2.2.1 u.2.2.1) t) A
set_option maxHeartbeats 4000000 in
set_option maxRecDepth 100000 in
theorem c_X0_joinTunnels (l : Launch) (dC : Nat → ClassId) (dI : Nat → Nat → Nat) (cy : Nat → ClassId) (a b : Nat → Nat) (sz : Nat) (v : V_X0) (u : V_X3) (x1 : Int32) (x2 : Int32) (x3 : Int32) (Q : (Nat → Int32) → (Nat → Int32) → Int32 → Int32 → V_X3 → Prop) (hq : wp_X0_joinTunnels v u x1 x2 x3 Q) : Met l yX0_joinTunnels wsX0_joinTunnels ({ frames := 5, cells := 0, slots := 0, locals := 112 } : Room) (va_Pc [.ref (a 0), .int x1, .int x2, .int x3] (xPre dC dI cy (wX0 cy a b v ++ wX3 cy b u) sz)) (q_X0_joinTunnels dC dI cy a b v u x1 x2 x3 Q (va_A (wX0 cy a b v ++ wX3 cy b u) sz)) 0 0 (va_A (wX0 cy a b v ++ wX3 cy b u) sz) := by
  refine Met.ofW (cc := cX0_joinTunnels) (maxL := 5) (ret := none) (by decide) rfl ?_
  intro p e s m args below meth c s₁ B hml hv
  obtain ⟨rfl, hsz, hP, hK, hD0⟩ := hv
  have hx := B.exec
  have hb := B.bytes
  have hr := B.returns
  have hts := atoms_spec (ws := wsX0_joinTunnels) B.pre
  have hown : s.vm.findClass RX0 = some m.cls := findClass_of_methodNamed B.named
  have hlocks := B.notSynchronized
  subst hsz
  have hD := hD0.self (sz := s.heap.size)
  generalize hAe : va_A (wX0 cy a b v ++ wX3 cy b u) s.heap.size = A at hD ⊢
  have hAe0 : ∀ q : Nat, s.heap.size ≤ q → A q := fun q h => by rw [← hAe]; exact Or.inr h
  have hS : va_S A s.heap s.heap [] := va_S.rf
  have hl := lv_entry ([.ref (a 0), .int x1, .int x2, .int x3]) (n := 5) (Nat.le_of_ble_eq_true rfl)
  rw [lg_entry_eq]
  generalize (lg_sl ([.ref (a 0), .int x1, .int x2, .int x3]) ++ List.replicate (5 - (lg_sl ([.ref (a 0), .int x1, .int x2, .int x3])).length) Slot.unset).toArray = ls at hl ⊢
  have hl : lv_has ls 5 [(0, .ref (a 0)), (1, .int x1), (2, .int x2), (3, .int x3)] := hl
  have lk0 := hts (Cond.fieldLink RX0 28 "MolesLawn$Lawn" "tunnels" "LMolesLawn$Rows;") (List.mem_cons_of_mem _ (List.mem_append_left _ (List.mem_append_left _ (List.mem_append_left _ (List.mem_of_getElem? (i := 1) rfl)))))
  have lk1 := hts (Cond.fieldLink RX0 123 "MolesLawn$Rows" "size" "I") (List.mem_cons_of_mem _ (List.mem_append_left _ (List.mem_append_left _ (List.mem_append_left _ (List.mem_of_getElem? (i := 2) rfl)))))
  have lk2 := hts (Cond.fieldLink RX0 42 "MolesLawn$Lawn" "spare" "LMolesLawn$Rows;") (List.mem_cons_of_mem _ (List.mem_append_left _ (List.mem_append_left _ (List.mem_append_left _ (List.mem_of_getElem? (i := 0) rfl)))))
  have lk3 := hts (Cond.fieldLink RX0 128 "MolesLawn$Rows" "cells" "[I") (List.mem_cons_of_mem _ (List.mem_append_left _ (List.mem_append_left _ (List.mem_append_left _ (List.mem_of_getElem? (i := 3) rfl)))))
  have iK0 : ∀ w ∈ wsX00, w ∈ wsX0_joinTunnels := fun _ h => (List.mem_cons_of_mem _ (List.mem_append_left _ (List.mem_append_right _ h)))
  have iK3 : ∀ w ∈ wsX30, w ∈ wsX0_joinTunnels := fun _ h => (List.mem_cons_of_mem _ (List.mem_append_right _ h))
  unfold wp_X0_joinTunnels at hq
  have J10 : ∀  (y10_4 : Int32) (z10_u_cells : (Nat → Int32)) (z10_u_ends : (Nat → Int32)) (z10_u_size : Int32) (z10_u_used : Int32) (H : Heap) (locs : List Loc) (ls : Array Slot), wp_X0_joinTunnels_10 v u x1 x2 x3  y10_4 z10_u_cells z10_u_ends z10_u_size z10_u_used Q → va_P (dC, dI) vwCl (wX0 cy a b v ++ cX3 cy b z10_u_cells z10_u_ends z10_u_used z10_u_size) H → va_D A (wX0 cy a b v ++ cX3 cy b z10_u_cells z10_u_ends z10_u_used z10_u_size) → va_S A s.heap H locs → lv_has ls 5 [(0, .ref (a 0)), (1, .int x1), (2, .int x2), (3, .int x3), (4, .int y10_4)] → W p l e (headSpec wsX0_joinTunnels ({ frames := 5, cells := 0, slots := 0, locals := 112 } : Room)).room s m ([.ref (a 0), .int x1, .int x2, .int x3] : List Value).toArray below meth c H locs 0 0 (MQ below (q_X0_joinTunnels dC dI cy a b v u x1 x2 x3 Q A) ([.ref (a 0), .int x1, .int x2, .int x3] : List Value).toArray s 0 0 A) (F0 m 10 ls []) := by
    intro  y10_4 z10_u_cells z10_u_ends z10_u_size z10_u_used H locs ls hq hP hD hS hl
    obtain ⟨I10, μ10, h0, hs10⟩ := hq
    have key : ∀ (n : Nat) (y10_4 : Int32) (z10_u_cells : (Nat → Int32)) (z10_u_ends : (Nat → Int32)) (z10_u_size : Int32) (z10_u_used : Int32) (H : Heap) (locs : List Loc) (ls : Array Slot), I10 y10_4 z10_u_cells z10_u_ends z10_u_size z10_u_used → μ10 y10_4 z10_u_cells z10_u_ends z10_u_size z10_u_used < n → va_P (dC, dI) vwCl (wX0 cy a b v ++ cX3 cy b z10_u_cells z10_u_ends z10_u_used z10_u_size) H → va_D A (wX0 cy a b v ++ cX3 cy b z10_u_cells z10_u_ends z10_u_used z10_u_size) → va_S A s.heap H locs → lv_has ls 5 [(0, .ref (a 0)), (1, .int x1), (2, .int x2), (3, .int x3), (4, .int y10_4)] → W p l e (headSpec wsX0_joinTunnels ({ frames := 5, cells := 0, slots := 0, locals := 112 } : Room)).room s m ([.ref (a 0), .int x1, .int x2, .int x3] : List Value).toArray below meth c H locs 0 0 (MQ below (q_X0_joinTunnels dC dI cy a b v u x1 x2 x3 Q A) ([.ref (a 0), .int x1, .int x2, .int x3] : List Value).toArray s 0 0 A) (F0 m 10 ls []) := by
      intro n
      induction n with
      | zero => intro y10_4 z10_u_cells z10_u_ends z10_u_size z10_u_used H locs ls _ hm; exact absurd hm (Nat.not_lt_zero _)
      | succ n ih =>
        intro y10_4 z10_u_cells z10_u_ends z10_u_size z10_u_used H locs ls hI hm hP hD hS hl
        have hq := hs10 y10_4 z10_u_cells z10_u_ends z10_u_size z10_u_used hI
        generalize hB10 : (fun (t0 : Int32) (t1 : (Nat → Int32)) (t2 : (Nat → Int32)) (t3 : Int32) (t4 : Int32) => I10 t0 t1 t2 t3 t4 ∧ μ10 t0 t1 t2 t3 t4 < μ10 y10_4 z10_u_cells z10_u_ends z10_u_size z10_u_used) = B10 at hq
        have bk10 : ∀ (y10_4 : Int32) (z10_u_cells : (Nat → Int32)) (z10_u_ends : (Nat → Int32)) (z10_u_size : Int32) (z10_u_used : Int32) (H : Heap) (locs : List Loc) (ls : Array Slot), B10 y10_4 z10_u_cells z10_u_ends z10_u_size z10_u_used → va_P (dC, dI) vwCl (wX0 cy a b v ++ cX3 cy b z10_u_cells z10_u_ends z10_u_used z10_u_size) H → va_D A (wX0 cy a b v ++ cX3 cy b z10_u_cells z10_u_ends z10_u_used z10_u_size) → va_S A s.heap H locs → lv_has ls 5 [(0, .ref (a 0)), (1, .int x1), (2, .int x2), (3, .int x3), (4, .int y10_4)] → W p l e (headSpec wsX0_joinTunnels ({ frames := 5, cells := 0, slots := 0, locals := 112 } : Room)).room s m ([.ref (a 0), .int x1, .int x2, .int x3] : List Value).toArray below meth c H locs 0 0 (MQ below (q_X0_joinTunnels dC dI cy a b v u x1 x2 x3 Q A) ([.ref (a 0), .int x1, .int x2, .int x3] : List Value).toArray s 0 0 A) (F0 m 10 ls []) := by
          intro y10_4 z10_u_cells z10_u_ends z10_u_size z10_u_used H locs ls h
          rw [← hB10] at h
          exact ih y10_4 z10_u_cells z10_u_ends z10_u_size z10_u_used H locs ls h.1 (Nat.lt_of_lt_of_le h.2 (Nat.le_of_lt_succ hm))
        unfold wb_X0_joinTunnels_10 at hq
        refine lv_iload hx hb dX0_joinTunnels_10 (lv_at hl 4 rfl) ?_
        refine lv_aload_n hx hb dX0_joinTunnels_12 rfl (lv_at hl 0 rfl) ?_
        refine va_get (D := (dC, dI)) (ci := 0) (v := .ref (a 5)) (C := RX0) (T := TX0) (N := 14) hx hb hts iK0 hown hK hP 0 rfl rfl 4 (by decide) lk0 (fun _ h9 => h9) rfl dX0_joinTunnels_13 ?_
        refine va_get (D := (dC, dI)) (ci := 3) (v := .int (X3_size (X0_tunnels v))) (C := RX3) (T := TX3) (N := 4) hx hb hts iK3 hown hK hP 5 rfl rfl 3 (by decide) lk1 (fun _ h9 => h9) rfl dX0_joinTunnels_16 ?_
        obtain ⟨hqA, hqB⟩ := hq
        refine lv_icmp_ge (tgt := 82) hx hb dX0_joinTunnels_19 (by decide) (fun c3 => ?_) (fun c3 => ?_)
        · have hq := hqA c3
          refine lv_aload_n hx hb dX0_joinTunnels_82 rfl (lv_at hl 0 rfl) ?_
          refine va_get (D := (dC, dI)) (ci := 0) (v := .ref (a 5)) (C := RX0) (T := TX0) (N := 14) hx hb hts iK0 hown hK hP 0 rfl rfl 4 (by decide) lk0 (fun _ h9 => h9) rfl dX0_joinTunnels_83 ?_
          refine lv_aload_n hx hb dX0_joinTunnels_86 rfl (lv_at hl 0 rfl) ?_
          refine va_get (D := (dC, dI)) (ci := 0) (v := .ref (b 0)) (C := RX0) (T := TX0) (N := 14) hx hb hts iK0 hown hK hP 0 rfl rfl 5 (by decide) lk2 (fun _ h9 => h9) rfl dX0_joinTunnels_87 ?_
          have hC : (([5, 6, 7, 21, 22, 23] : List Nat).map (fun i => (wX0 cy a b v ++ cX3 cy b z10_u_cells z10_u_ends z10_u_used z10_u_size)[i]?)) = (wX3 cy (sh a 5) (X0_tunnels v) ++ cX3 cy b z10_u_cells z10_u_ends z10_u_used z10_u_size).map some := rfl
          have hPc := xsubP hP hC
          have hDc := xsubD hD (by decide) hC
          have hFc := va_free (wc := (wX3 cy (sh a 5) (X0_tunnels v) ++ cX3 cy b z10_u_cells z10_u_ends z10_u_used z10_u_size)) hD hS hAe0 [5, 6, 7, 21, 22, 23] hC
          refine va_callv (va_runV (As := [.ref (b 0)]) (rest := []) ⟨hx, hb, hml, hown, hts⟩ (c_X3_copyFrom l dC dI cy (sh a 5) b _ (X0_tunnels v) (X3_s3 (X3_s2 (X3_s1 (X3_s0 u z10_u_cells) z10_u_ends) z10_u_used) z10_u_size) _ hq) (cwV 1 hts gX0_joinTunnels_X3_copyFrom rfl rfl rfl (by decide +kernel) ⟨Nat.le_of_ble_eq_true rfl, Nat.le_of_ble_eq_true rfl⟩) ⟨xPre_blind, va_recv hK hP (ci := 3) (q0 := 5) rfl rfl, xPre_of hPc hK hDc⟩ rfl rfl hl.1 rfl (lv_room (Nat.le_of_ble_eq_true rfl)) dX0_joinTunnels_90 ⟨Nat.le_of_ble_eq_true rfl, Nat.le_of_ble_eq_true rfl⟩) hS (fun q _ h => hFc q h) hFc (fun u t H locs ht hvm hq hB hz1 hk1 hS => ?_)
          obtain ⟨z90_v_cells, z90_v_ends, z90_v_size, z90_v_used⟩ := u
          obtain ⟨hP1, -, hD1⟩ := hB
          rw [ht] at hP1
          obtain ⟨hP, hD⟩ := xj hP hD [5, 6, 7, 21, 22, 23] (cX3 cy (sh a 5) z90_v_cells z90_v_ends z90_v_used z90_v_size ++ cX3 cy b z10_u_cells z10_u_ends z10_u_used z10_u_size) (ws' := (cX0 cy a b (X0_mounds v) (X0_opened v) (X0_roots v) (X0_traps v) (z90_v_cells, z90_v_ends, z90_v_used, z90_v_size) (X0_molesR v) (X0_moles v) (X0_moleCount v) (X0_fullAir v) (X0_beats v) (X0_caught v) (X0_gnawed v) (X0_risen v) (X0_fallen v) ++ cX3 cy b z10_u_cells z10_u_ends z10_u_used z10_u_size)) hC rfl rfl hk1 hFc hP1
          exact W.vret hx hb hr (fun t ht hW => ⟨⟨(z10_u_cells, z10_u_ends, z10_u_size, z10_u_used, (X3_s3 (X3_s2 (X3_s1 (X3_s0 (X0_tunnels v) z90_v_cells) z90_v_ends) z90_v_used) z90_v_size)), rfl, hq, (xAt_of hP hK hD ht hW)⟩, hS.F ht⟩) hS.2.2 dX0_joinTunnels_93
        · have hq := hqB c3
          refine lv_iload hx hb dX0_joinTunnels_22 (lv_at hl 4 rfl) ?_
          refine lv_iload_n hx hb dX0_joinTunnels_24 rfl (lv_at hl 1 rfl) ?_
          obtain ⟨hqA, hqB⟩ := hq
          refine lv_icmp_ne (tgt := 38) hx hb dX0_joinTunnels_25 (by decide) (fun c2 => ?_) (fun c2 => ?_)
          · have hq := hqB c2
            refine lv_iload hx hb dX0_joinTunnels_38 (lv_at hl 4 rfl) ?_
            refine lv_iload_n hx hb dX0_joinTunnels_40 rfl (lv_at hl 2 rfl) ?_
            obtain ⟨hqA, hqB⟩ := hq
            refine lv_icmp_eq (tgt := 76) hx hb dX0_joinTunnels_41 (by decide) (fun c1 => ?_) (fun c1 => ?_)
            · have hq := hqA c1
              refine lv_iinc (v := (y10_4 + 1)) (lv' := [(4, .int (y10_4 + 1)), (0, .ref (a 0)), (1, .int x1), (2, .int x2), (3, .int x3)]) hx hb dX0_joinTunnels_76 hl (k := 4) rfl rfl (by decide) rfl (fun ls hl => ?_)
              refine lv_goto (tgt := 10) hx hb dX0_joinTunnels_79 (by decide) ?_
              exact bk10 (y10_4 + 1) z10_u_cells z10_u_ends z10_u_size z10_u_used _ _ _ hq hP hD hS (lv_sub hl [1, 2, 3, 4, 0] rfl)
            · have hq := hqB c1
              refine lv_aload_n hx hb dX0_joinTunnels_44 rfl (lv_at hl 0 rfl) ?_
              refine va_get (D := (dC, dI)) (ci := 0) (v := .ref (b 0)) (C := RX0) (T := TX0) (N := 14) hx hb hts iK0 hown hK hP 0 rfl rfl 5 (by decide) lk2 (fun _ h9 => h9) rfl dX0_joinTunnels_45 ?_
              refine lv_aload_n hx hb dX0_joinTunnels_48 rfl (lv_at hl 0 rfl) ?_
              refine va_get (D := (dC, dI)) (ci := 0) (v := .ref (a 5)) (C := RX0) (T := TX0) (N := 14) hx hb hts iK0 hown hK hP 0 rfl rfl 4 (by decide) lk0 (fun _ h9 => h9) rfl dX0_joinTunnels_49 ?_
              refine va_get (D := (dC, dI)) (ci := 3) (v := .ref (a 6)) (C := RX3) (T := TX3) (N := 4) hx hb hts iK3 hown hK hP 5 rfl rfl 0 (by decide) lk3 (fun _ h9 => h9) rfl dX0_joinTunnels_52 ?_
              refine lv_aload_n hx hb dX0_joinTunnels_55 rfl (lv_at hl 0 rfl) ?_
              refine va_get (D := (dC, dI)) (ci := 0) (v := .ref (a 5)) (C := RX0) (T := TX0) (N := 14) hx hb hts iK0 hown hK hP 0 rfl rfl 4 (by decide) lk0 (fun _ h9 => h9) rfl dX0_joinTunnels_56 ?_
              refine lv_iload hx hb dX0_joinTunnels_59 (lv_at hl 4 rfl) ?_
              have hC : (([5, 6, 7] : List Nat).map (fun i => (wX0 cy a b v ++ cX3 cy b z10_u_cells z10_u_ends z10_u_used z10_u_size)[i]?)) = (wX3 cy (sh a 5) (X0_tunnels v)).map some := rfl
              have hPc := xsubP hP hC
              have hDc := xsubD hD (by decide) hC
              have hFc := va_free (wc := (wX3 cy (sh a 5) (X0_tunnels v))) hD hS hAe0 [5, 6, 7] hC
              refine va_calli (va_runV (As := [.int y10_4]) (rest := [.ref (a 6), .ref (b 0)]) ⟨hx, hb, hml, hown, hts⟩ (c_X3_from l dC dI cy (sh a 5) _ (X0_tunnels v) y10_4 _ hq) (cwV 1 hts gX0_joinTunnels_X3_from rfl rfl rfl (by decide +kernel) ⟨Nat.le_of_ble_eq_true rfl, Nat.le_of_ble_eq_true rfl⟩) ⟨xPre_blind, va_recv hK hP (ci := 3) (q0 := 5) rfl rfl, xPre_of hPc hK hDc⟩ rfl rfl hl.1 rfl (lv_room (Nat.le_of_ble_eq_true rfl)) dX0_joinTunnels_61 ⟨Nat.le_of_ble_eq_true rfl, Nat.le_of_ble_eq_true rfl⟩) hS (fun q _ h => hFc q h) hFc (fun r61 u t H locs ht hvm hq hB hz1 hk1 hS => ?_)
              obtain ⟨hP1, -, hD1⟩ := hB
              rw [ht] at hP1
              have hP : va_P (dC, dI) vwCl (wX0 cy a b v ++ cX3 cy b z10_u_cells z10_u_ends z10_u_used z10_u_size) H := xj_keep hP hD [5, 6, 7] hC hP1 hk1
              refine lv_aload_n hx hb dX0_joinTunnels_64 rfl (lv_at hl 0 rfl) ?_
              refine va_get (D := (dC, dI)) (ci := 0) (v := .ref (a 5)) (C := RX0) (T := TX0) (N := 14) hx hb hts iK0 hown hK hP 0 rfl rfl 4 (by decide) lk0 (fun _ h9 => h9) rfl dX0_joinTunnels_65 ?_
              refine lv_iload hx hb dX0_joinTunnels_68 (lv_at hl 4 rfl) ?_
              have hC : (([5, 6, 7] : List Nat).map (fun i => (wX0 cy a b v ++ cX3 cy b z10_u_cells z10_u_ends z10_u_used z10_u_size)[i]?)) = (wX3 cy (sh a 5) (X0_tunnels v)).map some := rfl
              have hPc := xsubP hP hC
              have hDc := xsubD hD (by decide) hC
              have hFc := va_free (wc := (wX3 cy (sh a 5) (X0_tunnels v))) hD hS hAe0 [5, 6, 7] hC
              refine va_calli (va_runV (As := [.int y10_4]) (rest := [.int r61, .ref (a 6), .ref (b 0)]) ⟨hx, hb, hml, hown, hts⟩ (c_X3_to l dC dI cy (sh a 5) _ (X0_tunnels v) y10_4 _ hq) (cwV 1 hts gX0_joinTunnels_X3_to rfl rfl rfl (by decide +kernel) ⟨Nat.le_of_ble_eq_true rfl, Nat.le_of_ble_eq_true rfl⟩) ⟨xPre_blind, va_recv hK hP (ci := 3) (q0 := 5) rfl rfl, xPre_of hPc hK hDc⟩ rfl rfl hl.1 rfl (lv_room (Nat.le_of_ble_eq_true rfl)) dX0_joinTunnels_70 ⟨Nat.le_of_ble_eq_true rfl, Nat.le_of_ble_eq_true rfl⟩) hS (fun q _ h => hFc q h) hFc (fun r70 u t H locs ht hvm hq hB hz1 hk1 hS => ?_)
              obtain ⟨hP1, -, hD1⟩ := hB
              rw [ht] at hP1
              have hP : va_P (dC, dI) vwCl (wX0 cy a b v ++ cX3 cy b z10_u_cells z10_u_ends z10_u_used z10_u_size) H := xj_keep hP hD [5, 6, 7] hC hP1 hk1
              have hC : (([21, 22, 23, 6] : List Nat).map (fun i => (wX0 cy a b v ++ cX3 cy b z10_u_cells z10_u_ends z10_u_used z10_u_size)[i]?)) = (cX3 cy b z10_u_cells z10_u_ends z10_u_used z10_u_size ++ cAI cy (sh a 6) 1024 (X3_cells (X0_tunnels v))).map some := rfl
              have hPc := xsubP hP hC
              have hDc := xsubD hD (by decide) hC
              have hFc := va_free (wc := (cX3 cy b z10_u_cells z10_u_ends z10_u_used z10_u_size ++ cAI cy (sh a 6) 1024 (X3_cells (X0_tunnels v)))) hD hS hAe0 [21, 22, 23, 6] hC
              refine va_callv (va_runV (As := [.ref (a 6), .int r61, .int r70]) (rest := []) ⟨hx, hb, hml, hown, hts⟩ (c_X3_addRow l dC dI cy b (sh a 6) _ (X3_s3 (X3_s2 (X3_s1 (X3_s0 u z10_u_cells) z10_u_ends) z10_u_used) z10_u_size) 1024 (X3_cells (X0_tunnels v)) r61 r70 _ hq) (cwV 3 hts gX0_joinTunnels_X3_addRow rfl rfl rfl (by decide +kernel) ⟨Nat.le_of_ble_eq_true rfl, Nat.le_of_ble_eq_true rfl⟩) ⟨xPre_blind, va_recv hK hP (ci := 3) (q0 := 21) rfl rfl, xPre_of hPc hK hDc⟩ rfl rfl hl.1 rfl (lv_room (Nat.le_of_ble_eq_true rfl)) dX0_joinTunnels_73 ⟨Nat.le_of_ble_eq_true rfl, Nat.le_of_ble_eq_true rfl⟩) hS (fun q _ h => hFc q h) hFc (fun u t H locs ht hvm hq hB hz1 hk1 hS => ?_)
              obtain ⟨z73_v_cells, z73_v_ends, z73_v_size, z73_v_used⟩ := u
              obtain ⟨hP1, -, hD1⟩ := hB
              rw [ht] at hP1
              obtain ⟨hP, hD⟩ := xj hP hD [21, 22, 23, 6] (cX3 cy b z73_v_cells z73_v_ends z73_v_used z73_v_size ++ cAI cy (sh a 6) 1024 (X3_cells (X0_tunnels v))) (ws' := (wX0 cy a b v ++ cX3 cy b z73_v_cells z73_v_ends z73_v_used z73_v_size)) hC rfl rfl hk1 hFc hP1
              refine lv_iinc (v := (y10_4 + 1)) (lv' := [(4, .int (y10_4 + 1)), (0, .ref (a 0)), (1, .int x1), (2, .int x2), (3, .int x3)]) hx hb dX0_joinTunnels_76 hl (k := 4) rfl rfl (by decide) rfl (fun ls hl => ?_)
              refine lv_goto (tgt := 10) hx hb dX0_joinTunnels_79 (by decide) ?_
              exact bk10 (y10_4 + 1) z73_v_cells z73_v_ends z73_v_size z73_v_used _ _ _ hq hP hD hS (lv_sub hl [1, 2, 3, 4, 0] rfl)
          · have hq := hqA c2
            refine lv_aload_n hx hb dX0_joinTunnels_28 rfl (lv_at hl 0 rfl) ?_
            refine lv_iload_n hx hb dX0_joinTunnels_29 rfl (lv_at hl 1 rfl) ?_
            refine lv_iload_n hx hb dX0_joinTunnels_30 rfl (lv_at hl 2 rfl) ?_
            refine lv_iload_n hx hb dX0_joinTunnels_31 rfl (lv_at hl 3 rfl) ?_
            have hFc := xfree_same hS hAe0 (ws := (wX0 cy a b v ++ cX3 cy b z10_u_cells z10_u_ends z10_u_used z10_u_size)) hD
            refine va_callv (va_runV (As := [.int x1, .int x2, .int x3]) (rest := []) ⟨hx, hb, hml, hown, hts⟩ (c_X0_putJoined l dC dI cy a b _ v (X3_s3 (X3_s2 (X3_s1 (X3_s0 u z10_u_cells) z10_u_ends) z10_u_used) z10_u_size) x1 x2 x3 _ hq) (cwV 3 hts gX0_joinTunnels_X0_putJoined rfl rfl rfl (by decide +kernel) ⟨Nat.le_of_ble_eq_true rfl, Nat.le_of_ble_eq_true rfl⟩) ⟨xPre_blind, va_recv hK hP (ci := 0) (q0 := 0) rfl rfl, xPre_of hP hK hD⟩ rfl rfl hl.1 rfl (lv_room (Nat.le_of_ble_eq_true rfl)) dX0_joinTunnels_32 ⟨Nat.le_of_ble_eq_true rfl, Nat.le_of_ble_eq_true rfl⟩) hS (fun q _ h => hFc q h) hFc (fun u t H locs ht hvm hq hB hz1 hk1 hS => ?_)
            obtain ⟨z32_u_cells, z32_u_ends, z32_u_size, z32_u_used⟩ := u
            obtain ⟨hP1, -, hD1⟩ := hB
            rw [ht] at hP1
            have hP : va_P (dC, dI) vwCl (wX0 cy a b v ++ cX3 cy b z32_u_cells z32_u_ends z32_u_used z32_u_size) H := hP1
            have hD : va_D A (wX0 cy a b v ++ cX3 cy b z32_u_cells z32_u_ends z32_u_used z32_u_size) := hD1.weaken (fun _ q _ h => hFc q.1 h)
            refine lv_goto (tgt := 76) hx hb dX0_joinTunnels_35 (by decide) ?_
            refine lv_iinc (v := (y10_4 + 1)) (lv' := [(4, .int (y10_4 + 1)), (0, .ref (a 0)), (1, .int x1), (2, .int x2), (3, .int x3)]) hx hb dX0_joinTunnels_76 hl (k := 4) rfl rfl (by decide) rfl (fun ls hl => ?_)
            refine lv_goto (tgt := 10) hx hb dX0_joinTunnels_79 (by decide) ?_
            exact bk10 (y10_4 + 1) z32_u_cells z32_u_ends z32_u_size z32_u_used _ _ _ hq hP hD hS (lv_sub hl [1, 2, 3, 4, 0] rfl)
    exact key _ y10_4 z10_u_cells z10_u_ends z10_u_size z10_u_used H locs ls h0 (Nat.lt_succ_self _) hP hD hS hl
  refine lv_aload_n hx hb dX0_joinTunnels_0 rfl (lv_at hl 0 rfl) ?_
  refine va_get (D := (dC, dI)) (ci := 0) (v := .ref (b 0)) (C := RX0) (T := TX0) (N := 14) hx hb hts iK0 hown hK hP 0 rfl rfl 5 (by decide) lk2 (fun _ h9 => h9) rfl dX0_joinTunnels_1 ?_
  have hC : (([21, 22, 23] : List Nat).map (fun i => (wX0 cy a b v ++ wX3 cy b u)[i]?)) = (wX3 cy b u).map some := rfl
  have hPc := xsubP hP hC
  have hDc := xsubD hD (by decide) hC
  have hFc := va_free (wc := (wX3 cy b u)) hD hS hAe0 [21, 22, 23] hC
  refine va_callv (va_runV (As := []) (rest := []) ⟨hx, hb, hml, hown, hts⟩ (c_X3_empty l dC dI cy b _ u _ hq) (cwV 0 hts gX0_joinTunnels_X3_empty rfl rfl rfl (by decide +kernel) ⟨Nat.le_of_ble_eq_true rfl, Nat.le_of_ble_eq_true rfl⟩) ⟨xPre_blind, va_recv hK hP (ci := 3) (q0 := 21) rfl rfl, xPre_of hPc hK hDc⟩ rfl rfl hl.1 rfl (lv_room (Nat.le_of_ble_eq_true rfl)) dX0_joinTunnels_4 ⟨Nat.le_of_ble_eq_true rfl, Nat.le_of_ble_eq_true rfl⟩) hS (fun q _ h => hFc q h) hFc (fun u t H locs ht hvm hq hB hz1 hk1 hS => ?_)
  obtain ⟨z4_v_size, z4_v_used⟩ := u
  obtain ⟨hP1, -, hD1⟩ := hB
  rw [ht] at hP1
  obtain ⟨hP, hD⟩ := xj hP hD [21, 22, 23] (cX3 cy b (X3_cells u) (X3_ends u) z4_v_used z4_v_size) (ws' := (wX0 cy a b v ++ cX3 cy b (X3_cells u) (X3_ends u) z4_v_used z4_v_size)) hC rfl rfl hk1 hFc hP1
  refine lv_iconst (v := 0) hx hb dX0_joinTunnels_7 (by decide) ?_
  refine lv_istore (lv' := [(4, .int 0), (0, .ref (a 0)), (1, .int x1), (2, .int x2), (3, .int x3)]) hx hb dX0_joinTunnels_8 hl (by decide) rfl (fun ls hl => ?_)
  exact J10  0 (X3_cells u) (X3_ends u) z4_v_size z4_v_used _ _ _ hq hP hD hS (lv_sub hl [1, 2, 3, 4, 0] rfl)
def wp_X0_rakeOff_114 (v : V_X0) (u : V_X3) (x1 : Int32) (y114_2 : Int32) (z114_u_cells : (Nat → Int32)) (z114_u_ends : (Nat → Int32)) (z114_u_size : Int32) (z114_u_used : Int32) (z114_v_mounds : (Nat → Int32)) (z114_v_tunnels : V_X3) (Q : Int32 → (Nat → Int32) → (Nat → Int32) → Int32 → Int32 → Int32 → (Nat → Int32) → V_X3 → Prop) : Prop :=
  wp_X0_dropTunnels (X0_s4 (X0_s0 v z114_v_mounds) z114_v_tunnels) (X3_s3 (X3_s2 (X3_s1 (X3_s0 u z114_u_cells) z114_u_ends) z114_u_used) z114_u_size) x1 (fun z116_u_cells z116_u_ends z116_u_size z116_u_used z116_v_fallen z116_v_tunnels =>
  Q (y114_2 - (X3_size z116_v_tunnels)) z116_u_cells z116_u_ends z116_u_size z116_u_used z116_v_fallen z114_v_mounds z116_v_tunnels)
def wp_X0_rakeOff_74 (v : V_X0) (u : V_X3) (x1 : Int32) (y74_2 : Int32) (y74_3 : Int32) (y74_4 : Int32) (z74_v_mounds : (Nat → Int32)) (k74_0 : Int32) (Q : Int32 → (Nat → Int32) → (Nat → Int32) → Int32 → Int32 → Int32 → (Nat → Int32) → V_X3 → Prop) : Prop :=
  ((k74_0 = 0 → wp_X0_rakeOff_114 v u x1 y74_2 (X3_cells u) (X3_ends u) (X3_size u) (X3_used u) z74_v_mounds (X0_tunnels v)  Q) ∧
  (¬ k74_0 = 0 → wp_X3_otherEnd (X0_tunnels v) y74_3 x1 (fun r87 =>
  wp_X3_otherEnd (X0_tunnels v) y74_4 x1 (fun r97 =>
  ((r87 = r97 → wp_X0_rakeOff_114 v u x1 y74_2 (X3_cells u) (X3_ends u) (X3_size u) (X3_used u) z74_v_mounds (X0_tunnels v)  Q) ∧
  (¬ r87 = r97 → wp_X0_joinTunnels (X0_s0 v z74_v_mounds) u y74_3 y74_4 x1 (fun z108_u_cells z108_u_ends z108_u_size z108_u_used z108_v_tunnels =>
  Q (y74_2 - (X3_size z108_v_tunnels)) z108_u_cells z108_u_ends z108_u_size z108_u_used (X0_fallen v) z74_v_mounds z108_v_tunnels)))))))
def wp_X0_rakeOff_73 (v : V_X0) (u : V_X3) (x1 : Int32) (y73_2 : Int32) (y73_3 : Int32) (y73_4 : Int32) (z73_v_mounds : (Nat → Int32)) (Q : Int32 → (Nat → Int32) → (Nat → Int32) → Int32 → Int32 → Int32 → (Nat → Int32) → V_X3 → Prop) : Prop :=
  wp_X0_rakeOff_74 v u x1 y73_2 y73_3 y73_4 z73_v_mounds 0  Q
def wp_X0_rakeOff_45 (v : V_X0) (u : V_X3) (x1 : Int32) (y45_2 : Int32) (y45_3 : Int32) (z45_v_mounds : (Nat → Int32)) (k45_0 : Int32) (Q : Int32 → (Nat → Int32) → (Nat → Int32) → Int32 → Int32 → Int32 → (Nat → Int32) → V_X3 → Prop) : Prop :=
  ((k45_0 = (-1) → wp_X0_rakeOff_73 v u x1 y45_2 y45_3 k45_0 z45_v_mounds  Q) ∧
  (¬ k45_0 = (-1) → wp_X3_endingAt (X0_tunnels v) x1 (k45_0 + 1) (fun r62 =>
  ((r62 = (-1) → wp_X0_rakeOff_74 v u x1 y45_2 y45_3 k45_0 z45_v_mounds 1  Q) ∧
  (¬ r62 = (-1) → wp_X0_rakeOff_73 v u x1 y45_2 y45_3 k45_0 z45_v_mounds  Q)))))
def wp_X0_rakeOff (v : V_X0) (u : V_X3) (x1 : Int32) (Q : Int32 → (Nat → Int32) → (Nat → Int32) → Int32 → Int32 → Int32 → (Nat → Int32) → V_X3 → Prop) : Prop :=
  vp_in x1 64 ∧ wp_X3_endingAt (X0_tunnels v) x1 0 (fun r21 =>
  ((r21 = (-1) → wp_X0_rakeOff_45 v u x1 (X3_size (X0_tunnels v)) r21 (upd (X0_mounds v) x1.toNatClampNeg 0) (-1)  Q) ∧
  (¬ r21 = (-1) → wp_X3_endingAt (X0_tunnels v) x1 (r21 + 1) (fun r42 =>
  wp_X0_rakeOff_45 v u x1 (X3_size (X0_tunnels v)) r21 (upd (X0_mounds v) x1.toNatClampNeg 0) r42  Q))))
def q_X0_rakeOff (dC : Nat → ClassId) (dI : Nat → Nat → Nat) (cy : Nat → ClassId) (a b : Nat → Nat) (v : V_X0) (u : V_X3) (x1 : Int32) (Q : Int32 → (Nat → Int32) → (Nat → Int32) → Int32 → Int32 → Int32 → (Nat → Int32) → V_X3 → Prop) (A : Nat → Prop) : Array Value → State → Outcome → State → Prop := va_Qi (fun (r : Int32) (u : (Nat → Int32) × (Nat → Int32) × Int32 × Int32 × Int32 × (Nat → Int32) × V_X3) => Q r u.1 u.2.1 u.2.2.1 u.2.2.2.1 u.2.2.2.2.1 u.2.2.2.2.2.1 u.2.2.2.2.2.2) (fun (u : (Nat → Int32) × (Nat → Int32) × Int32 × Int32 × Int32 × (Nat → Int32) × V_X3) t => xAt dC dI cy A (cX0 cy a b u.2.2.2.2.2.1 (X0_opened v) (X0_roots v) (X0_traps v) u.2.2.2.2.2.2 (X0_molesR v) (X0_moles v) (X0_moleCount v) (X0_fullAir v) (X0_beats v) (X0_caught v) (X0_gnawed v) (X0_risen v) u.2.2.2.2.1 ++ cX3 cy b u.1 u.2.1 u.2.2.2.1 u.2.2.1) t) A
set_option maxHeartbeats 4000000 in
set_option maxRecDepth 100000 in
theorem c_X0_rakeOff (l : Launch) (dC : Nat → ClassId) (dI : Nat → Nat → Nat) (cy : Nat → ClassId) (a b : Nat → Nat) (sz : Nat) (v : V_X0) (u : V_X3) (x1 : Int32) (Q : Int32 → (Nat → Int32) → (Nat → Int32) → Int32 → Int32 → Int32 → (Nat → Int32) → V_X3 → Prop) (hq : wp_X0_rakeOff v u x1 Q) : Met l yX0_rakeOff wsX0_rakeOff ({ frames := 6, cells := 0, slots := 0, locals := 136 } : Room) (va_Pc [.ref (a 0), .int x1] (xPre dC dI cy (wX0 cy a b v ++ wX3 cy b u) sz)) (q_X0_rakeOff dC dI cy a b v u x1 Q (va_A (wX0 cy a b v ++ wX3 cy b u) sz)) 0 0 (va_A (wX0 cy a b v ++ wX3 cy b u) sz) := by
  refine Met.ofW (cc := cX0_rakeOff) (maxL := 6) (ret := (some .int)) (by decide) rfl ?_
  intro p e s m args below meth c s₁ B hml hv
  obtain ⟨rfl, hsz, hP, hK, hD0⟩ := hv
  have hx := B.exec
  have hb := B.bytes
  have hr := B.returns
  have hts := atoms_spec (ws := wsX0_rakeOff) B.pre
  have hown : s.vm.findClass RX0 = some m.cls := findClass_of_methodNamed B.named
  have hlocks := B.notSynchronized
  subst hsz
  have hD := hD0.self (sz := s.heap.size)
  generalize hAe : va_A (wX0 cy a b v ++ wX3 cy b u) s.heap.size = A at hD ⊢
  have hAe0 : ∀ q : Nat, s.heap.size ≤ q → A q := fun q h => by rw [← hAe]; exact Or.inr h
  have hS : va_S A s.heap s.heap [] := va_S.rf
  have hl := lv_entry ([.ref (a 0), .int x1]) (n := 6) (Nat.le_of_ble_eq_true rfl)
  rw [lg_entry_eq]
  generalize (lg_sl ([.ref (a 0), .int x1]) ++ List.replicate (6 - (lg_sl ([.ref (a 0), .int x1])).length) Slot.unset).toArray = ls at hl ⊢
  have hl : lv_has ls 6 [(0, .ref (a 0)), (1, .int x1)] := hl
  have lk0 := hts (Cond.fieldLink RX0 28 "MolesLawn$Lawn" "tunnels" "LMolesLawn$Rows;") (List.mem_cons_of_mem _ (List.mem_append_left _ (List.mem_append_left _ (List.mem_append_left _ (List.mem_of_getElem? (i := 0) rfl)))))
  have lk1 := hts (Cond.fieldLink RX0 123 "MolesLawn$Rows" "size" "I") (List.mem_cons_of_mem _ (List.mem_append_left _ (List.mem_append_left _ (List.mem_append_left _ (List.mem_of_getElem? (i := 1) rfl)))))
  have lk2 := hts (Cond.fieldLink RX0 9 "MolesLawn$Lawn" "mounds" "[Z") (List.mem_cons_of_mem _ (List.mem_append_left _ (List.mem_append_left _ (List.mem_append_left _ (List.mem_of_getElem? (i := 2) rfl)))))
  have iK0 : ∀ w ∈ wsX00, w ∈ wsX0_rakeOff := fun _ h => (List.mem_cons_of_mem _ (List.mem_append_left _ (List.mem_append_right _ h)))
  have iK3 : ∀ w ∈ wsX30, w ∈ wsX0_rakeOff := fun _ h => (List.mem_cons_of_mem _ (List.mem_append_right _ h))
  unfold wp_X0_rakeOff at hq
  have J114 : ∀ (y114_2 : Int32) (z114_u_cells : (Nat → Int32)) (z114_u_ends : (Nat → Int32)) (z114_u_size : Int32) (z114_u_used : Int32) (z114_v_mounds : (Nat → Int32)) (z114_v_tunnels : V_X3) (H : Heap) (locs : List Loc) (ls : Array Slot), wp_X0_rakeOff_114 v u x1 y114_2 z114_u_cells z114_u_ends z114_u_size z114_u_used z114_v_mounds z114_v_tunnels Q → va_P (dC, dI) vwCl (cX0 cy a b z114_v_mounds (X0_opened v) (X0_roots v) (X0_traps v) z114_v_tunnels (X0_molesR v) (X0_moles v) (X0_moleCount v) (X0_fullAir v) (X0_beats v) (X0_caught v) (X0_gnawed v) (X0_risen v) (X0_fallen v) ++ cX3 cy b z114_u_cells z114_u_ends z114_u_used z114_u_size) H → va_D A (cX0 cy a b z114_v_mounds (X0_opened v) (X0_roots v) (X0_traps v) z114_v_tunnels (X0_molesR v) (X0_moles v) (X0_moleCount v) (X0_fullAir v) (X0_beats v) (X0_caught v) (X0_gnawed v) (X0_risen v) (X0_fallen v) ++ cX3 cy b z114_u_cells z114_u_ends z114_u_used z114_u_size) → va_S A s.heap H locs → lv_has ls 6 [(0, .ref (a 0)), (1, .int x1), (2, .int y114_2)] → W p l e (headSpec wsX0_rakeOff ({ frames := 6, cells := 0, slots := 0, locals := 136 } : Room)).room s m ([.ref (a 0), .int x1] : List Value).toArray below meth c H locs 0 0 (MQ below (q_X0_rakeOff dC dI cy a b v u x1 Q A) ([.ref (a 0), .int x1] : List Value).toArray s 0 0 A) (F0 m 114 ls []) := by
    intro y114_2 z114_u_cells z114_u_ends z114_u_size z114_u_used z114_v_mounds z114_v_tunnels H locs ls hq hP hD hS hl
    unfold wp_X0_rakeOff_114 at hq
    refine lv_aload_n hx hb dX0_rakeOff_114 rfl (lv_at hl 0 rfl) ?_
    refine lv_iload_n hx hb dX0_rakeOff_115 rfl (lv_at hl 1 rfl) ?_
    have hFc := xfree_same hS hAe0 (ws := (cX0 cy a b z114_v_mounds (X0_opened v) (X0_roots v) (X0_traps v) z114_v_tunnels (X0_molesR v) (X0_moles v) (X0_moleCount v) (X0_fullAir v) (X0_beats v) (X0_caught v) (X0_gnawed v) (X0_risen v) (X0_fallen v) ++ cX3 cy b z114_u_cells z114_u_ends z114_u_used z114_u_size)) hD
    refine va_callv (va_runV (As := [.int x1]) (rest := []) ⟨hx, hb, hml, hown, hts⟩ (c_X0_dropTunnels l dC dI cy a b _ (X0_s4 (X0_s0 v z114_v_mounds) z114_v_tunnels) (X3_s3 (X3_s2 (X3_s1 (X3_s0 u z114_u_cells) z114_u_ends) z114_u_used) z114_u_size) x1 _ hq) (cwV 1 hts gX0_rakeOff_X0_dropTunnels rfl rfl rfl (by decide +kernel) ⟨Nat.le_of_ble_eq_true rfl, Nat.le_of_ble_eq_true rfl⟩) ⟨xPre_blind, va_recv hK hP (ci := 0) (q0 := 0) rfl rfl, xPre_of hP hK hD⟩ rfl rfl hl.1 rfl (lv_room (Nat.le_of_ble_eq_true rfl)) dX0_rakeOff_116 ⟨Nat.le_of_ble_eq_true rfl, Nat.le_of_ble_eq_true rfl⟩) hS (fun q _ h => hFc q h) hFc (fun u t H locs ht hvm hq hB hz1 hk1 hS => ?_)
    obtain ⟨z116_u_cells, z116_u_ends, z116_u_size, z116_u_used, z116_v_fallen, z116_v_tunnels⟩ := u
    obtain ⟨hP1, -, hD1⟩ := hB
    rw [ht] at hP1
    have hP : va_P (dC, dI) vwCl (cX0 cy a b z114_v_mounds (X0_opened v) (X0_roots v) (X0_traps v) z116_v_tunnels (X0_molesR v) (X0_moles v) (X0_moleCount v) (X0_fullAir v) (X0_beats v) (X0_caught v) (X0_gnawed v) (X0_risen v) z116_v_fallen ++ cX3 cy b z116_u_cells z116_u_ends z116_u_used z116_u_size) H := hP1
    have hD : va_D A (cX0 cy a b z114_v_mounds (X0_opened v) (X0_roots v) (X0_traps v) z116_v_tunnels (X0_molesR v) (X0_moles v) (X0_moleCount v) (X0_fullAir v) (X0_beats v) (X0_caught v) (X0_gnawed v) (X0_risen v) z116_v_fallen ++ cX3 cy b z116_u_cells z116_u_ends z116_u_used z116_u_size) := hD1.weaken (fun _ q _ h => hFc q.1 h)
    refine lv_iload_n hx hb dX0_rakeOff_119 rfl (lv_at hl 2 rfl) ?_
    refine lv_aload_n hx hb dX0_rakeOff_120 rfl (lv_at hl 0 rfl) ?_
    refine va_get (D := (dC, dI)) (ci := 0) (v := .ref (a 5)) (C := RX0) (T := TX0) (N := 14) hx hb hts iK0 hown hK hP 0 rfl rfl 4 (by decide) lk0 (fun _ h9 => h9) rfl dX0_rakeOff_121 ?_
    refine va_get (D := (dC, dI)) (ci := 3) (v := .int (X3_size z116_v_tunnels)) (C := RX3) (T := TX3) (N := 4) hx hb hts iK3 hown hK hP 5 rfl rfl 3 (by decide) lk1 (fun _ h9 => h9) rfl dX0_rakeOff_124 ?_
    refine lv_isub hx hb dX0_rakeOff_127 ?_
    exact W.iret (v := (y114_2 - (X3_size z116_v_tunnels))) hx hb hr (fun t ht hW => ⟨⟨(y114_2 - (X3_size z116_v_tunnels)), (z116_u_cells, z116_u_ends, z116_u_size, z116_u_used, z116_v_fallen, z114_v_mounds, z116_v_tunnels), rfl, hq, (xAt_of hP hK hD ht hW)⟩, hS.F ht⟩) hS.2.2 dX0_rakeOff_128
  have J74 : ∀ (y74_2 : Int32) (y74_3 : Int32) (y74_4 : Int32) (z74_v_mounds : (Nat → Int32)) (k74_0 : Int32) (H : Heap) (locs : List Loc) (ls : Array Slot), wp_X0_rakeOff_74 v u x1 y74_2 y74_3 y74_4 z74_v_mounds k74_0 Q → va_P (dC, dI) vwCl (cX0 cy a b z74_v_mounds (X0_opened v) (X0_roots v) (X0_traps v) (X0_tunnels v) (X0_molesR v) (X0_moles v) (X0_moleCount v) (X0_fullAir v) (X0_beats v) (X0_caught v) (X0_gnawed v) (X0_risen v) (X0_fallen v) ++ wX3 cy b u) H → va_D A (cX0 cy a b z74_v_mounds (X0_opened v) (X0_roots v) (X0_traps v) (X0_tunnels v) (X0_molesR v) (X0_moles v) (X0_moleCount v) (X0_fullAir v) (X0_beats v) (X0_caught v) (X0_gnawed v) (X0_risen v) (X0_fallen v) ++ wX3 cy b u) → va_S A s.heap H locs → lv_has ls 6 [(0, .ref (a 0)), (1, .int x1), (2, .int y74_2), (3, .int y74_3), (4, .int y74_4)] → W p l e (headSpec wsX0_rakeOff ({ frames := 6, cells := 0, slots := 0, locals := 136 } : Room)).room s m ([.ref (a 0), .int x1] : List Value).toArray below meth c H locs 0 0 (MQ below (q_X0_rakeOff dC dI cy a b v u x1 Q A) ([.ref (a 0), .int x1] : List Value).toArray s 0 0 A) (F0 m 74 ls [.int k74_0]) := by
    intro y74_2 y74_3 y74_4 z74_v_mounds k74_0 H locs ls hq hP hD hS hl
    unfold wp_X0_rakeOff_74 at hq
    refine lv_istore (lv' := [(5, .int k74_0), (0, .ref (a 0)), (1, .int x1), (2, .int y74_2), (3, .int y74_3), (4, .int y74_4)]) hx hb dX0_rakeOff_74 hl (by decide) rfl (fun ls hl => ?_)
    refine lv_iload hx hb dX0_rakeOff_76 (lv_at hl 0 rfl) ?_
    obtain ⟨hqA, hqB⟩ := hq
    refine lv_if_eq (tgt := 114) hx hb dX0_rakeOff_78 (by decide) (fun c2 => ?_) (fun c2 => ?_)
    · have hq := hqA c2
      exact J114 y74_2 (X3_cells u) (X3_ends u) (X3_size u) (X3_used u) z74_v_mounds (X0_tunnels v)  _ _ _ hq hP hD hS (lv_sub hl [1, 2, 3] rfl)
    · have hq := hqB c2
      refine lv_aload_n hx hb dX0_rakeOff_81 rfl (lv_at hl 1 rfl) ?_
      refine va_get (D := (dC, dI)) (ci := 0) (v := .ref (a 5)) (C := RX0) (T := TX0) (N := 14) hx hb hts iK0 hown hK hP 0 rfl rfl 4 (by decide) lk0 (fun _ h9 => h9) rfl dX0_rakeOff_82 ?_
      refine lv_iload_n hx hb dX0_rakeOff_85 rfl (lv_at hl 4 rfl) ?_
      refine lv_iload_n hx hb dX0_rakeOff_86 rfl (lv_at hl 2 rfl) ?_
      have hC : (([5, 6, 7] : List Nat).map (fun i => (cX0 cy a b z74_v_mounds (X0_opened v) (X0_roots v) (X0_traps v) (X0_tunnels v) (X0_molesR v) (X0_moles v) (X0_moleCount v) (X0_fullAir v) (X0_beats v) (X0_caught v) (X0_gnawed v) (X0_risen v) (X0_fallen v) ++ wX3 cy b u)[i]?)) = (wX3 cy (sh a 5) (X0_tunnels v)).map some := rfl
      have hPc := xsubP hP hC
      have hDc := xsubD hD (by decide) hC
      have hFc := va_free (wc := (wX3 cy (sh a 5) (X0_tunnels v))) hD hS hAe0 [5, 6, 7] hC
      refine va_calli (va_runV (As := [.int y74_3, .int x1]) (rest := []) ⟨hx, hb, hml, hown, hts⟩ (c_X3_otherEnd l dC dI cy (sh a 5) _ (X0_tunnels v) y74_3 x1 _ hq) (cwV 2 hts gX0_rakeOff_X3_otherEnd rfl rfl rfl (by decide +kernel) ⟨Nat.le_of_ble_eq_true rfl, Nat.le_of_ble_eq_true rfl⟩) ⟨xPre_blind, va_recv hK hP (ci := 3) (q0 := 5) rfl rfl, xPre_of hPc hK hDc⟩ rfl rfl hl.1 rfl (lv_room (Nat.le_of_ble_eq_true rfl)) dX0_rakeOff_87 ⟨Nat.le_of_ble_eq_true rfl, Nat.le_of_ble_eq_true rfl⟩) hS (fun q _ h => hFc q h) hFc (fun r87 u t H locs ht hvm hq hB hz1 hk1 hS => ?_)
      obtain ⟨hP1, -, hD1⟩ := hB
      rw [ht] at hP1
      have hP : va_P (dC, dI) vwCl (cX0 cy a b z74_v_mounds (X0_opened v) (X0_roots v) (X0_traps v) (X0_tunnels v) (X0_molesR v) (X0_moles v) (X0_moleCount v) (X0_fullAir v) (X0_beats v) (X0_caught v) (X0_gnawed v) (X0_risen v) (X0_fallen v) ++ wX3 cy b u) H := xj_keep hP hD [5, 6, 7] hC hP1 hk1
      refine lv_aload_n hx hb dX0_rakeOff_90 rfl (lv_at hl 1 rfl) ?_
      refine va_get (D := (dC, dI)) (ci := 0) (v := .ref (a 5)) (C := RX0) (T := TX0) (N := 14) hx hb hts iK0 hown hK hP 0 rfl rfl 4 (by decide) lk0 (fun _ h9 => h9) rfl dX0_rakeOff_91 ?_
      refine lv_iload hx hb dX0_rakeOff_94 (lv_at hl 5 rfl) ?_
      refine lv_iload_n hx hb dX0_rakeOff_96 rfl (lv_at hl 2 rfl) ?_
      have hC : (([5, 6, 7] : List Nat).map (fun i => (cX0 cy a b z74_v_mounds (X0_opened v) (X0_roots v) (X0_traps v) (X0_tunnels v) (X0_molesR v) (X0_moles v) (X0_moleCount v) (X0_fullAir v) (X0_beats v) (X0_caught v) (X0_gnawed v) (X0_risen v) (X0_fallen v) ++ wX3 cy b u)[i]?)) = (wX3 cy (sh a 5) (X0_tunnels v)).map some := rfl
      have hPc := xsubP hP hC
      have hDc := xsubD hD (by decide) hC
      have hFc := va_free (wc := (wX3 cy (sh a 5) (X0_tunnels v))) hD hS hAe0 [5, 6, 7] hC
      refine va_calli (va_runV (As := [.int y74_4, .int x1]) (rest := [.int r87]) ⟨hx, hb, hml, hown, hts⟩ (c_X3_otherEnd l dC dI cy (sh a 5) _ (X0_tunnels v) y74_4 x1 _ hq) (cwV 2 hts gX0_rakeOff_X3_otherEnd rfl rfl rfl (by decide +kernel) ⟨Nat.le_of_ble_eq_true rfl, Nat.le_of_ble_eq_true rfl⟩) ⟨xPre_blind, va_recv hK hP (ci := 3) (q0 := 5) rfl rfl, xPre_of hPc hK hDc⟩ rfl rfl hl.1 rfl (lv_room (Nat.le_of_ble_eq_true rfl)) dX0_rakeOff_97 ⟨Nat.le_of_ble_eq_true rfl, Nat.le_of_ble_eq_true rfl⟩) hS (fun q _ h => hFc q h) hFc (fun r97 u t H locs ht hvm hq hB hz1 hk1 hS => ?_)
      obtain ⟨hP1, -, hD1⟩ := hB
      rw [ht] at hP1
      have hP : va_P (dC, dI) vwCl (cX0 cy a b z74_v_mounds (X0_opened v) (X0_roots v) (X0_traps v) (X0_tunnels v) (X0_molesR v) (X0_moles v) (X0_moleCount v) (X0_fullAir v) (X0_beats v) (X0_caught v) (X0_gnawed v) (X0_risen v) (X0_fallen v) ++ wX3 cy b u) H := xj_keep hP hD [5, 6, 7] hC hP1 hk1
      obtain ⟨hqA, hqB⟩ := hq
      refine lv_icmp_eq (tgt := 114) hx hb dX0_rakeOff_100 (by decide) (fun c1 => ?_) (fun c1 => ?_)
      · have hq := hqA c1
        exact J114 y74_2 (X3_cells u) (X3_ends u) (X3_size u) (X3_used u) z74_v_mounds (X0_tunnels v)  _ _ _ hq hP hD hS (lv_sub hl [1, 2, 3] rfl)
      · have hq := hqB c1
        refine lv_aload_n hx hb dX0_rakeOff_103 rfl (lv_at hl 1 rfl) ?_
        refine lv_iload_n hx hb dX0_rakeOff_104 rfl (lv_at hl 4 rfl) ?_
        refine lv_iload hx hb dX0_rakeOff_105 (lv_at hl 5 rfl) ?_
        refine lv_iload_n hx hb dX0_rakeOff_107 rfl (lv_at hl 2 rfl) ?_
        have hFc := xfree_same hS hAe0 (ws := (cX0 cy a b z74_v_mounds (X0_opened v) (X0_roots v) (X0_traps v) (X0_tunnels v) (X0_molesR v) (X0_moles v) (X0_moleCount v) (X0_fullAir v) (X0_beats v) (X0_caught v) (X0_gnawed v) (X0_risen v) (X0_fallen v) ++ wX3 cy b u)) hD
        refine va_callv (va_runV (As := [.int y74_3, .int y74_4, .int x1]) (rest := []) ⟨hx, hb, hml, hown, hts⟩ (c_X0_joinTunnels l dC dI cy a b _ (X0_s0 v z74_v_mounds) u y74_3 y74_4 x1 _ hq) (cwV 3 hts gX0_rakeOff_X0_joinTunnels rfl rfl rfl (by decide +kernel) ⟨Nat.le_of_ble_eq_true rfl, Nat.le_of_ble_eq_true rfl⟩) ⟨xPre_blind, va_recv hK hP (ci := 0) (q0 := 0) rfl rfl, xPre_of hP hK hD⟩ rfl rfl hl.1 rfl (lv_room (Nat.le_of_ble_eq_true rfl)) dX0_rakeOff_108 ⟨Nat.le_of_ble_eq_true rfl, Nat.le_of_ble_eq_true rfl⟩) hS (fun q _ h => hFc q h) hFc (fun u t H locs ht hvm hq hB hz1 hk1 hS => ?_)
        obtain ⟨z108_u_cells, z108_u_ends, z108_u_size, z108_u_used, z108_v_tunnels⟩ := u
        obtain ⟨hP1, -, hD1⟩ := hB
        rw [ht] at hP1
        have hP : va_P (dC, dI) vwCl (cX0 cy a b z74_v_mounds (X0_opened v) (X0_roots v) (X0_traps v) z108_v_tunnels (X0_molesR v) (X0_moles v) (X0_moleCount v) (X0_fullAir v) (X0_beats v) (X0_caught v) (X0_gnawed v) (X0_risen v) (X0_fallen v) ++ cX3 cy b z108_u_cells z108_u_ends z108_u_used z108_u_size) H := hP1
        have hD : va_D A (cX0 cy a b z74_v_mounds (X0_opened v) (X0_roots v) (X0_traps v) z108_v_tunnels (X0_molesR v) (X0_moles v) (X0_moleCount v) (X0_fullAir v) (X0_beats v) (X0_caught v) (X0_gnawed v) (X0_risen v) (X0_fallen v) ++ cX3 cy b z108_u_cells z108_u_ends z108_u_used z108_u_size) := hD1.weaken (fun _ q _ h => hFc q.1 h)
        refine lv_goto (tgt := 119) hx hb dX0_rakeOff_111 (by decide) ?_
        refine lv_iload_n hx hb dX0_rakeOff_119 rfl (lv_at hl 3 rfl) ?_
        refine lv_aload_n hx hb dX0_rakeOff_120 rfl (lv_at hl 1 rfl) ?_
        refine va_get (D := (dC, dI)) (ci := 0) (v := .ref (a 5)) (C := RX0) (T := TX0) (N := 14) hx hb hts iK0 hown hK hP 0 rfl rfl 4 (by decide) lk0 (fun _ h9 => h9) rfl dX0_rakeOff_121 ?_
        refine va_get (D := (dC, dI)) (ci := 3) (v := .int (X3_size z108_v_tunnels)) (C := RX3) (T := TX3) (N := 4) hx hb hts iK3 hown hK hP 5 rfl rfl 3 (by decide) lk1 (fun _ h9 => h9) rfl dX0_rakeOff_124 ?_
        refine lv_isub hx hb dX0_rakeOff_127 ?_
        exact W.iret (v := (y74_2 - (X3_size z108_v_tunnels))) hx hb hr (fun t ht hW => ⟨⟨(y74_2 - (X3_size z108_v_tunnels)), (z108_u_cells, z108_u_ends, z108_u_size, z108_u_used, (X0_fallen v), z74_v_mounds, z108_v_tunnels), rfl, hq, (xAt_of hP hK hD ht hW)⟩, hS.F ht⟩) hS.2.2 dX0_rakeOff_128
  have J73 : ∀ (y73_2 : Int32) (y73_3 : Int32) (y73_4 : Int32) (z73_v_mounds : (Nat → Int32)) (H : Heap) (locs : List Loc) (ls : Array Slot), wp_X0_rakeOff_73 v u x1 y73_2 y73_3 y73_4 z73_v_mounds Q → va_P (dC, dI) vwCl (cX0 cy a b z73_v_mounds (X0_opened v) (X0_roots v) (X0_traps v) (X0_tunnels v) (X0_molesR v) (X0_moles v) (X0_moleCount v) (X0_fullAir v) (X0_beats v) (X0_caught v) (X0_gnawed v) (X0_risen v) (X0_fallen v) ++ wX3 cy b u) H → va_D A (cX0 cy a b z73_v_mounds (X0_opened v) (X0_roots v) (X0_traps v) (X0_tunnels v) (X0_molesR v) (X0_moles v) (X0_moleCount v) (X0_fullAir v) (X0_beats v) (X0_caught v) (X0_gnawed v) (X0_risen v) (X0_fallen v) ++ wX3 cy b u) → va_S A s.heap H locs → lv_has ls 6 [(0, .ref (a 0)), (1, .int x1), (2, .int y73_2), (3, .int y73_3), (4, .int y73_4)] → W p l e (headSpec wsX0_rakeOff ({ frames := 6, cells := 0, slots := 0, locals := 136 } : Room)).room s m ([.ref (a 0), .int x1] : List Value).toArray below meth c H locs 0 0 (MQ below (q_X0_rakeOff dC dI cy a b v u x1 Q A) ([.ref (a 0), .int x1] : List Value).toArray s 0 0 A) (F0 m 73 ls []) := by
    intro y73_2 y73_3 y73_4 z73_v_mounds H locs ls hq hP hD hS hl
    unfold wp_X0_rakeOff_73 at hq
    refine lv_iconst (v := 0) hx hb dX0_rakeOff_73 (by decide) ?_
    exact J74 y73_2 y73_3 y73_4 z73_v_mounds 0  _ _ _ hq hP hD hS (lv_sub hl [0, 1, 2, 3, 4] rfl)
  have J45 : ∀ (y45_2 : Int32) (y45_3 : Int32) (z45_v_mounds : (Nat → Int32)) (k45_0 : Int32) (H : Heap) (locs : List Loc) (ls : Array Slot), wp_X0_rakeOff_45 v u x1 y45_2 y45_3 z45_v_mounds k45_0 Q → va_P (dC, dI) vwCl (cX0 cy a b z45_v_mounds (X0_opened v) (X0_roots v) (X0_traps v) (X0_tunnels v) (X0_molesR v) (X0_moles v) (X0_moleCount v) (X0_fullAir v) (X0_beats v) (X0_caught v) (X0_gnawed v) (X0_risen v) (X0_fallen v) ++ wX3 cy b u) H → va_D A (cX0 cy a b z45_v_mounds (X0_opened v) (X0_roots v) (X0_traps v) (X0_tunnels v) (X0_molesR v) (X0_moles v) (X0_moleCount v) (X0_fullAir v) (X0_beats v) (X0_caught v) (X0_gnawed v) (X0_risen v) (X0_fallen v) ++ wX3 cy b u) → va_S A s.heap H locs → lv_has ls 6 [(0, .ref (a 0)), (1, .int x1), (2, .int y45_2), (3, .int y45_3)] → W p l e (headSpec wsX0_rakeOff ({ frames := 6, cells := 0, slots := 0, locals := 136 } : Room)).room s m ([.ref (a 0), .int x1] : List Value).toArray below meth c H locs 0 0 (MQ below (q_X0_rakeOff dC dI cy a b v u x1 Q A) ([.ref (a 0), .int x1] : List Value).toArray s 0 0 A) (F0 m 45 ls [.int k45_0]) := by
    intro y45_2 y45_3 z45_v_mounds k45_0 H locs ls hq hP hD hS hl
    unfold wp_X0_rakeOff_45 at hq
    refine lv_istore (lv' := [(4, .int k45_0), (0, .ref (a 0)), (1, .int x1), (2, .int y45_2), (3, .int y45_3)]) hx hb dX0_rakeOff_45 hl (by decide) rfl (fun ls hl => ?_)
    refine lv_iload hx hb dX0_rakeOff_47 (lv_at hl 0 rfl) ?_
    refine lv_iconst (v := (-1)) hx hb dX0_rakeOff_49 (by decide) ?_
    obtain ⟨hqA, hqB⟩ := hq
    refine lv_icmp_eq (tgt := 73) hx hb dX0_rakeOff_50 (by decide) (fun c4 => ?_) (fun c4 => ?_)
    · have hq := hqA c4
      exact J73 y45_2 y45_3 k45_0 z45_v_mounds  _ _ _ hq hP hD hS (lv_sub hl [1, 2, 3, 4, 0] rfl)
    · have hq := hqB c4
      refine lv_aload_n hx hb dX0_rakeOff_53 rfl (lv_at hl 1 rfl) ?_
      refine va_get (D := (dC, dI)) (ci := 0) (v := .ref (a 5)) (C := RX0) (T := TX0) (N := 14) hx hb hts iK0 hown hK hP 0 rfl rfl 4 (by decide) lk0 (fun _ h9 => h9) rfl dX0_rakeOff_54 ?_
      refine lv_iload_n hx hb dX0_rakeOff_57 rfl (lv_at hl 2 rfl) ?_
      refine lv_iload hx hb dX0_rakeOff_58 (lv_at hl 0 rfl) ?_
      refine lv_iconst (v := 1) hx hb dX0_rakeOff_60 (by decide) ?_
      refine lv_iadd hx hb dX0_rakeOff_61 ?_
      have hC : (([5, 6, 7] : List Nat).map (fun i => (cX0 cy a b z45_v_mounds (X0_opened v) (X0_roots v) (X0_traps v) (X0_tunnels v) (X0_molesR v) (X0_moles v) (X0_moleCount v) (X0_fullAir v) (X0_beats v) (X0_caught v) (X0_gnawed v) (X0_risen v) (X0_fallen v) ++ wX3 cy b u)[i]?)) = (wX3 cy (sh a 5) (X0_tunnels v)).map some := rfl
      have hPc := xsubP hP hC
      have hDc := xsubD hD (by decide) hC
      have hFc := va_free (wc := (wX3 cy (sh a 5) (X0_tunnels v))) hD hS hAe0 [5, 6, 7] hC
      refine va_calli (va_runV (As := [.int x1, .int (k45_0 + 1)]) (rest := []) ⟨hx, hb, hml, hown, hts⟩ (c_X3_endingAt l dC dI cy (sh a 5) _ (X0_tunnels v) x1 (k45_0 + 1) _ hq) (cwV 2 hts gX0_rakeOff_X3_endingAt rfl rfl rfl (by decide +kernel) ⟨Nat.le_of_ble_eq_true rfl, Nat.le_of_ble_eq_true rfl⟩) ⟨xPre_blind, va_recv hK hP (ci := 3) (q0 := 5) rfl rfl, xPre_of hPc hK hDc⟩ rfl rfl hl.1 rfl (lv_room (Nat.le_of_ble_eq_true rfl)) dX0_rakeOff_62 ⟨Nat.le_of_ble_eq_true rfl, Nat.le_of_ble_eq_true rfl⟩) hS (fun q _ h => hFc q h) hFc (fun r62 u t H locs ht hvm hq hB hz1 hk1 hS => ?_)
      obtain ⟨hP1, -, hD1⟩ := hB
      rw [ht] at hP1
      have hP : va_P (dC, dI) vwCl (cX0 cy a b z45_v_mounds (X0_opened v) (X0_roots v) (X0_traps v) (X0_tunnels v) (X0_molesR v) (X0_moles v) (X0_moleCount v) (X0_fullAir v) (X0_beats v) (X0_caught v) (X0_gnawed v) (X0_risen v) (X0_fallen v) ++ wX3 cy b u) H := xj_keep hP hD [5, 6, 7] hC hP1 hk1
      refine lv_iconst (v := (-1)) hx hb dX0_rakeOff_65 (by decide) ?_
      obtain ⟨hqA, hqB⟩ := hq
      refine lv_icmp_ne (tgt := 73) hx hb dX0_rakeOff_66 (by decide) (fun c3 => ?_) (fun c3 => ?_)
      · have hq := hqB c3
        exact J73 y45_2 y45_3 k45_0 z45_v_mounds  _ _ _ hq hP hD hS (lv_sub hl [1, 2, 3, 4, 0] rfl)
      · have hq := hqA c3
        refine lv_iconst (v := 1) hx hb dX0_rakeOff_69 (by decide) ?_
        refine lv_goto (tgt := 74) hx hb dX0_rakeOff_70 (by decide) ?_
        exact J74 y45_2 y45_3 k45_0 z45_v_mounds 1  _ _ _ hq hP hD hS (lv_sub hl [1, 2, 3, 4, 0] rfl)
  refine lv_aload_n hx hb dX0_rakeOff_0 rfl (lv_at hl 0 rfl) ?_
  refine va_get (D := (dC, dI)) (ci := 0) (v := .ref (a 5)) (C := RX0) (T := TX0) (N := 14) hx hb hts iK0 hown hK hP 0 rfl rfl 4 (by decide) lk0 (fun _ h9 => h9) rfl dX0_rakeOff_1 ?_
  refine va_get (D := (dC, dI)) (ci := 3) (v := .int (X3_size (X0_tunnels v))) (C := RX3) (T := TX3) (N := 4) hx hb hts iK3 hown hK hP 5 rfl rfl 3 (by decide) lk1 (fun _ h9 => h9) rfl dX0_rakeOff_4 ?_
  refine lv_istore_n (lv' := [(2, .int (X3_size (X0_tunnels v))), (0, .ref (a 0)), (1, .int x1)]) hx hb dX0_rakeOff_7 rfl hl (by decide) rfl (fun ls hl => ?_)
  refine lv_aload_n hx hb dX0_rakeOff_8 rfl (lv_at hl 1 rfl) ?_
  refine va_get (D := (dC, dI)) (ci := 0) (v := .ref (a 1)) (C := RX0) (T := TX0) (N := 14) hx hb hts iK0 hown hK hP 0 rfl rfl 0 (by decide) lk2 (fun _ h9 => h9) rfl dX0_rakeOff_9 ?_
  refine lv_iload_n hx hb dX0_rakeOff_12 rfl (lv_at hl 2 rfl) ?_
  refine lv_iconst (v := 0) hx hb dX0_rakeOff_13 (by decide) ?_
  obtain ⟨g5, hq⟩ := hq
  refine va_zast hx hb hK hP hD hS 1 1 rfl rfl g5 dX0_rakeOff_14 (fun H locs hP hD hS => ?_)
  rw [xnar0] at hP hD
  have hP : va_P (dC, dI) vwCl (cX0 cy a b (upd (X0_mounds v) x1.toNatClampNeg 0) (X0_opened v) (X0_roots v) (X0_traps v) (X0_tunnels v) (X0_molesR v) (X0_moles v) (X0_moleCount v) (X0_fullAir v) (X0_beats v) (X0_caught v) (X0_gnawed v) (X0_risen v) (X0_fallen v) ++ wX3 cy b u) H := hP
  have hD : va_D A (cX0 cy a b (upd (X0_mounds v) x1.toNatClampNeg 0) (X0_opened v) (X0_roots v) (X0_traps v) (X0_tunnels v) (X0_molesR v) (X0_moles v) (X0_moleCount v) (X0_fullAir v) (X0_beats v) (X0_caught v) (X0_gnawed v) (X0_risen v) (X0_fallen v) ++ wX3 cy b u) := hD
  refine lv_aload_n hx hb dX0_rakeOff_15 rfl (lv_at hl 1 rfl) ?_
  refine va_get (D := (dC, dI)) (ci := 0) (v := .ref (a 5)) (C := RX0) (T := TX0) (N := 14) hx hb hts iK0 hown hK hP 0 rfl rfl 4 (by decide) lk0 (fun _ h9 => h9) rfl dX0_rakeOff_16 ?_
  refine lv_iload_n hx hb dX0_rakeOff_19 rfl (lv_at hl 2 rfl) ?_
  refine lv_iconst (v := 0) hx hb dX0_rakeOff_20 (by decide) ?_
  have hC : (([5, 6, 7] : List Nat).map (fun i => (cX0 cy a b (upd (X0_mounds v) x1.toNatClampNeg 0) (X0_opened v) (X0_roots v) (X0_traps v) (X0_tunnels v) (X0_molesR v) (X0_moles v) (X0_moleCount v) (X0_fullAir v) (X0_beats v) (X0_caught v) (X0_gnawed v) (X0_risen v) (X0_fallen v) ++ wX3 cy b u)[i]?)) = (wX3 cy (sh a 5) (X0_tunnels v)).map some := rfl
  have hPc := xsubP hP hC
  have hDc := xsubD hD (by decide) hC
  have hFc := va_free (wc := (wX3 cy (sh a 5) (X0_tunnels v))) hD hS hAe0 [5, 6, 7] hC
  refine va_calli (va_runV (As := [.int x1, .int 0]) (rest := []) ⟨hx, hb, hml, hown, hts⟩ (c_X3_endingAt l dC dI cy (sh a 5) _ (X0_tunnels v) x1 0 _ hq) (cwV 2 hts gX0_rakeOff_X3_endingAt rfl rfl rfl (by decide +kernel) ⟨Nat.le_of_ble_eq_true rfl, Nat.le_of_ble_eq_true rfl⟩) ⟨xPre_blind, va_recv hK hP (ci := 3) (q0 := 5) rfl rfl, xPre_of hPc hK hDc⟩ rfl rfl hl.1 rfl (lv_room (Nat.le_of_ble_eq_true rfl)) dX0_rakeOff_21 ⟨Nat.le_of_ble_eq_true rfl, Nat.le_of_ble_eq_true rfl⟩) hS (fun q _ h => hFc q h) hFc (fun r21 u t H locs ht hvm hq hB hz1 hk1 hS => ?_)
  obtain ⟨hP1, -, hD1⟩ := hB
  rw [ht] at hP1
  have hP : va_P (dC, dI) vwCl (cX0 cy a b (upd (X0_mounds v) x1.toNatClampNeg 0) (X0_opened v) (X0_roots v) (X0_traps v) (X0_tunnels v) (X0_molesR v) (X0_moles v) (X0_moleCount v) (X0_fullAir v) (X0_beats v) (X0_caught v) (X0_gnawed v) (X0_risen v) (X0_fallen v) ++ wX3 cy b u) H := xj_keep hP hD [5, 6, 7] hC hP1 hk1
  refine lv_istore_n (lv' := [(3, .int r21), (2, .int (X3_size (X0_tunnels v))), (0, .ref (a 0)), (1, .int x1)]) hx hb dX0_rakeOff_24 rfl hl (by decide) rfl (fun ls hl => ?_)
  refine lv_iload_n hx hb dX0_rakeOff_25 rfl (lv_at hl 0 rfl) ?_
  refine lv_iconst (v := (-1)) hx hb dX0_rakeOff_26 (by decide) ?_
  obtain ⟨hqA, hqB⟩ := hq
  refine lv_icmp_ne (tgt := 34) hx hb dX0_rakeOff_27 (by decide) (fun c6 => ?_) (fun c6 => ?_)
  · have hq := hqB c6
    refine lv_aload_n hx hb dX0_rakeOff_34 rfl (lv_at hl 2 rfl) ?_
    refine va_get (D := (dC, dI)) (ci := 0) (v := .ref (a 5)) (C := RX0) (T := TX0) (N := 14) hx hb hts iK0 hown hK hP 0 rfl rfl 4 (by decide) lk0 (fun _ h9 => h9) rfl dX0_rakeOff_35 ?_
    refine lv_iload_n hx hb dX0_rakeOff_38 rfl (lv_at hl 3 rfl) ?_
    refine lv_iload_n hx hb dX0_rakeOff_39 rfl (lv_at hl 0 rfl) ?_
    refine lv_iconst (v := 1) hx hb dX0_rakeOff_40 (by decide) ?_
    refine lv_iadd hx hb dX0_rakeOff_41 ?_
    have hC : (([5, 6, 7] : List Nat).map (fun i => (cX0 cy a b (upd (X0_mounds v) x1.toNatClampNeg 0) (X0_opened v) (X0_roots v) (X0_traps v) (X0_tunnels v) (X0_molesR v) (X0_moles v) (X0_moleCount v) (X0_fullAir v) (X0_beats v) (X0_caught v) (X0_gnawed v) (X0_risen v) (X0_fallen v) ++ wX3 cy b u)[i]?)) = (wX3 cy (sh a 5) (X0_tunnels v)).map some := rfl
    have hPc := xsubP hP hC
    have hDc := xsubD hD (by decide) hC
    have hFc := va_free (wc := (wX3 cy (sh a 5) (X0_tunnels v))) hD hS hAe0 [5, 6, 7] hC
    refine va_calli (va_runV (As := [.int x1, .int (r21 + 1)]) (rest := []) ⟨hx, hb, hml, hown, hts⟩ (c_X3_endingAt l dC dI cy (sh a 5) _ (X0_tunnels v) x1 (r21 + 1) _ hq) (cwV 2 hts gX0_rakeOff_X3_endingAt rfl rfl rfl (by decide +kernel) ⟨Nat.le_of_ble_eq_true rfl, Nat.le_of_ble_eq_true rfl⟩) ⟨xPre_blind, va_recv hK hP (ci := 3) (q0 := 5) rfl rfl, xPre_of hPc hK hDc⟩ rfl rfl hl.1 rfl (lv_room (Nat.le_of_ble_eq_true rfl)) dX0_rakeOff_42 ⟨Nat.le_of_ble_eq_true rfl, Nat.le_of_ble_eq_true rfl⟩) hS (fun q _ h => hFc q h) hFc (fun r42 u t H locs ht hvm hq hB hz1 hk1 hS => ?_)
    obtain ⟨hP1, -, hD1⟩ := hB
    rw [ht] at hP1
    have hP : va_P (dC, dI) vwCl (cX0 cy a b (upd (X0_mounds v) x1.toNatClampNeg 0) (X0_opened v) (X0_roots v) (X0_traps v) (X0_tunnels v) (X0_molesR v) (X0_moles v) (X0_moleCount v) (X0_fullAir v) (X0_beats v) (X0_caught v) (X0_gnawed v) (X0_risen v) (X0_fallen v) ++ wX3 cy b u) H := xj_keep hP hD [5, 6, 7] hC hP1 hk1
    exact J45 (X3_size (X0_tunnels v)) r21 (upd (X0_mounds v) x1.toNatClampNeg 0) r42  _ _ _ hq hP hD hS (lv_sub hl [2, 3, 1, 0] rfl)
  · have hq := hqA c6
    refine lv_iconst (v := (-1)) hx hb dX0_rakeOff_30 (by decide) ?_
    refine lv_goto (tgt := 45) hx hb dX0_rakeOff_31 (by decide) ?_
    exact J45 (X3_size (X0_tunnels v)) r21 (upd (X0_mounds v) x1.toNatClampNeg 0) (-1)  _ _ _ hq hP hD hS (lv_sub hl [2, 3, 1, 0] rfl)
def wp_X0_staysAfterTurn_135 (v : V_X0) (u : V_X3) (x1 : Int32) (j135_2 : Nat) (z135_v_caught : Int32) (z135_v_gnawed : Int32) (z135_v_moleCount : Int32) (z135_v_moles : (Nat → V_X1)) (z135_v_molesR : (Nat → Nat)) (z135_v_roots : (Nat → Int32)) (z135_v_traps : (Nat → Int32)) (z135_v_tunnels : V_X3) (Q : Int32 → (Nat → Int32) → (Nat → Int32) → Int32 → Int32 → Int32 → Int32 → Int32 → (Nat → V_X1) → (Nat → Nat) → (Nat → Int32) → Int32 → (Nat → Int32) → (Nat → Int32) → V_X3 → Prop) : Prop :=
  j135_2 < 4 ∧ ((0 < (X1_air (z135_v_moles j135_2)) → Q 1 (X3_cells u) (X3_ends u) (X3_size u) (X3_used u) z135_v_caught z135_v_gnawed z135_v_moleCount z135_v_moles z135_v_molesR (X0_mounds v) (X0_risen v) z135_v_roots z135_v_traps z135_v_tunnels) ∧
  (¬ 0 < (X1_air (z135_v_moles j135_2)) → wp_X1_place (z135_v_moles j135_2) (fun r144 =>
  wp_X0_ensureMound (X0_s11 (X0_s10 (X0_s7 (X0_s6 (X0_s5 (X0_s4 (X0_s3 (X0_s2 v z135_v_roots) z135_v_traps) z135_v_tunnels) z135_v_molesR) z135_v_moles) z135_v_moleCount) z135_v_caught) z135_v_gnawed) u r144 (fun z147_u_cells z147_u_ends z147_u_size z147_u_used z147_v_moles z147_v_mounds z147_v_risen z147_v_tunnels =>
  Q 1 z147_u_cells z147_u_ends z147_u_size z147_u_used z135_v_caught z135_v_gnawed z135_v_moleCount (va_up z147_v_moles j135_2 (X1_s4 (z147_v_moles j135_2) (X0_fullAir v))) z135_v_molesR z147_v_mounds z147_v_risen z135_v_roots z135_v_traps z147_v_tunnels))))
def wp_X0_staysAfterTurn (v : V_X0) (u : V_X3) (x1 : Int32) (Q : Int32 → (Nat → Int32) → (Nat → Int32) → Int32 → Int32 → Int32 → Int32 → Int32 → (Nat → V_X1) → (Nat → Nat) → (Nat → Int32) → Int32 → (Nat → Int32) → (Nat → Int32) → V_X3 → Prop) : Prop :=
  vp_in x1 4 ∧ ((X0_molesR v) x1.toNatClampNeg) < 4 ∧ (((X1_planned ((X0_moles v) ((X0_molesR v) x1.toNatClampNeg))) = 0 → Q 1 (X3_cells u) (X3_ends u) (X3_size u) (X3_used u) (X0_caught v) (X0_gnawed v) (X0_moleCount v) (X0_moles v) (X0_molesR v) (X0_mounds v) (X0_risen v) (X0_roots v) (X0_traps v) (X0_tunnels v)) ∧
  (¬ (X1_planned ((X0_moles v) ((X0_molesR v) x1.toNatClampNeg))) = 0 → wp_X1_place ((X0_moles v) ((X0_molesR v) x1.toNatClampNeg)) (fun r17 =>
  vp_in 0 20 ∧ wp_X6_stepFrom r17 ((X1_directions ((X0_moles v) ((X0_molesR v) x1.toNatClampNeg))) (0 : Int32).toNatClampNeg) (fun r26 =>
  ((r26 = (-1) → wp_X1_dropDirection ((X0_moles v) ((X0_molesR v) x1.toNatClampNeg)) (fun z36_v_directions z36_v_planned =>
  Q 1 (X3_cells u) (X3_ends u) (X3_size u) (X3_used u) (X0_caught v) (X0_gnawed v) (X0_moleCount v) (va_up (X0_moles v) ((X0_molesR v) x1.toNatClampNeg) (X1_s2 (X1_s0 ((X0_moles v) ((X0_molesR v) x1.toNatClampNeg)) z36_v_directions) z36_v_planned)) (X0_molesR v) (X0_mounds v) (X0_risen v) (X0_roots v) (X0_traps v) (X0_tunnels v))) ∧
  (¬ r26 = (-1) → vp_in r26 64 ∧ ((((X0_roots v) r26.toNatClampNeg) ≤ 0 → wp_X1_dropDirection (X1_s4 ((X0_moles v) ((X0_molesR v) x1.toNatClampNeg)) ((X1_air ((X0_moles v) ((X0_molesR v) x1.toNatClampNeg))) - 1)) (fun z84_v_directions z84_v_planned =>
  wp_X1_go (X1_s4 (X1_s2 (X1_s0 ((X0_moles v) ((X0_molesR v) x1.toNatClampNeg)) z84_v_directions) z84_v_planned) ((X1_air ((X0_moles v) ((X0_molesR v) x1.toNatClampNeg))) - 1)) r26 (fun z89_v_steps z89_v_trail z89_v_trailLength =>
  ((((X0_traps v) r26.toNatClampNeg) = 0 → wp_X0_catchMole (X0_s6 (X0_s3 v (upd (X0_traps v) r26.toNatClampNeg (-1))) (va_up (X0_moles v) ((X0_molesR v) x1.toNatClampNeg) (X1_s5 (X1_s4 (X1_s3 (X1_s2 (X1_s1 (X1_s0 ((X0_moles v) ((X0_molesR v) x1.toNatClampNeg)) z84_v_directions) z89_v_trail) z84_v_planned) z89_v_trailLength) ((X1_air ((X0_moles v) ((X0_molesR v) x1.toNatClampNeg))) - 1)) z89_v_steps))) x1 (fun z114_v_caught z114_v_moleCount z114_v_molesR =>
  Q 0 (X3_cells u) (X3_ends u) (X3_size u) (X3_used u) z114_v_caught (X0_gnawed v) z114_v_moleCount (va_up (X0_moles v) ((X0_molesR v) x1.toNatClampNeg) (X1_s5 (X1_s4 (X1_s3 (X1_s2 (X1_s1 (X1_s0 ((X0_moles v) ((X0_molesR v) x1.toNatClampNeg)) z84_v_directions) z89_v_trail) z84_v_planned) z89_v_trailLength) ((X1_air ((X0_moles v) ((X0_molesR v) x1.toNatClampNeg))) - 1)) z89_v_steps)) z114_v_molesR (X0_mounds v) (X0_risen v) (X0_roots v) (upd (X0_traps v) r26.toNatClampNeg (-1)) (X0_tunnels v))) ∧
  (¬ ((X0_traps v) r26.toNatClampNeg) = 0 → ((((X0_mounds v) r26.toNatClampNeg) = 0 → wp_X0_staysAfterTurn_135 v u x1 ((X0_molesR v) x1.toNatClampNeg) (X0_caught v) (X0_gnawed v) (X0_moleCount v) (va_up (X0_moles v) ((X0_molesR v) x1.toNatClampNeg) (X1_s5 (X1_s4 (X1_s3 (X1_s2 (X1_s1 (X1_s0 ((X0_moles v) ((X0_molesR v) x1.toNatClampNeg)) z84_v_directions) z89_v_trail) z84_v_planned) z89_v_trailLength) ((X1_air ((X0_moles v) ((X0_molesR v) x1.toNatClampNeg))) - 1)) z89_v_steps)) (X0_molesR v) (X0_roots v) (upd (X0_traps v) r26.toNatClampNeg (-1)) (X0_tunnels v)  Q) ∧
  (¬ ((X0_mounds v) r26.toNatClampNeg) = 0 → wp_X0_finishTrail (X0_s6 (X0_s3 v (upd (X0_traps v) r26.toNatClampNeg (-1))) (va_up (X0_moles v) ((X0_molesR v) x1.toNatClampNeg) (X1_s5 (X1_s4 (X1_s3 (X1_s2 (X1_s1 (X1_s0 ((X0_moles v) ((X0_molesR v) x1.toNatClampNeg)) z84_v_directions) z89_v_trail) z84_v_planned) z89_v_trailLength) ((X1_air ((X0_moles v) ((X0_molesR v) x1.toNatClampNeg))) - 1)) z89_v_steps))) ((X0_molesR v) x1.toNatClampNeg) (fun z130_v_moles z130_v_tunnels =>
  Q 1 (X3_cells u) (X3_ends u) (X3_size u) (X3_used u) (X0_caught v) (X0_gnawed v) (X0_moleCount v) z130_v_moles (X0_molesR v) (X0_mounds v) (X0_risen v) (X0_roots v) (upd (X0_traps v) r26.toNatClampNeg (-1)) z130_v_tunnels)))))))) ∧
  (¬ ((X0_roots v) r26.toNatClampNeg) ≤ 0 → wp_X0_staysAfterTurn_135 v u x1 ((X0_molesR v) x1.toNatClampNeg) (X0_caught v) ((X0_gnawed v) + 1) (X0_moleCount v) (va_up (X0_moles v) ((X0_molesR v) x1.toNatClampNeg) (X1_s4 ((X0_moles v) ((X0_molesR v) x1.toNatClampNeg)) ((X1_air ((X0_moles v) ((X0_molesR v) x1.toNatClampNeg))) - 1))) (X0_molesR v) (upd (X0_roots v) r26.toNatClampNeg (((X0_roots v) r26.toNatClampNeg) - 1)) (X0_traps v) (X0_tunnels v)  Q))))))))
def q_X0_staysAfterTurn (dC : Nat → ClassId) (dI : Nat → Nat → Nat) (cy : Nat → ClassId) (a b : Nat → Nat) (v : V_X0) (u : V_X3) (x1 : Int32) (Q : Int32 → (Nat → Int32) → (Nat → Int32) → Int32 → Int32 → Int32 → Int32 → Int32 → (Nat → V_X1) → (Nat → Nat) → (Nat → Int32) → Int32 → (Nat → Int32) → (Nat → Int32) → V_X3 → Prop) (A : Nat → Prop) : Array Value → State → Outcome → State → Prop := va_Qi (fun (r : Int32) (u : (Nat → Int32) × (Nat → Int32) × Int32 × Int32 × Int32 × Int32 × Int32 × (Nat → V_X1) × (Nat → Nat) × (Nat → Int32) × Int32 × (Nat → Int32) × (Nat → Int32) × V_X3) => Q r u.1 u.2.1 u.2.2.1 u.2.2.2.1 u.2.2.2.2.1 u.2.2.2.2.2.1 u.2.2.2.2.2.2.1 u.2.2.2.2.2.2.2.1 u.2.2.2.2.2.2.2.2.1 u.2.2.2.2.2.2.2.2.2.1 u.2.2.2.2.2.2.2.2.2.2.1 u.2.2.2.2.2.2.2.2.2.2.2.1 u.2.2.2.2.2.2.2.2.2.2.2.2.1 u.2.2.2.2.2.2.2.2.2.2.2.2.2) (fun (u : (Nat → Int32) × (Nat → Int32) × Int32 × Int32 × Int32 × Int32 × Int32 × (Nat → V_X1) × (Nat → Nat) × (Nat → Int32) × Int32 × (Nat → Int32) × (Nat → Int32) × V_X3) t => xAt dC dI cy A (cX0 cy a b u.2.2.2.2.2.2.2.2.2.1 (X0_opened v) u.2.2.2.2.2.2.2.2.2.2.2.1 u.2.2.2.2.2.2.2.2.2.2.2.2.1 u.2.2.2.2.2.2.2.2.2.2.2.2.2 u.2.2.2.2.2.2.2.2.1 u.2.2.2.2.2.2.2.1 u.2.2.2.2.2.2.1 (X0_fullAir v) (X0_beats v) u.2.2.2.2.1 u.2.2.2.2.2.1 u.2.2.2.2.2.2.2.2.2.2.1 (X0_fallen v) ++ cX3 cy b u.1 u.2.1 u.2.2.2.1 u.2.2.1) t) A
set_option maxHeartbeats 4000000 in
set_option maxRecDepth 100000 in
theorem c_X0_staysAfterTurn (l : Launch) (dC : Nat → ClassId) (dI : Nat → Nat → Nat) (cy : Nat → ClassId) (a b : Nat → Nat) (sz : Nat) (v : V_X0) (u : V_X3) (x1 : Int32) (Q : Int32 → (Nat → Int32) → (Nat → Int32) → Int32 → Int32 → Int32 → Int32 → Int32 → (Nat → V_X1) → (Nat → Nat) → (Nat → Int32) → Int32 → (Nat → Int32) → (Nat → Int32) → V_X3 → Prop) (hq : wp_X0_staysAfterTurn v u x1 Q) : Met l yX0_staysAfterTurn wsX0_staysAfterTurn ({ frames := 4, cells := 0, slots := 0, locals := 97 } : Room) (va_Pc [.ref (a 0), .int x1] (xPreE dC dI cy (wX0 cy a b v ++ wX3 cy b u) sz)) (q_X0_staysAfterTurn dC dI cy a b v u x1 Q (va_A (wX0 cy a b v ++ wX3 cy b u) sz)) 0 0 (va_A (wX0 cy a b v ++ wX3 cy b u) sz) := by
  refine Met.ofW (cc := cX0_staysAfterTurn) (maxL := 5) (ret := (some .boolean)) (by decide) rfl ?_
  intro p e s m args below meth c s₁ B hml hv
  obtain ⟨rfl, hsz, hP, hK, hD0, hE⟩ := hv
  have hx := B.exec
  have hb := B.bytes
  have hr := B.returns
  have hts := atoms_spec (ws := wsX0_staysAfterTurn) B.pre
  have hown : s.vm.findClass RX0 = some m.cls := findClass_of_methodNamed B.named
  have hlocks := B.notSynchronized
  subst hsz
  have hD := hD0.self (sz := s.heap.size)
  generalize hAe : va_A (wX0 cy a b v ++ wX3 cy b u) s.heap.size = A at hD hE ⊢
  have hAe0 : ∀ q : Nat, s.heap.size ≤ q → A q := fun q h => by rw [← hAe]; exact Or.inr h
  have hS : va_S A s.heap s.heap [] := va_S.rf
  have hl := lv_entry ([.ref (a 0), .int x1]) (n := 5) (Nat.le_of_ble_eq_true rfl)
  rw [lg_entry_eq]
  generalize (lg_sl ([.ref (a 0), .int x1]) ++ List.replicate (5 - (lg_sl ([.ref (a 0), .int x1])).length) Slot.unset).toArray = ls at hl ⊢
  have hl : lv_has ls 5 [(0, .ref (a 0)), (1, .int x1)] := hl
  have lk0 := hts (Cond.fieldLink RX0 87 "MolesLawn$Mole" "air" "I") (List.mem_cons_of_mem _ (List.mem_append_left _ (List.mem_append_left _ (List.mem_append_left _ (List.mem_append_left _ (List.mem_of_getElem? (i := 3) rfl))))))
  have lk1 := hts (Cond.fieldLink RX0 38 "MolesLawn$Lawn" "fullAir" "I") (List.mem_cons_of_mem _ (List.mem_append_left _ (List.mem_append_left _ (List.mem_append_left _ (List.mem_append_left _ (List.mem_of_getElem? (i := 8) rfl))))))
  have lk2 := hts (Cond.fieldLink RX0 34 "MolesLawn$Lawn" "moles" "[LMolesLawn$Mole;") (List.mem_cons_of_mem _ (List.mem_append_left _ (List.mem_append_left _ (List.mem_append_left _ (List.mem_append_left _ (List.mem_of_getElem? (i := 0) rfl))))))
  have lk3 := hts (Cond.fieldLink RX0 84 "MolesLawn$Mole" "planned" "I") (List.mem_cons_of_mem _ (List.mem_append_left _ (List.mem_append_left _ (List.mem_append_left _ (List.mem_append_left _ (List.mem_of_getElem? (i := 1) rfl))))))
  have lk4 := hts (Cond.fieldLink RX0 144 "MolesLawn$Mole" "directions" "[I") (List.mem_cons_of_mem _ (List.mem_append_left _ (List.mem_append_left _ (List.mem_append_left _ (List.mem_append_left _ (List.mem_of_getElem? (i := 2) rfl))))))
  have lk5 := hts (Cond.fieldLink RX0 18 "MolesLawn$Lawn" "roots" "[I") (List.mem_cons_of_mem _ (List.mem_append_left _ (List.mem_append_left _ (List.mem_append_left _ (List.mem_append_left _ (List.mem_of_getElem? (i := 4) rfl))))))
  have lk6 := hts (Cond.fieldLink RX0 22 "MolesLawn$Lawn" "traps" "[I") (List.mem_cons_of_mem _ (List.mem_append_left _ (List.mem_append_left _ (List.mem_append_left _ (List.mem_append_left _ (List.mem_of_getElem? (i := 6) rfl))))))
  have lk7 := hts (Cond.fieldLink RX0 9 "MolesLawn$Lawn" "mounds" "[Z") (List.mem_cons_of_mem _ (List.mem_append_left _ (List.mem_append_left _ (List.mem_append_left _ (List.mem_append_left _ (List.mem_of_getElem? (i := 7) rfl))))))
  have lk8 := hts (Cond.fieldLink RX0 68 "MolesLawn$Lawn" "gnawed" "I") (List.mem_cons_of_mem _ (List.mem_append_left _ (List.mem_append_left _ (List.mem_append_left _ (List.mem_append_left _ (List.mem_of_getElem? (i := 5) rfl))))))
  have iK0 : ∀ w ∈ wsX00, w ∈ wsX0_staysAfterTurn := fun _ h => (List.mem_cons_of_mem _ (List.mem_append_left _ (List.mem_append_left _ (List.mem_append_right _ h))))
  have iK1 : ∀ w ∈ wsX10, w ∈ wsX0_staysAfterTurn := fun _ h => (List.mem_cons_of_mem _ (List.mem_append_left _ (List.mem_append_right _ h)))
  unfold wp_X0_staysAfterTurn at hq
  have J135 : ∀ (j135_2 : Nat) (z135_v_caught : Int32) (z135_v_gnawed : Int32) (z135_v_moleCount : Int32) (z135_v_moles : (Nat → V_X1)) (z135_v_molesR : (Nat → Nat)) (z135_v_roots : (Nat → Int32)) (z135_v_traps : (Nat → Int32)) (z135_v_tunnels : V_X3) (H : Heap) (locs : List Loc) (ls : Array Slot), wp_X0_staysAfterTurn_135 v u x1 j135_2 z135_v_caught z135_v_gnawed z135_v_moleCount z135_v_moles z135_v_molesR z135_v_roots z135_v_traps z135_v_tunnels Q → va_P (dC, dI) vwCl (cX0 cy a b (X0_mounds v) (X0_opened v) z135_v_roots z135_v_traps z135_v_tunnels z135_v_molesR z135_v_moles z135_v_moleCount (X0_fullAir v) (X0_beats v) z135_v_caught z135_v_gnawed (X0_risen v) (X0_fallen v) ++ wX3 cy b u) H → va_D A (cX0 cy a b (X0_mounds v) (X0_opened v) z135_v_roots z135_v_traps z135_v_tunnels z135_v_molesR z135_v_moles z135_v_moleCount (X0_fullAir v) (X0_beats v) z135_v_caught z135_v_gnawed (X0_risen v) (X0_fallen v) ++ wX3 cy b u) → va_S A s.heap H locs → lv_has ls 5 [(0, .ref (a 0)), (2, .ref (a (9 + 3 * j135_2)))] → W p l e (headSpec wsX0_staysAfterTurn ({ frames := 4, cells := 0, slots := 0, locals := 97 } : Room)).room s m ([.ref (a 0), .int x1] : List Value).toArray below meth c H locs 0 0 (MQ below (q_X0_staysAfterTurn dC dI cy a b v u x1 Q A) ([.ref (a 0), .int x1] : List Value).toArray s 0 0 A) (F0 m 135 ls []) := by
    intro j135_2 z135_v_caught z135_v_gnawed z135_v_moleCount z135_v_moles z135_v_molesR z135_v_roots z135_v_traps z135_v_tunnels H locs ls hq hP hD hS hl
    unfold wp_X0_staysAfterTurn_135 at hq
    refine lv_aload_n hx hb dX0_staysAfterTurn_135 rfl (lv_at hl 1 rfl) ?_
    obtain ⟨g1, hq⟩ := hq
    refine va_get (D := (dC, dI)) (ci := 1) (v := .int (X1_air (z135_v_moles j135_2))) (C := RX1) (T := TX1) (N := 7) hx hb hts iK1 hown hK hP (9 + 3 * j135_2) (co_4 (P := fun i19 => (cX0 cy a b (X0_mounds v) (X0_opened v) z135_v_roots z135_v_traps z135_v_tunnels z135_v_molesR z135_v_moles z135_v_moleCount (X0_fullAir v) (X0_beats v) z135_v_caught z135_v_gnawed (X0_risen v) (X0_fallen v) ++ wX3 cy b u)[(9 + 3 * i19)]? = (wX1 cy (sh a (9 + 3 * i19)) (z135_v_moles i19))[0]?) rfl rfl rfl rfl g1) rfl 4 (by decide) lk0 (fun _ h9 => h9) rfl dX0_staysAfterTurn_136 ?_
    obtain ⟨hqA, hqB⟩ := hq
    refine lv_if_gt (tgt := 158) hx hb dX0_staysAfterTurn_139 (by decide) (fun c2 => ?_) (fun c2 => ?_)
    · have hq := hqA c2
      refine lv_iconst (v := 1) hx hb dX0_staysAfterTurn_158 (by decide) ?_
      exact W.zret (v := 1) hx hb hr rfl (fun t ht hW => ⟨⟨1, ((X3_cells u), (X3_ends u), (X3_size u), (X3_used u), z135_v_caught, z135_v_gnawed, z135_v_moleCount, z135_v_moles, z135_v_molesR, (X0_mounds v), (X0_risen v), z135_v_roots, z135_v_traps, z135_v_tunnels), rfl, hq, (xAt_of hP hK hD ht hW)⟩, hS.F ht⟩) hS.2.2 dX0_staysAfterTurn_159
    · have hq := hqB c2
      refine lv_aload_n hx hb dX0_staysAfterTurn_142 rfl (lv_at hl 0 rfl) ?_
      refine lv_aload_n hx hb dX0_staysAfterTurn_143 rfl (lv_at hl 1 rfl) ?_
      have hC : (([(9 + 3 * j135_2), (10 + 3 * j135_2), (11 + 3 * j135_2)] : List Nat).map (fun i => (cX0 cy a b (X0_mounds v) (X0_opened v) z135_v_roots z135_v_traps z135_v_tunnels z135_v_molesR z135_v_moles z135_v_moleCount (X0_fullAir v) (X0_beats v) z135_v_caught z135_v_gnawed (X0_risen v) (X0_fallen v) ++ wX3 cy b u)[i]?)) = (wX1 cy (sh a (9 + 3 * j135_2)) (z135_v_moles j135_2)).map some := (co_4 (P := fun i19 => (([(9 + 3 * i19), (10 + 3 * i19), (11 + 3 * i19)] : List Nat).map (fun i => (cX0 cy a b (X0_mounds v) (X0_opened v) z135_v_roots z135_v_traps z135_v_tunnels z135_v_molesR z135_v_moles z135_v_moleCount (X0_fullAir v) (X0_beats v) z135_v_caught z135_v_gnawed (X0_risen v) (X0_fallen v) ++ wX3 cy b u)[i]?)) = (wX1 cy (sh a (9 + 3 * i19)) (z135_v_moles i19)).map some) rfl rfl rfl rfl g1)
      have hN : va_nd [(9 + 3 * j135_2), (10 + 3 * j135_2), (11 + 3 * j135_2)] = true := (co_4 (P := fun i19 => va_nd [(9 + 3 * i19), (10 + 3 * i19), (11 + 3 * i19)] = true) rfl rfl rfl rfl g1)
      have hPc := xsubP hP hC
      have hDc := xsubD hD hN hC
      have hFc := va_free (wc := (wX1 cy (sh a (9 + 3 * j135_2)) (z135_v_moles j135_2))) hD hS hAe0 [(9 + 3 * j135_2), (10 + 3 * j135_2), (11 + 3 * j135_2)] hC
      refine va_calli (va_runV (As := []) (rest := [.ref (a 0)]) ⟨hx, hb, hml, hown, hts⟩ (c_X1_place l dC dI cy (sh a (9 + 3 * j135_2)) _ (z135_v_moles j135_2) _ hq) (cwV 0 hts gX0_staysAfterTurn_X1_place rfl rfl rfl (by decide +kernel) ⟨Nat.le_of_ble_eq_true rfl, Nat.le_of_ble_eq_true rfl⟩) ⟨xPre_blind, va_recv hK hP (ci := 1) (q0 := (9 + 3 * j135_2)) rfl (co_4 (P := fun i19 => (cX0 cy a b (X0_mounds v) (X0_opened v) z135_v_roots z135_v_traps z135_v_tunnels z135_v_molesR z135_v_moles z135_v_moleCount (X0_fullAir v) (X0_beats v) z135_v_caught z135_v_gnawed (X0_risen v) (X0_fallen v) ++ wX3 cy b u)[(9 + 3 * i19)]? = (wX1 cy (sh a (9 + 3 * i19)) (z135_v_moles i19))[0]?) rfl rfl rfl rfl g1), xPre_of hPc hK hDc⟩ rfl rfl hl.1 rfl (lv_room (Nat.le_of_ble_eq_true rfl)) dX0_staysAfterTurn_144 ⟨Nat.le_of_ble_eq_true rfl, Nat.le_of_ble_eq_true rfl⟩) hS (fun q _ h => hFc q h) hFc (fun r144 u t H locs ht hvm hq hB hz1 hk1 hS => ?_)
      obtain ⟨hP1, -, hD1⟩ := hB
      rw [ht] at hP1
      have hP : va_P (dC, dI) vwCl (cX0 cy a b (X0_mounds v) (X0_opened v) z135_v_roots z135_v_traps z135_v_tunnels z135_v_molesR z135_v_moles z135_v_moleCount (X0_fullAir v) (X0_beats v) z135_v_caught z135_v_gnawed (X0_risen v) (X0_fallen v) ++ wX3 cy b u) H := xj_keep hP hD [(9 + 3 * j135_2), (10 + 3 * j135_2), (11 + 3 * j135_2)] hC hP1 hk1
      have hFc := xfree_same hS hAe0 (ws := (cX0 cy a b (X0_mounds v) (X0_opened v) z135_v_roots z135_v_traps z135_v_tunnels z135_v_molesR z135_v_moles z135_v_moleCount (X0_fullAir v) (X0_beats v) z135_v_caught z135_v_gnawed (X0_risen v) (X0_fallen v) ++ wX3 cy b u)) hD
      refine va_callv (va_runV (As := [.int r144]) (rest := []) ⟨hx, hb, hml, hown, hts⟩ (c_X0_ensureMound l dC dI cy a b _ (X0_s11 (X0_s10 (X0_s7 (X0_s6 (X0_s5 (X0_s4 (X0_s3 (X0_s2 v z135_v_roots) z135_v_traps) z135_v_tunnels) z135_v_molesR) z135_v_moles) z135_v_moleCount) z135_v_caught) z135_v_gnawed) u r144 _ hq) (cwV 1 hts gX0_staysAfterTurn_X0_ensureMound rfl rfl rfl (by decide +kernel) ⟨Nat.le_of_ble_eq_true rfl, Nat.le_of_ble_eq_true rfl⟩) ⟨xPre_blind, va_recv hK hP (ci := 0) (q0 := 0) rfl rfl, xPre_of hP hK hD⟩ rfl rfl hl.1 rfl (lv_room (Nat.le_of_ble_eq_true rfl)) dX0_staysAfterTurn_147 ⟨Nat.le_of_ble_eq_true rfl, Nat.le_of_ble_eq_true rfl⟩) hS (fun q _ h => hFc q h) hFc (fun u t H locs ht hvm hq hB hz1 hk1 hS => ?_)
      obtain ⟨z147_u_cells, z147_u_ends, z147_u_size, z147_u_used, z147_v_moles, z147_v_mounds, z147_v_risen, z147_v_tunnels⟩ := u
      obtain ⟨hP1, -, hD1⟩ := hB
      rw [ht] at hP1
      have hP : va_P (dC, dI) vwCl (cX0 cy a b z147_v_mounds (X0_opened v) z135_v_roots z135_v_traps z147_v_tunnels z135_v_molesR z147_v_moles z135_v_moleCount (X0_fullAir v) (X0_beats v) z135_v_caught z135_v_gnawed z147_v_risen (X0_fallen v) ++ cX3 cy b z147_u_cells z147_u_ends z147_u_used z147_u_size) H := hP1
      have hD : va_D A (cX0 cy a b z147_v_mounds (X0_opened v) z135_v_roots z135_v_traps z147_v_tunnels z135_v_molesR z147_v_moles z135_v_moleCount (X0_fullAir v) (X0_beats v) z135_v_caught z135_v_gnawed z147_v_risen (X0_fallen v) ++ cX3 cy b z147_u_cells z147_u_ends z147_u_used z147_u_size) := hD1.weaken (fun _ q _ h => hFc q.1 h)
      refine lv_aload_n hx hb dX0_staysAfterTurn_150 rfl (lv_at hl 1 rfl) ?_
      refine lv_aload_n hx hb dX0_staysAfterTurn_151 rfl (lv_at hl 0 rfl) ?_
      refine va_get (D := (dC, dI)) (ci := 0) (v := .int (X0_fullAir v)) (C := RX0) (T := TX0) (N := 14) hx hb hts iK0 hown hK hP 0 rfl rfl 8 (by decide) lk1 (fun _ h9 => h9) rfl dX0_staysAfterTurn_152 ?_
      refine va_put (D := (dC, dI)) (ci := 1) (v := .int (X0_fullAir v)) (ty := .int) (C := RX1) (T := TX1) (N := 7) hx hb hts iK1 tyX1 tyX1_ok nmX1 hown hK hP hD hS (9 + 3 * j135_2) (co_4 (P := fun i19 => (cX0 cy a b z147_v_mounds (X0_opened v) z135_v_roots z135_v_traps z147_v_tunnels z135_v_molesR z147_v_moles z135_v_moleCount (X0_fullAir v) (X0_beats v) z135_v_caught z135_v_gnawed z147_v_risen (X0_fallen v) ++ cX3 cy b z147_u_cells z147_u_ends z147_u_used z147_u_size)[(9 + 3 * i19)]? = (wX1 cy (sh a (9 + 3 * i19)) (z147_v_moles i19))[0]?) rfl rfl rfl rfl g1) rfl 4 (by decide) lk0 (fun _ h9 => h9) rfl (by decide +kernel) rfl rfl (Nat.le_of_ble_eq_true rfl) dX0_staysAfterTurn_155 (fun H locs hP hD hS => ?_)
      have eW := (co_4 (P := fun i19 => (cX0 cy a b z147_v_mounds (X0_opened v) z135_v_roots z135_v_traps z147_v_tunnels z135_v_molesR z147_v_moles z135_v_moleCount (X0_fullAir v) (X0_beats v) z135_v_caught z135_v_gnawed z147_v_risen (X0_fallen v) ++ cX3 cy b z147_u_cells z147_u_ends z147_u_used z147_u_size).set (9 + 3 * i19) ((cX1 cy (sh a (9 + 3 * i19)) (X1_directions (z147_v_moles i19)) (X1_trail (z147_v_moles i19)) (X1_planned (z147_v_moles i19)) (X1_trailLength (z147_v_moles i19)) (X0_fullAir v) (X1_steps (z147_v_moles i19)) (X1_lost (z147_v_moles i19)))[0]?.getD (0, .inr (0, []))) = (cX0 cy a b z147_v_mounds (X0_opened v) z135_v_roots z135_v_traps z147_v_tunnels z135_v_molesR (va_up z147_v_moles i19 ((X1_directions (z147_v_moles i19)), (X1_trail (z147_v_moles i19)), (X1_planned (z147_v_moles i19)), (X1_trailLength (z147_v_moles i19)), (X0_fullAir v), (X1_steps (z147_v_moles i19)), (X1_lost (z147_v_moles i19)))) z135_v_moleCount (X0_fullAir v) (X0_beats v) z135_v_caught z135_v_gnawed z147_v_risen (X0_fallen v) ++ cX3 cy b z147_u_cells z147_u_ends z147_u_used z147_u_size)) rfl rfl rfl rfl g1)
      have hP : va_P (dC, dI) vwCl (cX0 cy a b z147_v_mounds (X0_opened v) z135_v_roots z135_v_traps z147_v_tunnels z135_v_molesR (va_up z147_v_moles j135_2 ((X1_directions (z147_v_moles j135_2)), (X1_trail (z147_v_moles j135_2)), (X1_planned (z147_v_moles j135_2)), (X1_trailLength (z147_v_moles j135_2)), (X0_fullAir v), (X1_steps (z147_v_moles j135_2)), (X1_lost (z147_v_moles j135_2)))) z135_v_moleCount (X0_fullAir v) (X0_beats v) z135_v_caught z135_v_gnawed z147_v_risen (X0_fallen v) ++ cX3 cy b z147_u_cells z147_u_ends z147_u_used z147_u_size) H := by rw [← eW]; exact hP
      have hD : va_D A (cX0 cy a b z147_v_mounds (X0_opened v) z135_v_roots z135_v_traps z147_v_tunnels z135_v_molesR (va_up z147_v_moles j135_2 ((X1_directions (z147_v_moles j135_2)), (X1_trail (z147_v_moles j135_2)), (X1_planned (z147_v_moles j135_2)), (X1_trailLength (z147_v_moles j135_2)), (X0_fullAir v), (X1_steps (z147_v_moles j135_2)), (X1_lost (z147_v_moles j135_2)))) z135_v_moleCount (X0_fullAir v) (X0_beats v) z135_v_caught z135_v_gnawed z147_v_risen (X0_fallen v) ++ cX3 cy b z147_u_cells z147_u_ends z147_u_used z147_u_size) := by rw [← eW]; exact hD
      refine lv_iconst (v := 1) hx hb dX0_staysAfterTurn_158 (by decide) ?_
      exact W.zret (v := 1) hx hb hr rfl (fun t ht hW => ⟨⟨1, (z147_u_cells, z147_u_ends, z147_u_size, z147_u_used, z135_v_caught, z135_v_gnawed, z135_v_moleCount, (va_up z147_v_moles j135_2 (X1_s4 (z147_v_moles j135_2) (X0_fullAir v))), z135_v_molesR, z147_v_mounds, z147_v_risen, z135_v_roots, z135_v_traps, z147_v_tunnels), rfl, hq, (xAt_of hP hK hD ht hW)⟩, hS.F ht⟩) hS.2.2 dX0_staysAfterTurn_159
  refine lv_aload_n hx hb dX0_staysAfterTurn_0 rfl (lv_at hl 0 rfl) ?_
  refine va_get (D := (dC, dI)) (ci := 0) (v := .ref (a 8)) (C := RX0) (T := TX0) (N := 14) hx hb hts iK0 hown hK hP 0 rfl rfl 6 (by decide) lk2 (fun _ h9 => h9) rfl dX0_staysAfterTurn_1 ?_
  refine lv_iload_n hx hb dX0_staysAfterTurn_4 rfl (lv_at hl 1 rfl) ?_
  obtain ⟨g3, hq⟩ := hq
  obtain ⟨g4, hq⟩ := hq
  refine va_aldq hx hb hK hP 8 2 rfl rfl g3 dX0_staysAfterTurn_5 ?_
  refine lv_astore_n (lv' := [(2, .ref (a (9 + 3 * ((X0_molesR v) x1.toNatClampNeg)))), (0, .ref (a 0)), (1, .int x1)]) hx hb dX0_staysAfterTurn_6 rfl hl (by decide) rfl (fun ls hl => ?_)
  refine lv_aload_n hx hb dX0_staysAfterTurn_7 rfl (lv_at hl 0 rfl) ?_
  refine va_get (D := (dC, dI)) (ci := 1) (v := .int (X1_planned ((X0_moles v) ((X0_molesR v) x1.toNatClampNeg)))) (C := RX1) (T := TX1) (N := 7) hx hb hts iK1 hown hK hP (9 + 3 * ((X0_molesR v) x1.toNatClampNeg)) (co_4 (P := fun i19 => (wX0 cy a b v ++ wX3 cy b u)[(9 + 3 * i19)]? = (wX1 cy (sh a (9 + 3 * i19)) ((X0_moles v) i19))[0]?) rfl rfl rfl rfl g4) rfl 2 (by decide) lk3 (fun _ h9 => h9) rfl dX0_staysAfterTurn_8 ?_
  obtain ⟨hqA, hqB⟩ := hq
  refine lv_if_ne (tgt := 16) hx hb dX0_staysAfterTurn_11 (by decide) (fun c11 => ?_) (fun c11 => ?_)
  · have hq := hqB c11
    refine lv_aload_n hx hb dX0_staysAfterTurn_16 rfl (lv_at hl 0 rfl) ?_
    have hC : (([(9 + 3 * ((X0_molesR v) x1.toNatClampNeg)), (10 + 3 * ((X0_molesR v) x1.toNatClampNeg)), (11 + 3 * ((X0_molesR v) x1.toNatClampNeg))] : List Nat).map (fun i => (wX0 cy a b v ++ wX3 cy b u)[i]?)) = (wX1 cy (sh a (9 + 3 * ((X0_molesR v) x1.toNatClampNeg))) ((X0_moles v) ((X0_molesR v) x1.toNatClampNeg))).map some := (co_4 (P := fun i19 => (([(9 + 3 * i19), (10 + 3 * i19), (11 + 3 * i19)] : List Nat).map (fun i => (wX0 cy a b v ++ wX3 cy b u)[i]?)) = (wX1 cy (sh a (9 + 3 * i19)) ((X0_moles v) i19)).map some) rfl rfl rfl rfl g4)
    have hN : va_nd [(9 + 3 * ((X0_molesR v) x1.toNatClampNeg)), (10 + 3 * ((X0_molesR v) x1.toNatClampNeg)), (11 + 3 * ((X0_molesR v) x1.toNatClampNeg))] = true := (co_4 (P := fun i19 => va_nd [(9 + 3 * i19), (10 + 3 * i19), (11 + 3 * i19)] = true) rfl rfl rfl rfl g4)
    have hPc := xsubP hP hC
    have hDc := xsubD hD hN hC
    have hFc := va_free (wc := (wX1 cy (sh a (9 + 3 * ((X0_molesR v) x1.toNatClampNeg))) ((X0_moles v) ((X0_molesR v) x1.toNatClampNeg)))) hD hS hAe0 [(9 + 3 * ((X0_molesR v) x1.toNatClampNeg)), (10 + 3 * ((X0_molesR v) x1.toNatClampNeg)), (11 + 3 * ((X0_molesR v) x1.toNatClampNeg))] hC
    refine va_calli (va_runV (As := []) (rest := []) ⟨hx, hb, hml, hown, hts⟩ (c_X1_place l dC dI cy (sh a (9 + 3 * ((X0_molesR v) x1.toNatClampNeg))) _ ((X0_moles v) ((X0_molesR v) x1.toNatClampNeg)) _ hq) (cwV 0 hts gX0_staysAfterTurn_X1_place rfl rfl rfl (by decide +kernel) ⟨Nat.le_of_ble_eq_true rfl, Nat.le_of_ble_eq_true rfl⟩) ⟨xPre_blind, va_recv hK hP (ci := 1) (q0 := (9 + 3 * ((X0_molesR v) x1.toNatClampNeg))) rfl (co_4 (P := fun i19 => (wX0 cy a b v ++ wX3 cy b u)[(9 + 3 * i19)]? = (wX1 cy (sh a (9 + 3 * i19)) ((X0_moles v) i19))[0]?) rfl rfl rfl rfl g4), xPre_of hPc hK hDc⟩ rfl rfl hl.1 rfl (lv_room (Nat.le_of_ble_eq_true rfl)) dX0_staysAfterTurn_17 ⟨Nat.le_of_ble_eq_true rfl, Nat.le_of_ble_eq_true rfl⟩) hS (fun q _ h => hFc q h) hFc (fun r17 u t H locs ht hvm hq hB hz1 hk1 hS => ?_)
    obtain ⟨hP1, -, hD1⟩ := hB
    rw [ht] at hP1
    have hP : va_P (dC, dI) vwCl (wX0 cy a b v ++ wX3 cy b u) H := xj_keep hP hD [(9 + 3 * ((X0_molesR v) x1.toNatClampNeg)), (10 + 3 * ((X0_molesR v) x1.toNatClampNeg)), (11 + 3 * ((X0_molesR v) x1.toNatClampNeg))] hC hP1 hk1
    refine lv_aload_n hx hb dX0_staysAfterTurn_20 rfl (lv_at hl 0 rfl) ?_
    refine va_get (D := (dC, dI)) (ci := 1) (v := .ref (a (9 + 3 * ((X0_molesR v) x1.toNatClampNeg) + 1))) (C := RX1) (T := TX1) (N := 7) hx hb hts iK1 hown hK hP (9 + 3 * ((X0_molesR v) x1.toNatClampNeg)) (co_4 (P := fun i19 => (wX0 cy a b v ++ wX3 cy b u)[(9 + 3 * i19)]? = (wX1 cy (sh a (9 + 3 * i19)) ((X0_moles v) i19))[0]?) rfl rfl rfl rfl g4) rfl 0 (by decide) lk4 (fun _ h9 => h9) rfl dX0_staysAfterTurn_21 ?_
    refine lv_iconst (v := 0) hx hb dX0_staysAfterTurn_24 (by decide) ?_
    obtain ⟨g5, hq⟩ := hq
    refine va_iald hx hb hK hP (9 + 3 * ((X0_molesR v) x1.toNatClampNeg) + 1) 0 (co_4 (P := fun i19 => (wX0 cy a b v ++ wX3 cy b u)[(9 + 3 * i19 + 1)]? = (wX1 cy (sh a (9 + 3 * i19)) ((X0_moles v) i19))[1]?) rfl rfl rfl rfl g4) rfl g5 dX0_staysAfterTurn_25 ?_
    have hFc := xfree_none hS hAe0
    refine va_calli (va_runSN (As := [.int r17, .int ((X1_directions ((X0_moles v) ((X0_molesR v) x1.toNatClampNeg))) (0 : Int32).toNatClampNeg)]) (rest := []) ⟨hx, hb, hml, hown, hts⟩ (c_X6_stepFrom l dC dI cy  _ r17 ((X1_directions ((X0_moles v) ((X0_molesR v) x1.toNatClampNeg))) (0 : Int32).toNatClampNeg) _ hq) ⟨va_cnB 2 hts gX0_staysAfterTurn_X6_stepFrom_n147 rfl rfl rfl hE.1 (hts (.initialized RX6) (List.mem_cons_of_mem _ (List.mem_append_left _ (List.mem_append_left _ (List.mem_append_left _ (List.mem_append_left _ (List.mem_of_getElem? (i := 17) rfl))))))) (by decide +kernel) ⟨Nat.le_of_ble_eq_true rfl, Nat.le_of_ble_eq_true rfl⟩, hts (.static yX6_stepFrom) (List.mem_cons_of_mem _ (List.mem_append_left _ (List.mem_append_left _ (List.mem_append_left _ (List.mem_append_left _ (List.mem_of_getElem? (i := 16) rfl)))))), trivial⟩ ⟨xPre_blindE, xPre_ofE xP_nil hK (xD_nil (A := A)) hE hS hFc⟩ rfl rfl hl.1 rfl (lv_room (Nat.le_of_ble_eq_true rfl)) dX0_staysAfterTurn_26 ⟨Nat.le_of_ble_eq_true rfl, Nat.le_of_ble_eq_true rfl⟩) hS (fun q _ h => hFc q h) hFc (fun r26 u t H locs ht hvm hq hB hz1 hk1 hS => ?_)
    have hP := xj_none hP hk1
    refine lv_istore_n (lv' := [(3, .int r26), (2, .ref (a (9 + 3 * ((X0_molesR v) x1.toNatClampNeg)))), (0, .ref (a 0)), (1, .int x1)]) hx hb dX0_staysAfterTurn_29 rfl hl (by decide) rfl (fun ls hl => ?_)
    refine lv_iload_n hx hb dX0_staysAfterTurn_30 rfl (lv_at hl 0 rfl) ?_
    refine lv_iconst (v := (-1)) hx hb dX0_staysAfterTurn_31 (by decide) ?_
    obtain ⟨hqA, hqB⟩ := hq
    refine lv_icmp_ne (tgt := 41) hx hb dX0_staysAfterTurn_32 (by decide) (fun c10 => ?_) (fun c10 => ?_)
    · have hq := hqB c10
      refine lv_aload_n hx hb dX0_staysAfterTurn_41 rfl (lv_at hl 1 rfl) ?_
      refine lv_dup hx hb dX0_staysAfterTurn_42 rfl ?_
      refine va_get (D := (dC, dI)) (ci := 1) (v := .int (X1_air ((X0_moles v) ((X0_molesR v) x1.toNatClampNeg)))) (C := RX1) (T := TX1) (N := 7) hx hb hts iK1 hown hK hP (9 + 3 * ((X0_molesR v) x1.toNatClampNeg)) (co_4 (P := fun i19 => (wX0 cy a b v ++ wX3 cy b u)[(9 + 3 * i19)]? = (wX1 cy (sh a (9 + 3 * i19)) ((X0_moles v) i19))[0]?) rfl rfl rfl rfl g4) rfl 4 (by decide) lk0 (fun _ h9 => h9) rfl dX0_staysAfterTurn_43 ?_
      refine lv_iconst (v := 1) hx hb dX0_staysAfterTurn_46 (by decide) ?_
      refine lv_isub hx hb dX0_staysAfterTurn_47 ?_
      refine va_put (D := (dC, dI)) (ci := 1) (v := .int ((X1_air ((X0_moles v) ((X0_molesR v) x1.toNatClampNeg))) - 1)) (ty := .int) (C := RX1) (T := TX1) (N := 7) hx hb hts iK1 tyX1 tyX1_ok nmX1 hown hK hP hD hS (9 + 3 * ((X0_molesR v) x1.toNatClampNeg)) (co_4 (P := fun i19 => (wX0 cy a b v ++ wX3 cy b u)[(9 + 3 * i19)]? = (wX1 cy (sh a (9 + 3 * i19)) ((X0_moles v) i19))[0]?) rfl rfl rfl rfl g4) rfl 4 (by decide) lk0 (fun _ h9 => h9) rfl (by decide +kernel) rfl rfl (Nat.le_of_ble_eq_true rfl) dX0_staysAfterTurn_48 (fun H locs hP hD hS => ?_)
      have eW := (co_4 (P := fun i19 => (wX0 cy a b v ++ wX3 cy b u).set (9 + 3 * i19) ((cX1 cy (sh a (9 + 3 * i19)) (X1_directions ((X0_moles v) i19)) (X1_trail ((X0_moles v) i19)) (X1_planned ((X0_moles v) i19)) (X1_trailLength ((X0_moles v) i19)) ((X1_air ((X0_moles v) i19)) - 1) (X1_steps ((X0_moles v) i19)) (X1_lost ((X0_moles v) i19)))[0]?.getD (0, .inr (0, []))) = (cX0 cy a b (X0_mounds v) (X0_opened v) (X0_roots v) (X0_traps v) (X0_tunnels v) (X0_molesR v) (va_up (X0_moles v) i19 ((X1_directions ((X0_moles v) i19)), (X1_trail ((X0_moles v) i19)), (X1_planned ((X0_moles v) i19)), (X1_trailLength ((X0_moles v) i19)), ((X1_air ((X0_moles v) i19)) - 1), (X1_steps ((X0_moles v) i19)), (X1_lost ((X0_moles v) i19)))) (X0_moleCount v) (X0_fullAir v) (X0_beats v) (X0_caught v) (X0_gnawed v) (X0_risen v) (X0_fallen v) ++ wX3 cy b u)) rfl rfl rfl rfl g4)
      have hP : va_P (dC, dI) vwCl (cX0 cy a b (X0_mounds v) (X0_opened v) (X0_roots v) (X0_traps v) (X0_tunnels v) (X0_molesR v) (va_up (X0_moles v) ((X0_molesR v) x1.toNatClampNeg) ((X1_directions ((X0_moles v) ((X0_molesR v) x1.toNatClampNeg))), (X1_trail ((X0_moles v) ((X0_molesR v) x1.toNatClampNeg))), (X1_planned ((X0_moles v) ((X0_molesR v) x1.toNatClampNeg))), (X1_trailLength ((X0_moles v) ((X0_molesR v) x1.toNatClampNeg))), ((X1_air ((X0_moles v) ((X0_molesR v) x1.toNatClampNeg))) - 1), (X1_steps ((X0_moles v) ((X0_molesR v) x1.toNatClampNeg))), (X1_lost ((X0_moles v) ((X0_molesR v) x1.toNatClampNeg))))) (X0_moleCount v) (X0_fullAir v) (X0_beats v) (X0_caught v) (X0_gnawed v) (X0_risen v) (X0_fallen v) ++ wX3 cy b u) H := by rw [← eW]; exact hP
      have hD : va_D A (cX0 cy a b (X0_mounds v) (X0_opened v) (X0_roots v) (X0_traps v) (X0_tunnels v) (X0_molesR v) (va_up (X0_moles v) ((X0_molesR v) x1.toNatClampNeg) ((X1_directions ((X0_moles v) ((X0_molesR v) x1.toNatClampNeg))), (X1_trail ((X0_moles v) ((X0_molesR v) x1.toNatClampNeg))), (X1_planned ((X0_moles v) ((X0_molesR v) x1.toNatClampNeg))), (X1_trailLength ((X0_moles v) ((X0_molesR v) x1.toNatClampNeg))), ((X1_air ((X0_moles v) ((X0_molesR v) x1.toNatClampNeg))) - 1), (X1_steps ((X0_moles v) ((X0_molesR v) x1.toNatClampNeg))), (X1_lost ((X0_moles v) ((X0_molesR v) x1.toNatClampNeg))))) (X0_moleCount v) (X0_fullAir v) (X0_beats v) (X0_caught v) (X0_gnawed v) (X0_risen v) (X0_fallen v) ++ wX3 cy b u) := by rw [← eW]; exact hD
      refine lv_aload_n hx hb dX0_staysAfterTurn_51 rfl (lv_at hl 2 rfl) ?_
      refine va_get (D := (dC, dI)) (ci := 0) (v := .ref (a 3)) (C := RX0) (T := TX0) (N := 14) hx hb hts iK0 hown hK hP 0 rfl rfl 2 (by decide) lk5 (fun _ h9 => h9) rfl dX0_staysAfterTurn_52 ?_
      refine lv_iload_n hx hb dX0_staysAfterTurn_55 rfl (lv_at hl 0 rfl) ?_
      obtain ⟨g6, hq⟩ := hq
      refine va_iald hx hb hK hP 3 0 rfl rfl g6 dX0_staysAfterTurn_56 ?_
      obtain ⟨hqA, hqB⟩ := hq
      refine lv_if_le (tgt := 83) hx hb dX0_staysAfterTurn_57 (by decide) (fun c9 => ?_) (fun c9 => ?_)
      · have hq := hqA c9
        refine lv_aload_n hx hb dX0_staysAfterTurn_83 rfl (lv_at hl 1 rfl) ?_
        have hC : (([(9 + 3 * ((X0_molesR v) x1.toNatClampNeg)), (10 + 3 * ((X0_molesR v) x1.toNatClampNeg)), (11 + 3 * ((X0_molesR v) x1.toNatClampNeg))] : List Nat).map (fun i => (cX0 cy a b (X0_mounds v) (X0_opened v) (X0_roots v) (X0_traps v) (X0_tunnels v) (X0_molesR v) (va_up (X0_moles v) ((X0_molesR v) x1.toNatClampNeg) ((X1_directions ((X0_moles v) ((X0_molesR v) x1.toNatClampNeg))), (X1_trail ((X0_moles v) ((X0_molesR v) x1.toNatClampNeg))), (X1_planned ((X0_moles v) ((X0_molesR v) x1.toNatClampNeg))), (X1_trailLength ((X0_moles v) ((X0_molesR v) x1.toNatClampNeg))), ((X1_air ((X0_moles v) ((X0_molesR v) x1.toNatClampNeg))) - 1), (X1_steps ((X0_moles v) ((X0_molesR v) x1.toNatClampNeg))), (X1_lost ((X0_moles v) ((X0_molesR v) x1.toNatClampNeg))))) (X0_moleCount v) (X0_fullAir v) (X0_beats v) (X0_caught v) (X0_gnawed v) (X0_risen v) (X0_fallen v) ++ wX3 cy b u)[i]?)) = (wX1 cy (sh a (9 + 3 * ((X0_molesR v) x1.toNatClampNeg))) ((va_up (X0_moles v) ((X0_molesR v) x1.toNatClampNeg) ((X1_directions ((X0_moles v) ((X0_molesR v) x1.toNatClampNeg))), (X1_trail ((X0_moles v) ((X0_molesR v) x1.toNatClampNeg))), (X1_planned ((X0_moles v) ((X0_molesR v) x1.toNatClampNeg))), (X1_trailLength ((X0_moles v) ((X0_molesR v) x1.toNatClampNeg))), ((X1_air ((X0_moles v) ((X0_molesR v) x1.toNatClampNeg))) - 1), (X1_steps ((X0_moles v) ((X0_molesR v) x1.toNatClampNeg))), (X1_lost ((X0_moles v) ((X0_molesR v) x1.toNatClampNeg))))) ((X0_molesR v) x1.toNatClampNeg))).map some := (co_4 (P := fun i19 => (([(9 + 3 * i19), (10 + 3 * i19), (11 + 3 * i19)] : List Nat).map (fun i => (cX0 cy a b (X0_mounds v) (X0_opened v) (X0_roots v) (X0_traps v) (X0_tunnels v) (X0_molesR v) (va_up (X0_moles v) i19 ((X1_directions ((X0_moles v) i19)), (X1_trail ((X0_moles v) i19)), (X1_planned ((X0_moles v) i19)), (X1_trailLength ((X0_moles v) i19)), ((X1_air ((X0_moles v) i19)) - 1), (X1_steps ((X0_moles v) i19)), (X1_lost ((X0_moles v) i19)))) (X0_moleCount v) (X0_fullAir v) (X0_beats v) (X0_caught v) (X0_gnawed v) (X0_risen v) (X0_fallen v) ++ wX3 cy b u)[i]?)) = (wX1 cy (sh a (9 + 3 * i19)) ((va_up (X0_moles v) i19 ((X1_directions ((X0_moles v) i19)), (X1_trail ((X0_moles v) i19)), (X1_planned ((X0_moles v) i19)), (X1_trailLength ((X0_moles v) i19)), ((X1_air ((X0_moles v) i19)) - 1), (X1_steps ((X0_moles v) i19)), (X1_lost ((X0_moles v) i19)))) i19)).map some) rfl rfl rfl rfl g4)
        simp only [va_up_self] at hC
        have hN : va_nd [(9 + 3 * ((X0_molesR v) x1.toNatClampNeg)), (10 + 3 * ((X0_molesR v) x1.toNatClampNeg)), (11 + 3 * ((X0_molesR v) x1.toNatClampNeg))] = true := (co_4 (P := fun i19 => va_nd [(9 + 3 * i19), (10 + 3 * i19), (11 + 3 * i19)] = true) rfl rfl rfl rfl g4)
        have hPc := xsubP hP hC
        have hDc := xsubD hD hN hC
        have hFc := va_free (wc := (cX1 cy (sh a (9 + 3 * ((X0_molesR v) x1.toNatClampNeg))) (X1_directions ((X0_moles v) ((X0_molesR v) x1.toNatClampNeg))) (X1_trail ((X0_moles v) ((X0_molesR v) x1.toNatClampNeg))) (X1_planned ((X0_moles v) ((X0_molesR v) x1.toNatClampNeg))) (X1_trailLength ((X0_moles v) ((X0_molesR v) x1.toNatClampNeg))) ((X1_air ((X0_moles v) ((X0_molesR v) x1.toNatClampNeg))) - 1) (X1_steps ((X0_moles v) ((X0_molesR v) x1.toNatClampNeg))) (X1_lost ((X0_moles v) ((X0_molesR v) x1.toNatClampNeg))))) hD hS hAe0 [(9 + 3 * ((X0_molesR v) x1.toNatClampNeg)), (10 + 3 * ((X0_molesR v) x1.toNatClampNeg)), (11 + 3 * ((X0_molesR v) x1.toNatClampNeg))] hC
        refine va_callv (va_runV (As := []) (rest := []) ⟨hx, hb, hml, hown, hts⟩ (c_X1_dropDirection l dC dI cy (sh a (9 + 3 * ((X0_molesR v) x1.toNatClampNeg))) _ (X1_s4 ((X0_moles v) ((X0_molesR v) x1.toNatClampNeg)) ((X1_air ((X0_moles v) ((X0_molesR v) x1.toNatClampNeg))) - 1)) _ hq) (cwV 0 hts gX0_staysAfterTurn_X1_dropDirection rfl rfl rfl (by decide +kernel) ⟨Nat.le_of_ble_eq_true rfl, Nat.le_of_ble_eq_true rfl⟩) ⟨xPre_blind, va_recv hK hP (ci := 1) (q0 := (9 + 3 * ((X0_molesR v) x1.toNatClampNeg))) rfl ((co_4 (P := fun i19 => (cX0 cy a b (X0_mounds v) (X0_opened v) (X0_roots v) (X0_traps v) (X0_tunnels v) (X0_molesR v) (va_up (X0_moles v) i19 ((X1_directions ((X0_moles v) i19)), (X1_trail ((X0_moles v) i19)), (X1_planned ((X0_moles v) i19)), (X1_trailLength ((X0_moles v) i19)), ((X1_air ((X0_moles v) i19)) - 1), (X1_steps ((X0_moles v) i19)), (X1_lost ((X0_moles v) i19)))) (X0_moleCount v) (X0_fullAir v) (X0_beats v) (X0_caught v) (X0_gnawed v) (X0_risen v) (X0_fallen v) ++ wX3 cy b u)[(9 + 3 * i19)]? = (wX1 cy (sh a (9 + 3 * i19)) ((va_up (X0_moles v) i19 ((X1_directions ((X0_moles v) i19)), (X1_trail ((X0_moles v) i19)), (X1_planned ((X0_moles v) i19)), (X1_trailLength ((X0_moles v) i19)), ((X1_air ((X0_moles v) i19)) - 1), (X1_steps ((X0_moles v) i19)), (X1_lost ((X0_moles v) i19)))) i19))[0]?) rfl rfl rfl rfl g4).trans (congrArg (fun (q : V_X1) => (wX1 cy (sh a (9 + 3 * ((X0_molesR v) x1.toNatClampNeg))) q)[0]?) (va_up_self _ _ _))), xPre_of hPc hK hDc⟩ rfl rfl hl.1 rfl (lv_room (Nat.le_of_ble_eq_true rfl)) dX0_staysAfterTurn_84 ⟨Nat.le_of_ble_eq_true rfl, Nat.le_of_ble_eq_true rfl⟩) hS (fun q _ h => hFc q h) hFc (fun u t H locs ht hvm hq hB hz1 hk1 hS => ?_)
        obtain ⟨z84_v_directions, z84_v_planned⟩ := u
        obtain ⟨hP1, -, hD1⟩ := hB
        rw [ht] at hP1
        obtain ⟨hP, hD⟩ := xj hP hD [(9 + 3 * ((X0_molesR v) x1.toNatClampNeg)), (10 + 3 * ((X0_molesR v) x1.toNatClampNeg)), (11 + 3 * ((X0_molesR v) x1.toNatClampNeg))] (cX1 cy (sh a (9 + 3 * ((X0_molesR v) x1.toNatClampNeg))) z84_v_directions (X1_trail ((X0_moles v) ((X0_molesR v) x1.toNatClampNeg))) z84_v_planned (X1_trailLength ((X0_moles v) ((X0_molesR v) x1.toNatClampNeg))) ((X1_air ((X0_moles v) ((X0_molesR v) x1.toNatClampNeg))) - 1) (X1_steps ((X0_moles v) ((X0_molesR v) x1.toNatClampNeg))) (X1_lost ((X0_moles v) ((X0_molesR v) x1.toNatClampNeg)))) (ws' := (cX0 cy a b (X0_mounds v) (X0_opened v) (X0_roots v) (X0_traps v) (X0_tunnels v) (X0_molesR v) (va_up (X0_moles v) ((X0_molesR v) x1.toNatClampNeg) (z84_v_directions, (X1_trail ((X0_moles v) ((X0_molesR v) x1.toNatClampNeg))), z84_v_planned, (X1_trailLength ((X0_moles v) ((X0_molesR v) x1.toNatClampNeg))), ((X1_air ((X0_moles v) ((X0_molesR v) x1.toNatClampNeg))) - 1), (X1_steps ((X0_moles v) ((X0_molesR v) x1.toNatClampNeg))), (X1_lost ((X0_moles v) ((X0_molesR v) x1.toNatClampNeg))))) (X0_moleCount v) (X0_fullAir v) (X0_beats v) (X0_caught v) (X0_gnawed v) (X0_risen v) (X0_fallen v) ++ wX3 cy b u)) hC rfl (co_4 (P := fun i19 => xput (cX0 cy a b (X0_mounds v) (X0_opened v) (X0_roots v) (X0_traps v) (X0_tunnels v) (X0_molesR v) (va_up (X0_moles v) i19 ((X1_directions ((X0_moles v) i19)), (X1_trail ((X0_moles v) i19)), (X1_planned ((X0_moles v) i19)), (X1_trailLength ((X0_moles v) i19)), ((X1_air ((X0_moles v) i19)) - 1), (X1_steps ((X0_moles v) i19)), (X1_lost ((X0_moles v) i19)))) (X0_moleCount v) (X0_fullAir v) (X0_beats v) (X0_caught v) (X0_gnawed v) (X0_risen v) (X0_fallen v) ++ wX3 cy b u) [(9 + 3 * i19), (10 + 3 * i19), (11 + 3 * i19)] (cX1 cy (sh a (9 + 3 * i19)) z84_v_directions (X1_trail ((X0_moles v) i19)) z84_v_planned (X1_trailLength ((X0_moles v) i19)) ((X1_air ((X0_moles v) i19)) - 1) (X1_steps ((X0_moles v) i19)) (X1_lost ((X0_moles v) i19))) = (cX0 cy a b (X0_mounds v) (X0_opened v) (X0_roots v) (X0_traps v) (X0_tunnels v) (X0_molesR v) (va_up (X0_moles v) i19 (z84_v_directions, (X1_trail ((X0_moles v) i19)), z84_v_planned, (X1_trailLength ((X0_moles v) i19)), ((X1_air ((X0_moles v) i19)) - 1), (X1_steps ((X0_moles v) i19)), (X1_lost ((X0_moles v) i19)))) (X0_moleCount v) (X0_fullAir v) (X0_beats v) (X0_caught v) (X0_gnawed v) (X0_risen v) (X0_fallen v) ++ wX3 cy b u)) rfl rfl rfl rfl g4) hk1 hFc hP1
        refine lv_aload_n hx hb dX0_staysAfterTurn_87 rfl (lv_at hl 1 rfl) ?_
        refine lv_iload_n hx hb dX0_staysAfterTurn_88 rfl (lv_at hl 0 rfl) ?_
        have hC : (([(9 + 3 * ((X0_molesR v) x1.toNatClampNeg)), (10 + 3 * ((X0_molesR v) x1.toNatClampNeg)), (11 + 3 * ((X0_molesR v) x1.toNatClampNeg))] : List Nat).map (fun i => (cX0 cy a b (X0_mounds v) (X0_opened v) (X0_roots v) (X0_traps v) (X0_tunnels v) (X0_molesR v) (va_up (X0_moles v) ((X0_molesR v) x1.toNatClampNeg) (z84_v_directions, (X1_trail ((X0_moles v) ((X0_molesR v) x1.toNatClampNeg))), z84_v_planned, (X1_trailLength ((X0_moles v) ((X0_molesR v) x1.toNatClampNeg))), ((X1_air ((X0_moles v) ((X0_molesR v) x1.toNatClampNeg))) - 1), (X1_steps ((X0_moles v) ((X0_molesR v) x1.toNatClampNeg))), (X1_lost ((X0_moles v) ((X0_molesR v) x1.toNatClampNeg))))) (X0_moleCount v) (X0_fullAir v) (X0_beats v) (X0_caught v) (X0_gnawed v) (X0_risen v) (X0_fallen v) ++ wX3 cy b u)[i]?)) = (wX1 cy (sh a (9 + 3 * ((X0_molesR v) x1.toNatClampNeg))) ((va_up (X0_moles v) ((X0_molesR v) x1.toNatClampNeg) (z84_v_directions, (X1_trail ((X0_moles v) ((X0_molesR v) x1.toNatClampNeg))), z84_v_planned, (X1_trailLength ((X0_moles v) ((X0_molesR v) x1.toNatClampNeg))), ((X1_air ((X0_moles v) ((X0_molesR v) x1.toNatClampNeg))) - 1), (X1_steps ((X0_moles v) ((X0_molesR v) x1.toNatClampNeg))), (X1_lost ((X0_moles v) ((X0_molesR v) x1.toNatClampNeg))))) ((X0_molesR v) x1.toNatClampNeg))).map some := (co_4 (P := fun i19 => (([(9 + 3 * i19), (10 + 3 * i19), (11 + 3 * i19)] : List Nat).map (fun i => (cX0 cy a b (X0_mounds v) (X0_opened v) (X0_roots v) (X0_traps v) (X0_tunnels v) (X0_molesR v) (va_up (X0_moles v) i19 (z84_v_directions, (X1_trail ((X0_moles v) i19)), z84_v_planned, (X1_trailLength ((X0_moles v) i19)), ((X1_air ((X0_moles v) i19)) - 1), (X1_steps ((X0_moles v) i19)), (X1_lost ((X0_moles v) i19)))) (X0_moleCount v) (X0_fullAir v) (X0_beats v) (X0_caught v) (X0_gnawed v) (X0_risen v) (X0_fallen v) ++ wX3 cy b u)[i]?)) = (wX1 cy (sh a (9 + 3 * i19)) ((va_up (X0_moles v) i19 (z84_v_directions, (X1_trail ((X0_moles v) i19)), z84_v_planned, (X1_trailLength ((X0_moles v) i19)), ((X1_air ((X0_moles v) i19)) - 1), (X1_steps ((X0_moles v) i19)), (X1_lost ((X0_moles v) i19)))) i19)).map some) rfl rfl rfl rfl g4)
        simp only [va_up_self] at hC
        have hN : va_nd [(9 + 3 * ((X0_molesR v) x1.toNatClampNeg)), (10 + 3 * ((X0_molesR v) x1.toNatClampNeg)), (11 + 3 * ((X0_molesR v) x1.toNatClampNeg))] = true := (co_4 (P := fun i19 => va_nd [(9 + 3 * i19), (10 + 3 * i19), (11 + 3 * i19)] = true) rfl rfl rfl rfl g4)
        have hPc := xsubP hP hC
        have hDc := xsubD hD hN hC
        have hFc := va_free (wc := (cX1 cy (sh a (9 + 3 * ((X0_molesR v) x1.toNatClampNeg))) z84_v_directions (X1_trail ((X0_moles v) ((X0_molesR v) x1.toNatClampNeg))) z84_v_planned (X1_trailLength ((X0_moles v) ((X0_molesR v) x1.toNatClampNeg))) ((X1_air ((X0_moles v) ((X0_molesR v) x1.toNatClampNeg))) - 1) (X1_steps ((X0_moles v) ((X0_molesR v) x1.toNatClampNeg))) (X1_lost ((X0_moles v) ((X0_molesR v) x1.toNatClampNeg))))) hD hS hAe0 [(9 + 3 * ((X0_molesR v) x1.toNatClampNeg)), (10 + 3 * ((X0_molesR v) x1.toNatClampNeg)), (11 + 3 * ((X0_molesR v) x1.toNatClampNeg))] hC
        refine va_callv (va_runV (As := [.int r26]) (rest := []) ⟨hx, hb, hml, hown, hts⟩ (c_X1_go l dC dI cy (sh a (9 + 3 * ((X0_molesR v) x1.toNatClampNeg))) _ (X1_s4 (X1_s2 (X1_s0 ((X0_moles v) ((X0_molesR v) x1.toNatClampNeg)) z84_v_directions) z84_v_planned) ((X1_air ((X0_moles v) ((X0_molesR v) x1.toNatClampNeg))) - 1)) r26 _ hq) (cwV 1 hts gX0_staysAfterTurn_X1_go rfl rfl rfl (by decide +kernel) ⟨Nat.le_of_ble_eq_true rfl, Nat.le_of_ble_eq_true rfl⟩) ⟨xPre_blind, va_recv hK hP (ci := 1) (q0 := (9 + 3 * ((X0_molesR v) x1.toNatClampNeg))) rfl ((co_4 (P := fun i19 => (cX0 cy a b (X0_mounds v) (X0_opened v) (X0_roots v) (X0_traps v) (X0_tunnels v) (X0_molesR v) (va_up (X0_moles v) i19 (z84_v_directions, (X1_trail ((X0_moles v) i19)), z84_v_planned, (X1_trailLength ((X0_moles v) i19)), ((X1_air ((X0_moles v) i19)) - 1), (X1_steps ((X0_moles v) i19)), (X1_lost ((X0_moles v) i19)))) (X0_moleCount v) (X0_fullAir v) (X0_beats v) (X0_caught v) (X0_gnawed v) (X0_risen v) (X0_fallen v) ++ wX3 cy b u)[(9 + 3 * i19)]? = (wX1 cy (sh a (9 + 3 * i19)) ((va_up (X0_moles v) i19 (z84_v_directions, (X1_trail ((X0_moles v) i19)), z84_v_planned, (X1_trailLength ((X0_moles v) i19)), ((X1_air ((X0_moles v) i19)) - 1), (X1_steps ((X0_moles v) i19)), (X1_lost ((X0_moles v) i19)))) i19))[0]?) rfl rfl rfl rfl g4).trans (congrArg (fun (q : V_X1) => (wX1 cy (sh a (9 + 3 * ((X0_molesR v) x1.toNatClampNeg))) q)[0]?) (va_up_self _ _ _))), xPre_of hPc hK hDc⟩ rfl rfl hl.1 rfl (lv_room (Nat.le_of_ble_eq_true rfl)) dX0_staysAfterTurn_89 ⟨Nat.le_of_ble_eq_true rfl, Nat.le_of_ble_eq_true rfl⟩) hS (fun q _ h => hFc q h) hFc (fun u t H locs ht hvm hq hB hz1 hk1 hS => ?_)
        obtain ⟨z89_v_steps, z89_v_trail, z89_v_trailLength⟩ := u
        obtain ⟨hP1, -, hD1⟩ := hB
        rw [ht] at hP1
        obtain ⟨hP, hD⟩ := xj hP hD [(9 + 3 * ((X0_molesR v) x1.toNatClampNeg)), (10 + 3 * ((X0_molesR v) x1.toNatClampNeg)), (11 + 3 * ((X0_molesR v) x1.toNatClampNeg))] (cX1 cy (sh a (9 + 3 * ((X0_molesR v) x1.toNatClampNeg))) z84_v_directions z89_v_trail z84_v_planned z89_v_trailLength ((X1_air ((X0_moles v) ((X0_molesR v) x1.toNatClampNeg))) - 1) z89_v_steps (X1_lost ((X0_moles v) ((X0_molesR v) x1.toNatClampNeg)))) (ws' := (cX0 cy a b (X0_mounds v) (X0_opened v) (X0_roots v) (X0_traps v) (X0_tunnels v) (X0_molesR v) (va_up (X0_moles v) ((X0_molesR v) x1.toNatClampNeg) (z84_v_directions, z89_v_trail, z84_v_planned, z89_v_trailLength, ((X1_air ((X0_moles v) ((X0_molesR v) x1.toNatClampNeg))) - 1), z89_v_steps, (X1_lost ((X0_moles v) ((X0_molesR v) x1.toNatClampNeg))))) (X0_moleCount v) (X0_fullAir v) (X0_beats v) (X0_caught v) (X0_gnawed v) (X0_risen v) (X0_fallen v) ++ wX3 cy b u)) hC rfl (co_4 (P := fun i19 => xput (cX0 cy a b (X0_mounds v) (X0_opened v) (X0_roots v) (X0_traps v) (X0_tunnels v) (X0_molesR v) (va_up (X0_moles v) i19 (z84_v_directions, (X1_trail ((X0_moles v) i19)), z84_v_planned, (X1_trailLength ((X0_moles v) i19)), ((X1_air ((X0_moles v) i19)) - 1), (X1_steps ((X0_moles v) i19)), (X1_lost ((X0_moles v) i19)))) (X0_moleCount v) (X0_fullAir v) (X0_beats v) (X0_caught v) (X0_gnawed v) (X0_risen v) (X0_fallen v) ++ wX3 cy b u) [(9 + 3 * i19), (10 + 3 * i19), (11 + 3 * i19)] (cX1 cy (sh a (9 + 3 * i19)) z84_v_directions z89_v_trail z84_v_planned z89_v_trailLength ((X1_air ((X0_moles v) i19)) - 1) z89_v_steps (X1_lost ((X0_moles v) i19))) = (cX0 cy a b (X0_mounds v) (X0_opened v) (X0_roots v) (X0_traps v) (X0_tunnels v) (X0_molesR v) (va_up (X0_moles v) i19 (z84_v_directions, z89_v_trail, z84_v_planned, z89_v_trailLength, ((X1_air ((X0_moles v) i19)) - 1), z89_v_steps, (X1_lost ((X0_moles v) i19)))) (X0_moleCount v) (X0_fullAir v) (X0_beats v) (X0_caught v) (X0_gnawed v) (X0_risen v) (X0_fallen v) ++ wX3 cy b u)) rfl rfl rfl rfl g4) hk1 hFc hP1
        refine lv_aload_n hx hb dX0_staysAfterTurn_92 rfl (lv_at hl 2 rfl) ?_
        refine va_get (D := (dC, dI)) (ci := 0) (v := .ref (a 4)) (C := RX0) (T := TX0) (N := 14) hx hb hts iK0 hown hK hP 0 rfl rfl 3 (by decide) lk6 (fun _ h9 => h9) rfl dX0_staysAfterTurn_93 ?_
        refine lv_iload_n hx hb dX0_staysAfterTurn_96 rfl (lv_at hl 0 rfl) ?_
        refine va_iald hx hb hK hP 4 0 rfl rfl g6 dX0_staysAfterTurn_97 ?_
        refine lv_istore (lv' := [(4, .int ((X0_traps v) r26.toNatClampNeg)), (3, .int r26), (2, .ref (a (9 + 3 * ((X0_molesR v) x1.toNatClampNeg)))), (0, .ref (a 0)), (1, .int x1)]) hx hb dX0_staysAfterTurn_98 hl (by decide) rfl (fun ls hl => ?_)
        refine lv_aload_n hx hb dX0_staysAfterTurn_100 rfl (lv_at hl 3 rfl) ?_
        refine va_get (D := (dC, dI)) (ci := 0) (v := .ref (a 4)) (C := RX0) (T := TX0) (N := 14) hx hb hts iK0 hown hK hP 0 rfl rfl 3 (by decide) lk6 (fun _ h9 => h9) rfl dX0_staysAfterTurn_101 ?_
        refine lv_iload_n hx hb dX0_staysAfterTurn_104 rfl (lv_at hl 1 rfl) ?_
        refine lv_iconst (v := (-1)) hx hb dX0_staysAfterTurn_105 (by decide) ?_
        refine va_iast hx hb hK hP hD hS 4 0 rfl rfl g6 dX0_staysAfterTurn_106 (fun H locs hP hD hS => ?_)
        have hP : va_P (dC, dI) vwCl (cX0 cy a b (X0_mounds v) (X0_opened v) (X0_roots v) (upd (X0_traps v) r26.toNatClampNeg (-1)) (X0_tunnels v) (X0_molesR v) (va_up (X0_moles v) ((X0_molesR v) x1.toNatClampNeg) (z84_v_directions, z89_v_trail, z84_v_planned, z89_v_trailLength, ((X1_air ((X0_moles v) ((X0_molesR v) x1.toNatClampNeg))) - 1), z89_v_steps, (X1_lost ((X0_moles v) ((X0_molesR v) x1.toNatClampNeg))))) (X0_moleCount v) (X0_fullAir v) (X0_beats v) (X0_caught v) (X0_gnawed v) (X0_risen v) (X0_fallen v) ++ wX3 cy b u) H := hP
        have hD : va_D A (cX0 cy a b (X0_mounds v) (X0_opened v) (X0_roots v) (upd (X0_traps v) r26.toNatClampNeg (-1)) (X0_tunnels v) (X0_molesR v) (va_up (X0_moles v) ((X0_molesR v) x1.toNatClampNeg) (z84_v_directions, z89_v_trail, z84_v_planned, z89_v_trailLength, ((X1_air ((X0_moles v) ((X0_molesR v) x1.toNatClampNeg))) - 1), z89_v_steps, (X1_lost ((X0_moles v) ((X0_molesR v) x1.toNatClampNeg))))) (X0_moleCount v) (X0_fullAir v) (X0_beats v) (X0_caught v) (X0_gnawed v) (X0_risen v) (X0_fallen v) ++ wX3 cy b u) := hD
        refine lv_iload hx hb dX0_staysAfterTurn_107 (lv_at hl 0 rfl) ?_
        obtain ⟨hqA, hqB⟩ := hq
        refine lv_if_ne (tgt := 119) hx hb dX0_staysAfterTurn_109 (by decide) (fun c8 => ?_) (fun c8 => ?_)
        · have hq := hqB c8
          refine lv_aload_n hx hb dX0_staysAfterTurn_119 rfl (lv_at hl 3 rfl) ?_
          refine va_get (D := (dC, dI)) (ci := 0) (v := .ref (a 1)) (C := RX0) (T := TX0) (N := 14) hx hb hts iK0 hown hK hP 0 rfl rfl 0 (by decide) lk7 (fun _ h9 => h9) rfl dX0_staysAfterTurn_120 ?_
          refine lv_iload_n hx hb dX0_staysAfterTurn_123 rfl (lv_at hl 1 rfl) ?_
          refine va_zald hx hb hK hP 1 1 rfl rfl g6 dX0_staysAfterTurn_124 ?_
          obtain ⟨hqA, hqB⟩ := hq
          refine lv_if_eq (tgt := 135) hx hb dX0_staysAfterTurn_125 (by decide) (fun c7 => ?_) (fun c7 => ?_)
          · have hq := hqA c7
            exact J135 ((X0_molesR v) x1.toNatClampNeg) (X0_caught v) (X0_gnawed v) (X0_moleCount v) (va_up (X0_moles v) ((X0_molesR v) x1.toNatClampNeg) (X1_s5 (X1_s4 (X1_s3 (X1_s2 (X1_s1 (X1_s0 ((X0_moles v) ((X0_molesR v) x1.toNatClampNeg)) z84_v_directions) z89_v_trail) z84_v_planned) z89_v_trailLength) ((X1_air ((X0_moles v) ((X0_molesR v) x1.toNatClampNeg))) - 1)) z89_v_steps)) (X0_molesR v) (X0_roots v) (upd (X0_traps v) r26.toNatClampNeg (-1)) (X0_tunnels v)  _ _ _ hq hP hD hS (lv_sub hl [3, 2] rfl)
          · have hq := hqB c7
            refine lv_aload_n hx hb dX0_staysAfterTurn_128 rfl (lv_at hl 3 rfl) ?_
            refine lv_aload_n hx hb dX0_staysAfterTurn_129 rfl (lv_at hl 2 rfl) ?_
            have hC : (([0, 1, 2, 3, 4, 5, 6, 7, 8, 9, 10, 11, 12, 13, 14, 15, 16, 17, 18, 19, 20] : List Nat).map (fun i => (cX0 cy a b (X0_mounds v) (X0_opened v) (X0_roots v) (upd (X0_traps v) r26.toNatClampNeg (-1)) (X0_tunnels v) (X0_molesR v) (va_up (X0_moles v) ((X0_molesR v) x1.toNatClampNeg) (z84_v_directions, z89_v_trail, z84_v_planned, z89_v_trailLength, ((X1_air ((X0_moles v) ((X0_molesR v) x1.toNatClampNeg))) - 1), z89_v_steps, (X1_lost ((X0_moles v) ((X0_molesR v) x1.toNatClampNeg))))) (X0_moleCount v) (X0_fullAir v) (X0_beats v) (X0_caught v) (X0_gnawed v) (X0_risen v) (X0_fallen v) ++ wX3 cy b u)[i]?)) = (cX0 cy a b (X0_mounds v) (X0_opened v) (X0_roots v) (upd (X0_traps v) r26.toNatClampNeg (-1)) (X0_tunnels v) (X0_molesR v) (va_up (X0_moles v) ((X0_molesR v) x1.toNatClampNeg) (z84_v_directions, z89_v_trail, z84_v_planned, z89_v_trailLength, ((X1_air ((X0_moles v) ((X0_molesR v) x1.toNatClampNeg))) - 1), z89_v_steps, (X1_lost ((X0_moles v) ((X0_molesR v) x1.toNatClampNeg))))) (X0_moleCount v) (X0_fullAir v) (X0_beats v) (X0_caught v) (X0_gnawed v) (X0_risen v) (X0_fallen v)).map some := rfl
            have hPc := xsubP hP hC
            have hDc := xsubD hD (by decide) hC
            have hFc := va_free (wc := (cX0 cy a b (X0_mounds v) (X0_opened v) (X0_roots v) (upd (X0_traps v) r26.toNatClampNeg (-1)) (X0_tunnels v) (X0_molesR v) (va_up (X0_moles v) ((X0_molesR v) x1.toNatClampNeg) (z84_v_directions, z89_v_trail, z84_v_planned, z89_v_trailLength, ((X1_air ((X0_moles v) ((X0_molesR v) x1.toNatClampNeg))) - 1), z89_v_steps, (X1_lost ((X0_moles v) ((X0_molesR v) x1.toNatClampNeg))))) (X0_moleCount v) (X0_fullAir v) (X0_beats v) (X0_caught v) (X0_gnawed v) (X0_risen v) (X0_fallen v))) hD hS hAe0 [0, 1, 2, 3, 4, 5, 6, 7, 8, 9, 10, 11, 12, 13, 14, 15, 16, 17, 18, 19, 20] hC
            refine va_callv (va_runV (As := [.ref (a (9 + 3 * ((X0_molesR v) x1.toNatClampNeg)))]) (rest := []) ⟨hx, hb, hml, hown, hts⟩ (c_X0_finishTrail l dC dI cy a b _ (X0_s6 (X0_s3 v (upd (X0_traps v) r26.toNatClampNeg (-1))) (va_up (X0_moles v) ((X0_molesR v) x1.toNatClampNeg) (X1_s5 (X1_s4 (X1_s3 (X1_s2 (X1_s1 (X1_s0 ((X0_moles v) ((X0_molesR v) x1.toNatClampNeg)) z84_v_directions) z89_v_trail) z84_v_planned) z89_v_trailLength) ((X1_air ((X0_moles v) ((X0_molesR v) x1.toNatClampNeg))) - 1)) z89_v_steps))) ((X0_molesR v) x1.toNatClampNeg) _ hq g4) (cwV 1 hts gX0_staysAfterTurn_X0_finishTrail rfl rfl rfl (by decide +kernel) ⟨Nat.le_of_ble_eq_true rfl, Nat.le_of_ble_eq_true rfl⟩) ⟨xPre_blind, va_recv hK hP (ci := 0) (q0 := 0) rfl rfl, xPre_of hPc hK hDc⟩ rfl rfl hl.1 rfl (lv_room (Nat.le_of_ble_eq_true rfl)) dX0_staysAfterTurn_130 ⟨Nat.le_of_ble_eq_true rfl, Nat.le_of_ble_eq_true rfl⟩) hS (fun q _ h => hFc q h) hFc (fun u t H locs ht hvm hq hB hz1 hk1 hS => ?_)
            obtain ⟨z130_v_moles, z130_v_tunnels⟩ := u
            obtain ⟨hP1, -, hD1⟩ := hB
            rw [ht] at hP1
            obtain ⟨hP, hD⟩ := xj hP hD [0, 1, 2, 3, 4, 5, 6, 7, 8, 9, 10, 11, 12, 13, 14, 15, 16, 17, 18, 19, 20] (cX0 cy a b (X0_mounds v) (X0_opened v) (X0_roots v) (upd (X0_traps v) r26.toNatClampNeg (-1)) z130_v_tunnels (X0_molesR v) z130_v_moles (X0_moleCount v) (X0_fullAir v) (X0_beats v) (X0_caught v) (X0_gnawed v) (X0_risen v) (X0_fallen v)) (ws' := (cX0 cy a b (X0_mounds v) (X0_opened v) (X0_roots v) (upd (X0_traps v) r26.toNatClampNeg (-1)) z130_v_tunnels (X0_molesR v) z130_v_moles (X0_moleCount v) (X0_fullAir v) (X0_beats v) (X0_caught v) (X0_gnawed v) (X0_risen v) (X0_fallen v) ++ wX3 cy b u)) hC rfl rfl hk1 hFc hP1
            refine lv_iconst (v := 1) hx hb dX0_staysAfterTurn_133 (by decide) ?_
            exact W.zret (v := 1) hx hb hr rfl (fun t ht hW => ⟨⟨1, ((X3_cells u), (X3_ends u), (X3_size u), (X3_used u), (X0_caught v), (X0_gnawed v), (X0_moleCount v), z130_v_moles, (X0_molesR v), (X0_mounds v), (X0_risen v), (X0_roots v), (upd (X0_traps v) r26.toNatClampNeg (-1)), z130_v_tunnels), rfl, hq, (xAt_of hP hK hD ht hW)⟩, hS.F ht⟩) hS.2.2 dX0_staysAfterTurn_134
        · have hq := hqA c8
          refine lv_aload_n hx hb dX0_staysAfterTurn_112 rfl (lv_at hl 3 rfl) ?_
          refine lv_iload_n hx hb dX0_staysAfterTurn_113 rfl (lv_at hl 4 rfl) ?_
          have hC : (([0, 1, 2, 3, 4, 5, 6, 7, 8, 9, 10, 11, 12, 13, 14, 15, 16, 17, 18, 19, 20] : List Nat).map (fun i => (cX0 cy a b (X0_mounds v) (X0_opened v) (X0_roots v) (upd (X0_traps v) r26.toNatClampNeg (-1)) (X0_tunnels v) (X0_molesR v) (va_up (X0_moles v) ((X0_molesR v) x1.toNatClampNeg) (z84_v_directions, z89_v_trail, z84_v_planned, z89_v_trailLength, ((X1_air ((X0_moles v) ((X0_molesR v) x1.toNatClampNeg))) - 1), z89_v_steps, (X1_lost ((X0_moles v) ((X0_molesR v) x1.toNatClampNeg))))) (X0_moleCount v) (X0_fullAir v) (X0_beats v) (X0_caught v) (X0_gnawed v) (X0_risen v) (X0_fallen v) ++ wX3 cy b u)[i]?)) = (cX0 cy a b (X0_mounds v) (X0_opened v) (X0_roots v) (upd (X0_traps v) r26.toNatClampNeg (-1)) (X0_tunnels v) (X0_molesR v) (va_up (X0_moles v) ((X0_molesR v) x1.toNatClampNeg) (z84_v_directions, z89_v_trail, z84_v_planned, z89_v_trailLength, ((X1_air ((X0_moles v) ((X0_molesR v) x1.toNatClampNeg))) - 1), z89_v_steps, (X1_lost ((X0_moles v) ((X0_molesR v) x1.toNatClampNeg))))) (X0_moleCount v) (X0_fullAir v) (X0_beats v) (X0_caught v) (X0_gnawed v) (X0_risen v) (X0_fallen v)).map some := rfl
          have hPc := xsubP hP hC
          have hDc := xsubD hD (by decide) hC
          have hFc := va_free (wc := (cX0 cy a b (X0_mounds v) (X0_opened v) (X0_roots v) (upd (X0_traps v) r26.toNatClampNeg (-1)) (X0_tunnels v) (X0_molesR v) (va_up (X0_moles v) ((X0_molesR v) x1.toNatClampNeg) (z84_v_directions, z89_v_trail, z84_v_planned, z89_v_trailLength, ((X1_air ((X0_moles v) ((X0_molesR v) x1.toNatClampNeg))) - 1), z89_v_steps, (X1_lost ((X0_moles v) ((X0_molesR v) x1.toNatClampNeg))))) (X0_moleCount v) (X0_fullAir v) (X0_beats v) (X0_caught v) (X0_gnawed v) (X0_risen v) (X0_fallen v))) hD hS hAe0 [0, 1, 2, 3, 4, 5, 6, 7, 8, 9, 10, 11, 12, 13, 14, 15, 16, 17, 18, 19, 20] hC
          refine va_callv (va_runV (As := [.int x1]) (rest := []) ⟨hx, hb, hml, hown, hts⟩ (c_X0_catchMole l dC dI cy a b _ (X0_s6 (X0_s3 v (upd (X0_traps v) r26.toNatClampNeg (-1))) (va_up (X0_moles v) ((X0_molesR v) x1.toNatClampNeg) (X1_s5 (X1_s4 (X1_s3 (X1_s2 (X1_s1 (X1_s0 ((X0_moles v) ((X0_molesR v) x1.toNatClampNeg)) z84_v_directions) z89_v_trail) z84_v_planned) z89_v_trailLength) ((X1_air ((X0_moles v) ((X0_molesR v) x1.toNatClampNeg))) - 1)) z89_v_steps))) x1 _ hq) (cwV 1 hts gX0_staysAfterTurn_X0_catchMole rfl rfl rfl (by decide +kernel) ⟨Nat.le_of_ble_eq_true rfl, Nat.le_of_ble_eq_true rfl⟩) ⟨xPre_blind, va_recv hK hP (ci := 0) (q0 := 0) rfl rfl, xPre_of hPc hK hDc⟩ rfl rfl hl.1 rfl (lv_room (Nat.le_of_ble_eq_true rfl)) dX0_staysAfterTurn_114 ⟨Nat.le_of_ble_eq_true rfl, Nat.le_of_ble_eq_true rfl⟩) hS (fun q _ h => hFc q h) hFc (fun u t H locs ht hvm hq hB hz1 hk1 hS => ?_)
          obtain ⟨z114_v_caught, z114_v_moleCount, z114_v_molesR⟩ := u
          obtain ⟨hP1, -, hD1⟩ := hB
          rw [ht] at hP1
          obtain ⟨hP, hD⟩ := xj hP hD [0, 1, 2, 3, 4, 5, 6, 7, 8, 9, 10, 11, 12, 13, 14, 15, 16, 17, 18, 19, 20] (cX0 cy a b (X0_mounds v) (X0_opened v) (X0_roots v) (upd (X0_traps v) r26.toNatClampNeg (-1)) (X0_tunnels v) z114_v_molesR (va_up (X0_moles v) ((X0_molesR v) x1.toNatClampNeg) (z84_v_directions, z89_v_trail, z84_v_planned, z89_v_trailLength, ((X1_air ((X0_moles v) ((X0_molesR v) x1.toNatClampNeg))) - 1), z89_v_steps, (X1_lost ((X0_moles v) ((X0_molesR v) x1.toNatClampNeg))))) z114_v_moleCount (X0_fullAir v) (X0_beats v) z114_v_caught (X0_gnawed v) (X0_risen v) (X0_fallen v)) (ws' := (cX0 cy a b (X0_mounds v) (X0_opened v) (X0_roots v) (upd (X0_traps v) r26.toNatClampNeg (-1)) (X0_tunnels v) z114_v_molesR (va_up (X0_moles v) ((X0_molesR v) x1.toNatClampNeg) (z84_v_directions, z89_v_trail, z84_v_planned, z89_v_trailLength, ((X1_air ((X0_moles v) ((X0_molesR v) x1.toNatClampNeg))) - 1), z89_v_steps, (X1_lost ((X0_moles v) ((X0_molesR v) x1.toNatClampNeg))))) z114_v_moleCount (X0_fullAir v) (X0_beats v) z114_v_caught (X0_gnawed v) (X0_risen v) (X0_fallen v) ++ wX3 cy b u)) hC rfl rfl hk1 hFc hP1
          refine lv_iconst (v := 0) hx hb dX0_staysAfterTurn_117 (by decide) ?_
          exact W.zret (v := 0) hx hb hr rfl (fun t ht hW => ⟨⟨0, ((X3_cells u), (X3_ends u), (X3_size u), (X3_used u), z114_v_caught, (X0_gnawed v), z114_v_moleCount, (va_up (X0_moles v) ((X0_molesR v) x1.toNatClampNeg) (X1_s5 (X1_s4 (X1_s3 (X1_s2 (X1_s1 (X1_s0 ((X0_moles v) ((X0_molesR v) x1.toNatClampNeg)) z84_v_directions) z89_v_trail) z84_v_planned) z89_v_trailLength) ((X1_air ((X0_moles v) ((X0_molesR v) x1.toNatClampNeg))) - 1)) z89_v_steps)), z114_v_molesR, (X0_mounds v), (X0_risen v), (X0_roots v), (upd (X0_traps v) r26.toNatClampNeg (-1)), (X0_tunnels v)), rfl, hq, (xAt_of hP hK hD ht hW)⟩, hS.F ht⟩) hS.2.2 dX0_staysAfterTurn_118
      · have hq := hqB c9
        refine lv_aload_n hx hb dX0_staysAfterTurn_60 rfl (lv_at hl 2 rfl) ?_
        refine va_get (D := (dC, dI)) (ci := 0) (v := .ref (a 3)) (C := RX0) (T := TX0) (N := 14) hx hb hts iK0 hown hK hP 0 rfl rfl 2 (by decide) lk5 (fun _ h9 => h9) rfl dX0_staysAfterTurn_61 ?_
        refine lv_iload_n hx hb dX0_staysAfterTurn_64 rfl (lv_at hl 0 rfl) ?_
        refine lv_dup2_11 hx hb dX0_staysAfterTurn_65 rfl rfl ?_
        refine va_iald hx hb hK hP 3 0 rfl rfl g6 dX0_staysAfterTurn_66 ?_
        refine lv_iconst (v := 1) hx hb dX0_staysAfterTurn_67 (by decide) ?_
        refine lv_isub hx hb dX0_staysAfterTurn_68 ?_
        refine va_iast hx hb hK hP hD hS 3 0 rfl rfl g6 dX0_staysAfterTurn_69 (fun H locs hP hD hS => ?_)
        have hP : va_P (dC, dI) vwCl (cX0 cy a b (X0_mounds v) (X0_opened v) (upd (X0_roots v) r26.toNatClampNeg (((X0_roots v) r26.toNatClampNeg) - 1)) (X0_traps v) (X0_tunnels v) (X0_molesR v) (va_up (X0_moles v) ((X0_molesR v) x1.toNatClampNeg) ((X1_directions ((X0_moles v) ((X0_molesR v) x1.toNatClampNeg))), (X1_trail ((X0_moles v) ((X0_molesR v) x1.toNatClampNeg))), (X1_planned ((X0_moles v) ((X0_molesR v) x1.toNatClampNeg))), (X1_trailLength ((X0_moles v) ((X0_molesR v) x1.toNatClampNeg))), ((X1_air ((X0_moles v) ((X0_molesR v) x1.toNatClampNeg))) - 1), (X1_steps ((X0_moles v) ((X0_molesR v) x1.toNatClampNeg))), (X1_lost ((X0_moles v) ((X0_molesR v) x1.toNatClampNeg))))) (X0_moleCount v) (X0_fullAir v) (X0_beats v) (X0_caught v) (X0_gnawed v) (X0_risen v) (X0_fallen v) ++ wX3 cy b u) H := hP
        have hD : va_D A (cX0 cy a b (X0_mounds v) (X0_opened v) (upd (X0_roots v) r26.toNatClampNeg (((X0_roots v) r26.toNatClampNeg) - 1)) (X0_traps v) (X0_tunnels v) (X0_molesR v) (va_up (X0_moles v) ((X0_molesR v) x1.toNatClampNeg) ((X1_directions ((X0_moles v) ((X0_molesR v) x1.toNatClampNeg))), (X1_trail ((X0_moles v) ((X0_molesR v) x1.toNatClampNeg))), (X1_planned ((X0_moles v) ((X0_molesR v) x1.toNatClampNeg))), (X1_trailLength ((X0_moles v) ((X0_molesR v) x1.toNatClampNeg))), ((X1_air ((X0_moles v) ((X0_molesR v) x1.toNatClampNeg))) - 1), (X1_steps ((X0_moles v) ((X0_molesR v) x1.toNatClampNeg))), (X1_lost ((X0_moles v) ((X0_molesR v) x1.toNatClampNeg))))) (X0_moleCount v) (X0_fullAir v) (X0_beats v) (X0_caught v) (X0_gnawed v) (X0_risen v) (X0_fallen v) ++ wX3 cy b u) := hD
        refine lv_aload_n hx hb dX0_staysAfterTurn_70 rfl (lv_at hl 2 rfl) ?_
        refine lv_dup hx hb dX0_staysAfterTurn_71 rfl ?_
        refine va_get (D := (dC, dI)) (ci := 0) (v := .int (X0_gnawed v)) (C := RX0) (T := TX0) (N := 14) hx hb hts iK0 hown hK hP 0 rfl rfl 11 (by decide) lk8 (fun _ h9 => h9) rfl dX0_staysAfterTurn_72 ?_
        refine lv_iconst (v := 1) hx hb dX0_staysAfterTurn_75 (by decide) ?_
        refine lv_iadd hx hb dX0_staysAfterTurn_76 ?_
        refine va_put (D := (dC, dI)) (ci := 0) (v := .int ((X0_gnawed v) + 1)) (ty := .int) (C := RX0) (T := TX0) (N := 14) hx hb hts iK0 tyX0 tyX0_ok nmX0 hown hK hP hD hS 0 rfl rfl 11 (by decide) lk8 (fun _ h9 => h9) rfl (by decide +kernel) rfl rfl (Nat.le_of_ble_eq_true rfl) dX0_staysAfterTurn_77 (fun H locs hP hD hS => ?_)
        have hP : va_P (dC, dI) vwCl (cX0 cy a b (X0_mounds v) (X0_opened v) (upd (X0_roots v) r26.toNatClampNeg (((X0_roots v) r26.toNatClampNeg) - 1)) (X0_traps v) (X0_tunnels v) (X0_molesR v) (va_up (X0_moles v) ((X0_molesR v) x1.toNatClampNeg) ((X1_directions ((X0_moles v) ((X0_molesR v) x1.toNatClampNeg))), (X1_trail ((X0_moles v) ((X0_molesR v) x1.toNatClampNeg))), (X1_planned ((X0_moles v) ((X0_molesR v) x1.toNatClampNeg))), (X1_trailLength ((X0_moles v) ((X0_molesR v) x1.toNatClampNeg))), ((X1_air ((X0_moles v) ((X0_molesR v) x1.toNatClampNeg))) - 1), (X1_steps ((X0_moles v) ((X0_molesR v) x1.toNatClampNeg))), (X1_lost ((X0_moles v) ((X0_molesR v) x1.toNatClampNeg))))) (X0_moleCount v) (X0_fullAir v) (X0_beats v) (X0_caught v) ((X0_gnawed v) + 1) (X0_risen v) (X0_fallen v) ++ wX3 cy b u) H := hP
        have hD : va_D A (cX0 cy a b (X0_mounds v) (X0_opened v) (upd (X0_roots v) r26.toNatClampNeg (((X0_roots v) r26.toNatClampNeg) - 1)) (X0_traps v) (X0_tunnels v) (X0_molesR v) (va_up (X0_moles v) ((X0_molesR v) x1.toNatClampNeg) ((X1_directions ((X0_moles v) ((X0_molesR v) x1.toNatClampNeg))), (X1_trail ((X0_moles v) ((X0_molesR v) x1.toNatClampNeg))), (X1_planned ((X0_moles v) ((X0_molesR v) x1.toNatClampNeg))), (X1_trailLength ((X0_moles v) ((X0_molesR v) x1.toNatClampNeg))), ((X1_air ((X0_moles v) ((X0_molesR v) x1.toNatClampNeg))) - 1), (X1_steps ((X0_moles v) ((X0_molesR v) x1.toNatClampNeg))), (X1_lost ((X0_moles v) ((X0_molesR v) x1.toNatClampNeg))))) (X0_moleCount v) (X0_fullAir v) (X0_beats v) (X0_caught v) ((X0_gnawed v) + 1) (X0_risen v) (X0_fallen v) ++ wX3 cy b u) := hD
        refine lv_goto (tgt := 135) hx hb dX0_staysAfterTurn_80 (by decide) ?_
        exact J135 ((X0_molesR v) x1.toNatClampNeg) (X0_caught v) ((X0_gnawed v) + 1) (X0_moleCount v) (va_up (X0_moles v) ((X0_molesR v) x1.toNatClampNeg) (X1_s4 ((X0_moles v) ((X0_molesR v) x1.toNatClampNeg)) ((X1_air ((X0_moles v) ((X0_molesR v) x1.toNatClampNeg))) - 1))) (X0_molesR v) (upd (X0_roots v) r26.toNatClampNeg (((X0_roots v) r26.toNatClampNeg) - 1)) (X0_traps v) (X0_tunnels v)  _ _ _ hq hP hD hS (lv_sub hl [2, 1] rfl)
    · have hq := hqA c10
      refine lv_aload_n hx hb dX0_staysAfterTurn_35 rfl (lv_at hl 1 rfl) ?_
      have hC : (([(9 + 3 * ((X0_molesR v) x1.toNatClampNeg)), (10 + 3 * ((X0_molesR v) x1.toNatClampNeg)), (11 + 3 * ((X0_molesR v) x1.toNatClampNeg))] : List Nat).map (fun i => (wX0 cy a b v ++ wX3 cy b u)[i]?)) = (wX1 cy (sh a (9 + 3 * ((X0_molesR v) x1.toNatClampNeg))) ((X0_moles v) ((X0_molesR v) x1.toNatClampNeg))).map some := (co_4 (P := fun i19 => (([(9 + 3 * i19), (10 + 3 * i19), (11 + 3 * i19)] : List Nat).map (fun i => (wX0 cy a b v ++ wX3 cy b u)[i]?)) = (wX1 cy (sh a (9 + 3 * i19)) ((X0_moles v) i19)).map some) rfl rfl rfl rfl g4)
      have hN : va_nd [(9 + 3 * ((X0_molesR v) x1.toNatClampNeg)), (10 + 3 * ((X0_molesR v) x1.toNatClampNeg)), (11 + 3 * ((X0_molesR v) x1.toNatClampNeg))] = true := (co_4 (P := fun i19 => va_nd [(9 + 3 * i19), (10 + 3 * i19), (11 + 3 * i19)] = true) rfl rfl rfl rfl g4)
      have hPc := xsubP hP hC
      have hDc := xsubD hD hN hC
      have hFc := va_free (wc := (wX1 cy (sh a (9 + 3 * ((X0_molesR v) x1.toNatClampNeg))) ((X0_moles v) ((X0_molesR v) x1.toNatClampNeg)))) hD hS hAe0 [(9 + 3 * ((X0_molesR v) x1.toNatClampNeg)), (10 + 3 * ((X0_molesR v) x1.toNatClampNeg)), (11 + 3 * ((X0_molesR v) x1.toNatClampNeg))] hC
      refine va_callv (va_runV (As := []) (rest := []) ⟨hx, hb, hml, hown, hts⟩ (c_X1_dropDirection l dC dI cy (sh a (9 + 3 * ((X0_molesR v) x1.toNatClampNeg))) _ ((X0_moles v) ((X0_molesR v) x1.toNatClampNeg)) _ hq) (cwV 0 hts gX0_staysAfterTurn_X1_dropDirection rfl rfl rfl (by decide +kernel) ⟨Nat.le_of_ble_eq_true rfl, Nat.le_of_ble_eq_true rfl⟩) ⟨xPre_blind, va_recv hK hP (ci := 1) (q0 := (9 + 3 * ((X0_molesR v) x1.toNatClampNeg))) rfl (co_4 (P := fun i19 => (wX0 cy a b v ++ wX3 cy b u)[(9 + 3 * i19)]? = (wX1 cy (sh a (9 + 3 * i19)) ((X0_moles v) i19))[0]?) rfl rfl rfl rfl g4), xPre_of hPc hK hDc⟩ rfl rfl hl.1 rfl (lv_room (Nat.le_of_ble_eq_true rfl)) dX0_staysAfterTurn_36 ⟨Nat.le_of_ble_eq_true rfl, Nat.le_of_ble_eq_true rfl⟩) hS (fun q _ h => hFc q h) hFc (fun u t H locs ht hvm hq hB hz1 hk1 hS => ?_)
      obtain ⟨z36_v_directions, z36_v_planned⟩ := u
      obtain ⟨hP1, -, hD1⟩ := hB
      rw [ht] at hP1
      obtain ⟨hP, hD⟩ := xj hP hD [(9 + 3 * ((X0_molesR v) x1.toNatClampNeg)), (10 + 3 * ((X0_molesR v) x1.toNatClampNeg)), (11 + 3 * ((X0_molesR v) x1.toNatClampNeg))] (cX1 cy (sh a (9 + 3 * ((X0_molesR v) x1.toNatClampNeg))) z36_v_directions (X1_trail ((X0_moles v) ((X0_molesR v) x1.toNatClampNeg))) z36_v_planned (X1_trailLength ((X0_moles v) ((X0_molesR v) x1.toNatClampNeg))) (X1_air ((X0_moles v) ((X0_molesR v) x1.toNatClampNeg))) (X1_steps ((X0_moles v) ((X0_molesR v) x1.toNatClampNeg))) (X1_lost ((X0_moles v) ((X0_molesR v) x1.toNatClampNeg)))) (ws' := (cX0 cy a b (X0_mounds v) (X0_opened v) (X0_roots v) (X0_traps v) (X0_tunnels v) (X0_molesR v) (va_up (X0_moles v) ((X0_molesR v) x1.toNatClampNeg) (z36_v_directions, (X1_trail ((X0_moles v) ((X0_molesR v) x1.toNatClampNeg))), z36_v_planned, (X1_trailLength ((X0_moles v) ((X0_molesR v) x1.toNatClampNeg))), (X1_air ((X0_moles v) ((X0_molesR v) x1.toNatClampNeg))), (X1_steps ((X0_moles v) ((X0_molesR v) x1.toNatClampNeg))), (X1_lost ((X0_moles v) ((X0_molesR v) x1.toNatClampNeg))))) (X0_moleCount v) (X0_fullAir v) (X0_beats v) (X0_caught v) (X0_gnawed v) (X0_risen v) (X0_fallen v) ++ wX3 cy b u)) hC rfl (co_4 (P := fun i19 => xput (wX0 cy a b v ++ wX3 cy b u) [(9 + 3 * i19), (10 + 3 * i19), (11 + 3 * i19)] (cX1 cy (sh a (9 + 3 * i19)) z36_v_directions (X1_trail ((X0_moles v) i19)) z36_v_planned (X1_trailLength ((X0_moles v) i19)) (X1_air ((X0_moles v) i19)) (X1_steps ((X0_moles v) i19)) (X1_lost ((X0_moles v) i19))) = (cX0 cy a b (X0_mounds v) (X0_opened v) (X0_roots v) (X0_traps v) (X0_tunnels v) (X0_molesR v) (va_up (X0_moles v) i19 (z36_v_directions, (X1_trail ((X0_moles v) i19)), z36_v_planned, (X1_trailLength ((X0_moles v) i19)), (X1_air ((X0_moles v) i19)), (X1_steps ((X0_moles v) i19)), (X1_lost ((X0_moles v) i19)))) (X0_moleCount v) (X0_fullAir v) (X0_beats v) (X0_caught v) (X0_gnawed v) (X0_risen v) (X0_fallen v) ++ wX3 cy b u)) rfl rfl rfl rfl g4) hk1 hFc hP1
      refine lv_iconst (v := 1) hx hb dX0_staysAfterTurn_39 (by decide) ?_
      exact W.zret (v := 1) hx hb hr rfl (fun t ht hW => ⟨⟨1, ((X3_cells u), (X3_ends u), (X3_size u), (X3_used u), (X0_caught v), (X0_gnawed v), (X0_moleCount v), (va_up (X0_moles v) ((X0_molesR v) x1.toNatClampNeg) (X1_s2 (X1_s0 ((X0_moles v) ((X0_molesR v) x1.toNatClampNeg)) z36_v_directions) z36_v_planned)), (X0_molesR v), (X0_mounds v), (X0_risen v), (X0_roots v), (X0_traps v), (X0_tunnels v)), rfl, hq, (xAt_of hP hK hD ht hW)⟩, hS.F ht⟩) hS.2.2 dX0_staysAfterTurn_40
  · have hq := hqA c11
    refine lv_iconst (v := 1) hx hb dX0_staysAfterTurn_14 (by decide) ?_
    exact W.zret (v := 1) hx hb hr rfl (fun t ht hW => ⟨⟨1, ((X3_cells u), (X3_ends u), (X3_size u), (X3_used u), (X0_caught v), (X0_gnawed v), (X0_moleCount v), (X0_moles v), (X0_molesR v), (X0_mounds v), (X0_risen v), (X0_roots v), (X0_traps v), (X0_tunnels v)), rfl, hq, (xAt_of hP hK hD ht hW)⟩, hS.F ht⟩) hS.2.2 dX0_staysAfterTurn_15
def wb_X0_beat_50 (v : V_X0) (u : V_X3) (z50_v_beats : Int32) (y50_1 : Int32) (y50_2 : Int32) (z50_u_cells : (Nat → Int32)) (z50_u_ends : (Nat → Int32)) (z50_u_size : Int32) (z50_u_used : Int32) (z50_v_caught : Int32) (z50_v_gnawed : Int32) (z50_v_moleCount : Int32) (z50_v_moles : (Nat → V_X1)) (z50_v_molesR : (Nat → Nat)) (z50_v_mounds : (Nat → Int32)) (z50_v_risen : Int32) (z50_v_roots : (Nat → Int32)) (z50_v_traps : (Nat → Int32)) (z50_v_tunnels : V_X3) (B50 : Int32 → Int32 → (Nat → Int32) → (Nat → Int32) → Int32 → Int32 → Int32 → Int32 → Int32 → (Nat → V_X1) → (Nat → Nat) → (Nat → Int32) → Int32 → (Nat → Int32) → (Nat → Int32) → V_X3 → Prop) (Q : (Nat → Int32) → (Nat → Int32) → Int32 → Int32 → Int32 → Int32 → Int32 → Int32 → (Nat → V_X1) → (Nat → Nat) → (Nat → Int32) → Int32 → (Nat → Int32) → (Nat → Int32) → V_X3 → Prop) : Prop :=
  ((y50_2 ≤ 0 → Q z50_u_cells z50_u_ends z50_u_size z50_u_used z50_v_beats z50_v_caught z50_v_gnawed z50_v_moleCount z50_v_moles z50_v_molesR z50_v_mounds z50_v_risen z50_v_roots z50_v_traps z50_v_tunnels) ∧
  (¬ y50_2 ≤ 0 → ((z50_v_moleCount ≤ y50_1 → B50 y50_1 (y50_2 + (-1)) z50_u_cells z50_u_ends z50_u_size z50_u_used z50_v_caught z50_v_gnawed z50_v_moleCount z50_v_moles z50_v_molesR z50_v_mounds z50_v_risen z50_v_roots z50_v_traps z50_v_tunnels) ∧
  (¬ z50_v_moleCount ≤ y50_1 → wp_X0_staysAfterTurn (X0_s12 (X0_s11 (X0_s10 (X0_s9 (X0_s7 (X0_s6 (X0_s5 (X0_s4 (X0_s3 (X0_s2 (X0_s0 v z50_v_mounds) z50_v_roots) z50_v_traps) z50_v_tunnels) z50_v_molesR) z50_v_moles) z50_v_moleCount) z50_v_beats) z50_v_caught) z50_v_gnawed) z50_v_risen) (X3_s3 (X3_s2 (X3_s1 (X3_s0 u z50_u_cells) z50_u_ends) z50_u_used) z50_u_size) y50_1 (fun r64 z64_u_cells z64_u_ends z64_u_size z64_u_used z64_v_caught z64_v_gnawed z64_v_moleCount z64_v_moles z64_v_molesR z64_v_mounds z64_v_risen z64_v_roots z64_v_traps z64_v_tunnels =>
  ((r64 = 0 → B50 y50_1 (y50_2 + (-1)) z64_u_cells z64_u_ends z64_u_size z64_u_used z64_v_caught z64_v_gnawed z64_v_moleCount z64_v_moles z64_v_molesR z64_v_mounds z64_v_risen z64_v_roots z64_v_traps z64_v_tunnels) ∧
  (¬ r64 = 0 → B50 (y50_1 + 1) (y50_2 + (-1)) z64_u_cells z64_u_ends z64_u_size z64_u_used z64_v_caught z64_v_gnawed z64_v_moleCount z64_v_moles z64_v_molesR z64_v_mounds z64_v_risen z64_v_roots z64_v_traps z64_v_tunnels)))))))
def wp_X0_beat_50 (v : V_X0) (u : V_X3) (z50_v_beats : Int32) (y50_1 : Int32) (y50_2 : Int32) (z50_u_cells : (Nat → Int32)) (z50_u_ends : (Nat → Int32)) (z50_u_size : Int32) (z50_u_used : Int32) (z50_v_caught : Int32) (z50_v_gnawed : Int32) (z50_v_moleCount : Int32) (z50_v_moles : (Nat → V_X1)) (z50_v_molesR : (Nat → Nat)) (z50_v_mounds : (Nat → Int32)) (z50_v_risen : Int32) (z50_v_roots : (Nat → Int32)) (z50_v_traps : (Nat → Int32)) (z50_v_tunnels : V_X3) (Q : (Nat → Int32) → (Nat → Int32) → Int32 → Int32 → Int32 → Int32 → Int32 → Int32 → (Nat → V_X1) → (Nat → Nat) → (Nat → Int32) → Int32 → (Nat → Int32) → (Nat → Int32) → V_X3 → Prop) : Prop :=
  ∃ (I : Int32 → Int32 → (Nat → Int32) → (Nat → Int32) → Int32 → Int32 → Int32 → Int32 → Int32 → (Nat → V_X1) → (Nat → Nat) → (Nat → Int32) → Int32 → (Nat → Int32) → (Nat → Int32) → V_X3 → Prop) (μ : Int32 → Int32 → (Nat → Int32) → (Nat → Int32) → Int32 → Int32 → Int32 → Int32 → Int32 → (Nat → V_X1) → (Nat → Nat) → (Nat → Int32) → Int32 → (Nat → Int32) → (Nat → Int32) → V_X3 → Nat), I y50_1 y50_2 z50_u_cells z50_u_ends z50_u_size z50_u_used z50_v_caught z50_v_gnawed z50_v_moleCount z50_v_moles z50_v_molesR z50_v_mounds z50_v_risen z50_v_roots z50_v_traps z50_v_tunnels ∧ ∀ (s0 : Int32) (s1 : Int32) (s2 : (Nat → Int32)) (s3 : (Nat → Int32)) (s4 : Int32) (s5 : Int32) (s6 : Int32) (s7 : Int32) (s8 : Int32) (s9 : (Nat → V_X1)) (s10 : (Nat → Nat)) (s11 : (Nat → Int32)) (s12 : Int32) (s13 : (Nat → Int32)) (s14 : (Nat → Int32)) (s15 : V_X3), I s0 s1 s2 s3 s4 s5 s6 s7 s8 s9 s10 s11 s12 s13 s14 s15 → wb_X0_beat_50 v u z50_v_beats s0 s1 s2 s3 s4 s5 s6 s7 s8 s9 s10 s11 s12 s13 s14 s15 (fun t0 t1 t2 t3 t4 t5 t6 t7 t8 t9 t10 t11 t12 t13 t14 t15 => I t0 t1 t2 t3 t4 t5 t6 t7 t8 t9 t10 t11 t12 t13 t14 t15 ∧ μ t0 t1 t2 t3 t4 t5 t6 t7 t8 t9 t10 t11 t12 t13 t14 t15 < μ s0 s1 s2 s3 s4 s5 s6 s7 s8 s9 s10 s11 s12 s13 s14 s15) Q
def wb_X0_beat_12 (v : V_X0) (u : V_X3) (z12_v_beats : Int32) (y12_1 : Int32) (z12_v_traps : (Nat → Int32)) (B12 : Int32 → (Nat → Int32) → Prop) (Q : (Nat → Int32) → (Nat → Int32) → Int32 → Int32 → Int32 → Int32 → Int32 → Int32 → (Nat → V_X1) → (Nat → Nat) → (Nat → Int32) → Int32 → (Nat → Int32) → (Nat → Int32) → V_X3 → Prop) : Prop :=
  ((64 ≤ y12_1 → wp_X0_beat_50 v u z12_v_beats 0 (X0_moleCount v) (X3_cells u) (X3_ends u) (X3_size u) (X3_used u) (X0_caught v) (X0_gnawed v) (X0_moleCount v) (X0_moles v) (X0_molesR v) (X0_mounds v) (X0_risen v) (X0_roots v) z12_v_traps (X0_tunnels v) Q) ∧
  (¬ 64 ≤ y12_1 → vp_in y12_1 64 ∧ (((z12_v_traps y12_1.toNatClampNeg) ≤ 0 → B12 (y12_1 + 1) z12_v_traps) ∧
  (¬ (z12_v_traps y12_1.toNatClampNeg) ≤ 0 → B12 (y12_1 + 1) (upd z12_v_traps y12_1.toNatClampNeg ((z12_v_traps y12_1.toNatClampNeg) - 1))))))
def wp_X0_beat_12 (v : V_X0) (u : V_X3) (z12_v_beats : Int32) (y12_1 : Int32) (z12_v_traps : (Nat → Int32)) (Q : (Nat → Int32) → (Nat → Int32) → Int32 → Int32 → Int32 → Int32 → Int32 → Int32 → (Nat → V_X1) → (Nat → Nat) → (Nat → Int32) → Int32 → (Nat → Int32) → (Nat → Int32) → V_X3 → Prop) : Prop :=
  ∃ (I : Int32 → (Nat → Int32) → Prop) (μ : Int32 → (Nat → Int32) → Nat), I y12_1 z12_v_traps ∧ ∀ (s0 : Int32) (s1 : (Nat → Int32)), I s0 s1 → wb_X0_beat_12 v u z12_v_beats s0 s1 (fun t0 t1 => I t0 t1 ∧ μ t0 t1 < μ s0 s1) Q
def wp_X0_beat (v : V_X0) (u : V_X3) (Q : (Nat → Int32) → (Nat → Int32) → Int32 → Int32 → Int32 → Int32 → Int32 → Int32 → (Nat → V_X1) → (Nat → Nat) → (Nat → Int32) → Int32 → (Nat → Int32) → (Nat → Int32) → V_X3 → Prop) : Prop :=
  wp_X0_beat_12 v u ((X0_beats v) + 1) 0 (X0_traps v) Q
def q_X0_beat (dC : Nat → ClassId) (dI : Nat → Nat → Nat) (cy : Nat → ClassId) (a b : Nat → Nat) (v : V_X0) (u : V_X3) (Q : (Nat → Int32) → (Nat → Int32) → Int32 → Int32 → Int32 → Int32 → Int32 → Int32 → (Nat → V_X1) → (Nat → Nat) → (Nat → Int32) → Int32 → (Nat → Int32) → (Nat → Int32) → V_X3 → Prop) (A : Nat → Prop) : Array Value → State → Outcome → State → Prop := va_Qv (fun (u : (Nat → Int32) × (Nat → Int32) × Int32 × Int32 × Int32 × Int32 × Int32 × Int32 × (Nat → V_X1) × (Nat → Nat) × (Nat → Int32) × Int32 × (Nat → Int32) × (Nat → Int32) × V_X3) => Q u.1 u.2.1 u.2.2.1 u.2.2.2.1 u.2.2.2.2.1 u.2.2.2.2.2.1 u.2.2.2.2.2.2.1 u.2.2.2.2.2.2.2.1 u.2.2.2.2.2.2.2.2.1 u.2.2.2.2.2.2.2.2.2.1 u.2.2.2.2.2.2.2.2.2.2.1 u.2.2.2.2.2.2.2.2.2.2.2.1 u.2.2.2.2.2.2.2.2.2.2.2.2.1 u.2.2.2.2.2.2.2.2.2.2.2.2.2.1 u.2.2.2.2.2.2.2.2.2.2.2.2.2.2) (fun (u : (Nat → Int32) × (Nat → Int32) × Int32 × Int32 × Int32 × Int32 × Int32 × Int32 × (Nat → V_X1) × (Nat → Nat) × (Nat → Int32) × Int32 × (Nat → Int32) × (Nat → Int32) × V_X3) t => xAt dC dI cy A (cX0 cy a b u.2.2.2.2.2.2.2.2.2.2.1 (X0_opened v) u.2.2.2.2.2.2.2.2.2.2.2.2.1 u.2.2.2.2.2.2.2.2.2.2.2.2.2.1 u.2.2.2.2.2.2.2.2.2.2.2.2.2.2 u.2.2.2.2.2.2.2.2.2.1 u.2.2.2.2.2.2.2.2.1 u.2.2.2.2.2.2.2.1 (X0_fullAir v) u.2.2.2.2.1 u.2.2.2.2.2.1 u.2.2.2.2.2.2.1 u.2.2.2.2.2.2.2.2.2.2.2.1 (X0_fallen v) ++ cX3 cy b u.1 u.2.1 u.2.2.2.1 u.2.2.1) t) A
set_option maxHeartbeats 4000000 in
set_option maxRecDepth 100000 in
theorem c_X0_beat (l : Launch) (dC : Nat → ClassId) (dI : Nat → Nat → Nat) (cy : Nat → ClassId) (a b : Nat → Nat) (sz : Nat) (v : V_X0) (u : V_X3) (Q : (Nat → Int32) → (Nat → Int32) → Int32 → Int32 → Int32 → Int32 → Int32 → Int32 → (Nat → V_X1) → (Nat → Nat) → (Nat → Int32) → Int32 → (Nat → Int32) → (Nat → Int32) → V_X3 → Prop) (hq : wp_X0_beat v u Q) : Met l yX0_beat wsX0_beat ({ frames := 5, cells := 0, slots := 0, locals := 121 } : Room) (va_Pc [.ref (a 0)] (xPreE dC dI cy (wX0 cy a b v ++ wX3 cy b u) sz)) (q_X0_beat dC dI cy a b v u Q (va_A (wX0 cy a b v ++ wX3 cy b u) sz)) 0 0 (va_A (wX0 cy a b v ++ wX3 cy b u) sz) := by
  refine Met.ofW (cc := cX0_beat) (maxL := 3) (ret := none) (by decide) rfl ?_
  intro p e s m args below meth c s₁ B hml hv
  obtain ⟨rfl, hsz, hP, hK, hD0, hE⟩ := hv
  have hx := B.exec
  have hb := B.bytes
  have hr := B.returns
  have hts := atoms_spec (ws := wsX0_beat) B.pre
  have hown : s.vm.findClass RX0 = some m.cls := findClass_of_methodNamed B.named
  have hlocks := B.notSynchronized
  subst hsz
  have hD := hD0.self (sz := s.heap.size)
  generalize hAe : va_A (wX0 cy a b v ++ wX3 cy b u) s.heap.size = A at hD hE ⊢
  have hAe0 : ∀ q : Nat, s.heap.size ≤ q → A q := fun q h => by rw [← hAe]; exact Or.inr h
  have hS : va_S A s.heap s.heap [] := va_S.rf
  have hl := lv_entry ([.ref (a 0)]) (n := 3) (Nat.le_of_ble_eq_true rfl)
  rw [lg_entry_eq]
  generalize (lg_sl ([.ref (a 0)]) ++ List.replicate (3 - (lg_sl ([.ref (a 0)])).length) Slot.unset).toArray = ls at hl ⊢
  have hl : lv_has ls 3 [(0, .ref (a 0))] := hl
  have lk0 := hts (Cond.fieldLink RX0 56 "MolesLawn$Lawn" "moleCount" "I") (List.mem_cons_of_mem _ (List.mem_append_left _ (List.mem_append_left _ (List.mem_append_left _ (List.mem_append_left _ (List.mem_of_getElem? (i := 2) rfl))))))
  have lk1 := hts (Cond.fieldLink RX0 22 "MolesLawn$Lawn" "traps" "[I") (List.mem_cons_of_mem _ (List.mem_append_left _ (List.mem_append_left _ (List.mem_append_left _ (List.mem_append_left _ (List.mem_of_getElem? (i := 1) rfl))))))
  have lk2 := hts (Cond.fieldLink RX0 62 "MolesLawn$Lawn" "beats" "I") (List.mem_cons_of_mem _ (List.mem_append_left _ (List.mem_append_left _ (List.mem_append_left _ (List.mem_append_left _ (List.mem_of_getElem? (i := 0) rfl))))))
  have iK0 : ∀ w ∈ wsX00, w ∈ wsX0_beat := fun _ h => (List.mem_cons_of_mem _ (List.mem_append_left _ (List.mem_append_left _ (List.mem_append_right _ h))))
  unfold wp_X0_beat at hq
  have J50 : ∀ (z50_v_beats : Int32) (y50_1 : Int32) (y50_2 : Int32) (z50_u_cells : (Nat → Int32)) (z50_u_ends : (Nat → Int32)) (z50_u_size : Int32) (z50_u_used : Int32) (z50_v_caught : Int32) (z50_v_gnawed : Int32) (z50_v_moleCount : Int32) (z50_v_moles : (Nat → V_X1)) (z50_v_molesR : (Nat → Nat)) (z50_v_mounds : (Nat → Int32)) (z50_v_risen : Int32) (z50_v_roots : (Nat → Int32)) (z50_v_traps : (Nat → Int32)) (z50_v_tunnels : V_X3) (H : Heap) (locs : List Loc) (ls : Array Slot), wp_X0_beat_50 v u z50_v_beats y50_1 y50_2 z50_u_cells z50_u_ends z50_u_size z50_u_used z50_v_caught z50_v_gnawed z50_v_moleCount z50_v_moles z50_v_molesR z50_v_mounds z50_v_risen z50_v_roots z50_v_traps z50_v_tunnels Q → va_P (dC, dI) vwCl (cX0 cy a b z50_v_mounds (X0_opened v) z50_v_roots z50_v_traps z50_v_tunnels z50_v_molesR z50_v_moles z50_v_moleCount (X0_fullAir v) z50_v_beats z50_v_caught z50_v_gnawed z50_v_risen (X0_fallen v) ++ cX3 cy b z50_u_cells z50_u_ends z50_u_used z50_u_size) H → va_D A (cX0 cy a b z50_v_mounds (X0_opened v) z50_v_roots z50_v_traps z50_v_tunnels z50_v_molesR z50_v_moles z50_v_moleCount (X0_fullAir v) z50_v_beats z50_v_caught z50_v_gnawed z50_v_risen (X0_fallen v) ++ cX3 cy b z50_u_cells z50_u_ends z50_u_used z50_u_size) → va_S A s.heap H locs → lv_has ls 3 [(0, .ref (a 0)), (1, .int y50_1), (2, .int y50_2)] → W p l e (headSpec wsX0_beat ({ frames := 5, cells := 0, slots := 0, locals := 121 } : Room)).room s m ([.ref (a 0)] : List Value).toArray below meth c H locs 0 0 (MQ below (q_X0_beat dC dI cy a b v u Q A) ([.ref (a 0)] : List Value).toArray s 0 0 A) (F0 m 50 ls []) := by
    intro z50_v_beats y50_1 y50_2 z50_u_cells z50_u_ends z50_u_size z50_u_used z50_v_caught z50_v_gnawed z50_v_moleCount z50_v_moles z50_v_molesR z50_v_mounds z50_v_risen z50_v_roots z50_v_traps z50_v_tunnels H locs ls hq hP hD hS hl
    obtain ⟨I50, μ50, h0, hs50⟩ := hq
    have key : ∀ (n : Nat) (y50_1 : Int32) (y50_2 : Int32) (z50_u_cells : (Nat → Int32)) (z50_u_ends : (Nat → Int32)) (z50_u_size : Int32) (z50_u_used : Int32) (z50_v_caught : Int32) (z50_v_gnawed : Int32) (z50_v_moleCount : Int32) (z50_v_moles : (Nat → V_X1)) (z50_v_molesR : (Nat → Nat)) (z50_v_mounds : (Nat → Int32)) (z50_v_risen : Int32) (z50_v_roots : (Nat → Int32)) (z50_v_traps : (Nat → Int32)) (z50_v_tunnels : V_X3) (H : Heap) (locs : List Loc) (ls : Array Slot), I50 y50_1 y50_2 z50_u_cells z50_u_ends z50_u_size z50_u_used z50_v_caught z50_v_gnawed z50_v_moleCount z50_v_moles z50_v_molesR z50_v_mounds z50_v_risen z50_v_roots z50_v_traps z50_v_tunnels → μ50 y50_1 y50_2 z50_u_cells z50_u_ends z50_u_size z50_u_used z50_v_caught z50_v_gnawed z50_v_moleCount z50_v_moles z50_v_molesR z50_v_mounds z50_v_risen z50_v_roots z50_v_traps z50_v_tunnels < n → va_P (dC, dI) vwCl (cX0 cy a b z50_v_mounds (X0_opened v) z50_v_roots z50_v_traps z50_v_tunnels z50_v_molesR z50_v_moles z50_v_moleCount (X0_fullAir v) z50_v_beats z50_v_caught z50_v_gnawed z50_v_risen (X0_fallen v) ++ cX3 cy b z50_u_cells z50_u_ends z50_u_used z50_u_size) H → va_D A (cX0 cy a b z50_v_mounds (X0_opened v) z50_v_roots z50_v_traps z50_v_tunnels z50_v_molesR z50_v_moles z50_v_moleCount (X0_fullAir v) z50_v_beats z50_v_caught z50_v_gnawed z50_v_risen (X0_fallen v) ++ cX3 cy b z50_u_cells z50_u_ends z50_u_used z50_u_size) → va_S A s.heap H locs → lv_has ls 3 [(0, .ref (a 0)), (1, .int y50_1), (2, .int y50_2)] → W p l e (headSpec wsX0_beat ({ frames := 5, cells := 0, slots := 0, locals := 121 } : Room)).room s m ([.ref (a 0)] : List Value).toArray below meth c H locs 0 0 (MQ below (q_X0_beat dC dI cy a b v u Q A) ([.ref (a 0)] : List Value).toArray s 0 0 A) (F0 m 50 ls []) := by
      intro n
      induction n with
      | zero => intro y50_1 y50_2 z50_u_cells z50_u_ends z50_u_size z50_u_used z50_v_caught z50_v_gnawed z50_v_moleCount z50_v_moles z50_v_molesR z50_v_mounds z50_v_risen z50_v_roots z50_v_traps z50_v_tunnels H locs ls _ hm; exact absurd hm (Nat.not_lt_zero _)
      | succ n ih =>
        intro y50_1 y50_2 z50_u_cells z50_u_ends z50_u_size z50_u_used z50_v_caught z50_v_gnawed z50_v_moleCount z50_v_moles z50_v_molesR z50_v_mounds z50_v_risen z50_v_roots z50_v_traps z50_v_tunnels H locs ls hI hm hP hD hS hl
        have hq := hs50 y50_1 y50_2 z50_u_cells z50_u_ends z50_u_size z50_u_used z50_v_caught z50_v_gnawed z50_v_moleCount z50_v_moles z50_v_molesR z50_v_mounds z50_v_risen z50_v_roots z50_v_traps z50_v_tunnels hI
        generalize hB50 : (fun (t0 : Int32) (t1 : Int32) (t2 : (Nat → Int32)) (t3 : (Nat → Int32)) (t4 : Int32) (t5 : Int32) (t6 : Int32) (t7 : Int32) (t8 : Int32) (t9 : (Nat → V_X1)) (t10 : (Nat → Nat)) (t11 : (Nat → Int32)) (t12 : Int32) (t13 : (Nat → Int32)) (t14 : (Nat → Int32)) (t15 : V_X3) => I50 t0 t1 t2 t3 t4 t5 t6 t7 t8 t9 t10 t11 t12 t13 t14 t15 ∧ μ50 t0 t1 t2 t3 t4 t5 t6 t7 t8 t9 t10 t11 t12 t13 t14 t15 < μ50 y50_1 y50_2 z50_u_cells z50_u_ends z50_u_size z50_u_used z50_v_caught z50_v_gnawed z50_v_moleCount z50_v_moles z50_v_molesR z50_v_mounds z50_v_risen z50_v_roots z50_v_traps z50_v_tunnels) = B50 at hq
        have bk50 : ∀ (y50_1 : Int32) (y50_2 : Int32) (z50_u_cells : (Nat → Int32)) (z50_u_ends : (Nat → Int32)) (z50_u_size : Int32) (z50_u_used : Int32) (z50_v_caught : Int32) (z50_v_gnawed : Int32) (z50_v_moleCount : Int32) (z50_v_moles : (Nat → V_X1)) (z50_v_molesR : (Nat → Nat)) (z50_v_mounds : (Nat → Int32)) (z50_v_risen : Int32) (z50_v_roots : (Nat → Int32)) (z50_v_traps : (Nat → Int32)) (z50_v_tunnels : V_X3) (H : Heap) (locs : List Loc) (ls : Array Slot), B50 y50_1 y50_2 z50_u_cells z50_u_ends z50_u_size z50_u_used z50_v_caught z50_v_gnawed z50_v_moleCount z50_v_moles z50_v_molesR z50_v_mounds z50_v_risen z50_v_roots z50_v_traps z50_v_tunnels → va_P (dC, dI) vwCl (cX0 cy a b z50_v_mounds (X0_opened v) z50_v_roots z50_v_traps z50_v_tunnels z50_v_molesR z50_v_moles z50_v_moleCount (X0_fullAir v) z50_v_beats z50_v_caught z50_v_gnawed z50_v_risen (X0_fallen v) ++ cX3 cy b z50_u_cells z50_u_ends z50_u_used z50_u_size) H → va_D A (cX0 cy a b z50_v_mounds (X0_opened v) z50_v_roots z50_v_traps z50_v_tunnels z50_v_molesR z50_v_moles z50_v_moleCount (X0_fullAir v) z50_v_beats z50_v_caught z50_v_gnawed z50_v_risen (X0_fallen v) ++ cX3 cy b z50_u_cells z50_u_ends z50_u_used z50_u_size) → va_S A s.heap H locs → lv_has ls 3 [(0, .ref (a 0)), (1, .int y50_1), (2, .int y50_2)] → W p l e (headSpec wsX0_beat ({ frames := 5, cells := 0, slots := 0, locals := 121 } : Room)).room s m ([.ref (a 0)] : List Value).toArray below meth c H locs 0 0 (MQ below (q_X0_beat dC dI cy a b v u Q A) ([.ref (a 0)] : List Value).toArray s 0 0 A) (F0 m 50 ls []) := by
          intro y50_1 y50_2 z50_u_cells z50_u_ends z50_u_size z50_u_used z50_v_caught z50_v_gnawed z50_v_moleCount z50_v_moles z50_v_molesR z50_v_mounds z50_v_risen z50_v_roots z50_v_traps z50_v_tunnels H locs ls h
          rw [← hB50] at h
          exact ih y50_1 y50_2 z50_u_cells z50_u_ends z50_u_size z50_u_used z50_v_caught z50_v_gnawed z50_v_moleCount z50_v_moles z50_v_molesR z50_v_mounds z50_v_risen z50_v_roots z50_v_traps z50_v_tunnels H locs ls h.1 (Nat.lt_of_lt_of_le h.2 (Nat.le_of_lt_succ hm))
        unfold wb_X0_beat_50 at hq
        refine lv_iload_n hx hb dX0_beat_50 rfl (lv_at hl 2 rfl) ?_
        obtain ⟨hqA, hqB⟩ := hq
        refine lv_if_le (tgt := 79) hx hb dX0_beat_51 (by decide) (fun c3 => ?_) (fun c3 => ?_)
        · have hq := hqA c3
          exact W.vret hx hb hr (fun t ht hW => ⟨⟨(z50_u_cells, z50_u_ends, z50_u_size, z50_u_used, z50_v_beats, z50_v_caught, z50_v_gnawed, z50_v_moleCount, z50_v_moles, z50_v_molesR, z50_v_mounds, z50_v_risen, z50_v_roots, z50_v_traps, z50_v_tunnels), rfl, hq, (xAt_of hP hK hD ht hW)⟩, hS.F ht⟩) hS.2.2 dX0_beat_79
        · have hq := hqB c3
          refine lv_iload_n hx hb dX0_beat_54 rfl (lv_at hl 1 rfl) ?_
          refine lv_aload_n hx hb dX0_beat_55 rfl (lv_at hl 0 rfl) ?_
          refine va_get (D := (dC, dI)) (ci := 0) (v := .int z50_v_moleCount) (C := RX0) (T := TX0) (N := 14) hx hb hts iK0 hown hK hP 0 rfl rfl 7 (by decide) lk0 (fun _ h9 => h9) rfl dX0_beat_56 ?_
          obtain ⟨hqA, hqB⟩ := hq
          refine lv_icmp_ge (tgt := 73) hx hb dX0_beat_59 (by decide) (fun c2 => ?_) (fun c2 => ?_)
          · have hq := hqA c2
            refine lv_iinc (v := (y50_2 + (-1))) (lv' := [(2, .int (y50_2 + (-1))), (0, .ref (a 0)), (1, .int y50_1)]) hx hb dX0_beat_73 hl (k := 2) rfl rfl (by decide) rfl (fun ls hl => ?_)
            refine lv_goto (tgt := 50) hx hb dX0_beat_76 (by decide) ?_
            exact bk50 y50_1 (y50_2 + (-1)) z50_u_cells z50_u_ends z50_u_size z50_u_used z50_v_caught z50_v_gnawed z50_v_moleCount z50_v_moles z50_v_molesR z50_v_mounds z50_v_risen z50_v_roots z50_v_traps z50_v_tunnels _ _ _ hq hP hD hS (lv_sub hl [1, 2, 0] rfl)
          · have hq := hqB c2
            refine lv_aload_n hx hb dX0_beat_62 rfl (lv_at hl 0 rfl) ?_
            refine lv_iload_n hx hb dX0_beat_63 rfl (lv_at hl 1 rfl) ?_
            have hFc := xfree_same hS hAe0 (ws := (cX0 cy a b z50_v_mounds (X0_opened v) z50_v_roots z50_v_traps z50_v_tunnels z50_v_molesR z50_v_moles z50_v_moleCount (X0_fullAir v) z50_v_beats z50_v_caught z50_v_gnawed z50_v_risen (X0_fallen v) ++ cX3 cy b z50_u_cells z50_u_ends z50_u_used z50_u_size)) hD
            refine va_calli (va_runV (As := [.int y50_1]) (rest := []) ⟨hx, hb, hml, hown, hts⟩ (c_X0_staysAfterTurn l dC dI cy a b _ (X0_s12 (X0_s11 (X0_s10 (X0_s9 (X0_s7 (X0_s6 (X0_s5 (X0_s4 (X0_s3 (X0_s2 (X0_s0 v z50_v_mounds) z50_v_roots) z50_v_traps) z50_v_tunnels) z50_v_molesR) z50_v_moles) z50_v_moleCount) z50_v_beats) z50_v_caught) z50_v_gnawed) z50_v_risen) (X3_s3 (X3_s2 (X3_s1 (X3_s0 u z50_u_cells) z50_u_ends) z50_u_used) z50_u_size) y50_1 _ hq) (cwV 1 hts gX0_beat_X0_staysAfterTurn rfl rfl rfl (by decide +kernel) ⟨Nat.le_of_ble_eq_true rfl, Nat.le_of_ble_eq_true rfl⟩) ⟨xPre_blindE, va_recv hK hP (ci := 0) (q0 := 0) rfl rfl, xPre_ofE hP hK hD hE hS hFc⟩ rfl rfl hl.1 rfl (lv_room (Nat.le_of_ble_eq_true rfl)) dX0_beat_64 ⟨Nat.le_of_ble_eq_true rfl, Nat.le_of_ble_eq_true rfl⟩) hS (fun q _ h => hFc q h) hFc (fun r64 u t H locs ht hvm hq hB hz1 hk1 hS => ?_)
            obtain ⟨z64_u_cells, z64_u_ends, z64_u_size, z64_u_used, z64_v_caught, z64_v_gnawed, z64_v_moleCount, z64_v_moles, z64_v_molesR, z64_v_mounds, z64_v_risen, z64_v_roots, z64_v_traps, z64_v_tunnels⟩ := u
            obtain ⟨hP1, -, hD1⟩ := hB
            rw [ht] at hP1
            have hP : va_P (dC, dI) vwCl (cX0 cy a b z64_v_mounds (X0_opened v) z64_v_roots z64_v_traps z64_v_tunnels z64_v_molesR z64_v_moles z64_v_moleCount (X0_fullAir v) z50_v_beats z64_v_caught z64_v_gnawed z64_v_risen (X0_fallen v) ++ cX3 cy b z64_u_cells z64_u_ends z64_u_used z64_u_size) H := hP1
            have hD : va_D A (cX0 cy a b z64_v_mounds (X0_opened v) z64_v_roots z64_v_traps z64_v_tunnels z64_v_molesR z64_v_moles z64_v_moleCount (X0_fullAir v) z50_v_beats z64_v_caught z64_v_gnawed z64_v_risen (X0_fallen v) ++ cX3 cy b z64_u_cells z64_u_ends z64_u_used z64_u_size) := hD1.weaken (fun _ q _ h => hFc q.1 h)
            obtain ⟨hqA, hqB⟩ := hq
            refine lv_if_eq (tgt := 73) hx hb dX0_beat_67 (by decide) (fun c1 => ?_) (fun c1 => ?_)
            · have hq := hqA c1
              refine lv_iinc (v := (y50_2 + (-1))) (lv' := [(2, .int (y50_2 + (-1))), (0, .ref (a 0)), (1, .int y50_1)]) hx hb dX0_beat_73 hl (k := 2) rfl rfl (by decide) rfl (fun ls hl => ?_)
              refine lv_goto (tgt := 50) hx hb dX0_beat_76 (by decide) ?_
              exact bk50 y50_1 (y50_2 + (-1)) z64_u_cells z64_u_ends z64_u_size z64_u_used z64_v_caught z64_v_gnawed z64_v_moleCount z64_v_moles z64_v_molesR z64_v_mounds z64_v_risen z64_v_roots z64_v_traps z64_v_tunnels _ _ _ hq hP hD hS (lv_sub hl [1, 2, 0] rfl)
            · have hq := hqB c1
              refine lv_iinc (v := (y50_1 + 1)) (lv' := [(1, .int (y50_1 + 1)), (0, .ref (a 0)), (2, .int y50_2)]) hx hb dX0_beat_70 hl (k := 1) rfl rfl (by decide) rfl (fun ls hl => ?_)
              refine lv_iinc (v := (y50_2 + (-1))) (lv' := [(2, .int (y50_2 + (-1))), (1, .int (y50_1 + 1)), (0, .ref (a 0))]) hx hb dX0_beat_73 hl (k := 2) rfl rfl (by decide) rfl (fun ls hl => ?_)
              refine lv_goto (tgt := 50) hx hb dX0_beat_76 (by decide) ?_
              exact bk50 (y50_1 + 1) (y50_2 + (-1)) z64_u_cells z64_u_ends z64_u_size z64_u_used z64_v_caught z64_v_gnawed z64_v_moleCount z64_v_moles z64_v_molesR z64_v_mounds z64_v_risen z64_v_roots z64_v_traps z64_v_tunnels _ _ _ hq hP hD hS (lv_sub hl [2, 1, 0] rfl)
    exact key _ y50_1 y50_2 z50_u_cells z50_u_ends z50_u_size z50_u_used z50_v_caught z50_v_gnawed z50_v_moleCount z50_v_moles z50_v_molesR z50_v_mounds z50_v_risen z50_v_roots z50_v_traps z50_v_tunnels H locs ls h0 (Nat.lt_succ_self _) hP hD hS hl
  have J12 : ∀ (z12_v_beats : Int32) (y12_1 : Int32) (z12_v_traps : (Nat → Int32)) (H : Heap) (locs : List Loc) (ls : Array Slot), wp_X0_beat_12 v u z12_v_beats y12_1 z12_v_traps Q → va_P (dC, dI) vwCl (cX0 cy a b (X0_mounds v) (X0_opened v) (X0_roots v) z12_v_traps (X0_tunnels v) (X0_molesR v) (X0_moles v) (X0_moleCount v) (X0_fullAir v) z12_v_beats (X0_caught v) (X0_gnawed v) (X0_risen v) (X0_fallen v) ++ wX3 cy b u) H → va_D A (cX0 cy a b (X0_mounds v) (X0_opened v) (X0_roots v) z12_v_traps (X0_tunnels v) (X0_molesR v) (X0_moles v) (X0_moleCount v) (X0_fullAir v) z12_v_beats (X0_caught v) (X0_gnawed v) (X0_risen v) (X0_fallen v) ++ wX3 cy b u) → va_S A s.heap H locs → lv_has ls 3 [(0, .ref (a 0)), (1, .int y12_1)] → W p l e (headSpec wsX0_beat ({ frames := 5, cells := 0, slots := 0, locals := 121 } : Room)).room s m ([.ref (a 0)] : List Value).toArray below meth c H locs 0 0 (MQ below (q_X0_beat dC dI cy a b v u Q A) ([.ref (a 0)] : List Value).toArray s 0 0 A) (F0 m 12 ls []) := by
    intro z12_v_beats y12_1 z12_v_traps H locs ls hq hP hD hS hl
    obtain ⟨I12, μ12, h0, hs12⟩ := hq
    have key : ∀ (n : Nat) (y12_1 : Int32) (z12_v_traps : (Nat → Int32)) (H : Heap) (locs : List Loc) (ls : Array Slot), I12 y12_1 z12_v_traps → μ12 y12_1 z12_v_traps < n → va_P (dC, dI) vwCl (cX0 cy a b (X0_mounds v) (X0_opened v) (X0_roots v) z12_v_traps (X0_tunnels v) (X0_molesR v) (X0_moles v) (X0_moleCount v) (X0_fullAir v) z12_v_beats (X0_caught v) (X0_gnawed v) (X0_risen v) (X0_fallen v) ++ wX3 cy b u) H → va_D A (cX0 cy a b (X0_mounds v) (X0_opened v) (X0_roots v) z12_v_traps (X0_tunnels v) (X0_molesR v) (X0_moles v) (X0_moleCount v) (X0_fullAir v) z12_v_beats (X0_caught v) (X0_gnawed v) (X0_risen v) (X0_fallen v) ++ wX3 cy b u) → va_S A s.heap H locs → lv_has ls 3 [(0, .ref (a 0)), (1, .int y12_1)] → W p l e (headSpec wsX0_beat ({ frames := 5, cells := 0, slots := 0, locals := 121 } : Room)).room s m ([.ref (a 0)] : List Value).toArray below meth c H locs 0 0 (MQ below (q_X0_beat dC dI cy a b v u Q A) ([.ref (a 0)] : List Value).toArray s 0 0 A) (F0 m 12 ls []) := by
      intro n
      induction n with
      | zero => intro y12_1 z12_v_traps H locs ls _ hm; exact absurd hm (Nat.not_lt_zero _)
      | succ n ih =>
        intro y12_1 z12_v_traps H locs ls hI hm hP hD hS hl
        have hq := hs12 y12_1 z12_v_traps hI
        generalize hB12 : (fun (t0 : Int32) (t1 : (Nat → Int32)) => I12 t0 t1 ∧ μ12 t0 t1 < μ12 y12_1 z12_v_traps) = B12 at hq
        have bk12 : ∀ (y12_1 : Int32) (z12_v_traps : (Nat → Int32)) (H : Heap) (locs : List Loc) (ls : Array Slot), B12 y12_1 z12_v_traps → va_P (dC, dI) vwCl (cX0 cy a b (X0_mounds v) (X0_opened v) (X0_roots v) z12_v_traps (X0_tunnels v) (X0_molesR v) (X0_moles v) (X0_moleCount v) (X0_fullAir v) z12_v_beats (X0_caught v) (X0_gnawed v) (X0_risen v) (X0_fallen v) ++ wX3 cy b u) H → va_D A (cX0 cy a b (X0_mounds v) (X0_opened v) (X0_roots v) z12_v_traps (X0_tunnels v) (X0_molesR v) (X0_moles v) (X0_moleCount v) (X0_fullAir v) z12_v_beats (X0_caught v) (X0_gnawed v) (X0_risen v) (X0_fallen v) ++ wX3 cy b u) → va_S A s.heap H locs → lv_has ls 3 [(0, .ref (a 0)), (1, .int y12_1)] → W p l e (headSpec wsX0_beat ({ frames := 5, cells := 0, slots := 0, locals := 121 } : Room)).room s m ([.ref (a 0)] : List Value).toArray below meth c H locs 0 0 (MQ below (q_X0_beat dC dI cy a b v u Q A) ([.ref (a 0)] : List Value).toArray s 0 0 A) (F0 m 12 ls []) := by
          intro y12_1 z12_v_traps H locs ls h
          rw [← hB12] at h
          exact ih y12_1 z12_v_traps H locs ls h.1 (Nat.lt_of_lt_of_le h.2 (Nat.le_of_lt_succ hm))
        unfold wb_X0_beat_12 at hq
        refine lv_iload_n hx hb dX0_beat_12 rfl (lv_at hl 1 rfl) ?_
        refine lv_bipush (v := 64) hx hb dX0_beat_13 (by decide) ?_
        obtain ⟨hqA, hqB⟩ := hq
        refine lv_icmp_ge (tgt := 43) hx hb dX0_beat_15 (by decide) (fun c6 => ?_) (fun c6 => ?_)
        · have hq := hqA c6
          refine lv_iconst (v := 0) hx hb dX0_beat_43 (by decide) ?_
          refine lv_istore_n (lv' := [(1, .int 0), (0, .ref (a 0))]) hx hb dX0_beat_44 rfl hl (by decide) rfl (fun ls hl => ?_)
          refine lv_aload_n hx hb dX0_beat_45 rfl (lv_at hl 1 rfl) ?_
          refine va_get (D := (dC, dI)) (ci := 0) (v := .int (X0_moleCount v)) (C := RX0) (T := TX0) (N := 14) hx hb hts iK0 hown hK hP 0 rfl rfl 7 (by decide) lk0 (fun _ h9 => h9) rfl dX0_beat_46 ?_
          refine lv_istore_n (lv' := [(2, .int (X0_moleCount v)), (1, .int 0), (0, .ref (a 0))]) hx hb dX0_beat_49 rfl hl (by decide) rfl (fun ls hl => ?_)
          exact J50 z12_v_beats 0 (X0_moleCount v) (X3_cells u) (X3_ends u) (X3_size u) (X3_used u) (X0_caught v) (X0_gnawed v) (X0_moleCount v) (X0_moles v) (X0_molesR v) (X0_mounds v) (X0_risen v) (X0_roots v) z12_v_traps (X0_tunnels v) _ _ _ hq hP hD hS (lv_sub hl [2, 1, 0] rfl)
        · have hq := hqB c6
          refine lv_aload_n hx hb dX0_beat_18 rfl (lv_at hl 0 rfl) ?_
          refine va_get (D := (dC, dI)) (ci := 0) (v := .ref (a 4)) (C := RX0) (T := TX0) (N := 14) hx hb hts iK0 hown hK hP 0 rfl rfl 3 (by decide) lk1 (fun _ h9 => h9) rfl dX0_beat_19 ?_
          refine lv_iload_n hx hb dX0_beat_22 rfl (lv_at hl 1 rfl) ?_
          obtain ⟨g4, hq⟩ := hq
          refine va_iald hx hb hK hP 4 0 rfl rfl g4 dX0_beat_23 ?_
          obtain ⟨hqA, hqB⟩ := hq
          refine lv_if_le (tgt := 37) hx hb dX0_beat_24 (by decide) (fun c5 => ?_) (fun c5 => ?_)
          · have hq := hqA c5
            refine lv_iinc (v := (y12_1 + 1)) (lv' := [(1, .int (y12_1 + 1)), (0, .ref (a 0))]) hx hb dX0_beat_37 hl (k := 1) rfl rfl (by decide) rfl (fun ls hl => ?_)
            refine lv_goto (tgt := 12) hx hb dX0_beat_40 (by decide) ?_
            exact bk12 (y12_1 + 1) z12_v_traps _ _ _ hq hP hD hS (lv_sub hl [1, 0] rfl)
          · have hq := hqB c5
            refine lv_aload_n hx hb dX0_beat_27 rfl (lv_at hl 0 rfl) ?_
            refine va_get (D := (dC, dI)) (ci := 0) (v := .ref (a 4)) (C := RX0) (T := TX0) (N := 14) hx hb hts iK0 hown hK hP 0 rfl rfl 3 (by decide) lk1 (fun _ h9 => h9) rfl dX0_beat_28 ?_
            refine lv_iload_n hx hb dX0_beat_31 rfl (lv_at hl 1 rfl) ?_
            refine lv_dup2_11 hx hb dX0_beat_32 rfl rfl ?_
            refine va_iald hx hb hK hP 4 0 rfl rfl g4 dX0_beat_33 ?_
            refine lv_iconst (v := 1) hx hb dX0_beat_34 (by decide) ?_
            refine lv_isub hx hb dX0_beat_35 ?_
            refine va_iast hx hb hK hP hD hS 4 0 rfl rfl g4 dX0_beat_36 (fun H locs hP hD hS => ?_)
            have hP : va_P (dC, dI) vwCl (cX0 cy a b (X0_mounds v) (X0_opened v) (X0_roots v) (upd z12_v_traps y12_1.toNatClampNeg ((z12_v_traps y12_1.toNatClampNeg) - 1)) (X0_tunnels v) (X0_molesR v) (X0_moles v) (X0_moleCount v) (X0_fullAir v) z12_v_beats (X0_caught v) (X0_gnawed v) (X0_risen v) (X0_fallen v) ++ wX3 cy b u) H := hP
            have hD : va_D A (cX0 cy a b (X0_mounds v) (X0_opened v) (X0_roots v) (upd z12_v_traps y12_1.toNatClampNeg ((z12_v_traps y12_1.toNatClampNeg) - 1)) (X0_tunnels v) (X0_molesR v) (X0_moles v) (X0_moleCount v) (X0_fullAir v) z12_v_beats (X0_caught v) (X0_gnawed v) (X0_risen v) (X0_fallen v) ++ wX3 cy b u) := hD
            refine lv_iinc (v := (y12_1 + 1)) (lv' := [(1, .int (y12_1 + 1)), (0, .ref (a 0))]) hx hb dX0_beat_37 hl (k := 1) rfl rfl (by decide) rfl (fun ls hl => ?_)
            refine lv_goto (tgt := 12) hx hb dX0_beat_40 (by decide) ?_
            exact bk12 (y12_1 + 1) (upd z12_v_traps y12_1.toNatClampNeg ((z12_v_traps y12_1.toNatClampNeg) - 1)) _ _ _ hq hP hD hS (lv_sub hl [1, 0] rfl)
    exact key _ y12_1 z12_v_traps H locs ls h0 (Nat.lt_succ_self _) hP hD hS hl
  refine lv_aload_n hx hb dX0_beat_0 rfl (lv_at hl 0 rfl) ?_
  refine lv_dup hx hb dX0_beat_1 rfl ?_
  refine va_get (D := (dC, dI)) (ci := 0) (v := .int (X0_beats v)) (C := RX0) (T := TX0) (N := 14) hx hb hts iK0 hown hK hP 0 rfl rfl 9 (by decide) lk2 (fun _ h9 => h9) rfl dX0_beat_2 ?_
  refine lv_iconst (v := 1) hx hb dX0_beat_5 (by decide) ?_
  refine lv_iadd hx hb dX0_beat_6 ?_
  refine va_put (D := (dC, dI)) (ci := 0) (v := .int ((X0_beats v) + 1)) (ty := .int) (C := RX0) (T := TX0) (N := 14) hx hb hts iK0 tyX0 tyX0_ok nmX0 hown hK hP hD hS 0 rfl rfl 9 (by decide) lk2 (fun _ h9 => h9) rfl (by decide +kernel) rfl rfl (Nat.le_of_ble_eq_true rfl) dX0_beat_7 (fun H locs hP hD hS => ?_)
  have hP : va_P (dC, dI) vwCl (cX0 cy a b (X0_mounds v) (X0_opened v) (X0_roots v) (X0_traps v) (X0_tunnels v) (X0_molesR v) (X0_moles v) (X0_moleCount v) (X0_fullAir v) ((X0_beats v) + 1) (X0_caught v) (X0_gnawed v) (X0_risen v) (X0_fallen v) ++ wX3 cy b u) H := hP
  have hD : va_D A (cX0 cy a b (X0_mounds v) (X0_opened v) (X0_roots v) (X0_traps v) (X0_tunnels v) (X0_molesR v) (X0_moles v) (X0_moleCount v) (X0_fullAir v) ((X0_beats v) + 1) (X0_caught v) (X0_gnawed v) (X0_risen v) (X0_fallen v) ++ wX3 cy b u) := hD
  refine lv_iconst (v := 0) hx hb dX0_beat_10 (by decide) ?_
  refine lv_istore_n (lv' := [(1, .int 0), (0, .ref (a 0))]) hx hb dX0_beat_11 rfl hl (by decide) rfl (fun ls hl => ?_)
  exact J12 ((X0_beats v) + 1) 0 (X0_traps v) _ _ _ hq hP hD hS (lv_sub hl [1, 0] rfl)
def wb_X4_findSure_58 (v : V_X4) (w : V_X0) (y43_2 : Int32) (y43_3 : Int32) (z43_v_sure : (Nat → Int32)) (B43 : Int32 → Int32 → (Nat → Int32) → Prop)  (y58_2 : Int32) (y58_4 : Int32) (z58_v_sure : (Nat → Int32)) (B58 : Int32 → Int32 → (Nat → Int32) → Prop) (Q : (Nat → Int32) → Prop) : Prop :=
  ((64 ≤ y58_4 → B43 y58_2 (y43_3 + 1) z58_v_sure) ∧
  (¬ 64 ≤ y58_4 → vp_in y58_4 64 ∧ ((((X0_opened w) y58_4.toNatClampNeg) = 0 → B58 y58_2 (y58_4 + 1) z58_v_sure) ∧
  (¬ ((X0_opened w) y58_4.toNatClampNeg) = 0 → wp_X4_concludeAt (X4_s2 v z58_v_sure) y58_4 (fun r78 z78_v_sure =>
  ((r78 = 0 → B58 y58_2 (y58_4 + 1) z78_v_sure) ∧
  (¬ r78 = 0 → B58 1 (y58_4 + 1) z78_v_sure)))))))
def wp_X4_findSure_58 (v : V_X4) (w : V_X0) (y43_2 : Int32) (y43_3 : Int32) (z43_v_sure : (Nat → Int32)) (B43 : Int32 → Int32 → (Nat → Int32) → Prop)  (y58_2 : Int32) (y58_4 : Int32) (z58_v_sure : (Nat → Int32)) (Q : (Nat → Int32) → Prop) : Prop :=
  ∃ (I : Int32 → Int32 → (Nat → Int32) → Prop) (μ : Int32 → Int32 → (Nat → Int32) → Nat), I y58_2 y58_4 z58_v_sure ∧ ∀ (s0 : Int32) (s1 : Int32) (s2 : (Nat → Int32)), I s0 s1 s2 → wb_X4_findSure_58 v w y43_2 y43_3 z43_v_sure B43  s0 s1 s2 (fun t0 t1 t2 => I t0 t1 t2 ∧ μ t0 t1 t2 < μ s0 s1 s2) Q
def wb_X4_findSure_43 (v : V_X4) (w : V_X0)  (y43_2 : Int32) (y43_3 : Int32) (z43_v_sure : (Nat → Int32)) (B43 : Int32 → Int32 → (Nat → Int32) → Prop) (Q : (Nat → Int32) → Prop) : Prop :=
  ((y43_2 = 0 → Q z43_v_sure) ∧
  (¬ y43_2 = 0 → ((64 < y43_3 → Q z43_v_sure) ∧
  (¬ 64 < y43_3 → wp_X4_findSure_58 v w y43_2 y43_3 z43_v_sure B43  0 0 z43_v_sure Q))))
def wp_X4_findSure_43 (v : V_X4) (w : V_X0)  (y43_2 : Int32) (y43_3 : Int32) (z43_v_sure : (Nat → Int32)) (Q : (Nat → Int32) → Prop) : Prop :=
  ∃ (I : Int32 → Int32 → (Nat → Int32) → Prop) (μ : Int32 → Int32 → (Nat → Int32) → Nat), I y43_2 y43_3 z43_v_sure ∧ ∀ (s0 : Int32) (s1 : Int32) (s2 : (Nat → Int32)), I s0 s1 s2 → wb_X4_findSure_43 v w  s0 s1 s2 (fun t0 t1 t2 => I t0 t1 t2 ∧ μ t0 t1 t2 < μ s0 s1 s2) Q
def wb_X4_findSure_2 (v : V_X4) (w : V_X0)  (y2_2 : Int32) (z2_v_sure : (Nat → Int32)) (B2 : Int32 → (Nat → Int32) → Prop) (Q : (Nat → Int32) → Prop) : Prop :=
  ((64 ≤ y2_2 → wp_X4_findSure_43 v w  1 0 z2_v_sure Q) ∧
  (¬ 64 ≤ y2_2 → vp_in y2_2 64 ∧ ((((X0_opened w) y2_2.toNatClampNeg) = 0 → B2 (y2_2 + 1) (upd z2_v_sure y2_2.toNatClampNeg (-1))) ∧
  (¬ ((X0_opened w) y2_2.toNatClampNeg) = 0 → B2 (y2_2 + 1) (upd z2_v_sure y2_2.toNatClampNeg ((X4_hollow v) y2_2.toNatClampNeg))))))
def wp_X4_findSure_2 (v : V_X4) (w : V_X0)  (y2_2 : Int32) (z2_v_sure : (Nat → Int32)) (Q : (Nat → Int32) → Prop) : Prop :=
  ∃ (I : Int32 → (Nat → Int32) → Prop) (μ : Int32 → (Nat → Int32) → Nat), I y2_2 z2_v_sure ∧ ∀ (s0 : Int32) (s1 : (Nat → Int32)), I s0 s1 → wb_X4_findSure_2 v w  s0 s1 (fun t0 t1 => I t0 t1 ∧ μ t0 t1 < μ s0 s1) Q
def wp_X4_findSure (v : V_X4) (w : V_X0) (Q : (Nat → Int32) → Prop) : Prop :=
  wp_X4_findSure_2 v w  0 (X4_sure v) Q
def q_X4_findSure (dC : Nat → ClassId) (dI : Nat → Nat → Nat) (cy : Nat → ClassId) (a d b : Nat → Nat) (v : V_X4) (w : V_X0) (Q : (Nat → Int32) → Prop) (A : Nat → Prop) : Array Value → State → Outcome → State → Prop := va_Qv (fun (u : (Nat → Int32)) => Q u) (fun (u : (Nat → Int32)) t => xAt dC dI cy A (cX4 cy a (X4_hollow v) (X4_crossings v) u (X4_seenBy v) ++ wX0 cy d b w) t) A
set_option maxHeartbeats 4000000 in
set_option maxRecDepth 100000 in
theorem c_X4_findSure (l : Launch) (dC : Nat → ClassId) (dI : Nat → Nat → Nat) (cy : Nat → ClassId) (a d b : Nat → Nat) (sz : Nat) (v : V_X4) (w : V_X0) (Q : (Nat → Int32) → Prop) (hq : wp_X4_findSure v w Q) : Met l yX4_findSure wsX4_findSure ({ frames := 4, cells := 0, slots := 0, locals := 92 } : Room) (va_Pc [.ref (a 0), .ref (d 0)] (xPreE dC dI cy (wX4 cy a v ++ wX0 cy d b w) sz)) (q_X4_findSure dC dI cy a d b v w Q (va_A (wX4 cy a v ++ wX0 cy d b w) sz)) 0 0 (va_A (wX4 cy a v ++ wX0 cy d b w) sz) := by
  refine Met.ofW (cc := cX4_findSure) (maxL := 5) (ret := none) (by decide) rfl ?_
  intro p e s m args below meth c s₁ B hml hv
  obtain ⟨rfl, hsz, hP, hK, hD0, hE⟩ := hv
  have hx := B.exec
  have hb := B.bytes
  have hr := B.returns
  have hts := atoms_spec (ws := wsX4_findSure) B.pre
  have hown : s.vm.findClass RX4 = some m.cls := findClass_of_methodNamed B.named
  have hlocks := B.notSynchronized
  subst hsz
  have hD := hD0.self (sz := s.heap.size)
  generalize hAe : va_A (wX4 cy a v ++ wX0 cy d b w) s.heap.size = A at hD hE ⊢
  have hAe0 : ∀ q : Nat, s.heap.size ≤ q → A q := fun q h => by rw [← hAe]; exact Or.inr h
  have hS : va_S A s.heap s.heap [] := va_S.rf
  have hl := lv_entry ([.ref (a 0), .ref (d 0)]) (n := 5) (Nat.le_of_ble_eq_true rfl)
  rw [lg_entry_eq]
  generalize (lg_sl ([.ref (a 0), .ref (d 0)]) ++ List.replicate (5 - (lg_sl ([.ref (a 0), .ref (d 0)])).length) Slot.unset).toArray = ls at hl ⊢
  have hl : lv_has ls 5 [(0, .ref (a 0)), (1, .ref (d 0))] := hl
  have lk0 := hts (Cond.fieldLink RX4 77 "MolesLawn$Lawn" "opened" "[Z") (List.mem_cons_of_mem _ (List.mem_append_left _ (List.mem_append_left _ (List.mem_of_getElem? (i := 1) rfl))))
  have lk1 := hts (Cond.fieldLink RX4 18 "MolesLawn$Survey" "sure" "[I") (List.mem_cons_of_mem _ (List.mem_append_left _ (List.mem_append_left _ (List.mem_of_getElem? (i := 0) rfl))))
  have lk2 := hts (Cond.fieldLink RX4 9 "MolesLawn$Survey" "hollow" "[I") (List.mem_cons_of_mem _ (List.mem_append_left _ (List.mem_append_left _ (List.mem_of_getElem? (i := 2) rfl))))
  have iK0 : ∀ w ∈ wsX00, w ∈ wsX4_findSure := fun _ h => (List.mem_cons_of_mem _ (List.mem_append_right _ h))
  have iK4 : ∀ w ∈ wsX40, w ∈ wsX4_findSure := fun _ h => (List.mem_cons_of_mem _ (List.mem_append_left _ (List.mem_append_right _ h)))
  unfold wp_X4_findSure at hq
  have J43 : ∀  (y43_2 : Int32) (y43_3 : Int32) (z43_v_sure : (Nat → Int32)) (H : Heap) (locs : List Loc) (ls : Array Slot), wp_X4_findSure_43 v w  y43_2 y43_3 z43_v_sure Q → va_P (dC, dI) vwCl (cX4 cy a (X4_hollow v) (X4_crossings v) z43_v_sure (X4_seenBy v) ++ wX0 cy d b w) H → va_D A (cX4 cy a (X4_hollow v) (X4_crossings v) z43_v_sure (X4_seenBy v) ++ wX0 cy d b w) → va_S A s.heap H locs → lv_has ls 5 [(0, .ref (a 0)), (1, .ref (d 0)), (2, .int y43_2), (3, .int y43_3)] → W p l e (headSpec wsX4_findSure ({ frames := 4, cells := 0, slots := 0, locals := 92 } : Room)).room s m ([.ref (a 0), .ref (d 0)] : List Value).toArray below meth c H locs 0 0 (MQ below (q_X4_findSure dC dI cy a d b v w Q A) ([.ref (a 0), .ref (d 0)] : List Value).toArray s 0 0 A) (F0 m 43 ls []) := by
    intro  y43_2 y43_3 z43_v_sure H locs ls hq hP hD hS hl
    obtain ⟨I43, μ43, h0, hs43⟩ := hq
    have key : ∀ (n : Nat) (y43_2 : Int32) (y43_3 : Int32) (z43_v_sure : (Nat → Int32)) (H : Heap) (locs : List Loc) (ls : Array Slot), I43 y43_2 y43_3 z43_v_sure → μ43 y43_2 y43_3 z43_v_sure < n → va_P (dC, dI) vwCl (cX4 cy a (X4_hollow v) (X4_crossings v) z43_v_sure (X4_seenBy v) ++ wX0 cy d b w) H → va_D A (cX4 cy a (X4_hollow v) (X4_crossings v) z43_v_sure (X4_seenBy v) ++ wX0 cy d b w) → va_S A s.heap H locs → lv_has ls 5 [(0, .ref (a 0)), (1, .ref (d 0)), (2, .int y43_2), (3, .int y43_3)] → W p l e (headSpec wsX4_findSure ({ frames := 4, cells := 0, slots := 0, locals := 92 } : Room)).room s m ([.ref (a 0), .ref (d 0)] : List Value).toArray below meth c H locs 0 0 (MQ below (q_X4_findSure dC dI cy a d b v w Q A) ([.ref (a 0), .ref (d 0)] : List Value).toArray s 0 0 A) (F0 m 43 ls []) := by
      intro n
      induction n with
      | zero => intro y43_2 y43_3 z43_v_sure H locs ls _ hm; exact absurd hm (Nat.not_lt_zero _)
      | succ n ih =>
        intro y43_2 y43_3 z43_v_sure H locs ls hI hm hP hD hS hl
        have hq := hs43 y43_2 y43_3 z43_v_sure hI
        generalize hB43 : (fun (t0 : Int32) (t1 : Int32) (t2 : (Nat → Int32)) => I43 t0 t1 t2 ∧ μ43 t0 t1 t2 < μ43 y43_2 y43_3 z43_v_sure) = B43 at hq
        have bk43 : ∀ (y43_2 : Int32) (y43_3 : Int32) (z43_v_sure : (Nat → Int32)) (H : Heap) (locs : List Loc) (ls : Array Slot), B43 y43_2 y43_3 z43_v_sure → va_P (dC, dI) vwCl (cX4 cy a (X4_hollow v) (X4_crossings v) z43_v_sure (X4_seenBy v) ++ wX0 cy d b w) H → va_D A (cX4 cy a (X4_hollow v) (X4_crossings v) z43_v_sure (X4_seenBy v) ++ wX0 cy d b w) → va_S A s.heap H locs → lv_has ls 5 [(0, .ref (a 0)), (1, .ref (d 0)), (2, .int y43_2), (3, .int y43_3)] → W p l e (headSpec wsX4_findSure ({ frames := 4, cells := 0, slots := 0, locals := 92 } : Room)).room s m ([.ref (a 0), .ref (d 0)] : List Value).toArray below meth c H locs 0 0 (MQ below (q_X4_findSure dC dI cy a d b v w Q A) ([.ref (a 0), .ref (d 0)] : List Value).toArray s 0 0 A) (F0 m 43 ls []) := by
          intro y43_2 y43_3 z43_v_sure H locs ls h
          rw [← hB43] at h
          exact ih y43_2 y43_3 z43_v_sure H locs ls h.1 (Nat.lt_of_lt_of_le h.2 (Nat.le_of_lt_succ hm))
        unfold wb_X4_findSure_43 at hq
        have J58 : ∀  (y58_2 : Int32) (y58_4 : Int32) (z58_v_sure : (Nat → Int32)) (H : Heap) (locs : List Loc) (ls : Array Slot), wp_X4_findSure_58 v w y43_2 y43_3 z43_v_sure B43  y58_2 y58_4 z58_v_sure Q → va_P (dC, dI) vwCl (cX4 cy a (X4_hollow v) (X4_crossings v) z58_v_sure (X4_seenBy v) ++ wX0 cy d b w) H → va_D A (cX4 cy a (X4_hollow v) (X4_crossings v) z58_v_sure (X4_seenBy v) ++ wX0 cy d b w) → va_S A s.heap H locs → lv_has ls 5 [(0, .ref (a 0)), (1, .ref (d 0)), (2, .int y58_2), (3, .int y43_3), (4, .int y58_4)] → W p l e (headSpec wsX4_findSure ({ frames := 4, cells := 0, slots := 0, locals := 92 } : Room)).room s m ([.ref (a 0), .ref (d 0)] : List Value).toArray below meth c H locs 0 0 (MQ below (q_X4_findSure dC dI cy a d b v w Q A) ([.ref (a 0), .ref (d 0)] : List Value).toArray s 0 0 A) (F0 m 58 ls []) := by
          intro  y58_2 y58_4 z58_v_sure H locs ls hq hP hD hS hl
          obtain ⟨I58, μ58, h0, hs58⟩ := hq
          have key : ∀ (n : Nat) (y58_2 : Int32) (y58_4 : Int32) (z58_v_sure : (Nat → Int32)) (H : Heap) (locs : List Loc) (ls : Array Slot), I58 y58_2 y58_4 z58_v_sure → μ58 y58_2 y58_4 z58_v_sure < n → va_P (dC, dI) vwCl (cX4 cy a (X4_hollow v) (X4_crossings v) z58_v_sure (X4_seenBy v) ++ wX0 cy d b w) H → va_D A (cX4 cy a (X4_hollow v) (X4_crossings v) z58_v_sure (X4_seenBy v) ++ wX0 cy d b w) → va_S A s.heap H locs → lv_has ls 5 [(0, .ref (a 0)), (1, .ref (d 0)), (2, .int y58_2), (3, .int y43_3), (4, .int y58_4)] → W p l e (headSpec wsX4_findSure ({ frames := 4, cells := 0, slots := 0, locals := 92 } : Room)).room s m ([.ref (a 0), .ref (d 0)] : List Value).toArray below meth c H locs 0 0 (MQ below (q_X4_findSure dC dI cy a d b v w Q A) ([.ref (a 0), .ref (d 0)] : List Value).toArray s 0 0 A) (F0 m 58 ls []) := by
            intro n
            induction n with
            | zero => intro y58_2 y58_4 z58_v_sure H locs ls _ hm; exact absurd hm (Nat.not_lt_zero _)
            | succ n ih =>
              intro y58_2 y58_4 z58_v_sure H locs ls hI hm hP hD hS hl
              have hq := hs58 y58_2 y58_4 z58_v_sure hI
              generalize hB58 : (fun (t0 : Int32) (t1 : Int32) (t2 : (Nat → Int32)) => I58 t0 t1 t2 ∧ μ58 t0 t1 t2 < μ58 y58_2 y58_4 z58_v_sure) = B58 at hq
              have bk58 : ∀ (y58_2 : Int32) (y58_4 : Int32) (z58_v_sure : (Nat → Int32)) (H : Heap) (locs : List Loc) (ls : Array Slot), B58 y58_2 y58_4 z58_v_sure → va_P (dC, dI) vwCl (cX4 cy a (X4_hollow v) (X4_crossings v) z58_v_sure (X4_seenBy v) ++ wX0 cy d b w) H → va_D A (cX4 cy a (X4_hollow v) (X4_crossings v) z58_v_sure (X4_seenBy v) ++ wX0 cy d b w) → va_S A s.heap H locs → lv_has ls 5 [(0, .ref (a 0)), (1, .ref (d 0)), (2, .int y58_2), (3, .int y43_3), (4, .int y58_4)] → W p l e (headSpec wsX4_findSure ({ frames := 4, cells := 0, slots := 0, locals := 92 } : Room)).room s m ([.ref (a 0), .ref (d 0)] : List Value).toArray below meth c H locs 0 0 (MQ below (q_X4_findSure dC dI cy a d b v w Q A) ([.ref (a 0), .ref (d 0)] : List Value).toArray s 0 0 A) (F0 m 58 ls []) := by
                intro y58_2 y58_4 z58_v_sure H locs ls h
                rw [← hB58] at h
                exact ih y58_2 y58_4 z58_v_sure H locs ls h.1 (Nat.lt_of_lt_of_le h.2 (Nat.le_of_lt_succ hm))
              unfold wb_X4_findSure_58 at hq
              refine lv_iload hx hb dX4_findSure_58 (lv_at hl 4 rfl) ?_
              refine lv_bipush (v := 64) hx hb dX4_findSure_60 (by decide) ?_
              obtain ⟨hqA, hqB⟩ := hq
              refine lv_icmp_ge (tgt := 92) hx hb dX4_findSure_62 (by decide) (fun c4 => ?_) (fun c4 => ?_)
              · have hq := hqA c4
                refine lv_iinc (v := (y43_3 + 1)) (lv' := [(3, .int (y43_3 + 1)), (0, .ref (a 0)), (1, .ref (d 0)), (2, .int y58_2), (4, .int y58_4)]) hx hb dX4_findSure_92 hl (k := 3) rfl rfl (by decide) rfl (fun ls hl => ?_)
                refine lv_goto (tgt := 43) hx hb dX4_findSure_95 (by decide) ?_
                exact bk43 y58_2 (y43_3 + 1) z58_v_sure _ _ _ hq hP hD hS (lv_sub hl [1, 2, 3, 0] rfl)
              · have hq := hqB c4
                refine lv_aload_n hx hb dX4_findSure_65 rfl (lv_at hl 1 rfl) ?_
                refine va_get (D := (dC, dI)) (ci := 0) (v := .ref (d 2)) (C := RX0) (T := TX0) (N := 14) hx hb hts iK0 hown hK hP 5 rfl rfl 1 (by decide) lk0 (fun _ h9 => h9) rfl dX4_findSure_66 ?_
                refine lv_iload hx hb dX4_findSure_69 (lv_at hl 4 rfl) ?_
                obtain ⟨g1, hq⟩ := hq
                refine va_zald hx hb hK hP 7 1 rfl rfl g1 dX4_findSure_71 ?_
                obtain ⟨hqA, hqB⟩ := hq
                refine lv_if_eq (tgt := 86) hx hb dX4_findSure_72 (by decide) (fun c3 => ?_) (fun c3 => ?_)
                · have hq := hqA c3
                  refine lv_iinc (v := (y58_4 + 1)) (lv' := [(4, .int (y58_4 + 1)), (0, .ref (a 0)), (1, .ref (d 0)), (2, .int y58_2), (3, .int y43_3)]) hx hb dX4_findSure_86 hl (k := 4) rfl rfl (by decide) rfl (fun ls hl => ?_)
                  refine lv_goto (tgt := 58) hx hb dX4_findSure_89 (by decide) ?_
                  exact bk58 y58_2 (y58_4 + 1) z58_v_sure _ _ _ hq hP hD hS (lv_sub hl [1, 2, 3, 4, 0] rfl)
                · have hq := hqB c3
                  refine lv_aload_n hx hb dX4_findSure_75 rfl (lv_at hl 0 rfl) ?_
                  refine lv_iload hx hb dX4_findSure_76 (lv_at hl 4 rfl) ?_
                  have hC : (([0, 1, 2, 3, 4] : List Nat).map (fun i => (cX4 cy a (X4_hollow v) (X4_crossings v) z58_v_sure (X4_seenBy v) ++ wX0 cy d b w)[i]?)) = (cX4 cy a (X4_hollow v) (X4_crossings v) z58_v_sure (X4_seenBy v)).map some := rfl
                  have hPc := xsubP hP hC
                  have hDc := xsubD hD (by decide) hC
                  have hFc := va_free (wc := (cX4 cy a (X4_hollow v) (X4_crossings v) z58_v_sure (X4_seenBy v))) hD hS hAe0 [0, 1, 2, 3, 4] hC
                  refine va_calli (va_runV (As := [.int y58_4]) (rest := []) ⟨hx, hb, hml, hown, hts⟩ (c_X4_concludeAt l dC dI cy a _ (X4_s2 v z58_v_sure) y58_4 _ hq) (cwV 1 hts gX4_findSure_X4_concludeAt rfl rfl rfl (by decide +kernel) ⟨Nat.le_of_ble_eq_true rfl, Nat.le_of_ble_eq_true rfl⟩) ⟨xPre_blindE, va_recv hK hP (ci := 4) (q0 := 0) rfl rfl, xPre_ofE hPc hK hDc hE hS hFc⟩ rfl rfl hl.1 rfl (lv_room (Nat.le_of_ble_eq_true rfl)) dX4_findSure_78 ⟨Nat.le_of_ble_eq_true rfl, Nat.le_of_ble_eq_true rfl⟩) hS (fun q _ h => hFc q h) hFc (fun r78 z78_v_sure t H locs ht hvm hq hB hz1 hk1 hS => ?_)
                  obtain ⟨hP1, -, hD1⟩ := hB
                  rw [ht] at hP1
                  obtain ⟨hP, hD⟩ := xj hP hD [0, 1, 2, 3, 4] (cX4 cy a (X4_hollow v) (X4_crossings v) z78_v_sure (X4_seenBy v)) (ws' := (cX4 cy a (X4_hollow v) (X4_crossings v) z78_v_sure (X4_seenBy v) ++ wX0 cy d b w)) hC rfl rfl hk1 hFc hP1
                  obtain ⟨hqA, hqB⟩ := hq
                  refine lv_if_eq (tgt := 86) hx hb dX4_findSure_81 (by decide) (fun c2 => ?_) (fun c2 => ?_)
                  · have hq := hqA c2
                    refine lv_iinc (v := (y58_4 + 1)) (lv' := [(4, .int (y58_4 + 1)), (0, .ref (a 0)), (1, .ref (d 0)), (2, .int y58_2), (3, .int y43_3)]) hx hb dX4_findSure_86 hl (k := 4) rfl rfl (by decide) rfl (fun ls hl => ?_)
                    refine lv_goto (tgt := 58) hx hb dX4_findSure_89 (by decide) ?_
                    exact bk58 y58_2 (y58_4 + 1) z78_v_sure _ _ _ hq hP hD hS (lv_sub hl [1, 2, 3, 4, 0] rfl)
                  · have hq := hqB c2
                    refine lv_iconst (v := 1) hx hb dX4_findSure_84 (by decide) ?_
                    refine lv_istore_n (lv' := [(2, .int 1), (0, .ref (a 0)), (1, .ref (d 0)), (3, .int y43_3), (4, .int y58_4)]) hx hb dX4_findSure_85 rfl hl (by decide) rfl (fun ls hl => ?_)
                    refine lv_iinc (v := (y58_4 + 1)) (lv' := [(4, .int (y58_4 + 1)), (2, .int 1), (0, .ref (a 0)), (1, .ref (d 0)), (3, .int y43_3)]) hx hb dX4_findSure_86 hl (k := 4) rfl rfl (by decide) rfl (fun ls hl => ?_)
                    refine lv_goto (tgt := 58) hx hb dX4_findSure_89 (by decide) ?_
                    exact bk58 1 (y58_4 + 1) z78_v_sure _ _ _ hq hP hD hS (lv_sub hl [2, 3, 1, 4, 0] rfl)
          exact key _ y58_2 y58_4 z58_v_sure H locs ls h0 (Nat.lt_succ_self _) hP hD hS hl
        refine lv_iload_n hx hb dX4_findSure_43 rfl (lv_at hl 2 rfl) ?_
        obtain ⟨hqA, hqB⟩ := hq
        refine lv_if_eq (tgt := 98) hx hb dX4_findSure_44 (by decide) (fun c6 => ?_) (fun c6 => ?_)
        · have hq := hqA c6
          exact W.vret hx hb hr (fun t ht hW => ⟨⟨z43_v_sure, rfl, hq, (xAt_of hP hK hD ht hW)⟩, hS.F ht⟩) hS.2.2 dX4_findSure_98
        · have hq := hqB c6
          refine lv_iload_n hx hb dX4_findSure_47 rfl (lv_at hl 3 rfl) ?_
          refine lv_bipush (v := 64) hx hb dX4_findSure_48 (by decide) ?_
          obtain ⟨hqA, hqB⟩ := hq
          refine lv_icmp_gt (tgt := 98) hx hb dX4_findSure_50 (by decide) (fun c5 => ?_) (fun c5 => ?_)
          · have hq := hqA c5
            exact W.vret hx hb hr (fun t ht hW => ⟨⟨z43_v_sure, rfl, hq, (xAt_of hP hK hD ht hW)⟩, hS.F ht⟩) hS.2.2 dX4_findSure_98
          · have hq := hqB c5
            refine lv_iconst (v := 0) hx hb dX4_findSure_53 (by decide) ?_
            refine lv_istore_n (lv' := [(2, .int 0), (0, .ref (a 0)), (1, .ref (d 0)), (3, .int y43_3)]) hx hb dX4_findSure_54 rfl hl (by decide) rfl (fun ls hl => ?_)
            refine lv_iconst (v := 0) hx hb dX4_findSure_55 (by decide) ?_
            refine lv_istore (lv' := [(4, .int 0), (2, .int 0), (0, .ref (a 0)), (1, .ref (d 0)), (3, .int y43_3)]) hx hb dX4_findSure_56 hl (by decide) rfl (fun ls hl => ?_)
            exact J58  0 0 z43_v_sure _ _ _ hq hP hD hS (lv_sub hl [2, 3, 1, 4, 0] rfl)
    exact key _ y43_2 y43_3 z43_v_sure H locs ls h0 (Nat.lt_succ_self _) hP hD hS hl
  have J2 : ∀  (y2_2 : Int32) (z2_v_sure : (Nat → Int32)) (H : Heap) (locs : List Loc) (ls : Array Slot), wp_X4_findSure_2 v w  y2_2 z2_v_sure Q → va_P (dC, dI) vwCl (cX4 cy a (X4_hollow v) (X4_crossings v) z2_v_sure (X4_seenBy v) ++ wX0 cy d b w) H → va_D A (cX4 cy a (X4_hollow v) (X4_crossings v) z2_v_sure (X4_seenBy v) ++ wX0 cy d b w) → va_S A s.heap H locs → lv_has ls 5 [(0, .ref (a 0)), (1, .ref (d 0)), (2, .int y2_2)] → W p l e (headSpec wsX4_findSure ({ frames := 4, cells := 0, slots := 0, locals := 92 } : Room)).room s m ([.ref (a 0), .ref (d 0)] : List Value).toArray below meth c H locs 0 0 (MQ below (q_X4_findSure dC dI cy a d b v w Q A) ([.ref (a 0), .ref (d 0)] : List Value).toArray s 0 0 A) (F0 m 2 ls []) := by
    intro  y2_2 z2_v_sure H locs ls hq hP hD hS hl
    obtain ⟨I2, μ2, h0, hs2⟩ := hq
    have key : ∀ (n : Nat) (y2_2 : Int32) (z2_v_sure : (Nat → Int32)) (H : Heap) (locs : List Loc) (ls : Array Slot), I2 y2_2 z2_v_sure → μ2 y2_2 z2_v_sure < n → va_P (dC, dI) vwCl (cX4 cy a (X4_hollow v) (X4_crossings v) z2_v_sure (X4_seenBy v) ++ wX0 cy d b w) H → va_D A (cX4 cy a (X4_hollow v) (X4_crossings v) z2_v_sure (X4_seenBy v) ++ wX0 cy d b w) → va_S A s.heap H locs → lv_has ls 5 [(0, .ref (a 0)), (1, .ref (d 0)), (2, .int y2_2)] → W p l e (headSpec wsX4_findSure ({ frames := 4, cells := 0, slots := 0, locals := 92 } : Room)).room s m ([.ref (a 0), .ref (d 0)] : List Value).toArray below meth c H locs 0 0 (MQ below (q_X4_findSure dC dI cy a d b v w Q A) ([.ref (a 0), .ref (d 0)] : List Value).toArray s 0 0 A) (F0 m 2 ls []) := by
      intro n
      induction n with
      | zero => intro y2_2 z2_v_sure H locs ls _ hm; exact absurd hm (Nat.not_lt_zero _)
      | succ n ih =>
        intro y2_2 z2_v_sure H locs ls hI hm hP hD hS hl
        have hq := hs2 y2_2 z2_v_sure hI
        generalize hB2 : (fun (t0 : Int32) (t1 : (Nat → Int32)) => I2 t0 t1 ∧ μ2 t0 t1 < μ2 y2_2 z2_v_sure) = B2 at hq
        have bk2 : ∀ (y2_2 : Int32) (z2_v_sure : (Nat → Int32)) (H : Heap) (locs : List Loc) (ls : Array Slot), B2 y2_2 z2_v_sure → va_P (dC, dI) vwCl (cX4 cy a (X4_hollow v) (X4_crossings v) z2_v_sure (X4_seenBy v) ++ wX0 cy d b w) H → va_D A (cX4 cy a (X4_hollow v) (X4_crossings v) z2_v_sure (X4_seenBy v) ++ wX0 cy d b w) → va_S A s.heap H locs → lv_has ls 5 [(0, .ref (a 0)), (1, .ref (d 0)), (2, .int y2_2)] → W p l e (headSpec wsX4_findSure ({ frames := 4, cells := 0, slots := 0, locals := 92 } : Room)).room s m ([.ref (a 0), .ref (d 0)] : List Value).toArray below meth c H locs 0 0 (MQ below (q_X4_findSure dC dI cy a d b v w Q A) ([.ref (a 0), .ref (d 0)] : List Value).toArray s 0 0 A) (F0 m 2 ls []) := by
          intro y2_2 z2_v_sure H locs ls h
          rw [← hB2] at h
          exact ih y2_2 z2_v_sure H locs ls h.1 (Nat.lt_of_lt_of_le h.2 (Nat.le_of_lt_succ hm))
        unfold wb_X4_findSure_2 at hq
        refine lv_iload_n hx hb dX4_findSure_2 rfl (lv_at hl 2 rfl) ?_
        refine lv_bipush (v := 64) hx hb dX4_findSure_3 (by decide) ?_
        obtain ⟨hqA, hqB⟩ := hq
        refine lv_icmp_ge (tgt := 39) hx hb dX4_findSure_5 (by decide) (fun c9 => ?_) (fun c9 => ?_)
        · have hq := hqA c9
          refine lv_iconst (v := 1) hx hb dX4_findSure_39 (by decide) ?_
          refine lv_istore_n (lv' := [(2, .int 1), (0, .ref (a 0)), (1, .ref (d 0))]) hx hb dX4_findSure_40 rfl hl (by decide) rfl (fun ls hl => ?_)
          refine lv_iconst (v := 0) hx hb dX4_findSure_41 (by decide) ?_
          refine lv_istore_n (lv' := [(3, .int 0), (2, .int 1), (0, .ref (a 0)), (1, .ref (d 0))]) hx hb dX4_findSure_42 rfl hl (by decide) rfl (fun ls hl => ?_)
          exact J43  1 0 z2_v_sure _ _ _ hq hP hD hS (lv_sub hl [2, 3, 1, 0] rfl)
        · have hq := hqB c9
          refine lv_aload_n hx hb dX4_findSure_8 rfl (lv_at hl 0 rfl) ?_
          refine va_get (D := (dC, dI)) (ci := 4) (v := .ref (a 3)) (C := RX4) (T := TX4) (N := 4) hx hb hts iK4 hown hK hP 0 rfl rfl 2 (by decide) lk1 (fun _ h9 => h9) rfl dX4_findSure_9 ?_
          refine lv_iload_n hx hb dX4_findSure_12 rfl (lv_at hl 2 rfl) ?_
          refine lv_aload_n hx hb dX4_findSure_13 rfl (lv_at hl 1 rfl) ?_
          refine va_get (D := (dC, dI)) (ci := 0) (v := .ref (d 2)) (C := RX0) (T := TX0) (N := 14) hx hb hts iK0 hown hK hP 5 rfl rfl 1 (by decide) lk0 (fun _ h9 => h9) rfl dX4_findSure_14 ?_
          refine lv_iload_n hx hb dX4_findSure_17 rfl (lv_at hl 2 rfl) ?_
          obtain ⟨g7, hq⟩ := hq
          refine va_zald hx hb hK hP 7 1 rfl rfl g7 dX4_findSure_18 ?_
          obtain ⟨hqA, hqB⟩ := hq
          refine lv_if_eq (tgt := 31) hx hb dX4_findSure_19 (by decide) (fun c8 => ?_) (fun c8 => ?_)
          · have hq := hqA c8
            refine lv_iconst (v := (-1)) hx hb dX4_findSure_31 (by decide) ?_
            refine va_iast hx hb hK hP hD hS 3 0 rfl rfl g7 dX4_findSure_32 (fun H locs hP hD hS => ?_)
            have hP : va_P (dC, dI) vwCl (cX4 cy a (X4_hollow v) (X4_crossings v) (upd z2_v_sure y2_2.toNatClampNeg (-1)) (X4_seenBy v) ++ wX0 cy d b w) H := hP
            have hD : va_D A (cX4 cy a (X4_hollow v) (X4_crossings v) (upd z2_v_sure y2_2.toNatClampNeg (-1)) (X4_seenBy v) ++ wX0 cy d b w) := hD
            refine lv_iinc (v := (y2_2 + 1)) (lv' := [(2, .int (y2_2 + 1)), (0, .ref (a 0)), (1, .ref (d 0))]) hx hb dX4_findSure_33 hl (k := 2) rfl rfl (by decide) rfl (fun ls hl => ?_)
            refine lv_goto (tgt := 2) hx hb dX4_findSure_36 (by decide) ?_
            exact bk2 (y2_2 + 1) (upd z2_v_sure y2_2.toNatClampNeg (-1)) _ _ _ hq hP hD hS (lv_sub hl [1, 2, 0] rfl)
          · have hq := hqB c8
            refine lv_aload_n hx hb dX4_findSure_22 rfl (lv_at hl 0 rfl) ?_
            refine va_get (D := (dC, dI)) (ci := 4) (v := .ref (a 1)) (C := RX4) (T := TX4) (N := 4) hx hb hts iK4 hown hK hP 0 rfl rfl 0 (by decide) lk2 (fun _ h9 => h9) rfl dX4_findSure_23 ?_
            refine lv_iload_n hx hb dX4_findSure_26 rfl (lv_at hl 2 rfl) ?_
            refine va_iald hx hb hK hP 1 0 rfl rfl g7 dX4_findSure_27 ?_
            refine lv_goto (tgt := 32) hx hb dX4_findSure_28 (by decide) ?_
            refine va_iast hx hb hK hP hD hS 3 0 rfl rfl g7 dX4_findSure_32 (fun H locs hP hD hS => ?_)
            have hP : va_P (dC, dI) vwCl (cX4 cy a (X4_hollow v) (X4_crossings v) (upd z2_v_sure y2_2.toNatClampNeg ((X4_hollow v) y2_2.toNatClampNeg)) (X4_seenBy v) ++ wX0 cy d b w) H := hP
            have hD : va_D A (cX4 cy a (X4_hollow v) (X4_crossings v) (upd z2_v_sure y2_2.toNatClampNeg ((X4_hollow v) y2_2.toNatClampNeg)) (X4_seenBy v) ++ wX0 cy d b w) := hD
            refine lv_iinc (v := (y2_2 + 1)) (lv' := [(2, .int (y2_2 + 1)), (0, .ref (a 0)), (1, .ref (d 0))]) hx hb dX4_findSure_33 hl (k := 2) rfl rfl (by decide) rfl (fun ls hl => ?_)
            refine lv_goto (tgt := 2) hx hb dX4_findSure_36 (by decide) ?_
            exact bk2 (y2_2 + 1) (upd z2_v_sure y2_2.toNatClampNeg ((X4_hollow v) y2_2.toNatClampNeg)) _ _ _ hq hP hD hS (lv_sub hl [1, 2, 0] rfl)
    exact key _ y2_2 z2_v_sure H locs ls h0 (Nat.lt_succ_self _) hP hD hS hl
  refine lv_iconst (v := 0) hx hb dX4_findSure_0 (by decide) ?_
  refine lv_istore_n (lv' := [(2, .int 0), (0, .ref (a 0)), (1, .ref (d 0))]) hx hb dX4_findSure_1 rfl hl (by decide) rfl (fun ls hl => ?_)
  exact J2  0 (X4_sure v) _ _ _ hq hP hD hS (lv_sub hl [1, 2, 0] rfl)
def wb_X4_read_65 (v : V_X4) (w : V_X0) (z65_v_crossings : (Nat → Int32)) (z65_v_seenBy : (Nat → Int32)) (y65_2 : Int32) (z65_v_hollow : (Nat → Int32)) (B65 : Int32 → (Nat → Int32) → Prop) (Q : (Nat → Int32) → (Nat → Int32) → (Nat → Int32) → (Nat → Int32) → Prop) : Prop :=
  (((X0_moleCount w) ≤ y65_2 → wp_X4_findSure (X4_s3 (X4_s1 (X4_s0 v z65_v_hollow) z65_v_crossings) z65_v_seenBy) w (fun z91_v_sure =>
  Q z65_v_crossings z65_v_hollow z65_v_seenBy z91_v_sure)) ∧
  (¬ (X0_moleCount w) ≤ y65_2 → vp_in y65_2 4 ∧ ((X0_molesR w) y65_2.toNatClampNeg) < 4 ∧ wp_X4_readTrail (X4_s3 (X4_s1 (X4_s0 v z65_v_hollow) z65_v_crossings) z65_v_seenBy) ((X0_moles w) ((X0_molesR w) y65_2.toNatClampNeg)) (fun z80_v_hollow =>
  B65 (y65_2 + 1) z80_v_hollow)))
def wp_X4_read_65 (v : V_X4) (w : V_X0) (z65_v_crossings : (Nat → Int32)) (z65_v_seenBy : (Nat → Int32)) (y65_2 : Int32) (z65_v_hollow : (Nat → Int32)) (Q : (Nat → Int32) → (Nat → Int32) → (Nat → Int32) → (Nat → Int32) → Prop) : Prop :=
  ∃ (I : Int32 → (Nat → Int32) → Prop) (μ : Int32 → (Nat → Int32) → Nat), I y65_2 z65_v_hollow ∧ ∀ (s0 : Int32) (s1 : (Nat → Int32)), I s0 s1 → wb_X4_read_65 v w z65_v_crossings z65_v_seenBy s0 s1 (fun t0 t1 => I t0 t1 ∧ μ t0 t1 < μ s0 s1) Q
def wb_X4_read_37 (v : V_X4) (w : V_X0)  (y37_2 : Int32) (z37_v_crossings : (Nat → Int32)) (z37_v_hollow : (Nat → Int32)) (z37_v_seenBy : (Nat → Int32)) (B37 : Int32 → (Nat → Int32) → (Nat → Int32) → (Nat → Int32) → Prop) (Q : (Nat → Int32) → (Nat → Int32) → (Nat → Int32) → (Nat → Int32) → Prop) : Prop :=
  (((X3_size (X0_tunnels w)) ≤ y37_2 → wp_X4_read_65 v w z37_v_crossings z37_v_seenBy 0 z37_v_hollow Q) ∧
  (¬ (X3_size (X0_tunnels w)) ≤ y37_2 → wp_X4_readTunnel (X4_s3 (X4_s1 (X4_s0 v z37_v_hollow) z37_v_crossings) z37_v_seenBy) (X0_tunnels w) y37_2 (fun z54_v_crossings z54_v_hollow z54_v_seenBy =>
  B37 (y37_2 + 1) z54_v_crossings z54_v_hollow z54_v_seenBy)))
def wp_X4_read_37 (v : V_X4) (w : V_X0)  (y37_2 : Int32) (z37_v_crossings : (Nat → Int32)) (z37_v_hollow : (Nat → Int32)) (z37_v_seenBy : (Nat → Int32)) (Q : (Nat → Int32) → (Nat → Int32) → (Nat → Int32) → (Nat → Int32) → Prop) : Prop :=
  ∃ (I : Int32 → (Nat → Int32) → (Nat → Int32) → (Nat → Int32) → Prop) (μ : Int32 → (Nat → Int32) → (Nat → Int32) → (Nat → Int32) → Nat), I y37_2 z37_v_crossings z37_v_hollow z37_v_seenBy ∧ ∀ (s0 : Int32) (s1 : (Nat → Int32)) (s2 : (Nat → Int32)) (s3 : (Nat → Int32)), I s0 s1 s2 s3 → wb_X4_read_37 v w  s0 s1 s2 s3 (fun t0 t1 t2 t3 => I t0 t1 t2 t3 ∧ μ t0 t1 t2 t3 < μ s0 s1 s2 s3) Q
def wb_X4_read_2 (v : V_X4) (w : V_X0)  (y2_2 : Int32) (z2_v_crossings : (Nat → Int32)) (z2_v_hollow : (Nat → Int32)) (z2_v_seenBy : (Nat → Int32)) (B2 : Int32 → (Nat → Int32) → (Nat → Int32) → (Nat → Int32) → Prop) (Q : (Nat → Int32) → (Nat → Int32) → (Nat → Int32) → (Nat → Int32) → Prop) : Prop :=
  ((64 ≤ y2_2 → wp_X4_read_37 v w  0 z2_v_crossings z2_v_hollow z2_v_seenBy Q) ∧
  (¬ 64 ≤ y2_2 → vp_in y2_2 64 ∧ B2 (y2_2 + 1) (upd z2_v_crossings y2_2.toNatClampNeg 0) (upd z2_v_hollow y2_2.toNatClampNeg 0) (upd z2_v_seenBy y2_2.toNatClampNeg (-1))))
def wp_X4_read_2 (v : V_X4) (w : V_X0)  (y2_2 : Int32) (z2_v_crossings : (Nat → Int32)) (z2_v_hollow : (Nat → Int32)) (z2_v_seenBy : (Nat → Int32)) (Q : (Nat → Int32) → (Nat → Int32) → (Nat → Int32) → (Nat → Int32) → Prop) : Prop :=
  ∃ (I : Int32 → (Nat → Int32) → (Nat → Int32) → (Nat → Int32) → Prop) (μ : Int32 → (Nat → Int32) → (Nat → Int32) → (Nat → Int32) → Nat), I y2_2 z2_v_crossings z2_v_hollow z2_v_seenBy ∧ ∀ (s0 : Int32) (s1 : (Nat → Int32)) (s2 : (Nat → Int32)) (s3 : (Nat → Int32)), I s0 s1 s2 s3 → wb_X4_read_2 v w  s0 s1 s2 s3 (fun t0 t1 t2 t3 => I t0 t1 t2 t3 ∧ μ t0 t1 t2 t3 < μ s0 s1 s2 s3) Q
def wp_X4_read (v : V_X4) (w : V_X0) (Q : (Nat → Int32) → (Nat → Int32) → (Nat → Int32) → (Nat → Int32) → Prop) : Prop :=
  wp_X4_read_2 v w  0 (X4_crossings v) (X4_hollow v) (X4_seenBy v) Q
def q_X4_read (dC : Nat → ClassId) (dI : Nat → Nat → Nat) (cy : Nat → ClassId) (a d b : Nat → Nat) (v : V_X4) (w : V_X0) (Q : (Nat → Int32) → (Nat → Int32) → (Nat → Int32) → (Nat → Int32) → Prop) (A : Nat → Prop) : Array Value → State → Outcome → State → Prop := va_Qv (fun (u : (Nat → Int32) × (Nat → Int32) × (Nat → Int32) × (Nat → Int32)) => Q u.1 u.2.1 u.2.2.1 u.2.2.2) (fun (u : (Nat → Int32) × (Nat → Int32) × (Nat → Int32) × (Nat → Int32)) t => xAt dC dI cy A (cX4 cy a u.2.1 u.1 u.2.2.2 u.2.2.1 ++ wX0 cy d b w) t) A
set_option maxHeartbeats 4000000 in
set_option maxRecDepth 100000 in
theorem c_X4_read (l : Launch) (dC : Nat → ClassId) (dI : Nat → Nat → Nat) (cy : Nat → ClassId) (a d b : Nat → Nat) (sz : Nat) (v : V_X4) (w : V_X0) (Q : (Nat → Int32) → (Nat → Int32) → (Nat → Int32) → (Nat → Int32) → Prop) (hq : wp_X4_read v w Q) : Met l yX4_read wsX4_read ({ frames := 5, cells := 0, slots := 0, locals := 116 } : Room) (va_Pc [.ref (a 0), .ref (d 0)] (xPreE dC dI cy (wX4 cy a v ++ wX0 cy d b w) sz)) (q_X4_read dC dI cy a d b v w Q (va_A (wX4 cy a v ++ wX0 cy d b w) sz)) 0 0 (va_A (wX4 cy a v ++ wX0 cy d b w) sz) := by
  refine Met.ofW (cc := cX4_read) (maxL := 3) (ret := none) (by decide) rfl ?_
  intro p e s m args below meth c s₁ B hml hv
  obtain ⟨rfl, hsz, hP, hK, hD0, hE⟩ := hv
  have hx := B.exec
  have hb := B.bytes
  have hr := B.returns
  have hts := atoms_spec (ws := wsX4_read) B.pre
  have hown : s.vm.findClass RX4 = some m.cls := findClass_of_methodNamed B.named
  have hlocks := B.notSynchronized
  subst hsz
  have hD := hD0.self (sz := s.heap.size)
  generalize hAe : va_A (wX4 cy a v ++ wX0 cy d b w) s.heap.size = A at hD hE ⊢
  have hAe0 : ∀ q : Nat, s.heap.size ≤ q → A q := fun q h => by rw [← hAe]; exact Or.inr h
  have hS : va_S A s.heap s.heap [] := va_S.rf
  have hl := lv_entry ([.ref (a 0), .ref (d 0)]) (n := 3) (Nat.le_of_ble_eq_true rfl)
  rw [lg_entry_eq]
  generalize (lg_sl ([.ref (a 0), .ref (d 0)]) ++ List.replicate (3 - (lg_sl ([.ref (a 0), .ref (d 0)])).length) Slot.unset).toArray = ls at hl ⊢
  have hl : lv_has ls 3 [(0, .ref (a 0)), (1, .ref (d 0))] := hl
  have lk0 := hts (Cond.fieldLink RX4 40 "MolesLawn$Lawn" "moleCount" "I") (List.mem_cons_of_mem _ (List.mem_append_left _ (List.mem_append_left _ (List.mem_append_left _ (List.mem_append_left _ (List.mem_append_left _ (List.mem_of_getElem? (i := 5) rfl)))))))
  have lk1 := hts (Cond.fieldLink RX4 43 "MolesLawn$Lawn" "moles" "[LMolesLawn$Mole;") (List.mem_cons_of_mem _ (List.mem_append_left _ (List.mem_append_left _ (List.mem_append_left _ (List.mem_append_left _ (List.mem_append_left _ (List.mem_of_getElem? (i := 6) rfl)))))))
  have lk2 := hts (Cond.fieldLink RX4 24 "MolesLawn$Lawn" "tunnels" "LMolesLawn$Rows;") (List.mem_cons_of_mem _ (List.mem_append_left _ (List.mem_append_left _ (List.mem_append_left _ (List.mem_append_left _ (List.mem_append_left _ (List.mem_of_getElem? (i := 3) rfl)))))))
  have lk3 := hts (Cond.fieldLink RX4 30 "MolesLawn$Rows" "size" "I") (List.mem_cons_of_mem _ (List.mem_append_left _ (List.mem_append_left _ (List.mem_append_left _ (List.mem_append_left _ (List.mem_append_left _ (List.mem_of_getElem? (i := 4) rfl)))))))
  have lk4 := hts (Cond.fieldLink RX4 9 "MolesLawn$Survey" "hollow" "[I") (List.mem_cons_of_mem _ (List.mem_append_left _ (List.mem_append_left _ (List.mem_append_left _ (List.mem_append_left _ (List.mem_append_left _ (List.mem_of_getElem? (i := 0) rfl)))))))
  have lk5 := hts (Cond.fieldLink RX4 15 "MolesLawn$Survey" "crossings" "[I") (List.mem_cons_of_mem _ (List.mem_append_left _ (List.mem_append_left _ (List.mem_append_left _ (List.mem_append_left _ (List.mem_append_left _ (List.mem_of_getElem? (i := 1) rfl)))))))
  have lk6 := hts (Cond.fieldLink RX4 21 "MolesLawn$Survey" "seenBy" "[I") (List.mem_cons_of_mem _ (List.mem_append_left _ (List.mem_append_left _ (List.mem_append_left _ (List.mem_append_left _ (List.mem_append_left _ (List.mem_of_getElem? (i := 2) rfl)))))))
  have iK0 : ∀ w ∈ wsX00, w ∈ wsX4_read := fun _ h => (List.mem_cons_of_mem _ (List.mem_append_left _ (List.mem_append_left _ (List.mem_append_right _ h))))
  have iK3 : ∀ w ∈ wsX30, w ∈ wsX4_read := fun _ h => (List.mem_cons_of_mem _ (List.mem_append_left _ (List.mem_append_right _ h)))
  have iK4 : ∀ w ∈ wsX40, w ∈ wsX4_read := fun _ h => (List.mem_cons_of_mem _ (List.mem_append_left _ (List.mem_append_left _ (List.mem_append_left _ (List.mem_append_right _ h)))))
  unfold wp_X4_read at hq
  have J65 : ∀ (z65_v_crossings : (Nat → Int32)) (z65_v_seenBy : (Nat → Int32)) (y65_2 : Int32) (z65_v_hollow : (Nat → Int32)) (H : Heap) (locs : List Loc) (ls : Array Slot), wp_X4_read_65 v w z65_v_crossings z65_v_seenBy y65_2 z65_v_hollow Q → va_P (dC, dI) vwCl (cX4 cy a z65_v_hollow z65_v_crossings (X4_sure v) z65_v_seenBy ++ wX0 cy d b w) H → va_D A (cX4 cy a z65_v_hollow z65_v_crossings (X4_sure v) z65_v_seenBy ++ wX0 cy d b w) → va_S A s.heap H locs → lv_has ls 3 [(0, .ref (a 0)), (1, .ref (d 0)), (2, .int y65_2)] → W p l e (headSpec wsX4_read ({ frames := 5, cells := 0, slots := 0, locals := 116 } : Room)).room s m ([.ref (a 0), .ref (d 0)] : List Value).toArray below meth c H locs 0 0 (MQ below (q_X4_read dC dI cy a d b v w Q A) ([.ref (a 0), .ref (d 0)] : List Value).toArray s 0 0 A) (F0 m 65 ls []) := by
    intro z65_v_crossings z65_v_seenBy y65_2 z65_v_hollow H locs ls hq hP hD hS hl
    obtain ⟨I65, μ65, h0, hs65⟩ := hq
    have key : ∀ (n : Nat) (y65_2 : Int32) (z65_v_hollow : (Nat → Int32)) (H : Heap) (locs : List Loc) (ls : Array Slot), I65 y65_2 z65_v_hollow → μ65 y65_2 z65_v_hollow < n → va_P (dC, dI) vwCl (cX4 cy a z65_v_hollow z65_v_crossings (X4_sure v) z65_v_seenBy ++ wX0 cy d b w) H → va_D A (cX4 cy a z65_v_hollow z65_v_crossings (X4_sure v) z65_v_seenBy ++ wX0 cy d b w) → va_S A s.heap H locs → lv_has ls 3 [(0, .ref (a 0)), (1, .ref (d 0)), (2, .int y65_2)] → W p l e (headSpec wsX4_read ({ frames := 5, cells := 0, slots := 0, locals := 116 } : Room)).room s m ([.ref (a 0), .ref (d 0)] : List Value).toArray below meth c H locs 0 0 (MQ below (q_X4_read dC dI cy a d b v w Q A) ([.ref (a 0), .ref (d 0)] : List Value).toArray s 0 0 A) (F0 m 65 ls []) := by
      intro n
      induction n with
      | zero => intro y65_2 z65_v_hollow H locs ls _ hm; exact absurd hm (Nat.not_lt_zero _)
      | succ n ih =>
        intro y65_2 z65_v_hollow H locs ls hI hm hP hD hS hl
        have hq := hs65 y65_2 z65_v_hollow hI
        generalize hB65 : (fun (t0 : Int32) (t1 : (Nat → Int32)) => I65 t0 t1 ∧ μ65 t0 t1 < μ65 y65_2 z65_v_hollow) = B65 at hq
        have bk65 : ∀ (y65_2 : Int32) (z65_v_hollow : (Nat → Int32)) (H : Heap) (locs : List Loc) (ls : Array Slot), B65 y65_2 z65_v_hollow → va_P (dC, dI) vwCl (cX4 cy a z65_v_hollow z65_v_crossings (X4_sure v) z65_v_seenBy ++ wX0 cy d b w) H → va_D A (cX4 cy a z65_v_hollow z65_v_crossings (X4_sure v) z65_v_seenBy ++ wX0 cy d b w) → va_S A s.heap H locs → lv_has ls 3 [(0, .ref (a 0)), (1, .ref (d 0)), (2, .int y65_2)] → W p l e (headSpec wsX4_read ({ frames := 5, cells := 0, slots := 0, locals := 116 } : Room)).room s m ([.ref (a 0), .ref (d 0)] : List Value).toArray below meth c H locs 0 0 (MQ below (q_X4_read dC dI cy a d b v w Q A) ([.ref (a 0), .ref (d 0)] : List Value).toArray s 0 0 A) (F0 m 65 ls []) := by
          intro y65_2 z65_v_hollow H locs ls h
          rw [← hB65] at h
          exact ih y65_2 z65_v_hollow H locs ls h.1 (Nat.lt_of_lt_of_le h.2 (Nat.le_of_lt_succ hm))
        unfold wb_X4_read_65 at hq
        refine lv_iload_n hx hb dX4_read_65 rfl (lv_at hl 2 rfl) ?_
        refine lv_aload_n hx hb dX4_read_66 rfl (lv_at hl 1 rfl) ?_
        refine va_get (D := (dC, dI)) (ci := 0) (v := .int (X0_moleCount w)) (C := RX0) (T := TX0) (N := 14) hx hb hts iK0 hown hK hP 5 rfl rfl 7 (by decide) lk0 (fun _ h9 => h9) rfl dX4_read_67 ?_
        obtain ⟨hqA, hqB⟩ := hq
        refine lv_icmp_ge (tgt := 89) hx hb dX4_read_70 (by decide) (fun c3 => ?_) (fun c3 => ?_)
        · have hq := hqA c3
          refine lv_aload_n hx hb dX4_read_89 rfl (lv_at hl 0 rfl) ?_
          refine lv_aload_n hx hb dX4_read_90 rfl (lv_at hl 1 rfl) ?_
          have hFc := xfree_same hS hAe0 (ws := (cX4 cy a z65_v_hollow z65_v_crossings (X4_sure v) z65_v_seenBy ++ wX0 cy d b w)) hD
          refine va_callv (va_runV (As := [.ref (d 0)]) (rest := []) ⟨hx, hb, hml, hown, hts⟩ (c_X4_findSure l dC dI cy a d b _ (X4_s3 (X4_s1 (X4_s0 v z65_v_hollow) z65_v_crossings) z65_v_seenBy) w _ hq) (cwV 1 hts gX4_read_X4_findSure rfl rfl rfl (by decide +kernel) ⟨Nat.le_of_ble_eq_true rfl, Nat.le_of_ble_eq_true rfl⟩) ⟨xPre_blindE, va_recv hK hP (ci := 4) (q0 := 0) rfl rfl, xPre_ofE hP hK hD hE hS hFc⟩ rfl rfl hl.1 rfl (lv_room (Nat.le_of_ble_eq_true rfl)) dX4_read_91 ⟨Nat.le_of_ble_eq_true rfl, Nat.le_of_ble_eq_true rfl⟩) hS (fun q _ h => hFc q h) hFc (fun z91_v_sure t H locs ht hvm hq hB hz1 hk1 hS => ?_)
          obtain ⟨hP1, -, hD1⟩ := hB
          rw [ht] at hP1
          have hP : va_P (dC, dI) vwCl (cX4 cy a z65_v_hollow z65_v_crossings z91_v_sure z65_v_seenBy ++ wX0 cy d b w) H := hP1
          have hD : va_D A (cX4 cy a z65_v_hollow z65_v_crossings z91_v_sure z65_v_seenBy ++ wX0 cy d b w) := hD1.weaken (fun _ q _ h => hFc q.1 h)
          exact W.vret hx hb hr (fun t ht hW => ⟨⟨(z65_v_crossings, z65_v_hollow, z65_v_seenBy, z91_v_sure), rfl, hq, (xAt_of hP hK hD ht hW)⟩, hS.F ht⟩) hS.2.2 dX4_read_94
        · have hq := hqB c3
          refine lv_aload_n hx hb dX4_read_73 rfl (lv_at hl 0 rfl) ?_
          refine lv_aload_n hx hb dX4_read_74 rfl (lv_at hl 1 rfl) ?_
          refine va_get (D := (dC, dI)) (ci := 0) (v := .ref (d 8)) (C := RX0) (T := TX0) (N := 14) hx hb hts iK0 hown hK hP 5 rfl rfl 6 (by decide) lk1 (fun _ h9 => h9) rfl dX4_read_75 ?_
          refine lv_iload_n hx hb dX4_read_78 rfl (lv_at hl 2 rfl) ?_
          obtain ⟨g1, hq⟩ := hq
          obtain ⟨g2, hq⟩ := hq
          refine va_aldq hx hb hK hP 13 2 rfl rfl g1 dX4_read_79 ?_
          have hC : (([0, 1, 2, 3, 4, (14 + 3 * ((X0_molesR w) y65_2.toNatClampNeg)), (15 + 3 * ((X0_molesR w) y65_2.toNatClampNeg)), (16 + 3 * ((X0_molesR w) y65_2.toNatClampNeg))] : List Nat).map (fun i => (cX4 cy a z65_v_hollow z65_v_crossings (X4_sure v) z65_v_seenBy ++ wX0 cy d b w)[i]?)) = (cX4 cy a z65_v_hollow z65_v_crossings (X4_sure v) z65_v_seenBy ++ wX1 cy (sh d (9 + 3 * ((X0_molesR w) y65_2.toNatClampNeg))) ((X0_moles w) ((X0_molesR w) y65_2.toNatClampNeg))).map some := (co_4 (P := fun i19 => (([0, 1, 2, 3, 4, (14 + 3 * i19), (15 + 3 * i19), (16 + 3 * i19)] : List Nat).map (fun i => (cX4 cy a z65_v_hollow z65_v_crossings (X4_sure v) z65_v_seenBy ++ wX0 cy d b w)[i]?)) = (cX4 cy a z65_v_hollow z65_v_crossings (X4_sure v) z65_v_seenBy ++ wX1 cy (sh d (9 + 3 * i19)) ((X0_moles w) i19)).map some) rfl rfl rfl rfl g2)
          have hN : va_nd [0, 1, 2, 3, 4, (14 + 3 * ((X0_molesR w) y65_2.toNatClampNeg)), (15 + 3 * ((X0_molesR w) y65_2.toNatClampNeg)), (16 + 3 * ((X0_molesR w) y65_2.toNatClampNeg))] = true := (co_4 (P := fun i19 => va_nd [0, 1, 2, 3, 4, (14 + 3 * i19), (15 + 3 * i19), (16 + 3 * i19)] = true) rfl rfl rfl rfl g2)
          have hPc := xsubP hP hC
          have hDc := xsubD hD hN hC
          have hFc := va_free (wc := (cX4 cy a z65_v_hollow z65_v_crossings (X4_sure v) z65_v_seenBy ++ wX1 cy (sh d (9 + 3 * ((X0_molesR w) y65_2.toNatClampNeg))) ((X0_moles w) ((X0_molesR w) y65_2.toNatClampNeg)))) hD hS hAe0 [0, 1, 2, 3, 4, (14 + 3 * ((X0_molesR w) y65_2.toNatClampNeg)), (15 + 3 * ((X0_molesR w) y65_2.toNatClampNeg)), (16 + 3 * ((X0_molesR w) y65_2.toNatClampNeg))] hC
          refine va_callv (va_runV (As := [.ref (d (9 + 3 * ((X0_molesR w) y65_2.toNatClampNeg)))]) (rest := []) ⟨hx, hb, hml, hown, hts⟩ (c_X4_readTrail l dC dI cy a (sh d (9 + 3 * ((X0_molesR w) y65_2.toNatClampNeg))) _ (X4_s3 (X4_s1 (X4_s0 v z65_v_hollow) z65_v_crossings) z65_v_seenBy) ((X0_moles w) ((X0_molesR w) y65_2.toNatClampNeg)) _ hq) (cwV 1 hts gX4_read_X4_readTrail rfl rfl rfl (by decide +kernel) ⟨Nat.le_of_ble_eq_true rfl, Nat.le_of_ble_eq_true rfl⟩) ⟨xPre_blind, va_recv hK hP (ci := 4) (q0 := 0) rfl rfl, xPre_of hPc hK hDc⟩ rfl rfl hl.1 rfl (lv_room (Nat.le_of_ble_eq_true rfl)) dX4_read_80 ⟨Nat.le_of_ble_eq_true rfl, Nat.le_of_ble_eq_true rfl⟩) hS (fun q _ h => hFc q h) hFc (fun z80_v_hollow t H locs ht hvm hq hB hz1 hk1 hS => ?_)
          obtain ⟨hP1, -, hD1⟩ := hB
          rw [ht] at hP1
          obtain ⟨hP, hD⟩ := xj hP hD [0, 1, 2, 3, 4, (14 + 3 * ((X0_molesR w) y65_2.toNatClampNeg)), (15 + 3 * ((X0_molesR w) y65_2.toNatClampNeg)), (16 + 3 * ((X0_molesR w) y65_2.toNatClampNeg))] (cX4 cy a z80_v_hollow z65_v_crossings (X4_sure v) z65_v_seenBy ++ wX1 cy (sh d (9 + 3 * ((X0_molesR w) y65_2.toNatClampNeg))) ((X0_moles w) ((X0_molesR w) y65_2.toNatClampNeg))) (ws' := (cX4 cy a z80_v_hollow z65_v_crossings (X4_sure v) z65_v_seenBy ++ wX0 cy d b w)) hC rfl (co_4 (P := fun i19 => xput (cX4 cy a z65_v_hollow z65_v_crossings (X4_sure v) z65_v_seenBy ++ wX0 cy d b w) [0, 1, 2, 3, 4, (14 + 3 * i19), (15 + 3 * i19), (16 + 3 * i19)] (cX4 cy a z80_v_hollow z65_v_crossings (X4_sure v) z65_v_seenBy ++ wX1 cy (sh d (9 + 3 * i19)) ((X0_moles w) i19)) = (cX4 cy a z80_v_hollow z65_v_crossings (X4_sure v) z65_v_seenBy ++ wX0 cy d b w)) rfl rfl rfl rfl g2) hk1 hFc hP1
          refine lv_iinc (v := (y65_2 + 1)) (lv' := [(2, .int (y65_2 + 1)), (0, .ref (a 0)), (1, .ref (d 0))]) hx hb dX4_read_83 hl (k := 2) rfl rfl (by decide) rfl (fun ls hl => ?_)
          refine lv_goto (tgt := 65) hx hb dX4_read_86 (by decide) ?_
          exact bk65 (y65_2 + 1) z80_v_hollow _ _ _ hq hP hD hS (lv_sub hl [1, 2, 0] rfl)
    exact key _ y65_2 z65_v_hollow H locs ls h0 (Nat.lt_succ_self _) hP hD hS hl
  have J37 : ∀  (y37_2 : Int32) (z37_v_crossings : (Nat → Int32)) (z37_v_hollow : (Nat → Int32)) (z37_v_seenBy : (Nat → Int32)) (H : Heap) (locs : List Loc) (ls : Array Slot), wp_X4_read_37 v w  y37_2 z37_v_crossings z37_v_hollow z37_v_seenBy Q → va_P (dC, dI) vwCl (cX4 cy a z37_v_hollow z37_v_crossings (X4_sure v) z37_v_seenBy ++ wX0 cy d b w) H → va_D A (cX4 cy a z37_v_hollow z37_v_crossings (X4_sure v) z37_v_seenBy ++ wX0 cy d b w) → va_S A s.heap H locs → lv_has ls 3 [(0, .ref (a 0)), (1, .ref (d 0)), (2, .int y37_2)] → W p l e (headSpec wsX4_read ({ frames := 5, cells := 0, slots := 0, locals := 116 } : Room)).room s m ([.ref (a 0), .ref (d 0)] : List Value).toArray below meth c H locs 0 0 (MQ below (q_X4_read dC dI cy a d b v w Q A) ([.ref (a 0), .ref (d 0)] : List Value).toArray s 0 0 A) (F0 m 37 ls []) := by
    intro  y37_2 z37_v_crossings z37_v_hollow z37_v_seenBy H locs ls hq hP hD hS hl
    obtain ⟨I37, μ37, h0, hs37⟩ := hq
    have key : ∀ (n : Nat) (y37_2 : Int32) (z37_v_crossings : (Nat → Int32)) (z37_v_hollow : (Nat → Int32)) (z37_v_seenBy : (Nat → Int32)) (H : Heap) (locs : List Loc) (ls : Array Slot), I37 y37_2 z37_v_crossings z37_v_hollow z37_v_seenBy → μ37 y37_2 z37_v_crossings z37_v_hollow z37_v_seenBy < n → va_P (dC, dI) vwCl (cX4 cy a z37_v_hollow z37_v_crossings (X4_sure v) z37_v_seenBy ++ wX0 cy d b w) H → va_D A (cX4 cy a z37_v_hollow z37_v_crossings (X4_sure v) z37_v_seenBy ++ wX0 cy d b w) → va_S A s.heap H locs → lv_has ls 3 [(0, .ref (a 0)), (1, .ref (d 0)), (2, .int y37_2)] → W p l e (headSpec wsX4_read ({ frames := 5, cells := 0, slots := 0, locals := 116 } : Room)).room s m ([.ref (a 0), .ref (d 0)] : List Value).toArray below meth c H locs 0 0 (MQ below (q_X4_read dC dI cy a d b v w Q A) ([.ref (a 0), .ref (d 0)] : List Value).toArray s 0 0 A) (F0 m 37 ls []) := by
      intro n
      induction n with
      | zero => intro y37_2 z37_v_crossings z37_v_hollow z37_v_seenBy H locs ls _ hm; exact absurd hm (Nat.not_lt_zero _)
      | succ n ih =>
        intro y37_2 z37_v_crossings z37_v_hollow z37_v_seenBy H locs ls hI hm hP hD hS hl
        have hq := hs37 y37_2 z37_v_crossings z37_v_hollow z37_v_seenBy hI
        generalize hB37 : (fun (t0 : Int32) (t1 : (Nat → Int32)) (t2 : (Nat → Int32)) (t3 : (Nat → Int32)) => I37 t0 t1 t2 t3 ∧ μ37 t0 t1 t2 t3 < μ37 y37_2 z37_v_crossings z37_v_hollow z37_v_seenBy) = B37 at hq
        have bk37 : ∀ (y37_2 : Int32) (z37_v_crossings : (Nat → Int32)) (z37_v_hollow : (Nat → Int32)) (z37_v_seenBy : (Nat → Int32)) (H : Heap) (locs : List Loc) (ls : Array Slot), B37 y37_2 z37_v_crossings z37_v_hollow z37_v_seenBy → va_P (dC, dI) vwCl (cX4 cy a z37_v_hollow z37_v_crossings (X4_sure v) z37_v_seenBy ++ wX0 cy d b w) H → va_D A (cX4 cy a z37_v_hollow z37_v_crossings (X4_sure v) z37_v_seenBy ++ wX0 cy d b w) → va_S A s.heap H locs → lv_has ls 3 [(0, .ref (a 0)), (1, .ref (d 0)), (2, .int y37_2)] → W p l e (headSpec wsX4_read ({ frames := 5, cells := 0, slots := 0, locals := 116 } : Room)).room s m ([.ref (a 0), .ref (d 0)] : List Value).toArray below meth c H locs 0 0 (MQ below (q_X4_read dC dI cy a d b v w Q A) ([.ref (a 0), .ref (d 0)] : List Value).toArray s 0 0 A) (F0 m 37 ls []) := by
          intro y37_2 z37_v_crossings z37_v_hollow z37_v_seenBy H locs ls h
          rw [← hB37] at h
          exact ih y37_2 z37_v_crossings z37_v_hollow z37_v_seenBy H locs ls h.1 (Nat.lt_of_lt_of_le h.2 (Nat.le_of_lt_succ hm))
        unfold wb_X4_read_37 at hq
        refine lv_iload_n hx hb dX4_read_37 rfl (lv_at hl 2 rfl) ?_
        refine lv_aload_n hx hb dX4_read_38 rfl (lv_at hl 1 rfl) ?_
        refine va_get (D := (dC, dI)) (ci := 0) (v := .ref (d 5)) (C := RX0) (T := TX0) (N := 14) hx hb hts iK0 hown hK hP 5 rfl rfl 4 (by decide) lk2 (fun _ h9 => h9) rfl dX4_read_39 ?_
        refine va_get (D := (dC, dI)) (ci := 3) (v := .int (X3_size (X0_tunnels w))) (C := RX3) (T := TX3) (N := 4) hx hb hts iK3 hown hK hP 10 rfl rfl 3 (by decide) lk3 (fun _ h9 => h9) rfl dX4_read_42 ?_
        obtain ⟨hqA, hqB⟩ := hq
        refine lv_icmp_ge (tgt := 63) hx hb dX4_read_45 (by decide) (fun c4 => ?_) (fun c4 => ?_)
        · have hq := hqA c4
          refine lv_iconst (v := 0) hx hb dX4_read_63 (by decide) ?_
          refine lv_istore_n (lv' := [(2, .int 0), (0, .ref (a 0)), (1, .ref (d 0))]) hx hb dX4_read_64 rfl hl (by decide) rfl (fun ls hl => ?_)
          exact J65 z37_v_crossings z37_v_seenBy 0 z37_v_hollow _ _ _ hq hP hD hS (lv_sub hl [1, 2, 0] rfl)
        · have hq := hqB c4
          refine lv_aload_n hx hb dX4_read_48 rfl (lv_at hl 0 rfl) ?_
          refine lv_aload_n hx hb dX4_read_49 rfl (lv_at hl 1 rfl) ?_
          refine va_get (D := (dC, dI)) (ci := 0) (v := .ref (d 5)) (C := RX0) (T := TX0) (N := 14) hx hb hts iK0 hown hK hP 5 rfl rfl 4 (by decide) lk2 (fun _ h9 => h9) rfl dX4_read_50 ?_
          refine lv_iload_n hx hb dX4_read_53 rfl (lv_at hl 2 rfl) ?_
          have hC : (([0, 1, 2, 3, 4, 10, 11, 12] : List Nat).map (fun i => (cX4 cy a z37_v_hollow z37_v_crossings (X4_sure v) z37_v_seenBy ++ wX0 cy d b w)[i]?)) = (cX4 cy a z37_v_hollow z37_v_crossings (X4_sure v) z37_v_seenBy ++ wX3 cy (sh d 5) (X0_tunnels w)).map some := rfl
          have hPc := xsubP hP hC
          have hDc := xsubD hD (by decide) hC
          have hFc := va_free (wc := (cX4 cy a z37_v_hollow z37_v_crossings (X4_sure v) z37_v_seenBy ++ wX3 cy (sh d 5) (X0_tunnels w))) hD hS hAe0 [0, 1, 2, 3, 4, 10, 11, 12] hC
          refine va_callv (va_runV (As := [.ref (d 5), .int y37_2]) (rest := []) ⟨hx, hb, hml, hown, hts⟩ (c_X4_readTunnel l dC dI cy a (sh d 5) _ (X4_s3 (X4_s1 (X4_s0 v z37_v_hollow) z37_v_crossings) z37_v_seenBy) (X0_tunnels w) y37_2 _ hq) (cwV 2 hts gX4_read_X4_readTunnel rfl rfl rfl (by decide +kernel) ⟨Nat.le_of_ble_eq_true rfl, Nat.le_of_ble_eq_true rfl⟩) ⟨xPre_blind, va_recv hK hP (ci := 4) (q0 := 0) rfl rfl, xPre_of hPc hK hDc⟩ rfl rfl hl.1 rfl (lv_room (Nat.le_of_ble_eq_true rfl)) dX4_read_54 ⟨Nat.le_of_ble_eq_true rfl, Nat.le_of_ble_eq_true rfl⟩) hS (fun q _ h => hFc q h) hFc (fun u t H locs ht hvm hq hB hz1 hk1 hS => ?_)
          obtain ⟨z54_v_crossings, z54_v_hollow, z54_v_seenBy⟩ := u
          obtain ⟨hP1, -, hD1⟩ := hB
          rw [ht] at hP1
          obtain ⟨hP, hD⟩ := xj hP hD [0, 1, 2, 3, 4, 10, 11, 12] (cX4 cy a z54_v_hollow z54_v_crossings (X4_sure v) z54_v_seenBy ++ wX3 cy (sh d 5) (X0_tunnels w)) (ws' := (cX4 cy a z54_v_hollow z54_v_crossings (X4_sure v) z54_v_seenBy ++ wX0 cy d b w)) hC rfl rfl hk1 hFc hP1
          refine lv_iinc (v := (y37_2 + 1)) (lv' := [(2, .int (y37_2 + 1)), (0, .ref (a 0)), (1, .ref (d 0))]) hx hb dX4_read_57 hl (k := 2) rfl rfl (by decide) rfl (fun ls hl => ?_)
          refine lv_goto (tgt := 37) hx hb dX4_read_60 (by decide) ?_
          exact bk37 (y37_2 + 1) z54_v_crossings z54_v_hollow z54_v_seenBy _ _ _ hq hP hD hS (lv_sub hl [1, 2, 0] rfl)
    exact key _ y37_2 z37_v_crossings z37_v_hollow z37_v_seenBy H locs ls h0 (Nat.lt_succ_self _) hP hD hS hl
  have J2 : ∀  (y2_2 : Int32) (z2_v_crossings : (Nat → Int32)) (z2_v_hollow : (Nat → Int32)) (z2_v_seenBy : (Nat → Int32)) (H : Heap) (locs : List Loc) (ls : Array Slot), wp_X4_read_2 v w  y2_2 z2_v_crossings z2_v_hollow z2_v_seenBy Q → va_P (dC, dI) vwCl (cX4 cy a z2_v_hollow z2_v_crossings (X4_sure v) z2_v_seenBy ++ wX0 cy d b w) H → va_D A (cX4 cy a z2_v_hollow z2_v_crossings (X4_sure v) z2_v_seenBy ++ wX0 cy d b w) → va_S A s.heap H locs → lv_has ls 3 [(0, .ref (a 0)), (1, .ref (d 0)), (2, .int y2_2)] → W p l e (headSpec wsX4_read ({ frames := 5, cells := 0, slots := 0, locals := 116 } : Room)).room s m ([.ref (a 0), .ref (d 0)] : List Value).toArray below meth c H locs 0 0 (MQ below (q_X4_read dC dI cy a d b v w Q A) ([.ref (a 0), .ref (d 0)] : List Value).toArray s 0 0 A) (F0 m 2 ls []) := by
    intro  y2_2 z2_v_crossings z2_v_hollow z2_v_seenBy H locs ls hq hP hD hS hl
    obtain ⟨I2, μ2, h0, hs2⟩ := hq
    have key : ∀ (n : Nat) (y2_2 : Int32) (z2_v_crossings : (Nat → Int32)) (z2_v_hollow : (Nat → Int32)) (z2_v_seenBy : (Nat → Int32)) (H : Heap) (locs : List Loc) (ls : Array Slot), I2 y2_2 z2_v_crossings z2_v_hollow z2_v_seenBy → μ2 y2_2 z2_v_crossings z2_v_hollow z2_v_seenBy < n → va_P (dC, dI) vwCl (cX4 cy a z2_v_hollow z2_v_crossings (X4_sure v) z2_v_seenBy ++ wX0 cy d b w) H → va_D A (cX4 cy a z2_v_hollow z2_v_crossings (X4_sure v) z2_v_seenBy ++ wX0 cy d b w) → va_S A s.heap H locs → lv_has ls 3 [(0, .ref (a 0)), (1, .ref (d 0)), (2, .int y2_2)] → W p l e (headSpec wsX4_read ({ frames := 5, cells := 0, slots := 0, locals := 116 } : Room)).room s m ([.ref (a 0), .ref (d 0)] : List Value).toArray below meth c H locs 0 0 (MQ below (q_X4_read dC dI cy a d b v w Q A) ([.ref (a 0), .ref (d 0)] : List Value).toArray s 0 0 A) (F0 m 2 ls []) := by
      intro n
      induction n with
      | zero => intro y2_2 z2_v_crossings z2_v_hollow z2_v_seenBy H locs ls _ hm; exact absurd hm (Nat.not_lt_zero _)
      | succ n ih =>
        intro y2_2 z2_v_crossings z2_v_hollow z2_v_seenBy H locs ls hI hm hP hD hS hl
        have hq := hs2 y2_2 z2_v_crossings z2_v_hollow z2_v_seenBy hI
        generalize hB2 : (fun (t0 : Int32) (t1 : (Nat → Int32)) (t2 : (Nat → Int32)) (t3 : (Nat → Int32)) => I2 t0 t1 t2 t3 ∧ μ2 t0 t1 t2 t3 < μ2 y2_2 z2_v_crossings z2_v_hollow z2_v_seenBy) = B2 at hq
        have bk2 : ∀ (y2_2 : Int32) (z2_v_crossings : (Nat → Int32)) (z2_v_hollow : (Nat → Int32)) (z2_v_seenBy : (Nat → Int32)) (H : Heap) (locs : List Loc) (ls : Array Slot), B2 y2_2 z2_v_crossings z2_v_hollow z2_v_seenBy → va_P (dC, dI) vwCl (cX4 cy a z2_v_hollow z2_v_crossings (X4_sure v) z2_v_seenBy ++ wX0 cy d b w) H → va_D A (cX4 cy a z2_v_hollow z2_v_crossings (X4_sure v) z2_v_seenBy ++ wX0 cy d b w) → va_S A s.heap H locs → lv_has ls 3 [(0, .ref (a 0)), (1, .ref (d 0)), (2, .int y2_2)] → W p l e (headSpec wsX4_read ({ frames := 5, cells := 0, slots := 0, locals := 116 } : Room)).room s m ([.ref (a 0), .ref (d 0)] : List Value).toArray below meth c H locs 0 0 (MQ below (q_X4_read dC dI cy a d b v w Q A) ([.ref (a 0), .ref (d 0)] : List Value).toArray s 0 0 A) (F0 m 2 ls []) := by
          intro y2_2 z2_v_crossings z2_v_hollow z2_v_seenBy H locs ls h
          rw [← hB2] at h
          exact ih y2_2 z2_v_crossings z2_v_hollow z2_v_seenBy H locs ls h.1 (Nat.lt_of_lt_of_le h.2 (Nat.le_of_lt_succ hm))
        unfold wb_X4_read_2 at hq
        refine lv_iload_n hx hb dX4_read_2 rfl (lv_at hl 2 rfl) ?_
        refine lv_bipush (v := 64) hx hb dX4_read_3 (by decide) ?_
        obtain ⟨hqA, hqB⟩ := hq
        refine lv_icmp_ge (tgt := 35) hx hb dX4_read_5 (by decide) (fun c6 => ?_) (fun c6 => ?_)
        · have hq := hqA c6
          refine lv_iconst (v := 0) hx hb dX4_read_35 (by decide) ?_
          refine lv_istore_n (lv' := [(2, .int 0), (0, .ref (a 0)), (1, .ref (d 0))]) hx hb dX4_read_36 rfl hl (by decide) rfl (fun ls hl => ?_)
          exact J37  0 z2_v_crossings z2_v_hollow z2_v_seenBy _ _ _ hq hP hD hS (lv_sub hl [1, 2, 0] rfl)
        · have hq := hqB c6
          refine lv_aload_n hx hb dX4_read_8 rfl (lv_at hl 0 rfl) ?_
          refine va_get (D := (dC, dI)) (ci := 4) (v := .ref (a 1)) (C := RX4) (T := TX4) (N := 4) hx hb hts iK4 hown hK hP 0 rfl rfl 0 (by decide) lk4 (fun _ h9 => h9) rfl dX4_read_9 ?_
          refine lv_iload_n hx hb dX4_read_12 rfl (lv_at hl 2 rfl) ?_
          refine lv_iconst (v := 0) hx hb dX4_read_13 (by decide) ?_
          obtain ⟨g5, hq⟩ := hq
          refine va_iast hx hb hK hP hD hS 1 0 rfl rfl g5 dX4_read_14 (fun H locs hP hD hS => ?_)
          have hP : va_P (dC, dI) vwCl (cX4 cy a (upd z2_v_hollow y2_2.toNatClampNeg 0) z2_v_crossings (X4_sure v) z2_v_seenBy ++ wX0 cy d b w) H := hP
          have hD : va_D A (cX4 cy a (upd z2_v_hollow y2_2.toNatClampNeg 0) z2_v_crossings (X4_sure v) z2_v_seenBy ++ wX0 cy d b w) := hD
          refine lv_aload_n hx hb dX4_read_15 rfl (lv_at hl 0 rfl) ?_
          refine va_get (D := (dC, dI)) (ci := 4) (v := .ref (a 2)) (C := RX4) (T := TX4) (N := 4) hx hb hts iK4 hown hK hP 0 rfl rfl 1 (by decide) lk5 (fun _ h9 => h9) rfl dX4_read_16 ?_
          refine lv_iload_n hx hb dX4_read_19 rfl (lv_at hl 2 rfl) ?_
          refine lv_iconst (v := 0) hx hb dX4_read_20 (by decide) ?_
          refine va_iast hx hb hK hP hD hS 2 0 rfl rfl g5 dX4_read_21 (fun H locs hP hD hS => ?_)
          have hP : va_P (dC, dI) vwCl (cX4 cy a (upd z2_v_hollow y2_2.toNatClampNeg 0) (upd z2_v_crossings y2_2.toNatClampNeg 0) (X4_sure v) z2_v_seenBy ++ wX0 cy d b w) H := hP
          have hD : va_D A (cX4 cy a (upd z2_v_hollow y2_2.toNatClampNeg 0) (upd z2_v_crossings y2_2.toNatClampNeg 0) (X4_sure v) z2_v_seenBy ++ wX0 cy d b w) := hD
          refine lv_aload_n hx hb dX4_read_22 rfl (lv_at hl 0 rfl) ?_
          refine va_get (D := (dC, dI)) (ci := 4) (v := .ref (a 4)) (C := RX4) (T := TX4) (N := 4) hx hb hts iK4 hown hK hP 0 rfl rfl 3 (by decide) lk6 (fun _ h9 => h9) rfl dX4_read_23 ?_
          refine lv_iload_n hx hb dX4_read_26 rfl (lv_at hl 2 rfl) ?_
          refine lv_iconst (v := (-1)) hx hb dX4_read_27 (by decide) ?_
          refine va_iast hx hb hK hP hD hS 4 0 rfl rfl g5 dX4_read_28 (fun H locs hP hD hS => ?_)
          have hP : va_P (dC, dI) vwCl (cX4 cy a (upd z2_v_hollow y2_2.toNatClampNeg 0) (upd z2_v_crossings y2_2.toNatClampNeg 0) (X4_sure v) (upd z2_v_seenBy y2_2.toNatClampNeg (-1)) ++ wX0 cy d b w) H := hP
          have hD : va_D A (cX4 cy a (upd z2_v_hollow y2_2.toNatClampNeg 0) (upd z2_v_crossings y2_2.toNatClampNeg 0) (X4_sure v) (upd z2_v_seenBy y2_2.toNatClampNeg (-1)) ++ wX0 cy d b w) := hD
          refine lv_iinc (v := (y2_2 + 1)) (lv' := [(2, .int (y2_2 + 1)), (0, .ref (a 0)), (1, .ref (d 0))]) hx hb dX4_read_29 hl (k := 2) rfl rfl (by decide) rfl (fun ls hl => ?_)
          refine lv_goto (tgt := 2) hx hb dX4_read_32 (by decide) ?_
          exact bk2 (y2_2 + 1) (upd z2_v_crossings y2_2.toNatClampNeg 0) (upd z2_v_hollow y2_2.toNatClampNeg 0) (upd z2_v_seenBy y2_2.toNatClampNeg (-1)) _ _ _ hq hP hD hS (lv_sub hl [1, 2, 0] rfl)
    exact key _ y2_2 z2_v_crossings z2_v_hollow z2_v_seenBy H locs ls h0 (Nat.lt_succ_self _) hP hD hS hl
  refine lv_iconst (v := 0) hx hb dX4_read_0 (by decide) ?_
  refine lv_istore_n (lv' := [(2, .int 0), (0, .ref (a 0)), (1, .ref (d 0))]) hx hb dX4_read_1 rfl hl (by decide) rfl (fun ls hl => ?_)
  exact J2  0 (X4_crossings v) (X4_hollow v) (X4_seenBy v) _ _ _ hq hP hD hS (lv_sub hl [1, 2, 0] rfl)
def wb_X2_measure_59 (v : V_X2) (w : V_X0) (x2 : Int32) (y43_3 : Int32) (y43_4 : Int32) (z43_v_distance : (Nat → Int32)) (B43 : Int32 → Int32 → (Nat → Int32) → Prop)  (y59_3 : Int32) (y59_5 : Int32) (z59_v_distance : (Nat → Int32)) (B59 : Int32 → Int32 → (Nat → Int32) → Prop) (Q : (Nat → Int32) → Prop) : Prop :=
  (((X3_size (X0_tunnels w)) ≤ y59_5 → B43 y59_3 (y43_4 + 1) z59_v_distance) ∧
  (¬ (X3_size (X0_tunnels w)) ≤ y59_5 → wp_X3_first (X0_tunnels w) y59_5 (fun r77 =>
  wp_X3_last (X0_tunnels w) y59_5 (fun r88 =>
  wp_X2_isTuft r77 (fun r95 =>
  ((r95 = 0 → B59 y59_3 (y59_5 + 1) z59_v_distance) ∧
  (¬ r95 = 0 → wp_X2_isTuft r88 (fun r103 =>
  ((r103 = 0 → B59 y59_3 (y59_5 + 1) z59_v_distance) ∧
  (¬ r103 = 0 → wp_X2_reach (X2_s0 v z59_v_distance) r77 r88 y43_4 (fun r116 z116_v_distance =>
  ((r116 = 0 → B59 y59_3 (y59_5 + 1) z116_v_distance) ∧
  (¬ r116 = 0 → B59 1 (y59_5 + 1) z116_v_distance)))))))))))))
def wp_X2_measure_59 (v : V_X2) (w : V_X0) (x2 : Int32) (y43_3 : Int32) (y43_4 : Int32) (z43_v_distance : (Nat → Int32)) (B43 : Int32 → Int32 → (Nat → Int32) → Prop)  (y59_3 : Int32) (y59_5 : Int32) (z59_v_distance : (Nat → Int32)) (Q : (Nat → Int32) → Prop) : Prop :=
  ∃ (I : Int32 → Int32 → (Nat → Int32) → Prop) (μ : Int32 → Int32 → (Nat → Int32) → Nat), I y59_3 y59_5 z59_v_distance ∧ ∀ (s0 : Int32) (s1 : Int32) (s2 : (Nat → Int32)), I s0 s1 s2 → wb_X2_measure_59 v w x2 y43_3 y43_4 z43_v_distance B43  s0 s1 s2 (fun t0 t1 t2 => I t0 t1 t2 ∧ μ t0 t1 t2 < μ s0 s1 s2) Q
def wb_X2_measure_43 (v : V_X2) (w : V_X0) (x2 : Int32)  (y43_3 : Int32) (y43_4 : Int32) (z43_v_distance : (Nat → Int32)) (B43 : Int32 → Int32 → (Nat → Int32) → Prop) (Q : (Nat → Int32) → Prop) : Prop :=
  ((y43_3 = 0 → Q z43_v_distance) ∧
  (¬ y43_3 = 0 → ((64 ≤ y43_4 → Q z43_v_distance) ∧
  (¬ 64 ≤ y43_4 → wp_X2_measure_59 v w x2 y43_3 y43_4 z43_v_distance B43  0 0 z43_v_distance Q))))
def wp_X2_measure_43 (v : V_X2) (w : V_X0) (x2 : Int32)  (y43_3 : Int32) (y43_4 : Int32) (z43_v_distance : (Nat → Int32)) (Q : (Nat → Int32) → Prop) : Prop :=
  ∃ (I : Int32 → Int32 → (Nat → Int32) → Prop) (μ : Int32 → Int32 → (Nat → Int32) → Nat), I y43_3 y43_4 z43_v_distance ∧ ∀ (s0 : Int32) (s1 : Int32) (s2 : (Nat → Int32)), I s0 s1 s2 → wb_X2_measure_43 v w x2  s0 s1 s2 (fun t0 t1 t2 => I t0 t1 t2 ∧ μ t0 t1 t2 < μ s0 s1 s2) Q
def wb_X2_measure_2 (v : V_X2) (w : V_X0) (x2 : Int32)  (y2_3 : Int32) (z2_v_distance : (Nat → Int32)) (B2 : Int32 → (Nat → Int32) → Prop) (Q : (Nat → Int32) → Prop) : Prop :=
  ((64 ≤ y2_3 → vp_in x2 64 ∧ ((((X0_mounds w) x2.toNatClampNeg) = 0 → Q z2_v_distance) ∧
  (¬ ((X0_mounds w) x2.toNatClampNeg) = 0 → wp_X2_measure_43 v w x2  1 0 (upd z2_v_distance x2.toNatClampNeg 0) Q))) ∧
  (¬ 64 ≤ y2_3 → vp_in y2_3 64 ∧ B2 (y2_3 + 1) (upd z2_v_distance y2_3.toNatClampNeg (-1))))
def wp_X2_measure_2 (v : V_X2) (w : V_X0) (x2 : Int32)  (y2_3 : Int32) (z2_v_distance : (Nat → Int32)) (Q : (Nat → Int32) → Prop) : Prop :=
  ∃ (I : Int32 → (Nat → Int32) → Prop) (μ : Int32 → (Nat → Int32) → Nat), I y2_3 z2_v_distance ∧ ∀ (s0 : Int32) (s1 : (Nat → Int32)), I s0 s1 → wb_X2_measure_2 v w x2  s0 s1 (fun t0 t1 => I t0 t1 ∧ μ t0 t1 < μ s0 s1) Q
def wp_X2_measure (v : V_X2) (w : V_X0) (x2 : Int32) (Q : (Nat → Int32) → Prop) : Prop :=
  wp_X2_measure_2 v w x2  0 (X2_distance v) Q
def q_X2_measure (dC : Nat → ClassId) (dI : Nat → Nat → Nat) (cy : Nat → ClassId) (a d b : Nat → Nat) (v : V_X2) (w : V_X0) (x2 : Int32) (Q : (Nat → Int32) → Prop) (A : Nat → Prop) : Array Value → State → Outcome → State → Prop := va_Qv (fun (u : (Nat → Int32)) => Q u) (fun (u : (Nat → Int32)) t => xAt dC dI cy A (cX2 cy a u (X2_group v) ++ wX0 cy d b w) t) A
set_option maxHeartbeats 4000000 in
set_option maxRecDepth 100000 in
theorem c_X2_measure (l : Launch) (dC : Nat → ClassId) (dI : Nat → Nat → Nat) (cy : Nat → ClassId) (a d b : Nat → Nat) (sz : Nat) (v : V_X2) (w : V_X0) (x2 : Int32) (Q : (Nat → Int32) → Prop) (hq : wp_X2_measure v w x2 Q) : Met l yX2_measure wsX2_measure ({ frames := 3, cells := 0, slots := 0, locals := 64 } : Room) (va_Pc [.ref (a 0), .ref (d 0), .int x2] (xPre dC dI cy (wX2 cy a v ++ wX0 cy d b w) sz)) (q_X2_measure dC dI cy a d b v w x2 Q (va_A (wX2 cy a v ++ wX0 cy d b w) sz)) 0 0 (va_A (wX2 cy a v ++ wX0 cy d b w) sz) := by
  refine Met.ofW (cc := cX2_measure) (maxL := 8) (ret := none) (by decide) rfl ?_
  intro p e s m args below meth c s₁ B hml hv
  obtain ⟨rfl, hsz, hP, hK, hD0⟩ := hv
  have hx := B.exec
  have hb := B.bytes
  have hr := B.returns
  have hts := atoms_spec (ws := wsX2_measure) B.pre
  have hown : s.vm.findClass RX2 = some m.cls := findClass_of_methodNamed B.named
  have hlocks := B.notSynchronized
  subst hsz
  have hD := hD0.self (sz := s.heap.size)
  generalize hAe : va_A (wX2 cy a v ++ wX0 cy d b w) s.heap.size = A at hD ⊢
  have hAe0 : ∀ q : Nat, s.heap.size ≤ q → A q := fun q h => by rw [← hAe]; exact Or.inr h
  have hS : va_S A s.heap s.heap [] := va_S.rf
  have hl := lv_entry ([.ref (a 0), .ref (d 0), .int x2]) (n := 8) (Nat.le_of_ble_eq_true rfl)
  rw [lg_entry_eq]
  generalize (lg_sl ([.ref (a 0), .ref (d 0), .int x2]) ++ List.replicate (8 - (lg_sl ([.ref (a 0), .ref (d 0), .int x2])).length) Slot.unset).toArray = ls at hl ⊢
  have hl : lv_has ls 8 [(0, .ref (a 0)), (1, .ref (d 0)), (2, .int x2)] := hl
  have lk0 := hts (Cond.fieldLink RX2 24 "MolesLawn$Lawn" "tunnels" "LMolesLawn$Rows;") (List.mem_cons_of_mem _ (List.mem_append_left _ (List.mem_append_left _ (List.mem_append_left _ (List.mem_append_left _ (List.mem_of_getElem? (i := 2) rfl))))))
  have lk1 := hts (Cond.fieldLink RX2 28 "MolesLawn$Rows" "size" "I") (List.mem_cons_of_mem _ (List.mem_append_left _ (List.mem_append_left _ (List.mem_append_left _ (List.mem_append_left _ (List.mem_of_getElem? (i := 3) rfl))))))
  have lk2 := hts (Cond.fieldLink RX2 18 "MolesLawn$Lawn" "mounds" "[Z") (List.mem_cons_of_mem _ (List.mem_append_left _ (List.mem_append_left _ (List.mem_append_left _ (List.mem_append_left _ (List.mem_of_getElem? (i := 1) rfl))))))
  have lk3 := hts (Cond.fieldLink RX2 9 "MolesLawn$Paths" "distance" "[I") (List.mem_cons_of_mem _ (List.mem_append_left _ (List.mem_append_left _ (List.mem_append_left _ (List.mem_append_left _ (List.mem_of_getElem? (i := 0) rfl))))))
  have iK0 : ∀ w ∈ wsX00, w ∈ wsX2_measure := fun _ h => (List.mem_cons_of_mem _ (List.mem_append_left _ (List.mem_append_right _ h)))
  have iK2 : ∀ w ∈ wsX20, w ∈ wsX2_measure := fun _ h => (List.mem_cons_of_mem _ (List.mem_append_left _ (List.mem_append_left _ (List.mem_append_right _ h))))
  have iK3 : ∀ w ∈ wsX30, w ∈ wsX2_measure := fun _ h => (List.mem_cons_of_mem _ (List.mem_append_right _ h))
  unfold wp_X2_measure at hq
  have J43 : ∀  (y43_3 : Int32) (y43_4 : Int32) (z43_v_distance : (Nat → Int32)) (H : Heap) (locs : List Loc) (ls : Array Slot), wp_X2_measure_43 v w x2  y43_3 y43_4 z43_v_distance Q → va_P (dC, dI) vwCl (cX2 cy a z43_v_distance (X2_group v) ++ wX0 cy d b w) H → va_D A (cX2 cy a z43_v_distance (X2_group v) ++ wX0 cy d b w) → va_S A s.heap H locs → lv_has ls 8 [(0, .ref (a 0)), (1, .ref (d 0)), (3, .int y43_3), (4, .int y43_4)] → W p l e (headSpec wsX2_measure ({ frames := 3, cells := 0, slots := 0, locals := 64 } : Room)).room s m ([.ref (a 0), .ref (d 0), .int x2] : List Value).toArray below meth c H locs 0 0 (MQ below (q_X2_measure dC dI cy a d b v w x2 Q A) ([.ref (a 0), .ref (d 0), .int x2] : List Value).toArray s 0 0 A) (F0 m 43 ls []) := by
    intro  y43_3 y43_4 z43_v_distance H locs ls hq hP hD hS hl
    obtain ⟨I43, μ43, h0, hs43⟩ := hq
    have key : ∀ (n : Nat) (y43_3 : Int32) (y43_4 : Int32) (z43_v_distance : (Nat → Int32)) (H : Heap) (locs : List Loc) (ls : Array Slot), I43 y43_3 y43_4 z43_v_distance → μ43 y43_3 y43_4 z43_v_distance < n → va_P (dC, dI) vwCl (cX2 cy a z43_v_distance (X2_group v) ++ wX0 cy d b w) H → va_D A (cX2 cy a z43_v_distance (X2_group v) ++ wX0 cy d b w) → va_S A s.heap H locs → lv_has ls 8 [(0, .ref (a 0)), (1, .ref (d 0)), (3, .int y43_3), (4, .int y43_4)] → W p l e (headSpec wsX2_measure ({ frames := 3, cells := 0, slots := 0, locals := 64 } : Room)).room s m ([.ref (a 0), .ref (d 0), .int x2] : List Value).toArray below meth c H locs 0 0 (MQ below (q_X2_measure dC dI cy a d b v w x2 Q A) ([.ref (a 0), .ref (d 0), .int x2] : List Value).toArray s 0 0 A) (F0 m 43 ls []) := by
      intro n
      induction n with
      | zero => intro y43_3 y43_4 z43_v_distance H locs ls _ hm; exact absurd hm (Nat.not_lt_zero _)
      | succ n ih =>
        intro y43_3 y43_4 z43_v_distance H locs ls hI hm hP hD hS hl
        have hq := hs43 y43_3 y43_4 z43_v_distance hI
        generalize hB43 : (fun (t0 : Int32) (t1 : Int32) (t2 : (Nat → Int32)) => I43 t0 t1 t2 ∧ μ43 t0 t1 t2 < μ43 y43_3 y43_4 z43_v_distance) = B43 at hq
        have bk43 : ∀ (y43_3 : Int32) (y43_4 : Int32) (z43_v_distance : (Nat → Int32)) (H : Heap) (locs : List Loc) (ls : Array Slot), B43 y43_3 y43_4 z43_v_distance → va_P (dC, dI) vwCl (cX2 cy a z43_v_distance (X2_group v) ++ wX0 cy d b w) H → va_D A (cX2 cy a z43_v_distance (X2_group v) ++ wX0 cy d b w) → va_S A s.heap H locs → lv_has ls 8 [(0, .ref (a 0)), (1, .ref (d 0)), (3, .int y43_3), (4, .int y43_4)] → W p l e (headSpec wsX2_measure ({ frames := 3, cells := 0, slots := 0, locals := 64 } : Room)).room s m ([.ref (a 0), .ref (d 0), .int x2] : List Value).toArray below meth c H locs 0 0 (MQ below (q_X2_measure dC dI cy a d b v w x2 Q A) ([.ref (a 0), .ref (d 0), .int x2] : List Value).toArray s 0 0 A) (F0 m 43 ls []) := by
          intro y43_3 y43_4 z43_v_distance H locs ls h
          rw [← hB43] at h
          exact ih y43_3 y43_4 z43_v_distance H locs ls h.1 (Nat.lt_of_lt_of_le h.2 (Nat.le_of_lt_succ hm))
        unfold wb_X2_measure_43 at hq
        have J59 : ∀  (y59_3 : Int32) (y59_5 : Int32) (z59_v_distance : (Nat → Int32)) (H : Heap) (locs : List Loc) (ls : Array Slot), wp_X2_measure_59 v w x2 y43_3 y43_4 z43_v_distance B43  y59_3 y59_5 z59_v_distance Q → va_P (dC, dI) vwCl (cX2 cy a z59_v_distance (X2_group v) ++ wX0 cy d b w) H → va_D A (cX2 cy a z59_v_distance (X2_group v) ++ wX0 cy d b w) → va_S A s.heap H locs → lv_has ls 8 [(0, .ref (a 0)), (1, .ref (d 0)), (3, .int y59_3), (4, .int y43_4), (5, .int y59_5)] → W p l e (headSpec wsX2_measure ({ frames := 3, cells := 0, slots := 0, locals := 64 } : Room)).room s m ([.ref (a 0), .ref (d 0), .int x2] : List Value).toArray below meth c H locs 0 0 (MQ below (q_X2_measure dC dI cy a d b v w x2 Q A) ([.ref (a 0), .ref (d 0), .int x2] : List Value).toArray s 0 0 A) (F0 m 59 ls []) := by
          intro  y59_3 y59_5 z59_v_distance H locs ls hq hP hD hS hl
          obtain ⟨I59, μ59, h0, hs59⟩ := hq
          have key : ∀ (n : Nat) (y59_3 : Int32) (y59_5 : Int32) (z59_v_distance : (Nat → Int32)) (H : Heap) (locs : List Loc) (ls : Array Slot), I59 y59_3 y59_5 z59_v_distance → μ59 y59_3 y59_5 z59_v_distance < n → va_P (dC, dI) vwCl (cX2 cy a z59_v_distance (X2_group v) ++ wX0 cy d b w) H → va_D A (cX2 cy a z59_v_distance (X2_group v) ++ wX0 cy d b w) → va_S A s.heap H locs → lv_has ls 8 [(0, .ref (a 0)), (1, .ref (d 0)), (3, .int y59_3), (4, .int y43_4), (5, .int y59_5)] → W p l e (headSpec wsX2_measure ({ frames := 3, cells := 0, slots := 0, locals := 64 } : Room)).room s m ([.ref (a 0), .ref (d 0), .int x2] : List Value).toArray below meth c H locs 0 0 (MQ below (q_X2_measure dC dI cy a d b v w x2 Q A) ([.ref (a 0), .ref (d 0), .int x2] : List Value).toArray s 0 0 A) (F0 m 59 ls []) := by
            intro n
            induction n with
            | zero => intro y59_3 y59_5 z59_v_distance H locs ls _ hm; exact absurd hm (Nat.not_lt_zero _)
            | succ n ih =>
              intro y59_3 y59_5 z59_v_distance H locs ls hI hm hP hD hS hl
              have hq := hs59 y59_3 y59_5 z59_v_distance hI
              generalize hB59 : (fun (t0 : Int32) (t1 : Int32) (t2 : (Nat → Int32)) => I59 t0 t1 t2 ∧ μ59 t0 t1 t2 < μ59 y59_3 y59_5 z59_v_distance) = B59 at hq
              have bk59 : ∀ (y59_3 : Int32) (y59_5 : Int32) (z59_v_distance : (Nat → Int32)) (H : Heap) (locs : List Loc) (ls : Array Slot), B59 y59_3 y59_5 z59_v_distance → va_P (dC, dI) vwCl (cX2 cy a z59_v_distance (X2_group v) ++ wX0 cy d b w) H → va_D A (cX2 cy a z59_v_distance (X2_group v) ++ wX0 cy d b w) → va_S A s.heap H locs → lv_has ls 8 [(0, .ref (a 0)), (1, .ref (d 0)), (3, .int y59_3), (4, .int y43_4), (5, .int y59_5)] → W p l e (headSpec wsX2_measure ({ frames := 3, cells := 0, slots := 0, locals := 64 } : Room)).room s m ([.ref (a 0), .ref (d 0), .int x2] : List Value).toArray below meth c H locs 0 0 (MQ below (q_X2_measure dC dI cy a d b v w x2 Q A) ([.ref (a 0), .ref (d 0), .int x2] : List Value).toArray s 0 0 A) (F0 m 59 ls []) := by
                intro y59_3 y59_5 z59_v_distance H locs ls h
                rw [← hB59] at h
                exact ih y59_3 y59_5 z59_v_distance H locs ls h.1 (Nat.lt_of_lt_of_le h.2 (Nat.le_of_lt_succ hm))
              unfold wb_X2_measure_59 at hq
              refine lv_iload hx hb dX2_measure_59 (lv_at hl 4 rfl) ?_
              refine lv_aload_n hx hb dX2_measure_61 rfl (lv_at hl 1 rfl) ?_
              refine va_get (D := (dC, dI)) (ci := 0) (v := .ref (d 5)) (C := RX0) (T := TX0) (N := 14) hx hb hts iK0 hown hK hP 3 rfl rfl 4 (by decide) lk0 (fun _ h9 => h9) rfl dX2_measure_62 ?_
              refine va_get (D := (dC, dI)) (ci := 3) (v := .int (X3_size (X0_tunnels w))) (C := RX3) (T := TX3) (N := 4) hx hb hts iK3 hown hK hP 8 rfl rfl 3 (by decide) lk1 (fun _ h9 => h9) rfl dX2_measure_65 ?_
              obtain ⟨hqA, hqB⟩ := hq
              refine lv_icmp_ge (tgt := 130) hx hb dX2_measure_68 (by decide) (fun c4 => ?_) (fun c4 => ?_)
              · have hq := hqA c4
                refine lv_iinc (v := (y43_4 + 1)) (lv' := [(4, .int (y43_4 + 1)), (0, .ref (a 0)), (1, .ref (d 0)), (3, .int y59_3), (5, .int y59_5)]) hx hb dX2_measure_130 hl (k := 3) rfl rfl (by decide) rfl (fun ls hl => ?_)
                refine lv_goto (tgt := 43) hx hb dX2_measure_133 (by decide) ?_
                exact bk43 y59_3 (y43_4 + 1) z59_v_distance _ _ _ hq hP hD hS (lv_sub hl [1, 2, 3, 0] rfl)
              · have hq := hqB c4
                refine lv_aload_n hx hb dX2_measure_71 rfl (lv_at hl 1 rfl) ?_
                refine va_get (D := (dC, dI)) (ci := 0) (v := .ref (d 5)) (C := RX0) (T := TX0) (N := 14) hx hb hts iK0 hown hK hP 3 rfl rfl 4 (by decide) lk0 (fun _ h9 => h9) rfl dX2_measure_72 ?_
                refine lv_iload hx hb dX2_measure_75 (lv_at hl 4 rfl) ?_
                have hC : (([8, 9, 10] : List Nat).map (fun i => (cX2 cy a z59_v_distance (X2_group v) ++ wX0 cy d b w)[i]?)) = (wX3 cy (sh d 5) (X0_tunnels w)).map some := rfl
                have hPc := xsubP hP hC
                have hDc := xsubD hD (by decide) hC
                have hFc := va_free (wc := (wX3 cy (sh d 5) (X0_tunnels w))) hD hS hAe0 [8, 9, 10] hC
                refine va_calli (va_runV (As := [.int y59_5]) (rest := []) ⟨hx, hb, hml, hown, hts⟩ (c_X3_first l dC dI cy (sh d 5) _ (X0_tunnels w) y59_5 _ hq) (cwV 1 hts gX2_measure_X3_first rfl rfl rfl (by decide +kernel) ⟨Nat.le_of_ble_eq_true rfl, Nat.le_of_ble_eq_true rfl⟩) ⟨xPre_blind, va_recv hK hP (ci := 3) (q0 := 8) rfl rfl, xPre_of hPc hK hDc⟩ rfl rfl hl.1 rfl (lv_room (Nat.le_of_ble_eq_true rfl)) dX2_measure_77 ⟨Nat.le_of_ble_eq_true rfl, Nat.le_of_ble_eq_true rfl⟩) hS (fun q _ h => hFc q h) hFc (fun r77 u t H locs ht hvm hq hB hz1 hk1 hS => ?_)
                obtain ⟨hP1, -, hD1⟩ := hB
                rw [ht] at hP1
                have hP : va_P (dC, dI) vwCl (cX2 cy a z59_v_distance (X2_group v) ++ wX0 cy d b w) H := xj_keep hP hD [8, 9, 10] hC hP1 hk1
                refine lv_istore (lv' := [(6, .int r77), (0, .ref (a 0)), (1, .ref (d 0)), (3, .int y59_3), (4, .int y43_4), (5, .int y59_5)]) hx hb dX2_measure_80 hl (by decide) rfl (fun ls hl => ?_)
                refine lv_aload_n hx hb dX2_measure_82 rfl (lv_at hl 2 rfl) ?_
                refine va_get (D := (dC, dI)) (ci := 0) (v := .ref (d 5)) (C := RX0) (T := TX0) (N := 14) hx hb hts iK0 hown hK hP 3 rfl rfl 4 (by decide) lk0 (fun _ h9 => h9) rfl dX2_measure_83 ?_
                refine lv_iload hx hb dX2_measure_86 (lv_at hl 5 rfl) ?_
                have hC : (([8, 9, 10] : List Nat).map (fun i => (cX2 cy a z59_v_distance (X2_group v) ++ wX0 cy d b w)[i]?)) = (wX3 cy (sh d 5) (X0_tunnels w)).map some := rfl
                have hPc := xsubP hP hC
                have hDc := xsubD hD (by decide) hC
                have hFc := va_free (wc := (wX3 cy (sh d 5) (X0_tunnels w))) hD hS hAe0 [8, 9, 10] hC
                refine va_calli (va_runV (As := [.int y59_5]) (rest := []) ⟨hx, hb, hml, hown, hts⟩ (c_X3_last l dC dI cy (sh d 5) _ (X0_tunnels w) y59_5 _ hq) (cwV 1 hts gX2_measure_X3_last rfl rfl rfl (by decide +kernel) ⟨Nat.le_of_ble_eq_true rfl, Nat.le_of_ble_eq_true rfl⟩) ⟨xPre_blind, va_recv hK hP (ci := 3) (q0 := 8) rfl rfl, xPre_of hPc hK hDc⟩ rfl rfl hl.1 rfl (lv_room (Nat.le_of_ble_eq_true rfl)) dX2_measure_88 ⟨Nat.le_of_ble_eq_true rfl, Nat.le_of_ble_eq_true rfl⟩) hS (fun q _ h => hFc q h) hFc (fun r88 u t H locs ht hvm hq hB hz1 hk1 hS => ?_)
                obtain ⟨hP1, -, hD1⟩ := hB
                rw [ht] at hP1
                have hP : va_P (dC, dI) vwCl (cX2 cy a z59_v_distance (X2_group v) ++ wX0 cy d b w) H := xj_keep hP hD [8, 9, 10] hC hP1 hk1
                refine lv_istore (lv' := [(7, .int r88), (6, .int r77), (0, .ref (a 0)), (1, .ref (d 0)), (3, .int y59_3), (4, .int y43_4), (5, .int y59_5)]) hx hb dX2_measure_91 hl (by decide) rfl (fun ls hl => ?_)
                refine lv_iload hx hb dX2_measure_93 (lv_at hl 1 rfl) ?_
                have hFc := xfree_none hS hAe0
                refine va_calli (va_runS (As := [.int r77]) (rest := []) ⟨hx, hb, hml, hown, hts⟩ (c_X2_isTuft l dC dI cy  _ r77 _ hq) (va_cwS 1 hts gX2_measure_X2_isTuft rfl rfl rfl (by decide +kernel) ⟨Nat.le_of_ble_eq_true rfl, Nat.le_of_ble_eq_true rfl⟩) ⟨xPre_blind, xPre_of xP_nil hK (xD_nil (A := A))⟩ rfl rfl hl.1 rfl (lv_room (Nat.le_of_ble_eq_true rfl)) dX2_measure_95 ⟨Nat.le_of_ble_eq_true rfl, Nat.le_of_ble_eq_true rfl⟩) hS (fun q _ h => hFc q h) hFc (fun r95 u t H locs ht hvm hq hB hz1 hk1 hS => ?_)
                have hP := xj_none hP hk1
                obtain ⟨hqA, hqB⟩ := hq
                refine lv_if_eq (tgt := 124) hx hb dX2_measure_98 (by decide) (fun c3 => ?_) (fun c3 => ?_)
                · have hq := hqA c3
                  refine lv_iinc (v := (y59_5 + 1)) (lv' := [(5, .int (y59_5 + 1)), (7, .int r88), (6, .int r77), (0, .ref (a 0)), (1, .ref (d 0)), (3, .int y59_3), (4, .int y43_4)]) hx hb dX2_measure_124 hl (k := 6) rfl rfl (by decide) rfl (fun ls hl => ?_)
                  refine lv_goto (tgt := 59) hx hb dX2_measure_127 (by decide) ?_
                  exact bk59 y59_3 (y59_5 + 1) z59_v_distance _ _ _ hq hP hD hS (lv_sub hl [3, 4, 5, 6, 0] rfl)
                · have hq := hqB c3
                  refine lv_iload hx hb dX2_measure_101 (lv_at hl 0 rfl) ?_
                  have hFc := xfree_none hS hAe0
                  refine va_calli (va_runS (As := [.int r88]) (rest := []) ⟨hx, hb, hml, hown, hts⟩ (c_X2_isTuft l dC dI cy  _ r88 _ hq) (va_cwS 1 hts gX2_measure_X2_isTuft rfl rfl rfl (by decide +kernel) ⟨Nat.le_of_ble_eq_true rfl, Nat.le_of_ble_eq_true rfl⟩) ⟨xPre_blind, xPre_of xP_nil hK (xD_nil (A := A))⟩ rfl rfl hl.1 rfl (lv_room (Nat.le_of_ble_eq_true rfl)) dX2_measure_103 ⟨Nat.le_of_ble_eq_true rfl, Nat.le_of_ble_eq_true rfl⟩) hS (fun q _ h => hFc q h) hFc (fun r103 u t H locs ht hvm hq hB hz1 hk1 hS => ?_)
                  have hP := xj_none hP hk1
                  obtain ⟨hqA, hqB⟩ := hq
                  refine lv_if_eq (tgt := 124) hx hb dX2_measure_106 (by decide) (fun c2 => ?_) (fun c2 => ?_)
                  · have hq := hqA c2
                    refine lv_iinc (v := (y59_5 + 1)) (lv' := [(5, .int (y59_5 + 1)), (7, .int r88), (6, .int r77), (0, .ref (a 0)), (1, .ref (d 0)), (3, .int y59_3), (4, .int y43_4)]) hx hb dX2_measure_124 hl (k := 6) rfl rfl (by decide) rfl (fun ls hl => ?_)
                    refine lv_goto (tgt := 59) hx hb dX2_measure_127 (by decide) ?_
                    exact bk59 y59_3 (y59_5 + 1) z59_v_distance _ _ _ hq hP hD hS (lv_sub hl [3, 4, 5, 6, 0] rfl)
                  · have hq := hqB c2
                    refine lv_aload_n hx hb dX2_measure_109 rfl (lv_at hl 2 rfl) ?_
                    refine lv_iload hx hb dX2_measure_110 (lv_at hl 1 rfl) ?_
                    refine lv_iload hx hb dX2_measure_112 (lv_at hl 0 rfl) ?_
                    refine lv_iload hx hb dX2_measure_114 (lv_at hl 5 rfl) ?_
                    have hC : (([0, 1, 2] : List Nat).map (fun i => (cX2 cy a z59_v_distance (X2_group v) ++ wX0 cy d b w)[i]?)) = (cX2 cy a z59_v_distance (X2_group v)).map some := rfl
                    have hPc := xsubP hP hC
                    have hDc := xsubD hD (by decide) hC
                    have hFc := va_free (wc := (cX2 cy a z59_v_distance (X2_group v))) hD hS hAe0 [0, 1, 2] hC
                    refine va_calli (va_runV (As := [.int r77, .int r88, .int y43_4]) (rest := []) ⟨hx, hb, hml, hown, hts⟩ (c_X2_reach l dC dI cy a _ (X2_s0 v z59_v_distance) r77 r88 y43_4 _ hq) (cwV 3 hts gX2_measure_X2_reach rfl rfl rfl (by decide +kernel) ⟨Nat.le_of_ble_eq_true rfl, Nat.le_of_ble_eq_true rfl⟩) ⟨xPre_blind, va_recv hK hP (ci := 2) (q0 := 0) rfl rfl, xPre_of hPc hK hDc⟩ rfl rfl hl.1 rfl (lv_room (Nat.le_of_ble_eq_true rfl)) dX2_measure_116 ⟨Nat.le_of_ble_eq_true rfl, Nat.le_of_ble_eq_true rfl⟩) hS (fun q _ h => hFc q h) hFc (fun r116 z116_v_distance t H locs ht hvm hq hB hz1 hk1 hS => ?_)
                    obtain ⟨hP1, -, hD1⟩ := hB
                    rw [ht] at hP1
                    obtain ⟨hP, hD⟩ := xj hP hD [0, 1, 2] (cX2 cy a z116_v_distance (X2_group v)) (ws' := (cX2 cy a z116_v_distance (X2_group v) ++ wX0 cy d b w)) hC rfl rfl hk1 hFc hP1
                    obtain ⟨hqA, hqB⟩ := hq
                    refine lv_if_eq (tgt := 124) hx hb dX2_measure_119 (by decide) (fun c1 => ?_) (fun c1 => ?_)
                    · have hq := hqA c1
                      refine lv_iinc (v := (y59_5 + 1)) (lv' := [(5, .int (y59_5 + 1)), (7, .int r88), (6, .int r77), (0, .ref (a 0)), (1, .ref (d 0)), (3, .int y59_3), (4, .int y43_4)]) hx hb dX2_measure_124 hl (k := 6) rfl rfl (by decide) rfl (fun ls hl => ?_)
                      refine lv_goto (tgt := 59) hx hb dX2_measure_127 (by decide) ?_
                      exact bk59 y59_3 (y59_5 + 1) z116_v_distance _ _ _ hq hP hD hS (lv_sub hl [3, 4, 5, 6, 0] rfl)
                    · have hq := hqB c1
                      refine lv_iconst (v := 1) hx hb dX2_measure_122 (by decide) ?_
                      refine lv_istore_n (lv' := [(3, .int 1), (7, .int r88), (6, .int r77), (0, .ref (a 0)), (1, .ref (d 0)), (4, .int y43_4), (5, .int y59_5)]) hx hb dX2_measure_123 rfl hl (by decide) rfl (fun ls hl => ?_)
                      refine lv_iinc (v := (y59_5 + 1)) (lv' := [(5, .int (y59_5 + 1)), (3, .int 1), (7, .int r88), (6, .int r77), (0, .ref (a 0)), (1, .ref (d 0)), (4, .int y43_4)]) hx hb dX2_measure_124 hl (k := 6) rfl rfl (by decide) rfl (fun ls hl => ?_)
                      refine lv_goto (tgt := 59) hx hb dX2_measure_127 (by decide) ?_
                      exact bk59 1 (y59_5 + 1) z116_v_distance _ _ _ hq hP hD hS (lv_sub hl [4, 5, 1, 6, 0] rfl)
          exact key _ y59_3 y59_5 z59_v_distance H locs ls h0 (Nat.lt_succ_self _) hP hD hS hl
        refine lv_iload_n hx hb dX2_measure_43 rfl (lv_at hl 2 rfl) ?_
        obtain ⟨hqA, hqB⟩ := hq
        refine lv_if_eq (tgt := 136) hx hb dX2_measure_44 (by decide) (fun c6 => ?_) (fun c6 => ?_)
        · have hq := hqA c6
          exact W.vret hx hb hr (fun t ht hW => ⟨⟨z43_v_distance, rfl, hq, (xAt_of hP hK hD ht hW)⟩, hS.F ht⟩) hS.2.2 dX2_measure_136
        · have hq := hqB c6
          refine lv_iload hx hb dX2_measure_47 (lv_at hl 3 rfl) ?_
          refine lv_bipush (v := 64) hx hb dX2_measure_49 (by decide) ?_
          obtain ⟨hqA, hqB⟩ := hq
          refine lv_icmp_ge (tgt := 136) hx hb dX2_measure_51 (by decide) (fun c5 => ?_) (fun c5 => ?_)
          · have hq := hqA c5
            exact W.vret hx hb hr (fun t ht hW => ⟨⟨z43_v_distance, rfl, hq, (xAt_of hP hK hD ht hW)⟩, hS.F ht⟩) hS.2.2 dX2_measure_136
          · have hq := hqB c5
            refine lv_iconst (v := 0) hx hb dX2_measure_54 (by decide) ?_
            refine lv_istore_n (lv' := [(3, .int 0), (0, .ref (a 0)), (1, .ref (d 0)), (4, .int y43_4)]) hx hb dX2_measure_55 rfl hl (by decide) rfl (fun ls hl => ?_)
            refine lv_iconst (v := 0) hx hb dX2_measure_56 (by decide) ?_
            refine lv_istore (lv' := [(5, .int 0), (3, .int 0), (0, .ref (a 0)), (1, .ref (d 0)), (4, .int y43_4)]) hx hb dX2_measure_57 hl (by decide) rfl (fun ls hl => ?_)
            exact J59  0 0 z43_v_distance _ _ _ hq hP hD hS (lv_sub hl [2, 3, 1, 4, 0] rfl)
    exact key _ y43_3 y43_4 z43_v_distance H locs ls h0 (Nat.lt_succ_self _) hP hD hS hl
  have J2 : ∀  (y2_3 : Int32) (z2_v_distance : (Nat → Int32)) (H : Heap) (locs : List Loc) (ls : Array Slot), wp_X2_measure_2 v w x2  y2_3 z2_v_distance Q → va_P (dC, dI) vwCl (cX2 cy a z2_v_distance (X2_group v) ++ wX0 cy d b w) H → va_D A (cX2 cy a z2_v_distance (X2_group v) ++ wX0 cy d b w) → va_S A s.heap H locs → lv_has ls 8 [(0, .ref (a 0)), (1, .ref (d 0)), (2, .int x2), (3, .int y2_3)] → W p l e (headSpec wsX2_measure ({ frames := 3, cells := 0, slots := 0, locals := 64 } : Room)).room s m ([.ref (a 0), .ref (d 0), .int x2] : List Value).toArray below meth c H locs 0 0 (MQ below (q_X2_measure dC dI cy a d b v w x2 Q A) ([.ref (a 0), .ref (d 0), .int x2] : List Value).toArray s 0 0 A) (F0 m 2 ls []) := by
    intro  y2_3 z2_v_distance H locs ls hq hP hD hS hl
    obtain ⟨I2, μ2, h0, hs2⟩ := hq
    have key : ∀ (n : Nat) (y2_3 : Int32) (z2_v_distance : (Nat → Int32)) (H : Heap) (locs : List Loc) (ls : Array Slot), I2 y2_3 z2_v_distance → μ2 y2_3 z2_v_distance < n → va_P (dC, dI) vwCl (cX2 cy a z2_v_distance (X2_group v) ++ wX0 cy d b w) H → va_D A (cX2 cy a z2_v_distance (X2_group v) ++ wX0 cy d b w) → va_S A s.heap H locs → lv_has ls 8 [(0, .ref (a 0)), (1, .ref (d 0)), (2, .int x2), (3, .int y2_3)] → W p l e (headSpec wsX2_measure ({ frames := 3, cells := 0, slots := 0, locals := 64 } : Room)).room s m ([.ref (a 0), .ref (d 0), .int x2] : List Value).toArray below meth c H locs 0 0 (MQ below (q_X2_measure dC dI cy a d b v w x2 Q A) ([.ref (a 0), .ref (d 0), .int x2] : List Value).toArray s 0 0 A) (F0 m 2 ls []) := by
      intro n
      induction n with
      | zero => intro y2_3 z2_v_distance H locs ls _ hm; exact absurd hm (Nat.not_lt_zero _)
      | succ n ih =>
        intro y2_3 z2_v_distance H locs ls hI hm hP hD hS hl
        have hq := hs2 y2_3 z2_v_distance hI
        generalize hB2 : (fun (t0 : Int32) (t1 : (Nat → Int32)) => I2 t0 t1 ∧ μ2 t0 t1 < μ2 y2_3 z2_v_distance) = B2 at hq
        have bk2 : ∀ (y2_3 : Int32) (z2_v_distance : (Nat → Int32)) (H : Heap) (locs : List Loc) (ls : Array Slot), B2 y2_3 z2_v_distance → va_P (dC, dI) vwCl (cX2 cy a z2_v_distance (X2_group v) ++ wX0 cy d b w) H → va_D A (cX2 cy a z2_v_distance (X2_group v) ++ wX0 cy d b w) → va_S A s.heap H locs → lv_has ls 8 [(0, .ref (a 0)), (1, .ref (d 0)), (2, .int x2), (3, .int y2_3)] → W p l e (headSpec wsX2_measure ({ frames := 3, cells := 0, slots := 0, locals := 64 } : Room)).room s m ([.ref (a 0), .ref (d 0), .int x2] : List Value).toArray below meth c H locs 0 0 (MQ below (q_X2_measure dC dI cy a d b v w x2 Q A) ([.ref (a 0), .ref (d 0), .int x2] : List Value).toArray s 0 0 A) (F0 m 2 ls []) := by
          intro y2_3 z2_v_distance H locs ls h
          rw [← hB2] at h
          exact ih y2_3 z2_v_distance H locs ls h.1 (Nat.lt_of_lt_of_le h.2 (Nat.le_of_lt_succ hm))
        unfold wb_X2_measure_2 at hq
        refine lv_iload_n hx hb dX2_measure_2 rfl (lv_at hl 3 rfl) ?_
        refine lv_bipush (v := 64) hx hb dX2_measure_3 (by decide) ?_
        obtain ⟨hqA, hqB⟩ := hq
        refine lv_icmp_ge (tgt := 21) hx hb dX2_measure_5 (by decide) (fun c10 => ?_) (fun c10 => ?_)
        · have hq := hqA c10
          refine lv_aload_n hx hb dX2_measure_21 rfl (lv_at hl 1 rfl) ?_
          refine va_get (D := (dC, dI)) (ci := 0) (v := .ref (d 1)) (C := RX0) (T := TX0) (N := 14) hx hb hts iK0 hown hK hP 3 rfl rfl 0 (by decide) lk2 (fun _ h9 => h9) rfl dX2_measure_22 ?_
          refine lv_iload_n hx hb dX2_measure_25 rfl (lv_at hl 2 rfl) ?_
          obtain ⟨g7, hq⟩ := hq
          refine va_zald hx hb hK hP 4 1 rfl rfl g7 dX2_measure_26 ?_
          obtain ⟨hqA, hqB⟩ := hq
          refine lv_if_ne (tgt := 31) hx hb dX2_measure_27 (by decide) (fun c8 => ?_) (fun c8 => ?_)
          · have hq := hqB c8
            refine lv_aload_n hx hb dX2_measure_31 rfl (lv_at hl 0 rfl) ?_
            refine va_get (D := (dC, dI)) (ci := 2) (v := .ref (a 1)) (C := RX2) (T := TX2) (N := 2) hx hb hts iK2 hown hK hP 0 rfl rfl 0 (by decide) lk3 (fun _ h9 => h9) rfl dX2_measure_32 ?_
            refine lv_iload_n hx hb dX2_measure_35 rfl (lv_at hl 2 rfl) ?_
            refine lv_iconst (v := 0) hx hb dX2_measure_36 (by decide) ?_
            refine va_iast hx hb hK hP hD hS 1 0 rfl rfl g7 dX2_measure_37 (fun H locs hP hD hS => ?_)
            have hP : va_P (dC, dI) vwCl (cX2 cy a (upd z2_v_distance x2.toNatClampNeg 0) (X2_group v) ++ wX0 cy d b w) H := hP
            have hD : va_D A (cX2 cy a (upd z2_v_distance x2.toNatClampNeg 0) (X2_group v) ++ wX0 cy d b w) := hD
            refine lv_iconst (v := 1) hx hb dX2_measure_38 (by decide) ?_
            refine lv_istore_n (lv' := [(3, .int 1), (0, .ref (a 0)), (1, .ref (d 0)), (2, .int x2)]) hx hb dX2_measure_39 rfl hl (by decide) rfl (fun ls hl => ?_)
            refine lv_iconst (v := 0) hx hb dX2_measure_40 (by decide) ?_
            refine lv_istore (lv' := [(4, .int 0), (3, .int 1), (0, .ref (a 0)), (1, .ref (d 0)), (2, .int x2)]) hx hb dX2_measure_41 hl (by decide) rfl (fun ls hl => ?_)
            exact J43  1 0 (upd z2_v_distance x2.toNatClampNeg 0) _ _ _ hq hP hD hS (lv_sub hl [2, 3, 1, 0] rfl)
          · have hq := hqA c8
            exact W.vret hx hb hr (fun t ht hW => ⟨⟨z2_v_distance, rfl, hq, (xAt_of hP hK hD ht hW)⟩, hS.F ht⟩) hS.2.2 dX2_measure_30
        · have hq := hqB c10
          refine lv_aload_n hx hb dX2_measure_8 rfl (lv_at hl 0 rfl) ?_
          refine va_get (D := (dC, dI)) (ci := 2) (v := .ref (a 1)) (C := RX2) (T := TX2) (N := 2) hx hb hts iK2 hown hK hP 0 rfl rfl 0 (by decide) lk3 (fun _ h9 => h9) rfl dX2_measure_9 ?_
          refine lv_iload_n hx hb dX2_measure_12 rfl (lv_at hl 3 rfl) ?_
          refine lv_iconst (v := (-1)) hx hb dX2_measure_13 (by decide) ?_
          obtain ⟨g9, hq⟩ := hq
          refine va_iast hx hb hK hP hD hS 1 0 rfl rfl g9 dX2_measure_14 (fun H locs hP hD hS => ?_)
          have hP : va_P (dC, dI) vwCl (cX2 cy a (upd z2_v_distance y2_3.toNatClampNeg (-1)) (X2_group v) ++ wX0 cy d b w) H := hP
          have hD : va_D A (cX2 cy a (upd z2_v_distance y2_3.toNatClampNeg (-1)) (X2_group v) ++ wX0 cy d b w) := hD
          refine lv_iinc (v := (y2_3 + 1)) (lv' := [(3, .int (y2_3 + 1)), (0, .ref (a 0)), (1, .ref (d 0)), (2, .int x2)]) hx hb dX2_measure_15 hl (k := 3) rfl rfl (by decide) rfl (fun ls hl => ?_)
          refine lv_goto (tgt := 2) hx hb dX2_measure_18 (by decide) ?_
          exact bk2 (y2_3 + 1) (upd z2_v_distance y2_3.toNatClampNeg (-1)) _ _ _ hq hP hD hS (lv_sub hl [1, 2, 3, 0] rfl)
    exact key _ y2_3 z2_v_distance H locs ls h0 (Nat.lt_succ_self _) hP hD hS hl
  refine lv_iconst (v := 0) hx hb dX2_measure_0 (by decide) ?_
  refine lv_istore_n (lv' := [(3, .int 0), (0, .ref (a 0)), (1, .ref (d 0)), (2, .int x2)]) hx hb dX2_measure_1 rfl hl (by decide) rfl (fun ls hl => ?_)
  exact J2  0 (X2_distance v) _ _ _ hq hP hD hS (lv_sub hl [1, 2, 3, 0] rfl)
def wb_X2_groupCount_28 (v : V_X2) (w : V_X0)  (y28_2 : Int32) (y28_3 : Int32) (z28_v_group : (Nat → Int32)) (B28 : Int32 → Int32 → (Nat → Int32) → Prop) (Q : Int32 → (Nat → Int32) → Prop) : Prop :=
  (((X3_size (X0_tunnels w)) ≤ y28_3 → Q y28_2 z28_v_group) ∧
  (¬ (X3_size (X0_tunnels w)) ≤ y28_3 → wp_X3_first (X0_tunnels w) y28_3 (fun r44 =>
  wp_X3_last (X0_tunnels w) y28_3 (fun r54 =>
  wp_X2_isTuft r44 (fun r61 =>
  ((r61 = 0 → B28 y28_2 (y28_3 + 1) z28_v_group) ∧
  (¬ r61 = 0 → wp_X2_isTuft r54 (fun r69 =>
  ((r69 = 0 → B28 y28_2 (y28_3 + 1) z28_v_group) ∧
  (¬ r69 = 0 → vp_in r44 64 ∧ vp_in r54 64 ∧ (((z28_v_group r44.toNatClampNeg) = (z28_v_group r54.toNatClampNeg) → B28 y28_2 (y28_3 + 1) z28_v_group) ∧
  (¬ (z28_v_group r44.toNatClampNeg) = (z28_v_group r54.toNatClampNeg) → wp_X2_uniteGroups (X2_s1 v z28_v_group) (z28_v_group r44.toNatClampNeg) (z28_v_group r54.toNatClampNeg) (fun z107_v_group =>
  B28 (y28_2 + (-1)) (y28_3 + 1) z107_v_group)))))))))))))
def wp_X2_groupCount_28 (v : V_X2) (w : V_X0)  (y28_2 : Int32) (y28_3 : Int32) (z28_v_group : (Nat → Int32)) (Q : Int32 → (Nat → Int32) → Prop) : Prop :=
  ∃ (I : Int32 → Int32 → (Nat → Int32) → Prop) (μ : Int32 → Int32 → (Nat → Int32) → Nat), I y28_2 y28_3 z28_v_group ∧ ∀ (s0 : Int32) (s1 : Int32) (s2 : (Nat → Int32)), I s0 s1 s2 → wb_X2_groupCount_28 v w  s0 s1 s2 (fun t0 t1 t2 => I t0 t1 t2 ∧ μ t0 t1 t2 < μ s0 s1 s2) Q
def wb_X2_groupCount_2 (v : V_X2) (w : V_X0)  (y2_2 : Int32) (z2_v_group : (Nat → Int32)) (B2 : Int32 → (Nat → Int32) → Prop) (Q : Int32 → (Nat → Int32) → Prop) : Prop :=
  ((64 ≤ y2_2 → wp_X0_moundCount w (fun r22 =>
  wp_X2_groupCount_28 v w  r22 0 z2_v_group Q)) ∧
  (¬ 64 ≤ y2_2 → vp_in y2_2 64 ∧ B2 (y2_2 + 1) (upd z2_v_group y2_2.toNatClampNeg y2_2)))
def wp_X2_groupCount_2 (v : V_X2) (w : V_X0)  (y2_2 : Int32) (z2_v_group : (Nat → Int32)) (Q : Int32 → (Nat → Int32) → Prop) : Prop :=
  ∃ (I : Int32 → (Nat → Int32) → Prop) (μ : Int32 → (Nat → Int32) → Nat), I y2_2 z2_v_group ∧ ∀ (s0 : Int32) (s1 : (Nat → Int32)), I s0 s1 → wb_X2_groupCount_2 v w  s0 s1 (fun t0 t1 => I t0 t1 ∧ μ t0 t1 < μ s0 s1) Q
def wp_X2_groupCount (v : V_X2) (w : V_X0) (Q : Int32 → (Nat → Int32) → Prop) : Prop :=
  wp_X2_groupCount_2 v w  0 (X2_group v) Q
def q_X2_groupCount (dC : Nat → ClassId) (dI : Nat → Nat → Nat) (cy : Nat → ClassId) (a d b : Nat → Nat) (v : V_X2) (w : V_X0) (Q : Int32 → (Nat → Int32) → Prop) (A : Nat → Prop) : Array Value → State → Outcome → State → Prop := va_Qi (fun (r : Int32) (u : (Nat → Int32)) => Q r u) (fun (u : (Nat → Int32)) t => xAt dC dI cy A (cX2 cy a (X2_distance v) u ++ wX0 cy d b w) t) A
set_option maxHeartbeats 4000000 in
set_option maxRecDepth 100000 in
theorem c_X2_groupCount (l : Launch) (dC : Nat → ClassId) (dI : Nat → Nat → Nat) (cy : Nat → ClassId) (a d b : Nat → Nat) (sz : Nat) (v : V_X2) (w : V_X0) (Q : Int32 → (Nat → Int32) → Prop) (hq : wp_X2_groupCount v w Q) : Met l yX2_groupCount wsX2_groupCount ({ frames := 3, cells := 0, slots := 0, locals := 64 } : Room) (va_Pc [.ref (a 0), .ref (d 0)] (xPre dC dI cy (wX2 cy a v ++ wX0 cy d b w) sz)) (q_X2_groupCount dC dI cy a d b v w Q (va_A (wX2 cy a v ++ wX0 cy d b w) sz)) 0 0 (va_A (wX2 cy a v ++ wX0 cy d b w) sz) := by
  refine Met.ofW (cc := cX2_groupCount) (maxL := 6) (ret := (some .int)) (by decide) rfl ?_
  intro p e s m args below meth c s₁ B hml hv
  obtain ⟨rfl, hsz, hP, hK, hD0⟩ := hv
  have hx := B.exec
  have hb := B.bytes
  have hr := B.returns
  have hts := atoms_spec (ws := wsX2_groupCount) B.pre
  have hown : s.vm.findClass RX2 = some m.cls := findClass_of_methodNamed B.named
  have hlocks := B.notSynchronized
  subst hsz
  have hD := hD0.self (sz := s.heap.size)
  generalize hAe : va_A (wX2 cy a v ++ wX0 cy d b w) s.heap.size = A at hD ⊢
  have hAe0 : ∀ q : Nat, s.heap.size ≤ q → A q := fun q h => by rw [← hAe]; exact Or.inr h
  have hS : va_S A s.heap s.heap [] := va_S.rf
  have hl := lv_entry ([.ref (a 0), .ref (d 0)]) (n := 6) (Nat.le_of_ble_eq_true rfl)
  rw [lg_entry_eq]
  generalize (lg_sl ([.ref (a 0), .ref (d 0)]) ++ List.replicate (6 - (lg_sl ([.ref (a 0), .ref (d 0)])).length) Slot.unset).toArray = ls at hl ⊢
  have hl : lv_has ls 6 [(0, .ref (a 0)), (1, .ref (d 0))] := hl
  have lk0 := hts (Cond.fieldLink RX2 24 "MolesLawn$Lawn" "tunnels" "LMolesLawn$Rows;") (List.mem_cons_of_mem _ (List.mem_append_left _ (List.mem_append_left _ (List.mem_append_left _ (List.mem_append_left _ (List.mem_of_getElem? (i := 1) rfl))))))
  have lk1 := hts (Cond.fieldLink RX2 28 "MolesLawn$Rows" "size" "I") (List.mem_cons_of_mem _ (List.mem_append_left _ (List.mem_append_left _ (List.mem_append_left _ (List.mem_append_left _ (List.mem_of_getElem? (i := 2) rfl))))))
  have lk2 := hts (Cond.fieldLink RX2 15 "MolesLawn$Paths" "group" "[I") (List.mem_cons_of_mem _ (List.mem_append_left _ (List.mem_append_left _ (List.mem_append_left _ (List.mem_append_left _ (List.mem_of_getElem? (i := 0) rfl))))))
  have iK0 : ∀ w ∈ wsX00, w ∈ wsX2_groupCount := fun _ h => (List.mem_cons_of_mem _ (List.mem_append_left _ (List.mem_append_right _ h)))
  have iK2 : ∀ w ∈ wsX20, w ∈ wsX2_groupCount := fun _ h => (List.mem_cons_of_mem _ (List.mem_append_left _ (List.mem_append_left _ (List.mem_append_right _ h))))
  have iK3 : ∀ w ∈ wsX30, w ∈ wsX2_groupCount := fun _ h => (List.mem_cons_of_mem _ (List.mem_append_right _ h))
  unfold wp_X2_groupCount at hq
  have J28 : ∀  (y28_2 : Int32) (y28_3 : Int32) (z28_v_group : (Nat → Int32)) (H : Heap) (locs : List Loc) (ls : Array Slot), wp_X2_groupCount_28 v w  y28_2 y28_3 z28_v_group Q → va_P (dC, dI) vwCl (cX2 cy a (X2_distance v) z28_v_group ++ wX0 cy d b w) H → va_D A (cX2 cy a (X2_distance v) z28_v_group ++ wX0 cy d b w) → va_S A s.heap H locs → lv_has ls 6 [(0, .ref (a 0)), (1, .ref (d 0)), (2, .int y28_2), (3, .int y28_3)] → W p l e (headSpec wsX2_groupCount ({ frames := 3, cells := 0, slots := 0, locals := 64 } : Room)).room s m ([.ref (a 0), .ref (d 0)] : List Value).toArray below meth c H locs 0 0 (MQ below (q_X2_groupCount dC dI cy a d b v w Q A) ([.ref (a 0), .ref (d 0)] : List Value).toArray s 0 0 A) (F0 m 28 ls []) := by
    intro  y28_2 y28_3 z28_v_group H locs ls hq hP hD hS hl
    obtain ⟨I28, μ28, h0, hs28⟩ := hq
    have key : ∀ (n : Nat) (y28_2 : Int32) (y28_3 : Int32) (z28_v_group : (Nat → Int32)) (H : Heap) (locs : List Loc) (ls : Array Slot), I28 y28_2 y28_3 z28_v_group → μ28 y28_2 y28_3 z28_v_group < n → va_P (dC, dI) vwCl (cX2 cy a (X2_distance v) z28_v_group ++ wX0 cy d b w) H → va_D A (cX2 cy a (X2_distance v) z28_v_group ++ wX0 cy d b w) → va_S A s.heap H locs → lv_has ls 6 [(0, .ref (a 0)), (1, .ref (d 0)), (2, .int y28_2), (3, .int y28_3)] → W p l e (headSpec wsX2_groupCount ({ frames := 3, cells := 0, slots := 0, locals := 64 } : Room)).room s m ([.ref (a 0), .ref (d 0)] : List Value).toArray below meth c H locs 0 0 (MQ below (q_X2_groupCount dC dI cy a d b v w Q A) ([.ref (a 0), .ref (d 0)] : List Value).toArray s 0 0 A) (F0 m 28 ls []) := by
      intro n
      induction n with
      | zero => intro y28_2 y28_3 z28_v_group H locs ls _ hm; exact absurd hm (Nat.not_lt_zero _)
      | succ n ih =>
        intro y28_2 y28_3 z28_v_group H locs ls hI hm hP hD hS hl
        have hq := hs28 y28_2 y28_3 z28_v_group hI
        generalize hB28 : (fun (t0 : Int32) (t1 : Int32) (t2 : (Nat → Int32)) => I28 t0 t1 t2 ∧ μ28 t0 t1 t2 < μ28 y28_2 y28_3 z28_v_group) = B28 at hq
        have bk28 : ∀ (y28_2 : Int32) (y28_3 : Int32) (z28_v_group : (Nat → Int32)) (H : Heap) (locs : List Loc) (ls : Array Slot), B28 y28_2 y28_3 z28_v_group → va_P (dC, dI) vwCl (cX2 cy a (X2_distance v) z28_v_group ++ wX0 cy d b w) H → va_D A (cX2 cy a (X2_distance v) z28_v_group ++ wX0 cy d b w) → va_S A s.heap H locs → lv_has ls 6 [(0, .ref (a 0)), (1, .ref (d 0)), (2, .int y28_2), (3, .int y28_3)] → W p l e (headSpec wsX2_groupCount ({ frames := 3, cells := 0, slots := 0, locals := 64 } : Room)).room s m ([.ref (a 0), .ref (d 0)] : List Value).toArray below meth c H locs 0 0 (MQ below (q_X2_groupCount dC dI cy a d b v w Q A) ([.ref (a 0), .ref (d 0)] : List Value).toArray s 0 0 A) (F0 m 28 ls []) := by
          intro y28_2 y28_3 z28_v_group H locs ls h
          rw [← hB28] at h
          exact ih y28_2 y28_3 z28_v_group H locs ls h.1 (Nat.lt_of_lt_of_le h.2 (Nat.le_of_lt_succ hm))
        unfold wb_X2_groupCount_28 at hq
        refine lv_iload_n hx hb dX2_groupCount_28 rfl (lv_at hl 3 rfl) ?_
        refine lv_aload_n hx hb dX2_groupCount_29 rfl (lv_at hl 1 rfl) ?_
        refine va_get (D := (dC, dI)) (ci := 0) (v := .ref (d 5)) (C := RX0) (T := TX0) (N := 14) hx hb hts iK0 hown hK hP 3 rfl rfl 4 (by decide) lk0 (fun _ h9 => h9) rfl dX2_groupCount_30 ?_
        refine va_get (D := (dC, dI)) (ci := 3) (v := .int (X3_size (X0_tunnels w))) (C := RX3) (T := TX3) (N := 4) hx hb hts iK3 hown hK hP 8 rfl rfl 3 (by decide) lk1 (fun _ h9 => h9) rfl dX2_groupCount_33 ?_
        obtain ⟨hqA, hqB⟩ := hq
        refine lv_icmp_ge (tgt := 119) hx hb dX2_groupCount_36 (by decide) (fun c6 => ?_) (fun c6 => ?_)
        · have hq := hqA c6
          refine lv_iload_n hx hb dX2_groupCount_119 rfl (lv_at hl 2 rfl) ?_
          exact W.iret (v := y28_2) hx hb hr (fun t ht hW => ⟨⟨y28_2, z28_v_group, rfl, hq, (xAt_of hP hK hD ht hW)⟩, hS.F ht⟩) hS.2.2 dX2_groupCount_120
        · have hq := hqB c6
          refine lv_aload_n hx hb dX2_groupCount_39 rfl (lv_at hl 1 rfl) ?_
          refine va_get (D := (dC, dI)) (ci := 0) (v := .ref (d 5)) (C := RX0) (T := TX0) (N := 14) hx hb hts iK0 hown hK hP 3 rfl rfl 4 (by decide) lk0 (fun _ h9 => h9) rfl dX2_groupCount_40 ?_
          refine lv_iload_n hx hb dX2_groupCount_43 rfl (lv_at hl 3 rfl) ?_
          have hC : (([8, 9, 10] : List Nat).map (fun i => (cX2 cy a (X2_distance v) z28_v_group ++ wX0 cy d b w)[i]?)) = (wX3 cy (sh d 5) (X0_tunnels w)).map some := rfl
          have hPc := xsubP hP hC
          have hDc := xsubD hD (by decide) hC
          have hFc := va_free (wc := (wX3 cy (sh d 5) (X0_tunnels w))) hD hS hAe0 [8, 9, 10] hC
          refine va_calli (va_runV (As := [.int y28_3]) (rest := []) ⟨hx, hb, hml, hown, hts⟩ (c_X3_first l dC dI cy (sh d 5) _ (X0_tunnels w) y28_3 _ hq) (cwV 1 hts gX2_groupCount_X3_first rfl rfl rfl (by decide +kernel) ⟨Nat.le_of_ble_eq_true rfl, Nat.le_of_ble_eq_true rfl⟩) ⟨xPre_blind, va_recv hK hP (ci := 3) (q0 := 8) rfl rfl, xPre_of hPc hK hDc⟩ rfl rfl hl.1 rfl (lv_room (Nat.le_of_ble_eq_true rfl)) dX2_groupCount_44 ⟨Nat.le_of_ble_eq_true rfl, Nat.le_of_ble_eq_true rfl⟩) hS (fun q _ h => hFc q h) hFc (fun r44 u t H locs ht hvm hq hB hz1 hk1 hS => ?_)
          obtain ⟨hP1, -, hD1⟩ := hB
          rw [ht] at hP1
          have hP : va_P (dC, dI) vwCl (cX2 cy a (X2_distance v) z28_v_group ++ wX0 cy d b w) H := xj_keep hP hD [8, 9, 10] hC hP1 hk1
          refine lv_istore (lv' := [(4, .int r44), (0, .ref (a 0)), (1, .ref (d 0)), (2, .int y28_2), (3, .int y28_3)]) hx hb dX2_groupCount_47 hl (by decide) rfl (fun ls hl => ?_)
          refine lv_aload_n hx hb dX2_groupCount_49 rfl (lv_at hl 2 rfl) ?_
          refine va_get (D := (dC, dI)) (ci := 0) (v := .ref (d 5)) (C := RX0) (T := TX0) (N := 14) hx hb hts iK0 hown hK hP 3 rfl rfl 4 (by decide) lk0 (fun _ h9 => h9) rfl dX2_groupCount_50 ?_
          refine lv_iload_n hx hb dX2_groupCount_53 rfl (lv_at hl 4 rfl) ?_
          have hC : (([8, 9, 10] : List Nat).map (fun i => (cX2 cy a (X2_distance v) z28_v_group ++ wX0 cy d b w)[i]?)) = (wX3 cy (sh d 5) (X0_tunnels w)).map some := rfl
          have hPc := xsubP hP hC
          have hDc := xsubD hD (by decide) hC
          have hFc := va_free (wc := (wX3 cy (sh d 5) (X0_tunnels w))) hD hS hAe0 [8, 9, 10] hC
          refine va_calli (va_runV (As := [.int y28_3]) (rest := []) ⟨hx, hb, hml, hown, hts⟩ (c_X3_last l dC dI cy (sh d 5) _ (X0_tunnels w) y28_3 _ hq) (cwV 1 hts gX2_groupCount_X3_last rfl rfl rfl (by decide +kernel) ⟨Nat.le_of_ble_eq_true rfl, Nat.le_of_ble_eq_true rfl⟩) ⟨xPre_blind, va_recv hK hP (ci := 3) (q0 := 8) rfl rfl, xPre_of hPc hK hDc⟩ rfl rfl hl.1 rfl (lv_room (Nat.le_of_ble_eq_true rfl)) dX2_groupCount_54 ⟨Nat.le_of_ble_eq_true rfl, Nat.le_of_ble_eq_true rfl⟩) hS (fun q _ h => hFc q h) hFc (fun r54 u t H locs ht hvm hq hB hz1 hk1 hS => ?_)
          obtain ⟨hP1, -, hD1⟩ := hB
          rw [ht] at hP1
          have hP : va_P (dC, dI) vwCl (cX2 cy a (X2_distance v) z28_v_group ++ wX0 cy d b w) H := xj_keep hP hD [8, 9, 10] hC hP1 hk1
          refine lv_istore (lv' := [(5, .int r54), (4, .int r44), (0, .ref (a 0)), (1, .ref (d 0)), (2, .int y28_2), (3, .int y28_3)]) hx hb dX2_groupCount_57 hl (by decide) rfl (fun ls hl => ?_)
          refine lv_iload hx hb dX2_groupCount_59 (lv_at hl 1 rfl) ?_
          have hFc := xfree_none hS hAe0
          refine va_calli (va_runS (As := [.int r44]) (rest := []) ⟨hx, hb, hml, hown, hts⟩ (c_X2_isTuft l dC dI cy  _ r44 _ hq) (va_cwS 1 hts gX2_groupCount_X2_isTuft rfl rfl rfl (by decide +kernel) ⟨Nat.le_of_ble_eq_true rfl, Nat.le_of_ble_eq_true rfl⟩) ⟨xPre_blind, xPre_of xP_nil hK (xD_nil (A := A))⟩ rfl rfl hl.1 rfl (lv_room (Nat.le_of_ble_eq_true rfl)) dX2_groupCount_61 ⟨Nat.le_of_ble_eq_true rfl, Nat.le_of_ble_eq_true rfl⟩) hS (fun q _ h => hFc q h) hFc (fun r61 u t H locs ht hvm hq hB hz1 hk1 hS => ?_)
          have hP := xj_none hP hk1
          obtain ⟨hqA, hqB⟩ := hq
          refine lv_if_eq (tgt := 113) hx hb dX2_groupCount_64 (by decide) (fun c5 => ?_) (fun c5 => ?_)
          · have hq := hqA c5
            refine lv_iinc (v := (y28_3 + 1)) (lv' := [(3, .int (y28_3 + 1)), (5, .int r54), (4, .int r44), (0, .ref (a 0)), (1, .ref (d 0)), (2, .int y28_2)]) hx hb dX2_groupCount_113 hl (k := 5) rfl rfl (by decide) rfl (fun ls hl => ?_)
            refine lv_goto (tgt := 28) hx hb dX2_groupCount_116 (by decide) ?_
            exact bk28 y28_2 (y28_3 + 1) z28_v_group _ _ _ hq hP hD hS (lv_sub hl [3, 4, 5, 0] rfl)
          · have hq := hqB c5
            refine lv_iload hx hb dX2_groupCount_67 (lv_at hl 0 rfl) ?_
            have hFc := xfree_none hS hAe0
            refine va_calli (va_runS (As := [.int r54]) (rest := []) ⟨hx, hb, hml, hown, hts⟩ (c_X2_isTuft l dC dI cy  _ r54 _ hq) (va_cwS 1 hts gX2_groupCount_X2_isTuft rfl rfl rfl (by decide +kernel) ⟨Nat.le_of_ble_eq_true rfl, Nat.le_of_ble_eq_true rfl⟩) ⟨xPre_blind, xPre_of xP_nil hK (xD_nil (A := A))⟩ rfl rfl hl.1 rfl (lv_room (Nat.le_of_ble_eq_true rfl)) dX2_groupCount_69 ⟨Nat.le_of_ble_eq_true rfl, Nat.le_of_ble_eq_true rfl⟩) hS (fun q _ h => hFc q h) hFc (fun r69 u t H locs ht hvm hq hB hz1 hk1 hS => ?_)
            have hP := xj_none hP hk1
            obtain ⟨hqA, hqB⟩ := hq
            refine lv_if_eq (tgt := 113) hx hb dX2_groupCount_72 (by decide) (fun c4 => ?_) (fun c4 => ?_)
            · have hq := hqA c4
              refine lv_iinc (v := (y28_3 + 1)) (lv' := [(3, .int (y28_3 + 1)), (5, .int r54), (4, .int r44), (0, .ref (a 0)), (1, .ref (d 0)), (2, .int y28_2)]) hx hb dX2_groupCount_113 hl (k := 5) rfl rfl (by decide) rfl (fun ls hl => ?_)
              refine lv_goto (tgt := 28) hx hb dX2_groupCount_116 (by decide) ?_
              exact bk28 y28_2 (y28_3 + 1) z28_v_group _ _ _ hq hP hD hS (lv_sub hl [3, 4, 5, 0] rfl)
            · have hq := hqB c4
              refine lv_aload_n hx hb dX2_groupCount_75 rfl (lv_at hl 2 rfl) ?_
              refine va_get (D := (dC, dI)) (ci := 2) (v := .ref (a 2)) (C := RX2) (T := TX2) (N := 2) hx hb hts iK2 hown hK hP 0 rfl rfl 1 (by decide) lk2 (fun _ h9 => h9) rfl dX2_groupCount_76 ?_
              refine lv_iload hx hb dX2_groupCount_79 (lv_at hl 1 rfl) ?_
              obtain ⟨g1, hq⟩ := hq
              refine va_iald hx hb hK hP 2 0 rfl rfl g1 dX2_groupCount_81 ?_
              refine lv_aload_n hx hb dX2_groupCount_82 rfl (lv_at hl 2 rfl) ?_
              refine va_get (D := (dC, dI)) (ci := 2) (v := .ref (a 2)) (C := RX2) (T := TX2) (N := 2) hx hb hts iK2 hown hK hP 0 rfl rfl 1 (by decide) lk2 (fun _ h9 => h9) rfl dX2_groupCount_83 ?_
              refine lv_iload hx hb dX2_groupCount_86 (lv_at hl 0 rfl) ?_
              obtain ⟨g2, hq⟩ := hq
              refine va_iald hx hb hK hP 2 0 rfl rfl g2 dX2_groupCount_88 ?_
              obtain ⟨hqA, hqB⟩ := hq
              refine lv_icmp_eq (tgt := 113) hx hb dX2_groupCount_89 (by decide) (fun c3 => ?_) (fun c3 => ?_)
              · have hq := hqA c3
                refine lv_iinc (v := (y28_3 + 1)) (lv' := [(3, .int (y28_3 + 1)), (5, .int r54), (4, .int r44), (0, .ref (a 0)), (1, .ref (d 0)), (2, .int y28_2)]) hx hb dX2_groupCount_113 hl (k := 5) rfl rfl (by decide) rfl (fun ls hl => ?_)
                refine lv_goto (tgt := 28) hx hb dX2_groupCount_116 (by decide) ?_
                exact bk28 y28_2 (y28_3 + 1) z28_v_group _ _ _ hq hP hD hS (lv_sub hl [3, 4, 5, 0] rfl)
              · have hq := hqB c3
                refine lv_aload_n hx hb dX2_groupCount_92 rfl (lv_at hl 2 rfl) ?_
                refine lv_aload_n hx hb dX2_groupCount_93 rfl (lv_at hl 2 rfl) ?_
                refine va_get (D := (dC, dI)) (ci := 2) (v := .ref (a 2)) (C := RX2) (T := TX2) (N := 2) hx hb hts iK2 hown hK hP 0 rfl rfl 1 (by decide) lk2 (fun _ h9 => h9) rfl dX2_groupCount_94 ?_
                refine lv_iload hx hb dX2_groupCount_97 (lv_at hl 1 rfl) ?_
                refine va_iald hx hb hK hP 2 0 rfl rfl g1 dX2_groupCount_99 ?_
                refine lv_aload_n hx hb dX2_groupCount_100 rfl (lv_at hl 2 rfl) ?_
                refine va_get (D := (dC, dI)) (ci := 2) (v := .ref (a 2)) (C := RX2) (T := TX2) (N := 2) hx hb hts iK2 hown hK hP 0 rfl rfl 1 (by decide) lk2 (fun _ h9 => h9) rfl dX2_groupCount_101 ?_
                refine lv_iload hx hb dX2_groupCount_104 (lv_at hl 0 rfl) ?_
                refine va_iald hx hb hK hP 2 0 rfl rfl g2 dX2_groupCount_106 ?_
                have hC : (([0, 1, 2] : List Nat).map (fun i => (cX2 cy a (X2_distance v) z28_v_group ++ wX0 cy d b w)[i]?)) = (cX2 cy a (X2_distance v) z28_v_group).map some := rfl
                have hPc := xsubP hP hC
                have hDc := xsubD hD (by decide) hC
                have hFc := va_free (wc := (cX2 cy a (X2_distance v) z28_v_group)) hD hS hAe0 [0, 1, 2] hC
                refine va_callv (va_runV (As := [.int (z28_v_group r44.toNatClampNeg), .int (z28_v_group r54.toNatClampNeg)]) (rest := []) ⟨hx, hb, hml, hown, hts⟩ (c_X2_uniteGroups l dC dI cy a _ (X2_s1 v z28_v_group) (z28_v_group r44.toNatClampNeg) (z28_v_group r54.toNatClampNeg) _ hq) (cwV 2 hts gX2_groupCount_X2_uniteGroups rfl rfl rfl (by decide +kernel) ⟨Nat.le_of_ble_eq_true rfl, Nat.le_of_ble_eq_true rfl⟩) ⟨xPre_blind, va_recv hK hP (ci := 2) (q0 := 0) rfl rfl, xPre_of hPc hK hDc⟩ rfl rfl hl.1 rfl (lv_room (Nat.le_of_ble_eq_true rfl)) dX2_groupCount_107 ⟨Nat.le_of_ble_eq_true rfl, Nat.le_of_ble_eq_true rfl⟩) hS (fun q _ h => hFc q h) hFc (fun z107_v_group t H locs ht hvm hq hB hz1 hk1 hS => ?_)
                obtain ⟨hP1, -, hD1⟩ := hB
                rw [ht] at hP1
                obtain ⟨hP, hD⟩ := xj hP hD [0, 1, 2] (cX2 cy a (X2_distance v) z107_v_group) (ws' := (cX2 cy a (X2_distance v) z107_v_group ++ wX0 cy d b w)) hC rfl rfl hk1 hFc hP1
                refine lv_iinc (v := (y28_2 + (-1))) (lv' := [(2, .int (y28_2 + (-1))), (5, .int r54), (4, .int r44), (0, .ref (a 0)), (1, .ref (d 0)), (3, .int y28_3)]) hx hb dX2_groupCount_110 hl (k := 4) rfl rfl (by decide) rfl (fun ls hl => ?_)
                refine lv_iinc (v := (y28_3 + 1)) (lv' := [(3, .int (y28_3 + 1)), (2, .int (y28_2 + (-1))), (5, .int r54), (4, .int r44), (0, .ref (a 0)), (1, .ref (d 0))]) hx hb dX2_groupCount_113 hl (k := 5) rfl rfl (by decide) rfl (fun ls hl => ?_)
                refine lv_goto (tgt := 28) hx hb dX2_groupCount_116 (by decide) ?_
                exact bk28 (y28_2 + (-1)) (y28_3 + 1) z107_v_group _ _ _ hq hP hD hS (lv_sub hl [4, 5, 1, 0] rfl)
    exact key _ y28_2 y28_3 z28_v_group H locs ls h0 (Nat.lt_succ_self _) hP hD hS hl
  have J2 : ∀  (y2_2 : Int32) (z2_v_group : (Nat → Int32)) (H : Heap) (locs : List Loc) (ls : Array Slot), wp_X2_groupCount_2 v w  y2_2 z2_v_group Q → va_P (dC, dI) vwCl (cX2 cy a (X2_distance v) z2_v_group ++ wX0 cy d b w) H → va_D A (cX2 cy a (X2_distance v) z2_v_group ++ wX0 cy d b w) → va_S A s.heap H locs → lv_has ls 6 [(0, .ref (a 0)), (1, .ref (d 0)), (2, .int y2_2)] → W p l e (headSpec wsX2_groupCount ({ frames := 3, cells := 0, slots := 0, locals := 64 } : Room)).room s m ([.ref (a 0), .ref (d 0)] : List Value).toArray below meth c H locs 0 0 (MQ below (q_X2_groupCount dC dI cy a d b v w Q A) ([.ref (a 0), .ref (d 0)] : List Value).toArray s 0 0 A) (F0 m 2 ls []) := by
    intro  y2_2 z2_v_group H locs ls hq hP hD hS hl
    obtain ⟨I2, μ2, h0, hs2⟩ := hq
    have key : ∀ (n : Nat) (y2_2 : Int32) (z2_v_group : (Nat → Int32)) (H : Heap) (locs : List Loc) (ls : Array Slot), I2 y2_2 z2_v_group → μ2 y2_2 z2_v_group < n → va_P (dC, dI) vwCl (cX2 cy a (X2_distance v) z2_v_group ++ wX0 cy d b w) H → va_D A (cX2 cy a (X2_distance v) z2_v_group ++ wX0 cy d b w) → va_S A s.heap H locs → lv_has ls 6 [(0, .ref (a 0)), (1, .ref (d 0)), (2, .int y2_2)] → W p l e (headSpec wsX2_groupCount ({ frames := 3, cells := 0, slots := 0, locals := 64 } : Room)).room s m ([.ref (a 0), .ref (d 0)] : List Value).toArray below meth c H locs 0 0 (MQ below (q_X2_groupCount dC dI cy a d b v w Q A) ([.ref (a 0), .ref (d 0)] : List Value).toArray s 0 0 A) (F0 m 2 ls []) := by
      intro n
      induction n with
      | zero => intro y2_2 z2_v_group H locs ls _ hm; exact absurd hm (Nat.not_lt_zero _)
      | succ n ih =>
        intro y2_2 z2_v_group H locs ls hI hm hP hD hS hl
        have hq := hs2 y2_2 z2_v_group hI
        generalize hB2 : (fun (t0 : Int32) (t1 : (Nat → Int32)) => I2 t0 t1 ∧ μ2 t0 t1 < μ2 y2_2 z2_v_group) = B2 at hq
        have bk2 : ∀ (y2_2 : Int32) (z2_v_group : (Nat → Int32)) (H : Heap) (locs : List Loc) (ls : Array Slot), B2 y2_2 z2_v_group → va_P (dC, dI) vwCl (cX2 cy a (X2_distance v) z2_v_group ++ wX0 cy d b w) H → va_D A (cX2 cy a (X2_distance v) z2_v_group ++ wX0 cy d b w) → va_S A s.heap H locs → lv_has ls 6 [(0, .ref (a 0)), (1, .ref (d 0)), (2, .int y2_2)] → W p l e (headSpec wsX2_groupCount ({ frames := 3, cells := 0, slots := 0, locals := 64 } : Room)).room s m ([.ref (a 0), .ref (d 0)] : List Value).toArray below meth c H locs 0 0 (MQ below (q_X2_groupCount dC dI cy a d b v w Q A) ([.ref (a 0), .ref (d 0)] : List Value).toArray s 0 0 A) (F0 m 2 ls []) := by
          intro y2_2 z2_v_group H locs ls h
          rw [← hB2] at h
          exact ih y2_2 z2_v_group H locs ls h.1 (Nat.lt_of_lt_of_le h.2 (Nat.le_of_lt_succ hm))
        unfold wb_X2_groupCount_2 at hq
        refine lv_iload_n hx hb dX2_groupCount_2 rfl (lv_at hl 2 rfl) ?_
        refine lv_bipush (v := 64) hx hb dX2_groupCount_3 (by decide) ?_
        obtain ⟨hqA, hqB⟩ := hq
        refine lv_icmp_ge (tgt := 21) hx hb dX2_groupCount_5 (by decide) (fun c8 => ?_) (fun c8 => ?_)
        · have hq := hqA c8
          refine lv_aload_n hx hb dX2_groupCount_21 rfl (lv_at hl 1 rfl) ?_
          have hC : (([3, 4, 5, 6, 7, 8, 9, 10, 11, 12, 13, 14, 15, 16, 17, 18, 19, 20, 21, 22, 23] : List Nat).map (fun i => (cX2 cy a (X2_distance v) z2_v_group ++ wX0 cy d b w)[i]?)) = (wX0 cy d b w).map some := rfl
          have hPc := xsubP hP hC
          have hDc := xsubD hD (by decide) hC
          have hFc := va_free (wc := (wX0 cy d b w)) hD hS hAe0 [3, 4, 5, 6, 7, 8, 9, 10, 11, 12, 13, 14, 15, 16, 17, 18, 19, 20, 21, 22, 23] hC
          refine va_calli (va_runV (As := []) (rest := []) ⟨hx, hb, hml, hown, hts⟩ (c_X0_moundCount l dC dI cy d b _ w _ hq) (cwV 0 hts gX2_groupCount_X0_moundCount rfl rfl rfl (by decide +kernel) ⟨Nat.le_of_ble_eq_true rfl, Nat.le_of_ble_eq_true rfl⟩) ⟨xPre_blind, va_recv hK hP (ci := 0) (q0 := 3) rfl rfl, xPre_of hPc hK hDc⟩ rfl rfl hl.1 rfl (lv_room (Nat.le_of_ble_eq_true rfl)) dX2_groupCount_22 ⟨Nat.le_of_ble_eq_true rfl, Nat.le_of_ble_eq_true rfl⟩) hS (fun q _ h => hFc q h) hFc (fun r22 u t H locs ht hvm hq hB hz1 hk1 hS => ?_)
          obtain ⟨hP1, -, hD1⟩ := hB
          rw [ht] at hP1
          have hP : va_P (dC, dI) vwCl (cX2 cy a (X2_distance v) z2_v_group ++ wX0 cy d b w) H := xj_keep hP hD [3, 4, 5, 6, 7, 8, 9, 10, 11, 12, 13, 14, 15, 16, 17, 18, 19, 20, 21, 22, 23] hC hP1 hk1
          refine lv_istore_n (lv' := [(2, .int r22), (0, .ref (a 0)), (1, .ref (d 0))]) hx hb dX2_groupCount_25 rfl hl (by decide) rfl (fun ls hl => ?_)
          refine lv_iconst (v := 0) hx hb dX2_groupCount_26 (by decide) ?_
          refine lv_istore_n (lv' := [(3, .int 0), (2, .int r22), (0, .ref (a 0)), (1, .ref (d 0))]) hx hb dX2_groupCount_27 rfl hl (by decide) rfl (fun ls hl => ?_)
          exact J28  r22 0 z2_v_group _ _ _ hq hP hD hS (lv_sub hl [2, 3, 1, 0] rfl)
        · have hq := hqB c8
          refine lv_aload_n hx hb dX2_groupCount_8 rfl (lv_at hl 0 rfl) ?_
          refine va_get (D := (dC, dI)) (ci := 2) (v := .ref (a 2)) (C := RX2) (T := TX2) (N := 2) hx hb hts iK2 hown hK hP 0 rfl rfl 1 (by decide) lk2 (fun _ h9 => h9) rfl dX2_groupCount_9 ?_
          refine lv_iload_n hx hb dX2_groupCount_12 rfl (lv_at hl 2 rfl) ?_
          refine lv_iload_n hx hb dX2_groupCount_13 rfl (lv_at hl 2 rfl) ?_
          obtain ⟨g7, hq⟩ := hq
          refine va_iast hx hb hK hP hD hS 2 0 rfl rfl g7 dX2_groupCount_14 (fun H locs hP hD hS => ?_)
          have hP : va_P (dC, dI) vwCl (cX2 cy a (X2_distance v) (upd z2_v_group y2_2.toNatClampNeg y2_2) ++ wX0 cy d b w) H := hP
          have hD : va_D A (cX2 cy a (X2_distance v) (upd z2_v_group y2_2.toNatClampNeg y2_2) ++ wX0 cy d b w) := hD
          refine lv_iinc (v := (y2_2 + 1)) (lv' := [(2, .int (y2_2 + 1)), (0, .ref (a 0)), (1, .ref (d 0))]) hx hb dX2_groupCount_15 hl (k := 2) rfl rfl (by decide) rfl (fun ls hl => ?_)
          refine lv_goto (tgt := 2) hx hb dX2_groupCount_18 (by decide) ?_
          exact bk2 (y2_2 + 1) (upd z2_v_group y2_2.toNatClampNeg y2_2) _ _ _ hq hP hD hS (lv_sub hl [1, 2, 0] rfl)
    exact key _ y2_2 z2_v_group H locs ls h0 (Nat.lt_succ_self _) hP hD hS hl
  refine lv_iconst (v := 0) hx hb dX2_groupCount_0 (by decide) ?_
  refine lv_istore_n (lv' := [(2, .int 0), (0, .ref (a 0)), (1, .ref (d 0))]) hx hb dX2_groupCount_1 rfl hl (by decide) rfl (fun ls hl => ?_)
  exact J2  0 (X2_group v) _ _ _ hq hP hD hS (lv_sub hl [1, 2, 0] rfl)
