def wb_X2_groupCount_28 (v : V_X2) (w : V_X0)  (y28_2 : Int32) (y28_3 : Int32) (z28_v_group : (Nat → Int32)) (B28 : Int32 → Int32 → (Nat → Int32) → Prop) (Q : Int32 → (Nat → Int32) → Prop) : Prop :=
  (((X3_size (X0_tunnels w)) ≤ y28_3 → Q y28_2 z28_v_group) ∧
  (¬ (X3_size (X0_tunnels w)) ≤ y28_3 → wp_X3_first (X0_tunnels w) y28_3 (fun r44 =>
  wp_X3_last (X0_tunnels w) y28_3 (fun r54 =>
  wp_X2_isTuft r44 (fun r61 =>
  ((r61 = 0 → B28 y28_2 (y28_3 + 1) z28_v_group) ∧
  (¬ r61 = 0 → wp_X2_isTuft r54 (fun r69 =>
  ((r69 = 0 → B28 y28_2 (y28_3 + 1) z28_v_group) ∧
  (¬ r69 = 0 → vp_in r44 64 ∧ vp_in r54 64 ∧ (((z28_v_group r44.toNatClampNeg) = (z28_v_group r54.toNatClampNeg) → B28 y28_2 (y28_3 + 1) z28_v_group) ∧
  (¬ (z28_v_group r44.toNatClampNeg) = (z28_v_group r54.toNatClampNeg) → wp_X2_uniteGroups (X2_s1 v z28_v_group) (z28_v_group r44.toNatClampNeg) (z28_v_group r54.toNatClampNeg) (fun z107_v_group =>
  B28 (y28_2 + (-1)) (y28_3 + 1) z107_v_group)))))))))))))
def wp_X2_groupCount_28 (v : V_X2) (w : V_X0)  (y28_2 : Int32) (y28_3 : Int32) (z28_v_group : (Nat → Int32)) (Q : Int32 → (Nat → Int32) → Prop) : Prop :=
  ∃ (I : Int32 → Int32 → (Nat → Int32) → Prop) (μ : Int32 → Int32 → (Nat → Int32) → Nat), I y28_2 y28_3 z28_v_group ∧ ∀ (s0 : Int32) (s1 : Int32) (s2 : (Nat → Int32)), I s0 s1 s2 → wb_X2_groupCount_28 v w  s0 s1 s2 (fun t0 t1 t2 => I t0 t1 t2 ∧ μ t0 t1 t2 < μ s0 s1 s2) Q
def wb_X2_groupCount_2 (v : V_X2) (w : V_X0)  (y2_2 : Int32) (z2_v_group : (Nat → Int32)) (B2 : Int32 → (Nat → Int32) → Prop) (Q : Int32 → (Nat → Int32) → Prop) : Prop :=
  ((64 ≤ y2_2 → wp_X0_moundCount w (fun r22 =>
  wp_X2_groupCount_28 v w  r22 0 z2_v_group Q)) ∧
  (¬ 64 ≤ y2_2 → vp_in y2_2 64 ∧ B2 (y2_2 + 1) (upd z2_v_group y2_2.toNatClampNeg y2_2)))
def wp_X2_groupCount_2 (v : V_X2) (w : V_X0)  (y2_2 : Int32) (z2_v_group : (Nat → Int32)) (Q : Int32 → (Nat → Int32) → Prop) : Prop :=
  ∃ (I : Int32 → (Nat → Int32) → Prop) (μ : Int32 → (Nat → Int32) → Nat), I y2_2 z2_v_group ∧ ∀ (s0 : Int32) (s1 : (Nat → Int32)), I s0 s1 → wb_X2_groupCount_2 v w  s0 s1 (fun t0 t1 => I t0 t1 ∧ μ t0 t1 < μ s0 s1) Q
def wp_X2_groupCount (v : V_X2) (w : V_X0) (Q : Int32 → (Nat → Int32) → Prop) : Prop :=
  wp_X2_groupCount_2 v w  0 (X2_group v) Q
def q_X2_groupCount (dC : Nat → ClassId) (dI : Nat → Nat → Nat) (cy : Nat → ClassId) (a d b : Nat → Nat) (v : V_X2) (w : V_X0) (Q : Int32 → (Nat → Int32) → Prop) (A : Nat → Prop) : Array Value → State → Outcome → State → Prop := va_Qi (fun (r : Int32) (u : (Nat → Int32)) => Q r u) (fun (u : (Nat → Int32)) t => xAt dC dI cy A (cX2 cy a (X2_distance v) u ++ wX0 cy d b w) t) A
set_option maxHeartbeats 4000000 in
set_option maxRecDepth 100000 in
theorem c_X2_groupCount (l : Launch) (dC : Nat → ClassId) (dI : Nat → Nat → Nat) (cy : Nat → ClassId) (a d b : Nat → Nat) (sz : Nat) (v : V_X2) (w : V_X0) (Q : Int32 → (Nat → Int32) → Prop) (hq : wp_X2_groupCount v w Q) : Met l yX2_groupCount wsX2_groupCount ({ frames := 3, cells := 0, slots := 0, locals := 64 } : Room) (va_Pc [.ref (a 0), .ref (d 0)] (xPre dC dI cy (wX2 cy a v ++ wX0 cy d b w) sz)) (q_X2_groupCount dC dI cy a d b v w Q (va_A (wX2 cy a v ++ wX0 cy d b w) sz)) 0 0 (va_A (wX2 cy a v ++ wX0 cy d b w) sz) := by
  refine Met.ofW (cc := cX2_groupCount) (maxL := 6) (ret := (some .int)) (by decide) rfl ?_
  intro p e s m args below meth c s₁ B hml hv
  obtain ⟨rfl, hsz, hP, hK, hD0⟩ := hv
  have hx := B.exec
  have hb := B.bytes
  have hr := B.returns
  have hts := atoms_spec (ws := wsX2_groupCount) B.pre
  have hown : s.vm.findClass RX2 = some m.cls := findClass_of_methodNamed B.named
  have hlocks := B.notSynchronized
  subst hsz
  have hD := hD0.self (sz := s.heap.size)
  generalize hAe : va_A (wX2 cy a v ++ wX0 cy d b w) s.heap.size = A at hD ⊢
  have hAe0 : ∀ q : Nat, s.heap.size ≤ q → A q := fun q h => by rw [← hAe]; exact Or.inr h
  have hS : va_S A s.heap s.heap [] := va_S.rf
  have hl := lv_entry ([.ref (a 0), .ref (d 0)]) (n := 6) (Nat.le_of_ble_eq_true rfl)
  rw [lg_entry_eq]
  generalize (lg_sl ([.ref (a 0), .ref (d 0)]) ++ List.replicate (6 - (lg_sl ([.ref (a 0), .ref (d 0)])).length) Slot.unset).toArray = ls at hl ⊢
  have hl : lv_has ls 6 [(0, .ref (a 0)), (1, .ref (d 0))] := hl
  have lk0 := hts (Cond.fieldLink RX2 24 "MolesLawn$Lawn" "tunnels" "LMolesLawn$Rows;") (List.mem_cons_of_mem _ (List.mem_append_left _ (List.mem_append_left _ (List.mem_append_left _ (List.mem_append_left _ (List.mem_of_getElem? (i := 1) rfl))))))
  have lk1 := hts (Cond.fieldLink RX2 28 "MolesLawn$Rows" "size" "I") (List.mem_cons_of_mem _ (List.mem_append_left _ (List.mem_append_left _ (List.mem_append_left _ (List.mem_append_left _ (List.mem_of_getElem? (i := 2) rfl))))))
  have lk2 := hts (Cond.fieldLink RX2 15 "MolesLawn$Paths" "group" "[I") (List.mem_cons_of_mem _ (List.mem_append_left _ (List.mem_append_left _ (List.mem_append_left _ (List.mem_append_left _ (List.mem_of_getElem? (i := 0) rfl))))))
  have iK0 : ∀ w ∈ wsX00, w ∈ wsX2_groupCount := fun _ h => (List.mem_cons_of_mem _ (List.mem_append_left _ (List.mem_append_right _ h)))
  have iK2 : ∀ w ∈ wsX20, w ∈ wsX2_groupCount := fun _ h => (List.mem_cons_of_mem _ (List.mem_append_left _ (List.mem_append_left _ (List.mem_append_right _ h))))
  have iK3 : ∀ w ∈ wsX30, w ∈ wsX2_groupCount := fun _ h => (List.mem_cons_of_mem _ (List.mem_append_right _ h))
  unfold wp_X2_groupCount at hq
  have J28 : ∀  (y28_2 : Int32) (y28_3 : Int32) (z28_v_group : (Nat → Int32)) (H : Heap) (locs : List Loc) (ls : Array Slot), wp_X2_groupCount_28 v w  y28_2 y28_3 z28_v_group Q → va_P (dC, dI) vwCl (cX2 cy a (X2_distance v) z28_v_group ++ wX0 cy d b w) H → va_D A (cX2 cy a (X2_distance v) z28_v_group ++ wX0 cy d b w) → va_S A s.heap H locs → lv_has ls 6 [(0, .ref (a 0)), (1, .ref (d 0)), (2, .int y28_2), (3, .int y28_3)] → W p l e (headSpec wsX2_groupCount ({ frames := 3, cells := 0, slots := 0, locals := 64 } : Room)).room s m ([.ref (a 0), .ref (d 0)] : List Value).toArray below meth c H locs 0 0 (MQ below (q_X2_groupCount dC dI cy a d b v w Q A) ([.ref (a 0), .ref (d 0)] : List Value).toArray s 0 0 A) (F0 m 28 ls []) := by
    intro  y28_2 y28_3 z28_v_group H locs ls hq hP hD hS hl
    obtain ⟨I28, μ28, h0, hs28⟩ := hq
    have key : ∀ (n : Nat) (y28_2 : Int32) (y28_3 : Int32) (z28_v_group : (Nat → Int32)) (H : Heap) (locs : List Loc) (ls : Array Slot), I28 y28_2 y28_3 z28_v_group → μ28 y28_2 y28_3 z28_v_group < n → va_P (dC, dI) vwCl (cX2 cy a (X2_distance v) z28_v_group ++ wX0 cy d b w) H → va_D A (cX2 cy a (X2_distance v) z28_v_group ++ wX0 cy d b w) → va_S A s.heap H locs → lv_has ls 6 [(0, .ref (a 0)), (1, .ref (d 0)), (2, .int y28_2), (3, .int y28_3)] → W p l e (headSpec wsX2_groupCount ({ frames := 3, cells := 0, slots := 0, locals := 64 } : Room)).room s m ([.ref (a 0), .ref (d 0)] : List Value).toArray below meth c H locs 0 0 (MQ below (q_X2_groupCount dC dI cy a d b v w Q A) ([.ref (a 0), .ref (d 0)] : List Value).toArray s 0 0 A) (F0 m 28 ls []) := by
      intro n
      induction n with
      | zero => intro y28_2 y28_3 z28_v_group H locs ls _ hm; exact absurd hm (Nat.not_lt_zero _)
      | succ n ih =>
        intro y28_2 y28_3 z28_v_group H locs ls hI hm hP hD hS hl
        have hq := hs28 y28_2 y28_3 z28_v_group hI
        generalize hB28 : (fun (t0 : Int32) (t1 : Int32) (t2 : (Nat → Int32)) => I28 t0 t1 t2 ∧ μ28 t0 t1 t2 < μ28 y28_2 y28_3 z28_v_group) = B28 at hq
        have bk28 : ∀ (y28_2 : Int32) (y28_3 : Int32) (z28_v_group : (Nat → Int32)) (H : Heap) (locs : List Loc) (ls : Array Slot), B28 y28_2 y28_3 z28_v_group → va_P (dC, dI) vwCl (cX2 cy a (X2_distance v) z28_v_group ++ wX0 cy d b w) H → va_D A (cX2 cy a (X2_distance v) z28_v_group ++ wX0 cy d b w) → va_S A s.heap H locs → lv_has ls 6 [(0, .ref (a 0)), (1, .ref (d 0)), (2, .int y28_2), (3, .int y28_3)] → W p l e (headSpec wsX2_groupCount ({ frames := 3, cells := 0, slots := 0, locals := 64 } : Room)).room s m ([.ref (a 0), .ref (d 0)] : List Value).toArray below meth c H locs 0 0 (MQ below (q_X2_groupCount dC dI cy a d b v w Q A) ([.ref (a 0), .ref (d 0)] : List Value).toArray s 0 0 A) (F0 m 28 ls []) := by
          intro y28_2 y28_3 z28_v_group H locs ls h
          rw [← hB28] at h
          exact ih y28_2 y28_3 z28_v_group H locs ls h.1 (Nat.lt_of_lt_of_le h.2 (Nat.le_of_lt_succ hm))
        unfold wb_X2_groupCount_28 at hq
        refine lv_iload_n hx hb dX2_groupCount_28 rfl (lv_at hl 3 rfl) ?_
        refine lv_aload_n hx hb dX2_groupCount_29 rfl (lv_at hl 1 rfl) ?_
        refine va_get (D := (dC, dI)) (ci := 0) (v := .ref (d 5)) (C := RX0) (T := TX0) (N := 14) hx hb hts iK0 hown hK hP 3 rfl rfl 4 (by decide) lk0 (fun _ h9 => h9) rfl dX2_groupCount_30 ?_
        refine va_get (D := (dC, dI)) (ci := 3) (v := .int (X3_size (X0_tunnels w))) (C := RX3) (T := TX3) (N := 4) hx hb hts iK3 hown hK hP 8 rfl rfl 3 (by decide) lk1 (fun _ h9 => h9) rfl dX2_groupCount_33 ?_
        obtain ⟨hqA, hqB⟩ := hq
        refine lv_icmp_ge (tgt := 119) hx hb dX2_groupCount_36 (by decide) (fun c6 => ?_) (fun c6 => ?_)
        · have hq := hqA c6
          refine lv_iload_n hx hb dX2_groupCount_119 rfl (lv_at hl 2 rfl) ?_
          exact W.iret (v := y28_2) hx hb hr (fun t ht hW => ⟨⟨y28_2, z28_v_group, rfl, hq, (xAt_of hP hK hD ht hW)⟩, hS.F ht⟩) hS.2.2 dX2_groupCount_120
        · have hq := hqB c6
          refine lv_aload_n hx hb dX2_groupCount_39 rfl (lv_at hl 1 rfl) ?_
          refine va_get (D := (dC, dI)) (ci := 0) (v := .ref (d 5)) (C := RX0) (T := TX0) (N := 14) hx hb hts iK0 hown hK hP 3 rfl rfl 4 (by decide) lk0 (fun _ h9 => h9) rfl dX2_groupCount_40 ?_
          refine lv_iload_n hx hb dX2_groupCount_43 rfl (lv_at hl 3 rfl) ?_
          have hC : (([8, 9, 10] : List Nat).map (fun i => (cX2 cy a (X2_distance v) z28_v_group ++ wX0 cy d b w)[i]?)) = (wX3 cy (sh d 5) (X0_tunnels w)).map some := rfl
          have hPc := xsubP hP hC
          have hDc := xsubD hD (by decide) hC
          have hFc := va_free (wc := (wX3 cy (sh d 5) (X0_tunnels w))) hD hS hAe0 [8, 9, 10] hC
          refine va_calli (va_runV (As := [.int y28_3]) (rest := []) ⟨hx, hb, hml, hown, hts⟩ (c_X3_first l dC dI cy (sh d 5) _ (X0_tunnels w) y28_3 _ hq) (cwV 1 hts gX2_groupCount_X3_first rfl rfl rfl (by decide +kernel) ⟨Nat.le_of_ble_eq_true rfl, Nat.le_of_ble_eq_true rfl⟩) ⟨xPre_blind, va_recv hK hP (ci := 3) (q0 := 8) rfl rfl, xPre_of hPc hK hDc⟩ rfl rfl hl.1 rfl (lv_room (Nat.le_of_ble_eq_true rfl)) dX2_groupCount_44 ⟨Nat.le_of_ble_eq_true rfl, Nat.le_of_ble_eq_true rfl⟩) hS (fun q _ h => hFc q h) hFc (fun r44 u9 t H locs ht hvm hq hB hz1 hk1 hS => ?_)
          obtain ⟨hP1, -, hD1⟩ := hB
          rw [ht] at hP1
          have hP : va_P (dC, dI) vwCl (cX2 cy a (X2_distance v) z28_v_group ++ wX0 cy d b w) H := xj_keep hP hD [8, 9, 10] hC hP1 hk1
          refine lv_istore (lv' := [(4, .int r44), (0, .ref (a 0)), (1, .ref (d 0)), (2, .int y28_2), (3, .int y28_3)]) hx hb dX2_groupCount_47 hl (by decide) rfl (fun ls hl => ?_)
          refine lv_aload_n hx hb dX2_groupCount_49 rfl (lv_at hl 2 rfl) ?_
          refine va_get (D := (dC, dI)) (ci := 0) (v := .ref (d 5)) (C := RX0) (T := TX0) (N := 14) hx hb hts iK0 hown hK hP 3 rfl rfl 4 (by decide) lk0 (fun _ h9 => h9) rfl dX2_groupCount_50 ?_
          refine lv_iload_n hx hb dX2_groupCount_53 rfl (lv_at hl 4 rfl) ?_
          have hC : (([8, 9, 10] : List Nat).map (fun i => (cX2 cy a (X2_distance v) z28_v_group ++ wX0 cy d b w)[i]?)) = (wX3 cy (sh d 5) (X0_tunnels w)).map some := rfl
          have hPc := xsubP hP hC
          have hDc := xsubD hD (by decide) hC
          have hFc := va_free (wc := (wX3 cy (sh d 5) (X0_tunnels w))) hD hS hAe0 [8, 9, 10] hC
          refine va_calli (va_runV (As := [.int y28_3]) (rest := []) ⟨hx, hb, hml, hown, hts⟩ (c_X3_last l dC dI cy (sh d 5) _ (X0_tunnels w) y28_3 _ hq) (cwV 1 hts gX2_groupCount_X3_last rfl rfl rfl (by decide +kernel) ⟨Nat.le_of_ble_eq_true rfl, Nat.le_of_ble_eq_true rfl⟩) ⟨xPre_blind, va_recv hK hP (ci := 3) (q0 := 8) rfl rfl, xPre_of hPc hK hDc⟩ rfl rfl hl.1 rfl (lv_room (Nat.le_of_ble_eq_true rfl)) dX2_groupCount_54 ⟨Nat.le_of_ble_eq_true rfl, Nat.le_of_ble_eq_true rfl⟩) hS (fun q _ h => hFc q h) hFc (fun r54 u9 t H locs ht hvm hq hB hz1 hk1 hS => ?_)
          obtain ⟨hP1, -, hD1⟩ := hB
          rw [ht] at hP1
          have hP : va_P (dC, dI) vwCl (cX2 cy a (X2_distance v) z28_v_group ++ wX0 cy d b w) H := xj_keep hP hD [8, 9, 10] hC hP1 hk1
          refine lv_istore (lv' := [(5, .int r54), (4, .int r44), (0, .ref (a 0)), (1, .ref (d 0)), (2, .int y28_2), (3, .int y28_3)]) hx hb dX2_groupCount_57 hl (by decide) rfl (fun ls hl => ?_)
          refine lv_iload hx hb dX2_groupCount_59 (lv_at hl 1 rfl) ?_
          have hFc := xfree_none hS hAe0
          refine va_calli (va_runS (As := [.int r44]) (rest := []) ⟨hx, hb, hml, hown, hts⟩ (c_X2_isTuft l dC dI cy  _ r44 _ hq) (va_cwS 1 hts gX2_groupCount_X2_isTuft rfl rfl rfl (by decide +kernel) ⟨Nat.le_of_ble_eq_true rfl, Nat.le_of_ble_eq_true rfl⟩) ⟨xPre_blind, xPre_of xP_nil hK (xD_nil (A := A))⟩ rfl rfl hl.1 rfl (lv_room (Nat.le_of_ble_eq_true rfl)) dX2_groupCount_61 ⟨Nat.le_of_ble_eq_true rfl, Nat.le_of_ble_eq_true rfl⟩) hS (fun q _ h => hFc q h) hFc (fun r61 u9 t H locs ht hvm hq hB hz1 hk1 hS => ?_)
          have hP := xj_none hP hk1
          obtain ⟨hqA, hqB⟩ := hq
          refine lv_if_eq (tgt := 113) hx hb dX2_groupCount_64 (by decide) (fun c5 => ?_) (fun c5 => ?_)
          · have hq := hqA c5
            refine lv_iinc (v := (y28_3 + 1)) (lv' := [(3, .int (y28_3 + 1)), (5, .int r54), (4, .int r44), (0, .ref (a 0)), (1, .ref (d 0)), (2, .int y28_2)]) hx hb dX2_groupCount_113 hl (k := 5) rfl rfl (by decide) rfl (fun ls hl => ?_)
            refine lv_goto (tgt := 28) hx hb dX2_groupCount_116 (by decide) ?_
            exact bk28 y28_2 (y28_3 + 1) z28_v_group _ _ _ hq hP hD hS (lv_sub hl [3, 4, 5, 0] rfl)
          · have hq := hqB c5
            refine lv_iload hx hb dX2_groupCount_67 (lv_at hl 0 rfl) ?_
            have hFc := xfree_none hS hAe0
            refine va_calli (va_runS (As := [.int r54]) (rest := []) ⟨hx, hb, hml, hown, hts⟩ (c_X2_isTuft l dC dI cy  _ r54 _ hq) (va_cwS 1 hts gX2_groupCount_X2_isTuft rfl rfl rfl (by decide +kernel) ⟨Nat.le_of_ble_eq_true rfl, Nat.le_of_ble_eq_true rfl⟩) ⟨xPre_blind, xPre_of xP_nil hK (xD_nil (A := A))⟩ rfl rfl hl.1 rfl (lv_room (Nat.le_of_ble_eq_true rfl)) dX2_groupCount_69 ⟨Nat.le_of_ble_eq_true rfl, Nat.le_of_ble_eq_true rfl⟩) hS (fun q _ h => hFc q h) hFc (fun r69 u9 t H locs ht hvm hq hB hz1 hk1 hS => ?_)
            have hP := xj_none hP hk1
            obtain ⟨hqA, hqB⟩ := hq
            refine lv_if_eq (tgt := 113) hx hb dX2_groupCount_72 (by decide) (fun c4 => ?_) (fun c4 => ?_)
            · have hq := hqA c4
              refine lv_iinc (v := (y28_3 + 1)) (lv' := [(3, .int (y28_3 + 1)), (5, .int r54), (4, .int r44), (0, .ref (a 0)), (1, .ref (d 0)), (2, .int y28_2)]) hx hb dX2_groupCount_113 hl (k := 5) rfl rfl (by decide) rfl (fun ls hl => ?_)
              refine lv_goto (tgt := 28) hx hb dX2_groupCount_116 (by decide) ?_
              exact bk28 y28_2 (y28_3 + 1) z28_v_group _ _ _ hq hP hD hS (lv_sub hl [3, 4, 5, 0] rfl)
            · have hq := hqB c4
              refine lv_aload_n hx hb dX2_groupCount_75 rfl (lv_at hl 2 rfl) ?_
              refine va_get (D := (dC, dI)) (ci := 2) (v := .ref (a 2)) (C := RX2) (T := TX2) (N := 2) hx hb hts iK2 hown hK hP 0 rfl rfl 1 (by decide) lk2 (fun _ h9 => h9) rfl dX2_groupCount_76 ?_
              refine lv_iload hx hb dX2_groupCount_79 (lv_at hl 1 rfl) ?_
              obtain ⟨g1, hq⟩ := hq
              refine va_iald hx hb hK hP 2 0 rfl rfl g1 dX2_groupCount_81 ?_
              refine lv_aload_n hx hb dX2_groupCount_82 rfl (lv_at hl 2 rfl) ?_
              refine va_get (D := (dC, dI)) (ci := 2) (v := .ref (a 2)) (C := RX2) (T := TX2) (N := 2) hx hb hts iK2 hown hK hP 0 rfl rfl 1 (by decide) lk2 (fun _ h9 => h9) rfl dX2_groupCount_83 ?_
              refine lv_iload hx hb dX2_groupCount_86 (lv_at hl 0 rfl) ?_
              obtain ⟨g2, hq⟩ := hq
              refine va_iald hx hb hK hP 2 0 rfl rfl g2 dX2_groupCount_88 ?_
              obtain ⟨hqA, hqB⟩ := hq
              refine lv_icmp_eq (tgt := 113) hx hb dX2_groupCount_89 (by decide) (fun c3 => ?_) (fun c3 => ?_)
              · have hq := hqA c3
                refine lv_iinc (v := (y28_3 + 1)) (lv' := [(3, .int (y28_3 + 1)), (5, .int r54), (4, .int r44), (0, .ref (a 0)), (1, .ref (d 0)), (2, .int y28_2)]) hx hb dX2_groupCount_113 hl (k := 5) rfl rfl (by decide) rfl (fun ls hl => ?_)
                refine lv_goto (tgt := 28) hx hb dX2_groupCount_116 (by decide) ?_
                exact bk28 y28_2 (y28_3 + 1) z28_v_group _ _ _ hq hP hD hS (lv_sub hl [3, 4, 5, 0] rfl)
              · have hq := hqB c3
                refine lv_aload_n hx hb dX2_groupCount_92 rfl (lv_at hl 2 rfl) ?_
                refine lv_aload_n hx hb dX2_groupCount_93 rfl (lv_at hl 2 rfl) ?_
                refine va_get (D := (dC, dI)) (ci := 2) (v := .ref (a 2)) (C := RX2) (T := TX2) (N := 2) hx hb hts iK2 hown hK hP 0 rfl rfl 1 (by decide) lk2 (fun _ h9 => h9) rfl dX2_groupCount_94 ?_
                refine lv_iload hx hb dX2_groupCount_97 (lv_at hl 1 rfl) ?_
                refine va_iald hx hb hK hP 2 0 rfl rfl g1 dX2_groupCount_99 ?_
                refine lv_aload_n hx hb dX2_groupCount_100 rfl (lv_at hl 2 rfl) ?_
                refine va_get (D := (dC, dI)) (ci := 2) (v := .ref (a 2)) (C := RX2) (T := TX2) (N := 2) hx hb hts iK2 hown hK hP 0 rfl rfl 1 (by decide) lk2 (fun _ h9 => h9) rfl dX2_groupCount_101 ?_
                refine lv_iload hx hb dX2_groupCount_104 (lv_at hl 0 rfl) ?_
                refine va_iald hx hb hK hP 2 0 rfl rfl g2 dX2_groupCount_106 ?_
                have hC : (([0, 1, 2] : List Nat).map (fun i => (cX2 cy a (X2_distance v) z28_v_group ++ wX0 cy d b w)[i]?)) = (cX2 cy a (X2_distance v) z28_v_group).map some := rfl
                have hPc := xsubP hP hC
                have hDc := xsubD hD (by decide) hC
                have hFc := va_free (wc := (cX2 cy a (X2_distance v) z28_v_group)) hD hS hAe0 [0, 1, 2] hC
                refine va_callv (va_runV (As := [.int (z28_v_group r44.toNatClampNeg), .int (z28_v_group r54.toNatClampNeg)]) (rest := []) ⟨hx, hb, hml, hown, hts⟩ (c_X2_uniteGroups l dC dI cy a _ (X2_s1 v z28_v_group) (z28_v_group r44.toNatClampNeg) (z28_v_group r54.toNatClampNeg) _ hq) (cwV 2 hts gX2_groupCount_X2_uniteGroups rfl rfl rfl (by decide +kernel) ⟨Nat.le_of_ble_eq_true rfl, Nat.le_of_ble_eq_true rfl⟩) ⟨xPre_blind, va_recv hK hP (ci := 2) (q0 := 0) rfl rfl, xPre_of hPc hK hDc⟩ rfl rfl hl.1 rfl (lv_room (Nat.le_of_ble_eq_true rfl)) dX2_groupCount_107 ⟨Nat.le_of_ble_eq_true rfl, Nat.le_of_ble_eq_true rfl⟩) hS (fun q _ h => hFc q h) hFc (fun z107_v_group t H locs ht hvm hq hB hz1 hk1 hS => ?_)
                obtain ⟨hP1, -, hD1⟩ := hB
                rw [ht] at hP1
                obtain ⟨hP, hD⟩ := xj hP hD [0, 1, 2] (cX2 cy a (X2_distance v) z107_v_group) (ws' := (cX2 cy a (X2_distance v) z107_v_group ++ wX0 cy d b w)) hC rfl rfl hk1 hFc hP1
                refine lv_iinc (v := (y28_2 + (-1))) (lv' := [(2, .int (y28_2 + (-1))), (5, .int r54), (4, .int r44), (0, .ref (a 0)), (1, .ref (d 0)), (3, .int y28_3)]) hx hb dX2_groupCount_110 hl (k := 4) rfl rfl (by decide) rfl (fun ls hl => ?_)
                refine lv_iinc (v := (y28_3 + 1)) (lv' := [(3, .int (y28_3 + 1)), (2, .int (y28_2 + (-1))), (5, .int r54), (4, .int r44), (0, .ref (a 0)), (1, .ref (d 0))]) hx hb dX2_groupCount_113 hl (k := 5) rfl rfl (by decide) rfl (fun ls hl => ?_)
                refine lv_goto (tgt := 28) hx hb dX2_groupCount_116 (by decide) ?_
                exact bk28 (y28_2 + (-1)) (y28_3 + 1) z107_v_group _ _ _ hq hP hD hS (lv_sub hl [4, 5, 1, 0] rfl)
    exact key _ y28_2 y28_3 z28_v_group H locs ls h0 (Nat.lt_succ_self _) hP hD hS hl
  have J2 : ∀  (y2_2 : Int32) (z2_v_group : (Nat → Int32)) (H : Heap) (locs : List Loc) (ls : Array Slot), wp_X2_groupCount_2 v w  y2_2 z2_v_group Q → va_P (dC, dI) vwCl (cX2 cy a (X2_distance v) z2_v_group ++ wX0 cy d b w) H → va_D A (cX2 cy a (X2_distance v) z2_v_group ++ wX0 cy d b w) → va_S A s.heap H locs → lv_has ls 6 [(0, .ref (a 0)), (1, .ref (d 0)), (2, .int y2_2)] → W p l e (headSpec wsX2_groupCount ({ frames := 3, cells := 0, slots := 0, locals := 64 } : Room)).room s m ([.ref (a 0), .ref (d 0)] : List Value).toArray below meth c H locs 0 0 (MQ below (q_X2_groupCount dC dI cy a d b v w Q A) ([.ref (a 0), .ref (d 0)] : List Value).toArray s 0 0 A) (F0 m 2 ls []) := by
    intro  y2_2 z2_v_group H locs ls hq hP hD hS hl
    obtain ⟨I2, μ2, h0, hs2⟩ := hq
    have key : ∀ (n : Nat) (y2_2 : Int32) (z2_v_group : (Nat → Int32)) (H : Heap) (locs : List Loc) (ls : Array Slot), I2 y2_2 z2_v_group → μ2 y2_2 z2_v_group < n → va_P (dC, dI) vwCl (cX2 cy a (X2_distance v) z2_v_group ++ wX0 cy d b w) H → va_D A (cX2 cy a (X2_distance v) z2_v_group ++ wX0 cy d b w) → va_S A s.heap H locs → lv_has ls 6 [(0, .ref (a 0)), (1, .ref (d 0)), (2, .int y2_2)] → W p l e (headSpec wsX2_groupCount ({ frames := 3, cells := 0, slots := 0, locals := 64 } : Room)).room s m ([.ref (a 0), .ref (d 0)] : List Value).toArray below meth c H locs 0 0 (MQ below (q_X2_groupCount dC dI cy a d b v w Q A) ([.ref (a 0), .ref (d 0)] : List Value).toArray s 0 0 A) (F0 m 2 ls []) := by
      intro n
      induction n with
      | zero => intro y2_2 z2_v_group H locs ls _ hm; exact absurd hm (Nat.not_lt_zero _)
      | succ n ih =>
        intro y2_2 z2_v_group H locs ls hI hm hP hD hS hl
        have hq := hs2 y2_2 z2_v_group hI
        generalize hB2 : (fun (t0 : Int32) (t1 : (Nat → Int32)) => I2 t0 t1 ∧ μ2 t0 t1 < μ2 y2_2 z2_v_group) = B2 at hq
        have bk2 : ∀ (y2_2 : Int32) (z2_v_group : (Nat → Int32)) (H : Heap) (locs : List Loc) (ls : Array Slot), B2 y2_2 z2_v_group → va_P (dC, dI) vwCl (cX2 cy a (X2_distance v) z2_v_group ++ wX0 cy d b w) H → va_D A (cX2 cy a (X2_distance v) z2_v_group ++ wX0 cy d b w) → va_S A s.heap H locs → lv_has ls 6 [(0, .ref (a 0)), (1, .ref (d 0)), (2, .int y2_2)] → W p l e (headSpec wsX2_groupCount ({ frames := 3, cells := 0, slots := 0, locals := 64 } : Room)).room s m ([.ref (a 0), .ref (d 0)] : List Value).toArray below meth c H locs 0 0 (MQ below (q_X2_groupCount dC dI cy a d b v w Q A) ([.ref (a 0), .ref (d 0)] : List Value).toArray s 0 0 A) (F0 m 2 ls []) := by
          intro y2_2 z2_v_group H locs ls h
          rw [← hB2] at h
          exact ih y2_2 z2_v_group H locs ls h.1 (Nat.lt_of_lt_of_le h.2 (Nat.le_of_lt_succ hm))
        unfold wb_X2_groupCount_2 at hq
        refine lv_iload_n hx hb dX2_groupCount_2 rfl (lv_at hl 2 rfl) ?_
        refine lv_bipush (v := 64) hx hb dX2_groupCount_3 (by decide) ?_
        obtain ⟨hqA, hqB⟩ := hq
        refine lv_icmp_ge (tgt := 21) hx hb dX2_groupCount_5 (by decide) (fun c8 => ?_) (fun c8 => ?_)
        · have hq := hqA c8
          refine lv_aload_n hx hb dX2_groupCount_21 rfl (lv_at hl 1 rfl) ?_
          have hC : (([3, 4, 5, 6, 7, 8, 9, 10, 11, 12, 13, 14, 15, 16, 17, 18, 19, 20, 21, 22, 23] : List Nat).map (fun i => (cX2 cy a (X2_distance v) z2_v_group ++ wX0 cy d b w)[i]?)) = (wX0 cy d b w).map some := (xC_one (n := 3) (m := 21) rfl rfl rfl)
          have hPc := xsubP hP hC
          have hDc := xsubD hD (by decide) hC
          have hFc := va_free (wc := (wX0 cy d b w)) hD hS hAe0 [3, 4, 5, 6, 7, 8, 9, 10, 11, 12, 13, 14, 15, 16, 17, 18, 19, 20, 21, 22, 23] hC
          refine va_calli (va_runV (As := []) (rest := []) ⟨hx, hb, hml, hown, hts⟩ (c_X0_moundCount l dC dI cy d b _ w _ hq) (cwV 0 hts gX2_groupCount_X0_moundCount rfl rfl rfl (by decide +kernel) ⟨Nat.le_of_ble_eq_true rfl, Nat.le_of_ble_eq_true rfl⟩) ⟨xPre_blind, va_recv hK hP (ci := 0) (q0 := 3) rfl rfl, xPre_of hPc hK hDc⟩ rfl rfl hl.1 rfl (lv_room (Nat.le_of_ble_eq_true rfl)) dX2_groupCount_22 ⟨Nat.le_of_ble_eq_true rfl, Nat.le_of_ble_eq_true rfl⟩) hS (fun q _ h => hFc q h) hFc (fun r22 u9 t H locs ht hvm hq hB hz1 hk1 hS => ?_)
          obtain ⟨hP1, -, hD1⟩ := hB
          rw [ht] at hP1
          have hP : va_P (dC, dI) vwCl (cX2 cy a (X2_distance v) z2_v_group ++ wX0 cy d b w) H := xj_keep hP hD [3, 4, 5, 6, 7, 8, 9, 10, 11, 12, 13, 14, 15, 16, 17, 18, 19, 20, 21, 22, 23] hC hP1 hk1
          refine lv_istore_n (lv' := [(2, .int r22), (0, .ref (a 0)), (1, .ref (d 0))]) hx hb dX2_groupCount_25 rfl hl (by decide) rfl (fun ls hl => ?_)
          refine lv_iconst (v := 0) hx hb dX2_groupCount_26 (by decide) ?_
          refine lv_istore_n (lv' := [(3, .int 0), (2, .int r22), (0, .ref (a 0)), (1, .ref (d 0))]) hx hb dX2_groupCount_27 rfl hl (by decide) rfl (fun ls hl => ?_)
          exact J28  r22 0 z2_v_group _ _ _ hq hP hD hS (lv_sub hl [2, 3, 1, 0] rfl)
        · have hq := hqB c8
          refine lv_aload_n hx hb dX2_groupCount_8 rfl (lv_at hl 0 rfl) ?_
          refine va_get (D := (dC, dI)) (ci := 2) (v := .ref (a 2)) (C := RX2) (T := TX2) (N := 2) hx hb hts iK2 hown hK hP 0 rfl rfl 1 (by decide) lk2 (fun _ h9 => h9) rfl dX2_groupCount_9 ?_
          refine lv_iload_n hx hb dX2_groupCount_12 rfl (lv_at hl 2 rfl) ?_
          refine lv_iload_n hx hb dX2_groupCount_13 rfl (lv_at hl 2 rfl) ?_
          obtain ⟨g7, hq⟩ := hq
          refine va_iast hx hb hK hP hD hS 2 0 rfl rfl g7 dX2_groupCount_14 (fun H locs hP hD hS => ?_)
          have hP : va_P (dC, dI) vwCl (cX2 cy a (X2_distance v) (upd z2_v_group y2_2.toNatClampNeg y2_2) ++ wX0 cy d b w) H := hP
          have hD : va_D A (cX2 cy a (X2_distance v) (upd z2_v_group y2_2.toNatClampNeg y2_2) ++ wX0 cy d b w) := hD
          refine lv_iinc (v := (y2_2 + 1)) (lv' := [(2, .int (y2_2 + 1)), (0, .ref (a 0)), (1, .ref (d 0))]) hx hb dX2_groupCount_15 hl (k := 2) rfl rfl (by decide) rfl (fun ls hl => ?_)
          refine lv_goto (tgt := 2) hx hb dX2_groupCount_18 (by decide) ?_
          exact bk2 (y2_2 + 1) (upd z2_v_group y2_2.toNatClampNeg y2_2) _ _ _ hq hP hD hS (lv_sub hl [1, 2, 0] rfl)
    exact key _ y2_2 z2_v_group H locs ls h0 (Nat.lt_succ_self _) hP hD hS hl
  refine lv_iconst (v := 0) hx hb dX2_groupCount_0 (by decide) ?_
  refine lv_istore_n (lv' := [(2, .int 0), (0, .ref (a 0)), (1, .ref (d 0))]) hx hb dX2_groupCount_1 rfl hl (by decide) rfl (fun ls hl => ?_)
  exact J2  0 (X2_group v) _ _ _ hq hP hD hS (lv_sub hl [1, 2, 0] rfl)
