def wp_X0_rakeOff_114 (v : V_X0) (u : V_X3) (x1 : Int32) (y114_2 : Int32) (z114_u_cells : (Nat → Int32)) (z114_u_ends : (Nat → Int32)) (z114_u_size : Int32) (z114_u_used : Int32) (z114_v_mounds : (Nat → Int32)) (z114_v_tunnels : V_X3) (Q : Int32 → (Nat → Int32) → (Nat → Int32) → Int32 → Int32 → Int32 → (Nat → Int32) → V_X3 → Prop) : Prop :=
  wp_X0_dropTunnels (X0_s4 (X0_s0 v z114_v_mounds) z114_v_tunnels) (z114_u_cells, z114_u_ends, z114_u_used, z114_u_size) x1 (fun z116_u_cells z116_u_ends z116_u_size z116_u_used z116_v_fallen z116_v_tunnels =>
  Q (y114_2 - (X3_size z116_v_tunnels)) z116_u_cells z116_u_ends z116_u_size z116_u_used z116_v_fallen z114_v_mounds z116_v_tunnels)
def wp_X0_rakeOff_74 (v : V_X0) (u : V_X3) (x1 : Int32) (y74_2 : Int32) (y74_3 : Int32) (y74_4 : Int32) (z74_v_mounds : (Nat → Int32)) (k74_0 : Int32) (Q : Int32 → (Nat → Int32) → (Nat → Int32) → Int32 → Int32 → Int32 → (Nat → Int32) → V_X3 → Prop) : Prop :=
  ((k74_0 = 0 → wp_X0_rakeOff_114 v u x1 y74_2 (X3_cells u) (X3_ends u) (X3_size u) (X3_used u) z74_v_mounds (X0_tunnels v)  Q) ∧
  (¬ k74_0 = 0 → wp_X3_otherEnd (X0_tunnels v) y74_3 x1 (fun r87 =>
  wp_X3_otherEnd (X0_tunnels v) y74_4 x1 (fun r97 =>
  ((r87 = r97 → wp_X0_rakeOff_114 v u x1 y74_2 (X3_cells u) (X3_ends u) (X3_size u) (X3_used u) z74_v_mounds (X0_tunnels v)  Q) ∧
  (¬ r87 = r97 → wp_X0_joinTunnels (X0_s0 v z74_v_mounds) u y74_3 y74_4 x1 (fun z108_u_cells z108_u_ends z108_u_size z108_u_used z108_v_tunnels =>
  Q (y74_2 - (X3_size z108_v_tunnels)) z108_u_cells z108_u_ends z108_u_size z108_u_used (X0_fallen v) z74_v_mounds z108_v_tunnels)))))))
def wp_X0_rakeOff_73 (v : V_X0) (u : V_X3) (x1 : Int32) (y73_2 : Int32) (y73_3 : Int32) (y73_4 : Int32) (z73_v_mounds : (Nat → Int32)) (Q : Int32 → (Nat → Int32) → (Nat → Int32) → Int32 → Int32 → Int32 → (Nat → Int32) → V_X3 → Prop) : Prop :=
  wp_X0_rakeOff_74 v u x1 y73_2 y73_3 y73_4 z73_v_mounds 0  Q
def wp_X0_rakeOff_45 (v : V_X0) (u : V_X3) (x1 : Int32) (y45_2 : Int32) (y45_3 : Int32) (z45_v_mounds : (Nat → Int32)) (k45_0 : Int32) (Q : Int32 → (Nat → Int32) → (Nat → Int32) → Int32 → Int32 → Int32 → (Nat → Int32) → V_X3 → Prop) : Prop :=
  ((k45_0 = (-1) → wp_X0_rakeOff_73 v u x1 y45_2 y45_3 k45_0 z45_v_mounds  Q) ∧
  (¬ k45_0 = (-1) → wp_X3_endingAt (X0_tunnels v) x1 (k45_0 + 1) (fun r62 =>
  ((r62 = (-1) → wp_X0_rakeOff_74 v u x1 y45_2 y45_3 k45_0 z45_v_mounds 1  Q) ∧
  (¬ r62 = (-1) → wp_X0_rakeOff_73 v u x1 y45_2 y45_3 k45_0 z45_v_mounds  Q)))))
def wp_X0_rakeOff (v : V_X0) (u : V_X3) (x1 : Int32) (Q : Int32 → (Nat → Int32) → (Nat → Int32) → Int32 → Int32 → Int32 → (Nat → Int32) → V_X3 → Prop) : Prop :=
  vp_in x1 64 ∧ wp_X3_endingAt (X0_tunnels v) x1 0 (fun r21 =>
  ((r21 = (-1) → wp_X0_rakeOff_45 v u x1 (X3_size (X0_tunnels v)) r21 (upd (X0_mounds v) x1.toNatClampNeg 0) (-1)  Q) ∧
  (¬ r21 = (-1) → wp_X3_endingAt (X0_tunnels v) x1 (r21 + 1) (fun r42 =>
  wp_X0_rakeOff_45 v u x1 (X3_size (X0_tunnels v)) r21 (upd (X0_mounds v) x1.toNatClampNeg 0) r42  Q))))
def q_X0_rakeOff (dC : Nat → ClassId) (dI : Nat → Nat → Nat) (cy : Nat → ClassId) (a b : Nat → Nat) (v : V_X0) (u : V_X3) (x1 : Int32) (Q : Int32 → (Nat → Int32) → (Nat → Int32) → Int32 → Int32 → Int32 → (Nat → Int32) → V_X3 → Prop) (A : Nat → Prop) : Array Value → State → Outcome → State → Prop := va_Qi (fun (r : Int32) (u : (Nat → Int32) × (Nat → Int32) × Int32 × Int32 × Int32 × (Nat → Int32) × V_X3) => Q r u.1 u.2.1 u.2.2.1 u.2.2.2.1 u.2.2.2.2.1 u.2.2.2.2.2.1 u.2.2.2.2.2.2) (fun (u : (Nat → Int32) × (Nat → Int32) × Int32 × Int32 × Int32 × (Nat → Int32) × V_X3) t => xAt dC dI cy A (cX0 cy a b u.2.2.2.2.2.1 (X0_opened v) (X0_roots v) (X0_traps v) u.2.2.2.2.2.2 (X0_molesR v) (X0_moles v) (X0_moleCount v) (X0_fullAir v) (X0_beats v) (X0_caught v) (X0_gnawed v) (X0_risen v) u.2.2.2.2.1 ++ cX3 cy b u.1 u.2.1 u.2.2.2.1 u.2.2.1) t) A
set_option maxHeartbeats 4000000 in
set_option maxRecDepth 100000 in
theorem c_X0_rakeOff (l : Launch) (dC : Nat → ClassId) (dI : Nat → Nat → Nat) (cy : Nat → ClassId) (a b : Nat → Nat) (sz : Nat) (v : V_X0) (u : V_X3) (x1 : Int32) (Q : Int32 → (Nat → Int32) → (Nat → Int32) → Int32 → Int32 → Int32 → (Nat → Int32) → V_X3 → Prop) (hq : wp_X0_rakeOff v u x1 Q) : Met l yX0_rakeOff wsX0_rakeOff ({ frames := 6, cells := 0, slots := 0, locals := 136 } : Room) (va_Pc [.ref (a 0), .int x1] (xPre dC dI cy (wX0 cy a b v ++ wX3 cy b u) sz)) (q_X0_rakeOff dC dI cy a b v u x1 Q (va_A (wX0 cy a b v ++ wX3 cy b u) sz)) 0 0 (va_A (wX0 cy a b v ++ wX3 cy b u) sz) := by
  refine Met.ofW (cc := cX0_rakeOff) (maxL := 6) (ret := (some .int)) (by decide) rfl ?_
  intro p e s m args below meth c s₁ B hml hv
  obtain ⟨rfl, hsz, hP, hK, hD0⟩ := hv
  have hx := B.exec
  have hb := B.bytes
  have hr := B.returns
  have hts := atoms_spec (ws := wsX0_rakeOff) B.pre
  have hown : s.vm.findClass RX0 = some m.cls := findClass_of_methodNamed B.named
  have hlocks := B.notSynchronized
  subst hsz
  have hD := hD0.self (sz := s.heap.size)
  generalize hAe : va_A (wX0 cy a b v ++ wX3 cy b u) s.heap.size = A at hD ⊢
  have hAe0 : ∀ q : Nat, s.heap.size ≤ q → A q := fun q h => by rw [← hAe]; exact Or.inr h
  have hS : va_S A s.heap s.heap [] := va_S.rf
  have hl := lv_entry ([.ref (a 0), .int x1]) (n := 6) (Nat.le_of_ble_eq_true rfl)
  rw [lg_entry_eq]
  generalize (lg_sl ([.ref (a 0), .int x1]) ++ List.replicate (6 - (lg_sl ([.ref (a 0), .int x1])).length) Slot.unset).toArray = ls at hl ⊢
  have hl : lv_has ls 6 [(0, .ref (a 0)), (1, .int x1)] := hl
  have lk0 := hts (Cond.fieldLink RX0 28 "MolesLawn$Lawn" "tunnels" "LMolesLawn$Rows;") (List.mem_cons_of_mem _ (List.mem_append_left _ (List.mem_append_left _ (List.mem_append_left _ (List.mem_of_getElem? (i := 0) rfl)))))
  have lk1 := hts (Cond.fieldLink RX0 123 "MolesLawn$Rows" "size" "I") (List.mem_cons_of_mem _ (List.mem_append_left _ (List.mem_append_left _ (List.mem_append_left _ (List.mem_of_getElem? (i := 1) rfl)))))
  have lk2 := hts (Cond.fieldLink RX0 9 "MolesLawn$Lawn" "mounds" "[Z") (List.mem_cons_of_mem _ (List.mem_append_left _ (List.mem_append_left _ (List.mem_append_left _ (List.mem_of_getElem? (i := 2) rfl)))))
  have iK0 : ∀ w ∈ wsX00, w ∈ wsX0_rakeOff := fun _ h => (List.mem_cons_of_mem _ (List.mem_append_left _ (List.mem_append_right _ h)))
  have iK3 : ∀ w ∈ wsX30, w ∈ wsX0_rakeOff := fun _ h => (List.mem_cons_of_mem _ (List.mem_append_right _ h))
  unfold wp_X0_rakeOff at hq
  have J114 : ∀ (y114_2 : Int32) (z114_u_cells : (Nat → Int32)) (z114_u_ends : (Nat → Int32)) (z114_u_size : Int32) (z114_u_used : Int32) (z114_v_mounds : (Nat → Int32)) (z114_v_tunnels : V_X3) (H : Heap) (locs : List Loc) (ls : Array Slot), wp_X0_rakeOff_114 v u x1 y114_2 z114_u_cells z114_u_ends z114_u_size z114_u_used z114_v_mounds z114_v_tunnels Q → va_P (dC, dI) vwCl (cX0 cy a b z114_v_mounds (X0_opened v) (X0_roots v) (X0_traps v) z114_v_tunnels (X0_molesR v) (X0_moles v) (X0_moleCount v) (X0_fullAir v) (X0_beats v) (X0_caught v) (X0_gnawed v) (X0_risen v) (X0_fallen v) ++ cX3 cy b z114_u_cells z114_u_ends z114_u_used z114_u_size) H → va_D A (cX0 cy a b z114_v_mounds (X0_opened v) (X0_roots v) (X0_traps v) z114_v_tunnels (X0_molesR v) (X0_moles v) (X0_moleCount v) (X0_fullAir v) (X0_beats v) (X0_caught v) (X0_gnawed v) (X0_risen v) (X0_fallen v) ++ cX3 cy b z114_u_cells z114_u_ends z114_u_used z114_u_size) → va_S A s.heap H locs → lv_has ls 6 [(0, .ref (a 0)), (1, .int x1), (2, .int y114_2)] → W p l e (headSpec wsX0_rakeOff ({ frames := 6, cells := 0, slots := 0, locals := 136 } : Room)).room s m ([.ref (a 0), .int x1] : List Value).toArray below meth c H locs 0 0 (MQ below (q_X0_rakeOff dC dI cy a b v u x1 Q A) ([.ref (a 0), .int x1] : List Value).toArray s 0 0 A) (F0 m 114 ls []) := by
    intro y114_2 z114_u_cells z114_u_ends z114_u_size z114_u_used z114_v_mounds z114_v_tunnels H locs ls hq hP hD hS hl
    unfold wp_X0_rakeOff_114 at hq
    refine lv_aload_n hx hb dX0_rakeOff_114 rfl (lv_at hl 0 rfl) ?_
    refine lv_iload_n hx hb dX0_rakeOff_115 rfl (lv_at hl 1 rfl) ?_
    have hFc := xfree_same hS hAe0 (ws := (cX0 cy a b z114_v_mounds (X0_opened v) (X0_roots v) (X0_traps v) z114_v_tunnels (X0_molesR v) (X0_moles v) (X0_moleCount v) (X0_fullAir v) (X0_beats v) (X0_caught v) (X0_gnawed v) (X0_risen v) (X0_fallen v) ++ cX3 cy b z114_u_cells z114_u_ends z114_u_used z114_u_size)) hD
    refine va_callv (va_runV (As := [.int x1]) (rest := []) ⟨hx, hb, hml, hown, hts⟩ (c_X0_dropTunnels l dC dI cy a b _ (X0_s4 (X0_s0 v z114_v_mounds) z114_v_tunnels) (z114_u_cells, z114_u_ends, z114_u_used, z114_u_size) x1 _ hq) (cwV 1 hts gX0_rakeOff_X0_dropTunnels rfl rfl rfl (by decide +kernel) ⟨Nat.le_of_ble_eq_true rfl, Nat.le_of_ble_eq_true rfl⟩) ⟨xPre_blind, va_recv hK hP (ci := 0) (q0 := 0) rfl rfl, xPre_of hP hK hD⟩ rfl rfl hl.1 rfl (lv_room (Nat.le_of_ble_eq_true rfl)) dX0_rakeOff_116 ⟨Nat.le_of_ble_eq_true rfl, Nat.le_of_ble_eq_true rfl⟩) hS (fun q _ h => hFc q h) hFc (fun u9 t H locs ht hvm hq hB hz1 hk1 hS => ?_)
    obtain ⟨z116_u_cells, z116_u_ends, z116_u_size, z116_u_used, z116_v_fallen, z116_v_tunnels⟩ := u9
    obtain ⟨hP1, -, hD1⟩ := hB
    rw [ht] at hP1
    have hP : va_P (dC, dI) vwCl (cX0 cy a b z114_v_mounds (X0_opened v) (X0_roots v) (X0_traps v) z116_v_tunnels (X0_molesR v) (X0_moles v) (X0_moleCount v) (X0_fullAir v) (X0_beats v) (X0_caught v) (X0_gnawed v) (X0_risen v) z116_v_fallen ++ cX3 cy b z116_u_cells z116_u_ends z116_u_used z116_u_size) H := hP1
    have hD : va_D A (cX0 cy a b z114_v_mounds (X0_opened v) (X0_roots v) (X0_traps v) z116_v_tunnels (X0_molesR v) (X0_moles v) (X0_moleCount v) (X0_fullAir v) (X0_beats v) (X0_caught v) (X0_gnawed v) (X0_risen v) z116_v_fallen ++ cX3 cy b z116_u_cells z116_u_ends z116_u_used z116_u_size) := hD1.weaken (fun _ q _ h => hFc q.1 h)
    refine lv_iload_n hx hb dX0_rakeOff_119 rfl (lv_at hl 2 rfl) ?_
    refine lv_aload_n hx hb dX0_rakeOff_120 rfl (lv_at hl 0 rfl) ?_
    refine va_get (D := (dC, dI)) (ci := 0) (v := .ref (a 5)) (C := RX0) (T := TX0) (N := 14) hx hb hts iK0 hown hK hP 0 rfl rfl 4 (by decide) lk0 (fun _ h9 => h9) rfl dX0_rakeOff_121 ?_
    refine va_get (D := (dC, dI)) (ci := 3) (v := .int (X3_size z116_v_tunnels)) (C := RX3) (T := TX3) (N := 4) hx hb hts iK3 hown hK hP 5 rfl rfl 3 (by decide) lk1 (fun _ h9 => h9) rfl dX0_rakeOff_124 ?_
    refine lv_isub hx hb dX0_rakeOff_127 ?_
    exact W.iret (v := (y114_2 - (X3_size z116_v_tunnels))) hx hb hr (fun t ht hW => ⟨⟨(y114_2 - (X3_size z116_v_tunnels)), (z116_u_cells, z116_u_ends, z116_u_size, z116_u_used, z116_v_fallen, z114_v_mounds, z116_v_tunnels), rfl, hq, (xAt_of hP hK hD ht hW)⟩, hS.F ht⟩) hS.2.2 dX0_rakeOff_128
  have J74 : ∀ (y74_2 : Int32) (y74_3 : Int32) (y74_4 : Int32) (z74_v_mounds : (Nat → Int32)) (k74_0 : Int32) (H : Heap) (locs : List Loc) (ls : Array Slot), wp_X0_rakeOff_74 v u x1 y74_2 y74_3 y74_4 z74_v_mounds k74_0 Q → va_P (dC, dI) vwCl (cX0 cy a b z74_v_mounds (X0_opened v) (X0_roots v) (X0_traps v) (X0_tunnels v) (X0_molesR v) (X0_moles v) (X0_moleCount v) (X0_fullAir v) (X0_beats v) (X0_caught v) (X0_gnawed v) (X0_risen v) (X0_fallen v) ++ wX3 cy b u) H → va_D A (cX0 cy a b z74_v_mounds (X0_opened v) (X0_roots v) (X0_traps v) (X0_tunnels v) (X0_molesR v) (X0_moles v) (X0_moleCount v) (X0_fullAir v) (X0_beats v) (X0_caught v) (X0_gnawed v) (X0_risen v) (X0_fallen v) ++ wX3 cy b u) → va_S A s.heap H locs → lv_has ls 6 [(0, .ref (a 0)), (1, .int x1), (2, .int y74_2), (3, .int y74_3), (4, .int y74_4)] → W p l e (headSpec wsX0_rakeOff ({ frames := 6, cells := 0, slots := 0, locals := 136 } : Room)).room s m ([.ref (a 0), .int x1] : List Value).toArray below meth c H locs 0 0 (MQ below (q_X0_rakeOff dC dI cy a b v u x1 Q A) ([.ref (a 0), .int x1] : List Value).toArray s 0 0 A) (F0 m 74 ls [.int k74_0]) := by
    intro y74_2 y74_3 y74_4 z74_v_mounds k74_0 H locs ls hq hP hD hS hl
    unfold wp_X0_rakeOff_74 at hq
    refine lv_istore (lv' := [(5, .int k74_0), (0, .ref (a 0)), (1, .int x1), (2, .int y74_2), (3, .int y74_3), (4, .int y74_4)]) hx hb dX0_rakeOff_74 hl (by decide) rfl (fun ls hl => ?_)
    refine lv_iload hx hb dX0_rakeOff_76 (lv_at hl 0 rfl) ?_
    obtain ⟨hqA, hqB⟩ := hq
    refine lv_if_eq (tgt := 114) hx hb dX0_rakeOff_78 (by decide) (fun c2 => ?_) (fun c2 => ?_)
    · have hq := hqA c2
      exact J114 y74_2 (X3_cells u) (X3_ends u) (X3_size u) (X3_used u) z74_v_mounds (X0_tunnels v)  _ _ _ hq hP hD hS (lv_sub hl [1, 2, 3] rfl)
    · have hq := hqB c2
      refine lv_aload_n hx hb dX0_rakeOff_81 rfl (lv_at hl 1 rfl) ?_
      refine va_get (D := (dC, dI)) (ci := 0) (v := .ref (a 5)) (C := RX0) (T := TX0) (N := 14) hx hb hts iK0 hown hK hP 0 rfl rfl 4 (by decide) lk0 (fun _ h9 => h9) rfl dX0_rakeOff_82 ?_
      refine lv_iload_n hx hb dX0_rakeOff_85 rfl (lv_at hl 4 rfl) ?_
      refine lv_iload_n hx hb dX0_rakeOff_86 rfl (lv_at hl 2 rfl) ?_
      have hC : (([5, 6, 7] : List Nat).map (fun i => (cX0 cy a b z74_v_mounds (X0_opened v) (X0_roots v) (X0_traps v) (X0_tunnels v) (X0_molesR v) (X0_moles v) (X0_moleCount v) (X0_fullAir v) (X0_beats v) (X0_caught v) (X0_gnawed v) (X0_risen v) (X0_fallen v) ++ wX3 cy b u)[i]?)) = (wX3 cy (sh a 5) (X0_tunnels v)).map some := rfl
      have hPc := xsubP hP hC
      have hDc := xsubD hD (by decide) hC
      have hFc := va_free (wc := (wX3 cy (sh a 5) (X0_tunnels v))) hD hS hAe0 [5, 6, 7] hC
      refine va_calli (va_runV (As := [.int y74_3, .int x1]) (rest := []) ⟨hx, hb, hml, hown, hts⟩ (c_X3_otherEnd l dC dI cy (sh a 5) _ (X0_tunnels v) y74_3 x1 _ hq) (cwV 2 hts gX0_rakeOff_X3_otherEnd rfl rfl rfl (by decide +kernel) ⟨Nat.le_of_ble_eq_true rfl, Nat.le_of_ble_eq_true rfl⟩) ⟨xPre_blind, va_recv hK hP (ci := 3) (q0 := 5) rfl rfl, xPre_of hPc hK hDc⟩ rfl rfl hl.1 rfl (lv_room (Nat.le_of_ble_eq_true rfl)) dX0_rakeOff_87 ⟨Nat.le_of_ble_eq_true rfl, Nat.le_of_ble_eq_true rfl⟩) hS (fun q _ h => hFc q h) hFc (fun r87 u9 t H locs ht hvm hq hB hz1 hk1 hS => ?_)
      obtain ⟨hP1, -, hD1⟩ := hB
      rw [ht] at hP1
      have hP : va_P (dC, dI) vwCl (cX0 cy a b z74_v_mounds (X0_opened v) (X0_roots v) (X0_traps v) (X0_tunnels v) (X0_molesR v) (X0_moles v) (X0_moleCount v) (X0_fullAir v) (X0_beats v) (X0_caught v) (X0_gnawed v) (X0_risen v) (X0_fallen v) ++ wX3 cy b u) H := xj_keep hP hD [5, 6, 7] hC hP1 hk1
      refine lv_aload_n hx hb dX0_rakeOff_90 rfl (lv_at hl 1 rfl) ?_
      refine va_get (D := (dC, dI)) (ci := 0) (v := .ref (a 5)) (C := RX0) (T := TX0) (N := 14) hx hb hts iK0 hown hK hP 0 rfl rfl 4 (by decide) lk0 (fun _ h9 => h9) rfl dX0_rakeOff_91 ?_
      refine lv_iload hx hb dX0_rakeOff_94 (lv_at hl 5 rfl) ?_
      refine lv_iload_n hx hb dX0_rakeOff_96 rfl (lv_at hl 2 rfl) ?_
      have hC : (([5, 6, 7] : List Nat).map (fun i => (cX0 cy a b z74_v_mounds (X0_opened v) (X0_roots v) (X0_traps v) (X0_tunnels v) (X0_molesR v) (X0_moles v) (X0_moleCount v) (X0_fullAir v) (X0_beats v) (X0_caught v) (X0_gnawed v) (X0_risen v) (X0_fallen v) ++ wX3 cy b u)[i]?)) = (wX3 cy (sh a 5) (X0_tunnels v)).map some := rfl
      have hPc := xsubP hP hC
      have hDc := xsubD hD (by decide) hC
      have hFc := va_free (wc := (wX3 cy (sh a 5) (X0_tunnels v))) hD hS hAe0 [5, 6, 7] hC
      refine va_calli (va_runV (As := [.int y74_4, .int x1]) (rest := [.int r87]) ⟨hx, hb, hml, hown, hts⟩ (c_X3_otherEnd l dC dI cy (sh a 5) _ (X0_tunnels v) y74_4 x1 _ hq) (cwV 2 hts gX0_rakeOff_X3_otherEnd rfl rfl rfl (by decide +kernel) ⟨Nat.le_of_ble_eq_true rfl, Nat.le_of_ble_eq_true rfl⟩) ⟨xPre_blind, va_recv hK hP (ci := 3) (q0 := 5) rfl rfl, xPre_of hPc hK hDc⟩ rfl rfl hl.1 rfl (lv_room (Nat.le_of_ble_eq_true rfl)) dX0_rakeOff_97 ⟨Nat.le_of_ble_eq_true rfl, Nat.le_of_ble_eq_true rfl⟩) hS (fun q _ h => hFc q h) hFc (fun r97 u9 t H locs ht hvm hq hB hz1 hk1 hS => ?_)
      obtain ⟨hP1, -, hD1⟩ := hB
      rw [ht] at hP1
      have hP : va_P (dC, dI) vwCl (cX0 cy a b z74_v_mounds (X0_opened v) (X0_roots v) (X0_traps v) (X0_tunnels v) (X0_molesR v) (X0_moles v) (X0_moleCount v) (X0_fullAir v) (X0_beats v) (X0_caught v) (X0_gnawed v) (X0_risen v) (X0_fallen v) ++ wX3 cy b u) H := xj_keep hP hD [5, 6, 7] hC hP1 hk1
      obtain ⟨hqA, hqB⟩ := hq
      refine lv_icmp_eq (tgt := 114) hx hb dX0_rakeOff_100 (by decide) (fun c1 => ?_) (fun c1 => ?_)
      · have hq := hqA c1
        exact J114 y74_2 (X3_cells u) (X3_ends u) (X3_size u) (X3_used u) z74_v_mounds (X0_tunnels v)  _ _ _ hq hP hD hS (lv_sub hl [1, 2, 3] rfl)
      · have hq := hqB c1
        refine lv_aload_n hx hb dX0_rakeOff_103 rfl (lv_at hl 1 rfl) ?_
        refine lv_iload_n hx hb dX0_rakeOff_104 rfl (lv_at hl 4 rfl) ?_
        refine lv_iload hx hb dX0_rakeOff_105 (lv_at hl 5 rfl) ?_
        refine lv_iload_n hx hb dX0_rakeOff_107 rfl (lv_at hl 2 rfl) ?_
        have hFc := xfree_same hS hAe0 (ws := (cX0 cy a b z74_v_mounds (X0_opened v) (X0_roots v) (X0_traps v) (X0_tunnels v) (X0_molesR v) (X0_moles v) (X0_moleCount v) (X0_fullAir v) (X0_beats v) (X0_caught v) (X0_gnawed v) (X0_risen v) (X0_fallen v) ++ wX3 cy b u)) hD
        refine va_callv (va_runV (As := [.int y74_3, .int y74_4, .int x1]) (rest := []) ⟨hx, hb, hml, hown, hts⟩ (c_X0_joinTunnels l dC dI cy a b _ (X0_s0 v z74_v_mounds) u y74_3 y74_4 x1 _ hq) (cwV 3 hts gX0_rakeOff_X0_joinTunnels rfl rfl rfl (by decide +kernel) ⟨Nat.le_of_ble_eq_true rfl, Nat.le_of_ble_eq_true rfl⟩) ⟨xPre_blind, va_recv hK hP (ci := 0) (q0 := 0) rfl rfl, xPre_of hP hK hD⟩ rfl rfl hl.1 rfl (lv_room (Nat.le_of_ble_eq_true rfl)) dX0_rakeOff_108 ⟨Nat.le_of_ble_eq_true rfl, Nat.le_of_ble_eq_true rfl⟩) hS (fun q _ h => hFc q h) hFc (fun u9 t H locs ht hvm hq hB hz1 hk1 hS => ?_)
        obtain ⟨z108_u_cells, z108_u_ends, z108_u_size, z108_u_used, z108_v_tunnels⟩ := u9
        obtain ⟨hP1, -, hD1⟩ := hB
        rw [ht] at hP1
        have hP : va_P (dC, dI) vwCl (cX0 cy a b z74_v_mounds (X0_opened v) (X0_roots v) (X0_traps v) z108_v_tunnels (X0_molesR v) (X0_moles v) (X0_moleCount v) (X0_fullAir v) (X0_beats v) (X0_caught v) (X0_gnawed v) (X0_risen v) (X0_fallen v) ++ cX3 cy b z108_u_cells z108_u_ends z108_u_used z108_u_size) H := hP1
        have hD : va_D A (cX0 cy a b z74_v_mounds (X0_opened v) (X0_roots v) (X0_traps v) z108_v_tunnels (X0_molesR v) (X0_moles v) (X0_moleCount v) (X0_fullAir v) (X0_beats v) (X0_caught v) (X0_gnawed v) (X0_risen v) (X0_fallen v) ++ cX3 cy b z108_u_cells z108_u_ends z108_u_used z108_u_size) := hD1.weaken (fun _ q _ h => hFc q.1 h)
        refine lv_goto (tgt := 119) hx hb dX0_rakeOff_111 (by decide) ?_
        refine lv_iload_n hx hb dX0_rakeOff_119 rfl (lv_at hl 3 rfl) ?_
        refine lv_aload_n hx hb dX0_rakeOff_120 rfl (lv_at hl 1 rfl) ?_
        refine va_get (D := (dC, dI)) (ci := 0) (v := .ref (a 5)) (C := RX0) (T := TX0) (N := 14) hx hb hts iK0 hown hK hP 0 rfl rfl 4 (by decide) lk0 (fun _ h9 => h9) rfl dX0_rakeOff_121 ?_
        refine va_get (D := (dC, dI)) (ci := 3) (v := .int (X3_size z108_v_tunnels)) (C := RX3) (T := TX3) (N := 4) hx hb hts iK3 hown hK hP 5 rfl rfl 3 (by decide) lk1 (fun _ h9 => h9) rfl dX0_rakeOff_124 ?_
        refine lv_isub hx hb dX0_rakeOff_127 ?_
        exact W.iret (v := (y74_2 - (X3_size z108_v_tunnels))) hx hb hr (fun t ht hW => ⟨⟨(y74_2 - (X3_size z108_v_tunnels)), (z108_u_cells, z108_u_ends, z108_u_size, z108_u_used, (X0_fallen v), z74_v_mounds, z108_v_tunnels), rfl, hq, (xAt_of hP hK hD ht hW)⟩, hS.F ht⟩) hS.2.2 dX0_rakeOff_128
  have J73 : ∀ (y73_2 : Int32) (y73_3 : Int32) (y73_4 : Int32) (z73_v_mounds : (Nat → Int32)) (H : Heap) (locs : List Loc) (ls : Array Slot), wp_X0_rakeOff_73 v u x1 y73_2 y73_3 y73_4 z73_v_mounds Q → va_P (dC, dI) vwCl (cX0 cy a b z73_v_mounds (X0_opened v) (X0_roots v) (X0_traps v) (X0_tunnels v) (X0_molesR v) (X0_moles v) (X0_moleCount v) (X0_fullAir v) (X0_beats v) (X0_caught v) (X0_gnawed v) (X0_risen v) (X0_fallen v) ++ wX3 cy b u) H → va_D A (cX0 cy a b z73_v_mounds (X0_opened v) (X0_roots v) (X0_traps v) (X0_tunnels v) (X0_molesR v) (X0_moles v) (X0_moleCount v) (X0_fullAir v) (X0_beats v) (X0_caught v) (X0_gnawed v) (X0_risen v) (X0_fallen v) ++ wX3 cy b u) → va_S A s.heap H locs → lv_has ls 6 [(0, .ref (a 0)), (1, .int x1), (2, .int y73_2), (3, .int y73_3), (4, .int y73_4)] → W p l e (headSpec wsX0_rakeOff ({ frames := 6, cells := 0, slots := 0, locals := 136 } : Room)).room s m ([.ref (a 0), .int x1] : List Value).toArray below meth c H locs 0 0 (MQ below (q_X0_rakeOff dC dI cy a b v u x1 Q A) ([.ref (a 0), .int x1] : List Value).toArray s 0 0 A) (F0 m 73 ls []) := by
    intro y73_2 y73_3 y73_4 z73_v_mounds H locs ls hq hP hD hS hl
    unfold wp_X0_rakeOff_73 at hq
    refine lv_iconst (v := 0) hx hb dX0_rakeOff_73 (by decide) ?_
    exact J74 y73_2 y73_3 y73_4 z73_v_mounds 0  _ _ _ hq hP hD hS (lv_sub hl [0, 1, 2, 3, 4] rfl)
  have J45 : ∀ (y45_2 : Int32) (y45_3 : Int32) (z45_v_mounds : (Nat → Int32)) (k45_0 : Int32) (H : Heap) (locs : List Loc) (ls : Array Slot), wp_X0_rakeOff_45 v u x1 y45_2 y45_3 z45_v_mounds k45_0 Q → va_P (dC, dI) vwCl (cX0 cy a b z45_v_mounds (X0_opened v) (X0_roots v) (X0_traps v) (X0_tunnels v) (X0_molesR v) (X0_moles v) (X0_moleCount v) (X0_fullAir v) (X0_beats v) (X0_caught v) (X0_gnawed v) (X0_risen v) (X0_fallen v) ++ wX3 cy b u) H → va_D A (cX0 cy a b z45_v_mounds (X0_opened v) (X0_roots v) (X0_traps v) (X0_tunnels v) (X0_molesR v) (X0_moles v) (X0_moleCount v) (X0_fullAir v) (X0_beats v) (X0_caught v) (X0_gnawed v) (X0_risen v) (X0_fallen v) ++ wX3 cy b u) → va_S A s.heap H locs → lv_has ls 6 [(0, .ref (a 0)), (1, .int x1), (2, .int y45_2), (3, .int y45_3)] → W p l e (headSpec wsX0_rakeOff ({ frames := 6, cells := 0, slots := 0, locals := 136 } : Room)).room s m ([.ref (a 0), .int x1] : List Value).toArray below meth c H locs 0 0 (MQ below (q_X0_rakeOff dC dI cy a b v u x1 Q A) ([.ref (a 0), .int x1] : List Value).toArray s 0 0 A) (F0 m 45 ls [.int k45_0]) := by
    intro y45_2 y45_3 z45_v_mounds k45_0 H locs ls hq hP hD hS hl
    unfold wp_X0_rakeOff_45 at hq
    refine lv_istore (lv' := [(4, .int k45_0), (0, .ref (a 0)), (1, .int x1), (2, .int y45_2), (3, .int y45_3)]) hx hb dX0_rakeOff_45 hl (by decide) rfl (fun ls hl => ?_)
    refine lv_iload hx hb dX0_rakeOff_47 (lv_at hl 0 rfl) ?_
    refine lv_iconst (v := (-1)) hx hb dX0_rakeOff_49 (by decide) ?_
    obtain ⟨hqA, hqB⟩ := hq
    refine lv_icmp_eq (tgt := 73) hx hb dX0_rakeOff_50 (by decide) (fun c4 => ?_) (fun c4 => ?_)
    · have hq := hqA c4
      exact J73 y45_2 y45_3 k45_0 z45_v_mounds  _ _ _ hq hP hD hS (lv_sub hl [1, 2, 3, 4, 0] rfl)
    · have hq := hqB c4
      refine lv_aload_n hx hb dX0_rakeOff_53 rfl (lv_at hl 1 rfl) ?_
      refine va_get (D := (dC, dI)) (ci := 0) (v := .ref (a 5)) (C := RX0) (T := TX0) (N := 14) hx hb hts iK0 hown hK hP 0 rfl rfl 4 (by decide) lk0 (fun _ h9 => h9) rfl dX0_rakeOff_54 ?_
      refine lv_iload_n hx hb dX0_rakeOff_57 rfl (lv_at hl 2 rfl) ?_
      refine lv_iload hx hb dX0_rakeOff_58 (lv_at hl 0 rfl) ?_
      refine lv_iconst (v := 1) hx hb dX0_rakeOff_60 (by decide) ?_
      refine lv_iadd hx hb dX0_rakeOff_61 ?_
      have hC : (([5, 6, 7] : List Nat).map (fun i => (cX0 cy a b z45_v_mounds (X0_opened v) (X0_roots v) (X0_traps v) (X0_tunnels v) (X0_molesR v) (X0_moles v) (X0_moleCount v) (X0_fullAir v) (X0_beats v) (X0_caught v) (X0_gnawed v) (X0_risen v) (X0_fallen v) ++ wX3 cy b u)[i]?)) = (wX3 cy (sh a 5) (X0_tunnels v)).map some := rfl
      have hPc := xsubP hP hC
      have hDc := xsubD hD (by decide) hC
      have hFc := va_free (wc := (wX3 cy (sh a 5) (X0_tunnels v))) hD hS hAe0 [5, 6, 7] hC
      refine va_calli (va_runV (As := [.int x1, .int (k45_0 + 1)]) (rest := []) ⟨hx, hb, hml, hown, hts⟩ (c_X3_endingAt l dC dI cy (sh a 5) _ (X0_tunnels v) x1 (k45_0 + 1) _ hq) (cwV 2 hts gX0_rakeOff_X3_endingAt rfl rfl rfl (by decide +kernel) ⟨Nat.le_of_ble_eq_true rfl, Nat.le_of_ble_eq_true rfl⟩) ⟨xPre_blind, va_recv hK hP (ci := 3) (q0 := 5) rfl rfl, xPre_of hPc hK hDc⟩ rfl rfl hl.1 rfl (lv_room (Nat.le_of_ble_eq_true rfl)) dX0_rakeOff_62 ⟨Nat.le_of_ble_eq_true rfl, Nat.le_of_ble_eq_true rfl⟩) hS (fun q _ h => hFc q h) hFc (fun r62 u9 t H locs ht hvm hq hB hz1 hk1 hS => ?_)
      obtain ⟨hP1, -, hD1⟩ := hB
      rw [ht] at hP1
      have hP : va_P (dC, dI) vwCl (cX0 cy a b z45_v_mounds (X0_opened v) (X0_roots v) (X0_traps v) (X0_tunnels v) (X0_molesR v) (X0_moles v) (X0_moleCount v) (X0_fullAir v) (X0_beats v) (X0_caught v) (X0_gnawed v) (X0_risen v) (X0_fallen v) ++ wX3 cy b u) H := xj_keep hP hD [5, 6, 7] hC hP1 hk1
      refine lv_iconst (v := (-1)) hx hb dX0_rakeOff_65 (by decide) ?_
      obtain ⟨hqA, hqB⟩ := hq
      refine lv_icmp_ne (tgt := 73) hx hb dX0_rakeOff_66 (by decide) (fun c3 => ?_) (fun c3 => ?_)
      · have hq := hqB c3
        exact J73 y45_2 y45_3 k45_0 z45_v_mounds  _ _ _ hq hP hD hS (lv_sub hl [1, 2, 3, 4, 0] rfl)
      · have hq := hqA c3
        refine lv_iconst (v := 1) hx hb dX0_rakeOff_69 (by decide) ?_
        refine lv_goto (tgt := 74) hx hb dX0_rakeOff_70 (by decide) ?_
        exact J74 y45_2 y45_3 k45_0 z45_v_mounds 1  _ _ _ hq hP hD hS (lv_sub hl [1, 2, 3, 4, 0] rfl)
  refine lv_aload_n hx hb dX0_rakeOff_0 rfl (lv_at hl 0 rfl) ?_
  refine va_get (D := (dC, dI)) (ci := 0) (v := .ref (a 5)) (C := RX0) (T := TX0) (N := 14) hx hb hts iK0 hown hK hP 0 rfl rfl 4 (by decide) lk0 (fun _ h9 => h9) rfl dX0_rakeOff_1 ?_
  refine va_get (D := (dC, dI)) (ci := 3) (v := .int (X3_size (X0_tunnels v))) (C := RX3) (T := TX3) (N := 4) hx hb hts iK3 hown hK hP 5 rfl rfl 3 (by decide) lk1 (fun _ h9 => h9) rfl dX0_rakeOff_4 ?_
  refine lv_istore_n (lv' := [(2, .int (X3_size (X0_tunnels v))), (0, .ref (a 0)), (1, .int x1)]) hx hb dX0_rakeOff_7 rfl hl (by decide) rfl (fun ls hl => ?_)
  refine lv_aload_n hx hb dX0_rakeOff_8 rfl (lv_at hl 1 rfl) ?_
  refine va_get (D := (dC, dI)) (ci := 0) (v := .ref (a 1)) (C := RX0) (T := TX0) (N := 14) hx hb hts iK0 hown hK hP 0 rfl rfl 0 (by decide) lk2 (fun _ h9 => h9) rfl dX0_rakeOff_9 ?_
  refine lv_iload_n hx hb dX0_rakeOff_12 rfl (lv_at hl 2 rfl) ?_
  refine lv_iconst (v := 0) hx hb dX0_rakeOff_13 (by decide) ?_
  obtain ⟨g5, hq⟩ := hq
  refine va_zast hx hb hK hP hD hS 1 1 rfl rfl g5 dX0_rakeOff_14 (fun H locs hP hD hS => ?_)
  rw [xnar0] at hP hD
  have hP : va_P (dC, dI) vwCl (cX0 cy a b (upd (X0_mounds v) x1.toNatClampNeg 0) (X0_opened v) (X0_roots v) (X0_traps v) (X0_tunnels v) (X0_molesR v) (X0_moles v) (X0_moleCount v) (X0_fullAir v) (X0_beats v) (X0_caught v) (X0_gnawed v) (X0_risen v) (X0_fallen v) ++ wX3 cy b u) H := hP
  have hD : va_D A (cX0 cy a b (upd (X0_mounds v) x1.toNatClampNeg 0) (X0_opened v) (X0_roots v) (X0_traps v) (X0_tunnels v) (X0_molesR v) (X0_moles v) (X0_moleCount v) (X0_fullAir v) (X0_beats v) (X0_caught v) (X0_gnawed v) (X0_risen v) (X0_fallen v) ++ wX3 cy b u) := hD
  refine lv_aload_n hx hb dX0_rakeOff_15 rfl (lv_at hl 1 rfl) ?_
  refine va_get (D := (dC, dI)) (ci := 0) (v := .ref (a 5)) (C := RX0) (T := TX0) (N := 14) hx hb hts iK0 hown hK hP 0 rfl rfl 4 (by decide) lk0 (fun _ h9 => h9) rfl dX0_rakeOff_16 ?_
  refine lv_iload_n hx hb dX0_rakeOff_19 rfl (lv_at hl 2 rfl) ?_
  refine lv_iconst (v := 0) hx hb dX0_rakeOff_20 (by decide) ?_
  have hC : (([5, 6, 7] : List Nat).map (fun i => (cX0 cy a b (upd (X0_mounds v) x1.toNatClampNeg 0) (X0_opened v) (X0_roots v) (X0_traps v) (X0_tunnels v) (X0_molesR v) (X0_moles v) (X0_moleCount v) (X0_fullAir v) (X0_beats v) (X0_caught v) (X0_gnawed v) (X0_risen v) (X0_fallen v) ++ wX3 cy b u)[i]?)) = (wX3 cy (sh a 5) (X0_tunnels v)).map some := rfl
  have hPc := xsubP hP hC
  have hDc := xsubD hD (by decide) hC
  have hFc := va_free (wc := (wX3 cy (sh a 5) (X0_tunnels v))) hD hS hAe0 [5, 6, 7] hC
  refine va_calli (va_runV (As := [.int x1, .int 0]) (rest := []) ⟨hx, hb, hml, hown, hts⟩ (c_X3_endingAt l dC dI cy (sh a 5) _ (X0_tunnels v) x1 0 _ hq) (cwV 2 hts gX0_rakeOff_X3_endingAt rfl rfl rfl (by decide +kernel) ⟨Nat.le_of_ble_eq_true rfl, Nat.le_of_ble_eq_true rfl⟩) ⟨xPre_blind, va_recv hK hP (ci := 3) (q0 := 5) rfl rfl, xPre_of hPc hK hDc⟩ rfl rfl hl.1 rfl (lv_room (Nat.le_of_ble_eq_true rfl)) dX0_rakeOff_21 ⟨Nat.le_of_ble_eq_true rfl, Nat.le_of_ble_eq_true rfl⟩) hS (fun q _ h => hFc q h) hFc (fun r21 u9 t H locs ht hvm hq hB hz1 hk1 hS => ?_)
  obtain ⟨hP1, -, hD1⟩ := hB
  rw [ht] at hP1
  have hP : va_P (dC, dI) vwCl (cX0 cy a b (upd (X0_mounds v) x1.toNatClampNeg 0) (X0_opened v) (X0_roots v) (X0_traps v) (X0_tunnels v) (X0_molesR v) (X0_moles v) (X0_moleCount v) (X0_fullAir v) (X0_beats v) (X0_caught v) (X0_gnawed v) (X0_risen v) (X0_fallen v) ++ wX3 cy b u) H := xj_keep hP hD [5, 6, 7] hC hP1 hk1
  refine lv_istore_n (lv' := [(3, .int r21), (2, .int (X3_size (X0_tunnels v))), (0, .ref (a 0)), (1, .int x1)]) hx hb dX0_rakeOff_24 rfl hl (by decide) rfl (fun ls hl => ?_)
  refine lv_iload_n hx hb dX0_rakeOff_25 rfl (lv_at hl 0 rfl) ?_
  refine lv_iconst (v := (-1)) hx hb dX0_rakeOff_26 (by decide) ?_
  obtain ⟨hqA, hqB⟩ := hq
  refine lv_icmp_ne (tgt := 34) hx hb dX0_rakeOff_27 (by decide) (fun c6 => ?_) (fun c6 => ?_)
  · have hq := hqB c6
    refine lv_aload_n hx hb dX0_rakeOff_34 rfl (lv_at hl 2 rfl) ?_
    refine va_get (D := (dC, dI)) (ci := 0) (v := .ref (a 5)) (C := RX0) (T := TX0) (N := 14) hx hb hts iK0 hown hK hP 0 rfl rfl 4 (by decide) lk0 (fun _ h9 => h9) rfl dX0_rakeOff_35 ?_
    refine lv_iload_n hx hb dX0_rakeOff_38 rfl (lv_at hl 3 rfl) ?_
    refine lv_iload_n hx hb dX0_rakeOff_39 rfl (lv_at hl 0 rfl) ?_
    refine lv_iconst (v := 1) hx hb dX0_rakeOff_40 (by decide) ?_
    refine lv_iadd hx hb dX0_rakeOff_41 ?_
    have hC : (([5, 6, 7] : List Nat).map (fun i => (cX0 cy a b (upd (X0_mounds v) x1.toNatClampNeg 0) (X0_opened v) (X0_roots v) (X0_traps v) (X0_tunnels v) (X0_molesR v) (X0_moles v) (X0_moleCount v) (X0_fullAir v) (X0_beats v) (X0_caught v) (X0_gnawed v) (X0_risen v) (X0_fallen v) ++ wX3 cy b u)[i]?)) = (wX3 cy (sh a 5) (X0_tunnels v)).map some := rfl
    have hPc := xsubP hP hC
    have hDc := xsubD hD (by decide) hC
    have hFc := va_free (wc := (wX3 cy (sh a 5) (X0_tunnels v))) hD hS hAe0 [5, 6, 7] hC
    refine va_calli (va_runV (As := [.int x1, .int (r21 + 1)]) (rest := []) ⟨hx, hb, hml, hown, hts⟩ (c_X3_endingAt l dC dI cy (sh a 5) _ (X0_tunnels v) x1 (r21 + 1) _ hq) (cwV 2 hts gX0_rakeOff_X3_endingAt rfl rfl rfl (by decide +kernel) ⟨Nat.le_of_ble_eq_true rfl, Nat.le_of_ble_eq_true rfl⟩) ⟨xPre_blind, va_recv hK hP (ci := 3) (q0 := 5) rfl rfl, xPre_of hPc hK hDc⟩ rfl rfl hl.1 rfl (lv_room (Nat.le_of_ble_eq_true rfl)) dX0_rakeOff_42 ⟨Nat.le_of_ble_eq_true rfl, Nat.le_of_ble_eq_true rfl⟩) hS (fun q _ h => hFc q h) hFc (fun r42 u9 t H locs ht hvm hq hB hz1 hk1 hS => ?_)
    obtain ⟨hP1, -, hD1⟩ := hB
    rw [ht] at hP1
    have hP : va_P (dC, dI) vwCl (cX0 cy a b (upd (X0_mounds v) x1.toNatClampNeg 0) (X0_opened v) (X0_roots v) (X0_traps v) (X0_tunnels v) (X0_molesR v) (X0_moles v) (X0_moleCount v) (X0_fullAir v) (X0_beats v) (X0_caught v) (X0_gnawed v) (X0_risen v) (X0_fallen v) ++ wX3 cy b u) H := xj_keep hP hD [5, 6, 7] hC hP1 hk1
    exact J45 (X3_size (X0_tunnels v)) r21 (upd (X0_mounds v) x1.toNatClampNeg 0) r42  _ _ _ hq hP hD hS (lv_sub hl [2, 3, 1, 0] rfl)
  · have hq := hqA c6
    refine lv_iconst (v := (-1)) hx hb dX0_rakeOff_30 (by decide) ?_
    refine lv_goto (tgt := 45) hx hb dX0_rakeOff_31 (by decide) ?_
    exact J45 (X3_size (X0_tunnels v)) r21 (upd (X0_mounds v) x1.toNatClampNeg 0) (-1)  _ _ _ hq hP hD hS (lv_sub hl [2, 3, 1, 0] rfl)
