def wb_X0_digUp_33 (v : V_X0) (u : V_X3) (x1 : Int32) (y33_2 : Int32) (z33_v_opened : (Nat → Int32)) (z33_v_roots : (Nat → Int32)) (z33_v_traps : (Nat → Int32)) (y33_3 : Int32) (z33_v_caught : Int32) (z33_v_moleCount : Int32) (z33_v_molesR : (Nat → Nat)) (B33 : Int32 → Int32 → Int32 → (Nat → Nat) → Prop) (Q : Int32 → (Nat → Int32) → (Nat → Int32) → Int32 → Int32 → Int32 → Int32 → Int32 → (Nat → V_X1) → (Nat → Nat) → (Nat → Int32) → (Nat → Int32) → Int32 → (Nat → Int32) → (Nat → Int32) → V_X3 → Prop) : Prop :=
  ((y33_3 < 0 → vp_in x1 64 ∧ wp_X0_dropTunnels ((upd (X0_mounds v) x1.toNatClampNeg 0), z33_v_opened, z33_v_roots, z33_v_traps, (X0_tunnels v), z33_v_molesR, (X0_moles v), z33_v_moleCount, (X0_fullAir v), (X0_beats v), z33_v_caught, (X0_gnawed v), (X0_risen v), (X0_fallen v)) u x1 (fun z70_u_cells z70_u_ends z70_u_size z70_u_used z70_v_fallen z70_v_tunnels =>
  wp_X0_dropTrails ((upd (X0_mounds v) x1.toNatClampNeg 0), z33_v_opened, z33_v_roots, z33_v_traps, z70_v_tunnels, z33_v_molesR, (X0_moles v), z33_v_moleCount, (X0_fullAir v), (X0_beats v), z33_v_caught, (X0_gnawed v), (X0_risen v), z70_v_fallen) (z70_u_cells, z70_u_ends, z70_u_used, z70_u_size) x1 (fun z75_u_cells z75_u_ends z75_u_size z75_u_used z75_v_moles z75_v_mounds z75_v_risen z75_v_tunnels =>
  Q (z33_v_caught - y33_2) z75_u_cells z75_u_ends z75_u_size z75_u_used z33_v_caught z70_v_fallen z33_v_moleCount z75_v_moles z33_v_molesR z75_v_mounds z33_v_opened z75_v_risen z33_v_roots z33_v_traps z75_v_tunnels))) ∧
  (¬ y33_3 < 0 → vp_in y33_3 4 ∧ (z33_v_molesR y33_3.toNatClampNeg) < 4 ∧ wp_X1_place ((X0_moles v) (z33_v_molesR y33_3.toNatClampNeg)) (fun r43 =>
  ((r43 = x1 → wp_X0_catchMole ((X0_mounds v), z33_v_opened, z33_v_roots, z33_v_traps, (X0_tunnels v), z33_v_molesR, (X0_moles v), z33_v_moleCount, (X0_fullAir v), (X0_beats v), z33_v_caught, (X0_gnawed v), (X0_risen v), (X0_fallen v)) y33_3 (fun z52_v_caught z52_v_moleCount z52_v_molesR =>
  B33 (y33_3 + (-1)) z52_v_caught z52_v_moleCount z52_v_molesR)) ∧
  (¬ r43 = x1 → B33 (y33_3 + (-1)) z33_v_caught z33_v_moleCount z33_v_molesR)))))
def wp_X0_digUp_33 (v : V_X0) (u : V_X3) (x1 : Int32) (y33_2 : Int32) (z33_v_opened : (Nat → Int32)) (z33_v_roots : (Nat → Int32)) (z33_v_traps : (Nat → Int32)) (y33_3 : Int32) (z33_v_caught : Int32) (z33_v_moleCount : Int32) (z33_v_molesR : (Nat → Nat)) (Q : Int32 → (Nat → Int32) → (Nat → Int32) → Int32 → Int32 → Int32 → Int32 → Int32 → (Nat → V_X1) → (Nat → Nat) → (Nat → Int32) → (Nat → Int32) → Int32 → (Nat → Int32) → (Nat → Int32) → V_X3 → Prop) : Prop :=
  ∃ (I : Int32 → Int32 → Int32 → (Nat → Nat) → Prop) (μ : Int32 → Int32 → Int32 → (Nat → Nat) → Nat), I y33_3 z33_v_caught z33_v_moleCount z33_v_molesR ∧ ∀ (s0 : Int32) (s1 : Int32) (s2 : Int32) (s3 : (Nat → Nat)), I s0 s1 s2 s3 → wb_X0_digUp_33 v u x1 y33_2 z33_v_opened z33_v_roots z33_v_traps s0 s1 s2 s3 (fun t0 t1 t2 t3 => I t0 t1 t2 t3 ∧ μ t0 t1 t2 t3 < μ s0 s1 s2 s3) Q
def wp_X0_digUp (v : V_X0) (u : V_X3) (x1 : Int32) (Q : Int32 → (Nat → Int32) → (Nat → Int32) → Int32 → Int32 → Int32 → Int32 → Int32 → (Nat → V_X1) → (Nat → Nat) → (Nat → Int32) → (Nat → Int32) → Int32 → (Nat → Int32) → (Nat → Int32) → V_X3 → Prop) : Prop :=
  vp_in x1 64 ∧ wp_X0_digUp_33 v u x1 (X0_caught v) (upd (X0_opened v) x1.toNatClampNeg 1) (upd (X0_roots v) x1.toNatClampNeg 0) (upd (X0_traps v) x1.toNatClampNeg (-1)) ((X0_moleCount v) - 1) (X0_caught v) (X0_moleCount v) (X0_molesR v) Q
def q_X0_digUp (dC : Nat → ClassId) (dI : Nat → Nat → Nat) (cy : Nat → ClassId) (a b : Nat → Nat) (v : V_X0) (u : V_X3) (x1 : Int32) (Q : Int32 → (Nat → Int32) → (Nat → Int32) → Int32 → Int32 → Int32 → Int32 → Int32 → (Nat → V_X1) → (Nat → Nat) → (Nat → Int32) → (Nat → Int32) → Int32 → (Nat → Int32) → (Nat → Int32) → V_X3 → Prop) (A : Nat → Prop) : Array Value → State → Outcome → State → Prop := va_Qi (fun (r : Int32) (u : (Nat → Int32) × (Nat → Int32) × Int32 × Int32 × Int32 × Int32 × Int32 × (Nat → V_X1) × (Nat → Nat) × (Nat → Int32) × (Nat → Int32) × Int32 × (Nat → Int32) × (Nat → Int32) × V_X3) => Q r u.1 u.2.1 u.2.2.1 u.2.2.2.1 u.2.2.2.2.1 u.2.2.2.2.2.1 u.2.2.2.2.2.2.1 u.2.2.2.2.2.2.2.1 u.2.2.2.2.2.2.2.2.1 u.2.2.2.2.2.2.2.2.2.1 u.2.2.2.2.2.2.2.2.2.2.1 u.2.2.2.2.2.2.2.2.2.2.2.1 u.2.2.2.2.2.2.2.2.2.2.2.2.1 u.2.2.2.2.2.2.2.2.2.2.2.2.2.1 u.2.2.2.2.2.2.2.2.2.2.2.2.2.2) (fun (u : (Nat → Int32) × (Nat → Int32) × Int32 × Int32 × Int32 × Int32 × Int32 × (Nat → V_X1) × (Nat → Nat) × (Nat → Int32) × (Nat → Int32) × Int32 × (Nat → Int32) × (Nat → Int32) × V_X3) t => xAt dC dI cy A (cX0 cy a b u.2.2.2.2.2.2.2.2.2.1 u.2.2.2.2.2.2.2.2.2.2.1 u.2.2.2.2.2.2.2.2.2.2.2.2.1 u.2.2.2.2.2.2.2.2.2.2.2.2.2.1 u.2.2.2.2.2.2.2.2.2.2.2.2.2.2 u.2.2.2.2.2.2.2.2.1 u.2.2.2.2.2.2.2.1 u.2.2.2.2.2.2.1 (X0_fullAir v) (X0_beats v) u.2.2.2.2.1 (X0_gnawed v) u.2.2.2.2.2.2.2.2.2.2.2.1 u.2.2.2.2.2.1 ++ cX3 cy b u.1 u.2.1 u.2.2.2.1 u.2.2.1) t) A
set_option maxHeartbeats 4000000 in
set_option maxRecDepth 100000 in
theorem c_X0_digUp (l : Launch) (dC : Nat → ClassId) (dI : Nat → Nat → Nat) (cy : Nat → ClassId) (a b : Nat → Nat) (sz : Nat) (v : V_X0) (u : V_X3) (x1 : Int32) (Q : Int32 → (Nat → Int32) → (Nat → Int32) → Int32 → Int32 → Int32 → Int32 → Int32 → (Nat → V_X1) → (Nat → Nat) → (Nat → Int32) → (Nat → Int32) → Int32 → (Nat → Int32) → (Nat → Int32) → V_X3 → Prop) (hq : wp_X0_digUp v u x1 Q) : Met l yX0_digUp wsX0_digUp ({ frames := 5, cells := 0, slots := 0, locals := 120 } : Room) (va_Pc [.ref (a 0), .int x1] (xPre dC dI cy (wX0 cy a b v ++ wX3 cy b u) sz)) (q_X0_digUp dC dI cy a b v u x1 Q (va_A (wX0 cy a b v ++ wX3 cy b u) sz)) 0 0 (va_A (wX0 cy a b v ++ wX3 cy b u) sz) := by
  refine Met.ofW (cc := cX0_digUp) (maxL := 4) (ret := (some .int)) (by decide) rfl ?_
  intro p e s m args below meth c s₁ B hml hv
  obtain ⟨rfl, hsz, hP, hK, hD0⟩ := hv
  have hx := B.exec
  have hb := B.bytes
  have hr := B.returns
  have hts := atoms_spec (ws := wsX0_digUp) B.pre
  have hown : s.vm.findClass RX0 = some m.cls := findClass_of_methodNamed B.named
  have hlocks := B.notSynchronized
  subst hsz
  have hD := hD0.self (sz := s.heap.size)
  generalize hAe : va_A (wX0 cy a b v ++ wX3 cy b u) s.heap.size = A at hD ⊢
  have hAe0 : ∀ q : Nat, s.heap.size ≤ q → A q := fun q h => by rw [← hAe]; exact Or.inr h
  have hS : va_S A s.heap s.heap [] := va_S.rf
  have hl := lv_entry ([.ref (a 0), .int x1]) (n := 4) (Nat.le_of_ble_eq_true rfl)
  rw [lg_entry_eq]
  generalize (lg_sl ([.ref (a 0), .int x1]) ++ List.replicate (4 - (lg_sl ([.ref (a 0), .int x1])).length) Slot.unset).toArray = ls at hl ⊢
  have hl : lv_has ls 4 [(0, .ref (a 0)), (1, .int x1)] := hl
  have lk0 := hts (Cond.fieldLink RX0 9 "MolesLawn$Lawn" "mounds" "[Z") (List.mem_cons_of_mem _ (List.mem_append_left _ (List.mem_append_left _ (List.mem_append_left _ (List.mem_append_left _ (List.mem_of_getElem? (i := 6) rfl))))))
  have lk1 := hts (Cond.fieldLink RX0 65 "MolesLawn$Lawn" "caught" "I") (List.mem_cons_of_mem _ (List.mem_append_left _ (List.mem_append_left _ (List.mem_append_left _ (List.mem_append_left _ (List.mem_of_getElem? (i := 3) rfl))))))
  have lk2 := hts (Cond.fieldLink RX0 34 "MolesLawn$Lawn" "moles" "[LMolesLawn$Mole;") (List.mem_cons_of_mem _ (List.mem_append_left _ (List.mem_append_left _ (List.mem_append_left _ (List.mem_append_left _ (List.mem_of_getElem? (i := 5) rfl))))))
  have lk3 := hts (Cond.fieldLink RX0 15 "MolesLawn$Lawn" "opened" "[Z") (List.mem_cons_of_mem _ (List.mem_append_left _ (List.mem_append_left _ (List.mem_append_left _ (List.mem_append_left _ (List.mem_of_getElem? (i := 0) rfl))))))
  have lk4 := hts (Cond.fieldLink RX0 18 "MolesLawn$Lawn" "roots" "[I") (List.mem_cons_of_mem _ (List.mem_append_left _ (List.mem_append_left _ (List.mem_append_left _ (List.mem_append_left _ (List.mem_of_getElem? (i := 1) rfl))))))
  have lk5 := hts (Cond.fieldLink RX0 22 "MolesLawn$Lawn" "traps" "[I") (List.mem_cons_of_mem _ (List.mem_append_left _ (List.mem_append_left _ (List.mem_append_left _ (List.mem_append_left _ (List.mem_of_getElem? (i := 2) rfl))))))
  have lk6 := hts (Cond.fieldLink RX0 56 "MolesLawn$Lawn" "moleCount" "I") (List.mem_cons_of_mem _ (List.mem_append_left _ (List.mem_append_left _ (List.mem_append_left _ (List.mem_append_left _ (List.mem_of_getElem? (i := 4) rfl))))))
  have iK0 : ∀ w ∈ wsX00, w ∈ wsX0_digUp := fun _ h => (List.mem_cons_of_mem _ (List.mem_append_left _ (List.mem_append_left _ (List.mem_append_right _ h))))
  unfold wp_X0_digUp at hq
  have J33 : ∀ (y33_2 : Int32) (z33_v_opened : (Nat → Int32)) (z33_v_roots : (Nat → Int32)) (z33_v_traps : (Nat → Int32)) (y33_3 : Int32) (z33_v_caught : Int32) (z33_v_moleCount : Int32) (z33_v_molesR : (Nat → Nat)) (H : Heap) (locs : List Loc) (ls : Array Slot), wp_X0_digUp_33 v u x1 y33_2 z33_v_opened z33_v_roots z33_v_traps y33_3 z33_v_caught z33_v_moleCount z33_v_molesR Q → va_P (dC, dI) vwCl (cX0 cy a b (X0_mounds v) z33_v_opened z33_v_roots z33_v_traps (X0_tunnels v) z33_v_molesR (X0_moles v) z33_v_moleCount (X0_fullAir v) (X0_beats v) z33_v_caught (X0_gnawed v) (X0_risen v) (X0_fallen v) ++ wX3 cy b u) H → va_D A (cX0 cy a b (X0_mounds v) z33_v_opened z33_v_roots z33_v_traps (X0_tunnels v) z33_v_molesR (X0_moles v) z33_v_moleCount (X0_fullAir v) (X0_beats v) z33_v_caught (X0_gnawed v) (X0_risen v) (X0_fallen v) ++ wX3 cy b u) → va_S A s.heap H locs → lv_has ls 4 [(0, .ref (a 0)), (1, .int x1), (2, .int y33_2), (3, .int y33_3)] → W p l e (headSpec wsX0_digUp ({ frames := 5, cells := 0, slots := 0, locals := 120 } : Room)).room s m ([.ref (a 0), .int x1] : List Value).toArray below meth c H locs 0 0 (MQ below (q_X0_digUp dC dI cy a b v u x1 Q A) ([.ref (a 0), .int x1] : List Value).toArray s 0 0 A) (F0 m 33 ls []) := by
    intro y33_2 z33_v_opened z33_v_roots z33_v_traps y33_3 z33_v_caught z33_v_moleCount z33_v_molesR H locs ls hq hP hD hS hl
    obtain ⟨I33, μ33, h0, hs33⟩ := hq
    have key : ∀ (n : Nat) (y33_3 : Int32) (z33_v_caught : Int32) (z33_v_moleCount : Int32) (z33_v_molesR : (Nat → Nat)) (H : Heap) (locs : List Loc) (ls : Array Slot), I33 y33_3 z33_v_caught z33_v_moleCount z33_v_molesR → μ33 y33_3 z33_v_caught z33_v_moleCount z33_v_molesR < n → va_P (dC, dI) vwCl (cX0 cy a b (X0_mounds v) z33_v_opened z33_v_roots z33_v_traps (X0_tunnels v) z33_v_molesR (X0_moles v) z33_v_moleCount (X0_fullAir v) (X0_beats v) z33_v_caught (X0_gnawed v) (X0_risen v) (X0_fallen v) ++ wX3 cy b u) H → va_D A (cX0 cy a b (X0_mounds v) z33_v_opened z33_v_roots z33_v_traps (X0_tunnels v) z33_v_molesR (X0_moles v) z33_v_moleCount (X0_fullAir v) (X0_beats v) z33_v_caught (X0_gnawed v) (X0_risen v) (X0_fallen v) ++ wX3 cy b u) → va_S A s.heap H locs → lv_has ls 4 [(0, .ref (a 0)), (1, .int x1), (2, .int y33_2), (3, .int y33_3)] → W p l e (headSpec wsX0_digUp ({ frames := 5, cells := 0, slots := 0, locals := 120 } : Room)).room s m ([.ref (a 0), .int x1] : List Value).toArray below meth c H locs 0 0 (MQ below (q_X0_digUp dC dI cy a b v u x1 Q A) ([.ref (a 0), .int x1] : List Value).toArray s 0 0 A) (F0 m 33 ls []) := by
      intro n
      induction n with
      | zero => intro y33_3 z33_v_caught z33_v_moleCount z33_v_molesR H locs ls _ hm; exact absurd hm (Nat.not_lt_zero _)
      | succ n ih =>
        intro y33_3 z33_v_caught z33_v_moleCount z33_v_molesR H locs ls hI hm hP hD hS hl
        have hq := hs33 y33_3 z33_v_caught z33_v_moleCount z33_v_molesR hI
        generalize hB33 : (fun (t0 : Int32) (t1 : Int32) (t2 : Int32) (t3 : (Nat → Nat)) => I33 t0 t1 t2 t3 ∧ μ33 t0 t1 t2 t3 < μ33 y33_3 z33_v_caught z33_v_moleCount z33_v_molesR) = B33 at hq
        have bk33 : ∀ (y33_3 : Int32) (z33_v_caught : Int32) (z33_v_moleCount : Int32) (z33_v_molesR : (Nat → Nat)) (H : Heap) (locs : List Loc) (ls : Array Slot), B33 y33_3 z33_v_caught z33_v_moleCount z33_v_molesR → va_P (dC, dI) vwCl (cX0 cy a b (X0_mounds v) z33_v_opened z33_v_roots z33_v_traps (X0_tunnels v) z33_v_molesR (X0_moles v) z33_v_moleCount (X0_fullAir v) (X0_beats v) z33_v_caught (X0_gnawed v) (X0_risen v) (X0_fallen v) ++ wX3 cy b u) H → va_D A (cX0 cy a b (X0_mounds v) z33_v_opened z33_v_roots z33_v_traps (X0_tunnels v) z33_v_molesR (X0_moles v) z33_v_moleCount (X0_fullAir v) (X0_beats v) z33_v_caught (X0_gnawed v) (X0_risen v) (X0_fallen v) ++ wX3 cy b u) → va_S A s.heap H locs → lv_has ls 4 [(0, .ref (a 0)), (1, .int x1), (2, .int y33_2), (3, .int y33_3)] → W p l e (headSpec wsX0_digUp ({ frames := 5, cells := 0, slots := 0, locals := 120 } : Room)).room s m ([.ref (a 0), .int x1] : List Value).toArray below meth c H locs 0 0 (MQ below (q_X0_digUp dC dI cy a b v u x1 Q A) ([.ref (a 0), .int x1] : List Value).toArray s 0 0 A) (F0 m 33 ls []) := by
          intro y33_3 z33_v_caught z33_v_moleCount z33_v_molesR H locs ls h
          rw [← hB33] at h
          exact ih y33_3 z33_v_caught z33_v_moleCount z33_v_molesR H locs ls h.1 (Nat.lt_of_lt_of_le h.2 (Nat.le_of_lt_succ hm))
        unfold wb_X0_digUp_33 at hq
        refine lv_iload_n hx hb dX0_digUp_33 rfl (lv_at hl 3 rfl) ?_
        obtain ⟨hqA, hqB⟩ := hq
        refine lv_if_lt (tgt := 61) hx hb dX0_digUp_34 (by decide) (fun c5 => ?_) (fun c5 => ?_)
        · have hq := hqA c5
          refine lv_aload_n hx hb dX0_digUp_61 rfl (lv_at hl 0 rfl) ?_
          refine va_get (D := (dC, dI)) (ci := 0) (v := .ref (a 1)) (C := RX0) (T := TX0) (N := 14) hx hb hts iK0 hown hK hP 0 rfl rfl 0 (by decide) lk0 (fun _ h9 => h9) rfl dX0_digUp_62 ?_
          refine lv_iload_n hx hb dX0_digUp_65 rfl (lv_at hl 1 rfl) ?_
          refine lv_iconst (v := 0) hx hb dX0_digUp_66 (by decide) ?_
          obtain ⟨g1, hq⟩ := hq
          refine va_zast hx hb hK hP hD hS 1 1 rfl rfl g1 dX0_digUp_67 (fun H locs hP hD hS => ?_)
          rw [xnar0] at hP hD
          have hP : va_P (dC, dI) vwCl (cX0 cy a b (upd (X0_mounds v) x1.toNatClampNeg 0) z33_v_opened z33_v_roots z33_v_traps (X0_tunnels v) z33_v_molesR (X0_moles v) z33_v_moleCount (X0_fullAir v) (X0_beats v) z33_v_caught (X0_gnawed v) (X0_risen v) (X0_fallen v) ++ wX3 cy b u) H := hP
          have hD : va_D A (cX0 cy a b (upd (X0_mounds v) x1.toNatClampNeg 0) z33_v_opened z33_v_roots z33_v_traps (X0_tunnels v) z33_v_molesR (X0_moles v) z33_v_moleCount (X0_fullAir v) (X0_beats v) z33_v_caught (X0_gnawed v) (X0_risen v) (X0_fallen v) ++ wX3 cy b u) := hD
          refine lv_aload_n hx hb dX0_digUp_68 rfl (lv_at hl 0 rfl) ?_
          refine lv_iload_n hx hb dX0_digUp_69 rfl (lv_at hl 1 rfl) ?_
          have hFc := xfree_same hS hAe0 (ws := (cX0 cy a b (upd (X0_mounds v) x1.toNatClampNeg 0) z33_v_opened z33_v_roots z33_v_traps (X0_tunnels v) z33_v_molesR (X0_moles v) z33_v_moleCount (X0_fullAir v) (X0_beats v) z33_v_caught (X0_gnawed v) (X0_risen v) (X0_fallen v) ++ wX3 cy b u)) hD
          refine va_callv (va_runV (As := [.int x1]) (rest := []) ⟨hx, hb, hml, hown, hts⟩ (c_X0_dropTunnels l dC dI cy a b _ ((upd (X0_mounds v) x1.toNatClampNeg 0), z33_v_opened, z33_v_roots, z33_v_traps, (X0_tunnels v), z33_v_molesR, (X0_moles v), z33_v_moleCount, (X0_fullAir v), (X0_beats v), z33_v_caught, (X0_gnawed v), (X0_risen v), (X0_fallen v)) u x1 _ hq) (cwV 1 hts gX0_digUp_X0_dropTunnels rfl rfl rfl (by decide +kernel) ⟨Nat.le_of_ble_eq_true rfl, Nat.le_of_ble_eq_true rfl⟩) ⟨xPre_blind, va_recv hK hP (ci := 0) (q0 := 0) rfl rfl, xPre_of hP hK hD⟩ rfl rfl hl.1 rfl (lv_room (Nat.le_of_ble_eq_true rfl)) dX0_digUp_70 ⟨Nat.le_of_ble_eq_true rfl, Nat.le_of_ble_eq_true rfl⟩) hS (fun q _ h => hFc q h) hFc (fun u9 t H locs ht hvm hq hB hz1 hk1 hS => ?_)
          obtain ⟨z70_u_cells, z70_u_ends, z70_u_size, z70_u_used, z70_v_fallen, z70_v_tunnels⟩ := u9
          obtain ⟨hP1, -, hD1⟩ := hB
          rw [ht] at hP1
          have hP : va_P (dC, dI) vwCl (cX0 cy a b (upd (X0_mounds v) x1.toNatClampNeg 0) z33_v_opened z33_v_roots z33_v_traps z70_v_tunnels z33_v_molesR (X0_moles v) z33_v_moleCount (X0_fullAir v) (X0_beats v) z33_v_caught (X0_gnawed v) (X0_risen v) z70_v_fallen ++ cX3 cy b z70_u_cells z70_u_ends z70_u_used z70_u_size) H := hP1
          have hD : va_D A (cX0 cy a b (upd (X0_mounds v) x1.toNatClampNeg 0) z33_v_opened z33_v_roots z33_v_traps z70_v_tunnels z33_v_molesR (X0_moles v) z33_v_moleCount (X0_fullAir v) (X0_beats v) z33_v_caught (X0_gnawed v) (X0_risen v) z70_v_fallen ++ cX3 cy b z70_u_cells z70_u_ends z70_u_used z70_u_size) := hD1.weaken (fun _ q _ h => hFc q.1 h)
          refine lv_aload_n hx hb dX0_digUp_73 rfl (lv_at hl 0 rfl) ?_
          refine lv_iload_n hx hb dX0_digUp_74 rfl (lv_at hl 1 rfl) ?_
          have hFc := xfree_same hS hAe0 (ws := (cX0 cy a b (upd (X0_mounds v) x1.toNatClampNeg 0) z33_v_opened z33_v_roots z33_v_traps z70_v_tunnels z33_v_molesR (X0_moles v) z33_v_moleCount (X0_fullAir v) (X0_beats v) z33_v_caught (X0_gnawed v) (X0_risen v) z70_v_fallen ++ cX3 cy b z70_u_cells z70_u_ends z70_u_used z70_u_size)) hD
          refine va_callv (va_runV (As := [.int x1]) (rest := []) ⟨hx, hb, hml, hown, hts⟩ (c_X0_dropTrails l dC dI cy a b _ ((upd (X0_mounds v) x1.toNatClampNeg 0), z33_v_opened, z33_v_roots, z33_v_traps, z70_v_tunnels, z33_v_molesR, (X0_moles v), z33_v_moleCount, (X0_fullAir v), (X0_beats v), z33_v_caught, (X0_gnawed v), (X0_risen v), z70_v_fallen) (z70_u_cells, z70_u_ends, z70_u_used, z70_u_size) x1 _ hq) (cwV 1 hts gX0_digUp_X0_dropTrails rfl rfl rfl (by decide +kernel) ⟨Nat.le_of_ble_eq_true rfl, Nat.le_of_ble_eq_true rfl⟩) ⟨xPre_blind, va_recv hK hP (ci := 0) (q0 := 0) rfl rfl, xPre_of hP hK hD⟩ rfl rfl hl.1 rfl (lv_room (Nat.le_of_ble_eq_true rfl)) dX0_digUp_75 ⟨Nat.le_of_ble_eq_true rfl, Nat.le_of_ble_eq_true rfl⟩) hS (fun q _ h => hFc q h) hFc (fun u9 t H locs ht hvm hq hB hz1 hk1 hS => ?_)
          obtain ⟨z75_u_cells, z75_u_ends, z75_u_size, z75_u_used, z75_v_moles, z75_v_mounds, z75_v_risen, z75_v_tunnels⟩ := u9
          obtain ⟨hP1, -, hD1⟩ := hB
          rw [ht] at hP1
          have hP : va_P (dC, dI) vwCl (cX0 cy a b z75_v_mounds z33_v_opened z33_v_roots z33_v_traps z75_v_tunnels z33_v_molesR z75_v_moles z33_v_moleCount (X0_fullAir v) (X0_beats v) z33_v_caught (X0_gnawed v) z75_v_risen z70_v_fallen ++ cX3 cy b z75_u_cells z75_u_ends z75_u_used z75_u_size) H := hP1
          have hD : va_D A (cX0 cy a b z75_v_mounds z33_v_opened z33_v_roots z33_v_traps z75_v_tunnels z33_v_molesR z75_v_moles z33_v_moleCount (X0_fullAir v) (X0_beats v) z33_v_caught (X0_gnawed v) z75_v_risen z70_v_fallen ++ cX3 cy b z75_u_cells z75_u_ends z75_u_used z75_u_size) := hD1.weaken (fun _ q _ h => hFc q.1 h)
          refine lv_aload_n hx hb dX0_digUp_78 rfl (lv_at hl 0 rfl) ?_
          refine va_get (D := (dC, dI)) (ci := 0) (v := .int z33_v_caught) (C := RX0) (T := TX0) (N := 14) hx hb hts iK0 hown hK hP 0 rfl rfl 10 (by decide) lk1 (fun _ h9 => h9) rfl dX0_digUp_79 ?_
          refine lv_iload_n hx hb dX0_digUp_82 rfl (lv_at hl 2 rfl) ?_
          refine lv_isub hx hb dX0_digUp_83 ?_
          exact W.iret (v := (z33_v_caught - y33_2)) hx hb hr (fun t ht hW => ⟨⟨(z33_v_caught - y33_2), (z75_u_cells, z75_u_ends, z75_u_size, z75_u_used, z33_v_caught, z70_v_fallen, z33_v_moleCount, z75_v_moles, z33_v_molesR, z75_v_mounds, z33_v_opened, z75_v_risen, z33_v_roots, z33_v_traps, z75_v_tunnels), rfl, hq, (xAt_of hP hK hD ht hW)⟩, hS.F ht⟩) hS.2.2 dX0_digUp_84
        · have hq := hqB c5
          refine lv_aload_n hx hb dX0_digUp_37 rfl (lv_at hl 0 rfl) ?_
          refine va_get (D := (dC, dI)) (ci := 0) (v := .ref (a 8)) (C := RX0) (T := TX0) (N := 14) hx hb hts iK0 hown hK hP 0 rfl rfl 6 (by decide) lk2 (fun _ h9 => h9) rfl dX0_digUp_38 ?_
          refine lv_iload_n hx hb dX0_digUp_41 rfl (lv_at hl 3 rfl) ?_
          obtain ⟨g2, hq⟩ := hq
          obtain ⟨g3, hq⟩ := hq
          refine va_aldq hx hb hK hP 8 2 rfl rfl g2 dX0_digUp_42 ?_
          have hC : (([(9 + 3 * (z33_v_molesR y33_3.toNatClampNeg)), (10 + 3 * (z33_v_molesR y33_3.toNatClampNeg)), (11 + 3 * (z33_v_molesR y33_3.toNatClampNeg))] : List Nat).map (fun i => (cX0 cy a b (X0_mounds v) z33_v_opened z33_v_roots z33_v_traps (X0_tunnels v) z33_v_molesR (X0_moles v) z33_v_moleCount (X0_fullAir v) (X0_beats v) z33_v_caught (X0_gnawed v) (X0_risen v) (X0_fallen v) ++ wX3 cy b u)[i]?)) = (wX1 cy (sh a (9 + 3 * (z33_v_molesR y33_3.toNatClampNeg))) ((X0_moles v) (z33_v_molesR y33_3.toNatClampNeg))).map some := (co_4 (P := fun i19 => (([(9 + 3 * i19), (10 + 3 * i19), (11 + 3 * i19)] : List Nat).map (fun i => (cX0 cy a b (X0_mounds v) z33_v_opened z33_v_roots z33_v_traps (X0_tunnels v) z33_v_molesR (X0_moles v) z33_v_moleCount (X0_fullAir v) (X0_beats v) z33_v_caught (X0_gnawed v) (X0_risen v) (X0_fallen v) ++ wX3 cy b u)[i]?)) = (wX1 cy (sh a (9 + 3 * i19)) ((X0_moles v) i19)).map some) rfl rfl rfl rfl g3)
          have hN : va_nd [(9 + 3 * (z33_v_molesR y33_3.toNatClampNeg)), (10 + 3 * (z33_v_molesR y33_3.toNatClampNeg)), (11 + 3 * (z33_v_molesR y33_3.toNatClampNeg))] = true := (co_4 (P := fun i19 => va_nd [(9 + 3 * i19), (10 + 3 * i19), (11 + 3 * i19)] = true) rfl rfl rfl rfl g3)
          have hPc := xsubP hP hC
          have hDc := xsubD hD hN hC
          have hFc := va_free (wc := (wX1 cy (sh a (9 + 3 * (z33_v_molesR y33_3.toNatClampNeg))) ((X0_moles v) (z33_v_molesR y33_3.toNatClampNeg)))) hD hS hAe0 [(9 + 3 * (z33_v_molesR y33_3.toNatClampNeg)), (10 + 3 * (z33_v_molesR y33_3.toNatClampNeg)), (11 + 3 * (z33_v_molesR y33_3.toNatClampNeg))] hC
          refine va_calli (va_runV (As := []) (rest := []) ⟨hx, hb, hml, hown, hts⟩ (c_X1_place l dC dI cy (sh a (9 + 3 * (z33_v_molesR y33_3.toNatClampNeg))) _ ((X0_moles v) (z33_v_molesR y33_3.toNatClampNeg)) _ hq) (cwV 0 hts gX0_digUp_X1_place rfl rfl rfl (by decide +kernel) ⟨Nat.le_of_ble_eq_true rfl, Nat.le_of_ble_eq_true rfl⟩) ⟨xPre_blind, va_recv hK hP (ci := 1) (q0 := (9 + 3 * (z33_v_molesR y33_3.toNatClampNeg))) rfl (co_4 (P := fun i19 => (cX0 cy a b (X0_mounds v) z33_v_opened z33_v_roots z33_v_traps (X0_tunnels v) z33_v_molesR (X0_moles v) z33_v_moleCount (X0_fullAir v) (X0_beats v) z33_v_caught (X0_gnawed v) (X0_risen v) (X0_fallen v) ++ wX3 cy b u)[(9 + 3 * i19)]? = (wX1 cy (sh a (9 + 3 * i19)) ((X0_moles v) i19))[0]?) rfl rfl rfl rfl g3), xPre_of hPc hK hDc⟩ rfl rfl hl.1 rfl (lv_room (Nat.le_of_ble_eq_true rfl)) dX0_digUp_43 ⟨Nat.le_of_ble_eq_true rfl, Nat.le_of_ble_eq_true rfl⟩) hS (fun q _ h => hFc q h) hFc (fun r43 u9 t H locs ht hvm hq hB hz1 hk1 hS => ?_)
          obtain ⟨hP1, -, hD1⟩ := hB
          rw [ht] at hP1
          have hP : va_P (dC, dI) vwCl (cX0 cy a b (X0_mounds v) z33_v_opened z33_v_roots z33_v_traps (X0_tunnels v) z33_v_molesR (X0_moles v) z33_v_moleCount (X0_fullAir v) (X0_beats v) z33_v_caught (X0_gnawed v) (X0_risen v) (X0_fallen v) ++ wX3 cy b u) H := xj_keep hP hD [(9 + 3 * (z33_v_molesR y33_3.toNatClampNeg)), (10 + 3 * (z33_v_molesR y33_3.toNatClampNeg)), (11 + 3 * (z33_v_molesR y33_3.toNatClampNeg))] hC hP1 hk1
          refine lv_iload_n hx hb dX0_digUp_46 rfl (lv_at hl 1 rfl) ?_
          obtain ⟨hqA, hqB⟩ := hq
          refine lv_icmp_ne (tgt := 55) hx hb dX0_digUp_47 (by decide) (fun c4 => ?_) (fun c4 => ?_)
          · have hq := hqB c4
            refine lv_iinc (v := (y33_3 + (-1))) (lv' := [(3, .int (y33_3 + (-1))), (0, .ref (a 0)), (1, .int x1), (2, .int y33_2)]) hx hb dX0_digUp_55 hl (k := 3) rfl rfl (by decide) rfl (fun ls hl => ?_)
            refine lv_goto (tgt := 33) hx hb dX0_digUp_58 (by decide) ?_
            exact bk33 (y33_3 + (-1)) z33_v_caught z33_v_moleCount z33_v_molesR _ _ _ hq hP hD hS (lv_sub hl [1, 2, 3, 0] rfl)
          · have hq := hqA c4
            refine lv_aload_n hx hb dX0_digUp_50 rfl (lv_at hl 0 rfl) ?_
            refine lv_iload_n hx hb dX0_digUp_51 rfl (lv_at hl 3 rfl) ?_
            have hC : (([0, 1, 2, 3, 4, 5, 6, 7, 8, 9, 10, 11, 12, 13, 14, 15, 16, 17, 18, 19, 20] : List Nat).map (fun i => (cX0 cy a b (X0_mounds v) z33_v_opened z33_v_roots z33_v_traps (X0_tunnels v) z33_v_molesR (X0_moles v) z33_v_moleCount (X0_fullAir v) (X0_beats v) z33_v_caught (X0_gnawed v) (X0_risen v) (X0_fallen v) ++ wX3 cy b u)[i]?)) = (cX0 cy a b (X0_mounds v) z33_v_opened z33_v_roots z33_v_traps (X0_tunnels v) z33_v_molesR (X0_moles v) z33_v_moleCount (X0_fullAir v) (X0_beats v) z33_v_caught (X0_gnawed v) (X0_risen v) (X0_fallen v)).map some := (xC_one (n := 0) (m := 21) rfl rfl rfl)
            have hPc := xsubP hP hC
            have hDc := xsubD hD (by decide) hC
            have hFc := va_free (wc := (cX0 cy a b (X0_mounds v) z33_v_opened z33_v_roots z33_v_traps (X0_tunnels v) z33_v_molesR (X0_moles v) z33_v_moleCount (X0_fullAir v) (X0_beats v) z33_v_caught (X0_gnawed v) (X0_risen v) (X0_fallen v))) hD hS hAe0 [0, 1, 2, 3, 4, 5, 6, 7, 8, 9, 10, 11, 12, 13, 14, 15, 16, 17, 18, 19, 20] hC
            refine va_callv (va_runV (As := [.int y33_3]) (rest := []) ⟨hx, hb, hml, hown, hts⟩ (c_X0_catchMole l dC dI cy a b _ ((X0_mounds v), z33_v_opened, z33_v_roots, z33_v_traps, (X0_tunnels v), z33_v_molesR, (X0_moles v), z33_v_moleCount, (X0_fullAir v), (X0_beats v), z33_v_caught, (X0_gnawed v), (X0_risen v), (X0_fallen v)) y33_3 _ hq) (cwV 1 hts gX0_digUp_X0_catchMole rfl rfl rfl (by decide +kernel) ⟨Nat.le_of_ble_eq_true rfl, Nat.le_of_ble_eq_true rfl⟩) ⟨xPre_blind, va_recv hK hP (ci := 0) (q0 := 0) rfl rfl, xPre_of hPc hK hDc⟩ rfl rfl hl.1 rfl (lv_room (Nat.le_of_ble_eq_true rfl)) dX0_digUp_52 ⟨Nat.le_of_ble_eq_true rfl, Nat.le_of_ble_eq_true rfl⟩) hS (fun q _ h => hFc q h) hFc (fun u9 t H locs ht hvm hq hB hz1 hk1 hS => ?_)
            obtain ⟨z52_v_caught, z52_v_moleCount, z52_v_molesR⟩ := u9
            obtain ⟨hP1, -, hD1⟩ := hB
            rw [ht] at hP1
            obtain ⟨hP, hD⟩ := xj hP hD [0, 1, 2, 3, 4, 5, 6, 7, 8, 9, 10, 11, 12, 13, 14, 15, 16, 17, 18, 19, 20] (cX0 cy a b (X0_mounds v) z33_v_opened z33_v_roots z33_v_traps (X0_tunnels v) z52_v_molesR (X0_moles v) z52_v_moleCount (X0_fullAir v) (X0_beats v) z52_v_caught (X0_gnawed v) (X0_risen v) (X0_fallen v)) (ws' := (cX0 cy a b (X0_mounds v) z33_v_opened z33_v_roots z33_v_traps (X0_tunnels v) z52_v_molesR (X0_moles v) z52_v_moleCount (X0_fullAir v) (X0_beats v) z52_v_caught (X0_gnawed v) (X0_risen v) (X0_fallen v) ++ wX3 cy b u)) hC rfl (xS_one (n := 0) (m := 21) rfl rfl rfl) hk1 hFc hP1
            refine lv_iinc (v := (y33_3 + (-1))) (lv' := [(3, .int (y33_3 + (-1))), (0, .ref (a 0)), (1, .int x1), (2, .int y33_2)]) hx hb dX0_digUp_55 hl (k := 3) rfl rfl (by decide) rfl (fun ls hl => ?_)
            refine lv_goto (tgt := 33) hx hb dX0_digUp_58 (by decide) ?_
            exact bk33 (y33_3 + (-1)) z52_v_caught z52_v_moleCount z52_v_molesR _ _ _ hq hP hD hS (lv_sub hl [1, 2, 3, 0] rfl)
    exact key _ y33_3 z33_v_caught z33_v_moleCount z33_v_molesR H locs ls h0 (Nat.lt_succ_self _) hP hD hS hl
  refine lv_aload_n hx hb dX0_digUp_0 rfl (lv_at hl 0 rfl) ?_
  refine va_get (D := (dC, dI)) (ci := 0) (v := .ref (a 2)) (C := RX0) (T := TX0) (N := 14) hx hb hts iK0 hown hK hP 0 rfl rfl 1 (by decide) lk3 (fun _ h9 => h9) rfl dX0_digUp_1 ?_
  refine lv_iload_n hx hb dX0_digUp_4 rfl (lv_at hl 1 rfl) ?_
  refine lv_iconst (v := 1) hx hb dX0_digUp_5 (by decide) ?_
  obtain ⟨g6, hq⟩ := hq
  refine va_zast hx hb hK hP hD hS 2 1 rfl rfl g6 dX0_digUp_6 (fun H locs hP hD hS => ?_)
  rw [xnar1] at hP hD
  have hP : va_P (dC, dI) vwCl (cX0 cy a b (X0_mounds v) (upd (X0_opened v) x1.toNatClampNeg 1) (X0_roots v) (X0_traps v) (X0_tunnels v) (X0_molesR v) (X0_moles v) (X0_moleCount v) (X0_fullAir v) (X0_beats v) (X0_caught v) (X0_gnawed v) (X0_risen v) (X0_fallen v) ++ wX3 cy b u) H := hP
  have hD : va_D A (cX0 cy a b (X0_mounds v) (upd (X0_opened v) x1.toNatClampNeg 1) (X0_roots v) (X0_traps v) (X0_tunnels v) (X0_molesR v) (X0_moles v) (X0_moleCount v) (X0_fullAir v) (X0_beats v) (X0_caught v) (X0_gnawed v) (X0_risen v) (X0_fallen v) ++ wX3 cy b u) := hD
  refine lv_aload_n hx hb dX0_digUp_7 rfl (lv_at hl 0 rfl) ?_
  refine va_get (D := (dC, dI)) (ci := 0) (v := .ref (a 3)) (C := RX0) (T := TX0) (N := 14) hx hb hts iK0 hown hK hP 0 rfl rfl 2 (by decide) lk4 (fun _ h9 => h9) rfl dX0_digUp_8 ?_
  refine lv_iload_n hx hb dX0_digUp_11 rfl (lv_at hl 1 rfl) ?_
  refine lv_iconst (v := 0) hx hb dX0_digUp_12 (by decide) ?_
  refine va_iast hx hb hK hP hD hS 3 0 rfl rfl g6 dX0_digUp_13 (fun H locs hP hD hS => ?_)
  have hP : va_P (dC, dI) vwCl (cX0 cy a b (X0_mounds v) (upd (X0_opened v) x1.toNatClampNeg 1) (upd (X0_roots v) x1.toNatClampNeg 0) (X0_traps v) (X0_tunnels v) (X0_molesR v) (X0_moles v) (X0_moleCount v) (X0_fullAir v) (X0_beats v) (X0_caught v) (X0_gnawed v) (X0_risen v) (X0_fallen v) ++ wX3 cy b u) H := hP
  have hD : va_D A (cX0 cy a b (X0_mounds v) (upd (X0_opened v) x1.toNatClampNeg 1) (upd (X0_roots v) x1.toNatClampNeg 0) (X0_traps v) (X0_tunnels v) (X0_molesR v) (X0_moles v) (X0_moleCount v) (X0_fullAir v) (X0_beats v) (X0_caught v) (X0_gnawed v) (X0_risen v) (X0_fallen v) ++ wX3 cy b u) := hD
  refine lv_aload_n hx hb dX0_digUp_14 rfl (lv_at hl 0 rfl) ?_
  refine va_get (D := (dC, dI)) (ci := 0) (v := .ref (a 4)) (C := RX0) (T := TX0) (N := 14) hx hb hts iK0 hown hK hP 0 rfl rfl 3 (by decide) lk5 (fun _ h9 => h9) rfl dX0_digUp_15 ?_
  refine lv_iload_n hx hb dX0_digUp_18 rfl (lv_at hl 1 rfl) ?_
  refine lv_iconst (v := (-1)) hx hb dX0_digUp_19 (by decide) ?_
  refine va_iast hx hb hK hP hD hS 4 0 rfl rfl g6 dX0_digUp_20 (fun H locs hP hD hS => ?_)
  have hP : va_P (dC, dI) vwCl (cX0 cy a b (X0_mounds v) (upd (X0_opened v) x1.toNatClampNeg 1) (upd (X0_roots v) x1.toNatClampNeg 0) (upd (X0_traps v) x1.toNatClampNeg (-1)) (X0_tunnels v) (X0_molesR v) (X0_moles v) (X0_moleCount v) (X0_fullAir v) (X0_beats v) (X0_caught v) (X0_gnawed v) (X0_risen v) (X0_fallen v) ++ wX3 cy b u) H := hP
  have hD : va_D A (cX0 cy a b (X0_mounds v) (upd (X0_opened v) x1.toNatClampNeg 1) (upd (X0_roots v) x1.toNatClampNeg 0) (upd (X0_traps v) x1.toNatClampNeg (-1)) (X0_tunnels v) (X0_molesR v) (X0_moles v) (X0_moleCount v) (X0_fullAir v) (X0_beats v) (X0_caught v) (X0_gnawed v) (X0_risen v) (X0_fallen v) ++ wX3 cy b u) := hD
  refine lv_aload_n hx hb dX0_digUp_21 rfl (lv_at hl 0 rfl) ?_
  refine va_get (D := (dC, dI)) (ci := 0) (v := .int (X0_caught v)) (C := RX0) (T := TX0) (N := 14) hx hb hts iK0 hown hK hP 0 rfl rfl 10 (by decide) lk1 (fun _ h9 => h9) rfl dX0_digUp_22 ?_
  refine lv_istore_n (lv' := [(2, .int (X0_caught v)), (0, .ref (a 0)), (1, .int x1)]) hx hb dX0_digUp_25 rfl hl (by decide) rfl (fun ls hl => ?_)
  refine lv_aload_n hx hb dX0_digUp_26 rfl (lv_at hl 1 rfl) ?_
  refine va_get (D := (dC, dI)) (ci := 0) (v := .int (X0_moleCount v)) (C := RX0) (T := TX0) (N := 14) hx hb hts iK0 hown hK hP 0 rfl rfl 7 (by decide) lk6 (fun _ h9 => h9) rfl dX0_digUp_27 ?_
  refine lv_iconst (v := 1) hx hb dX0_digUp_30 (by decide) ?_
  refine lv_isub hx hb dX0_digUp_31 ?_
  refine lv_istore_n (lv' := [(3, .int ((X0_moleCount v) - 1)), (2, .int (X0_caught v)), (0, .ref (a 0)), (1, .int x1)]) hx hb dX0_digUp_32 rfl hl (by decide) rfl (fun ls hl => ?_)
  exact J33 (X0_caught v) (upd (X0_opened v) x1.toNatClampNeg 1) (upd (X0_roots v) x1.toNatClampNeg 0) (upd (X0_traps v) x1.toNatClampNeg (-1)) ((X0_moleCount v) - 1) (X0_caught v) (X0_moleCount v) (X0_molesR v) _ _ _ hq hP hD hS (lv_sub hl [2, 3, 1, 0] rfl)
