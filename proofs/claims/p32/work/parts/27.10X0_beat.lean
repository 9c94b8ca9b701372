def wb_X0_beat_50 (v : V_X0) (u : V_X3) (z50_v_beats : Int32) (y50_1 : Int32) (y50_2 : Int32) (z50_u_cells : (Nat → Int32)) (z50_u_ends : (Nat → Int32)) (z50_u_size : Int32) (z50_u_used : Int32) (z50_v_caught : Int32) (z50_v_gnawed : Int32) (z50_v_moleCount : Int32) (z50_v_moles : (Nat → V_X1)) (z50_v_molesR : (Nat → Nat)) (z50_v_mounds : (Nat → Int32)) (z50_v_risen : Int32) (z50_v_roots : (Nat → Int32)) (z50_v_traps : (Nat → Int32)) (z50_v_tunnels : V_X3) (B50 : Int32 → Int32 → (Nat → Int32) → (Nat → Int32) → Int32 → Int32 → Int32 → Int32 → Int32 → (Nat → V_X1) → (Nat → Nat) → (Nat → Int32) → Int32 → (Nat → Int32) → (Nat → Int32) → V_X3 → Prop) (Q : (Nat → Int32) → (Nat → Int32) → Int32 → Int32 → Int32 → Int32 → Int32 → Int32 → (Nat → V_X1) → (Nat → Nat) → (Nat → Int32) → Int32 → (Nat → Int32) → (Nat → Int32) → V_X3 → Prop) : Prop :=
  ((y50_2 ≤ 0 → Q z50_u_cells z50_u_ends z50_u_size z50_u_used z50_v_beats z50_v_caught z50_v_gnawed z50_v_moleCount z50_v_moles z50_v_molesR z50_v_mounds z50_v_risen z50_v_roots z50_v_traps z50_v_tunnels) ∧
  (¬ y50_2 ≤ 0 → ((z50_v_moleCount ≤ y50_1 → B50 y50_1 (y50_2 + (-1)) z50_u_cells z50_u_ends z50_u_size z50_u_used z50_v_caught z50_v_gnawed z50_v_moleCount z50_v_moles z50_v_molesR z50_v_mounds z50_v_risen z50_v_roots z50_v_traps z50_v_tunnels) ∧
  (¬ z50_v_moleCount ≤ y50_1 → wp_X0_staysAfterTurn (z50_v_mounds, (X0_opened v), z50_v_roots, z50_v_traps, z50_v_tunnels, z50_v_molesR, z50_v_moles, z50_v_moleCount, (X0_fullAir v), z50_v_beats, z50_v_caught, z50_v_gnawed, z50_v_risen, (X0_fallen v)) (z50_u_cells, z50_u_ends, z50_u_used, z50_u_size) y50_1 (fun r64 z64_u_cells z64_u_ends z64_u_size z64_u_used z64_v_caught z64_v_gnawed z64_v_moleCount z64_v_moles z64_v_molesR z64_v_mounds z64_v_risen z64_v_roots z64_v_traps z64_v_tunnels =>
  ((r64 = 0 → B50 y50_1 (y50_2 + (-1)) z64_u_cells z64_u_ends z64_u_size z64_u_used z64_v_caught z64_v_gnawed z64_v_moleCount z64_v_moles z64_v_molesR z64_v_mounds z64_v_risen z64_v_roots z64_v_traps z64_v_tunnels) ∧
  (¬ r64 = 0 → B50 (y50_1 + 1) (y50_2 + (-1)) z64_u_cells z64_u_ends z64_u_size z64_u_used z64_v_caught z64_v_gnawed z64_v_moleCount z64_v_moles z64_v_molesR z64_v_mounds z64_v_risen z64_v_roots z64_v_traps z64_v_tunnels)))))))
def wp_X0_beat_50 (v : V_X0) (u : V_X3) (z50_v_beats : Int32) (y50_1 : Int32) (y50_2 : Int32) (z50_u_cells : (Nat → Int32)) (z50_u_ends : (Nat → Int32)) (z50_u_size : Int32) (z50_u_used : Int32) (z50_v_caught : Int32) (z50_v_gnawed : Int32) (z50_v_moleCount : Int32) (z50_v_moles : (Nat → V_X1)) (z50_v_molesR : (Nat → Nat)) (z50_v_mounds : (Nat → Int32)) (z50_v_risen : Int32) (z50_v_roots : (Nat → Int32)) (z50_v_traps : (Nat → Int32)) (z50_v_tunnels : V_X3) (Q : (Nat → Int32) → (Nat → Int32) → Int32 → Int32 → Int32 → Int32 → Int32 → Int32 → (Nat → V_X1) → (Nat → Nat) → (Nat → Int32) → Int32 → (Nat → Int32) → (Nat → Int32) → V_X3 → Prop) : Prop :=
  ∃ (I : Int32 → Int32 → (Nat → Int32) → (Nat → Int32) → Int32 → Int32 → Int32 → Int32 → Int32 → (Nat → V_X1) → (Nat → Nat) → (Nat → Int32) → Int32 → (Nat → Int32) → (Nat → Int32) → V_X3 → Prop) (μ : Int32 → Int32 → (Nat → Int32) → (Nat → Int32) → Int32 → Int32 → Int32 → Int32 → Int32 → (Nat → V_X1) → (Nat → Nat) → (Nat → Int32) → Int32 → (Nat → Int32) → (Nat → Int32) → V_X3 → Nat), I y50_1 y50_2 z50_u_cells z50_u_ends z50_u_size z50_u_used z50_v_caught z50_v_gnawed z50_v_moleCount z50_v_moles z50_v_molesR z50_v_mounds z50_v_risen z50_v_roots z50_v_traps z50_v_tunnels ∧ ∀ (s0 : Int32) (s1 : Int32) (s2 : (Nat → Int32)) (s3 : (Nat → Int32)) (s4 : Int32) (s5 : Int32) (s6 : Int32) (s7 : Int32) (s8 : Int32) (s9 : (Nat → V_X1)) (s10 : (Nat → Nat)) (s11 : (Nat → Int32)) (s12 : Int32) (s13 : (Nat → Int32)) (s14 : (Nat → Int32)) (s15 : V_X3), I s0 s1 s2 s3 s4 s5 s6 s7 s8 s9 s10 s11 s12 s13 s14 s15 → wb_X0_beat_50 v u z50_v_beats s0 s1 s2 s3 s4 s5 s6 s7 s8 s9 s10 s11 s12 s13 s14 s15 (fun t0 t1 t2 t3 t4 t5 t6 t7 t8 t9 t10 t11 t12 t13 t14 t15 => I t0 t1 t2 t3 t4 t5 t6 t7 t8 t9 t10 t11 t12 t13 t14 t15 ∧ μ t0 t1 t2 t3 t4 t5 t6 t7 t8 t9 t10 t11 t12 t13 t14 t15 < μ s0 s1 s2 s3 s4 s5 s6 s7 s8 s9 s10 s11 s12 s13 s14 s15) Q
def wb_X0_beat_12 (v : V_X0) (u : V_X3) (z12_v_beats : Int32) (y12_1 : Int32) (z12_v_traps : (Nat → Int32)) (B12 : Int32 → (Nat → Int32) → Prop) (Q : (Nat → Int32) → (Nat → Int32) → Int32 → Int32 → Int32 → Int32 → Int32 → Int32 → (Nat → V_X1) → (Nat → Nat) → (Nat → Int32) → Int32 → (Nat → Int32) → (Nat → Int32) → V_X3 → Prop) : Prop :=
  ((64 ≤ y12_1 → wp_X0_beat_50 v u z12_v_beats 0 (X0_moleCount v) (X3_cells u) (X3_ends u) (X3_size u) (X3_used u) (X0_caught v) (X0_gnawed v) (X0_moleCount v) (X0_moles v) (X0_molesR v) (X0_mounds v) (X0_risen v) (X0_roots v) z12_v_traps (X0_tunnels v) Q) ∧
  (¬ 64 ≤ y12_1 → vp_in y12_1 64 ∧ (((z12_v_traps y12_1.toNatClampNeg) ≤ 0 → B12 (y12_1 + 1) z12_v_traps) ∧
  (¬ (z12_v_traps y12_1.toNatClampNeg) ≤ 0 → B12 (y12_1 + 1) (upd z12_v_traps y12_1.toNatClampNeg ((z12_v_traps y12_1.toNatClampNeg) - 1))))))
def wp_X0_beat_12 (v : V_X0) (u : V_X3) (z12_v_beats : Int32) (y12_1 : Int32) (z12_v_traps : (Nat → Int32)) (Q : (Nat → Int32) → (Nat → Int32) → Int32 → Int32 → Int32 → Int32 → Int32 → Int32 → (Nat → V_X1) → (Nat → Nat) → (Nat → Int32) → Int32 → (Nat → Int32) → (Nat → Int32) → V_X3 → Prop) : Prop :=
  ∃ (I : Int32 → (Nat → Int32) → Prop) (μ : Int32 → (Nat → Int32) → Nat), I y12_1 z12_v_traps ∧ ∀ (s0 : Int32) (s1 : (Nat → Int32)), I s0 s1 → wb_X0_beat_12 v u z12_v_beats s0 s1 (fun t0 t1 => I t0 t1 ∧ μ t0 t1 < μ s0 s1) Q
def wp_X0_beat (v : V_X0) (u : V_X3) (Q : (Nat → Int32) → (Nat → Int32) → Int32 → Int32 → Int32 → Int32 → Int32 → Int32 → (Nat → V_X1) → (Nat → Nat) → (Nat → Int32) → Int32 → (Nat → Int32) → (Nat → Int32) → V_X3 → Prop) : Prop :=
  wp_X0_beat_12 v u ((X0_beats v) + 1) 0 (X0_traps v) Q
def q_X0_beat (dC : Nat → ClassId) (dI : Nat → Nat → Nat) (cy : Nat → ClassId) (a b : Nat → Nat) (v : V_X0) (u : V_X3) (Q : (Nat → Int32) → (Nat → Int32) → Int32 → Int32 → Int32 → Int32 → Int32 → Int32 → (Nat → V_X1) → (Nat → Nat) → (Nat → Int32) → Int32 → (Nat → Int32) → (Nat → Int32) → V_X3 → Prop) (A : Nat → Prop) : Array Value → State → Outcome → State → Prop := va_Qv (fun (u : (Nat → Int32) × (Nat → Int32) × Int32 × Int32 × Int32 × Int32 × Int32 × Int32 × (Nat → V_X1) × (Nat → Nat) × (Nat → Int32) × Int32 × (Nat → Int32) × (Nat → Int32) × V_X3) => Q u.1 u.2.1 u.2.2.1 u.2.2.2.1 u.2.2.2.2.1 u.2.2.2.2.2.1 u.2.2.2.2.2.2.1 u.2.2.2.2.2.2.2.1 u.2.2.2.2.2.2.2.2.1 u.2.2.2.2.2.2.2.2.2.1 u.2.2.2.2.2.2.2.2.2.2.1 u.2.2.2.2.2.2.2.2.2.2.2.1 u.2.2.2.2.2.2.2.2.2.2.2.2.1 u.2.2.2.2.2.2.2.2.2.2.2.2.2.1 u.2.2.2.2.2.2.2.2.2.2.2.2.2.2) (fun (u : (Nat → Int32) × (Nat → Int32) × Int32 × Int32 × Int32 × Int32 × Int32 × Int32 × (Nat → V_X1) × (Nat → Nat) × (Nat → Int32) × Int32 × (Nat → Int32) × (Nat → Int32) × V_X3) t => xAt dC dI cy A (cX0 cy a b u.2.2.2.2.2.2.2.2.2.2.1 (X0_opened v) u.2.2.2.2.2.2.2.2.2.2.2.2.1 u.2.2.2.2.2.2.2.2.2.2.2.2.2.1 u.2.2.2.2.2.2.2.2.2.2.2.2.2.2 u.2.2.2.2.2.2.2.2.2.1 u.2.2.2.2.2.2.2.2.1 u.2.2.2.2.2.2.2.1 (X0_fullAir v) u.2.2.2.2.1 u.2.2.2.2.2.1 u.2.2.2.2.2.2.1 u.2.2.2.2.2.2.2.2.2.2.2.1 (X0_fallen v) ++ cX3 cy b u.1 u.2.1 u.2.2.2.1 u.2.2.1) t) A
set_option maxHeartbeats 4000000 in
set_option maxRecDepth 100000 in
theorem c_X0_beat (l : Launch) (dC : Nat → ClassId) (dI : Nat → Nat → Nat) (cy : Nat → ClassId) (a b : Nat → Nat) (sz : Nat) (v : V_X0) (u : V_X3) (Q : (Nat → Int32) → (Nat → Int32) → Int32 → Int32 → Int32 → Int32 → Int32 → Int32 → (Nat → V_X1) → (Nat → Nat) → (Nat → Int32) → Int32 → (Nat → Int32) → (Nat → Int32) → V_X3 → Prop) (hq : wp_X0_beat v u Q) : Met l yX0_beat wsX0_beat ({ frames := 5, cells := 0, slots := 0, locals := 121 } : Room) (va_Pc [.ref (a 0)] (xPreE dC dI cy (wX0 cy a b v ++ wX3 cy b u) sz)) (q_X0_beat dC dI cy a b v u Q (va_A (wX0 cy a b v ++ wX3 cy b u) sz)) 0 0 (va_A (wX0 cy a b v ++ wX3 cy b u) sz) := by
  refine Met.ofW (cc := cX0_beat) (maxL := 3) (ret := none) (by decide) rfl ?_
  intro p e s m args below meth c s₁ B hml hv
  obtain ⟨rfl, hsz, hP, hK, hD0, hE⟩ := hv
  have hx := B.exec
  have hb := B.bytes
  have hr := B.returns
  have hts := atoms_spec (ws := wsX0_beat) B.pre
  have hown : s.vm.findClass RX0 = some m.cls := findClass_of_methodNamed B.named
  have hlocks := B.notSynchronized
  subst hsz
  have hD := hD0.self (sz := s.heap.size)
  generalize hAe : va_A (wX0 cy a b v ++ wX3 cy b u) s.heap.size = A at hD hE ⊢
  have hAe0 : ∀ q : Nat, s.heap.size ≤ q → A q := fun q h => by rw [← hAe]; exact Or.inr h
  have hS : va_S A s.heap s.heap [] := va_S.rf
  have hl := lv_entry ([.ref (a 0)]) (n := 3) (Nat.le_of_ble_eq_true rfl)
  rw [lg_entry_eq]
  generalize (lg_sl ([.ref (a 0)]) ++ List.replicate (3 - (lg_sl ([.ref (a 0)])).length) Slot.unset).toArray = ls at hl ⊢
  have hl : lv_has ls 3 [(0, .ref (a 0))] := hl
  have lk0 := hts (Cond.fieldLink RX0 56 "MolesLawn$Lawn" "moleCount" "I") (List.mem_cons_of_mem _ (List.mem_append_left _ (List.mem_append_left _ (List.mem_append_left _ (List.mem_append_left _ (List.mem_of_getElem? (i := 2) rfl))))))
  have lk1 := hts (Cond.fieldLink RX0 22 "MolesLawn$Lawn" "traps" "[I") (List.mem_cons_of_mem _ (List.mem_append_left _ (List.mem_append_left _ (List.mem_append_left _ (List.mem_append_left _ (List.mem_of_getElem? (i := 1) rfl))))))
  have lk2 := hts (Cond.fieldLink RX0 62 "MolesLawn$Lawn" "beats" "I") (List.mem_cons_of_mem _ (List.mem_append_left _ (List.mem_append_left _ (List.mem_append_left _ (List.mem_append_left _ (List.mem_of_getElem? (i := 0) rfl))))))
  have iK0 : ∀ w ∈ wsX00, w ∈ wsX0_beat := fun _ h => (List.mem_cons_of_mem _ (List.mem_append_left _ (List.mem_append_left _ (List.mem_append_right _ h))))
  unfold wp_X0_beat at hq
  have J50 : ∀ (z50_v_beats : Int32) (y50_1 : Int32) (y50_2 : Int32) (z50_u_cells : (Nat → Int32)) (z50_u_ends : (Nat → Int32)) (z50_u_size : Int32) (z50_u_used : Int32) (z50_v_caught : Int32) (z50_v_gnawed : Int32) (z50_v_moleCount : Int32) (z50_v_moles : (Nat → V_X1)) (z50_v_molesR : (Nat → Nat)) (z50_v_mounds : (Nat → Int32)) (z50_v_risen : Int32) (z50_v_roots : (Nat → Int32)) (z50_v_traps : (Nat → Int32)) (z50_v_tunnels : V_X3) (H : Heap) (locs : List Loc) (ls : Array Slot), wp_X0_beat_50 v u z50_v_beats y50_1 y50_2 z50_u_cells z50_u_ends z50_u_size z50_u_used z50_v_caught z50_v_gnawed z50_v_moleCount z50_v_moles z50_v_molesR z50_v_mounds z50_v_risen z50_v_roots z50_v_traps z50_v_tunnels Q → va_P (dC, dI) vwCl (cX0 cy a b z50_v_mounds (X0_opened v) z50_v_roots z50_v_traps z50_v_tunnels z50_v_molesR z50_v_moles z50_v_moleCount (X0_fullAir v) z50_v_beats z50_v_caught z50_v_gnawed z50_v_risen (X0_fallen v) ++ cX3 cy b z50_u_cells z50_u_ends z50_u_used z50_u_size) H → va_D A (cX0 cy a b z50_v_mounds (X0_opened v) z50_v_roots z50_v_traps z50_v_tunnels z50_v_molesR z50_v_moles z50_v_moleCount (X0_fullAir v) z50_v_beats z50_v_caught z50_v_gnawed z50_v_risen (X0_fallen v) ++ cX3 cy b z50_u_cells z50_u_ends z50_u_used z50_u_size) → va_S A s.heap H locs → lv_has ls 3 [(0, .ref (a 0)), (1, .int y50_1), (2, .int y50_2)] → W p l e (headSpec wsX0_beat ({ frames := 5, cells := 0, slots := 0, locals := 121 } : Room)).room s m ([.ref (a 0)] : List Value).toArray below meth c H locs 0 0 (MQ below (q_X0_beat dC dI cy a b v u Q A) ([.ref (a 0)] : List Value).toArray s 0 0 A) (F0 m 50 ls []) := by
    intro z50_v_beats y50_1 y50_2 z50_u_cells z50_u_ends z50_u_size z50_u_used z50_v_caught z50_v_gnawed z50_v_moleCount z50_v_moles z50_v_molesR z50_v_mounds z50_v_risen z50_v_roots z50_v_traps z50_v_tunnels H locs ls hq hP hD hS hl
    obtain ⟨I50, μ50, h0, hs50⟩ := hq
    have key : ∀ (n : Nat) (y50_1 : Int32) (y50_2 : Int32) (z50_u_cells : (Nat → Int32)) (z50_u_ends : (Nat → Int32)) (z50_u_size : Int32) (z50_u_used : Int32) (z50_v_caught : Int32) (z50_v_gnawed : Int32) (z50_v_moleCount : Int32) (z50_v_moles : (Nat → V_X1)) (z50_v_molesR : (Nat → Nat)) (z50_v_mounds : (Nat → Int32)) (z50_v_risen : Int32) (z50_v_roots : (Nat → Int32)) (z50_v_traps : (Nat → Int32)) (z50_v_tunnels : V_X3) (H : Heap) (locs : List Loc) (ls : Array Slot), I50 y50_1 y50_2 z50_u_cells z50_u_ends z50_u_size z50_u_used z50_v_caught z50_v_gnawed z50_v_moleCount z50_v_moles z50_v_molesR z50_v_mounds z50_v_risen z50_v_roots z50_v_traps z50_v_tunnels → μ50 y50_1 y50_2 z50_u_cells z50_u_ends z50_u_size z50_u_used z50_v_caught z50_v_gnawed z50_v_moleCount z50_v_moles z50_v_molesR z50_v_mounds z50_v_risen z50_v_roots z50_v_traps z50_v_tunnels < n → va_P (dC, dI) vwCl (cX0 cy a b z50_v_mounds (X0_opened v) z50_v_roots z50_v_traps z50_v_tunnels z50_v_molesR z50_v_moles z50_v_moleCount (X0_fullAir v) z50_v_beats z50_v_caught z50_v_gnawed z50_v_risen (X0_fallen v) ++ cX3 cy b z50_u_cells z50_u_ends z50_u_used z50_u_size) H → va_D A (cX0 cy a b z50_v_mounds (X0_opened v) z50_v_roots z50_v_traps z50_v_tunnels z50_v_molesR z50_v_moles z50_v_moleCount (X0_fullAir v) z50_v_beats z50_v_caught z50_v_gnawed z50_v_risen (X0_fallen v) ++ cX3 cy b z50_u_cells z50_u_ends z50_u_used z50_u_size) → va_S A s.heap H locs → lv_has ls 3 [(0, .ref (a 0)), (1, .int y50_1), (2, .int y50_2)] → W p l e (headSpec wsX0_beat ({ frames := 5, cells := 0, slots := 0, locals := 121 } : Room)).room s m ([.ref (a 0)] : List Value).toArray below meth c H locs 0 0 (MQ below (q_X0_beat dC dI cy a b v u Q A) ([.ref (a 0)] : List Value).toArray s 0 0 A) (F0 m 50 ls []) := by
      intro n
      induction n with
      | zero => intro y50_1 y50_2 z50_u_cells z50_u_ends z50_u_size z50_u_used z50_v_caught z50_v_gnawed z50_v_moleCount z50_v_moles z50_v_molesR z50_v_mounds z50_v_risen z50_v_roots z50_v_traps z50_v_tunnels H locs ls _ hm; exact absurd hm (Nat.not_lt_zero _)
      | succ n ih =>
        intro y50_1 y50_2 z50_u_cells z50_u_ends z50_u_size z50_u_used z50_v_caught z50_v_gnawed z50_v_moleCount z50_v_moles z50_v_molesR z50_v_mounds z50_v_risen z50_v_roots z50_v_traps z50_v_tunnels H locs ls hI hm hP hD hS hl
        have hq := hs50 y50_1 y50_2 z50_u_cells z50_u_ends z50_u_size z50_u_used z50_v_caught z50_v_gnawed z50_v_moleCount z50_v_moles z50_v_molesR z50_v_mounds z50_v_risen z50_v_roots z50_v_traps z50_v_tunnels hI
        generalize hB50 : (fun (t0 : Int32) (t1 : Int32) (t2 : (Nat → Int32)) (t3 : (Nat → Int32)) (t4 : Int32) (t5 : Int32) (t6 : Int32) (t7 : Int32) (t8 : Int32) (t9 : (Nat → V_X1)) (t10 : (Nat → Nat)) (t11 : (Nat → Int32)) (t12 : Int32) (t13 : (Nat → Int32)) (t14 : (Nat → Int32)) (t15 : V_X3) => I50 t0 t1 t2 t3 t4 t5 t6 t7 t8 t9 t10 t11 t12 t13 t14 t15 ∧ μ50 t0 t1 t2 t3 t4 t5 t6 t7 t8 t9 t10 t11 t12 t13 t14 t15 < μ50 y50_1 y50_2 z50_u_cells z50_u_ends z50_u_size z50_u_used z50_v_caught z50_v_gnawed z50_v_moleCount z50_v_moles z50_v_molesR z50_v_mounds z50_v_risen z50_v_roots z50_v_traps z50_v_tunnels) = B50 at hq
        have bk50 : ∀ (y50_1 : Int32) (y50_2 : Int32) (z50_u_cells : (Nat → Int32)) (z50_u_ends : (Nat → Int32)) (z50_u_size : Int32) (z50_u_used : Int32) (z50_v_caught : Int32) (z50_v_gnawed : Int32) (z50_v_moleCount : Int32) (z50_v_moles : (Nat → V_X1)) (z50_v_molesR : (Nat → Nat)) (z50_v_mounds : (Nat → Int32)) (z50_v_risen : Int32) (z50_v_roots : (Nat → Int32)) (z50_v_traps : (Nat → Int32)) (z50_v_tunnels : V_X3) (H : Heap) (locs : List Loc) (ls : Array Slot), B50 y50_1 y50_2 z50_u_cells z50_u_ends z50_u_size z50_u_used z50_v_caught z50_v_gnawed z50_v_moleCount z50_v_moles z50_v_molesR z50_v_mounds z50_v_risen z50_v_roots z50_v_traps z50_v_tunnels → va_P (dC, dI) vwCl (cX0 cy a b z50_v_mounds (X0_opened v) z50_v_roots z50_v_traps z50_v_tunnels z50_v_molesR z50_v_moles z50_v_moleCount (X0_fullAir v) z50_v_beats z50_v_caught z50_v_gnawed z50_v_risen (X0_fallen v) ++ cX3 cy b z50_u_cells z50_u_ends z50_u_used z50_u_size) H → va_D A (cX0 cy a b z50_v_mounds (X0_opened v) z50_v_roots z50_v_traps z50_v_tunnels z50_v_molesR z50_v_moles z50_v_moleCount (X0_fullAir v) z50_v_beats z50_v_caught z50_v_gnawed z50_v_risen (X0_fallen v) ++ cX3 cy b z50_u_cells z50_u_ends z50_u_used z50_u_size) → va_S A s.heap H locs → lv_has ls 3 [(0, .ref (a 0)), (1, .int y50_1), (2, .int y50_2)] → W p l e (headSpec wsX0_beat ({ frames := 5, cells := 0, slots := 0, locals := 121 } : Room)).room s m ([.ref (a 0)] : List Value).toArray below meth c H locs 0 0 (MQ below (q_X0_beat dC dI cy a b v u Q A) ([.ref (a 0)] : List Value).toArray s 0 0 A) (F0 m 50 ls []) := by
          intro y50_1 y50_2 z50_u_cells z50_u_ends z50_u_size z50_u_used z50_v_caught z50_v_gnawed z50_v_moleCount z50_v_moles z50_v_molesR z50_v_mounds z50_v_risen z50_v_roots z50_v_traps z50_v_tunnels H locs ls h
          rw [← hB50] at h
          exact ih y50_1 y50_2 z50_u_cells z50_u_ends z50_u_size z50_u_used z50_v_caught z50_v_gnawed z50_v_moleCount z50_v_moles z50_v_molesR z50_v_mounds z50_v_risen z50_v_roots z50_v_traps z50_v_tunnels H locs ls h.1 (Nat.lt_of_lt_of_le h.2 (Nat.le_of_lt_succ hm))
        unfold wb_X0_beat_50 at hq
        refine lv_iload_n hx hb dX0_beat_50 rfl (lv_at hl 2 rfl) ?_
        obtain ⟨hqA, hqB⟩ := hq
        refine lv_if_le (tgt := 79) hx hb dX0_beat_51 (by decide) (fun c3 => ?_) (fun c3 => ?_)
        · have hq := hqA c3
          exact W.vret hx hb hr (fun t ht hW => ⟨⟨(z50_u_cells, z50_u_ends, z50_u_size, z50_u_used, z50_v_beats, z50_v_caught, z50_v_gnawed, z50_v_moleCount, z50_v_moles, z50_v_molesR, z50_v_mounds, z50_v_risen, z50_v_roots, z50_v_traps, z50_v_tunnels), rfl, hq, (xAt_of hP hK hD ht hW)⟩, hS.F ht⟩) hS.2.2 dX0_beat_79
        · have hq := hqB c3
          refine lv_iload_n hx hb dX0_beat_54 rfl (lv_at hl 1 rfl) ?_
          refine lv_aload_n hx hb dX0_beat_55 rfl (lv_at hl 0 rfl) ?_
          refine va_get (D := (dC, dI)) (ci := 0) (v := .int z50_v_moleCount) (C := RX0) (T := TX0) (N := 14) hx hb hts iK0 hown hK hP 0 rfl rfl 7 (by decide) lk0 (fun _ h9 => h9) rfl dX0_beat_56 ?_
          obtain ⟨hqA, hqB⟩ := hq
          refine lv_icmp_ge (tgt := 73) hx hb dX0_beat_59 (by decide) (fun c2 => ?_) (fun c2 => ?_)
          · have hq := hqA c2
            refine lv_iinc (v := (y50_2 + (-1))) (lv' := [(2, .int (y50_2 + (-1))), (0, .ref (a 0)), (1, .int y50_1)]) hx hb dX0_beat_73 hl (k := 2) rfl rfl (by decide) rfl (fun ls hl => ?_)
            refine lv_goto (tgt := 50) hx hb dX0_beat_76 (by decide) ?_
            exact bk50 y50_1 (y50_2 + (-1)) z50_u_cells z50_u_ends z50_u_size z50_u_used z50_v_caught z50_v_gnawed z50_v_moleCount z50_v_moles z50_v_molesR z50_v_mounds z50_v_risen z50_v_roots z50_v_traps z50_v_tunnels _ _ _ hq hP hD hS (lv_sub hl [1, 2, 0] rfl)
          · have hq := hqB c2
            refine lv_aload_n hx hb dX0_beat_62 rfl (lv_at hl 0 rfl) ?_
            refine lv_iload_n hx hb dX0_beat_63 rfl (lv_at hl 1 rfl) ?_
            have hFc := xfree_same hS hAe0 (ws := (cX0 cy a b z50_v_mounds (X0_opened v) z50_v_roots z50_v_traps z50_v_tunnels z50_v_molesR z50_v_moles z50_v_moleCount (X0_fullAir v) z50_v_beats z50_v_caught z50_v_gnawed z50_v_risen (X0_fallen v) ++ cX3 cy b z50_u_cells z50_u_ends z50_u_used z50_u_size)) hD
            refine va_calli (va_runV (As := [.int y50_1]) (rest := []) ⟨hx, hb, hml, hown, hts⟩ (c_X0_staysAfterTurn l dC dI cy a b _ (z50_v_mounds, (X0_opened v), z50_v_roots, z50_v_traps, z50_v_tunnels, z50_v_molesR, z50_v_moles, z50_v_moleCount, (X0_fullAir v), z50_v_beats, z50_v_caught, z50_v_gnawed, z50_v_risen, (X0_fallen v)) (z50_u_cells, z50_u_ends, z50_u_used, z50_u_size) y50_1 _ hq) (cwV 1 hts gX0_beat_X0_staysAfterTurn rfl rfl rfl (by decide +kernel) ⟨Nat.le_of_ble_eq_true rfl, Nat.le_of_ble_eq_true rfl⟩) ⟨xPre_blindE, va_recv hK hP (ci := 0) (q0 := 0) rfl rfl, xPre_ofE hP hK hD hE hS hFc⟩ rfl rfl hl.1 rfl (lv_room (Nat.le_of_ble_eq_true rfl)) dX0_beat_64 ⟨Nat.le_of_ble_eq_true rfl, Nat.le_of_ble_eq_true rfl⟩) hS (fun q _ h => hFc q h) hFc (fun r64 u9 t H locs ht hvm hq hB hz1 hk1 hS => ?_)
            obtain ⟨z64_u_cells, z64_u_ends, z64_u_size, z64_u_used, z64_v_caught, z64_v_gnawed, z64_v_moleCount, z64_v_moles, z64_v_molesR, z64_v_mounds, z64_v_risen, z64_v_roots, z64_v_traps, z64_v_tunnels⟩ := u9
            obtain ⟨hP1, -, hD1⟩ := hB
            rw [ht] at hP1
            have hP : va_P (dC, dI) vwCl (cX0 cy a b z64_v_mounds (X0_opened v) z64_v_roots z64_v_traps z64_v_tunnels z64_v_molesR z64_v_moles z64_v_moleCount (X0_fullAir v) z50_v_beats z64_v_caught z64_v_gnawed z64_v_risen (X0_fallen v) ++ cX3 cy b z64_u_cells z64_u_ends z64_u_used z64_u_size) H := hP1
            have hD : va_D A (cX0 cy a b z64_v_mounds (X0_opened v) z64_v_roots z64_v_traps z64_v_tunnels z64_v_molesR z64_v_moles z64_v_moleCount (X0_fullAir v) z50_v_beats z64_v_caught z64_v_gnawed z64_v_risen (X0_fallen v) ++ cX3 cy b z64_u_cells z64_u_ends z64_u_used z64_u_size) := hD1.weaken (fun _ q _ h => hFc q.1 h)
            obtain ⟨hqA, hqB⟩ := hq
            refine lv_if_eq (tgt := 73) hx hb dX0_beat_67 (by decide) (fun c1 => ?_) (fun c1 => ?_)
            · have hq := hqA c1
              refine lv_iinc (v := (y50_2 + (-1))) (lv' := [(2, .int (y50_2 + (-1))), (0, .ref (a 0)), (1, .int y50_1)]) hx hb dX0_beat_73 hl (k := 2) rfl rfl (by decide) rfl (fun ls hl => ?_)
              refine lv_goto (tgt := 50) hx hb dX0_beat_76 (by decide) ?_
              exact bk50 y50_1 (y50_2 + (-1)) z64_u_cells z64_u_ends z64_u_size z64_u_used z64_v_caught z64_v_gnawed z64_v_moleCount z64_v_moles z64_v_molesR z64_v_mounds z64_v_risen z64_v_roots z64_v_traps z64_v_tunnels _ _ _ hq hP hD hS (lv_sub hl [1, 2, 0] rfl)
            · have hq := hqB c1
              refine lv_iinc (v := (y50_1 + 1)) (lv' := [(1, .int (y50_1 + 1)), (0, .ref (a 0)), (2, .int y50_2)]) hx hb dX0_beat_70 hl (k := 1) rfl rfl (by decide) rfl (fun ls hl => ?_)
              refine lv_iinc (v := (y50_2 + (-1))) (lv' := [(2, .int (y50_2 + (-1))), (1, .int (y50_1 + 1)), (0, .ref (a 0))]) hx hb dX0_beat_73 hl (k := 2) rfl rfl (by decide) rfl (fun ls hl => ?_)
              refine lv_goto (tgt := 50) hx hb dX0_beat_76 (by decide) ?_
              exact bk50 (y50_1 + 1) (y50_2 + (-1)) z64_u_cells z64_u_ends z64_u_size z64_u_used z64_v_caught z64_v_gnawed z64_v_moleCount z64_v_moles z64_v_molesR z64_v_mounds z64_v_risen z64_v_roots z64_v_traps z64_v_tunnels _ _ _ hq hP hD hS (lv_sub hl [2, 1, 0] rfl)
    exact key _ y50_1 y50_2 z50_u_cells z50_u_ends z50_u_size z50_u_used z50_v_caught z50_v_gnawed z50_v_moleCount z50_v_moles z50_v_molesR z50_v_mounds z50_v_risen z50_v_roots z50_v_traps z50_v_tunnels H locs ls h0 (Nat.lt_succ_self _) hP hD hS hl
  have J12 : ∀ (z12_v_beats : Int32) (y12_1 : Int32) (z12_v_traps : (Nat → Int32)) (H : Heap) (locs : List Loc) (ls : Array Slot), wp_X0_beat_12 v u z12_v_beats y12_1 z12_v_traps Q → va_P (dC, dI) vwCl (cX0 cy a b (X0_mounds v) (X0_opened v) (X0_roots v) z12_v_traps (X0_tunnels v) (X0_molesR v) (X0_moles v) (X0_moleCount v) (X0_fullAir v) z12_v_beats (X0_caught v) (X0_gnawed v) (X0_risen v) (X0_fallen v) ++ wX3 cy b u) H → va_D A (cX0 cy a b (X0_mounds v) (X0_opened v) (X0_roots v) z12_v_traps (X0_tunnels v) (X0_molesR v) (X0_moles v) (X0_moleCount v) (X0_fullAir v) z12_v_beats (X0_caught v) (X0_gnawed v) (X0_risen v) (X0_fallen v) ++ wX3 cy b u) → va_S A s.heap H locs → lv_has ls 3 [(0, .ref (a 0)), (1, .int y12_1)] → W p l e (headSpec wsX0_beat ({ frames := 5, cells := 0, slots := 0, locals := 121 } : Room)).room s m ([.ref (a 0)] : List Value).toArray below meth c H locs 0 0 (MQ below (q_X0_beat dC dI cy a b v u Q A) ([.ref (a 0)] : List Value).toArray s 0 0 A) (F0 m 12 ls []) := by
    intro z12_v_beats y12_1 z12_v_traps H locs ls hq hP hD hS hl
    obtain ⟨I12, μ12, h0, hs12⟩ := hq
    have key : ∀ (n : Nat) (y12_1 : Int32) (z12_v_traps : (Nat → Int32)) (H : Heap) (locs : List Loc) (ls : Array Slot), I12 y12_1 z12_v_traps → μ12 y12_1 z12_v_traps < n → va_P (dC, dI) vwCl (cX0 cy a b (X0_mounds v) (X0_opened v) (X0_roots v) z12_v_traps (X0_tunnels v) (X0_molesR v) (X0_moles v) (X0_moleCount v) (X0_fullAir v) z12_v_beats (X0_caught v) (X0_gnawed v) (X0_risen v) (X0_fallen v) ++ wX3 cy b u) H → va_D A (cX0 cy a b (X0_mounds v) (X0_opened v) (X0_roots v) z12_v_traps (X0_tunnels v) (X0_molesR v) (X0_moles v) (X0_moleCount v) (X0_fullAir v) z12_v_beats (X0_caught v) (X0_gnawed v) (X0_risen v) (X0_fallen v) ++ wX3 cy b u) → va_S A s.heap H locs → lv_has ls 3 [(0, .ref (a 0)), (1, .int y12_1)] → W p l e (headSpec wsX0_beat ({ frames := 5, cells := 0, slots := 0, locals := 121 } : Room)).room s m ([.ref (a 0)] : List Value).toArray below meth c H locs 0 0 (MQ below (q_X0_beat dC dI cy a b v u Q A) ([.ref (a 0)] : List Value).toArray s 0 0 A) (F0 m 12 ls []) := by
      intro n
      induction n with
      | zero => intro y12_1 z12_v_traps H locs ls _ hm; exact absurd hm (Nat.not_lt_zero _)
      | succ n ih =>
        intro y12_1 z12_v_traps H locs ls hI hm hP hD hS hl
        have hq := hs12 y12_1 z12_v_traps hI
        generalize hB12 : (fun (t0 : Int32) (t1 : (Nat → Int32)) => I12 t0 t1 ∧ μ12 t0 t1 < μ12 y12_1 z12_v_traps) = B12 at hq
        have bk12 : ∀ (y12_1 : Int32) (z12_v_traps : (Nat → Int32)) (H : Heap) (locs : List Loc) (ls : Array Slot), B12 y12_1 z12_v_traps → va_P (dC, dI) vwCl (cX0 cy a b (X0_mounds v) (X0_opened v) (X0_roots v) z12_v_traps (X0_tunnels v) (X0_molesR v) (X0_moles v) (X0_moleCount v) (X0_fullAir v) z12_v_beats (X0_caught v) (X0_gnawed v) (X0_risen v) (X0_fallen v) ++ wX3 cy b u) H → va_D A (cX0 cy a b (X0_mounds v) (X0_opened v) (X0_roots v) z12_v_traps (X0_tunnels v) (X0_molesR v) (X0_moles v) (X0_moleCount v) (X0_fullAir v) z12_v_beats (X0_caught v) (X0_gnawed v) (X0_risen v) (X0_fallen v) ++ wX3 cy b u) → va_S A s.heap H locs → lv_has ls 3 [(0, .ref (a 0)), (1, .int y12_1)] → W p l e (headSpec wsX0_beat ({ frames := 5, cells := 0, slots := 0, locals := 121 } : Room)).room s m ([.ref (a 0)] : List Value).toArray below meth c H locs 0 0 (MQ below (q_X0_beat dC dI cy a b v u Q A) ([.ref (a 0)] : List Value).toArray s 0 0 A) (F0 m 12 ls []) := by
          intro y12_1 z12_v_traps H locs ls h
          rw [← hB12] at h
          exact ih y12_1 z12_v_traps H locs ls h.1 (Nat.lt_of_lt_of_le h.2 (Nat.le_of_lt_succ hm))
        unfold wb_X0_beat_12 at hq
        refine lv_iload_n hx hb dX0_beat_12 rfl (lv_at hl 1 rfl) ?_
        refine lv_bipush (v := 64) hx hb dX0_beat_13 (by decide) ?_
        obtain ⟨hqA, hqB⟩ := hq
        refine lv_icmp_ge (tgt := 43) hx hb dX0_beat_15 (by decide) (fun c6 => ?_) (fun c6 => ?_)
        · have hq := hqA c6
          refine lv_iconst (v := 0) hx hb dX0_beat_43 (by decide) ?_
          refine lv_istore_n (lv' := [(1, .int 0), (0, .ref (a 0))]) hx hb dX0_beat_44 rfl hl (by decide) rfl (fun ls hl => ?_)
          refine lv_aload_n hx hb dX0_beat_45 rfl (lv_at hl 1 rfl) ?_
          refine va_get (D := (dC, dI)) (ci := 0) (v := .int (X0_moleCount v)) (C := RX0) (T := TX0) (N := 14) hx hb hts iK0 hown hK hP 0 rfl rfl 7 (by decide) lk0 (fun _ h9 => h9) rfl dX0_beat_46 ?_
          refine lv_istore_n (lv' := [(2, .int (X0_moleCount v)), (1, .int 0), (0, .ref (a 0))]) hx hb dX0_beat_49 rfl hl (by decide) rfl (fun ls hl => ?_)
          exact J50 z12_v_beats 0 (X0_moleCount v) (X3_cells u) (X3_ends u) (X3_size u) (X3_used u) (X0_caught v) (X0_gnawed v) (X0_moleCount v) (X0_moles v) (X0_molesR v) (X0_mounds v) (X0_risen v) (X0_roots v) z12_v_traps (X0_tunnels v) _ _ _ hq hP hD hS (lv_sub hl [2, 1, 0] rfl)
        · have hq := hqB c6
          refine lv_aload_n hx hb dX0_beat_18 rfl (lv_at hl 0 rfl) ?_
          refine va_get (D := (dC, dI)) (ci := 0) (v := .ref (a 4)) (C := RX0) (T := TX0) (N := 14) hx hb hts iK0 hown hK hP 0 rfl rfl 3 (by decide) lk1 (fun _ h9 => h9) rfl dX0_beat_19 ?_
          refine lv_iload_n hx hb dX0_beat_22 rfl (lv_at hl 1 rfl) ?_
          obtain ⟨g4, hq⟩ := hq
          refine va_iald hx hb hK hP 4 0 rfl rfl g4 dX0_beat_23 ?_
          obtain ⟨hqA, hqB⟩ := hq
          refine lv_if_le (tgt := 37) hx hb dX0_beat_24 (by decide) (fun c5 => ?_) (fun c5 => ?_)
          · have hq := hqA c5
            refine lv_iinc (v := (y12_1 + 1)) (lv' := [(1, .int (y12_1 + 1)), (0, .ref (a 0))]) hx hb dX0_beat_37 hl (k := 1) rfl rfl (by decide) rfl (fun ls hl => ?_)
            refine lv_goto (tgt := 12) hx hb dX0_beat_40 (by decide) ?_
            exact bk12 (y12_1 + 1) z12_v_traps _ _ _ hq hP hD hS (lv_sub hl [1, 0] rfl)
          · have hq := hqB c5
            refine lv_aload_n hx hb dX0_beat_27 rfl (lv_at hl 0 rfl) ?_
            refine va_get (D := (dC, dI)) (ci := 0) (v := .ref (a 4)) (C := RX0) (T := TX0) (N := 14) hx hb hts iK0 hown hK hP 0 rfl rfl 3 (by decide) lk1 (fun _ h9 => h9) rfl dX0_beat_28 ?_
            refine lv_iload_n hx hb dX0_beat_31 rfl (lv_at hl 1 rfl) ?_
            refine lv_dup2_11 hx hb dX0_beat_32 rfl rfl ?_
            refine va_iald hx hb hK hP 4 0 rfl rfl g4 dX0_beat_33 ?_
            refine lv_iconst (v := 1) hx hb dX0_beat_34 (by decide) ?_
            refine lv_isub hx hb dX0_beat_35 ?_
            refine va_iast hx hb hK hP hD hS 4 0 rfl rfl g4 dX0_beat_36 (fun H locs hP hD hS => ?_)
            have hP : va_P (dC, dI) vwCl (cX0 cy a b (X0_mounds v) (X0_opened v) (X0_roots v) (upd z12_v_traps y12_1.toNatClampNeg ((z12_v_traps y12_1.toNatClampNeg) - 1)) (X0_tunnels v) (X0_molesR v) (X0_moles v) (X0_moleCount v) (X0_fullAir v) z12_v_beats (X0_caught v) (X0_gnawed v) (X0_risen v) (X0_fallen v) ++ wX3 cy b u) H := hP
            have hD : va_D A (cX0 cy a b (X0_mounds v) (X0_opened v) (X0_roots v) (upd z12_v_traps y12_1.toNatClampNeg ((z12_v_traps y12_1.toNatClampNeg) - 1)) (X0_tunnels v) (X0_molesR v) (X0_moles v) (X0_moleCount v) (X0_fullAir v) z12_v_beats (X0_caught v) (X0_gnawed v) (X0_risen v) (X0_fallen v) ++ wX3 cy b u) := hD
            refine lv_iinc (v := (y12_1 + 1)) (lv' := [(1, .int (y12_1 + 1)), (0, .ref (a 0))]) hx hb dX0_beat_37 hl (k := 1) rfl rfl (by decide) rfl (fun ls hl => ?_)
            refine lv_goto (tgt := 12) hx hb dX0_beat_40 (by decide) ?_
            exact bk12 (y12_1 + 1) (upd z12_v_traps y12_1.toNatClampNeg ((z12_v_traps y12_1.toNatClampNeg) - 1)) _ _ _ hq hP hD hS (lv_sub hl [1, 0] rfl)
    exact key _ y12_1 z12_v_traps H locs ls h0 (Nat.lt_succ_self _) hP hD hS hl
  refine lv_aload_n hx hb dX0_beat_0 rfl (lv_at hl 0 rfl) ?_
  refine lv_dup hx hb dX0_beat_1 rfl ?_
  refine va_get (D := (dC, dI)) (ci := 0) (v := .int (X0_beats v)) (C := RX0) (T := TX0) (N := 14) hx hb hts iK0 hown hK hP 0 rfl rfl 9 (by decide) lk2 (fun _ h9 => h9) rfl dX0_beat_2 ?_
  refine lv_iconst (v := 1) hx hb dX0_beat_5 (by decide) ?_
  refine lv_iadd hx hb dX0_beat_6 ?_
  refine va_put (D := (dC, dI)) (ci := 0) (v := .int ((X0_beats v) + 1)) (ty := .int) (C := RX0) (T := TX0) (N := 14) hx hb hts iK0 tyX0 tyX0_ok nmX0 hown hK hP hD hS 0 rfl rfl 9 (by decide) lk2 (fun _ h9 => h9) rfl (by decide +kernel) rfl rfl (Nat.le_of_ble_eq_true rfl) dX0_beat_7 (fun H locs hP hD hS => ?_)
  have hP : va_P (dC, dI) vwCl (cX0 cy a b (X0_mounds v) (X0_opened v) (X0_roots v) (X0_traps v) (X0_tunnels v) (X0_molesR v) (X0_moles v) (X0_moleCount v) (X0_fullAir v) ((X0_beats v) + 1) (X0_caught v) (X0_gnawed v) (X0_risen v) (X0_fallen v) ++ wX3 cy b u) H := hP
  have hD : va_D A (cX0 cy a b (X0_mounds v) (X0_opened v) (X0_roots v) (X0_traps v) (X0_tunnels v) (X0_molesR v) (X0_moles v) (X0_moleCount v) (X0_fullAir v) ((X0_beats v) + 1) (X0_caught v) (X0_gnawed v) (X0_risen v) (X0_fallen v) ++ wX3 cy b u) := hD
  refine lv_iconst (v := 0) hx hb dX0_beat_10 (by decide) ?_
  refine lv_istore_n (lv' := [(1, .int 0), (0, .ref (a 0))]) hx hb dX0_beat_11 rfl hl (by decide) rfl (fun ls hl => ?_)
  exact J12 ((X0_beats v) + 1) 0 (X0_traps v) _ _ _ hq hP hD hS (lv_sub hl [1, 0] rfl)
