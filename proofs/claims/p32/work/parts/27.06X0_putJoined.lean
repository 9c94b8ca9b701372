def wp_X0_putJoined_144 (v : V_X0) (u : V_X3) (x1 : Int32) (x2 : Int32) (x3 : Int32) (y111_4 : Int32) (y111_5 : Int32) (y111_6 : Int32) (z111_u_cells : (Nat → Int32)) (z111_u_used : Int32) (B111 : Int32 → (Nat → Int32) → Int32 → Prop) (k144_0 : Int32) (k144_1 : Int32) (Q : (Nat → Int32) → (Nat → Int32) → Int32 → Int32 → Prop) : Prop :=
  wp_X3_at (X0_tunnels v) k144_1 k144_0 (fun r144 =>
  wp_X3_put (X3_s2 (X3_s0 u z111_u_cells) z111_u_used) r144 (fun z147_v_cells z147_v_used =>
  B111 (y111_6 + 1) z147_v_cells z147_v_used))
def wb_X0_putJoined_111 (v : V_X0) (u : V_X3) (x1 : Int32) (x2 : Int32) (x3 : Int32) (y111_4 : Int32) (y111_5 : Int32) (y111_6 : Int32) (z111_u_cells : (Nat → Int32)) (z111_u_used : Int32) (B111 : Int32 → (Nat → Int32) → Int32 → Prop) (Q : (Nat → Int32) → (Nat → Int32) → Int32 → Int32 → Prop) : Prop :=
  ((y111_4 ≤ y111_6 → wp_X3_close (X3_s2 (X3_s0 u z111_u_cells) z111_u_used) (fun z160_v_ends z160_v_size =>
  Q z111_u_cells z160_v_ends z160_v_size z111_u_used)) ∧
  (¬ y111_4 ≤ y111_6 → ((y111_5 = 0 → wp_X0_putJoined_144 v u x1 x2 x3 y111_4 y111_5 y111_6 z111_u_cells z111_u_used B111 ((y111_4 - 1) - y111_6) x2  Q) ∧
  (¬ y111_5 = 0 → wp_X0_putJoined_144 v u x1 x2 x3 y111_4 y111_5 y111_6 z111_u_cells z111_u_used B111 y111_6 x2  Q))))
def wp_X0_putJoined_111 (v : V_X0) (u : V_X3) (x1 : Int32) (x2 : Int32) (x3 : Int32) (y111_4 : Int32) (y111_5 : Int32) (y111_6 : Int32) (z111_u_cells : (Nat → Int32)) (z111_u_used : Int32) (Q : (Nat → Int32) → (Nat → Int32) → Int32 → Int32 → Prop) : Prop :=
  ∃ (I : Int32 → (Nat → Int32) → Int32 → Prop) (μ : Int32 → (Nat → Int32) → Int32 → Nat), I y111_6 z111_u_cells z111_u_used ∧ ∀ (s0 : Int32) (s1 : (Nat → Int32)) (s2 : Int32), I s0 s1 s2 → wb_X0_putJoined_111 v u x1 x2 x3 y111_4 y111_5 s0 s1 s2 (fun t0 t1 t2 => I t0 t1 t2 ∧ μ t0 t1 t2 < μ s0 s1 s2) Q
def wp_X0_putJoined_66 (v : V_X0) (u : V_X3) (x1 : Int32) (x2 : Int32) (x3 : Int32) (y33_4 : Int32) (y33_5 : Int32) (y33_6 : Int32) (z33_u_cells : (Nat → Int32)) (z33_u_used : Int32) (B33 : Int32 → (Nat → Int32) → Int32 → Prop) (k66_0 : Int32) (k66_1 : Int32) (Q : (Nat → Int32) → (Nat → Int32) → Int32 → Int32 → Prop) : Prop :=
  wp_X3_at (X0_tunnels v) k66_1 k66_0 (fun r66 =>
  wp_X3_put (X3_s2 (X3_s0 u z33_u_cells) z33_u_used) r66 (fun z69_v_cells z69_v_used =>
  B33 (y33_6 + 1) z69_v_cells z69_v_used))
def wb_X0_putJoined_33 (v : V_X0) (u : V_X3) (x1 : Int32) (x2 : Int32) (x3 : Int32) (y33_4 : Int32) (y33_5 : Int32) (y33_6 : Int32) (z33_u_cells : (Nat → Int32)) (z33_u_used : Int32) (B33 : Int32 → (Nat → Int32) → Int32 → Prop) (Q : (Nat → Int32) → (Nat → Int32) → Int32 → Int32 → Prop) : Prop :=
  ((y33_4 ≤ y33_6 → wp_X3_number (X0_tunnels v) x2 2 (fun r84 =>
  wp_X3_first (X0_tunnels v) x2 (fun r94 =>
  ((r94 = x3 → wp_X0_putJoined_111 v u x1 x2 x3 r84 1 1 z33_u_cells z33_u_used Q) ∧
  (¬ r94 = x3 → wp_X0_putJoined_111 v u x1 x2 x3 r84 0 1 z33_u_cells z33_u_used Q))))) ∧
  (¬ y33_4 ≤ y33_6 → ((y33_5 = 0 → wp_X0_putJoined_66 v u x1 x2 x3 y33_4 y33_5 y33_6 z33_u_cells z33_u_used B33 ((y33_4 - 1) - y33_6) x1  Q) ∧
  (¬ y33_5 = 0 → wp_X0_putJoined_66 v u x1 x2 x3 y33_4 y33_5 y33_6 z33_u_cells z33_u_used B33 y33_6 x1  Q))))
def wp_X0_putJoined_33 (v : V_X0) (u : V_X3) (x1 : Int32) (x2 : Int32) (x3 : Int32) (y33_4 : Int32) (y33_5 : Int32) (y33_6 : Int32) (z33_u_cells : (Nat → Int32)) (z33_u_used : Int32) (Q : (Nat → Int32) → (Nat → Int32) → Int32 → Int32 → Prop) : Prop :=
  ∃ (I : Int32 → (Nat → Int32) → Int32 → Prop) (μ : Int32 → (Nat → Int32) → Int32 → Nat), I y33_6 z33_u_cells z33_u_used ∧ ∀ (s0 : Int32) (s1 : (Nat → Int32)) (s2 : Int32), I s0 s1 s2 → wb_X0_putJoined_33 v u x1 x2 x3 y33_4 y33_5 s0 s1 s2 (fun t0 t1 t2 => I t0 t1 t2 ∧ μ t0 t1 t2 < μ s0 s1 s2) Q
def wp_X0_putJoined (v : V_X0) (u : V_X3) (x1 : Int32) (x2 : Int32) (x3 : Int32) (Q : (Nat → Int32) → (Nat → Int32) → Int32 → Int32 → Prop) : Prop :=
  wp_X3_number (X0_tunnels v) x1 2 (fun r6 =>
  wp_X3_last (X0_tunnels v) x1 (fun r16 =>
  ((r16 = x3 → wp_X0_putJoined_33 v u x1 x2 x3 r6 1 0 (X3_cells u) (X3_used u) Q) ∧
  (¬ r16 = x3 → wp_X0_putJoined_33 v u x1 x2 x3 r6 0 0 (X3_cells u) (X3_used u) Q))))
def q_X0_putJoined (dC : Nat → ClassId) (dI : Nat → Nat → Nat) (cy : Nat → ClassId) (a b : Nat → Nat) (v : V_X0) (u : V_X3) (x1 : Int32) (x2 : Int32) (x3 : Int32) (Q : (Nat → Int32) → (Nat → Int32) → Int32 → Int32 → Prop) (A : Nat → Prop) : Array Value → State → Outcome → State → Prop := va_Qv (fun (u : (Nat → Int32) × (Nat → Int32) × Int32 × Int32) => Q u.1 u.2.1 u.2.2.1 u.2.2.2) (fun (u : (Nat → Int32) × (Nat → Int32) × Int32 × Int32) t => xAt dC dI cy A (wX0 cy a b v ++ cX3 cy b u.1 u.2.1 u.2.2.2 u.2.2.1) t) A
set_option maxHeartbeats 4000000 in
set_option maxRecDepth 100000 in
theorem c_X0_putJoined (l : Launch) (dC : Nat → ClassId) (dI : Nat → Nat → Nat) (cy : Nat → ClassId) (a b : Nat → Nat) (sz : Nat) (v : V_X0) (u : V_X3) (x1 : Int32) (x2 : Int32) (x3 : Int32) (Q : (Nat → Int32) → (Nat → Int32) → Int32 → Int32 → Prop) (hq : wp_X0_putJoined v u x1 x2 x3 Q) : Met l yX0_putJoined wsX0_putJoined ({ frames := 4, cells := 0, slots := 0, locals := 86 } : Room) (va_Pc [.ref (a 0), .int x1, .int x2, .int x3] (xPre dC dI cy (wX0 cy a b v ++ wX3 cy b u) sz)) (q_X0_putJoined dC dI cy a b v u x1 x2 x3 Q (va_A (wX0 cy a b v ++ wX3 cy b u) sz)) 0 0 (va_A (wX0 cy a b v ++ wX3 cy b u) sz) := by
  refine Met.ofW (cc := cX0_putJoined) (maxL := 7) (ret := none) (by decide) rfl ?_
  intro p e s m args below meth c s₁ B hml hv
  obtain ⟨rfl, hsz, hP, hK, hD0⟩ := hv
  have hx := B.exec
  have hb := B.bytes
  have hr := B.returns
  have hts := atoms_spec (ws := wsX0_putJoined) B.pre
  have hown : s.vm.findClass RX0 = some m.cls := findClass_of_methodNamed B.named
  have hlocks := B.notSynchronized
  subst hsz
  have hD := hD0.self (sz := s.heap.size)
  generalize hAe : va_A (wX0 cy a b v ++ wX3 cy b u) s.heap.size = A at hD ⊢
  have hAe0 : ∀ q : Nat, s.heap.size ≤ q → A q := fun q h => by rw [← hAe]; exact Or.inr h
  have hS : va_S A s.heap s.heap [] := va_S.rf
  have hl := lv_entry ([.ref (a 0), .int x1, .int x2, .int x3]) (n := 7) (Nat.le_of_ble_eq_true rfl)
  rw [lg_entry_eq]
  generalize (lg_sl ([.ref (a 0), .int x1, .int x2, .int x3]) ++ List.replicate (7 - (lg_sl ([.ref (a 0), .int x1, .int x2, .int x3])).length) Slot.unset).toArray = ls at hl ⊢
  have hl : lv_has ls 7 [(0, .ref (a 0)), (1, .int x1), (2, .int x2), (3, .int x3)] := hl
  have lk0 := hts (Cond.fieldLink RX0 42 "MolesLawn$Lawn" "spare" "LMolesLawn$Rows;") (List.mem_cons_of_mem _ (List.mem_append_left _ (List.mem_append_left _ (List.mem_append_left _ (List.mem_of_getElem? (i := 1) rfl)))))
  have lk1 := hts (Cond.fieldLink RX0 28 "MolesLawn$Lawn" "tunnels" "LMolesLawn$Rows;") (List.mem_cons_of_mem _ (List.mem_append_left _ (List.mem_append_left _ (List.mem_append_left _ (List.mem_of_getElem? (i := 0) rfl)))))
  have iK0 : ∀ w ∈ wsX00, w ∈ wsX0_putJoined := fun _ h => (List.mem_cons_of_mem _ (List.mem_append_left _ (List.mem_append_right _ h)))
  unfold wp_X0_putJoined at hq
  have J111 : ∀ (y111_4 : Int32) (y111_5 : Int32) (y111_6 : Int32) (z111_u_cells : (Nat → Int32)) (z111_u_used : Int32) (H : Heap) (locs : List Loc) (ls : Array Slot), wp_X0_putJoined_111 v u x1 x2 x3 y111_4 y111_5 y111_6 z111_u_cells z111_u_used Q → va_P (dC, dI) vwCl (wX0 cy a b v ++ cX3 cy b z111_u_cells (X3_ends u) z111_u_used (X3_size u)) H → va_D A (wX0 cy a b v ++ cX3 cy b z111_u_cells (X3_ends u) z111_u_used (X3_size u)) → va_S A s.heap H locs → lv_has ls 7 [(0, .ref (a 0)), (2, .int x2), (4, .int y111_4), (5, .int y111_5), (6, .int y111_6)] → W p l e (headSpec wsX0_putJoined ({ frames := 4, cells := 0, slots := 0, locals := 86 } : Room)).room s m ([.ref (a 0), .int x1, .int x2, .int x3] : List Value).toArray below meth c H locs 0 0 (MQ below (q_X0_putJoined dC dI cy a b v u x1 x2 x3 Q A) ([.ref (a 0), .int x1, .int x2, .int x3] : List Value).toArray s 0 0 A) (F0 m 111 ls []) := by
    intro y111_4 y111_5 y111_6 z111_u_cells z111_u_used H locs ls hq hP hD hS hl
    obtain ⟨I111, μ111, h0, hs111⟩ := hq
    have key : ∀ (n : Nat) (y111_6 : Int32) (z111_u_cells : (Nat → Int32)) (z111_u_used : Int32) (H : Heap) (locs : List Loc) (ls : Array Slot), I111 y111_6 z111_u_cells z111_u_used → μ111 y111_6 z111_u_cells z111_u_used < n → va_P (dC, dI) vwCl (wX0 cy a b v ++ cX3 cy b z111_u_cells (X3_ends u) z111_u_used (X3_size u)) H → va_D A (wX0 cy a b v ++ cX3 cy b z111_u_cells (X3_ends u) z111_u_used (X3_size u)) → va_S A s.heap H locs → lv_has ls 7 [(0, .ref (a 0)), (2, .int x2), (4, .int y111_4), (5, .int y111_5), (6, .int y111_6)] → W p l e (headSpec wsX0_putJoined ({ frames := 4, cells := 0, slots := 0, locals := 86 } : Room)).room s m ([.ref (a 0), .int x1, .int x2, .int x3] : List Value).toArray below meth c H locs 0 0 (MQ below (q_X0_putJoined dC dI cy a b v u x1 x2 x3 Q A) ([.ref (a 0), .int x1, .int x2, .int x3] : List Value).toArray s 0 0 A) (F0 m 111 ls []) := by
      intro n
      induction n with
      | zero => intro y111_6 z111_u_cells z111_u_used H locs ls _ hm; exact absurd hm (Nat.not_lt_zero _)
      | succ n ih =>
        intro y111_6 z111_u_cells z111_u_used H locs ls hI hm hP hD hS hl
        have hq := hs111 y111_6 z111_u_cells z111_u_used hI
        generalize hB111 : (fun (t0 : Int32) (t1 : (Nat → Int32)) (t2 : Int32) => I111 t0 t1 t2 ∧ μ111 t0 t1 t2 < μ111 y111_6 z111_u_cells z111_u_used) = B111 at hq
        have bk111 : ∀ (y111_6 : Int32) (z111_u_cells : (Nat → Int32)) (z111_u_used : Int32) (H : Heap) (locs : List Loc) (ls : Array Slot), B111 y111_6 z111_u_cells z111_u_used → va_P (dC, dI) vwCl (wX0 cy a b v ++ cX3 cy b z111_u_cells (X3_ends u) z111_u_used (X3_size u)) H → va_D A (wX0 cy a b v ++ cX3 cy b z111_u_cells (X3_ends u) z111_u_used (X3_size u)) → va_S A s.heap H locs → lv_has ls 7 [(0, .ref (a 0)), (2, .int x2), (4, .int y111_4), (5, .int y111_5), (6, .int y111_6)] → W p l e (headSpec wsX0_putJoined ({ frames := 4, cells := 0, slots := 0, locals := 86 } : Room)).room s m ([.ref (a 0), .int x1, .int x2, .int x3] : List Value).toArray below meth c H locs 0 0 (MQ below (q_X0_putJoined dC dI cy a b v u x1 x2 x3 Q A) ([.ref (a 0), .int x1, .int x2, .int x3] : List Value).toArray s 0 0 A) (F0 m 111 ls []) := by
          intro y111_6 z111_u_cells z111_u_used H locs ls h
          rw [← hB111] at h
          exact ih y111_6 z111_u_cells z111_u_used H locs ls h.1 (Nat.lt_of_lt_of_le h.2 (Nat.le_of_lt_succ hm))
        unfold wb_X0_putJoined_111 at hq
        have J144 : ∀ (k144_0 : Int32) (k144_1 : Int32) (H : Heap) (locs : List Loc) (ls : Array Slot), wp_X0_putJoined_144 v u x1 x2 x3 y111_4 y111_5 y111_6 z111_u_cells z111_u_used B111 k144_0 k144_1 Q → va_P (dC, dI) vwCl (wX0 cy a b v ++ cX3 cy b z111_u_cells (X3_ends u) z111_u_used (X3_size u)) H → va_D A (wX0 cy a b v ++ cX3 cy b z111_u_cells (X3_ends u) z111_u_used (X3_size u)) → va_S A s.heap H locs → lv_has ls 7 [(0, .ref (a 0)), (2, .int x2), (4, .int y111_4), (5, .int y111_5), (6, .int y111_6)] → W p l e (headSpec wsX0_putJoined ({ frames := 4, cells := 0, slots := 0, locals := 86 } : Room)).room s m ([.ref (a 0), .int x1, .int x2, .int x3] : List Value).toArray below meth c H locs 0 0 (MQ below (q_X0_putJoined dC dI cy a b v u x1 x2 x3 Q A) ([.ref (a 0), .int x1, .int x2, .int x3] : List Value).toArray s 0 0 A) (F0 m 144 ls [.int k144_0, .int k144_1, .ref (a 5), .ref (b 0)]) := by
          intro k144_0 k144_1 H locs ls hq hP hD hS hl
          unfold wp_X0_putJoined_144 at hq
          have hC : (([5, 6, 7] : List Nat).map (fun i => (wX0 cy a b v ++ cX3 cy b z111_u_cells (X3_ends u) z111_u_used (X3_size u))[i]?)) = (wX3 cy (sh a 5) (X0_tunnels v)).map some := rfl
          have hPc := xsubP hP hC
          have hDc := xsubD hD (by decide) hC
          have hFc := va_free (wc := (wX3 cy (sh a 5) (X0_tunnels v))) hD hS hAe0 [5, 6, 7] hC
          refine va_calli (va_runV (As := [.int k144_1, .int k144_0]) (rest := [.ref (b 0)]) ⟨hx, hb, hml, hown, hts⟩ (c_X3_at l dC dI cy (sh a 5) _ (X0_tunnels v) k144_1 k144_0 _ hq) (cwV 2 hts gX0_putJoined_X3_at rfl rfl rfl (by decide +kernel) ⟨Nat.le_of_ble_eq_true rfl, Nat.le_of_ble_eq_true rfl⟩) ⟨xPre_blind, va_recv hK hP (ci := 3) (q0 := 5) rfl rfl, xPre_of hPc hK hDc⟩ rfl rfl hl.1 rfl (lv_room (Nat.le_of_ble_eq_true rfl)) dX0_putJoined_144 ⟨Nat.le_of_ble_eq_true rfl, Nat.le_of_ble_eq_true rfl⟩) hS (fun q _ h => hFc q h) hFc (fun r144 u9 t H locs ht hvm hq hB hz1 hk1 hS => ?_)
          obtain ⟨hP1, -, hD1⟩ := hB
          rw [ht] at hP1
          have hP : va_P (dC, dI) vwCl (wX0 cy a b v ++ cX3 cy b z111_u_cells (X3_ends u) z111_u_used (X3_size u)) H := xj_keep hP hD [5, 6, 7] hC hP1 hk1
          have hC : (([21, 22, 23] : List Nat).map (fun i => (wX0 cy a b v ++ cX3 cy b z111_u_cells (X3_ends u) z111_u_used (X3_size u))[i]?)) = (cX3 cy b z111_u_cells (X3_ends u) z111_u_used (X3_size u)).map some := rfl
          have hPc := xsubP hP hC
          have hDc := xsubD hD (by decide) hC
          have hFc := va_free (wc := (cX3 cy b z111_u_cells (X3_ends u) z111_u_used (X3_size u))) hD hS hAe0 [21, 22, 23] hC
          refine va_callv (va_runV (As := [.int r144]) (rest := []) ⟨hx, hb, hml, hown, hts⟩ (c_X3_put l dC dI cy b _ (X3_s2 (X3_s0 u z111_u_cells) z111_u_used) r144 _ hq) (cwV 1 hts gX0_putJoined_X3_put rfl rfl rfl (by decide +kernel) ⟨Nat.le_of_ble_eq_true rfl, Nat.le_of_ble_eq_true rfl⟩) ⟨xPre_blind, va_recv hK hP (ci := 3) (q0 := 21) rfl rfl, xPre_of hPc hK hDc⟩ rfl rfl hl.1 rfl (lv_room (Nat.le_of_ble_eq_true rfl)) dX0_putJoined_147 ⟨Nat.le_of_ble_eq_true rfl, Nat.le_of_ble_eq_true rfl⟩) hS (fun q _ h => hFc q h) hFc (fun u9 t H locs ht hvm hq hB hz1 hk1 hS => ?_)
          obtain ⟨z147_v_cells, z147_v_used⟩ := u9
          obtain ⟨hP1, -, hD1⟩ := hB
          rw [ht] at hP1
          obtain ⟨hP, hD⟩ := xj hP hD [21, 22, 23] (cX3 cy b z147_v_cells (X3_ends u) z147_v_used (X3_size u)) (ws' := (wX0 cy a b v ++ cX3 cy b z147_v_cells (X3_ends u) z147_v_used (X3_size u))) hC rfl rfl hk1 hFc hP1
          refine lv_iinc (v := (y111_6 + 1)) (lv' := [(6, .int (y111_6 + 1)), (0, .ref (a 0)), (2, .int x2), (4, .int y111_4), (5, .int y111_5)]) hx hb dX0_putJoined_150 hl (k := 4) rfl rfl (by decide) rfl (fun ls hl => ?_)
          refine lv_goto (tgt := 111) hx hb dX0_putJoined_153 (by decide) ?_
          exact bk111 (y111_6 + 1) z147_v_cells z147_v_used _ _ _ hq hP hD hS (lv_sub hl [1, 2, 3, 4, 0] rfl)
        refine lv_iload hx hb dX0_putJoined_111 (lv_at hl 4 rfl) ?_
        refine lv_iload hx hb dX0_putJoined_113 (lv_at hl 2 rfl) ?_
        obtain ⟨hqA, hqB⟩ := hq
        refine lv_icmp_ge (tgt := 156) hx hb dX0_putJoined_115 (by decide) (fun c2 => ?_) (fun c2 => ?_)
        · have hq := hqA c2
          refine lv_aload_n hx hb dX0_putJoined_156 rfl (lv_at hl 0 rfl) ?_
          refine va_get (D := (dC, dI)) (ci := 0) (v := .ref (b 0)) (C := RX0) (T := TX0) (N := 14) hx hb hts iK0 hown hK hP 0 rfl rfl 5 (by decide) lk0 (fun _ h9 => h9) rfl dX0_putJoined_157 ?_
          have hC : (([21, 22, 23] : List Nat).map (fun i => (wX0 cy a b v ++ cX3 cy b z111_u_cells (X3_ends u) z111_u_used (X3_size u))[i]?)) = (cX3 cy b z111_u_cells (X3_ends u) z111_u_used (X3_size u)).map some := rfl
          have hPc := xsubP hP hC
          have hDc := xsubD hD (by decide) hC
          have hFc := va_free (wc := (cX3 cy b z111_u_cells (X3_ends u) z111_u_used (X3_size u))) hD hS hAe0 [21, 22, 23] hC
          refine va_callv (va_runV (As := []) (rest := []) ⟨hx, hb, hml, hown, hts⟩ (c_X3_close l dC dI cy b _ (X3_s2 (X3_s0 u z111_u_cells) z111_u_used) _ hq) (cwV 0 hts gX0_putJoined_X3_close rfl rfl rfl (by decide +kernel) ⟨Nat.le_of_ble_eq_true rfl, Nat.le_of_ble_eq_true rfl⟩) ⟨xPre_blind, va_recv hK hP (ci := 3) (q0 := 21) rfl rfl, xPre_of hPc hK hDc⟩ rfl rfl hl.1 rfl (lv_room (Nat.le_of_ble_eq_true rfl)) dX0_putJoined_160 ⟨Nat.le_of_ble_eq_true rfl, Nat.le_of_ble_eq_true rfl⟩) hS (fun q _ h => hFc q h) hFc (fun u9 t H locs ht hvm hq hB hz1 hk1 hS => ?_)
          obtain ⟨z160_v_ends, z160_v_size⟩ := u9
          obtain ⟨hP1, -, hD1⟩ := hB
          rw [ht] at hP1
          obtain ⟨hP, hD⟩ := xj hP hD [21, 22, 23] (cX3 cy b z111_u_cells z160_v_ends z111_u_used z160_v_size) (ws' := (wX0 cy a b v ++ cX3 cy b z111_u_cells z160_v_ends z111_u_used z160_v_size)) hC rfl rfl hk1 hFc hP1
          exact W.vret hx hb hr (fun t ht hW => ⟨⟨(z111_u_cells, z160_v_ends, z160_v_size, z111_u_used), rfl, hq, (xAt_of hP hK hD ht hW)⟩, hS.F ht⟩) hS.2.2 dX0_putJoined_163
        · have hq := hqB c2
          refine lv_aload_n hx hb dX0_putJoined_118 rfl (lv_at hl 0 rfl) ?_
          refine va_get (D := (dC, dI)) (ci := 0) (v := .ref (b 0)) (C := RX0) (T := TX0) (N := 14) hx hb hts iK0 hown hK hP 0 rfl rfl 5 (by decide) lk0 (fun _ h9 => h9) rfl dX0_putJoined_119 ?_
          refine lv_aload_n hx hb dX0_putJoined_122 rfl (lv_at hl 0 rfl) ?_
          refine va_get (D := (dC, dI)) (ci := 0) (v := .ref (a 5)) (C := RX0) (T := TX0) (N := 14) hx hb hts iK0 hown hK hP 0 rfl rfl 4 (by decide) lk1 (fun _ h9 => h9) rfl dX0_putJoined_123 ?_
          refine lv_iload_n hx hb dX0_putJoined_126 rfl (lv_at hl 1 rfl) ?_
          refine lv_iload hx hb dX0_putJoined_127 (lv_at hl 3 rfl) ?_
          obtain ⟨hqA, hqB⟩ := hq
          refine lv_if_eq (tgt := 137) hx hb dX0_putJoined_129 (by decide) (fun c1 => ?_) (fun c1 => ?_)
          · have hq := hqA c1
            refine lv_iload hx hb dX0_putJoined_137 (lv_at hl 2 rfl) ?_
            refine lv_iconst (v := 1) hx hb dX0_putJoined_139 (by decide) ?_
            refine lv_isub hx hb dX0_putJoined_140 ?_
            refine lv_iload hx hb dX0_putJoined_141 (lv_at hl 4 rfl) ?_
            refine lv_isub hx hb dX0_putJoined_143 ?_
            exact J144 ((y111_4 - 1) - y111_6) x2  _ _ _ hq hP hD hS (lv_sub hl [0, 1, 2, 3, 4] rfl)
          · have hq := hqB c1
            refine lv_iload hx hb dX0_putJoined_132 (lv_at hl 4 rfl) ?_
            refine lv_goto (tgt := 144) hx hb dX0_putJoined_134 (by decide) ?_
            exact J144 y111_6 x2  _ _ _ hq hP hD hS (lv_sub hl [0, 1, 2, 3, 4] rfl)
    exact key _ y111_6 z111_u_cells z111_u_used H locs ls h0 (Nat.lt_succ_self _) hP hD hS hl
  have J33 : ∀ (y33_4 : Int32) (y33_5 : Int32) (y33_6 : Int32) (z33_u_cells : (Nat → Int32)) (z33_u_used : Int32) (H : Heap) (locs : List Loc) (ls : Array Slot), wp_X0_putJoined_33 v u x1 x2 x3 y33_4 y33_5 y33_6 z33_u_cells z33_u_used Q → va_P (dC, dI) vwCl (wX0 cy a b v ++ cX3 cy b z33_u_cells (X3_ends u) z33_u_used (X3_size u)) H → va_D A (wX0 cy a b v ++ cX3 cy b z33_u_cells (X3_ends u) z33_u_used (X3_size u)) → va_S A s.heap H locs → lv_has ls 7 [(0, .ref (a 0)), (1, .int x1), (2, .int x2), (3, .int x3), (4, .int y33_4), (5, .int y33_5), (6, .int y33_6)] → W p l e (headSpec wsX0_putJoined ({ frames := 4, cells := 0, slots := 0, locals := 86 } : Room)).room s m ([.ref (a 0), .int x1, .int x2, .int x3] : List Value).toArray below meth c H locs 0 0 (MQ below (q_X0_putJoined dC dI cy a b v u x1 x2 x3 Q A) ([.ref (a 0), .int x1, .int x2, .int x3] : List Value).toArray s 0 0 A) (F0 m 33 ls []) := by
    intro y33_4 y33_5 y33_6 z33_u_cells z33_u_used H locs ls hq hP hD hS hl
    obtain ⟨I33, μ33, h0, hs33⟩ := hq
    have key : ∀ (n : Nat) (y33_6 : Int32) (z33_u_cells : (Nat → Int32)) (z33_u_used : Int32) (H : Heap) (locs : List Loc) (ls : Array Slot), I33 y33_6 z33_u_cells z33_u_used → μ33 y33_6 z33_u_cells z33_u_used < n → va_P (dC, dI) vwCl (wX0 cy a b v ++ cX3 cy b z33_u_cells (X3_ends u) z33_u_used (X3_size u)) H → va_D A (wX0 cy a b v ++ cX3 cy b z33_u_cells (X3_ends u) z33_u_used (X3_size u)) → va_S A s.heap H locs → lv_has ls 7 [(0, .ref (a 0)), (1, .int x1), (2, .int x2), (3, .int x3), (4, .int y33_4), (5, .int y33_5), (6, .int y33_6)] → W p l e (headSpec wsX0_putJoined ({ frames := 4, cells := 0, slots := 0, locals := 86 } : Room)).room s m ([.ref (a 0), .int x1, .int x2, .int x3] : List Value).toArray below meth c H locs 0 0 (MQ below (q_X0_putJoined dC dI cy a b v u x1 x2 x3 Q A) ([.ref (a 0), .int x1, .int x2, .int x3] : List Value).toArray s 0 0 A) (F0 m 33 ls []) := by
      intro n
      induction n with
      | zero => intro y33_6 z33_u_cells z33_u_used H locs ls _ hm; exact absurd hm (Nat.not_lt_zero _)
      | succ n ih =>
        intro y33_6 z33_u_cells z33_u_used H locs ls hI hm hP hD hS hl
        have hq := hs33 y33_6 z33_u_cells z33_u_used hI
        generalize hB33 : (fun (t0 : Int32) (t1 : (Nat → Int32)) (t2 : Int32) => I33 t0 t1 t2 ∧ μ33 t0 t1 t2 < μ33 y33_6 z33_u_cells z33_u_used) = B33 at hq
        have bk33 : ∀ (y33_6 : Int32) (z33_u_cells : (Nat → Int32)) (z33_u_used : Int32) (H : Heap) (locs : List Loc) (ls : Array Slot), B33 y33_6 z33_u_cells z33_u_used → va_P (dC, dI) vwCl (wX0 cy a b v ++ cX3 cy b z33_u_cells (X3_ends u) z33_u_used (X3_size u)) H → va_D A (wX0 cy a b v ++ cX3 cy b z33_u_cells (X3_ends u) z33_u_used (X3_size u)) → va_S A s.heap H locs → lv_has ls 7 [(0, .ref (a 0)), (1, .int x1), (2, .int x2), (3, .int x3), (4, .int y33_4), (5, .int y33_5), (6, .int y33_6)] → W p l e (headSpec wsX0_putJoined ({ frames := 4, cells := 0, slots := 0, locals := 86 } : Room)).room s m ([.ref (a 0), .int x1, .int x2, .int x3] : List Value).toArray below meth c H locs 0 0 (MQ below (q_X0_putJoined dC dI cy a b v u x1 x2 x3 Q A) ([.ref (a 0), .int x1, .int x2, .int x3] : List Value).toArray s 0 0 A) (F0 m 33 ls []) := by
          intro y33_6 z33_u_cells z33_u_used H locs ls h
          rw [← hB33] at h
          exact ih y33_6 z33_u_cells z33_u_used H locs ls h.1 (Nat.lt_of_lt_of_le h.2 (Nat.le_of_lt_succ hm))
        unfold wb_X0_putJoined_33 at hq
        have J66 : ∀ (k66_0 : Int32) (k66_1 : Int32) (H : Heap) (locs : List Loc) (ls : Array Slot), wp_X0_putJoined_66 v u x1 x2 x3 y33_4 y33_5 y33_6 z33_u_cells z33_u_used B33 k66_0 k66_1 Q → va_P (dC, dI) vwCl (wX0 cy a b v ++ cX3 cy b z33_u_cells (X3_ends u) z33_u_used (X3_size u)) H → va_D A (wX0 cy a b v ++ cX3 cy b z33_u_cells (X3_ends u) z33_u_used (X3_size u)) → va_S A s.heap H locs → lv_has ls 7 [(0, .ref (a 0)), (1, .int x1), (2, .int x2), (3, .int x3), (4, .int y33_4), (5, .int y33_5), (6, .int y33_6)] → W p l e (headSpec wsX0_putJoined ({ frames := 4, cells := 0, slots := 0, locals := 86 } : Room)).room s m ([.ref (a 0), .int x1, .int x2, .int x3] : List Value).toArray below meth c H locs 0 0 (MQ below (q_X0_putJoined dC dI cy a b v u x1 x2 x3 Q A) ([.ref (a 0), .int x1, .int x2, .int x3] : List Value).toArray s 0 0 A) (F0 m 66 ls [.int k66_0, .int k66_1, .ref (a 5), .ref (b 0)]) := by
          intro k66_0 k66_1 H locs ls hq hP hD hS hl
          unfold wp_X0_putJoined_66 at hq
          have hC : (([5, 6, 7] : List Nat).map (fun i => (wX0 cy a b v ++ cX3 cy b z33_u_cells (X3_ends u) z33_u_used (X3_size u))[i]?)) = (wX3 cy (sh a 5) (X0_tunnels v)).map some := rfl
          have hPc := xsubP hP hC
          have hDc := xsubD hD (by decide) hC
          have hFc := va_free (wc := (wX3 cy (sh a 5) (X0_tunnels v))) hD hS hAe0 [5, 6, 7] hC
          refine va_calli (va_runV (As := [.int k66_1, .int k66_0]) (rest := [.ref (b 0)]) ⟨hx, hb, hml, hown, hts⟩ (c_X3_at l dC dI cy (sh a 5) _ (X0_tunnels v) k66_1 k66_0 _ hq) (cwV 2 hts gX0_putJoined_X3_at rfl rfl rfl (by decide +kernel) ⟨Nat.le_of_ble_eq_true rfl, Nat.le_of_ble_eq_true rfl⟩) ⟨xPre_blind, va_recv hK hP (ci := 3) (q0 := 5) rfl rfl, xPre_of hPc hK hDc⟩ rfl rfl hl.1 rfl (lv_room (Nat.le_of_ble_eq_true rfl)) dX0_putJoined_66 ⟨Nat.le_of_ble_eq_true rfl, Nat.le_of_ble_eq_true rfl⟩) hS (fun q _ h => hFc q h) hFc (fun r66 u9 t H locs ht hvm hq hB hz1 hk1 hS => ?_)
          obtain ⟨hP1, -, hD1⟩ := hB
          rw [ht] at hP1
          have hP : va_P (dC, dI) vwCl (wX0 cy a b v ++ cX3 cy b z33_u_cells (X3_ends u) z33_u_used (X3_size u)) H := xj_keep hP hD [5, 6, 7] hC hP1 hk1
          have hC : (([21, 22, 23] : List Nat).map (fun i => (wX0 cy a b v ++ cX3 cy b z33_u_cells (X3_ends u) z33_u_used (X3_size u))[i]?)) = (cX3 cy b z33_u_cells (X3_ends u) z33_u_used (X3_size u)).map some := rfl
          have hPc := xsubP hP hC
          have hDc := xsubD hD (by decide) hC
          have hFc := va_free (wc := (cX3 cy b z33_u_cells (X3_ends u) z33_u_used (X3_size u))) hD hS hAe0 [21, 22, 23] hC
          refine va_callv (va_runV (As := [.int r66]) (rest := []) ⟨hx, hb, hml, hown, hts⟩ (c_X3_put l dC dI cy b _ (X3_s2 (X3_s0 u z33_u_cells) z33_u_used) r66 _ hq) (cwV 1 hts gX0_putJoined_X3_put rfl rfl rfl (by decide +kernel) ⟨Nat.le_of_ble_eq_true rfl, Nat.le_of_ble_eq_true rfl⟩) ⟨xPre_blind, va_recv hK hP (ci := 3) (q0 := 21) rfl rfl, xPre_of hPc hK hDc⟩ rfl rfl hl.1 rfl (lv_room (Nat.le_of_ble_eq_true rfl)) dX0_putJoined_69 ⟨Nat.le_of_ble_eq_true rfl, Nat.le_of_ble_eq_true rfl⟩) hS (fun q _ h => hFc q h) hFc (fun u9 t H locs ht hvm hq hB hz1 hk1 hS => ?_)
          obtain ⟨z69_v_cells, z69_v_used⟩ := u9
          obtain ⟨hP1, -, hD1⟩ := hB
          rw [ht] at hP1
          obtain ⟨hP, hD⟩ := xj hP hD [21, 22, 23] (cX3 cy b z69_v_cells (X3_ends u) z69_v_used (X3_size u)) (ws' := (wX0 cy a b v ++ cX3 cy b z69_v_cells (X3_ends u) z69_v_used (X3_size u))) hC rfl rfl hk1 hFc hP1
          refine lv_iinc (v := (y33_6 + 1)) (lv' := [(6, .int (y33_6 + 1)), (0, .ref (a 0)), (1, .int x1), (2, .int x2), (3, .int x3), (4, .int y33_4), (5, .int y33_5)]) hx hb dX0_putJoined_72 hl (k := 6) rfl rfl (by decide) rfl (fun ls hl => ?_)
          refine lv_goto (tgt := 33) hx hb dX0_putJoined_75 (by decide) ?_
          exact bk33 (y33_6 + 1) z69_v_cells z69_v_used _ _ _ hq hP hD hS (lv_sub hl [1, 2, 3, 4, 5, 6, 0] rfl)
        refine lv_iload hx hb dX0_putJoined_33 (lv_at hl 6 rfl) ?_
        refine lv_iload hx hb dX0_putJoined_35 (lv_at hl 4 rfl) ?_
        obtain ⟨hqA, hqB⟩ := hq
        refine lv_icmp_ge (tgt := 78) hx hb dX0_putJoined_37 (by decide) (fun c5 => ?_) (fun c5 => ?_)
        · have hq := hqA c5
          refine lv_aload_n hx hb dX0_putJoined_78 rfl (lv_at hl 0 rfl) ?_
          refine va_get (D := (dC, dI)) (ci := 0) (v := .ref (a 5)) (C := RX0) (T := TX0) (N := 14) hx hb hts iK0 hown hK hP 0 rfl rfl 4 (by decide) lk1 (fun _ h9 => h9) rfl dX0_putJoined_79 ?_
          refine lv_iload_n hx hb dX0_putJoined_82 rfl (lv_at hl 2 rfl) ?_
          refine lv_iconst (v := 2) hx hb dX0_putJoined_83 (by decide) ?_
          have hC : (([5, 6, 7] : List Nat).map (fun i => (wX0 cy a b v ++ cX3 cy b z33_u_cells (X3_ends u) z33_u_used (X3_size u))[i]?)) = (wX3 cy (sh a 5) (X0_tunnels v)).map some := rfl
          have hPc := xsubP hP hC
          have hDc := xsubD hD (by decide) hC
          have hFc := va_free (wc := (wX3 cy (sh a 5) (X0_tunnels v))) hD hS hAe0 [5, 6, 7] hC
          refine va_calli (va_runV (As := [.int x2, .int 2]) (rest := []) ⟨hx, hb, hml, hown, hts⟩ (c_X3_number l dC dI cy (sh a 5) _ (X0_tunnels v) x2 2 _ hq) (cwV 2 hts gX0_putJoined_X3_number rfl rfl rfl (by decide +kernel) ⟨Nat.le_of_ble_eq_true rfl, Nat.le_of_ble_eq_true rfl⟩) ⟨xPre_blind, va_recv hK hP (ci := 3) (q0 := 5) rfl rfl, xPre_of hPc hK hDc⟩ rfl rfl hl.1 rfl (lv_room (Nat.le_of_ble_eq_true rfl)) dX0_putJoined_84 ⟨Nat.le_of_ble_eq_true rfl, Nat.le_of_ble_eq_true rfl⟩) hS (fun q _ h => hFc q h) hFc (fun r84 u9 t H locs ht hvm hq hB hz1 hk1 hS => ?_)
          obtain ⟨hP1, -, hD1⟩ := hB
          rw [ht] at hP1
          have hP : va_P (dC, dI) vwCl (wX0 cy a b v ++ cX3 cy b z33_u_cells (X3_ends u) z33_u_used (X3_size u)) H := xj_keep hP hD [5, 6, 7] hC hP1 hk1
          refine lv_istore (lv' := [(4, .int r84), (0, .ref (a 0)), (1, .int x1), (2, .int x2), (3, .int x3), (5, .int y33_5), (6, .int y33_6)]) hx hb dX0_putJoined_87 hl (by decide) rfl (fun ls hl => ?_)
          refine lv_aload_n hx hb dX0_putJoined_89 rfl (lv_at hl 1 rfl) ?_
          refine va_get (D := (dC, dI)) (ci := 0) (v := .ref (a 5)) (C := RX0) (T := TX0) (N := 14) hx hb hts iK0 hown hK hP 0 rfl rfl 4 (by decide) lk1 (fun _ h9 => h9) rfl dX0_putJoined_90 ?_
          refine lv_iload_n hx hb dX0_putJoined_93 rfl (lv_at hl 3 rfl) ?_
          have hC : (([5, 6, 7] : List Nat).map (fun i => (wX0 cy a b v ++ cX3 cy b z33_u_cells (X3_ends u) z33_u_used (X3_size u))[i]?)) = (wX3 cy (sh a 5) (X0_tunnels v)).map some := rfl
          have hPc := xsubP hP hC
          have hDc := xsubD hD (by decide) hC
          have hFc := va_free (wc := (wX3 cy (sh a 5) (X0_tunnels v))) hD hS hAe0 [5, 6, 7] hC
          refine va_calli (va_runV (As := [.int x2]) (rest := []) ⟨hx, hb, hml, hown, hts⟩ (c_X3_first l dC dI cy (sh a 5) _ (X0_tunnels v) x2 _ hq) (cwV 1 hts gX0_putJoined_X3_first rfl rfl rfl (by decide +kernel) ⟨Nat.le_of_ble_eq_true rfl, Nat.le_of_ble_eq_true rfl⟩) ⟨xPre_blind, va_recv hK hP (ci := 3) (q0 := 5) rfl rfl, xPre_of hPc hK hDc⟩ rfl rfl hl.1 rfl (lv_room (Nat.le_of_ble_eq_true rfl)) dX0_putJoined_94 ⟨Nat.le_of_ble_eq_true rfl, Nat.le_of_ble_eq_true rfl⟩) hS (fun q _ h => hFc q h) hFc (fun r94 u9 t H locs ht hvm hq hB hz1 hk1 hS => ?_)
          obtain ⟨hP1, -, hD1⟩ := hB
          rw [ht] at hP1
          have hP : va_P (dC, dI) vwCl (wX0 cy a b v ++ cX3 cy b z33_u_cells (X3_ends u) z33_u_used (X3_size u)) H := xj_keep hP hD [5, 6, 7] hC hP1 hk1
          refine lv_iload_n hx hb dX0_putJoined_97 rfl (lv_at hl 4 rfl) ?_
          obtain ⟨hqA, hqB⟩ := hq
          refine lv_icmp_ne (tgt := 105) hx hb dX0_putJoined_98 (by decide) (fun c3 => ?_) (fun c3 => ?_)
          · have hq := hqB c3
            refine lv_iconst (v := 0) hx hb dX0_putJoined_105 (by decide) ?_
            refine lv_istore (lv' := [(5, .int 0), (4, .int r84), (0, .ref (a 0)), (1, .int x1), (2, .int x2), (3, .int x3), (6, .int y33_6)]) hx hb dX0_putJoined_106 hl (by decide) rfl (fun ls hl => ?_)
            refine lv_iconst (v := 1) hx hb dX0_putJoined_108 (by decide) ?_
            refine lv_istore (lv' := [(6, .int 1), (5, .int 0), (4, .int r84), (0, .ref (a 0)), (1, .int x1), (2, .int x2), (3, .int x3)]) hx hb dX0_putJoined_109 hl (by decide) rfl (fun ls hl => ?_)
            exact J111 r84 0 1 z33_u_cells z33_u_used _ _ _ hq hP hD hS (lv_sub hl [3, 5, 2, 1, 0] rfl)
          · have hq := hqA c3
            refine lv_iconst (v := 1) hx hb dX0_putJoined_101 (by decide) ?_
            refine lv_goto (tgt := 106) hx hb dX0_putJoined_102 (by decide) ?_
            refine lv_istore (lv' := [(5, .int 1), (4, .int r84), (0, .ref (a 0)), (1, .int x1), (2, .int x2), (3, .int x3), (6, .int y33_6)]) hx hb dX0_putJoined_106 hl (by decide) rfl (fun ls hl => ?_)
            refine lv_iconst (v := 1) hx hb dX0_putJoined_108 (by decide) ?_
            refine lv_istore (lv' := [(6, .int 1), (5, .int 1), (4, .int r84), (0, .ref (a 0)), (1, .int x1), (2, .int x2), (3, .int x3)]) hx hb dX0_putJoined_109 hl (by decide) rfl (fun ls hl => ?_)
            exact J111 r84 1 1 z33_u_cells z33_u_used _ _ _ hq hP hD hS (lv_sub hl [3, 5, 2, 1, 0] rfl)
        · have hq := hqB c5
          refine lv_aload_n hx hb dX0_putJoined_40 rfl (lv_at hl 0 rfl) ?_
          refine va_get (D := (dC, dI)) (ci := 0) (v := .ref (b 0)) (C := RX0) (T := TX0) (N := 14) hx hb hts iK0 hown hK hP 0 rfl rfl 5 (by decide) lk0 (fun _ h9 => h9) rfl dX0_putJoined_41 ?_
          refine lv_aload_n hx hb dX0_putJoined_44 rfl (lv_at hl 0 rfl) ?_
          refine va_get (D := (dC, dI)) (ci := 0) (v := .ref (a 5)) (C := RX0) (T := TX0) (N := 14) hx hb hts iK0 hown hK hP 0 rfl rfl 4 (by decide) lk1 (fun _ h9 => h9) rfl dX0_putJoined_45 ?_
          refine lv_iload_n hx hb dX0_putJoined_48 rfl (lv_at hl 1 rfl) ?_
          refine lv_iload hx hb dX0_putJoined_49 (lv_at hl 5 rfl) ?_
          obtain ⟨hqA, hqB⟩ := hq
          refine lv_if_eq (tgt := 59) hx hb dX0_putJoined_51 (by decide) (fun c4 => ?_) (fun c4 => ?_)
          · have hq := hqA c4
            refine lv_iload hx hb dX0_putJoined_59 (lv_at hl 4 rfl) ?_
            refine lv_iconst (v := 1) hx hb dX0_putJoined_61 (by decide) ?_
            refine lv_isub hx hb dX0_putJoined_62 ?_
            refine lv_iload hx hb dX0_putJoined_63 (lv_at hl 6 rfl) ?_
            refine lv_isub hx hb dX0_putJoined_65 ?_
            exact J66 ((y33_4 - 1) - y33_6) x1  _ _ _ hq hP hD hS (lv_sub hl [0, 1, 2, 3, 4, 5, 6] rfl)
          · have hq := hqB c4
            refine lv_iload hx hb dX0_putJoined_54 (lv_at hl 6 rfl) ?_
            refine lv_goto (tgt := 66) hx hb dX0_putJoined_56 (by decide) ?_
            exact J66 y33_6 x1  _ _ _ hq hP hD hS (lv_sub hl [0, 1, 2, 3, 4, 5, 6] rfl)
    exact key _ y33_6 z33_u_cells z33_u_used H locs ls h0 (Nat.lt_succ_self _) hP hD hS hl
  refine lv_aload_n hx hb dX0_putJoined_0 rfl (lv_at hl 0 rfl) ?_
  refine va_get (D := (dC, dI)) (ci := 0) (v := .ref (a 5)) (C := RX0) (T := TX0) (N := 14) hx hb hts iK0 hown hK hP 0 rfl rfl 4 (by decide) lk1 (fun _ h9 => h9) rfl dX0_putJoined_1 ?_
  refine lv_iload_n hx hb dX0_putJoined_4 rfl (lv_at hl 1 rfl) ?_
  refine lv_iconst (v := 2) hx hb dX0_putJoined_5 (by decide) ?_
  have hC : (([5, 6, 7] : List Nat).map (fun i => (wX0 cy a b v ++ wX3 cy b u)[i]?)) = (wX3 cy (sh a 5) (X0_tunnels v)).map some := rfl
  have hPc := xsubP hP hC
  have hDc := xsubD hD (by decide) hC
  have hFc := va_free (wc := (wX3 cy (sh a 5) (X0_tunnels v))) hD hS hAe0 [5, 6, 7] hC
  refine va_calli (va_runV (As := [.int x1, .int 2]) (rest := []) ⟨hx, hb, hml, hown, hts⟩ (c_X3_number l dC dI cy (sh a 5) _ (X0_tunnels v) x1 2 _ hq) (cwV 2 hts gX0_putJoined_X3_number rfl rfl rfl (by decide +kernel) ⟨Nat.le_of_ble_eq_true rfl, Nat.le_of_ble_eq_true rfl⟩) ⟨xPre_blind, va_recv hK hP (ci := 3) (q0 := 5) rfl rfl, xPre_of hPc hK hDc⟩ rfl rfl hl.1 rfl (lv_room (Nat.le_of_ble_eq_true rfl)) dX0_putJoined_6 ⟨Nat.le_of_ble_eq_true rfl, Nat.le_of_ble_eq_true rfl⟩) hS (fun q _ h => hFc q h) hFc (fun r6 u9 t H locs ht hvm hq hB hz1 hk1 hS => ?_)
  obtain ⟨hP1, -, hD1⟩ := hB
  rw [ht] at hP1
  have hP : va_P (dC, dI) vwCl (wX0 cy a b v ++ wX3 cy b u) H := xj_keep hP hD [5, 6, 7] hC hP1 hk1
  refine lv_istore (lv' := [(4, .int r6), (0, .ref (a 0)), (1, .int x1), (2, .int x2), (3, .int x3)]) hx hb dX0_putJoined_9 hl (by decide) rfl (fun ls hl => ?_)
  refine lv_aload_n hx hb dX0_putJoined_11 rfl (lv_at hl 1 rfl) ?_
  refine va_get (D := (dC, dI)) (ci := 0) (v := .ref (a 5)) (C := RX0) (T := TX0) (N := 14) hx hb hts iK0 hown hK hP 0 rfl rfl 4 (by decide) lk1 (fun _ h9 => h9) rfl dX0_putJoined_12 ?_
  refine lv_iload_n hx hb dX0_putJoined_15 rfl (lv_at hl 2 rfl) ?_
  have hC : (([5, 6, 7] : List Nat).map (fun i => (wX0 cy a b v ++ wX3 cy b u)[i]?)) = (wX3 cy (sh a 5) (X0_tunnels v)).map some := rfl
  have hPc := xsubP hP hC
  have hDc := xsubD hD (by decide) hC
  have hFc := va_free (wc := (wX3 cy (sh a 5) (X0_tunnels v))) hD hS hAe0 [5, 6, 7] hC
  refine va_calli (va_runV (As := [.int x1]) (rest := []) ⟨hx, hb, hml, hown, hts⟩ (c_X3_last l dC dI cy (sh a 5) _ (X0_tunnels v) x1 _ hq) (cwV 1 hts gX0_putJoined_X3_last rfl rfl rfl (by decide +kernel) ⟨Nat.le_of_ble_eq_true rfl, Nat.le_of_ble_eq_true rfl⟩) ⟨xPre_blind, va_recv hK hP (ci := 3) (q0 := 5) rfl rfl, xPre_of hPc hK hDc⟩ rfl rfl hl.1 rfl (lv_room (Nat.le_of_ble_eq_true rfl)) dX0_putJoined_16 ⟨Nat.le_of_ble_eq_true rfl, Nat.le_of_ble_eq_true rfl⟩) hS (fun q _ h => hFc q h) hFc (fun r16 u9 t H locs ht hvm hq hB hz1 hk1 hS => ?_)
  obtain ⟨hP1, -, hD1⟩ := hB
  rw [ht] at hP1
  have hP : va_P (dC, dI) vwCl (wX0 cy a b v ++ wX3 cy b u) H := xj_keep hP hD [5, 6, 7] hC hP1 hk1
  refine lv_iload_n hx hb dX0_putJoined_19 rfl (lv_at hl 4 rfl) ?_
  obtain ⟨hqA, hqB⟩ := hq
  refine lv_icmp_ne (tgt := 27) hx hb dX0_putJoined_20 (by decide) (fun c6 => ?_) (fun c6 => ?_)
  · have hq := hqB c6
    refine lv_iconst (v := 0) hx hb dX0_putJoined_27 (by decide) ?_
    refine lv_istore (lv' := [(5, .int 0), (4, .int r6), (0, .ref (a 0)), (1, .int x1), (2, .int x2), (3, .int x3)]) hx hb dX0_putJoined_28 hl (by decide) rfl (fun ls hl => ?_)
    refine lv_iconst (v := 0) hx hb dX0_putJoined_30 (by decide) ?_
    refine lv_istore (lv' := [(6, .int 0), (5, .int 0), (4, .int r6), (0, .ref (a 0)), (1, .int x1), (2, .int x2), (3, .int x3)]) hx hb dX0_putJoined_31 hl (by decide) rfl (fun ls hl => ?_)
    exact J33 r6 0 0 (X3_cells u) (X3_used u) _ _ _ hq hP hD hS (lv_sub hl [3, 4, 5, 6, 2, 1, 0] rfl)
  · have hq := hqA c6
    refine lv_iconst (v := 1) hx hb dX0_putJoined_23 (by decide) ?_
    refine lv_goto (tgt := 28) hx hb dX0_putJoined_24 (by decide) ?_
    refine lv_istore (lv' := [(5, .int 1), (4, .int r6), (0, .ref (a 0)), (1, .int x1), (2, .int x2), (3, .int x3)]) hx hb dX0_putJoined_28 hl (by decide) rfl (fun ls hl => ?_)
    refine lv_iconst (v := 0) hx hb dX0_putJoined_30 (by decide) ?_
    refine lv_istore (lv' := [(6, .int 0), (5, .int 1), (4, .int r6), (0, .ref (a 0)), (1, .int x1), (2, .int x2), (3, .int x3)]) hx hb dX0_putJoined_31 hl (by decide) rfl (fun ls hl => ?_)
    exact J33 r6 1 0 (X3_cells u) (X3_used u) _ _ _ hq hP hD hS (lv_sub hl [3, 4, 5, 6, 2, 1, 0] rfl)
