def wb_X2_measure_59 (v : V_X2) (w : V_X0) (x2 : Int32) (y43_3 : Int32) (y43_4 : Int32) (z43_v_distance : (Nat → Int32)) (B43 : Int32 → Int32 → (Nat → Int32) → Prop)  (y59_3 : Int32) (y59_5 : Int32) (z59_v_distance : (Nat → Int32)) (B59 : Int32 → Int32 → (Nat → Int32) → Prop) (Q : (Nat → Int32) → Prop) : Prop :=
  (((X3_size (X0_tunnels w)) ≤ y59_5 → B43 y59_3 (y43_4 + 1) z59_v_distance) ∧
  (¬ (X3_size (X0_tunnels w)) ≤ y59_5 → wp_X3_first (X0_tunnels w) y59_5 (fun r77 =>
  wp_X3_last (X0_tunnels w) y59_5 (fun r88 =>
  wp_X2_isTuft r77 (fun r95 =>
  ((r95 = 0 → B59 y59_3 (y59_5 + 1) z59_v_distance) ∧
  (¬ r95 = 0 → wp_X2_isTuft r88 (fun r103 =>
  ((r103 = 0 → B59 y59_3 (y59_5 + 1) z59_v_distance) ∧
  (¬ r103 = 0 → wp_X2_reach (X2_s0 v z59_v_distance) r77 r88 y43_4 (fun r116 z116_v_distance =>
  ((r116 = 0 → B59 y59_3 (y59_5 + 1) z116_v_distance) ∧
  (¬ r116 = 0 → B59 1 (y59_5 + 1) z116_v_distance)))))))))))))
def wp_X2_measure_59 (v : V_X2) (w : V_X0) (x2 : Int32) (y43_3 : Int32) (y43_4 : Int32) (z43_v_distance : (Nat → Int32)) (B43 : Int32 → Int32 → (Nat → Int32) → Prop)  (y59_3 : Int32) (y59_5 : Int32) (z59_v_distance : (Nat → Int32)) (Q : (Nat → Int32) → Prop) : Prop :=
  ∃ (I : Int32 → Int32 → (Nat → Int32) → Prop) (μ : Int32 → Int32 → (Nat → Int32) → Nat), I y59_3 y59_5 z59_v_distance ∧ ∀ (s0 : Int32) (s1 : Int32) (s2 : (Nat → Int32)), I s0 s1 s2 → wb_X2_measure_59 v w x2 y43_3 y43_4 z43_v_distance B43  s0 s1 s2 (fun t0 t1 t2 => I t0 t1 t2 ∧ μ t0 t1 t2 < μ s0 s1 s2) Q
def wb_X2_measure_43 (v : V_X2) (w : V_X0) (x2 : Int32)  (y43_3 : Int32) (y43_4 : Int32) (z43_v_distance : (Nat → Int32)) (B43 : Int32 → Int32 → (Nat → Int32) → Prop) (Q : (Nat → Int32) → Prop) : Prop :=
  ((y43_3 = 0 → Q z43_v_distance) ∧
  (¬ y43_3 = 0 → ((64 ≤ y43_4 → Q z43_v_distance) ∧
  (¬ 64 ≤ y43_4 → wp_X2_measure_59 v w x2 y43_3 y43_4 z43_v_distance B43  0 0 z43_v_distance Q))))
def wp_X2_measure_43 (v : V_X2) (w : V_X0) (x2 : Int32)  (y43_3 : Int32) (y43_4 : Int32) (z43_v_distance : (Nat → Int32)) (Q : (Nat → Int32) → Prop) : Prop :=
  ∃ (I : Int32 → Int32 → (Nat → Int32) → Prop) (μ : Int32 → Int32 → (Nat → Int32) → Nat), I y43_3 y43_4 z43_v_distance ∧ ∀ (s0 : Int32) (s1 : Int32) (s2 : (Nat → Int32)), I s0 s1 s2 → wb_X2_measure_43 v w x2  s0 s1 s2 (fun t0 t1 t2 => I t0 t1 t2 ∧ μ t0 t1 t2 < μ s0 s1 s2) Q
def wb_X2_measure_2 (v : V_X2) (w : V_X0) (x2 : Int32)  (y2_3 : Int32) (z2_v_distance : (Nat → Int32)) (B2 : Int32 → (Nat → Int32) → Prop) (Q : (Nat → Int32) → Prop) : Prop :=
  ((64 ≤ y2_3 → vp_in x2 64 ∧ ((((X0_mounds w) x2.toNatClampNeg) = 0 → Q z2_v_distance) ∧
  (¬ ((X0_mounds w) x2.toNatClampNeg) = 0 → wp_X2_measure_43 v w x2  1 0 (upd z2_v_distance x2.toNatClampNeg 0) Q))) ∧
  (¬ 64 ≤ y2_3 → vp_in y2_3 64 ∧ B2 (y2_3 + 1) (upd z2_v_distance y2_3.toNatClampNeg (-1))))
def wp_X2_measure_2 (v : V_X2) (w : V_X0) (x2 : Int32)  (y2_3 : Int32) (z2_v_distance : (Nat → Int32)) (Q : (Nat → Int32) → Prop) : Prop :=
  ∃ (I : Int32 → (Nat → Int32) → Prop) (μ : Int32 → (Nat → Int32) → Nat), I y2_3 z2_v_distance ∧ ∀ (s0 : Int32) (s1 : (Nat → Int32)), I s0 s1 → wb_X2_measure_2 v w x2  s0 s1 (fun t0 t1 => I t0 t1 ∧ μ t0 t1 < μ s0 s1) Q
def wp_X2_measure (v : V_X2) (w : V_X0) (x2 : Int32) (Q : (Nat → Int32) → Prop) : Prop :=
  wp_X2_measure_2 v w x2  0 (X2_distance v) Q
def q_X2_measure (dC : Nat → ClassId) (dI : Nat → Nat → Nat) (cy : Nat → ClassId) (a d b : Nat → Nat) (v : V_X2) (w : V_X0) (x2 : Int32) (Q : (Nat → Int32) → Prop) (A : Nat → Prop) : Array Value → State → Outcome → State → Prop := va_Qv (fun (u : (Nat → Int32)) => Q u) (fun (u : (Nat → Int32)) t => xAt dC dI cy A (cX2 cy a u (X2_group v) ++ wX0 cy d b w) t) A
set_option maxHeartbeats 4000000 in
set_option maxRecDepth 100000 in
theorem c_X2_measure (l : Launch) (dC : Nat → ClassId) (dI : Nat → Nat → Nat) (cy : Nat → ClassId) (a d b : Nat → Nat) (sz : Nat) (v : V_X2) (w : V_X0) (x2 : Int32) (Q : (Nat → Int32) → Prop) (hq : wp_X2_measure v w x2 Q) : Met l yX2_measure wsX2_measure ({ frames := 3, cells := 0, slots := 0, locals := 64 } : Room) (va_Pc [.ref (a 0), .ref (d 0), .int x2] (xPre dC dI cy (wX2 cy a v ++ wX0 cy d b w) sz)) (q_X2_measure dC dI cy a d b v w x2 Q (va_A (wX2 cy a v ++ wX0 cy d b w) sz)) 0 0 (va_A (wX2 cy a v ++ wX0 cy d b w) sz) := by
  refine Met.ofW (cc := cX2_measure) (maxL := 8) (ret := none) (by decide) rfl ?_
  intro p e s m args below meth c s₁ B hml hv
  obtain ⟨rfl, hsz, hP, hK, hD0⟩ := hv
  have hx := B.exec
  have hb := B.bytes
  have hr := B.returns
  have hts := atoms_spec (ws := wsX2_measure) B.pre
  have hown : s.vm.findClass RX2 = some m.cls := findClass_of_methodNamed B.named
  have hlocks := B.notSynchronized
  subst hsz
  have hD := hD0.self (sz := s.heap.size)
  generalize hAe : va_A (wX2 cy a v ++ wX0 cy d b w) s.heap.size = A at hD ⊢
  have hAe0 : ∀ q : Nat, s.heap.size ≤ q → A q := fun q h => by rw [← hAe]; exact Or.inr h
  have hS : va_S A s.heap s.heap [] := va_S.rf
  have hl := lv_entry ([.ref (a 0), .ref (d 0), .int x2]) (n := 8) (Nat.le_of_ble_eq_true rfl)
  rw [lg_entry_eq]
  generalize (lg_sl ([.ref (a 0), .ref (d 0), .int x2]) ++ List.replicate (8 - (lg_sl ([.ref (a 0), .ref (d 0), .int x2])).length) Slot.unset).toArray = ls at hl ⊢
  have hl : lv_has ls 8 [(0, .ref (a 0)), (1, .ref (d 0)), (2, .int x2)] := hl
  have lk0 := hts (Cond.fieldLink RX2 24 "MolesLawn$Lawn" "tunnels" "LMolesLawn$Rows;") (List.mem_cons_of_mem _ (List.mem_append_left _ (List.mem_append_left _ (List.mem_append_left _ (List.mem_append_left _ (List.mem_of_getElem? (i := 2) rfl))))))
  have lk1 := hts (Cond.fieldLink RX2 28 "MolesLawn$Rows" "size" "I") (List.mem_cons_of_mem _ (List.mem_append_left _ (List.mem_append_left _ (List.mem_append_left _ (List.mem_append_left _ (List.mem_of_getElem? (i := 3) rfl))))))
  have lk2 := hts (Cond.fieldLink RX2 18 "MolesLawn$Lawn" "mounds" "[Z") (List.mem_cons_of_mem _ (List.mem_append_left _ (List.mem_append_left _ (List.mem_append_left _ (List.mem_append_left _ (List.mem_of_getElem? (i := 1) rfl))))))
  have lk3 := hts (Cond.fieldLink RX2 9 "MolesLawn$Paths" "distance" "[I") (List.mem_cons_of_mem _ (List.mem_append_left _ (List.mem_append_left _ (List.mem_append_left _ (List.mem_append_left _ (List.mem_of_getElem? (i := 0) rfl))))))
  have iK0 : ∀ w ∈ wsX00, w ∈ wsX2_measure := fun _ h => (List.mem_cons_of_mem _ (List.mem_append_left _ (List.mem_append_right _ h)))
  have iK2 : ∀ w ∈ wsX20, w ∈ wsX2_measure := fun _ h => (List.mem_cons_of_mem _ (List.mem_append_left _ (List.mem_append_left _ (List.mem_append_right _ h))))
  have iK3 : ∀ w ∈ wsX30, w ∈ wsX2_measure := fun _ h => (List.mem_cons_of_mem _ (List.mem_append_right _ h))
  unfold wp_X2_measure at hq
  have J43 : ∀  (y43_3 : Int32) (y43_4 : Int32) (z43_v_distance : (Nat → Int32)) (H : Heap) (locs : List Loc) (ls : Array Slot), wp_X2_measure_43 v w x2  y43_3 y43_4 z43_v_distance Q → va_P (dC, dI) vwCl (cX2 cy a z43_v_distance (X2_group v) ++ wX0 cy d b w) H → va_D A (cX2 cy a z43_v_distance (X2_group v) ++ wX0 cy d b w) → va_S A s.heap H locs → lv_has ls 8 [(0, .ref (a 0)), (1, .ref (d 0)), (3, .int y43_3), (4, .int y43_4)] → W p l e (headSpec wsX2_measure ({ frames := 3, cells := 0, slots := 0, locals := 64 } : Room)).room s m ([.ref (a 0), .ref (d 0), .int x2] : List Value).toArray below meth c H locs 0 0 (MQ below (q_X2_measure dC dI cy a d b v w x2 Q A) ([.ref (a 0), .ref (d 0), .int x2] : List Value).toArray s 0 0 A) (F0 m 43 ls []) := by
    intro  y43_3 y43_4 z43_v_distance H locs ls hq hP hD hS hl
    obtain ⟨I43, μ43, h0, hs43⟩ := hq
    have key : ∀ (n : Nat) (y43_3 : Int32) (y43_4 : Int32) (z43_v_distance : (Nat → Int32)) (H : Heap) (locs : List Loc) (ls : Array Slot), I43 y43_3 y43_4 z43_v_distance → μ43 y43_3 y43_4 z43_v_distance < n → va_P (dC, dI) vwCl (cX2 cy a z43_v_distance (X2_group v) ++ wX0 cy d b w) H → va_D A (cX2 cy a z43_v_distance (X2_group v) ++ wX0 cy d b w) → va_S A s.heap H locs → lv_has ls 8 [(0, .ref (a 0)), (1, .ref (d 0)), (3, .int y43_3), (4, .int y43_4)] → W p l e (headSpec wsX2_measure ({ frames := 3, cells := 0, slots := 0, locals := 64 } : Room)).room s m ([.ref (a 0), .ref (d 0), .int x2] : List Value).toArray below meth c H locs 0 0 (MQ below (q_X2_measure dC dI cy a d b v w x2 Q A) ([.ref (a 0), .ref (d 0), .int x2] : List Value).toArray s 0 0 A) (F0 m 43 ls []) := by
      intro n
      induction n with
      | zero => intro y43_3 y43_4 z43_v_distance H locs ls _ hm; exact absurd hm (Nat.not_lt_zero _)
      | succ n ih =>
        intro y43_3 y43_4 z43_v_distance H locs ls hI hm hP hD hS hl
        have hq := hs43 y43_3 y43_4 z43_v_distance hI
        generalize hB43 : (fun (t0 : Int32) (t1 : Int32) (t2 : (Nat → Int32)) => I43 t0 t1 t2 ∧ μ43 t0 t1 t2 < μ43 y43_3 y43_4 z43_v_distance) = B43 at hq
        have bk43 : ∀ (y43_3 : Int32) (y43_4 : Int32) (z43_v_distance : (Nat → Int32)) (H : Heap) (locs : List Loc) (ls : Array Slot), B43 y43_3 y43_4 z43_v_distance → va_P (dC, dI) vwCl (cX2 cy a z43_v_distance (X2_group v) ++ wX0 cy d b w) H → va_D A (cX2 cy a z43_v_distance (X2_group v) ++ wX0 cy d b w) → va_S A s.heap H locs → lv_has ls 8 [(0, .ref (a 0)), (1, .ref (d 0)), (3, .int y43_3), (4, .int y43_4)] → W p l e (headSpec wsX2_measure ({ frames := 3, cells := 0, slots := 0, locals := 64 } : Room)).room s m ([.ref (a 0), .ref (d 0), .int x2] : List Value).toArray below meth c H locs 0 0 (MQ below (q_X2_measure dC dI cy a d b v w x2 Q A) ([.ref (a 0), .ref (d 0), .int x2] : List Value).toArray s 0 0 A) (F0 m 43 ls []) := by
          intro y43_3 y43_4 z43_v_distance H locs ls h
          rw [← hB43] at h
          exact ih y43_3 y43_4 z43_v_distance H locs ls h.1 (Nat.lt_of_lt_of_le h.2 (Nat.le_of_lt_succ hm))
        unfold wb_X2_measure_43 at hq
        have J59 : ∀  (y59_3 : Int32) (y59_5 : Int32) (z59_v_distance : (Nat → Int32)) (H : Heap) (locs : List Loc) (ls : Array Slot), wp_X2_measure_59 v w x2 y43_3 y43_4 z43_v_distance B43  y59_3 y59_5 z59_v_distance Q → va_P (dC, dI) vwCl (cX2 cy a z59_v_distance (X2_group v) ++ wX0 cy d b w) H → va_D A (cX2 cy a z59_v_distance (X2_group v) ++ wX0 cy d b w) → va_S A s.heap H locs → lv_has ls 8 [(0, .ref (a 0)), (1, .ref (d 0)), (3, .int y59_3), (4, .int y43_4), (5, .int y59_5)] → W p l e (headSpec wsX2_measure ({ frames := 3, cells := 0, slots := 0, locals := 64 } : Room)).room s m ([.ref (a 0), .ref (d 0), .int x2] : List Value).toArray below meth c H locs 0 0 (MQ below (q_X2_measure dC dI cy a d b v w x2 Q A) ([.ref (a 0), .ref (d 0), .int x2] : List Value).toArray s 0 0 A) (F0 m 59 ls []) := by
          intro  y59_3 y59_5 z59_v_distance H locs ls hq hP hD hS hl
          obtain ⟨I59, μ59, h0, hs59⟩ := hq
          have key : ∀ (n : Nat) (y59_3 : Int32) (y59_5 : Int32) (z59_v_distance : (Nat → Int32)) (H : Heap) (locs : List Loc) (ls : Array Slot), I59 y59_3 y59_5 z59_v_distance → μ59 y59_3 y59_5 z59_v_distance < n → va_P (dC, dI) vwCl (cX2 cy a z59_v_distance (X2_group v) ++ wX0 cy d b w) H → va_D A (cX2 cy a z59_v_distance (X2_group v) ++ wX0 cy d b w) → va_S A s.heap H locs → lv_has ls 8 [(0, .ref (a 0)), (1, .ref (d 0)), (3, .int y59_3), (4, .int y43_4), (5, .int y59_5)] → W p l e (headSpec wsX2_measure ({ frames := 3, cells := 0, slots := 0, locals := 64 } : Room)).room s m ([.ref (a 0), .ref (d 0), .int x2] : List Value).toArray below meth c H locs 0 0 (MQ below (q_X2_measure dC dI cy a d b v w x2 Q A) ([.ref (a 0), .ref (d 0), .int x2] : List Value).toArray s 0 0 A) (F0 m 59 ls []) := by
            intro n
            induction n with
            | zero => intro y59_3 y59_5 z59_v_distance H locs ls _ hm; exact absurd hm (Nat.not_lt_zero _)
            | succ n ih =>
              intro y59_3 y59_5 z59_v_distance H locs ls hI hm hP hD hS hl
              have hq := hs59 y59_3 y59_5 z59_v_distance hI
              generalize hB59 : (fun (t0 : Int32) (t1 : Int32) (t2 : (Nat → Int32)) => I59 t0 t1 t2 ∧ μ59 t0 t1 t2 < μ59 y59_3 y59_5 z59_v_distance) = B59 at hq
              have bk59 : ∀ (y59_3 : Int32) (y59_5 : Int32) (z59_v_distance : (Nat → Int32)) (H : Heap) (locs : List Loc) (ls : Array Slot), B59 y59_3 y59_5 z59_v_distance → va_P (dC, dI) vwCl (cX2 cy a z59_v_distance (X2_group v) ++ wX0 cy d b w) H → va_D A (cX2 cy a z59_v_distance (X2_group v) ++ wX0 cy d b w) → va_S A s.heap H locs → lv_has ls 8 [(0, .ref (a 0)), (1, .ref (d 0)), (3, .int y59_3), (4, .int y43_4), (5, .int y59_5)] → W p l e (headSpec wsX2_measure ({ frames := 3, cells := 0, slots := 0, locals := 64 } : Room)).room s m ([.ref (a 0), .ref (d 0), .int x2] : List Value).toArray below meth c H locs 0 0 (MQ below (q_X2_measure dC dI cy a d b v w x2 Q A) ([.ref (a 0), .ref (d 0), .int x2] : List Value).toArray s 0 0 A) (F0 m 59 ls []) := by
                intro y59_3 y59_5 z59_v_distance H locs ls h
                rw [← hB59] at h
                exact ih y59_3 y59_5 z59_v_distance H locs ls h.1 (Nat.lt_of_lt_of_le h.2 (Nat.le_of_lt_succ hm))
              unfold wb_X2_measure_59 at hq
              refine lv_iload hx hb dX2_measure_59 (lv_at hl 4 rfl) ?_
              refine lv_aload_n hx hb dX2_measure_61 rfl (lv_at hl 1 rfl) ?_
              refine va_get (D := (dC, dI)) (ci := 0) (v := .ref (d 5)) (C := RX0) (T := TX0) (N := 14) hx hb hts iK0 hown hK hP 3 rfl rfl 4 (by decide) lk0 (fun _ h9 => h9) rfl dX2_measure_62 ?_
              refine va_get (D := (dC, dI)) (ci := 3) (v := .int (X3_size (X0_tunnels w))) (C := RX3) (T := TX3) (N := 4) hx hb hts iK3 hown hK hP 8 rfl rfl 3 (by decide) lk1 (fun _ h9 => h9) rfl dX2_measure_65 ?_
              obtain ⟨hqA, hqB⟩ := hq
              refine lv_icmp_ge (tgt := 130) hx hb dX2_measure_68 (by decide) (fun c4 => ?_) (fun c4 => ?_)
              · have hq := hqA c4
                refine lv_iinc (v := (y43_4 + 1)) (lv' := [(4, .int (y43_4 + 1)), (0, .ref (a 0)), (1, .ref (d 0)), (3, .int y59_3), (5, .int y59_5)]) hx hb dX2_measure_130 hl (k := 3) rfl rfl (by decide) rfl (fun ls hl => ?_)
                refine lv_goto (tgt := 43) hx hb dX2_measure_133 (by decide) ?_
                exact bk43 y59_3 (y43_4 + 1) z59_v_distance _ _ _ hq hP hD hS (lv_sub hl [1, 2, 3, 0] rfl)
              · have hq := hqB c4
                refine lv_aload_n hx hb dX2_measure_71 rfl (lv_at hl 1 rfl) ?_
                refine va_get (D := (dC, dI)) (ci := 0) (v := .ref (d 5)) (C := RX0) (T := TX0) (N := 14) hx hb hts iK0 hown hK hP 3 rfl rfl 4 (by decide) lk0 (fun _ h9 => h9) rfl dX2_measure_72 ?_
                refine lv_iload hx hb dX2_measure_75 (lv_at hl 4 rfl) ?_
                have hC : (([8, 9, 10] : List Nat).map (fun i => (cX2 cy a z59_v_distance (X2_group v) ++ wX0 cy d b w)[i]?)) = (wX3 cy (sh d 5) (X0_tunnels w)).map some := rfl
                have hPc := xsubP hP hC
                have hDc := xsubD hD (by decide) hC
                have hFc := va_free (wc := (wX3 cy (sh d 5) (X0_tunnels w))) hD hS hAe0 [8, 9, 10] hC
                refine va_calli (va_runV (As := [.int y59_5]) (rest := []) ⟨hx, hb, hml, hown, hts⟩ (c_X3_first l dC dI cy (sh d 5) _ (X0_tunnels w) y59_5 _ hq) (cwV 1 hts gX2_measure_X3_first rfl rfl rfl (by decide +kernel) ⟨Nat.le_of_ble_eq_true rfl, Nat.le_of_ble_eq_true rfl⟩) ⟨xPre_blind, va_recv hK hP (ci := 3) (q0 := 8) rfl rfl, xPre_of hPc hK hDc⟩ rfl rfl hl.1 rfl (lv_room (Nat.le_of_ble_eq_true rfl)) dX2_measure_77 ⟨Nat.le_of_ble_eq_true rfl, Nat.le_of_ble_eq_true rfl⟩) hS (fun q _ h => hFc q h) hFc (fun r77 u9 t H locs ht hvm hq hB hz1 hk1 hS => ?_)
                obtain ⟨hP1, -, hD1⟩ := hB
                rw [ht] at hP1
                have hP : va_P (dC, dI) vwCl (cX2 cy a z59_v_distance (X2_group v) ++ wX0 cy d b w) H := xj_keep hP hD [8, 9, 10] hC hP1 hk1
                refine lv_istore (lv' := [(6, .int r77), (0, .ref (a 0)), (1, .ref (d 0)), (3, .int y59_3), (4, .int y43_4), (5, .int y59_5)]) hx hb dX2_measure_80 hl (by decide) rfl (fun ls hl => ?_)
                refine lv_aload_n hx hb dX2_measure_82 rfl (lv_at hl 2 rfl) ?_
                refine va_get (D := (dC, dI)) (ci := 0) (v := .ref (d 5)) (C := RX0) (T := TX0) (N := 14) hx hb hts iK0 hown hK hP 3 rfl rfl 4 (by decide) lk0 (fun _ h9 => h9) rfl dX2_measure_83 ?_
                refine lv_iload hx hb dX2_measure_86 (lv_at hl 5 rfl) ?_
                have hC : (([8, 9, 10] : List Nat).map (fun i => (cX2 cy a z59_v_distance (X2_group v) ++ wX0 cy d b w)[i]?)) = (wX3 cy (sh d 5) (X0_tunnels w)).map some := rfl
                have hPc := xsubP hP hC
                have hDc := xsubD hD (by decide) hC
                have hFc := va_free (wc := (wX3 cy (sh d 5) (X0_tunnels w))) hD hS hAe0 [8, 9, 10] hC
                refine va_calli (va_runV (As := [.int y59_5]) (rest := []) ⟨hx, hb, hml, hown, hts⟩ (c_X3_last l dC dI cy (sh d 5) _ (X0_tunnels w) y59_5 _ hq) (cwV 1 hts gX2_measure_X3_last rfl rfl rfl (by decide +kernel) ⟨Nat.le_of_ble_eq_true rfl, Nat.le_of_ble_eq_true rfl⟩) ⟨xPre_blind, va_recv hK hP (ci := 3) (q0 := 8) rfl rfl, xPre_of hPc hK hDc⟩ rfl rfl hl.1 rfl (lv_room (Nat.le_of_ble_eq_true rfl)) dX2_measure_88 ⟨Nat.le_of_ble_eq_true rfl, Nat.le_of_ble_eq_true rfl⟩) hS (fun q _ h => hFc q h) hFc (fun r88 u9 t H locs ht hvm hq hB hz1 hk1 hS => ?_)
                obtain ⟨hP1, -, hD1⟩ := hB
                rw [ht] at hP1
                have hP : va_P (dC, dI) vwCl (cX2 cy a z59_v_distance (X2_group v) ++ wX0 cy d b w) H := xj_keep hP hD [8, 9, 10] hC hP1 hk1
                refine lv_istore (lv' := [(7, .int r88), (6, .int r77), (0, .ref (a 0)), (1, .ref (d 0)), (3, .int y59_3), (4, .int y43_4), (5, .int y59_5)]) hx hb dX2_measure_91 hl (by decide) rfl (fun ls hl => ?_)
                refine lv_iload hx hb dX2_measure_93 (lv_at hl 1 rfl) ?_
                have hFc := xfree_none hS hAe0
                refine va_calli (va_runS (As := [.int r77]) (rest := []) ⟨hx, hb, hml, hown, hts⟩ (c_X2_isTuft l dC dI cy  _ r77 _ hq) (va_cwS 1 hts gX2_measure_X2_isTuft rfl rfl rfl (by decide +kernel) ⟨Nat.le_of_ble_eq_true rfl, Nat.le_of_ble_eq_true rfl⟩) ⟨xPre_blind, xPre_of xP_nil hK (xD_nil (A := A))⟩ rfl rfl hl.1 rfl (lv_room (Nat.le_of_ble_eq_true rfl)) dX2_measure_95 ⟨Nat.le_of_ble_eq_true rfl, Nat.le_of_ble_eq_true rfl⟩) hS (fun q _ h => hFc q h) hFc (fun r95 u9 t H locs ht hvm hq hB hz1 hk1 hS => ?_)
                have hP := xj_none hP hk1
                obtain ⟨hqA, hqB⟩ := hq
                refine lv_if_eq (tgt := 124) hx hb dX2_measure_98 (by decide) (fun c3 => ?_) (fun c3 => ?_)
                · have hq := hqA c3
                  refine lv_iinc (v := (y59_5 + 1)) (lv' := [(5, .int (y59_5 + 1)), (7, .int r88), (6, .int r77), (0, .ref (a 0)), (1, .ref (d 0)), (3, .int y59_3), (4, .int y43_4)]) hx hb dX2_measure_124 hl (k := 6) rfl rfl (by decide) rfl (fun ls hl => ?_)
                  refine lv_goto (tgt := 59) hx hb dX2_measure_127 (by decide) ?_
                  exact bk59 y59_3 (y59_5 + 1) z59_v_distance _ _ _ hq hP hD hS (lv_sub hl [3, 4, 5, 6, 0] rfl)
                · have hq := hqB c3
                  refine lv_iload hx hb dX2_measure_101 (lv_at hl 0 rfl) ?_
                  have hFc := xfree_none hS hAe0
                  refine va_calli (va_runS (As := [.int r88]) (rest := []) ⟨hx, hb, hml, hown, hts⟩ (c_X2_isTuft l dC dI cy  _ r88 _ hq) (va_cwS 1 hts gX2_measure_X2_isTuft rfl rfl rfl (by decide +kernel) ⟨Nat.le_of_ble_eq_true rfl, Nat.le_of_ble_eq_true rfl⟩) ⟨xPre_blind, xPre_of xP_nil hK (xD_nil (A := A))⟩ rfl rfl hl.1 rfl (lv_room (Nat.le_of_ble_eq_true rfl)) dX2_measure_103 ⟨Nat.le_of_ble_eq_true rfl, Nat.le_of_ble_eq_true rfl⟩) hS (fun q _ h => hFc q h) hFc (fun r103 u9 t H locs ht hvm hq hB hz1 hk1 hS => ?_)
                  have hP := xj_none hP hk1
                  obtain ⟨hqA, hqB⟩ := hq
                  refine lv_if_eq (tgt := 124) hx hb dX2_measure_106 (by decide) (fun c2 => ?_) (fun c2 => ?_)
                  · have hq := hqA c2
                    refine lv_iinc (v := (y59_5 + 1)) (lv' := [(5, .int (y59_5 + 1)), (7, .int r88), (6, .int r77), (0, .ref (a 0)), (1, .ref (d 0)), (3, .int y59_3), (4, .int y43_4)]) hx hb dX2_measure_124 hl (k := 6) rfl rfl (by decide) rfl (fun ls hl => ?_)
                    refine lv_goto (tgt := 59) hx hb dX2_measure_127 (by decide) ?_
                    exact bk59 y59_3 (y59_5 + 1) z59_v_distance _ _ _ hq hP hD hS (lv_sub hl [3, 4, 5, 6, 0] rfl)
                  · have hq := hqB c2
                    refine lv_aload_n hx hb dX2_measure_109 rfl (lv_at hl 2 rfl) ?_
                    refine lv_iload hx hb dX2_measure_110 (lv_at hl 1 rfl) ?_
                    refine lv_iload hx hb dX2_measure_112 (lv_at hl 0 rfl) ?_
                    refine lv_iload hx hb dX2_measure_114 (lv_at hl 5 rfl) ?_
                    have hC : (([0, 1, 2] : List Nat).map (fun i => (cX2 cy a z59_v_distance (X2_group v) ++ wX0 cy d b w)[i]?)) = (cX2 cy a z59_v_distance (X2_group v)).map some := rfl
                    have hPc := xsubP hP hC
                    have hDc := xsubD hD (by decide) hC
                    have hFc := va_free (wc := (cX2 cy a z59_v_distance (X2_group v))) hD hS hAe0 [0, 1, 2] hC
                    refine va_calli (va_runV (As := [.int r77, .int r88, .int y43_4]) (rest := []) ⟨hx, hb, hml, hown, hts⟩ (c_X2_reach l dC dI cy a _ (X2_s0 v z59_v_distance) r77 r88 y43_4 _ hq) (cwV 3 hts gX2_measure_X2_reach rfl rfl rfl (by decide +kernel) ⟨Nat.le_of_ble_eq_true rfl, Nat.le_of_ble_eq_true rfl⟩) ⟨xPre_blind, va_recv hK hP (ci := 2) (q0 := 0) rfl rfl, xPre_of hPc hK hDc⟩ rfl rfl hl.1 rfl (lv_room (Nat.le_of_ble_eq_true rfl)) dX2_measure_116 ⟨Nat.le_of_ble_eq_true rfl, Nat.le_of_ble_eq_true rfl⟩) hS (fun q _ h => hFc q h) hFc (fun r116 z116_v_distance t H locs ht hvm hq hB hz1 hk1 hS => ?_)
                    obtain ⟨hP1, -, hD1⟩ := hB
                    rw [ht] at hP1
                    obtain ⟨hP, hD⟩ := xj hP hD [0, 1, 2] (cX2 cy a z116_v_distance (X2_group v)) (ws' := (cX2 cy a z116_v_distance (X2_group v) ++ wX0 cy d b w)) hC rfl rfl hk1 hFc hP1
                    obtain ⟨hqA, hqB⟩ := hq
                    refine lv_if_eq (tgt := 124) hx hb dX2_measure_119 (by decide) (fun c1 => ?_) (fun c1 => ?_)
                    · have hq := hqA c1
                      refine lv_iinc (v := (y59_5 + 1)) (lv' := [(5, .int (y59_5 + 1)), (7, .int r88), (6, .int r77), (0, .ref (a 0)), (1, .ref (d 0)), (3, .int y59_3), (4, .int y43_4)]) hx hb dX2_measure_124 hl (k := 6) rfl rfl (by decide) rfl (fun ls hl => ?_)
                      refine lv_goto (tgt := 59) hx hb dX2_measure_127 (by decide) ?_
                      exact bk59 y59_3 (y59_5 + 1) z116_v_distance _ _ _ hq hP hD hS (lv_sub hl [3, 4, 5, 6, 0] rfl)
                    · have hq := hqB c1
                      refine lv_iconst (v := 1) hx hb dX2_measure_122 (by decide) ?_
                      refine lv_istore_n (lv' := [(3, .int 1), (7, .int r88), (6, .int r77), (0, .ref (a 0)), (1, .ref (d 0)), (4, .int y43_4), (5, .int y59_5)]) hx hb dX2_measure_123 rfl hl (by decide) rfl (fun ls hl => ?_)
                      refine lv_iinc (v := (y59_5 + 1)) (lv' := [(5, .int (y59_5 + 1)), (3, .int 1), (7, .int r88), (6, .int r77), (0, .ref (a 0)), (1, .ref (d 0)), (4, .int y43_4)]) hx hb dX2_measure_124 hl (k := 6) rfl rfl (by decide) rfl (fun ls hl => ?_)
                      refine lv_goto (tgt := 59) hx hb dX2_measure_127 (by decide) ?_
                      exact bk59 1 (y59_5 + 1) z116_v_distance _ _ _ hq hP hD hS (lv_sub hl [4, 5, 1, 6, 0] rfl)
          exact key _ y59_3 y59_5 z59_v_distance H locs ls h0 (Nat.lt_succ_self _) hP hD hS hl
        refine lv_iload_n hx hb dX2_measure_43 rfl (lv_at hl 2 rfl) ?_
        obtain ⟨hqA, hqB⟩ := hq
        refine lv_if_eq (tgt := 136) hx hb dX2_measure_44 (by decide) (fun c6 => ?_) (fun c6 => ?_)
        · have hq := hqA c6
          exact W.vret hx hb hr (fun t ht hW => ⟨⟨z43_v_distance, rfl, hq, (xAt_of hP hK hD ht hW)⟩, hS.F ht⟩) hS.2.2 dX2_measure_136
        · have hq := hqB c6
          refine lv_iload hx hb dX2_measure_47 (lv_at hl 3 rfl) ?_
          refine lv_bipush (v := 64) hx hb dX2_measure_49 (by decide) ?_
          obtain ⟨hqA, hqB⟩ := hq
          refine lv_icmp_ge (tgt := 136) hx hb dX2_measure_51 (by decide) (fun c5 => ?_) (fun c5 => ?_)
          · have hq := hqA c5
            exact W.vret hx hb hr (fun t ht hW => ⟨⟨z43_v_distance, rfl, hq, (xAt_of hP hK hD ht hW)⟩, hS.F ht⟩) hS.2.2 dX2_measure_136
          · have hq := hqB c5
            refine lv_iconst (v := 0) hx hb dX2_measure_54 (by decide) ?_
            refine lv_istore_n (lv' := [(3, .int 0), (0, .ref (a 0)), (1, .ref (d 0)), (4, .int y43_4)]) hx hb dX2_measure_55 rfl hl (by decide) rfl (fun ls hl => ?_)
            refine lv_iconst (v := 0) hx hb dX2_measure_56 (by decide) ?_
            refine lv_istore (lv' := [(5, .int 0), (3, .int 0), (0, .ref (a 0)), (1, .ref (d 0)), (4, .int y43_4)]) hx hb dX2_measure_57 hl (by decide) rfl (fun ls hl => ?_)
            exact J59  0 0 z43_v_distance _ _ _ hq hP hD hS (lv_sub hl [2, 3, 1, 4, 0] rfl)
    exact key _ y43_3 y43_4 z43_v_distance H locs ls h0 (Nat.lt_succ_self _) hP hD hS hl
  have J2 : ∀  (y2_3 : Int32) (z2_v_distance : (Nat → Int32)) (H : Heap) (locs : List Loc) (ls : Array Slot), wp_X2_measure_2 v w x2  y2_3 z2_v_distance Q → va_P (dC, dI) vwCl (cX2 cy a z2_v_distance (X2_group v) ++ wX0 cy d b w) H → va_D A (cX2 cy a z2_v_distance (X2_group v) ++ wX0 cy d b w) → va_S A s.heap H locs → lv_has ls 8 [(0, .ref (a 0)), (1, .ref (d 0)), (2, .int x2), (3, .int y2_3)] → W p l e (headSpec wsX2_measure ({ frames := 3, cells := 0, slots := 0, locals := 64 } : Room)).room s m ([.ref (a 0), .ref (d 0), .int x2] : List Value).toArray below meth c H locs 0 0 (MQ below (q_X2_measure dC dI cy a d b v w x2 Q A) ([.ref (a 0), .ref (d 0), .int x2] : List Value).toArray s 0 0 A) (F0 m 2 ls []) := by
    intro  y2_3 z2_v_distance H locs ls hq hP hD hS hl
    obtain ⟨I2, μ2, h0, hs2⟩ := hq
    have key : ∀ (n : Nat) (y2_3 : Int32) (z2_v_distance : (Nat → Int32)) (H : Heap) (locs : List Loc) (ls : Array Slot), I2 y2_3 z2_v_distance → μ2 y2_3 z2_v_distance < n → va_P (dC, dI) vwCl (cX2 cy a z2_v_distance (X2_group v) ++ wX0 cy d b w) H → va_D A (cX2 cy a z2_v_distance (X2_group v) ++ wX0 cy d b w) → va_S A s.heap H locs → lv_has ls 8 [(0, .ref (a 0)), (1, .ref (d 0)), (2, .int x2), (3, .int y2_3)] → W p l e (headSpec wsX2_measure ({ frames := 3, cells := 0, slots := 0, locals := 64 } : Room)).room s m ([.ref (a 0), .ref (d 0), .int x2] : List Value).toArray below meth c H locs 0 0 (MQ below (q_X2_measure dC dI cy a d b v w x2 Q A) ([.ref (a 0), .ref (d 0), .int x2] : List Value).toArray s 0 0 A) (F0 m 2 ls []) := by
      intro n
      induction n with
      | zero => intro y2_3 z2_v_distance H locs ls _ hm; exact absurd hm (Nat.not_lt_zero _)
      | succ n ih =>
        intro y2_3 z2_v_distance H locs ls hI hm hP hD hS hl
        have hq := hs2 y2_3 z2_v_distance hI
        generalize hB2 : (fun (t0 : Int32) (t1 : (Nat → Int32)) => I2 t0 t1 ∧ μ2 t0 t1 < μ2 y2_3 z2_v_distance) = B2 at hq
        have bk2 : ∀ (y2_3 : Int32) (z2_v_distance : (Nat → Int32)) (H : Heap) (locs : List Loc) (ls : Array Slot), B2 y2_3 z2_v_distance → va_P (dC, dI) vwCl (cX2 cy a z2_v_distance (X2_group v) ++ wX0 cy d b w) H → va_D A (cX2 cy a z2_v_distance (X2_group v) ++ wX0 cy d b w) → va_S A s.heap H locs → lv_has ls 8 [(0, .ref (a 0)), (1, .ref (d 0)), (2, .int x2), (3, .int y2_3)] → W p l e (headSpec wsX2_measure ({ frames := 3, cells := 0, slots := 0, locals := 64 } : Room)).room s m ([.ref (a 0), .ref (d 0), .int x2] : List Value).toArray below meth c H locs 0 0 (MQ below (q_X2_measure dC dI cy a d b v w x2 Q A) ([.ref (a 0), .ref (d 0), .int x2] : List Value).toArray s 0 0 A) (F0 m 2 ls []) := by
          intro y2_3 z2_v_distance H locs ls h
          rw [← hB2] at h
          exact ih y2_3 z2_v_distance H locs ls h.1 (Nat.lt_of_lt_of_le h.2 (Nat.le_of_lt_succ hm))
        unfold wb_X2_measure_2 at hq
        refine lv_iload_n hx hb dX2_measure_2 rfl (lv_at hl 3 rfl) ?_
        refine lv_bipush (v := 64) hx hb dX2_measure_3 (by decide) ?_
        obtain ⟨hqA, hqB⟩ := hq
        refine lv_icmp_ge (tgt := 21) hx hb dX2_measure_5 (by decide) (fun c10 => ?_) (fun c10 => ?_)
        · have hq := hqA c10
          refine lv_aload_n hx hb dX2_measure_21 rfl (lv_at hl 1 rfl) ?_
          refine va_get (D := (dC, dI)) (ci := 0) (v := .ref (d 1)) (C := RX0) (T := TX0) (N := 14) hx hb hts iK0 hown hK hP 3 rfl rfl 0 (by decide) lk2 (fun _ h9 => h9) rfl dX2_measure_22 ?_
          refine lv_iload_n hx hb dX2_measure_25 rfl (lv_at hl 2 rfl) ?_
          obtain ⟨g7, hq⟩ := hq
          refine va_zald hx hb hK hP 4 1 rfl rfl g7 dX2_measure_26 ?_
          obtain ⟨hqA, hqB⟩ := hq
          refine lv_if_ne (tgt := 31) hx hb dX2_measure_27 (by decide) (fun c8 => ?_) (fun c8 => ?_)
          · have hq := hqB c8
            refine lv_aload_n hx hb dX2_measure_31 rfl (lv_at hl 0 rfl) ?_
            refine va_get (D := (dC, dI)) (ci := 2) (v := .ref (a 1)) (C := RX2) (T := TX2) (N := 2) hx hb hts iK2 hown hK hP 0 rfl rfl 0 (by decide) lk3 (fun _ h9 => h9) rfl dX2_measure_32 ?_
            refine lv_iload_n hx hb dX2_measure_35 rfl (lv_at hl 2 rfl) ?_
            refine lv_iconst (v := 0) hx hb dX2_measure_36 (by decide) ?_
            refine va_iast hx hb hK hP hD hS 1 0 rfl rfl g7 dX2_measure_37 (fun H locs hP hD hS => ?_)
            have hP : va_P (dC, dI) vwCl (cX2 cy a (upd z2_v_distance x2.toNatClampNeg 0) (X2_group v) ++ wX0 cy d b w) H := hP
            have hD : va_D A (cX2 cy a (upd z2_v_distance x2.toNatClampNeg 0) (X2_group v) ++ wX0 cy d b w) := hD
            refine lv_iconst (v := 1) hx hb dX2_measure_38 (by decide) ?_
            refine lv_istore_n (lv' := [(3, .int 1), (0, .ref (a 0)), (1, .ref (d 0)), (2, .int x2)]) hx hb dX2_measure_39 rfl hl (by decide) rfl (fun ls hl => ?_)
            refine lv_iconst (v := 0) hx hb dX2_measure_40 (by decide) ?_
            refine lv_istore (lv' := [(4, .int 0), (3, .int 1), (0, .ref (a 0)), (1, .ref (d 0)), (2, .int x2)]) hx hb dX2_measure_41 hl (by decide) rfl (fun ls hl => ?_)
            exact J43  1 0 (upd z2_v_distance x2.toNatClampNeg 0) _ _ _ hq hP hD hS (lv_sub hl [2, 3, 1, 0] rfl)
          · have hq := hqA c8
            exact W.vret hx hb hr (fun t ht hW => ⟨⟨z2_v_distance, rfl, hq, (xAt_of hP hK hD ht hW)⟩, hS.F ht⟩) hS.2.2 dX2_measure_30
        · have hq := hqB c10
          refine lv_aload_n hx hb dX2_measure_8 rfl (lv_at hl 0 rfl) ?_
          refine va_get (D := (dC, dI)) (ci := 2) (v := .ref (a 1)) (C := RX2) (T := TX2) (N := 2) hx hb hts iK2 hown hK hP 0 rfl rfl 0 (by decide) lk3 (fun _ h9 => h9) rfl dX2_measure_9 ?_
          refine lv_iload_n hx hb dX2_measure_12 rfl (lv_at hl 3 rfl) ?_
          refine lv_iconst (v := (-1)) hx hb dX2_measure_13 (by decide) ?_
          obtain ⟨g9, hq⟩ := hq
          refine va_iast hx hb hK hP hD hS 1 0 rfl rfl g9 dX2_measure_14 (fun H locs hP hD hS => ?_)
          have hP : va_P (dC, dI) vwCl (cX2 cy a (upd z2_v_distance y2_3.toNatClampNeg (-1)) (X2_group v) ++ wX0 cy d b w) H := hP
          have hD : va_D A (cX2 cy a (upd z2_v_distance y2_3.toNatClampNeg (-1)) (X2_group v) ++ wX0 cy d b w) := hD
          refine lv_iinc (v := (y2_3 + 1)) (lv' := [(3, .int (y2_3 + 1)), (0, .ref (a 0)), (1, .ref (d 0)), (2, .int x2)]) hx hb dX2_measure_15 hl (k := 3) rfl rfl (by decide) rfl (fun ls hl => ?_)
          refine lv_goto (tgt := 2) hx hb dX2_measure_18 (by decide) ?_
          exact bk2 (y2_3 + 1) (upd z2_v_distance y2_3.toNatClampNeg (-1)) _ _ _ hq hP hD hS (lv_sub hl [1, 2, 3, 0] rfl)
    exact key _ y2_3 z2_v_distance H locs ls h0 (Nat.lt_succ_self _) hP hD hS hl
  refine lv_iconst (v := 0) hx hb dX2_measure_0 (by decide) ?_
  refine lv_istore_n (lv' := [(3, .int 0), (0, .ref (a 0)), (1, .ref (d 0)), (2, .int x2)]) hx hb dX2_measure_1 rfl hl (by decide) rfl (fun ls hl => ?_)
  exact J2  0 (X2_distance v) _ _ _ hq hP hD hS (lv_sub hl [1, 2, 3, 0] rfl)
