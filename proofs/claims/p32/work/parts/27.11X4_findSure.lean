def wb_X4_findSure_58 (v : V_X4) (w : V_X0) (y43_2 : Int32) (y43_3 : Int32) (z43_v_sure : (Nat → Int32)) (B43 : Int32 → Int32 → (Nat → Int32) → Prop)  (y58_2 : Int32) (y58_4 : Int32) (z58_v_sure : (Nat → Int32)) (B58 : Int32 → Int32 → (Nat → Int32) → Prop) (Q : (Nat → Int32) → Prop) : Prop :=
  ((64 ≤ y58_4 → B43 y58_2 (y43_3 + 1) z58_v_sure) ∧
  (¬ 64 ≤ y58_4 → vp_in y58_4 64 ∧ ((((X0_opened w) y58_4.toNatClampNeg) = 0 → B58 y58_2 (y58_4 + 1) z58_v_sure) ∧
  (¬ ((X0_opened w) y58_4.toNatClampNeg) = 0 → wp_X4_concludeAt (X4_s2 v z58_v_sure) y58_4 (fun r78 z78_v_sure =>
  ((r78 = 0 → B58 y58_2 (y58_4 + 1) z78_v_sure) ∧
  (¬ r78 = 0 → B58 1 (y58_4 + 1) z78_v_sure)))))))
def wp_X4_findSure_58 (v : V_X4) (w : V_X0) (y43_2 : Int32) (y43_3 : Int32) (z43_v_sure : (Nat → Int32)) (B43 : Int32 → Int32 → (Nat → Int32) → Prop)  (y58_2 : Int32) (y58_4 : Int32) (z58_v_sure : (Nat → Int32)) (Q : (Nat → Int32) → Prop) : Prop :=
  ∃ (I : Int32 → Int32 → (Nat → Int32) → Prop) (μ : Int32 → Int32 → (Nat → Int32) → Nat), I y58_2 y58_4 z58_v_sure ∧ ∀ (s0 : Int32) (s1 : Int32) (s2 : (Nat → Int32)), I s0 s1 s2 → wb_X4_findSure_58 v w y43_2 y43_3 z43_v_sure B43  s0 s1 s2 (fun t0 t1 t2 => I t0 t1 t2 ∧ μ t0 t1 t2 < μ s0 s1 s2) Q
def wb_X4_findSure_43 (v : V_X4) (w : V_X0)  (y43_2 : Int32) (y43_3 : Int32) (z43_v_sure : (Nat → Int32)) (B43 : Int32 → Int32 → (Nat → Int32) → Prop) (Q : (Nat → Int32) → Prop) : Prop :=
  ((y43_2 = 0 → Q z43_v_sure) ∧
  (¬ y43_2 = 0 → ((64 < y43_3 → Q z43_v_sure) ∧
  (¬ 64 < y43_3 → wp_X4_findSure_58 v w y43_2 y43_3 z43_v_sure B43  0 0 z43_v_sure Q))))
def wp_X4_findSure_43 (v : V_X4) (w : V_X0)  (y43_2 : Int32) (y43_3 : Int32) (z43_v_sure : (Nat → Int32)) (Q : (Nat → Int32) → Prop) : Prop :=
  ∃ (I : Int32 → Int32 → (Nat → Int32) → Prop) (μ : Int32 → Int32 → (Nat → Int32) → Nat), I y43_2 y43_3 z43_v_sure ∧ ∀ (s0 : Int32) (s1 : Int32) (s2 : (Nat → Int32)), I s0 s1 s2 → wb_X4_findSure_43 v w  s0 s1 s2 (fun t0 t1 t2 => I t0 t1 t2 ∧ μ t0 t1 t2 < μ s0 s1 s2) Q
def wb_X4_findSure_2 (v : V_X4) (w : V_X0)  (y2_2 : Int32) (z2_v_sure : (Nat → Int32)) (B2 : Int32 → (Nat → Int32) → Prop) (Q : (Nat → Int32) → Prop) : Prop :=
  ((64 ≤ y2_2 → wp_X4_findSure_43 v w  1 0 z2_v_sure Q) ∧
  (¬ 64 ≤ y2_2 → vp_in y2_2 64 ∧ ((((X0_opened w) y2_2.toNatClampNeg) = 0 → B2 (y2_2 + 1) (upd z2_v_sure y2_2.toNatClampNeg (-1))) ∧
  (¬ ((X0_opened w) y2_2.toNatClampNeg) = 0 → B2 (y2_2 + 1) (upd z2_v_sure y2_2.toNatClampNeg ((X4_hollow v) y2_2.toNatClampNeg))))))
def wp_X4_findSure_2 (v : V_X4) (w : V_X0)  (y2_2 : Int32) (z2_v_sure : (Nat → Int32)) (Q : (Nat → Int32) → Prop) : Prop :=
  ∃ (I : Int32 → (Nat → Int32) → Prop) (μ : Int32 → (Nat → Int32) → Nat), I y2_2 z2_v_sure ∧ ∀ (s0 : Int32) (s1 : (Nat → Int32)), I s0 s1 → wb_X4_findSure_2 v w  s0 s1 (fun t0 t1 => I t0 t1 ∧ μ t0 t1 < μ s0 s1) Q
def wp_X4_findSure (v : V_X4) (w : V_X0) (Q : (Nat → Int32) → Prop) : Prop :=
  wp_X4_findSure_2 v w  0 (X4_sure v) Q
def q_X4_findSure (dC : Nat → ClassId) (dI : Nat → Nat → Nat) (cy : Nat → ClassId) (a d b : Nat → Nat) (v : V_X4) (w : V_X0) (Q : (Nat → Int32) → Prop) (A : Nat → Prop) : Array Value → State → Outcome → State → Prop := va_Qv (fun (u : (Nat → Int32)) => Q u) (fun (u : (Nat → Int32)) t => xAt dC dI cy A (cX4 cy a (X4_hollow v) (X4_crossings v) u (X4_seenBy v) ++ wX0 cy d b w) t) A
set_option maxHeartbeats 4000000 in
set_option maxRecDepth 100000 in
theorem c_X4_findSure (l : Launch) (dC : Nat → ClassId) (dI : Nat → Nat → Nat) (cy : Nat → ClassId) (a d b : Nat → Nat) (sz : Nat) (v : V_X4) (w : V_X0) (Q : (Nat → Int32) → Prop) (hq : wp_X4_findSure v w Q) : Met l yX4_findSure wsX4_findSure ({ frames := 4, cells := 0, slots := 0, locals := 92 } : Room) (va_Pc [.ref (a 0), .ref (d 0)] (xPreE dC dI cy (wX4 cy a v ++ wX0 cy d b w) sz)) (q_X4_findSure dC dI cy a d b v w Q (va_A (wX4 cy a v ++ wX0 cy d b w) sz)) 0 0 (va_A (wX4 cy a v ++ wX0 cy d b w) sz) := by
  refine Met.ofW (cc := cX4_findSure) (maxL := 5) (ret := none) (by decide) rfl ?_
  intro p e s m args below meth c s₁ B hml hv
  obtain ⟨rfl, hsz, hP, hK, hD0, hE⟩ := hv
  have hx := B.exec
  have hb := B.bytes
  have hr := B.returns
  have hts := atoms_spec (ws := wsX4_findSure) B.pre
  have hown : s.vm.findClass RX4 = some m.cls := findClass_of_methodNamed B.named
  have hlocks := B.notSynchronized
  subst hsz
  have hD := hD0.self (sz := s.heap.size)
  generalize hAe : va_A (wX4 cy a v ++ wX0 cy d b w) s.heap.size = A at hD hE ⊢
  have hAe0 : ∀ q : Nat, s.heap.size ≤ q → A q := fun q h => by rw [← hAe]; exact Or.inr h
  have hS : va_S A s.heap s.heap [] := va_S.rf
  have hl := lv_entry ([.ref (a 0), .ref (d 0)]) (n := 5) (Nat.le_of_ble_eq_true rfl)
  rw [lg_entry_eq]
  generalize (lg_sl ([.ref (a 0), .ref (d 0)]) ++ List.replicate (5 - (lg_sl ([.ref (a 0), .ref (d 0)])).length) Slot.unset).toArray = ls at hl ⊢
  have hl : lv_has ls 5 [(0, .ref (a 0)), (1, .ref (d 0))] := hl
  have lk0 := hts (Cond.fieldLink RX4 77 "MolesLawn$Lawn" "opened" "[Z") (List.mem_cons_of_mem _ (List.mem_append_left _ (List.mem_append_left _ (List.mem_of_getElem? (i := 1) rfl))))
  have lk1 := hts (Cond.fieldLink RX4 18 "MolesLawn$Survey" "sure" "[I") (List.mem_cons_of_mem _ (List.mem_append_left _ (List.mem_append_left _ (List.mem_of_getElem? (i := 0) rfl))))
  have lk2 := hts (Cond.fieldLink RX4 9 "MolesLawn$Survey" "hollow" "[I") (List.mem_cons_of_mem _ (List.mem_append_left _ (List.mem_append_left _ (List.mem_of_getElem? (i := 2) rfl))))
  have iK0 : ∀ w ∈ wsX00, w ∈ wsX4_findSure := fun _ h => (List.mem_cons_of_mem _ (List.mem_append_right _ h))
  have iK4 : ∀ w ∈ wsX40, w ∈ wsX4_findSure := fun _ h => (List.mem_cons_of_mem _ (List.mem_append_left _ (List.mem_append_right _ h)))
  unfold wp_X4_findSure at hq
  have J43 : ∀  (y43_2 : Int32) (y43_3 : Int32) (z43_v_sure : (Nat → Int32)) (H : Heap) (locs : List Loc) (ls : Array Slot), wp_X4_findSure_43 v w  y43_2 y43_3 z43_v_sure Q → va_P (dC, dI) vwCl (cX4 cy a (X4_hollow v) (X4_crossings v) z43_v_sure (X4_seenBy v) ++ wX0 cy d b w) H → va_D A (cX4 cy a (X4_hollow v) (X4_crossings v) z43_v_sure (X4_seenBy v) ++ wX0 cy d b w) → va_S A s.heap H locs → lv_has ls 5 [(0, .ref (a 0)), (1, .ref (d 0)), (2, .int y43_2), (3, .int y43_3)] → W p l e (headSpec wsX4_findSure ({ frames := 4, cells := 0, slots := 0, locals := 92 } : Room)).room s m ([.ref (a 0), .ref (d 0)] : List Value).toArray below meth c H locs 0 0 (MQ below (q_X4_findSure dC dI cy a d b v w Q A) ([.ref (a 0), .ref (d 0)] : List Value).toArray s 0 0 A) (F0 m 43 ls []) := by
    intro  y43_2 y43_3 z43_v_sure H locs ls hq hP hD hS hl
    obtain ⟨I43, μ43, h0, hs43⟩ := hq
    have key : ∀ (n : Nat) (y43_2 : Int32) (y43_3 : Int32) (z43_v_sure : (Nat → Int32)) (H : Heap) (locs : List Loc) (ls : Array Slot), I43 y43_2 y43_3 z43_v_sure → μ43 y43_2 y43_3 z43_v_sure < n → va_P (dC, dI) vwCl (cX4 cy a (X4_hollow v) (X4_crossings v) z43_v_sure (X4_seenBy v) ++ wX0 cy d b w) H → va_D A (cX4 cy a (X4_hollow v) (X4_crossings v) z43_v_sure (X4_seenBy v) ++ wX0 cy d b w) → va_S A s.heap H locs → lv_has ls 5 [(0, .ref (a 0)), (1, .ref (d 0)), (2, .int y43_2), (3, .int y43_3)] → W p l e (headSpec wsX4_findSure ({ frames := 4, cells := 0, slots := 0, locals := 92 } : Room)).room s m ([.ref (a 0), .ref (d 0)] : List Value).toArray below meth c H locs 0 0 (MQ below (q_X4_findSure dC dI cy a d b v w Q A) ([.ref (a 0), .ref (d 0)] : List Value).toArray s 0 0 A) (F0 m 43 ls []) := by
      intro n
      induction n with
      | zero => intro y43_2 y43_3 z43_v_sure H locs ls _ hm; exact absurd hm (Nat.not_lt_zero _)
      | succ n ih =>
        intro y43_2 y43_3 z43_v_sure H locs ls hI hm hP hD hS hl
        have hq := hs43 y43_2 y43_3 z43_v_sure hI
        generalize hB43 : (fun (t0 : Int32) (t1 : Int32) (t2 : (Nat → Int32)) => I43 t0 t1 t2 ∧ μ43 t0 t1 t2 < μ43 y43_2 y43_3 z43_v_sure) = B43 at hq
        have bk43 : ∀ (y43_2 : Int32) (y43_3 : Int32) (z43_v_sure : (Nat → Int32)) (H : Heap) (locs : List Loc) (ls : Array Slot), B43 y43_2 y43_3 z43_v_sure → va_P (dC, dI) vwCl (cX4 cy a (X4_hollow v) (X4_crossings v) z43_v_sure (X4_seenBy v) ++ wX0 cy d b w) H → va_D A (cX4 cy a (X4_hollow v) (X4_crossings v) z43_v_sure (X4_seenBy v) ++ wX0 cy d b w) → va_S A s.heap H locs → lv_has ls 5 [(0, .ref (a 0)), (1, .ref (d 0)), (2, .int y43_2), (3, .int y43_3)] → W p l e (headSpec wsX4_findSure ({ frames := 4, cells := 0, slots := 0, locals := 92 } : Room)).room s m ([.ref (a 0), .ref (d 0)] : List Value).toArray below meth c H locs 0 0 (MQ below (q_X4_findSure dC dI cy a d b v w Q A) ([.ref (a 0), .ref (d 0)] : List Value).toArray s 0 0 A) (F0 m 43 ls []) := by
          intro y43_2 y43_3 z43_v_sure H locs ls h
          rw [← hB43] at h
          exact ih y43_2 y43_3 z43_v_sure H locs ls h.1 (Nat.lt_of_lt_of_le h.2 (Nat.le_of_lt_succ hm))
        unfold wb_X4_findSure_43 at hq
        have J58 : ∀  (y58_2 : Int32) (y58_4 : Int32) (z58_v_sure : (Nat → Int32)) (H : Heap) (locs : List Loc) (ls : Array Slot), wp_X4_findSure_58 v w y43_2 y43_3 z43_v_sure B43  y58_2 y58_4 z58_v_sure Q → va_P (dC, dI) vwCl (cX4 cy a (X4_hollow v) (X4_crossings v) z58_v_sure (X4_seenBy v) ++ wX0 cy d b w) H → va_D A (cX4 cy a (X4_hollow v) (X4_crossings v) z58_v_sure (X4_seenBy v) ++ wX0 cy d b w) → va_S A s.heap H locs → lv_has ls 5 [(0, .ref (a 0)), (1, .ref (d 0)), (2, .int y58_2), (3, .int y43_3), (4, .int y58_4)] → W p l e (headSpec wsX4_findSure ({ frames := 4, cells := 0, slots := 0, locals := 92 } : Room)).room s m ([.ref (a 0), .ref (d 0)] : List Value).toArray below meth c H locs 0 0 (MQ below (q_X4_findSure dC dI cy a d b v w Q A) ([.ref (a 0), .ref (d 0)] : List Value).toArray s 0 0 A) (F0 m 58 ls []) := by
          intro  y58_2 y58_4 z58_v_sure H locs ls hq hP hD hS hl
          obtain ⟨I58, μ58, h0, hs58⟩ := hq
          have key : ∀ (n : Nat) (y58_2 : Int32) (y58_4 : Int32) (z58_v_sure : (Nat → Int32)) (H : Heap) (locs : List Loc) (ls : Array Slot), I58 y58_2 y58_4 z58_v_sure → μ58 y58_2 y58_4 z58_v_sure < n → va_P (dC, dI) vwCl (cX4 cy a (X4_hollow v) (X4_crossings v) z58_v_sure (X4_seenBy v) ++ wX0 cy d b w) H → va_D A (cX4 cy a (X4_hollow v) (X4_crossings v) z58_v_sure (X4_seenBy v) ++ wX0 cy d b w) → va_S A s.heap H locs → lv_has ls 5 [(0, .ref (a 0)), (1, .ref (d 0)), (2, .int y58_2), (3, .int y43_3), (4, .int y58_4)] → W p l e (headSpec wsX4_findSure ({ frames := 4, cells := 0, slots := 0, locals := 92 } : Room)).room s m ([.ref (a 0), .ref (d 0)] : List Value).toArray below meth c H locs 0 0 (MQ below (q_X4_findSure dC dI cy a d b v w Q A) ([.ref (a 0), .ref (d 0)] : List Value).toArray s 0 0 A) (F0 m 58 ls []) := by
            intro n
            induction n with
            | zero => intro y58_2 y58_4 z58_v_sure H locs ls _ hm; exact absurd hm (Nat.not_lt_zero _)
            | succ n ih =>
              intro y58_2 y58_4 z58_v_sure H locs ls hI hm hP hD hS hl
              have hq := hs58 y58_2 y58_4 z58_v_sure hI
              generalize hB58 : (fun (t0 : Int32) (t1 : Int32) (t2 : (Nat → Int32)) => I58 t0 t1 t2 ∧ μ58 t0 t1 t2 < μ58 y58_2 y58_4 z58_v_sure) = B58 at hq
              have bk58 : ∀ (y58_2 : Int32) (y58_4 : Int32) (z58_v_sure : (Nat → Int32)) (H : Heap) (locs : List Loc) (ls : Array Slot), B58 y58_2 y58_4 z58_v_sure → va_P (dC, dI) vwCl (cX4 cy a (X4_hollow v) (X4_crossings v) z58_v_sure (X4_seenBy v) ++ wX0 cy d b w) H → va_D A (cX4 cy a (X4_hollow v) (X4_crossings v) z58_v_sure (X4_seenBy v) ++ wX0 cy d b w) → va_S A s.heap H locs → lv_has ls 5 [(0, .ref (a 0)), (1, .ref (d 0)), (2, .int y58_2), (3, .int y43_3), (4, .int y58_4)] → W p l e (headSpec wsX4_findSure ({ frames := 4, cells := 0, slots := 0, locals := 92 } : Room)).room s m ([.ref (a 0), .ref (d 0)] : List Value).toArray below meth c H locs 0 0 (MQ below (q_X4_findSure dC dI cy a d b v w Q A) ([.ref (a 0), .ref (d 0)] : List Value).toArray s 0 0 A) (F0 m 58 ls []) := by
                intro y58_2 y58_4 z58_v_sure H locs ls h
                rw [← hB58] at h
                exact ih y58_2 y58_4 z58_v_sure H locs ls h.1 (Nat.lt_of_lt_of_le h.2 (Nat.le_of_lt_succ hm))
              unfold wb_X4_findSure_58 at hq
              refine lv_iload hx hb dX4_findSure_58 (lv_at hl 4 rfl) ?_
              refine lv_bipush (v := 64) hx hb dX4_findSure_60 (by decide) ?_
              obtain ⟨hqA, hqB⟩ := hq
              refine lv_icmp_ge (tgt := 92) hx hb dX4_findSure_62 (by decide) (fun c4 => ?_) (fun c4 => ?_)
              · have hq := hqA c4
                refine lv_iinc (v := (y43_3 + 1)) (lv' := [(3, .int (y43_3 + 1)), (0, .ref (a 0)), (1, .ref (d 0)), (2, .int y58_2), (4, .int y58_4)]) hx hb dX4_findSure_92 hl (k := 3) rfl rfl (by decide) rfl (fun ls hl => ?_)
                refine lv_goto (tgt := 43) hx hb dX4_findSure_95 (by decide) ?_
                exact bk43 y58_2 (y43_3 + 1) z58_v_sure _ _ _ hq hP hD hS (lv_sub hl [1, 2, 3, 0] rfl)
              · have hq := hqB c4
                refine lv_aload_n hx hb dX4_findSure_65 rfl (lv_at hl 1 rfl) ?_
                refine va_get (D := (dC, dI)) (ci := 0) (v := .ref (d 2)) (C := RX0) (T := TX0) (N := 14) hx hb hts iK0 hown hK hP 5 rfl rfl 1 (by decide) lk0 (fun _ h9 => h9) rfl dX4_findSure_66 ?_
                refine lv_iload hx hb dX4_findSure_69 (lv_at hl 4 rfl) ?_
                obtain ⟨g1, hq⟩ := hq
                refine va_zald hx hb hK hP 7 1 rfl rfl g1 dX4_findSure_71 ?_
                obtain ⟨hqA, hqB⟩ := hq
                refine lv_if_eq (tgt := 86) hx hb dX4_findSure_72 (by decide) (fun c3 => ?_) (fun c3 => ?_)
                · have hq := hqA c3
                  refine lv_iinc (v := (y58_4 + 1)) (lv' := [(4, .int (y58_4 + 1)), (0, .ref (a 0)), (1, .ref (d 0)), (2, .int y58_2), (3, .int y43_3)]) hx hb dX4_findSure_86 hl (k := 4) rfl rfl (by decide) rfl (fun ls hl => ?_)
                  refine lv_goto (tgt := 58) hx hb dX4_findSure_89 (by decide) ?_
                  exact bk58 y58_2 (y58_4 + 1) z58_v_sure _ _ _ hq hP hD hS (lv_sub hl [1, 2, 3, 4, 0] rfl)
                · have hq := hqB c3
                  refine lv_aload_n hx hb dX4_findSure_75 rfl (lv_at hl 0 rfl) ?_
                  refine lv_iload hx hb dX4_findSure_76 (lv_at hl 4 rfl) ?_
                  have hC : (([0, 1, 2, 3, 4] : List Nat).map (fun i => (cX4 cy a (X4_hollow v) (X4_crossings v) z58_v_sure (X4_seenBy v) ++ wX0 cy d b w)[i]?)) = (cX4 cy a (X4_hollow v) (X4_crossings v) z58_v_sure (X4_seenBy v)).map some := (xC_one (n := 0) (m := 5) rfl rfl rfl)
                  have hPc := xsubP hP hC
                  have hDc := xsubD hD (by decide) hC
                  have hFc := va_free (wc := (cX4 cy a (X4_hollow v) (X4_crossings v) z58_v_sure (X4_seenBy v))) hD hS hAe0 [0, 1, 2, 3, 4] hC
                  refine va_calli (va_runV (As := [.int y58_4]) (rest := []) ⟨hx, hb, hml, hown, hts⟩ (c_X4_concludeAt l dC dI cy a _ (X4_s2 v z58_v_sure) y58_4 _ hq) (cwV 1 hts gX4_findSure_X4_concludeAt rfl rfl rfl (by decide +kernel) ⟨Nat.le_of_ble_eq_true rfl, Nat.le_of_ble_eq_true rfl⟩) ⟨xPre_blindE, va_recv hK hP (ci := 4) (q0 := 0) rfl rfl, xPre_ofE hPc hK hDc hE hS hFc⟩ rfl rfl hl.1 rfl (lv_room (Nat.le_of_ble_eq_true rfl)) dX4_findSure_78 ⟨Nat.le_of_ble_eq_true rfl, Nat.le_of_ble_eq_true rfl⟩) hS (fun q _ h => hFc q h) hFc (fun r78 z78_v_sure t H locs ht hvm hq hB hz1 hk1 hS => ?_)
                  obtain ⟨hP1, -, hD1⟩ := hB
                  rw [ht] at hP1
                  obtain ⟨hP, hD⟩ := xj hP hD [0, 1, 2, 3, 4] (cX4 cy a (X4_hollow v) (X4_crossings v) z78_v_sure (X4_seenBy v)) (ws' := (cX4 cy a (X4_hollow v) (X4_crossings v) z78_v_sure (X4_seenBy v) ++ wX0 cy d b w)) hC rfl (xS_one (n := 0) (m := 5) rfl rfl rfl) hk1 hFc hP1
                  obtain ⟨hqA, hqB⟩ := hq
                  refine lv_if_eq (tgt := 86) hx hb dX4_findSure_81 (by decide) (fun c2 => ?_) (fun c2 => ?_)
                  · have hq := hqA c2
                    refine lv_iinc (v := (y58_4 + 1)) (lv' := [(4, .int (y58_4 + 1)), (0, .ref (a 0)), (1, .ref (d 0)), (2, .int y58_2), (3, .int y43_3)]) hx hb dX4_findSure_86 hl (k := 4) rfl rfl (by decide) rfl (fun ls hl => ?_)
                    refine lv_goto (tgt := 58) hx hb dX4_findSure_89 (by decide) ?_
                    exact bk58 y58_2 (y58_4 + 1) z78_v_sure _ _ _ hq hP hD hS (lv_sub hl [1, 2, 3, 4, 0] rfl)
                  · have hq := hqB c2
                    refine lv_iconst (v := 1) hx hb dX4_findSure_84 (by decide) ?_
                    refine lv_istore_n (lv' := [(2, .int 1), (0, .ref (a 0)), (1, .ref (d 0)), (3, .int y43_3), (4, .int y58_4)]) hx hb dX4_findSure_85 rfl hl (by decide) rfl (fun ls hl => ?_)
                    refine lv_iinc (v := (y58_4 + 1)) (lv' := [(4, .int (y58_4 + 1)), (2, .int 1), (0, .ref (a 0)), (1, .ref (d 0)), (3, .int y43_3)]) hx hb dX4_findSure_86 hl (k := 4) rfl rfl (by decide) rfl (fun ls hl => ?_)
                    refine lv_goto (tgt := 58) hx hb dX4_findSure_89 (by decide) ?_
                    exact bk58 1 (y58_4 + 1) z78_v_sure _ _ _ hq hP hD hS (lv_sub hl [2, 3, 1, 4, 0] rfl)
          exact key _ y58_2 y58_4 z58_v_sure H locs ls h0 (Nat.lt_succ_self _) hP hD hS hl
        refine lv_iload_n hx hb dX4_findSure_43 rfl (lv_at hl 2 rfl) ?_
        obtain ⟨hqA, hqB⟩ := hq
        refine lv_if_eq (tgt := 98) hx hb dX4_findSure_44 (by decide) (fun c6 => ?_) (fun c6 => ?_)
        · have hq := hqA c6
          exact W.vret hx hb hr (fun t ht hW => ⟨⟨z43_v_sure, rfl, hq, (xAt_of hP hK hD ht hW)⟩, hS.F ht⟩) hS.2.2 dX4_findSure_98
        · have hq := hqB c6
          refine lv_iload_n hx hb dX4_findSure_47 rfl (lv_at hl 3 rfl) ?_
          refine lv_bipush (v := 64) hx hb dX4_findSure_48 (by decide) ?_
          obtain ⟨hqA, hqB⟩ := hq
          refine lv_icmp_gt (tgt := 98) hx hb dX4_findSure_50 (by decide) (fun c5 => ?_) (fun c5 => ?_)
          · have hq := hqA c5
            exact W.vret hx hb hr (fun t ht hW => ⟨⟨z43_v_sure, rfl, hq, (xAt_of hP hK hD ht hW)⟩, hS.F ht⟩) hS.2.2 dX4_findSure_98
          · have hq := hqB c5
            refine lv_iconst (v := 0) hx hb dX4_findSure_53 (by decide) ?_
            refine lv_istore_n (lv' := [(2, .int 0), (0, .ref (a 0)), (1, .ref (d 0)), (3, .int y43_3)]) hx hb dX4_findSure_54 rfl hl (by decide) rfl (fun ls hl => ?_)
            refine lv_iconst (v := 0) hx hb dX4_findSure_55 (by decide) ?_
            refine lv_istore (lv' := [(4, .int 0), (2, .int 0), (0, .ref (a 0)), (1, .ref (d 0)), (3, .int y43_3)]) hx hb dX4_findSure_56 hl (by decide) rfl (fun ls hl => ?_)
            exact J58  0 0 z43_v_sure _ _ _ hq hP hD hS (lv_sub hl [2, 3, 1, 4, 0] rfl)
    exact key _ y43_2 y43_3 z43_v_sure H locs ls h0 (Nat.lt_succ_self _) hP hD hS hl
  have J2 : ∀  (y2_2 : Int32) (z2_v_sure : (Nat → Int32)) (H : Heap) (locs : List Loc) (ls : Array Slot), wp_X4_findSure_2 v w  y2_2 z2_v_sure Q → va_P (dC, dI) vwCl (cX4 cy a (X4_hollow v) (X4_crossings v) z2_v_sure (X4_seenBy v) ++ wX0 cy d b w) H → va_D A (cX4 cy a (X4_hollow v) (X4_crossings v) z2_v_sure (X4_seenBy v) ++ wX0 cy d b w) → va_S A s.heap H locs → lv_has ls 5 [(0, .ref (a 0)), (1, .ref (d 0)), (2, .int y2_2)] → W p l e (headSpec wsX4_findSure ({ frames := 4, cells := 0, slots := 0, locals := 92 } : Room)).room s m ([.ref (a 0), .ref (d 0)] : List Value).toArray below meth c H locs 0 0 (MQ below (q_X4_findSure dC dI cy a d b v w Q A) ([.ref (a 0), .ref (d 0)] : List Value).toArray s 0 0 A) (F0 m 2 ls []) := by
    intro  y2_2 z2_v_sure H locs ls hq hP hD hS hl
    obtain ⟨I2, μ2, h0, hs2⟩ := hq
    have key : ∀ (n : Nat) (y2_2 : Int32) (z2_v_sure : (Nat → Int32)) (H : Heap) (locs : List Loc) (ls : Array Slot), I2 y2_2 z2_v_sure → μ2 y2_2 z2_v_sure < n → va_P (dC, dI) vwCl (cX4 cy a (X4_hollow v) (X4_crossings v) z2_v_sure (X4_seenBy v) ++ wX0 cy d b w) H → va_D A (cX4 cy a (X4_hollow v) (X4_crossings v) z2_v_sure (X4_seenBy v) ++ wX0 cy d b w) → va_S A s.heap H locs → lv_has ls 5 [(0, .ref (a 0)), (1, .ref (d 0)), (2, .int y2_2)] → W p l e (headSpec wsX4_findSure ({ frames := 4, cells := 0, slots := 0, locals := 92 } : Room)).room s m ([.ref (a 0), .ref (d 0)] : List Value).toArray below meth c H locs 0 0 (MQ below (q_X4_findSure dC dI cy a d b v w Q A) ([.ref (a 0), .ref (d 0)] : List Value).toArray s 0 0 A) (F0 m 2 ls []) := by
      intro n
      induction n with
      | zero => intro y2_2 z2_v_sure H locs ls _ hm; exact absurd hm (Nat.not_lt_zero _)
      | succ n ih =>
        intro y2_2 z2_v_sure H locs ls hI hm hP hD hS hl
        have hq := hs2 y2_2 z2_v_sure hI
        generalize hB2 : (fun (t0 : Int32) (t1 : (Nat → Int32)) => I2 t0 t1 ∧ μ2 t0 t1 < μ2 y2_2 z2_v_sure) = B2 at hq
        have bk2 : ∀ (y2_2 : Int32) (z2_v_sure : (Nat → Int32)) (H : Heap) (locs : List Loc) (ls : Array Slot), B2 y2_2 z2_v_sure → va_P (dC, dI) vwCl (cX4 cy a (X4_hollow v) (X4_crossings v) z2_v_sure (X4_seenBy v) ++ wX0 cy d b w) H → va_D A (cX4 cy a (X4_hollow v) (X4_crossings v) z2_v_sure (X4_seenBy v) ++ wX0 cy d b w) → va_S A s.heap H locs → lv_has ls 5 [(0, .ref (a 0)), (1, .ref (d 0)), (2, .int y2_2)] → W p l e (headSpec wsX4_findSure ({ frames := 4, cells := 0, slots := 0, locals := 92 } : Room)).room s m ([.ref (a 0), .ref (d 0)] : List Value).toArray below meth c H locs 0 0 (MQ below (q_X4_findSure dC dI cy a d b v w Q A) ([.ref (a 0), .ref (d 0)] : List Value).toArray s 0 0 A) (F0 m 2 ls []) := by
          intro y2_2 z2_v_sure H locs ls h
          rw [← hB2] at h
          exact ih y2_2 z2_v_sure H locs ls h.1 (Nat.lt_of_lt_of_le h.2 (Nat.le_of_lt_succ hm))
        unfold wb_X4_findSure_2 at hq
        refine lv_iload_n hx hb dX4_findSure_2 rfl (lv_at hl 2 rfl) ?_
        refine lv_bipush (v := 64) hx hb dX4_findSure_3 (by decide) ?_
        obtain ⟨hqA, hqB⟩ := hq
        refine lv_icmp_ge (tgt := 39) hx hb dX4_findSure_5 (by decide) (fun c9 => ?_) (fun c9 => ?_)
        · have hq := hqA c9
          refine lv_iconst (v := 1) hx hb dX4_findSure_39 (by decide) ?_
          refine lv_istore_n (lv' := [(2, .int 1), (0, .ref (a 0)), (1, .ref (d 0))]) hx hb dX4_findSure_40 rfl hl (by decide) rfl (fun ls hl => ?_)
          refine lv_iconst (v := 0) hx hb dX4_findSure_41 (by decide) ?_
          refine lv_istore_n (lv' := [(3, .int 0), (2, .int 1), (0, .ref (a 0)), (1, .ref (d 0))]) hx hb dX4_findSure_42 rfl hl (by decide) rfl (fun ls hl => ?_)
          exact J43  1 0 z2_v_sure _ _ _ hq hP hD hS (lv_sub hl [2, 3, 1, 0] rfl)
        · have hq := hqB c9
          refine lv_aload_n hx hb dX4_findSure_8 rfl (lv_at hl 0 rfl) ?_
          refine va_get (D := (dC, dI)) (ci := 4) (v := .ref (a 3)) (C := RX4) (T := TX4) (N := 4) hx hb hts iK4 hown hK hP 0 rfl rfl 2 (by decide) lk1 (fun _ h9 => h9) rfl dX4_findSure_9 ?_
          refine lv_iload_n hx hb dX4_findSure_12 rfl (lv_at hl 2 rfl) ?_
          refine lv_aload_n hx hb dX4_findSure_13 rfl (lv_at hl 1 rfl) ?_
          refine va_get (D := (dC, dI)) (ci := 0) (v := .ref (d 2)) (C := RX0) (T := TX0) (N := 14) hx hb hts iK0 hown hK hP 5 rfl rfl 1 (by decide) lk0 (fun _ h9 => h9) rfl dX4_findSure_14 ?_
          refine lv_iload_n hx hb dX4_findSure_17 rfl (lv_at hl 2 rfl) ?_
          obtain ⟨g7, hq⟩ := hq
          refine va_zald hx hb hK hP 7 1 rfl rfl g7 dX4_findSure_18 ?_
          obtain ⟨hqA, hqB⟩ := hq
          refine lv_if_eq (tgt := 31) hx hb dX4_findSure_19 (by decide) (fun c8 => ?_) (fun c8 => ?_)
          · have hq := hqA c8
            refine lv_iconst (v := (-1)) hx hb dX4_findSure_31 (by decide) ?_
            refine va_iast hx hb hK hP hD hS 3 0 rfl rfl g7 dX4_findSure_32 (fun H locs hP hD hS => ?_)
            have hP : va_P (dC, dI) vwCl (cX4 cy a (X4_hollow v) (X4_crossings v) (upd z2_v_sure y2_2.toNatClampNeg (-1)) (X4_seenBy v) ++ wX0 cy d b w) H := hP
            have hD : va_D A (cX4 cy a (X4_hollow v) (X4_crossings v) (upd z2_v_sure y2_2.toNatClampNeg (-1)) (X4_seenBy v) ++ wX0 cy d b w) := hD
            refine lv_iinc (v := (y2_2 + 1)) (lv' := [(2, .int (y2_2 + 1)), (0, .ref (a 0)), (1, .ref (d 0))]) hx hb dX4_findSure_33 hl (k := 2) rfl rfl (by decide) rfl (fun ls hl => ?_)
            refine lv_goto (tgt := 2) hx hb dX4_findSure_36 (by decide) ?_
            exact bk2 (y2_2 + 1) (upd z2_v_sure y2_2.toNatClampNeg (-1)) _ _ _ hq hP hD hS (lv_sub hl [1, 2, 0] rfl)
          · have hq := hqB c8
            refine lv_aload_n hx hb dX4_findSure_22 rfl (lv_at hl 0 rfl) ?_
            refine va_get (D := (dC, dI)) (ci := 4) (v := .ref (a 1)) (C := RX4) (T := TX4) (N := 4) hx hb hts iK4 hown hK hP 0 rfl rfl 0 (by decide) lk2 (fun _ h9 => h9) rfl dX4_findSure_23 ?_
            refine lv_iload_n hx hb dX4_findSure_26 rfl (lv_at hl 2 rfl) ?_
            refine va_iald hx hb hK hP 1 0 rfl rfl g7 dX4_findSure_27 ?_
            refine lv_goto (tgt := 32) hx hb dX4_findSure_28 (by decide) ?_
            refine va_iast hx hb hK hP hD hS 3 0 rfl rfl g7 dX4_findSure_32 (fun H locs hP hD hS => ?_)
            have hP : va_P (dC, dI) vwCl (cX4 cy a (X4_hollow v) (X4_crossings v) (upd z2_v_sure y2_2.toNatClampNeg ((X4_hollow v) y2_2.toNatClampNeg)) (X4_seenBy v) ++ wX0 cy d b w) H := hP
            have hD : va_D A (cX4 cy a (X4_hollow v) (X4_crossings v) (upd z2_v_sure y2_2.toNatClampNeg ((X4_hollow v) y2_2.toNatClampNeg)) (X4_seenBy v) ++ wX0 cy d b w) := hD
            refine lv_iinc (v := (y2_2 + 1)) (lv' := [(2, .int (y2_2 + 1)), (0, .ref (a 0)), (1, .ref (d 0))]) hx hb dX4_findSure_33 hl (k := 2) rfl rfl (by decide) rfl (fun ls hl => ?_)
            refine lv_goto (tgt := 2) hx hb dX4_findSure_36 (by decide) ?_
            exact bk2 (y2_2 + 1) (upd z2_v_sure y2_2.toNatClampNeg ((X4_hollow v) y2_2.toNatClampNeg)) _ _ _ hq hP hD hS (lv_sub hl [1, 2, 0] rfl)
    exact key _ y2_2 z2_v_sure H locs ls h0 (Nat.lt_succ_self _) hP hD hS hl
  refine lv_iconst (v := 0) hx hb dX4_findSure_0 (by decide) ?_
  refine lv_istore_n (lv' := [(2, .int 0), (0, .ref (a 0)), (1, .ref (d 0))]) hx hb dX4_findSure_1 rfl hl (by decide) rfl (fun ls hl => ?_)
  exact J2  0 (X4_sure v) _ _ _ hq hP hD hS (lv_sub hl [1, 2, 0] rfl)
