def wb_X4_read_65 (v : V_X4) (w : V_X0) (z65_v_crossings : (Nat → Int32)) (z65_v_seenBy : (Nat → Int32)) (y65_2 : Int32) (z65_v_hollow : (Nat → Int32)) (B65 : Int32 → (Nat → Int32) → Prop) (Q : (Nat → Int32) → (Nat → Int32) → (Nat → Int32) → (Nat → Int32) → Prop) : Prop :=
  (((X0_moleCount w) ≤ y65_2 → wp_X4_findSure (z65_v_hollow, z65_v_crossings, (X4_sure v), z65_v_seenBy) w (fun z91_v_sure =>
  Q z65_v_crossings z65_v_hollow z65_v_seenBy z91_v_sure)) ∧
  (¬ (X0_moleCount w) ≤ y65_2 → vp_in y65_2 4 ∧ ((X0_molesR w) y65_2.toNatClampNeg) < 4 ∧ wp_X4_readTrail (z65_v_hollow, z65_v_crossings, (X4_sure v), z65_v_seenBy) ((X0_moles w) ((X0_molesR w) y65_2.toNatClampNeg)) (fun z80_v_hollow =>
  B65 (y65_2 + 1) z80_v_hollow)))
def wp_X4_read_65 (v : V_X4) (w : V_X0) (z65_v_crossings : (Nat → Int32)) (z65_v_seenBy : (Nat → Int32)) (y65_2 : Int32) (z65_v_hollow : (Nat → Int32)) (Q : (Nat → Int32) → (Nat → Int32) → (Nat → Int32) → (Nat → Int32) → Prop) : Prop :=
  ∃ (I : Int32 → (Nat → Int32) → Prop) (μ : Int32 → (Nat → Int32) → Nat), I y65_2 z65_v_hollow ∧ ∀ (s0 : Int32) (s1 : (Nat → Int32)), I s0 s1 → wb_X4_read_65 v w z65_v_crossings z65_v_seenBy s0 s1 (fun t0 t1 => I t0 t1 ∧ μ t0 t1 < μ s0 s1) Q
def wb_X4_read_37 (v : V_X4) (w : V_X0)  (y37_2 : Int32) (z37_v_crossings : (Nat → Int32)) (z37_v_hollow : (Nat → Int32)) (z37_v_seenBy : (Nat → Int32)) (B37 : Int32 → (Nat → Int32) → (Nat → Int32) → (Nat → Int32) → Prop) (Q : (Nat → Int32) → (Nat → Int32) → (Nat → Int32) → (Nat → Int32) → Prop) : Prop :=
  (((X3_size (X0_tunnels w)) ≤ y37_2 → wp_X4_read_65 v w z37_v_crossings z37_v_seenBy 0 z37_v_hollow Q) ∧
  (¬ (X3_size (X0_tunnels w)) ≤ y37_2 → wp_X4_readTunnel (z37_v_hollow, z37_v_crossings, (X4_sure v), z37_v_seenBy) (X0_tunnels w) y37_2 (fun z54_v_crossings z54_v_hollow z54_v_seenBy =>
  B37 (y37_2 + 1) z54_v_crossings z54_v_hollow z54_v_seenBy)))
def wp_X4_read_37 (v : V_X4) (w : V_X0)  (y37_2 : Int32) (z37_v_crossings : (Nat → Int32)) (z37_v_hollow : (Nat → Int32)) (z37_v_seenBy : (Nat → Int32)) (Q : (Nat → Int32) → (Nat → Int32) → (Nat → Int32) → (Nat → Int32) → Prop) : Prop :=
  ∃ (I : Int32 → (Nat → Int32) → (Nat → Int32) → (Nat → Int32) → Prop) (μ : Int32 → (Nat → Int32) → (Nat → Int32) → (Nat → Int32) → Nat), I y37_2 z37_v_crossings z37_v_hollow z37_v_seenBy ∧ ∀ (s0 : Int32) (s1 : (Nat → Int32)) (s2 : (Nat → Int32)) (s3 : (Nat → Int32)), I s0 s1 s2 s3 → wb_X4_read_37 v w  s0 s1 s2 s3 (fun t0 t1 t2 t3 => I t0 t1 t2 t3 ∧ μ t0 t1 t2 t3 < μ s0 s1 s2 s3) Q
def wb_X4_read_2 (v : V_X4) (w : V_X0)  (y2_2 : Int32) (z2_v_crossings : (Nat → Int32)) (z2_v_hollow : (Nat → Int32)) (z2_v_seenBy : (Nat → Int32)) (B2 : Int32 → (Nat → Int32) → (Nat → Int32) → (Nat → Int32) → Prop) (Q : (Nat → Int32) → (Nat → Int32) → (Nat → Int32) → (Nat → Int32) → Prop) : Prop :=
  ((64 ≤ y2_2 → wp_X4_read_37 v w  0 z2_v_crossings z2_v_hollow z2_v_seenBy Q) ∧
  (¬ 64 ≤ y2_2 → vp_in y2_2 64 ∧ B2 (y2_2 + 1) (upd z2_v_crossings y2_2.toNatClampNeg 0) (upd z2_v_hollow y2_2.toNatClampNeg 0) (upd z2_v_seenBy y2_2.toNatClampNeg (-1))))
def wp_X4_read_2 (v : V_X4) (w : V_X0)  (y2_2 : Int32) (z2_v_crossings : (Nat → Int32)) (z2_v_hollow : (Nat → Int32)) (z2_v_seenBy : (Nat → Int32)) (Q : (Nat → Int32) → (Nat → Int32) → (Nat → Int32) → (Nat → Int32) → Prop) : Prop :=
  ∃ (I : Int32 → (Nat → Int32) → (Nat → Int32) → (Nat → Int32) → Prop) (μ : Int32 → (Nat → Int32) → (Nat → Int32) → (Nat → Int32) → Nat), I y2_2 z2_v_crossings z2_v_hollow z2_v_seenBy ∧ ∀ (s0 : Int32) (s1 : (Nat → Int32)) (s2 : (Nat → Int32)) (s3 : (Nat → Int32)), I s0 s1 s2 s3 → wb_X4_read_2 v w  s0 s1 s2 s3 (fun t0 t1 t2 t3 => I t0 t1 t2 t3 ∧ μ t0 t1 t2 t3 < μ s0 s1 s2 s3) Q
def wp_X4_read (v : V_X4) (w : V_X0) (Q : (Nat → Int32) → (Nat → Int32) → (Nat → Int32) → (Nat → Int32) → Prop) : Prop :=
  wp_X4_read_2 v w  0 (X4_crossings v) (X4_hollow v) (X4_seenBy v) Q
def q_X4_read (dC : Nat → ClassId) (dI : Nat → Nat → Nat) (cy : Nat → ClassId) (a d b : Nat → Nat) (v : V_X4) (w : V_X0) (Q : (Nat → Int32) → (Nat → Int32) → (Nat → Int32) → (Nat → Int32) → Prop) (A : Nat → Prop) : Array Value → State → Outcome → State → Prop := va_Qv (fun (u : (Nat → Int32) × (Nat → Int32) × (Nat → Int32) × (Nat → Int32)) => Q u.1 u.2.1 u.2.2.1 u.2.2.2) (fun (u : (Nat → Int32) × (Nat → Int32) × (Nat → Int32) × (Nat → Int32)) t => xAt dC dI cy A (cX4 cy a u.2.1 u.1 u.2.2.2 u.2.2.1 ++ wX0 cy d b w) t) A
set_option maxHeartbeats 4000000 in
set_option maxRecDepth 100000 in
theorem c_X4_read (l : Launch) (dC : Nat → ClassId) (dI : Nat → Nat → Nat) (cy : Nat → ClassId) (a d b : Nat → Nat) (sz : Nat) (v : V_X4) (w : V_X0) (Q : (Nat → Int32) → (Nat → Int32) → (Nat → Int32) → (Nat → Int32) → Prop) (hq : wp_X4_read v w Q) : Met l yX4_read wsX4_read ({ frames := 5, cells := 0, slots := 0, locals := 116 } : Room) (va_Pc [.ref (a 0), .ref (d 0)] (xPreE dC dI cy (wX4 cy a v ++ wX0 cy d b w) sz)) (q_X4_read dC dI cy a d b v w Q (va_A (wX4 cy a v ++ wX0 cy d b w) sz)) 0 0 (va_A (wX4 cy a v ++ wX0 cy d b w) sz) := by
  refine Met.ofW (cc := cX4_read) (maxL := 3) (ret := none) (by decide) rfl ?_
  intro p e s m args below meth c s₁ B hml hv
  obtain ⟨rfl, hsz, hP, hK, hD0, hE⟩ := hv
  have hx := B.exec
  have hb := B.bytes
  have hr := B.returns
  have hts := atoms_spec (ws := wsX4_read) B.pre
  have hown : s.vm.findClass RX4 = some m.cls := findClass_of_methodNamed B.named
  have hlocks := B.notSynchronized
  subst hsz
  have hD := hD0.self (sz := s.heap.size)
  generalize hAe : va_A (wX4 cy a v ++ wX0 cy d b w) s.heap.size = A at hD hE ⊢
  have hAe0 : ∀ q : Nat, s.heap.size ≤ q → A q := fun q h => by rw [← hAe]; exact Or.inr h
  have hS : va_S A s.heap s.heap [] := va_S.rf
  have hl := lv_entry ([.ref (a 0), .ref (d 0)]) (n := 3) (Nat.le_of_ble_eq_true rfl)
  rw [lg_entry_eq]
  generalize (lg_sl ([.ref (a 0), .ref (d 0)]) ++ List.replicate (3 - (lg_sl ([.ref (a 0), .ref (d 0)])).length) Slot.unset).toArray = ls at hl ⊢
  have hl : lv_has ls 3 [(0, .ref (a 0)), (1, .ref (d 0))] := hl
  have lk0 := hts (Cond.fieldLink RX4 40 "MolesLawn$Lawn" "moleCount" "I") (List.mem_cons_of_mem _ (List.mem_append_left _ (List.mem_append_left _ (List.mem_append_left _ (List.mem_append_left _ (List.mem_append_left _ (List.mem_of_getElem? (i := 5) rfl)))))))
  have lk1 := hts (Cond.fieldLink RX4 43 "MolesLawn$Lawn" "moles" "[LMolesLawn$Mole;") (List.mem_cons_of_mem _ (List.mem_append_left _ (List.mem_append_left _ (List.mem_append_left _ (List.mem_append_left _ (List.mem_append_left _ (List.mem_of_getElem? (i := 6) rfl)))))))
  have lk2 := hts (Cond.fieldLink RX4 24 "MolesLawn$Lawn" "tunnels" "LMolesLawn$Rows;") (List.mem_cons_of_mem _ (List.mem_append_left _ (List.mem_append_left _ (List.mem_append_left _ (List.mem_append_left _ (List.mem_append_left _ (List.mem_of_getElem? (i := 3) rfl)))))))
  have lk3 := hts (Cond.fieldLink RX4 30 "MolesLawn$Rows" "size" "I") (List.mem_cons_of_mem _ (List.mem_append_left _ (List.mem_append_left _ (List.mem_append_left _ (List.mem_append_left _ (List.mem_append_left _ (List.mem_of_getElem? (i := 4) rfl)))))))
  have lk4 := hts (Cond.fieldLink RX4 9 "MolesLawn$Survey" "hollow" "[I") (List.mem_cons_of_mem _ (List.mem_append_left _ (List.mem_append_left _ (List.mem_append_left _ (List.mem_append_left _ (List.mem_append_left _ (List.mem_of_getElem? (i := 0) rfl)))))))
  have lk5 := hts (Cond.fieldLink RX4 15 "MolesLawn$Survey" "crossings" "[I") (List.mem_cons_of_mem _ (List.mem_append_left _ (List.mem_append_left _ (List.mem_append_left _ (List.mem_append_left _ (List.mem_append_left _ (List.mem_of_getElem? (i := 1) rfl)))))))
  have lk6 := hts (Cond.fieldLink RX4 21 "MolesLawn$Survey" "seenBy" "[I") (List.mem_cons_of_mem _ (List.mem_append_left _ (List.mem_append_left _ (List.mem_append_left _ (List.mem_append_left _ (List.mem_append_left _ (List.mem_of_getElem? (i := 2) rfl)))))))
  have iK0 : ∀ w ∈ wsX00, w ∈ wsX4_read := fun _ h => (List.mem_cons_of_mem _ (List.mem_append_left _ (List.mem_append_left _ (List.mem_append_right _ h))))
  have iK3 : ∀ w ∈ wsX30, w ∈ wsX4_read := fun _ h => (List.mem_cons_of_mem _ (List.mem_append_left _ (List.mem_append_right _ h)))
  have iK4 : ∀ w ∈ wsX40, w ∈ wsX4_read := fun _ h => (List.mem_cons_of_mem _ (List.mem_append_left _ (List.mem_append_left _ (List.mem_append_left _ (List.mem_append_right _ h)))))
  unfold wp_X4_read at hq
  have J65 : ∀ (z65_v_crossings : (Nat → Int32)) (z65_v_seenBy : (Nat → Int32)) (y65_2 : Int32) (z65_v_hollow : (Nat → Int32)) (H : Heap) (locs : List Loc) (ls : Array Slot), wp_X4_read_65 v w z65_v_crossings z65_v_seenBy y65_2 z65_v_hollow Q → va_P (dC, dI) vwCl (cX4 cy a z65_v_hollow z65_v_crossings (X4_sure v) z65_v_seenBy ++ wX0 cy d b w) H → va_D A (cX4 cy a z65_v_hollow z65_v_crossings (X4_sure v) z65_v_seenBy ++ wX0 cy d b w) → va_S A s.heap H locs → lv_has ls 3 [(0, .ref (a 0)), (1, .ref (d 0)), (2, .int y65_2)] → W p l e (headSpec wsX4_read ({ frames := 5, cells := 0, slots := 0, locals := 116 } : Room)).room s m ([.ref (a 0), .ref (d 0)] : List Value).toArray below meth c H locs 0 0 (MQ below (q_X4_read dC dI cy a d b v w Q A) ([.ref (a 0), .ref (d 0)] : List Value).toArray s 0 0 A) (F0 m 65 ls []) := by
    intro z65_v_crossings z65_v_seenBy y65_2 z65_v_hollow H locs ls hq hP hD hS hl
    obtain ⟨I65, μ65, h0, hs65⟩ := hq
    have key : ∀ (n : Nat) (y65_2 : Int32) (z65_v_hollow : (Nat → Int32)) (H : Heap) (locs : List Loc) (ls : Array Slot), I65 y65_2 z65_v_hollow → μ65 y65_2 z65_v_hollow < n → va_P (dC, dI) vwCl (cX4 cy a z65_v_hollow z65_v_crossings (X4_sure v) z65_v_seenBy ++ wX0 cy d b w) H → va_D A (cX4 cy a z65_v_hollow z65_v_crossings (X4_sure v) z65_v_seenBy ++ wX0 cy d b w) → va_S A s.heap H locs → lv_has ls 3 [(0, .ref (a 0)), (1, .ref (d 0)), (2, .int y65_2)] → W p l e (headSpec wsX4_read ({ frames := 5, cells := 0, slots := 0, locals := 116 } : Room)).room s m ([.ref (a 0), .ref (d 0)] : List Value).toArray below meth c H locs 0 0 (MQ below (q_X4_read dC dI cy a d b v w Q A) ([.ref (a 0), .ref (d 0)] : List Value).toArray s 0 0 A) (F0 m 65 ls []) := by
      intro n
      induction n with
      | zero => intro y65_2 z65_v_hollow H locs ls _ hm; exact absurd hm (Nat.not_lt_zero _)
      | succ n ih =>
        intro y65_2 z65_v_hollow H locs ls hI hm hP hD hS hl
        have hq := hs65 y65_2 z65_v_hollow hI
        generalize hB65 : (fun (t0 : Int32) (t1 : (Nat → Int32)) => I65 t0 t1 ∧ μ65 t0 t1 < μ65 y65_2 z65_v_hollow) = B65 at hq
        have bk65 : ∀ (y65_2 : Int32) (z65_v_hollow : (Nat → Int32)) (H : Heap) (locs : List Loc) (ls : Array Slot), B65 y65_2 z65_v_hollow → va_P (dC, dI) vwCl (cX4 cy a z65_v_hollow z65_v_crossings (X4_sure v) z65_v_seenBy ++ wX0 cy d b w) H → va_D A (cX4 cy a z65_v_hollow z65_v_crossings (X4_sure v) z65_v_seenBy ++ wX0 cy d b w) → va_S A s.heap H locs → lv_has ls 3 [(0, .ref (a 0)), (1, .ref (d 0)), (2, .int y65_2)] → W p l e (headSpec wsX4_read ({ frames := 5, cells := 0, slots := 0, locals := 116 } : Room)).room s m ([.ref (a 0), .ref (d 0)] : List Value).toArray below meth c H locs 0 0 (MQ below (q_X4_read dC dI cy a d b v w Q A) ([.ref (a 0), .ref (d 0)] : List Value).toArray s 0 0 A) (F0 m 65 ls []) := by
          intro y65_2 z65_v_hollow H locs ls h
          rw [← hB65] at h
          exact ih y65_2 z65_v_hollow H locs ls h.1 (Nat.lt_of_lt_of_le h.2 (Nat.le_of_lt_succ hm))
        unfold wb_X4_read_65 at hq
        refine lv_iload_n hx hb dX4_read_65 rfl (lv_at hl 2 rfl) ?_
        refine lv_aload_n hx hb dX4_read_66 rfl (lv_at hl 1 rfl) ?_
        refine va_get (D := (dC, dI)) (ci := 0) (v := .int (X0_moleCount w)) (C := RX0) (T := TX0) (N := 14) hx hb hts iK0 hown hK hP 5 rfl rfl 7 (by decide) lk0 (fun _ h9 => h9) rfl dX4_read_67 ?_
        obtain ⟨hqA, hqB⟩ := hq
        refine lv_icmp_ge (tgt := 89) hx hb dX4_read_70 (by decide) (fun c3 => ?_) (fun c3 => ?_)
        · have hq := hqA c3
          refine lv_aload_n hx hb dX4_read_89 rfl (lv_at hl 0 rfl) ?_
          refine lv_aload_n hx hb dX4_read_90 rfl (lv_at hl 1 rfl) ?_
          have hFc := xfree_same hS hAe0 (ws := (cX4 cy a z65_v_hollow z65_v_crossings (X4_sure v) z65_v_seenBy ++ wX0 cy d b w)) hD
          refine va_callv (va_runV (As := [.ref (d 0)]) (rest := []) ⟨hx, hb, hml, hown, hts⟩ (c_X4_findSure l dC dI cy a d b _ (z65_v_hollow, z65_v_crossings, (X4_sure v), z65_v_seenBy) w _ hq) (cwV 1 hts gX4_read_X4_findSure rfl rfl rfl (by decide +kernel) ⟨Nat.le_of_ble_eq_true rfl, Nat.le_of_ble_eq_true rfl⟩) ⟨xPre_blindE, va_recv hK hP (ci := 4) (q0 := 0) rfl rfl, xPre_ofE hP hK hD hE hS hFc⟩ rfl rfl hl.1 rfl (lv_room (Nat.le_of_ble_eq_true rfl)) dX4_read_91 ⟨Nat.le_of_ble_eq_true rfl, Nat.le_of_ble_eq_true rfl⟩) hS (fun q _ h => hFc q h) hFc (fun z91_v_sure t H locs ht hvm hq hB hz1 hk1 hS => ?_)
          obtain ⟨hP1, -, hD1⟩ := hB
          rw [ht] at hP1
          have hP : va_P (dC, dI) vwCl (cX4 cy a z65_v_hollow z65_v_crossings z91_v_sure z65_v_seenBy ++ wX0 cy d b w) H := hP1
          have hD : va_D A (cX4 cy a z65_v_hollow z65_v_crossings z91_v_sure z65_v_seenBy ++ wX0 cy d b w) := hD1.weaken (fun _ q _ h => hFc q.1 h)
          exact W.vret hx hb hr (fun t ht hW => ⟨⟨(z65_v_crossings, z65_v_hollow, z65_v_seenBy, z91_v_sure), rfl, hq, (xAt_of hP hK hD ht hW)⟩, hS.F ht⟩) hS.2.2 dX4_read_94
        · have hq := hqB c3
          refine lv_aload_n hx hb dX4_read_73 rfl (lv_at hl 0 rfl) ?_
          refine lv_aload_n hx hb dX4_read_74 rfl (lv_at hl 1 rfl) ?_
          refine va_get (D := (dC, dI)) (ci := 0) (v := .ref (d 8)) (C := RX0) (T := TX0) (N := 14) hx hb hts iK0 hown hK hP 5 rfl rfl 6 (by decide) lk1 (fun _ h9 => h9) rfl dX4_read_75 ?_
          refine lv_iload_n hx hb dX4_read_78 rfl (lv_at hl 2 rfl) ?_
          obtain ⟨g1, hq⟩ := hq
          obtain ⟨g2, hq⟩ := hq
          refine va_aldq hx hb hK hP 13 2 rfl rfl g1 dX4_read_79 ?_
          have hC : (([0, 1, 2, 3, 4, (14 + 3 * ((X0_molesR w) y65_2.toNatClampNeg)), (15 + 3 * ((X0_molesR w) y65_2.toNatClampNeg)), (16 + 3 * ((X0_molesR w) y65_2.toNatClampNeg))] : List Nat).map (fun i => (cX4 cy a z65_v_hollow z65_v_crossings (X4_sure v) z65_v_seenBy ++ wX0 cy d b w)[i]?)) = (cX4 cy a z65_v_hollow z65_v_crossings (X4_sure v) z65_v_seenBy ++ wX1 cy (sh d (9 + 3 * ((X0_molesR w) y65_2.toNatClampNeg))) ((X0_moles w) ((X0_molesR w) y65_2.toNatClampNeg))).map some := (co_4 (P := fun i19 => (([0, 1, 2, 3, 4, (14 + 3 * i19), (15 + 3 * i19), (16 + 3 * i19)] : List Nat).map (fun i => (cX4 cy a z65_v_hollow z65_v_crossings (X4_sure v) z65_v_seenBy ++ wX0 cy d b w)[i]?)) = (cX4 cy a z65_v_hollow z65_v_crossings (X4_sure v) z65_v_seenBy ++ wX1 cy (sh d (9 + 3 * i19)) ((X0_moles w) i19)).map some) rfl rfl rfl rfl g2)
          have hN : va_nd [0, 1, 2, 3, 4, (14 + 3 * ((X0_molesR w) y65_2.toNatClampNeg)), (15 + 3 * ((X0_molesR w) y65_2.toNatClampNeg)), (16 + 3 * ((X0_molesR w) y65_2.toNatClampNeg))] = true := (co_4 (P := fun i19 => va_nd [0, 1, 2, 3, 4, (14 + 3 * i19), (15 + 3 * i19), (16 + 3 * i19)] = true) rfl rfl rfl rfl g2)
          have hPc := xsubP hP hC
          have hDc := xsubD hD hN hC
          have hFc := va_free (wc := (cX4 cy a z65_v_hollow z65_v_crossings (X4_sure v) z65_v_seenBy ++ wX1 cy (sh d (9 + 3 * ((X0_molesR w) y65_2.toNatClampNeg))) ((X0_moles w) ((X0_molesR w) y65_2.toNatClampNeg)))) hD hS hAe0 [0, 1, 2, 3, 4, (14 + 3 * ((X0_molesR w) y65_2.toNatClampNeg)), (15 + 3 * ((X0_molesR w) y65_2.toNatClampNeg)), (16 + 3 * ((X0_molesR w) y65_2.toNatClampNeg))] hC
          refine va_callv (va_runV (As := [.ref (d (9 + 3 * ((X0_molesR w) y65_2.toNatClampNeg)))]) (rest := []) ⟨hx, hb, hml, hown, hts⟩ (c_X4_readTrail l dC dI cy a (sh d (9 + 3 * ((X0_molesR w) y65_2.toNatClampNeg))) _ (z65_v_hollow, z65_v_crossings, (X4_sure v), z65_v_seenBy) ((X0_moles w) ((X0_molesR w) y65_2.toNatClampNeg)) _ hq) (cwV 1 hts gX4_read_X4_readTrail rfl rfl rfl (by decide +kernel) ⟨Nat.le_of_ble_eq_true rfl, Nat.le_of_ble_eq_true rfl⟩) ⟨xPre_blind, va_recv hK hP (ci := 4) (q0 := 0) rfl rfl, xPre_of hPc hK hDc⟩ rfl rfl hl.1 rfl (lv_room (Nat.le_of_ble_eq_true rfl)) dX4_read_80 ⟨Nat.le_of_ble_eq_true rfl, Nat.le_of_ble_eq_true rfl⟩) hS (fun q _ h => hFc q h) hFc (fun z80_v_hollow t H locs ht hvm hq hB hz1 hk1 hS => ?_)
          obtain ⟨hP1, -, hD1⟩ := hB
          rw [ht] at hP1
          obtain ⟨hP, hD⟩ := xj hP hD [0, 1, 2, 3, 4, (14 + 3 * ((X0_molesR w) y65_2.toNatClampNeg)), (15 + 3 * ((X0_molesR w) y65_2.toNatClampNeg)), (16 + 3 * ((X0_molesR w) y65_2.toNatClampNeg))] (cX4 cy a z80_v_hollow z65_v_crossings (X4_sure v) z65_v_seenBy ++ wX1 cy (sh d (9 + 3 * ((X0_molesR w) y65_2.toNatClampNeg))) ((X0_moles w) ((X0_molesR w) y65_2.toNatClampNeg))) (ws' := (cX4 cy a z80_v_hollow z65_v_crossings (X4_sure v) z65_v_seenBy ++ wX0 cy d b w)) hC rfl (co_4 (P := fun i19 => xput (cX4 cy a z65_v_hollow z65_v_crossings (X4_sure v) z65_v_seenBy ++ wX0 cy d b w) [0, 1, 2, 3, 4, (14 + 3 * i19), (15 + 3 * i19), (16 + 3 * i19)] (cX4 cy a z80_v_hollow z65_v_crossings (X4_sure v) z65_v_seenBy ++ wX1 cy (sh d (9 + 3 * i19)) ((X0_moles w) i19)) = (cX4 cy a z80_v_hollow z65_v_crossings (X4_sure v) z65_v_seenBy ++ wX0 cy d b w)) rfl rfl rfl rfl g2) hk1 hFc hP1
          refine lv_iinc (v := (y65_2 + 1)) (lv' := [(2, .int (y65_2 + 1)), (0, .ref (a 0)), (1, .ref (d 0))]) hx hb dX4_read_83 hl (k := 2) rfl rfl (by decide) rfl (fun ls hl => ?_)
          refine lv_goto (tgt := 65) hx hb dX4_read_86 (by decide) ?_
          exact bk65 (y65_2 + 1) z80_v_hollow _ _ _ hq hP hD hS (lv_sub hl [1, 2, 0] rfl)
    exact key _ y65_2 z65_v_hollow H locs ls h0 (Nat.lt_succ_self _) hP hD hS hl
  have J37 : ∀  (y37_2 : Int32) (z37_v_crossings : (Nat → Int32)) (z37_v_hollow : (Nat → Int32)) (z37_v_seenBy : (Nat → Int32)) (H : Heap) (locs : List Loc) (ls : Array Slot), wp_X4_read_37 v w  y37_2 z37_v_crossings z37_v_hollow z37_v_seenBy Q → va_P (dC, dI) vwCl (cX4 cy a z37_v_hollow z37_v_crossings (X4_sure v) z37_v_seenBy ++ wX0 cy d b w) H → va_D A (cX4 cy a z37_v_hollow z37_v_crossings (X4_sure v) z37_v_seenBy ++ wX0 cy d b w) → va_S A s.heap H locs → lv_has ls 3 [(0, .ref (a 0)), (1, .ref (d 0)), (2, .int y37_2)] → W p l e (headSpec wsX4_read ({ frames := 5, cells := 0, slots := 0, locals := 116 } : Room)).room s m ([.ref (a 0), .ref (d 0)] : List Value).toArray below meth c H locs 0 0 (MQ below (q_X4_read dC dI cy a d b v w Q A) ([.ref (a 0), .ref (d 0)] : List Value).toArray s 0 0 A) (F0 m 37 ls []) := by
    intro  y37_2 z37_v_crossings z37_v_hollow z37_v_seenBy H locs ls hq hP hD hS hl
    obtain ⟨I37, μ37, h0, hs37⟩ := hq
    have key : ∀ (n : Nat) (y37_2 : Int32) (z37_v_crossings : (Nat → Int32)) (z37_v_hollow : (Nat → Int32)) (z37_v_seenBy : (Nat → Int32)) (H : Heap) (locs : List Loc) (ls : Array Slot), I37 y37_2 z37_v_crossings z37_v_hollow z37_v_seenBy → μ37 y37_2 z37_v_crossings z37_v_hollow z37_v_seenBy < n → va_P (dC, dI) vwCl (cX4 cy a z37_v_hollow z37_v_crossings (X4_sure v) z37_v_seenBy ++ wX0 cy d b w) H → va_D A (cX4 cy a z37_v_hollow z37_v_crossings (X4_sure v) z37_v_seenBy ++ wX0 cy d b w) → va_S A s.heap H locs → lv_has ls 3 [(0, .ref (a 0)), (1, .ref (d 0)), (2, .int y37_2)] → W p l e (headSpec wsX4_read ({ frames := 5, cells := 0, slots := 0, locals := 116 } : Room)).room s m ([.ref (a 0), .ref (d 0)] : List Value).toArray below meth c H locs 0 0 (MQ below (q_X4_read dC dI cy a d b v w Q A) ([.ref (a 0), .ref (d 0)] : List Value).toArray s 0 0 A) (F0 m 37 ls []) := by
      intro n
      induction n with
      | zero => intro y37_2 z37_v_crossings z37_v_hollow z37_v_seenBy H locs ls _ hm; exact absurd hm (Nat.not_lt_zero _)
      | succ n ih =>
        intro y37_2 z37_v_crossings z37_v_hollow z37_v_seenBy H locs ls hI hm hP hD hS hl
        have hq := hs37 y37_2 z37_v_crossings z37_v_hollow z37_v_seenBy hI
        generalize hB37 : (fun (t0 : Int32) (t1 : (Nat → Int32)) (t2 : (Nat → Int32)) (t3 : (Nat → Int32)) => I37 t0 t1 t2 t3 ∧ μ37 t0 t1 t2 t3 < μ37 y37_2 z37_v_crossings z37_v_hollow z37_v_seenBy) = B37 at hq
        have bk37 : ∀ (y37_2 : Int32) (z37_v_crossings : (Nat → Int32)) (z37_v_hollow : (Nat → Int32)) (z37_v_seenBy : (Nat → Int32)) (H : Heap) (locs : List Loc) (ls : Array Slot), B37 y37_2 z37_v_crossings z37_v_hollow z37_v_seenBy → va_P (dC, dI) vwCl (cX4 cy a z37_v_hollow z37_v_crossings (X4_sure v) z37_v_seenBy ++ wX0 cy d b w) H → va_D A (cX4 cy a z37_v_hollow z37_v_crossings (X4_sure v) z37_v_seenBy ++ wX0 cy d b w) → va_S A s.heap H locs → lv_has ls 3 [(0, .ref (a 0)), (1, .ref (d 0)), (2, .int y37_2)] → W p l e (headSpec wsX4_read ({ frames := 5, cells := 0, slots := 0, locals := 116 } : Room)).room s m ([.ref (a 0), .ref (d 0)] : List Value).toArray below meth c H locs 0 0 (MQ below (q_X4_read dC dI cy a d b v w Q A) ([.ref (a 0), .ref (d 0)] : List Value).toArray s 0 0 A) (F0 m 37 ls []) := by
          intro y37_2 z37_v_crossings z37_v_hollow z37_v_seenBy H locs ls h
          rw [← hB37] at h
          exact ih y37_2 z37_v_crossings z37_v_hollow z37_v_seenBy H locs ls h.1 (Nat.lt_of_lt_of_le h.2 (Nat.le_of_lt_succ hm))
        unfold wb_X4_read_37 at hq
        refine lv_iload_n hx hb dX4_read_37 rfl (lv_at hl 2 rfl) ?_
        refine lv_aload_n hx hb dX4_read_38 rfl (lv_at hl 1 rfl) ?_
        refine va_get (D := (dC, dI)) (ci := 0) (v := .ref (d 5)) (C := RX0) (T := TX0) (N := 14) hx hb hts iK0 hown hK hP 5 rfl rfl 4 (by decide) lk2 (fun _ h9 => h9) rfl dX4_read_39 ?_
        refine va_get (D := (dC, dI)) (ci := 3) (v := .int (X3_size (X0_tunnels w))) (C := RX3) (T := TX3) (N := 4) hx hb hts iK3 hown hK hP 10 rfl rfl 3 (by decide) lk3 (fun _ h9 => h9) rfl dX4_read_42 ?_
        obtain ⟨hqA, hqB⟩ := hq
        refine lv_icmp_ge (tgt := 63) hx hb dX4_read_45 (by decide) (fun c4 => ?_) (fun c4 => ?_)
        · have hq := hqA c4
          refine lv_iconst (v := 0) hx hb dX4_read_63 (by decide) ?_
          refine lv_istore_n (lv' := [(2, .int 0), (0, .ref (a 0)), (1, .ref (d 0))]) hx hb dX4_read_64 rfl hl (by decide) rfl (fun ls hl => ?_)
          exact J65 z37_v_crossings z37_v_seenBy 0 z37_v_hollow _ _ _ hq hP hD hS (lv_sub hl [1, 2, 0] rfl)
        · have hq := hqB c4
          refine lv_aload_n hx hb dX4_read_48 rfl (lv_at hl 0 rfl) ?_
          refine lv_aload_n hx hb dX4_read_49 rfl (lv_at hl 1 rfl) ?_
          refine va_get (D := (dC, dI)) (ci := 0) (v := .ref (d 5)) (C := RX0) (T := TX0) (N := 14) hx hb hts iK0 hown hK hP 5 rfl rfl 4 (by decide) lk2 (fun _ h9 => h9) rfl dX4_read_50 ?_
          refine lv_iload_n hx hb dX4_read_53 rfl (lv_at hl 2 rfl) ?_
          have hC : (([0, 1, 2, 3, 4, 10, 11, 12] : List Nat).map (fun i => (cX4 cy a z37_v_hollow z37_v_crossings (X4_sure v) z37_v_seenBy ++ wX0 cy d b w)[i]?)) = (cX4 cy a z37_v_hollow z37_v_crossings (X4_sure v) z37_v_seenBy ++ wX3 cy (sh d 5) (X0_tunnels w)).map some := (xC_app (i1 := [0, 1, 2, 3, 4]) (i2 := [10, 11, 12]) rfl (xC_one (n := 0) (m := 5) rfl rfl rfl) (xC_one (n := 10) (m := 3) rfl rfl rfl))
          have hPc := xsubP hP hC
          have hDc := xsubD hD (by decide) hC
          have hFc := va_free (wc := (cX4 cy a z37_v_hollow z37_v_crossings (X4_sure v) z37_v_seenBy ++ wX3 cy (sh d 5) (X0_tunnels w))) hD hS hAe0 [0, 1, 2, 3, 4, 10, 11, 12] hC
          refine va_callv (va_runV (As := [.ref (d 5), .int y37_2]) (rest := []) ⟨hx, hb, hml, hown, hts⟩ (c_X4_readTunnel l dC dI cy a (sh d 5) _ (z37_v_hollow, z37_v_crossings, (X4_sure v), z37_v_seenBy) (X0_tunnels w) y37_2 _ hq) (cwV 2 hts gX4_read_X4_readTunnel rfl rfl rfl (by decide +kernel) ⟨Nat.le_of_ble_eq_true rfl, Nat.le_of_ble_eq_true rfl⟩) ⟨xPre_blind, va_recv hK hP (ci := 4) (q0 := 0) rfl rfl, xPre_of hPc hK hDc⟩ rfl rfl hl.1 rfl (lv_room (Nat.le_of_ble_eq_true rfl)) dX4_read_54 ⟨Nat.le_of_ble_eq_true rfl, Nat.le_of_ble_eq_true rfl⟩) hS (fun q _ h => hFc q h) hFc (fun u9 t H locs ht hvm hq hB hz1 hk1 hS => ?_)
          obtain ⟨z54_v_crossings, z54_v_hollow, z54_v_seenBy⟩ := u9
          obtain ⟨hP1, -, hD1⟩ := hB
          rw [ht] at hP1
          obtain ⟨hP, hD⟩ := xj hP hD [0, 1, 2, 3, 4, 10, 11, 12] (cX4 cy a z54_v_hollow z54_v_crossings (X4_sure v) z54_v_seenBy ++ wX3 cy (sh d 5) (X0_tunnels w)) (ws' := (cX4 cy a z54_v_hollow z54_v_crossings (X4_sure v) z54_v_seenBy ++ wX0 cy d b w)) hC rfl (xS_app (n := 0) (m := 5) (i2 := [10, 11, 12]) rfl rfl rfl (xS_one (n := 10) (m := 3) rfl rfl rfl)) hk1 hFc hP1
          refine lv_iinc (v := (y37_2 + 1)) (lv' := [(2, .int (y37_2 + 1)), (0, .ref (a 0)), (1, .ref (d 0))]) hx hb dX4_read_57 hl (k := 2) rfl rfl (by decide) rfl (fun ls hl => ?_)
          refine lv_goto (tgt := 37) hx hb dX4_read_60 (by decide) ?_
          exact bk37 (y37_2 + 1) z54_v_crossings z54_v_hollow z54_v_seenBy _ _ _ hq hP hD hS (lv_sub hl [1, 2, 0] rfl)
    exact key _ y37_2 z37_v_crossings z37_v_hollow z37_v_seenBy H locs ls h0 (Nat.lt_succ_self _) hP hD hS hl
  have J2 : ∀  (y2_2 : Int32) (z2_v_crossings : (Nat → Int32)) (z2_v_hollow : (Nat → Int32)) (z2_v_seenBy : (Nat → Int32)) (H : Heap) (locs : List Loc) (ls : Array Slot), wp_X4_read_2 v w  y2_2 z2_v_crossings z2_v_hollow z2_v_seenBy Q → va_P (dC, dI) vwCl (cX4 cy a z2_v_hollow z2_v_crossings (X4_sure v) z2_v_seenBy ++ wX0 cy d b w) H → va_D A (cX4 cy a z2_v_hollow z2_v_crossings (X4_sure v) z2_v_seenBy ++ wX0 cy d b w) → va_S A s.heap H locs → lv_has ls 3 [(0, .ref (a 0)), (1, .ref (d 0)), (2, .int y2_2)] → W p l e (headSpec wsX4_read ({ frames := 5, cells := 0, slots := 0, locals := 116 } : Room)).room s m ([.ref (a 0), .ref (d 0)] : List Value).toArray below meth c H locs 0 0 (MQ below (q_X4_read dC dI cy a d b v w Q A) ([.ref (a 0), .ref (d 0)] : List Value).toArray s 0 0 A) (F0 m 2 ls []) := by
    intro  y2_2 z2_v_crossings z2_v_hollow z2_v_seenBy H locs ls hq hP hD hS hl
    obtain ⟨I2, μ2, h0, hs2⟩ := hq
    have key : ∀ (n : Nat) (y2_2 : Int32) (z2_v_crossings : (Nat → Int32)) (z2_v_hollow : (Nat → Int32)) (z2_v_seenBy : (Nat → Int32)) (H : Heap) (locs : List Loc) (ls : Array Slot), I2 y2_2 z2_v_crossings z2_v_hollow z2_v_seenBy → μ2 y2_2 z2_v_crossings z2_v_hollow z2_v_seenBy < n → va_P (dC, dI) vwCl (cX4 cy a z2_v_hollow z2_v_crossings (X4_sure v) z2_v_seenBy ++ wX0 cy d b w) H → va_D A (cX4 cy a z2_v_hollow z2_v_crossings (X4_sure v) z2_v_seenBy ++ wX0 cy d b w) → va_S A s.heap H locs → lv_has ls 3 [(0, .ref (a 0)), (1, .ref (d 0)), (2, .int y2_2)] → W p l e (headSpec wsX4_read ({ frames := 5, cells := 0, slots := 0, locals := 116 } : Room)).room s m ([.ref (a 0), .ref (d 0)] : List Value).toArray below meth c H locs 0 0 (MQ below (q_X4_read dC dI cy a d b v w Q A) ([.ref (a 0), .ref (d 0)] : List Value).toArray s 0 0 A) (F0 m 2 ls []) := by
      intro n
      induction n with
      | zero => intro y2_2 z2_v_crossings z2_v_hollow z2_v_seenBy H locs ls _ hm; exact absurd hm (Nat.not_lt_zero _)
      | succ n ih =>
        intro y2_2 z2_v_crossings z2_v_hollow z2_v_seenBy H locs ls hI hm hP hD hS hl
        have hq := hs2 y2_2 z2_v_crossings z2_v_hollow z2_v_seenBy hI
        generalize hB2 : (fun (t0 : Int32) (t1 : (Nat → Int32)) (t2 : (Nat → Int32)) (t3 : (Nat → Int32)) => I2 t0 t1 t2 t3 ∧ μ2 t0 t1 t2 t3 < μ2 y2_2 z2_v_crossings z2_v_hollow z2_v_seenBy) = B2 at hq
        have bk2 : ∀ (y2_2 : Int32) (z2_v_crossings : (Nat → Int32)) (z2_v_hollow : (Nat → Int32)) (z2_v_seenBy : (Nat → Int32)) (H : Heap) (locs : List Loc) (ls : Array Slot), B2 y2_2 z2_v_crossings z2_v_hollow z2_v_seenBy → va_P (dC, dI) vwCl (cX4 cy a z2_v_hollow z2_v_crossings (X4_sure v) z2_v_seenBy ++ wX0 cy d b w) H → va_D A (cX4 cy a z2_v_hollow z2_v_crossings (X4_sure v) z2_v_seenBy ++ wX0 cy d b w) → va_S A s.heap H locs → lv_has ls 3 [(0, .ref (a 0)), (1, .ref (d 0)), (2, .int y2_2)] → W p l e (headSpec wsX4_read ({ frames := 5, cells := 0, slots := 0, locals := 116 } : Room)).room s m ([.ref (a 0), .ref (d 0)] : List Value).toArray below meth c H locs 0 0 (MQ below (q_X4_read dC dI cy a d b v w Q A) ([.ref (a 0), .ref (d 0)] : List Value).toArray s 0 0 A) (F0 m 2 ls []) := by
          intro y2_2 z2_v_crossings z2_v_hollow z2_v_seenBy H locs ls h
          rw [← hB2] at h
          exact ih y2_2 z2_v_crossings z2_v_hollow z2_v_seenBy H locs ls h.1 (Nat.lt_of_lt_of_le h.2 (Nat.le_of_lt_succ hm))
        unfold wb_X4_read_2 at hq
        refine lv_iload_n hx hb dX4_read_2 rfl (lv_at hl 2 rfl) ?_
        refine lv_bipush (v := 64) hx hb dX4_read_3 (by decide) ?_
        obtain ⟨hqA, hqB⟩ := hq
        refine lv_icmp_ge (tgt := 35) hx hb dX4_read_5 (by decide) (fun c6 => ?_) (fun c6 => ?_)
        · have hq := hqA c6
          refine lv_iconst (v := 0) hx hb dX4_read_35 (by decide) ?_
          refine lv_istore_n (lv' := [(2, .int 0), (0, .ref (a 0)), (1, .ref (d 0))]) hx hb dX4_read_36 rfl hl (by decide) rfl (fun ls hl => ?_)
          exact J37  0 z2_v_crossings z2_v_hollow z2_v_seenBy _ _ _ hq hP hD hS (lv_sub hl [1, 2, 0] rfl)
        · have hq := hqB c6
          refine lv_aload_n hx hb dX4_read_8 rfl (lv_at hl 0 rfl) ?_
          refine va_get (D := (dC, dI)) (ci := 4) (v := .ref (a 1)) (C := RX4) (T := TX4) (N := 4) hx hb hts iK4 hown hK hP 0 rfl rfl 0 (by decide) lk4 (fun _ h9 => h9) rfl dX4_read_9 ?_
          refine lv_iload_n hx hb dX4_read_12 rfl (lv_at hl 2 rfl) ?_
          refine lv_iconst (v := 0) hx hb dX4_read_13 (by decide) ?_
          obtain ⟨g5, hq⟩ := hq
          refine va_iast hx hb hK hP hD hS 1 0 rfl rfl g5 dX4_read_14 (fun H locs hP hD hS => ?_)
          have hP : va_P (dC, dI) vwCl (cX4 cy a (upd z2_v_hollow y2_2.toNatClampNeg 0) z2_v_crossings (X4_sure v) z2_v_seenBy ++ wX0 cy d b w) H := hP
          have hD : va_D A (cX4 cy a (upd z2_v_hollow y2_2.toNatClampNeg 0) z2_v_crossings (X4_sure v) z2_v_seenBy ++ wX0 cy d b w) := hD
          refine lv_aload_n hx hb dX4_read_15 rfl (lv_at hl 0 rfl) ?_
          refine va_get (D := (dC, dI)) (ci := 4) (v := .ref (a 2)) (C := RX4) (T := TX4) (N := 4) hx hb hts iK4 hown hK hP 0 rfl rfl 1 (by decide) lk5 (fun _ h9 => h9) rfl dX4_read_16 ?_
          refine lv_iload_n hx hb dX4_read_19 rfl (lv_at hl 2 rfl) ?_
          refine lv_iconst (v := 0) hx hb dX4_read_20 (by decide) ?_
          refine va_iast hx hb hK hP hD hS 2 0 rfl rfl g5 dX4_read_21 (fun H locs hP hD hS => ?_)
          have hP : va_P (dC, dI) vwCl (cX4 cy a (upd z2_v_hollow y2_2.toNatClampNeg 0) (upd z2_v_crossings y2_2.toNatClampNeg 0) (X4_sure v) z2_v_seenBy ++ wX0 cy d b w) H := hP
          have hD : va_D A (cX4 cy a (upd z2_v_hollow y2_2.toNatClampNeg 0) (upd z2_v_crossings y2_2.toNatClampNeg 0) (X4_sure v) z2_v_seenBy ++ wX0 cy d b w) := hD
          refine lv_aload_n hx hb dX4_read_22 rfl (lv_at hl 0 rfl) ?_
          refine va_get (D := (dC, dI)) (ci := 4) (v := .ref (a 4)) (C := RX4) (T := TX4) (N := 4) hx hb hts iK4 hown hK hP 0 rfl rfl 3 (by decide) lk6 (fun _ h9 => h9) rfl dX4_read_23 ?_
          refine lv_iload_n hx hb dX4_read_26 rfl (lv_at hl 2 rfl) ?_
          refine lv_iconst (v := (-1)) hx hb dX4_read_27 (by decide) ?_
          refine va_iast hx hb hK hP hD hS 4 0 rfl rfl g5 dX4_read_28 (fun H locs hP hD hS => ?_)
          have hP : va_P (dC, dI) vwCl (cX4 cy a (upd z2_v_hollow y2_2.toNatClampNeg 0) (upd z2_v_crossings y2_2.toNatClampNeg 0) (X4_sure v) (upd z2_v_seenBy y2_2.toNatClampNeg (-1)) ++ wX0 cy d b w) H := hP
          have hD : va_D A (cX4 cy a (upd z2_v_hollow y2_2.toNatClampNeg 0) (upd z2_v_crossings y2_2.toNatClampNeg 0) (X4_sure v) (upd z2_v_seenBy y2_2.toNatClampNeg (-1)) ++ wX0 cy d b w) := hD
          refine lv_iinc (v := (y2_2 + 1)) (lv' := [(2, .int (y2_2 + 1)), (0, .ref (a 0)), (1, .ref (d 0))]) hx hb dX4_read_29 hl (k := 2) rfl rfl (by decide) rfl (fun ls hl => ?_)
          refine lv_goto (tgt := 2) hx hb dX4_read_32 (by decide) ?_
          exact bk2 (y2_2 + 1) (upd z2_v_crossings y2_2.toNatClampNeg 0) (upd z2_v_hollow y2_2.toNatClampNeg 0) (upd z2_v_seenBy y2_2.toNatClampNeg (-1)) _ _ _ hq hP hD hS (lv_sub hl [1, 2, 0] rfl)
    exact key _ y2_2 z2_v_crossings z2_v_hollow z2_v_seenBy H locs ls h0 (Nat.lt_succ_self _) hP hD hS hl
  refine lv_iconst (v := 0) hx hb dX4_read_0 (by decide) ?_
  refine lv_istore_n (lv' := [(2, .int 0), (0, .ref (a 0)), (1, .ref (d 0))]) hx hb dX4_read_1 rfl hl (by decide) rfl (fun ls hl => ?_)
  exact J2  0 (X4_crossings v) (X4_hollow v) (X4_seenBy v) _ _ _ hq hP hD hS (lv_sub hl [1, 2, 0] rfl)
