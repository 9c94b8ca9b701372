def wp_L_rakes_142 (v : V_X6) (x1 : Int32) (z142_v : V_X6) (Q : Int32 → V_X6 → Prop) : Prop :=
  wo_X6_tuft z142_v x1 0 (fun r145 z145_v =>
  ((r145 = 0 → Q 1 z145_v) ∧
  (¬ r145 = 0 → Q 0 z145_v)))
def wb_L_rakes_18 (v : V_X6) (x1 : Int32)  (y18_2 : Int32) (y18_3 : Int32) (z18_v : V_X6) (B18 : Int32 → Int32 → V_X6 → Prop) (Q : Int32 → V_X6 → Prop) : Prop :=
  wo_X6_count z18_v 1 (fun r21 z21_v =>
  ((r21 ≤ y18_3 → ((y18_2 = 0 → Q 1 z21_v) ∧
  (¬ y18_2 = 0 → wo_X6_count z21_v 4 (fun r61 z61_v =>
  wo_X6_count z61_v 3 (fun r67 z67_v =>
  wo_X6_tuft z67_v x1 7 (fun r76 z76_v =>
  wo_X6_rake z76_v x1 (fun r83 z83_v =>
  wo_X6_count z83_v 3 (fun r90 z90_v =>
  ((r90 = (r67 - 1) → wo_X6_count z90_v 4 (fun r102 z102_v =>
  ((r102 = (r61 - r83) → ((r83 = r76 → wp_L_rakes_142 v x1 z102_v  Q) ∧
  (¬ r83 = r76 → ((r76 = 2 → ((r83 = 1 → wo_X6_tuft z102_v x1 7 (fun r135 z135_v =>
  ((r135 = 1 → wp_L_rakes_142 v x1 z135_v  Q) ∧
  (¬ r135 = 1 → Q 0 z135_v)))) ∧
  (¬ r83 = 1 → Q 0 z102_v))) ∧
  (¬ r76 = 2 → Q 0 z102_v))))) ∧
  (¬ r102 = (r61 - r83) → Q 0 z102_v)))) ∧
  (¬ r90 = (r67 - 1) → Q 0 z90_v)))))))))) ∧
  (¬ r21 ≤ y18_3 → ((y18_2 = 0 → B18 0 (y18_3 + 1) z21_v) ∧
  (¬ y18_2 = 0 → wo_X6_moleOf z21_v y18_3 4 (fun r34 =>
  ((r34 = x1 → B18 0 (y18_3 + 1) z21_v) ∧
  (¬ r34 = x1 → B18 1 (y18_3 + 1) z21_v))))))))
def wp_L_rakes_18 (v : V_X6) (x1 : Int32)  (y18_2 : Int32) (y18_3 : Int32) (z18_v : V_X6) (Q : Int32 → V_X6 → Prop) : Prop :=
  ∃ (I : Int32 → Int32 → V_X6 → Prop) (μ : Int32 → Int32 → V_X6 → Nat), I y18_2 y18_3 z18_v ∧ ∀ (s0 : Int32) (s1 : Int32) (s2 : V_X6), I s0 s1 s2 → wb_L_rakes_18 v x1  s0 s1 s2 (fun t0 t1 t2 => I t0 t1 t2 ∧ μ t0 t1 t2 < μ s0 s1 s2) Q
def wp_L_rakes (v : V_X6) (x1 : Int32) (Q : Int32 → V_X6 → Prop) : Prop :=
  wo_X6_tuft v x1 0 (fun r3 z3_v =>
  ((r3 = 1 → wp_L_rakes_18 v x1  1 0 z3_v Q) ∧
  (¬ r3 = 1 → wp_L_rakes_18 v x1  0 0 z3_v Q)))
def q_L_rakes (dC : Nat → ClassId) (dI : Nat → Nat → Nat) (cy : Nat → ClassId) (a : Nat → Nat) (v : V_X6) (x1 : Int32) (Q : Int32 → V_X6 → Prop) (A : Nat → Prop) : Array Value → State → Outcome → State → Prop := va_Qi (fun (r : Int32) (u : V_X6) => Q r u) (fun (u : V_X6) t => xAt dC dI cy A (wX6 cy a u) t) A
set_option maxHeartbeats 4000000 in
set_option maxRecDepth 100000 in
theorem c_L_rakes (l : Launch) (dC : Nat → ClassId) (dI : Nat → Nat → Nat) (cy : Nat → ClassId) (a : Nat → Nat) (sz : Nat) (v : V_X6) (x1 : Int32) (Q : Int32 → V_X6 → Prop) (hq : wp_L_rakes v x1 Q) : Met l yL_rakes wsL_rakes ({ frames := 8, cells := 0, slots := 0, locals := 182 } : Room) (va_Pc [.ref (a 0), .int x1] (xPreE dC dI cy (wX6 cy a v) sz)) (q_L_rakes dC dI cy a v x1 Q (va_A (wX6 cy a v) sz)) 0 0 (va_A (wX6 cy a v) sz) := by
  refine Met.ofW (cc := cL_rakes) (maxL := 7) (ret := (some .boolean)) (by decide) rfl ?_
  intro p e s m args below meth c s₁ B hml hv
  obtain ⟨rfl, hsz, hP, hK, hD0, hE⟩ := hv
  have hx := B.exec
  have hb := B.bytes
  have hr := B.returns
  have hts := atoms_spec (ws := wsL_rakes) B.pre
  have hown : s.vm.findClass RL = some m.cls := findClass_of_methodNamed B.named
  have hlocks := B.notSynchronized
  subst hsz
  have hD := hD0.self (sz := s.heap.size)
  generalize hAe : va_A (wX6 cy a v) s.heap.size = A at hD hE ⊢
  have hAe0 : ∀ q : Nat, s.heap.size ≤ q → A q := fun q h => by rw [← hAe]; exact Or.inr h
  have hS : va_S A s.heap s.heap [] := va_S.rf
  have hl := lv_entry ([.ref (a 0), .int x1]) (n := 7) (Nat.le_of_ble_eq_true rfl)
  rw [lg_entry_eq]
  generalize (lg_sl ([.ref (a 0), .int x1]) ++ List.replicate (7 - (lg_sl ([.ref (a 0), .int x1])).length) Slot.unset).toArray = ls at hl ⊢
  have hl : lv_has ls 7 [(0, .ref (a 0)), (1, .int x1)] := hl
  unfold wp_L_rakes at hq
  have J142 : ∀ (z142_v : V_X6) (H : Heap) (locs : List Loc) (ls : Array Slot), wp_L_rakes_142 v x1 z142_v Q → va_P (dC, dI) vwCl (wX6 cy a z142_v) H → va_D A (wX6 cy a z142_v) → va_S A s.heap H locs → lv_has ls 7 [(0, .ref (a 0)), (1, .int x1)] → W p l e (headSpec wsL_rakes ({ frames := 8, cells := 0, slots := 0, locals := 182 } : Room)).room s m ([.ref (a 0), .int x1] : List Value).toArray below meth c H locs 0 0 (MQ below (q_L_rakes dC dI cy a v x1 Q A) ([.ref (a 0), .int x1] : List Value).toArray s 0 0 A) (F0 m 142 ls []) := by
    intro z142_v H locs ls hq hP hD hS hl
    unfold wp_L_rakes_142 at hq
    refine lv_aload_n hx hb dL_rakes_142 rfl (lv_at hl 0 rfl) ?_
    refine lv_iload_n hx hb dL_rakes_143 rfl (lv_at hl 1 rfl) ?_
    refine lv_iconst (v := 0) hx hb dL_rakes_144 (by decide) ?_
    have hFc := xfree_same hS hAe0 (ws := (wX6 cy a z142_v)) hD
    refine va_calli (va_runV (As := [.int x1, .int 0]) (rest := []) ⟨hx, hb, hml, hown, hts⟩ (co_X6_tuft l dC dI cy a _ z142_v x1 0 _ hq) (cwV 2 hts gL_rakes_X6_tuft rfl rfl rfl (by decide +kernel) ⟨Nat.le_of_ble_eq_true rfl, Nat.le_of_ble_eq_true rfl⟩) ⟨xPre_blindE, va_recv hK hP (ci := 6) (q0 := 0) rfl rfl, xPre_ofE hP hK hD hE hS hFc⟩ rfl rfl hl.1 rfl (lv_room (Nat.le_of_ble_eq_true rfl)) dL_rakes_145 ⟨Nat.le_of_ble_eq_true rfl, Nat.le_of_ble_eq_true rfl⟩) hS (fun q _ h => hFc q h) hFc (fun r145 z145_v t H locs ht hvm hq hB hz1 hk1 hS => ?_)
    obtain ⟨hP1, -, hD1⟩ := hB
    rw [ht] at hP1
    have hP : va_P (dC, dI) vwCl (wX6 cy a z145_v) H := hP1
    have hD : va_D A (wX6 cy a z145_v) := hD1.weaken (fun _ q _ h => hFc q.1 h)
    obtain ⟨hqA, hqB⟩ := hq
    refine lv_if_ne (tgt := 155) hx hb dL_rakes_148 (by decide) (fun c1 => ?_) (fun c1 => ?_)
    · have hq := hqB c1
      refine lv_iconst (v := 0) hx hb dL_rakes_155 (by decide) ?_
      exact W.zret (v := 0) hx hb hr rfl (fun t ht hW => ⟨⟨0, z145_v, rfl, hq, (xAt_of hP hK hD ht hW)⟩, hS.F ht⟩) hS.2.2 dL_rakes_156
    · have hq := hqA c1
      refine lv_iconst (v := 1) hx hb dL_rakes_151 (by decide) ?_
      refine lv_goto (tgt := 156) hx hb dL_rakes_152 (by decide) ?_
      exact W.zret (v := 1) hx hb hr rfl (fun t ht hW => ⟨⟨1, z145_v, rfl, hq, (xAt_of hP hK hD ht hW)⟩, hS.F ht⟩) hS.2.2 dL_rakes_156
  have J18 : ∀  (y18_2 : Int32) (y18_3 : Int32) (z18_v : V_X6) (H : Heap) (locs : List Loc) (ls : Array Slot), wp_L_rakes_18 v x1  y18_2 y18_3 z18_v Q → va_P (dC, dI) vwCl (wX6 cy a z18_v) H → va_D A (wX6 cy a z18_v) → va_S A s.heap H locs → lv_has ls 7 [(0, .ref (a 0)), (1, .int x1), (2, .int y18_2), (3, .int y18_3)] → W p l e (headSpec wsL_rakes ({ frames := 8, cells := 0, slots := 0, locals := 182 } : Room)).room s m ([.ref (a 0), .int x1] : List Value).toArray below meth c H locs 0 0 (MQ below (q_L_rakes dC dI cy a v x1 Q A) ([.ref (a 0), .int x1] : List Value).toArray s 0 0 A) (F0 m 18 ls []) := by
    intro  y18_2 y18_3 z18_v H locs ls hq hP hD hS hl
    obtain ⟨I18, μ18, h0, hs18⟩ := hq
    have key : ∀ (n : Nat) (y18_2 : Int32) (y18_3 : Int32) (z18_v : V_X6) (H : Heap) (locs : List Loc) (ls : Array Slot), I18 y18_2 y18_3 z18_v → μ18 y18_2 y18_3 z18_v < n → va_P (dC, dI) vwCl (wX6 cy a z18_v) H → va_D A (wX6 cy a z18_v) → va_S A s.heap H locs → lv_has ls 7 [(0, .ref (a 0)), (1, .int x1), (2, .int y18_2), (3, .int y18_3)] → W p l e (headSpec wsL_rakes ({ frames := 8, cells := 0, slots := 0, locals := 182 } : Room)).room s m ([.ref (a 0), .int x1] : List Value).toArray below meth c H locs 0 0 (MQ below (q_L_rakes dC dI cy a v x1 Q A) ([.ref (a 0), .int x1] : List Value).toArray s 0 0 A) (F0 m 18 ls []) := by
      intro n
      induction n with
      | zero => intro y18_2 y18_3 z18_v H locs ls _ hm; exact absurd hm (Nat.not_lt_zero _)
      | succ n ih =>
        intro y18_2 y18_3 z18_v H locs ls hI hm hP hD hS hl
        have hq := hs18 y18_2 y18_3 z18_v hI
        generalize hB18 : (fun (t0 : Int32) (t1 : Int32) (t2 : V_X6) => I18 t0 t1 t2 ∧ μ18 t0 t1 t2 < μ18 y18_2 y18_3 z18_v) = B18 at hq
        have bk18 : ∀ (y18_2 : Int32) (y18_3 : Int32) (z18_v : V_X6) (H : Heap) (locs : List Loc) (ls : Array Slot), B18 y18_2 y18_3 z18_v → va_P (dC, dI) vwCl (wX6 cy a z18_v) H → va_D A (wX6 cy a z18_v) → va_S A s.heap H locs → lv_has ls 7 [(0, .ref (a 0)), (1, .int x1), (2, .int y18_2), (3, .int y18_3)] → W p l e (headSpec wsL_rakes ({ frames := 8, cells := 0, slots := 0, locals := 182 } : Room)).room s m ([.ref (a 0), .int x1] : List Value).toArray below meth c H locs 0 0 (MQ below (q_L_rakes dC dI cy a v x1 Q A) ([.ref (a 0), .int x1] : List Value).toArray s 0 0 A) (F0 m 18 ls []) := by
          intro y18_2 y18_3 z18_v H locs ls h
          rw [← hB18] at h
          exact ih y18_2 y18_3 z18_v H locs ls h.1 (Nat.lt_of_lt_of_le h.2 (Nat.le_of_lt_succ hm))
        unfold wb_L_rakes_18 at hq
        refine lv_iload_n hx hb dL_rakes_18 rfl (lv_at hl 3 rfl) ?_
        refine lv_aload_n hx hb dL_rakes_19 rfl (lv_at hl 0 rfl) ?_
        refine lv_iconst (v := 1) hx hb dL_rakes_20 (by decide) ?_
        have hFc := xfree_same hS hAe0 (ws := (wX6 cy a z18_v)) hD
        refine va_calli (va_runV (As := [.int 1]) (rest := [.int y18_3]) ⟨hx, hb, hml, hown, hts⟩ (co_X6_count l dC dI cy a _ z18_v 1 _ hq) (cwV 1 hts gL_rakes_X6_count rfl rfl rfl (by decide +kernel) ⟨Nat.le_of_ble_eq_true rfl, Nat.le_of_ble_eq_true rfl⟩) ⟨xPre_blindE, va_recv hK hP (ci := 6) (q0 := 0) rfl rfl, xPre_ofE hP hK hD hE hS hFc⟩ rfl rfl hl.1 rfl (lv_room (Nat.le_of_ble_eq_true rfl)) dL_rakes_21 ⟨Nat.le_of_ble_eq_true rfl, Nat.le_of_ble_eq_true rfl⟩) hS (fun q _ h => hFc q h) hFc (fun r21 z21_v t H locs ht hvm hq hB hz1 hk1 hS => ?_)
        obtain ⟨hP1, -, hD1⟩ := hB
        rw [ht] at hP1
        have hP : va_P (dC, dI) vwCl (wX6 cy a z21_v) H := hP1
        have hD : va_D A (wX6 cy a z21_v) := hD1.weaken (fun _ q _ h => hFc q.1 h)
        obtain ⟨hqA, hqB⟩ := hq
        refine lv_icmp_ge (tgt := 53) hx hb dL_rakes_24 (by decide) (fun c11 => ?_) (fun c11 => ?_)
        · have hq := hqA c11
          refine lv_iload_n hx hb dL_rakes_53 rfl (lv_at hl 2 rfl) ?_
          obtain ⟨hqA, hqB⟩ := hq
          refine lv_if_ne (tgt := 59) hx hb dL_rakes_54 (by decide) (fun c8 => ?_) (fun c8 => ?_)
          · have hq := hqB c8
            refine lv_aload_n hx hb dL_rakes_59 rfl (lv_at hl 0 rfl) ?_
            refine lv_iconst (v := 4) hx hb dL_rakes_60 (by decide) ?_
            have hFc := xfree_same hS hAe0 (ws := (wX6 cy a z21_v)) hD
            refine va_calli (va_runV (As := [.int 4]) (rest := []) ⟨hx, hb, hml, hown, hts⟩ (co_X6_count l dC dI cy a _ z21_v 4 _ hq) (cwV 1 hts gL_rakes_X6_count rfl rfl rfl (by decide +kernel) ⟨Nat.le_of_ble_eq_true rfl, Nat.le_of_ble_eq_true rfl⟩) ⟨xPre_blindE, va_recv hK hP (ci := 6) (q0 := 0) rfl rfl, xPre_ofE hP hK hD hE hS hFc⟩ rfl rfl hl.1 rfl (lv_room (Nat.le_of_ble_eq_true rfl)) dL_rakes_61 ⟨Nat.le_of_ble_eq_true rfl, Nat.le_of_ble_eq_true rfl⟩) hS (fun q _ h => hFc q h) hFc (fun r61 z61_v t H locs ht hvm hq hB hz1 hk1 hS => ?_)
            obtain ⟨hP1, -, hD1⟩ := hB
            rw [ht] at hP1
            have hP : va_P (dC, dI) vwCl (wX6 cy a z61_v) H := hP1
            have hD : va_D A (wX6 cy a z61_v) := hD1.weaken (fun _ q _ h => hFc q.1 h)
            refine lv_istore_n (lv' := [(3, .int r61), (0, .ref (a 0)), (1, .int x1), (2, .int y18_2)]) hx hb dL_rakes_64 rfl hl (by decide) rfl (fun ls hl => ?_)
            refine lv_aload_n hx hb dL_rakes_65 rfl (lv_at hl 1 rfl) ?_
            refine lv_iconst (v := 3) hx hb dL_rakes_66 (by decide) ?_
            have hFc := xfree_same hS hAe0 (ws := (wX6 cy a z61_v)) hD
            refine va_calli (va_runV (As := [.int 3]) (rest := []) ⟨hx, hb, hml, hown, hts⟩ (co_X6_count l dC dI cy a _ z61_v 3 _ hq) (cwV 1 hts gL_rakes_X6_count rfl rfl rfl (by decide +kernel) ⟨Nat.le_of_ble_eq_true rfl, Nat.le_of_ble_eq_true rfl⟩) ⟨xPre_blindE, va_recv hK hP (ci := 6) (q0 := 0) rfl rfl, xPre_ofE hP hK hD hE hS hFc⟩ rfl rfl hl.1 rfl (lv_room (Nat.le_of_ble_eq_true rfl)) dL_rakes_67 ⟨Nat.le_of_ble_eq_true rfl, Nat.le_of_ble_eq_true rfl⟩) hS (fun q _ h => hFc q h) hFc (fun r67 z67_v t H locs ht hvm hq hB hz1 hk1 hS => ?_)
            obtain ⟨hP1, -, hD1⟩ := hB
            rw [ht] at hP1
            have hP : va_P (dC, dI) vwCl (wX6 cy a z67_v) H := hP1
            have hD : va_D A (wX6 cy a z67_v) := hD1.weaken (fun _ q _ h => hFc q.1 h)
            refine lv_istore (lv' := [(4, .int r67), (3, .int r61), (0, .ref (a 0)), (1, .int x1), (2, .int y18_2)]) hx hb dL_rakes_70 hl (by decide) rfl (fun ls hl => ?_)
            refine lv_aload_n hx hb dL_rakes_72 rfl (lv_at hl 2 rfl) ?_
            refine lv_iload_n hx hb dL_rakes_73 rfl (lv_at hl 3 rfl) ?_
            refine lv_bipush (v := 7) hx hb dL_rakes_74 (by decide) ?_
            have hFc := xfree_same hS hAe0 (ws := (wX6 cy a z67_v)) hD
            refine va_calli (va_runV (As := [.int x1, .int 7]) (rest := []) ⟨hx, hb, hml, hown, hts⟩ (co_X6_tuft l dC dI cy a _ z67_v x1 7 _ hq) (cwV 2 hts gL_rakes_X6_tuft rfl rfl rfl (by decide +kernel) ⟨Nat.le_of_ble_eq_true rfl, Nat.le_of_ble_eq_true rfl⟩) ⟨xPre_blindE, va_recv hK hP (ci := 6) (q0 := 0) rfl rfl, xPre_ofE hP hK hD hE hS hFc⟩ rfl rfl hl.1 rfl (lv_room (Nat.le_of_ble_eq_true rfl)) dL_rakes_76 ⟨Nat.le_of_ble_eq_true rfl, Nat.le_of_ble_eq_true rfl⟩) hS (fun q _ h => hFc q h) hFc (fun r76 z76_v t H locs ht hvm hq hB hz1 hk1 hS => ?_)
            obtain ⟨hP1, -, hD1⟩ := hB
            rw [ht] at hP1
            have hP : va_P (dC, dI) vwCl (wX6 cy a z76_v) H := hP1
            have hD : va_D A (wX6 cy a z76_v) := hD1.weaken (fun _ q _ h => hFc q.1 h)
            refine lv_istore (lv' := [(5, .int r76), (4, .int r67), (3, .int r61), (0, .ref (a 0)), (1, .int x1), (2, .int y18_2)]) hx hb dL_rakes_79 hl (by decide) rfl (fun ls hl => ?_)
            refine lv_aload_n hx hb dL_rakes_81 rfl (lv_at hl 3 rfl) ?_
            refine lv_iload_n hx hb dL_rakes_82 rfl (lv_at hl 4 rfl) ?_
            have hFc := xfree_same hS hAe0 (ws := (wX6 cy a z76_v)) hD
            refine va_calli (va_runV (As := [.int x1]) (rest := []) ⟨hx, hb, hml, hown, hts⟩ (co_X6_rake l dC dI cy a _ z76_v x1 _ hq) (cwV 1 hts gL_rakes_X6_rake rfl rfl rfl (by decide +kernel) ⟨Nat.le_of_ble_eq_true rfl, Nat.le_of_ble_eq_true rfl⟩) ⟨xPre_blind, va_recv hK hP (ci := 6) (q0 := 0) rfl rfl, xPre_of hP hK hD⟩ rfl rfl hl.1 rfl (lv_room (Nat.le_of_ble_eq_true rfl)) dL_rakes_83 ⟨Nat.le_of_ble_eq_true rfl, Nat.le_of_ble_eq_true rfl⟩) hS (fun q _ h => hFc q h) hFc (fun r83 z83_v t H locs ht hvm hq hB hz1 hk1 hS => ?_)
            obtain ⟨hP1, -, hD1⟩ := hB
            rw [ht] at hP1
            have hP : va_P (dC, dI) vwCl (wX6 cy a z83_v) H := hP1
            have hD : va_D A (wX6 cy a z83_v) := hD1.weaken (fun _ q _ h => hFc q.1 h)
            refine lv_istore (lv' := [(6, .int r83), (5, .int r76), (4, .int r67), (3, .int r61), (0, .ref (a 0)), (1, .int x1), (2, .int y18_2)]) hx hb dL_rakes_86 hl (by decide) rfl (fun ls hl => ?_)
            refine lv_aload_n hx hb dL_rakes_88 rfl (lv_at hl 4 rfl) ?_
            refine lv_iconst (v := 3) hx hb dL_rakes_89 (by decide) ?_
            have hFc := xfree_same hS hAe0 (ws := (wX6 cy a z83_v)) hD
            refine va_calli (va_runV (As := [.int 3]) (rest := []) ⟨hx, hb, hml, hown, hts⟩ (co_X6_count l dC dI cy a _ z83_v 3 _ hq) (cwV 1 hts gL_rakes_X6_count rfl rfl rfl (by decide +kernel) ⟨Nat.le_of_ble_eq_true rfl, Nat.le_of_ble_eq_true rfl⟩) ⟨xPre_blindE, va_recv hK hP (ci := 6) (q0 := 0) rfl rfl, xPre_ofE hP hK hD hE hS hFc⟩ rfl rfl hl.1 rfl (lv_room (Nat.le_of_ble_eq_true rfl)) dL_rakes_90 ⟨Nat.le_of_ble_eq_true rfl, Nat.le_of_ble_eq_true rfl⟩) hS (fun q _ h => hFc q h) hFc (fun r90 z90_v t H locs ht hvm hq hB hz1 hk1 hS => ?_)
            obtain ⟨hP1, -, hD1⟩ := hB
            rw [ht] at hP1
            have hP : va_P (dC, dI) vwCl (wX6 cy a z90_v) H := hP1
            have hD : va_D A (wX6 cy a z90_v) := hD1.weaken (fun _ q _ h => hFc q.1 h)
            refine lv_iload hx hb dL_rakes_93 (lv_at hl 2 rfl) ?_
            refine lv_iconst (v := 1) hx hb dL_rakes_95 (by decide) ?_
            refine lv_isub hx hb dL_rakes_96 ?_
            obtain ⟨hqA, hqB⟩ := hq
            refine lv_icmp_ne (tgt := 155) hx hb dL_rakes_97 (by decide) (fun c7 => ?_) (fun c7 => ?_)
            · have hq := hqB c7
              refine lv_iconst (v := 0) hx hb dL_rakes_155 (by decide) ?_
              exact W.zret (v := 0) hx hb hr rfl (fun t ht hW => ⟨⟨0, z90_v, rfl, hq, (xAt_of hP hK hD ht hW)⟩, hS.F ht⟩) hS.2.2 dL_rakes_156
            · have hq := hqA c7
              refine lv_aload_n hx hb dL_rakes_100 rfl (lv_at hl 4 rfl) ?_
              refine lv_iconst (v := 4) hx hb dL_rakes_101 (by decide) ?_
              have hFc := xfree_same hS hAe0 (ws := (wX6 cy a z90_v)) hD
              refine va_calli (va_runV (As := [.int 4]) (rest := []) ⟨hx, hb, hml, hown, hts⟩ (co_X6_count l dC dI cy a _ z90_v 4 _ hq) (cwV 1 hts gL_rakes_X6_count rfl rfl rfl (by decide +kernel) ⟨Nat.le_of_ble_eq_true rfl, Nat.le_of_ble_eq_true rfl⟩) ⟨xPre_blindE, va_recv hK hP (ci := 6) (q0 := 0) rfl rfl, xPre_ofE hP hK hD hE hS hFc⟩ rfl rfl hl.1 rfl (lv_room (Nat.le_of_ble_eq_true rfl)) dL_rakes_102 ⟨Nat.le_of_ble_eq_true rfl, Nat.le_of_ble_eq_true rfl⟩) hS (fun q _ h => hFc q h) hFc (fun r102 z102_v t H locs ht hvm hq hB hz1 hk1 hS => ?_)
              obtain ⟨hP1, -, hD1⟩ := hB
              rw [ht] at hP1
              have hP : va_P (dC, dI) vwCl (wX6 cy a z102_v) H := hP1
              have hD : va_D A (wX6 cy a z102_v) := hD1.weaken (fun _ q _ h => hFc q.1 h)
              refine lv_iload_n hx hb dL_rakes_105 rfl (lv_at hl 3 rfl) ?_
              refine lv_iload hx hb dL_rakes_106 (lv_at hl 0 rfl) ?_
              refine lv_isub hx hb dL_rakes_108 ?_
              obtain ⟨hqA, hqB⟩ := hq
              refine lv_icmp_ne (tgt := 155) hx hb dL_rakes_109 (by decide) (fun c6 => ?_) (fun c6 => ?_)
              · have hq := hqB c6
                refine lv_iconst (v := 0) hx hb dL_rakes_155 (by decide) ?_
                exact W.zret (v := 0) hx hb hr rfl (fun t ht hW => ⟨⟨0, z102_v, rfl, hq, (xAt_of hP hK hD ht hW)⟩, hS.F ht⟩) hS.2.2 dL_rakes_156
              · have hq := hqA c6
                refine lv_iload hx hb dL_rakes_112 (lv_at hl 0 rfl) ?_
                refine lv_iload hx hb dL_rakes_114 (lv_at hl 1 rfl) ?_
                obtain ⟨hqA, hqB⟩ := hq
                refine lv_icmp_eq (tgt := 142) hx hb dL_rakes_116 (by decide) (fun c5 => ?_) (fun c5 => ?_)
                · have hq := hqA c5
                  exact J142 z102_v  _ _ _ hq hP hD hS (lv_sub hl [4, 5] rfl)
                · have hq := hqB c5
                  refine lv_iload hx hb dL_rakes_119 (lv_at hl 1 rfl) ?_
                  refine lv_iconst (v := 2) hx hb dL_rakes_121 (by decide) ?_
                  obtain ⟨hqA, hqB⟩ := hq
                  refine lv_icmp_ne (tgt := 155) hx hb dL_rakes_122 (by decide) (fun c4 => ?_) (fun c4 => ?_)
                  · have hq := hqB c4
                    refine lv_iconst (v := 0) hx hb dL_rakes_155 (by decide) ?_
                    exact W.zret (v := 0) hx hb hr rfl (fun t ht hW => ⟨⟨0, z102_v, rfl, hq, (xAt_of hP hK hD ht hW)⟩, hS.F ht⟩) hS.2.2 dL_rakes_156
                  · have hq := hqA c4
                    refine lv_iload hx hb dL_rakes_125 (lv_at hl 0 rfl) ?_
                    refine lv_iconst (v := 1) hx hb dL_rakes_127 (by decide) ?_
                    obtain ⟨hqA, hqB⟩ := hq
                    refine lv_icmp_ne (tgt := 155) hx hb dL_rakes_128 (by decide) (fun c3 => ?_) (fun c3 => ?_)
                    · have hq := hqB c3
                      refine lv_iconst (v := 0) hx hb dL_rakes_155 (by decide) ?_
                      exact W.zret (v := 0) hx hb hr rfl (fun t ht hW => ⟨⟨0, z102_v, rfl, hq, (xAt_of hP hK hD ht hW)⟩, hS.F ht⟩) hS.2.2 dL_rakes_156
                    · have hq := hqA c3
                      refine lv_aload_n hx hb dL_rakes_131 rfl (lv_at hl 4 rfl) ?_
                      refine lv_iload_n hx hb dL_rakes_132 rfl (lv_at hl 5 rfl) ?_
                      refine lv_bipush (v := 7) hx hb dL_rakes_133 (by decide) ?_
                      have hFc := xfree_same hS hAe0 (ws := (wX6 cy a z102_v)) hD
                      refine va_calli (va_runV (As := [.int x1, .int 7]) (rest := []) ⟨hx, hb, hml, hown, hts⟩ (co_X6_tuft l dC dI cy a _ z102_v x1 7 _ hq) (cwV 2 hts gL_rakes_X6_tuft rfl rfl rfl (by decide +kernel) ⟨Nat.le_of_ble_eq_true rfl, Nat.le_of_ble_eq_true rfl⟩) ⟨xPre_blindE, va_recv hK hP (ci := 6) (q0 := 0) rfl rfl, xPre_ofE hP hK hD hE hS hFc⟩ rfl rfl hl.1 rfl (lv_room (Nat.le_of_ble_eq_true rfl)) dL_rakes_135 ⟨Nat.le_of_ble_eq_true rfl, Nat.le_of_ble_eq_true rfl⟩) hS (fun q _ h => hFc q h) hFc (fun r135 z135_v t H locs ht hvm hq hB hz1 hk1 hS => ?_)
                      obtain ⟨hP1, -, hD1⟩ := hB
                      rw [ht] at hP1
                      have hP : va_P (dC, dI) vwCl (wX6 cy a z135_v) H := hP1
                      have hD : va_D A (wX6 cy a z135_v) := hD1.weaken (fun _ q _ h => hFc q.1 h)
                      refine lv_iconst (v := 1) hx hb dL_rakes_138 (by decide) ?_
                      obtain ⟨hqA, hqB⟩ := hq
                      refine lv_icmp_ne (tgt := 155) hx hb dL_rakes_139 (by decide) (fun c2 => ?_) (fun c2 => ?_)
                      · have hq := hqB c2
                        refine lv_iconst (v := 0) hx hb dL_rakes_155 (by decide) ?_
                        exact W.zret (v := 0) hx hb hr rfl (fun t ht hW => ⟨⟨0, z135_v, rfl, hq, (xAt_of hP hK hD ht hW)⟩, hS.F ht⟩) hS.2.2 dL_rakes_156
                      · have hq := hqA c2
                        exact J142 z135_v  _ _ _ hq hP hD hS (lv_sub hl [4, 5] rfl)
          · have hq := hqA c8
            refine lv_iconst (v := 1) hx hb dL_rakes_57 (by decide) ?_
            exact W.zret (v := 1) hx hb hr rfl (fun t ht hW => ⟨⟨1, z21_v, rfl, hq, (xAt_of hP hK hD ht hW)⟩, hS.F ht⟩) hS.2.2 dL_rakes_58
        · have hq := hqB c11
          refine lv_iload_n hx hb dL_rakes_27 rfl (lv_at hl 2 rfl) ?_
          obtain ⟨hqA, hqB⟩ := hq
          refine lv_if_eq (tgt := 45) hx hb dL_rakes_28 (by decide) (fun c10 => ?_) (fun c10 => ?_)
          · have hq := hqA c10
            refine lv_iconst (v := 0) hx hb dL_rakes_45 (by decide) ?_
            refine lv_istore_n (lv' := [(2, .int 0), (0, .ref (a 0)), (1, .int x1), (3, .int y18_3)]) hx hb dL_rakes_46 rfl hl (by decide) rfl (fun ls hl => ?_)
            refine lv_iinc (v := (y18_3 + 1)) (lv' := [(3, .int (y18_3 + 1)), (2, .int 0), (0, .ref (a 0)), (1, .int x1)]) hx hb dL_rakes_47 hl (k := 3) rfl rfl (by decide) rfl (fun ls hl => ?_)
            refine lv_goto (tgt := 18) hx hb dL_rakes_50 (by decide) ?_
            exact bk18 0 (y18_3 + 1) z21_v _ _ _ hq hP hD hS (lv_sub hl [2, 3, 1, 0] rfl)
          · have hq := hqB c10
            refine lv_aload_n hx hb dL_rakes_31 rfl (lv_at hl 0 rfl) ?_
            refine lv_iload_n hx hb dL_rakes_32 rfl (lv_at hl 3 rfl) ?_
            refine lv_iconst (v := 4) hx hb dL_rakes_33 (by decide) ?_
            have hFc := xfree_same hS hAe0 (ws := (wX6 cy a z21_v)) hD
            refine va_calli (va_runV (As := [.int y18_3, .int 4]) (rest := []) ⟨hx, hb, hml, hown, hts⟩ (co_X6_moleOf l dC dI cy a _ z21_v y18_3 4 _ hq) (cwV 2 hts gL_rakes_X6_moleOf rfl rfl rfl (by decide +kernel) ⟨Nat.le_of_ble_eq_true rfl, Nat.le_of_ble_eq_true rfl⟩) ⟨xPre_blind, va_recv hK hP (ci := 6) (q0 := 0) rfl rfl, xPre_of hP hK hD⟩ rfl rfl hl.1 rfl (lv_room (Nat.le_of_ble_eq_true rfl)) dL_rakes_34 ⟨Nat.le_of_ble_eq_true rfl, Nat.le_of_ble_eq_true rfl⟩) hS (fun q _ h => hFc q h) hFc (fun r34 u9 t H locs ht hvm hq hB hz1 hk1 hS => ?_)
            obtain ⟨hP1, -, hD1⟩ := hB
            rw [ht] at hP1
            have hP : va_P (dC, dI) vwCl (wX6 cy a z21_v) H := hP1
            have hD : va_D A (wX6 cy a z21_v) := hD1.weaken (fun _ q _ h => hFc q.1 h)
            refine lv_iload_n hx hb dL_rakes_37 rfl (lv_at hl 1 rfl) ?_
            obtain ⟨hqA, hqB⟩ := hq
            refine lv_icmp_eq (tgt := 45) hx hb dL_rakes_38 (by decide) (fun c9 => ?_) (fun c9 => ?_)
            · have hq := hqA c9
              refine lv_iconst (v := 0) hx hb dL_rakes_45 (by decide) ?_
              refine lv_istore_n (lv' := [(2, .int 0), (0, .ref (a 0)), (1, .int x1), (3, .int y18_3)]) hx hb dL_rakes_46 rfl hl (by decide) rfl (fun ls hl => ?_)
              refine lv_iinc (v := (y18_3 + 1)) (lv' := [(3, .int (y18_3 + 1)), (2, .int 0), (0, .ref (a 0)), (1, .int x1)]) hx hb dL_rakes_47 hl (k := 3) rfl rfl (by decide) rfl (fun ls hl => ?_)
              refine lv_goto (tgt := 18) hx hb dL_rakes_50 (by decide) ?_
              exact bk18 0 (y18_3 + 1) z21_v _ _ _ hq hP hD hS (lv_sub hl [2, 3, 1, 0] rfl)
            · have hq := hqB c9
              refine lv_iconst (v := 1) hx hb dL_rakes_41 (by decide) ?_
              refine lv_goto (tgt := 46) hx hb dL_rakes_42 (by decide) ?_
              refine lv_istore_n (lv' := [(2, .int 1), (0, .ref (a 0)), (1, .int x1), (3, .int y18_3)]) hx hb dL_rakes_46 rfl hl (by decide) rfl (fun ls hl => ?_)
              refine lv_iinc (v := (y18_3 + 1)) (lv' := [(3, .int (y18_3 + 1)), (2, .int 1), (0, .ref (a 0)), (1, .int x1)]) hx hb dL_rakes_47 hl (k := 3) rfl rfl (by decide) rfl (fun ls hl => ?_)
              refine lv_goto (tgt := 18) hx hb dL_rakes_50 (by decide) ?_
              exact bk18 1 (y18_3 + 1) z21_v _ _ _ hq hP hD hS (lv_sub hl [2, 3, 1, 0] rfl)
    exact key _ y18_2 y18_3 z18_v H locs ls h0 (Nat.lt_succ_self _) hP hD hS hl
  refine lv_aload_n hx hb dL_rakes_0 rfl (lv_at hl 0 rfl) ?_
  refine lv_iload_n hx hb dL_rakes_1 rfl (lv_at hl 1 rfl) ?_
  refine lv_iconst (v := 0) hx hb dL_rakes_2 (by decide) ?_
  have hFc := xfree_same hS hAe0 (ws := (wX6 cy a v)) hD
  refine va_calli (va_runV (As := [.int x1, .int 0]) (rest := []) ⟨hx, hb, hml, hown, hts⟩ (co_X6_tuft l dC dI cy a _ v x1 0 _ hq) (cwV 2 hts gL_rakes_X6_tuft rfl rfl rfl (by decide +kernel) ⟨Nat.le_of_ble_eq_true rfl, Nat.le_of_ble_eq_true rfl⟩) ⟨xPre_blindE, va_recv hK hP (ci := 6) (q0 := 0) rfl rfl, xPre_ofE hP hK hD hE hS hFc⟩ rfl rfl hl.1 rfl (lv_room (Nat.le_of_ble_eq_true rfl)) dL_rakes_3 ⟨Nat.le_of_ble_eq_true rfl, Nat.le_of_ble_eq_true rfl⟩) hS (fun q _ h => hFc q h) hFc (fun r3 z3_v t H locs ht hvm hq hB hz1 hk1 hS => ?_)
  obtain ⟨hP1, -, hD1⟩ := hB
  rw [ht] at hP1
  have hP : va_P (dC, dI) vwCl (wX6 cy a z3_v) H := hP1
  have hD : va_D A (wX6 cy a z3_v) := hD1.weaken (fun _ q _ h => hFc q.1 h)
  refine lv_iconst (v := 1) hx hb dL_rakes_6 (by decide) ?_
  obtain ⟨hqA, hqB⟩ := hq
  refine lv_icmp_ne (tgt := 14) hx hb dL_rakes_7 (by decide) (fun c12 => ?_) (fun c12 => ?_)
  · have hq := hqB c12
    refine lv_iconst (v := 0) hx hb dL_rakes_14 (by decide) ?_
    refine lv_istore_n (lv' := [(2, .int 0), (0, .ref (a 0)), (1, .int x1)]) hx hb dL_rakes_15 rfl hl (by decide) rfl (fun ls hl => ?_)
    refine lv_iconst (v := 0) hx hb dL_rakes_16 (by decide) ?_
    refine lv_istore_n (lv' := [(3, .int 0), (2, .int 0), (0, .ref (a 0)), (1, .int x1)]) hx hb dL_rakes_17 rfl hl (by decide) rfl (fun ls hl => ?_)
    exact J18  0 0 z3_v _ _ _ hq hP hD hS (lv_sub hl [2, 3, 1, 0] rfl)
  · have hq := hqA c12
    refine lv_iconst (v := 1) hx hb dL_rakes_10 (by decide) ?_
    refine lv_goto (tgt := 15) hx hb dL_rakes_11 (by decide) ?_
    refine lv_istore_n (lv' := [(2, .int 1), (0, .ref (a 0)), (1, .int x1)]) hx hb dL_rakes_15 rfl hl (by decide) rfl (fun ls hl => ?_)
    refine lv_iconst (v := 0) hx hb dL_rakes_16 (by decide) ?_
    refine lv_istore_n (lv' := [(3, .int 0), (2, .int 1), (0, .ref (a 0)), (1, .int x1)]) hx hb dL_rakes_17 rfl hl (by decide) rfl (fun ls hl => ?_)
    exact J18  1 0 z3_v _ _ _ hq hP hD hS (lv_sub hl [2, 3, 1, 0] rfl)
