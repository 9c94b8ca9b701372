def wp_L_tries_278 (v : V_X6) (x1 : Int32) (y278_7 : Int32) (y278_10 : Int32) (z278_v : V_X6) (k278_0 : Int32) (Q : Int32 → V_X6 → Prop) : Prop :=
  ((k278_0 = 0 → Q 0 z278_v) ∧
  (¬ k278_0 = 0 → wo_X6_keep z278_v (fun r286 z286_v =>
  ((r286 = y278_7 → wo_X6_dig z286_v y278_10 (fun r297 z297_v =>
  ((r297 < 0 → Q 0 z297_v) ∧
  (¬ r297 < 0 → wo_X6_restore z297_v (fun r304 z304_v =>
  ((r304 = y278_7 → wo_X6_undo z304_v (fun r313 z313_v =>
  ((r313 < 0 → Q 0 z313_v) ∧
  (¬ r313 < 0 → wo_X6_undo z313_v (fun r320 z320_v =>
  ((r320 < 0 → Q 0 z320_v) ∧
  (¬ r320 < 0 → wo_X6_count z320_v 4 (fun r328 z328_v =>
  ((r328 = y278_7 → Q 1 z328_v) ∧
  (¬ r328 = y278_7 → Q 0 z328_v)))))))))) ∧
  (¬ r304 = y278_7 → Q 0 z304_v))))))) ∧
  (¬ r286 = y278_7 → Q 0 z286_v)))))
def wp_L_tries_277 (v : V_X6) (x1 : Int32) (y277_7 : Int32) (y277_10 : Int32) (z277_v : V_X6) (Q : Int32 → V_X6 → Prop) : Prop :=
  wp_L_tries_278 v x1 y277_7 y277_10 z277_v 0  Q
def wp_L_tries_270 (v : V_X6) (x1 : Int32) (y270_7 : Int32) (y270_10 : Int32) (z270_v : V_X6) (k270_0 : Int32) (k270_1 : Int32) (Q : Int32 → V_X6 → Prop) : Prop :=
  ((k270_1 = k270_0 → wp_L_tries_278 v x1 y270_7 y270_10 z270_v 1  Q) ∧
  (¬ k270_1 = k270_0 → wp_L_tries_277 v x1 y270_7 y270_10 z270_v  Q))
def wp_L_tries_200 (v : V_X6) (x1 : Int32) (y200_7 : Int32) (y200_8 : Int32) (z200_v : V_X6) (Q : Int32 → V_X6 → Prop) : Prop :=
  wp_L_low (x1 >>> (4 &&& 31)) 64 (fun r205 =>
  wp_L_low (x1 >>> (10 &&& 31)) 64 (fun r216 =>
  ((y200_8 = 0 → wp_L_tries_277 v x1 y200_7 r205 z200_v  Q) ∧
  (¬ y200_8 = 0 → wo_X6_fewest z200_v r205 r216 (fun r231 z231_v =>
  wo_X6_fewest z231_v r216 r205 (fun r239 z239_v =>
  ((r231 = r239 → wo_X6_joined z239_v r205 r216 (fun r250 z250_v =>
  wo_X6_fewest z250_v r205 r216 (fun r258 z258_v =>
  ((r258 = (-1) → wp_L_tries_270 v x1 y200_7 r205 z258_v 0 r250  Q) ∧
  (¬ r258 = (-1) → wp_L_tries_270 v x1 y200_7 r205 z258_v 1 r250  Q))))) ∧
  (¬ r231 = r239 → wp_L_tries_277 v x1 y200_7 r205 z239_v  Q))))))))
def wp_L_tries_198 (v : V_X6) (x1 : Int32) (y198_7 : Int32) (z198_v : V_X6) (k198_0 : Int32) (Q : Int32 → V_X6 → Prop) : Prop :=
  wp_L_tries_200 v x1 y198_7 k198_0 z198_v  Q
def wp_L_tries_197 (v : V_X6) (x1 : Int32) (y197_7 : Int32) (z197_v : V_X6) (Q : Int32 → V_X6 → Prop) : Prop :=
  wp_L_tries_198 v x1 y197_7 z197_v 0  Q
def wp_L_tries_159 (v : V_X6) (x1 : Int32) (y159_7 : Int32) (y159_8 : Int32) (y159_9 : Int32) (z159_v : V_X6) (Q : Int32 → V_X6 → Prop) : Prop :=
  ((y159_8 = 0 → wp_L_tries_200 v x1 y159_7 y159_8 z159_v  Q) ∧
  (¬ y159_8 = 0 → ((y159_9 < 1 → wp_L_tries_200 v x1 y159_7 y159_8 z159_v  Q) ∧
  (¬ y159_9 < 1 → ((30 < y159_9 → wp_L_tries_200 v x1 y159_7 y159_8 z159_v  Q) ∧
  (¬ 30 < y159_9 → wo_X6_pass z159_v y159_9 (fun r180 z180_v =>
  ((r180 ≤ 0 → wp_L_tries_197 v x1 y159_7 z180_v  Q) ∧
  (¬ r180 ≤ 0 → wo_X6_undo z180_v (fun r187 z187_v =>
  ((r187 < 0 → wp_L_tries_197 v x1 y159_7 z187_v  Q) ∧
  (¬ r187 < 0 → wp_L_tries_198 v x1 y159_7 z187_v 1  Q))))))))))))
def wp_L_tries_157 (v : V_X6) (x1 : Int32) (y157_7 : Int32) (y157_9 : Int32) (z157_v : V_X6) (k157_0 : Int32) (Q : Int32 → V_X6 → Prop) : Prop :=
  wp_L_tries_159 v x1 y157_7 k157_0 y157_9 z157_v  Q
def wp_L_tries_156 (v : V_X6) (x1 : Int32) (y156_7 : Int32) (y156_9 : Int32) (z156_v : V_X6) (Q : Int32 → V_X6 → Prop) : Prop :=
  wp_L_tries_157 v x1 y156_7 y156_9 z156_v 0  Q
def wp_L_tries_100 (v : V_X6) (x1 : Int32) (y100_7 : Int32) (z100_v : V_X6) (k100_0 : Int32) (Q : Int32 → V_X6 → Prop) : Prop :=
  wo_X6_nextMound z100_v (fun r103 z103_v =>
  ((k100_0 = 0 → wp_L_tries_159 v x1 y100_7 k100_0 r103 z103_v  Q) ∧
  (¬ k100_0 = 0 → ((r103 ≤ 1 → wp_L_tries_159 v x1 y100_7 k100_0 r103 z103_v  Q) ∧
  (¬ r103 ≤ 1 → ((31 < r103 → wp_L_tries_159 v x1 y100_7 k100_0 r103 z103_v  Q) ∧
  (¬ 31 < r103 → wo_X6_pass z103_v (r103 - 1) (fun r131 z131_v =>
  ((r131 = 0 → wo_X6_nextMound z131_v (fun r138 z138_v =>
  ((r138 = 1 → wo_X6_undo z138_v (fun r146 z146_v =>
  ((r146 < 0 → wp_L_tries_156 v x1 y100_7 r103 z146_v  Q) ∧
  (¬ r146 < 0 → wp_L_tries_157 v x1 y100_7 r103 z146_v 1  Q)))) ∧
  (¬ r138 = 1 → wp_L_tries_156 v x1 y100_7 r103 z138_v  Q)))) ∧
  (¬ r131 = 0 → wp_L_tries_156 v x1 y100_7 r103 z131_v  Q))))))))))
def wp_L_tries_99 (v : V_X6) (x1 : Int32) (y99_7 : Int32) (z99_v : V_X6) (Q : Int32 → V_X6 → Prop) : Prop :=
  wp_L_tries_100 v x1 y99_7 z99_v 0  Q
def wp_L_tries (v : V_X6) (x1 : Int32) (Q : Int32 → V_X6 → Prop) : Prop :=
  wp_L_low x1 12 (fun r4 =>
  wo_X6_ifPassed v (1 + r4) 0 (fun r12 z12_v =>
  wo_X6_ifPassed z12_v (1 + r4) 1 (fun r19 z19_v =>
  wo_X6_ifPassed z19_v (1 + r4) 2 (fun r27 z27_v =>
  wo_X6_count z27_v 1 (fun r34 z34_v =>
  wo_X6_count z34_v 4 (fun r41 z41_v =>
  wo_X6_pass z41_v (1 + r4) (fun r48 z48_v =>
  ((r48 = r12 → wo_X6_count z48_v 4 (fun r57 z57_v =>
  ((r57 = r19 → wo_X6_count z57_v 1 (fun r67 z67_v =>
  ((r67 = (r34 - r27) → wo_X6_undo z67_v (fun r79 z79_v =>
  ((r79 < 0 → wp_L_tries_99 v x1 r41 z79_v  Q) ∧
  (¬ r79 < 0 → wo_X6_count z79_v 4 (fun r87 z87_v =>
  ((r87 = r41 → wp_L_tries_100 v x1 r41 z87_v 1  Q) ∧
  (¬ r87 = r41 → wp_L_tries_99 v x1 r41 z87_v  Q))))))) ∧
  (¬ r67 = (r34 - r27) → wp_L_tries_99 v x1 r41 z67_v  Q)))) ∧
  (¬ r57 = r19 → wp_L_tries_99 v x1 r41 z57_v  Q)))) ∧
  (¬ r48 = r12 → wp_L_tries_99 v x1 r41 z48_v  Q)))))))))
def q_L_tries (dC : Nat → ClassId) (dI : Nat → Nat → Nat) (cy : Nat → ClassId) (a : Nat → Nat) (v : V_X6) (x1 : Int32) (Q : Int32 → V_X6 → Prop) (A : Nat → Prop) : Array Value → State → Outcome → State → Prop := va_Qi (fun (r : Int32) (u : V_X6) => Q r u) (fun (u : V_X6) t => xAt dC dI cy A (wX6 cy a u) t) A
set_option maxHeartbeats 4000000 in
set_option maxRecDepth 100000 in
theorem c_L_tries (l : Launch) (dC : Nat → ClassId) (dI : Nat → Nat → Nat) (cy : Nat → ClassId) (a : Nat → Nat) (sz : Nat) (v : V_X6) (x1 : Int32) (Q : Int32 → V_X6 → Prop) (hq : wp_L_tries v x1 Q) : Met l yL_tries wsL_tries ({ frames := 8, cells := 0, slots := 0, locals := 187 } : Room) (va_Pc [.ref (a 0), .int x1] (xPreE dC dI cy (wX6 cy a v) sz)) (q_L_tries dC dI cy a v x1 Q (va_A (wX6 cy a v) sz)) 0 0 (va_A (wX6 cy a v) sz) := by
  refine Met.ofW (cc := cL_tries) (maxL := 12) (ret := (some .boolean)) (by decide) rfl ?_
  intro p e s m args below meth c s₁ B hml hv
  obtain ⟨rfl, hsz, hP, hK, hD0, hE⟩ := hv
  have hx := B.exec
  have hb := B.bytes
  have hr := B.returns
  have hts := atoms_spec (ws := wsL_tries) B.pre
  have hown : s.vm.findClass RL = some m.cls := findClass_of_methodNamed B.named
  have hlocks := B.notSynchronized
  subst hsz
  have hD := hD0.self (sz := s.heap.size)
  generalize hAe : va_A (wX6 cy a v) s.heap.size = A at hD hE ⊢
  have hAe0 : ∀ q : Nat, s.heap.size ≤ q → A q := fun q h => by rw [← hAe]; exact Or.inr h
  have hS : va_S A s.heap s.heap [] := va_S.rf
  have hl := lv_entry ([.ref (a 0), .int x1]) (n := 12) (Nat.le_of_ble_eq_true rfl)
  rw [lg_entry_eq]
  generalize (lg_sl ([.ref (a 0), .int x1]) ++ List.replicate (12 - (lg_sl ([.ref (a 0), .int x1])).length) Slot.unset).toArray = ls at hl ⊢
  have hl : lv_has ls 12 [(0, .ref (a 0)), (1, .int x1)] := hl
  unfold wp_L_tries at hq
  have J278 : ∀ (y278_7 : Int32) (y278_10 : Int32) (z278_v : V_X6) (k278_0 : Int32) (H : Heap) (locs : List Loc) (ls : Array Slot), wp_L_tries_278 v x1 y278_7 y278_10 z278_v k278_0 Q → va_P (dC, dI) vwCl (wX6 cy a z278_v) H → va_D A (wX6 cy a z278_v) → va_S A s.heap H locs → lv_has ls 12 [(0, .ref (a 0)), (7, .int y278_7), (10, .int y278_10)] → W p l e (headSpec wsL_tries ({ frames := 8, cells := 0, slots := 0, locals := 187 } : Room)).room s m ([.ref (a 0), .int x1] : List Value).toArray below meth c H locs 0 0 (MQ below (q_L_tries dC dI cy a v x1 Q A) ([.ref (a 0), .int x1] : List Value).toArray s 0 0 A) (F0 m 278 ls [.int k278_0]) := by
    intro y278_7 y278_10 z278_v k278_0 H locs ls hq hP hD hS hl
    unfold wp_L_tries_278 at hq
    refine lv_istore (lv' := [(8, .int k278_0), (0, .ref (a 0)), (7, .int y278_7), (10, .int y278_10)]) hx hb dL_tries_278 hl (by decide) rfl (fun ls hl => ?_)
    refine lv_iload hx hb dL_tries_280 (lv_at hl 0 rfl) ?_
    obtain ⟨hqA, hqB⟩ := hq
    refine lv_if_eq (tgt := 340) hx hb dL_tries_282 (by decide) (fun c7 => ?_) (fun c7 => ?_)
    · have hq := hqA c7
      refine lv_iconst (v := 0) hx hb dL_tries_340 (by decide) ?_
      exact W.zret (v := 0) hx hb hr rfl (fun t ht hW => ⟨⟨0, z278_v, rfl, hq, (xAt_of hP hK hD ht hW)⟩, hS.F ht⟩) hS.2.2 dL_tries_341
    · have hq := hqB c7
      refine lv_aload_n hx hb dL_tries_285 rfl (lv_at hl 1 rfl) ?_
      have hFc := xfree_same hS hAe0 (ws := (wX6 cy a z278_v)) hD
      refine va_calli (va_runV (As := []) (rest := []) ⟨hx, hb, hml, hown, hts⟩ (co_X6_keep l dC dI cy a _ z278_v _ hq) (cwV 0 hts gL_tries_X6_keep rfl rfl rfl (by decide +kernel) ⟨Nat.le_of_ble_eq_true rfl, Nat.le_of_ble_eq_true rfl⟩) ⟨xPre_blind, va_recv hK hP (ci := 6) (q0 := 0) rfl rfl, xPre_of hP hK hD⟩ rfl rfl hl.1 rfl (lv_room (Nat.le_of_ble_eq_true rfl)) dL_tries_286 ⟨Nat.le_of_ble_eq_true rfl, Nat.le_of_ble_eq_true rfl⟩) hS (fun q _ h => hFc q h) hFc (fun r286 z286_v t H locs ht hvm hq hB hz1 hk1 hS => ?_)
      obtain ⟨hP1, -, hD1⟩ := hB
      rw [ht] at hP1
      have hP : va_P (dC, dI) vwCl (wX6 cy a z286_v) H := hP1
      have hD : va_D A (wX6 cy a z286_v) := hD1.weaken (fun _ q _ h => hFc q.1 h)
      refine lv_iload hx hb dL_tries_289 (lv_at hl 2 rfl) ?_
      obtain ⟨hqA, hqB⟩ := hq
      refine lv_icmp_ne (tgt := 340) hx hb dL_tries_291 (by decide) (fun c6 => ?_) (fun c6 => ?_)
      · have hq := hqB c6
        refine lv_iconst (v := 0) hx hb dL_tries_340 (by decide) ?_
        exact W.zret (v := 0) hx hb hr rfl (fun t ht hW => ⟨⟨0, z286_v, rfl, hq, (xAt_of hP hK hD ht hW)⟩, hS.F ht⟩) hS.2.2 dL_tries_341
      · have hq := hqA c6
        refine lv_aload_n hx hb dL_tries_294 rfl (lv_at hl 1 rfl) ?_
        refine lv_iload hx hb dL_tries_295 (lv_at hl 3 rfl) ?_
        have hFc := xfree_same hS hAe0 (ws := (wX6 cy a z286_v)) hD
        refine va_calli (va_runV (As := [.int y278_10]) (rest := []) ⟨hx, hb, hml, hown, hts⟩ (co_X6_dig l dC dI cy a _ z286_v y278_10 _ hq) (cwV 1 hts gL_tries_X6_dig rfl rfl rfl (by decide +kernel) ⟨Nat.le_of_ble_eq_true rfl, Nat.le_of_ble_eq_true rfl⟩) ⟨xPre_blind, va_recv hK hP (ci := 6) (q0 := 0) rfl rfl, xPre_of hP hK hD⟩ rfl rfl hl.1 rfl (lv_room (Nat.le_of_ble_eq_true rfl)) dL_tries_297 ⟨Nat.le_of_ble_eq_true rfl, Nat.le_of_ble_eq_true rfl⟩) hS (fun q _ h => hFc q h) hFc (fun r297 z297_v t H locs ht hvm hq hB hz1 hk1 hS => ?_)
        obtain ⟨hP1, -, hD1⟩ := hB
        rw [ht] at hP1
        have hP : va_P (dC, dI) vwCl (wX6 cy a z297_v) H := hP1
        have hD : va_D A (wX6 cy a z297_v) := hD1.weaken (fun _ q _ h => hFc q.1 h)
        obtain ⟨hqA, hqB⟩ := hq
        refine lv_if_lt (tgt := 340) hx hb dL_tries_300 (by decide) (fun c5 => ?_) (fun c5 => ?_)
        · have hq := hqA c5
          refine lv_iconst (v := 0) hx hb dL_tries_340 (by decide) ?_
          exact W.zret (v := 0) hx hb hr rfl (fun t ht hW => ⟨⟨0, z297_v, rfl, hq, (xAt_of hP hK hD ht hW)⟩, hS.F ht⟩) hS.2.2 dL_tries_341
        · have hq := hqB c5
          refine lv_aload_n hx hb dL_tries_303 rfl (lv_at hl 1 rfl) ?_
          have hFc := xfree_same hS hAe0 (ws := (wX6 cy a z297_v)) hD
          refine va_calli (va_runV (As := []) (rest := []) ⟨hx, hb, hml, hown, hts⟩ (co_X6_restore l dC dI cy a _ z297_v _ hq) (cwV 0 hts gL_tries_X6_restore rfl rfl rfl (by decide +kernel) ⟨Nat.le_of_ble_eq_true rfl, Nat.le_of_ble_eq_true rfl⟩) ⟨xPre_blind, va_recv hK hP (ci := 6) (q0 := 0) rfl rfl, xPre_of hP hK hD⟩ rfl rfl hl.1 rfl (lv_room (Nat.le_of_ble_eq_true rfl)) dL_tries_304 ⟨Nat.le_of_ble_eq_true rfl, Nat.le_of_ble_eq_true rfl⟩) hS (fun q _ h => hFc q h) hFc (fun r304 z304_v t H locs ht hvm hq hB hz1 hk1 hS => ?_)
          obtain ⟨hP1, -, hD1⟩ := hB
          rw [ht] at hP1
          have hP : va_P (dC, dI) vwCl (wX6 cy a z304_v) H := hP1
          have hD : va_D A (wX6 cy a z304_v) := hD1.weaken (fun _ q _ h => hFc q.1 h)
          refine lv_iload hx hb dL_tries_307 (lv_at hl 2 rfl) ?_
          obtain ⟨hqA, hqB⟩ := hq
          refine lv_icmp_ne (tgt := 340) hx hb dL_tries_309 (by decide) (fun c4 => ?_) (fun c4 => ?_)
          · have hq := hqB c4
            refine lv_iconst (v := 0) hx hb dL_tries_340 (by decide) ?_
            exact W.zret (v := 0) hx hb hr rfl (fun t ht hW => ⟨⟨0, z304_v, rfl, hq, (xAt_of hP hK hD ht hW)⟩, hS.F ht⟩) hS.2.2 dL_tries_341
          · have hq := hqA c4
            refine lv_aload_n hx hb dL_tries_312 rfl (lv_at hl 1 rfl) ?_
            have hFc := xfree_same hS hAe0 (ws := (wX6 cy a z304_v)) hD
            refine va_calli (va_runV (As := []) (rest := []) ⟨hx, hb, hml, hown, hts⟩ (co_X6_undo l dC dI cy a _ z304_v _ hq) (cwV 0 hts gL_tries_X6_undo rfl rfl rfl (by decide +kernel) ⟨Nat.le_of_ble_eq_true rfl, Nat.le_of_ble_eq_true rfl⟩) ⟨xPre_blind, va_recv hK hP (ci := 6) (q0 := 0) rfl rfl, xPre_of hP hK hD⟩ rfl rfl hl.1 rfl (lv_room (Nat.le_of_ble_eq_true rfl)) dL_tries_313 ⟨Nat.le_of_ble_eq_true rfl, Nat.le_of_ble_eq_true rfl⟩) hS (fun q _ h => hFc q h) hFc (fun r313 z313_v t H locs ht hvm hq hB hz1 hk1 hS => ?_)
            obtain ⟨hP1, -, hD1⟩ := hB
            rw [ht] at hP1
            have hP : va_P (dC, dI) vwCl (wX6 cy a z313_v) H := hP1
            have hD : va_D A (wX6 cy a z313_v) := hD1.weaken (fun _ q _ h => hFc q.1 h)
            obtain ⟨hqA, hqB⟩ := hq
            refine lv_if_lt (tgt := 340) hx hb dL_tries_316 (by decide) (fun c3 => ?_) (fun c3 => ?_)
            · have hq := hqA c3
              refine lv_iconst (v := 0) hx hb dL_tries_340 (by decide) ?_
              exact W.zret (v := 0) hx hb hr rfl (fun t ht hW => ⟨⟨0, z313_v, rfl, hq, (xAt_of hP hK hD ht hW)⟩, hS.F ht⟩) hS.2.2 dL_tries_341
            · have hq := hqB c3
              refine lv_aload_n hx hb dL_tries_319 rfl (lv_at hl 1 rfl) ?_
              have hFc := xfree_same hS hAe0 (ws := (wX6 cy a z313_v)) hD
              refine va_calli (va_runV (As := []) (rest := []) ⟨hx, hb, hml, hown, hts⟩ (co_X6_undo l dC dI cy a _ z313_v _ hq) (cwV 0 hts gL_tries_X6_undo rfl rfl rfl (by decide +kernel) ⟨Nat.le_of_ble_eq_true rfl, Nat.le_of_ble_eq_true rfl⟩) ⟨xPre_blind, va_recv hK hP (ci := 6) (q0 := 0) rfl rfl, xPre_of hP hK hD⟩ rfl rfl hl.1 rfl (lv_room (Nat.le_of_ble_eq_true rfl)) dL_tries_320 ⟨Nat.le_of_ble_eq_true rfl, Nat.le_of_ble_eq_true rfl⟩) hS (fun q _ h => hFc q h) hFc (fun r320 z320_v t H locs ht hvm hq hB hz1 hk1 hS => ?_)
              obtain ⟨hP1, -, hD1⟩ := hB
              rw [ht] at hP1
              have hP : va_P (dC, dI) vwCl (wX6 cy a z320_v) H := hP1
              have hD : va_D A (wX6 cy a z320_v) := hD1.weaken (fun _ q _ h => hFc q.1 h)
              obtain ⟨hqA, hqB⟩ := hq
              refine lv_if_lt (tgt := 340) hx hb dL_tries_323 (by decide) (fun c2 => ?_) (fun c2 => ?_)
              · have hq := hqA c2
                refine lv_iconst (v := 0) hx hb dL_tries_340 (by decide) ?_
                exact W.zret (v := 0) hx hb hr rfl (fun t ht hW => ⟨⟨0, z320_v, rfl, hq, (xAt_of hP hK hD ht hW)⟩, hS.F ht⟩) hS.2.2 dL_tries_341
              · have hq := hqB c2
                refine lv_aload_n hx hb dL_tries_326 rfl (lv_at hl 1 rfl) ?_
                refine lv_iconst (v := 4) hx hb dL_tries_327 (by decide) ?_
                have hFc := xfree_same hS hAe0 (ws := (wX6 cy a z320_v)) hD
                refine va_calli (va_runV (As := [.int 4]) (rest := []) ⟨hx, hb, hml, hown, hts⟩ (co_X6_count l dC dI cy a _ z320_v 4 _ hq) (cwV 1 hts gL_tries_X6_count rfl rfl rfl (by decide +kernel) ⟨Nat.le_of_ble_eq_true rfl, Nat.le_of_ble_eq_true rfl⟩) ⟨xPre_blindE, va_recv hK hP (ci := 6) (q0 := 0) rfl rfl, xPre_ofE hP hK hD hE hS hFc⟩ rfl rfl hl.1 rfl (lv_room (Nat.le_of_ble_eq_true rfl)) dL_tries_328 ⟨Nat.le_of_ble_eq_true rfl, Nat.le_of_ble_eq_true rfl⟩) hS (fun q _ h => hFc q h) hFc (fun r328 z328_v t H locs ht hvm hq hB hz1 hk1 hS => ?_)
                obtain ⟨hP1, -, hD1⟩ := hB
                rw [ht] at hP1
                have hP : va_P (dC, dI) vwCl (wX6 cy a z328_v) H := hP1
                have hD : va_D A (wX6 cy a z328_v) := hD1.weaken (fun _ q _ h => hFc q.1 h)
                refine lv_iload hx hb dL_tries_331 (lv_at hl 2 rfl) ?_
                obtain ⟨hqA, hqB⟩ := hq
                refine lv_icmp_ne (tgt := 340) hx hb dL_tries_333 (by decide) (fun c1 => ?_) (fun c1 => ?_)
                · have hq := hqB c1
                  refine lv_iconst (v := 0) hx hb dL_tries_340 (by decide) ?_
                  exact W.zret (v := 0) hx hb hr rfl (fun t ht hW => ⟨⟨0, z328_v, rfl, hq, (xAt_of hP hK hD ht hW)⟩, hS.F ht⟩) hS.2.2 dL_tries_341
                · have hq := hqA c1
                  refine lv_iconst (v := 1) hx hb dL_tries_336 (by decide) ?_
                  refine lv_goto (tgt := 341) hx hb dL_tries_337 (by decide) ?_
                  exact W.zret (v := 1) hx hb hr rfl (fun t ht hW => ⟨⟨1, z328_v, rfl, hq, (xAt_of hP hK hD ht hW)⟩, hS.F ht⟩) hS.2.2 dL_tries_341
  have J277 : ∀ (y277_7 : Int32) (y277_10 : Int32) (z277_v : V_X6) (H : Heap) (locs : List Loc) (ls : Array Slot), wp_L_tries_277 v x1 y277_7 y277_10 z277_v Q → va_P (dC, dI) vwCl (wX6 cy a z277_v) H → va_D A (wX6 cy a z277_v) → va_S A s.heap H locs → lv_has ls 12 [(0, .ref (a 0)), (7, .int y277_7), (10, .int y277_10)] → W p l e (headSpec wsL_tries ({ frames := 8, cells := 0, slots := 0, locals := 187 } : Room)).room s m ([.ref (a 0), .int x1] : List Value).toArray below meth c H locs 0 0 (MQ below (q_L_tries dC dI cy a v x1 Q A) ([.ref (a 0), .int x1] : List Value).toArray s 0 0 A) (F0 m 277 ls []) := by
    intro y277_7 y277_10 z277_v H locs ls hq hP hD hS hl
    unfold wp_L_tries_277 at hq
    refine lv_iconst (v := 0) hx hb dL_tries_277 (by decide) ?_
    exact J278 y277_7 y277_10 z277_v 0  _ _ _ hq hP hD hS (lv_sub hl [0, 1, 2] rfl)
  have J270 : ∀ (y270_7 : Int32) (y270_10 : Int32) (z270_v : V_X6) (k270_0 : Int32) (k270_1 : Int32) (H : Heap) (locs : List Loc) (ls : Array Slot), wp_L_tries_270 v x1 y270_7 y270_10 z270_v k270_0 k270_1 Q → va_P (dC, dI) vwCl (wX6 cy a z270_v) H → va_D A (wX6 cy a z270_v) → va_S A s.heap H locs → lv_has ls 12 [(0, .ref (a 0)), (7, .int y270_7), (10, .int y270_10)] → W p l e (headSpec wsL_tries ({ frames := 8, cells := 0, slots := 0, locals := 187 } : Room)).room s m ([.ref (a 0), .int x1] : List Value).toArray below meth c H locs 0 0 (MQ below (q_L_tries dC dI cy a v x1 Q A) ([.ref (a 0), .int x1] : List Value).toArray s 0 0 A) (F0 m 270 ls [.int k270_0, .int k270_1]) := by
    intro y270_7 y270_10 z270_v k270_0 k270_1 H locs ls hq hP hD hS hl
    unfold wp_L_tries_270 at hq
    obtain ⟨hqA, hqB⟩ := hq
    refine lv_icmp_ne (tgt := 277) hx hb dL_tries_270 (by decide) (fun c8 => ?_) (fun c8 => ?_)
    · have hq := hqB c8
      exact J277 y270_7 y270_10 z270_v  _ _ _ hq hP hD hS (lv_sub hl [0, 1, 2] rfl)
    · have hq := hqA c8
      refine lv_iconst (v := 1) hx hb dL_tries_273 (by decide) ?_
      refine lv_goto (tgt := 278) hx hb dL_tries_274 (by decide) ?_
      exact J278 y270_7 y270_10 z270_v 1  _ _ _ hq hP hD hS (lv_sub hl [0, 1, 2] rfl)
  have J200 : ∀ (y200_7 : Int32) (y200_8 : Int32) (z200_v : V_X6) (H : Heap) (locs : List Loc) (ls : Array Slot), wp_L_tries_200 v x1 y200_7 y200_8 z200_v Q → va_P (dC, dI) vwCl (wX6 cy a z200_v) H → va_D A (wX6 cy a z200_v) → va_S A s.heap H locs → lv_has ls 12 [(0, .ref (a 0)), (1, .int x1), (7, .int y200_7), (8, .int y200_8)] → W p l e (headSpec wsL_tries ({ frames := 8, cells := 0, slots := 0, locals := 187 } : Room)).room s m ([.ref (a 0), .int x1] : List Value).toArray below meth c H locs 0 0 (MQ below (q_L_tries dC dI cy a v x1 Q A) ([.ref (a 0), .int x1] : List Value).toArray s 0 0 A) (F0 m 200 ls []) := by
    intro y200_7 y200_8 z200_v H locs ls hq hP hD hS hl
    unfold wp_L_tries_200 at hq
    refine lv_iload_n hx hb dL_tries_200 rfl (lv_at hl 1 rfl) ?_
    refine lv_iconst (v := 4) hx hb dL_tries_201 (by decide) ?_
    refine lv_ishr hx hb dL_tries_202 ?_
    refine lv_bipush (v := 64) hx hb dL_tries_203 (by decide) ?_
    have hFc := xfree_none hS hAe0
    refine va_calli (va_runS (As := [.int (x1 >>> (4 &&& 31)), .int 64]) (rest := []) ⟨hx, hb, hml, hown, hts⟩ (c_L_low l dC dI cy  _ (x1 >>> (4 &&& 31)) 64 _ hq) (va_cwS 2 hts gL_tries_L_low rfl rfl rfl (by decide +kernel) ⟨Nat.le_of_ble_eq_true rfl, Nat.le_of_ble_eq_true rfl⟩) ⟨xPre_blind, xPre_of xP_nil hK (xD_nil (A := A))⟩ rfl rfl hl.1 rfl (lv_room (Nat.le_of_ble_eq_true rfl)) dL_tries_205 ⟨Nat.le_of_ble_eq_true rfl, Nat.le_of_ble_eq_true rfl⟩) hS (fun q _ h => hFc q h) hFc (fun r205 u9 t H locs ht hvm hq hB hz1 hk1 hS => ?_)
    have hP := xj_none hP hk1
    refine lv_istore (lv' := [(10, .int r205), (0, .ref (a 0)), (1, .int x1), (7, .int y200_7), (8, .int y200_8)]) hx hb dL_tries_208 hl (by decide) rfl (fun ls hl => ?_)
    refine lv_iload_n hx hb dL_tries_210 rfl (lv_at hl 2 rfl) ?_
    refine lv_bipush (v := 10) hx hb dL_tries_211 (by decide) ?_
    refine lv_ishr hx hb dL_tries_213 ?_
    refine lv_bipush (v := 64) hx hb dL_tries_214 (by decide) ?_
    have hFc := xfree_none hS hAe0
    refine va_calli (va_runS (As := [.int (x1 >>> (10 &&& 31)), .int 64]) (rest := []) ⟨hx, hb, hml, hown, hts⟩ (c_L_low l dC dI cy  _ (x1 >>> (10 &&& 31)) 64 _ hq) (va_cwS 2 hts gL_tries_L_low rfl rfl rfl (by decide +kernel) ⟨Nat.le_of_ble_eq_true rfl, Nat.le_of_ble_eq_true rfl⟩) ⟨xPre_blind, xPre_of xP_nil hK (xD_nil (A := A))⟩ rfl rfl hl.1 rfl (lv_room (Nat.le_of_ble_eq_true rfl)) dL_tries_216 ⟨Nat.le_of_ble_eq_true rfl, Nat.le_of_ble_eq_true rfl⟩) hS (fun q _ h => hFc q h) hFc (fun r216 u9 t H locs ht hvm hq hB hz1 hk1 hS => ?_)
    have hP := xj_none hP hk1
    refine lv_istore (lv' := [(11, .int r216), (10, .int r205), (0, .ref (a 0)), (1, .int x1), (7, .int y200_7), (8, .int y200_8)]) hx hb dL_tries_219 hl (by decide) rfl (fun ls hl => ?_)
    refine lv_iload hx hb dL_tries_221 (lv_at hl 5 rfl) ?_
    obtain ⟨hqA, hqB⟩ := hq
    refine lv_if_eq (tgt := 277) hx hb dL_tries_223 (by decide) (fun c11 => ?_) (fun c11 => ?_)
    · have hq := hqA c11
      exact J277 y200_7 r205 z200_v  _ _ _ hq hP hD hS (lv_sub hl [2, 4, 1] rfl)
    · have hq := hqB c11
      refine lv_aload_n hx hb dL_tries_226 rfl (lv_at hl 2 rfl) ?_
      refine lv_iload hx hb dL_tries_227 (lv_at hl 1 rfl) ?_
      refine lv_iload hx hb dL_tries_229 (lv_at hl 0 rfl) ?_
      have hFc := xfree_same hS hAe0 (ws := (wX6 cy a z200_v)) hD
      refine va_calli (va_runV (As := [.int r205, .int r216]) (rest := []) ⟨hx, hb, hml, hown, hts⟩ (co_X6_fewest l dC dI cy a _ z200_v r205 r216 _ hq) (cwV 2 hts gL_tries_X6_fewest rfl rfl rfl (by decide +kernel) ⟨Nat.le_of_ble_eq_true rfl, Nat.le_of_ble_eq_true rfl⟩) ⟨xPre_blind, va_recv hK hP (ci := 6) (q0 := 0) rfl rfl, xPre_of hP hK hD⟩ rfl rfl hl.1 rfl (lv_room (Nat.le_of_ble_eq_true rfl)) dL_tries_231 ⟨Nat.le_of_ble_eq_true rfl, Nat.le_of_ble_eq_true rfl⟩) hS (fun q _ h => hFc q h) hFc (fun r231 z231_v t H locs ht hvm hq hB hz1 hk1 hS => ?_)
      obtain ⟨hP1, -, hD1⟩ := hB
      rw [ht] at hP1
      have hP : va_P (dC, dI) vwCl (wX6 cy a z231_v) H := hP1
      have hD : va_D A (wX6 cy a z231_v) := hD1.weaken (fun _ q _ h => hFc q.1 h)
      refine lv_aload_n hx hb dL_tries_234 rfl (lv_at hl 2 rfl) ?_
      refine lv_iload hx hb dL_tries_235 (lv_at hl 0 rfl) ?_
      refine lv_iload hx hb dL_tries_237 (lv_at hl 1 rfl) ?_
      have hFc := xfree_same hS hAe0 (ws := (wX6 cy a z231_v)) hD
      refine va_calli (va_runV (As := [.int r216, .int r205]) (rest := [.int r231]) ⟨hx, hb, hml, hown, hts⟩ (co_X6_fewest l dC dI cy a _ z231_v r216 r205 _ hq) (cwV 2 hts gL_tries_X6_fewest rfl rfl rfl (by decide +kernel) ⟨Nat.le_of_ble_eq_true rfl, Nat.le_of_ble_eq_true rfl⟩) ⟨xPre_blind, va_recv hK hP (ci := 6) (q0 := 0) rfl rfl, xPre_of hP hK hD⟩ rfl rfl hl.1 rfl (lv_room (Nat.le_of_ble_eq_true rfl)) dL_tries_239 ⟨Nat.le_of_ble_eq_true rfl, Nat.le_of_ble_eq_true rfl⟩) hS (fun q _ h => hFc q h) hFc (fun r239 z239_v t H locs ht hvm hq hB hz1 hk1 hS => ?_)
      obtain ⟨hP1, -, hD1⟩ := hB
      rw [ht] at hP1
      have hP : va_P (dC, dI) vwCl (wX6 cy a z239_v) H := hP1
      have hD : va_D A (wX6 cy a z239_v) := hD1.weaken (fun _ q _ h => hFc q.1 h)
      obtain ⟨hqA, hqB⟩ := hq
      refine lv_icmp_ne (tgt := 277) hx hb dL_tries_242 (by decide) (fun c10 => ?_) (fun c10 => ?_)
      · have hq := hqB c10
        exact J277 y200_7 r205 z239_v  _ _ _ hq hP hD hS (lv_sub hl [2, 4, 1] rfl)
      · have hq := hqA c10
        refine lv_aload_n hx hb dL_tries_245 rfl (lv_at hl 2 rfl) ?_
        refine lv_iload hx hb dL_tries_246 (lv_at hl 1 rfl) ?_
        refine lv_iload hx hb dL_tries_248 (lv_at hl 0 rfl) ?_
        have hFc := xfree_same hS hAe0 (ws := (wX6 cy a z239_v)) hD
        refine va_calli (va_runV (As := [.int r205, .int r216]) (rest := []) ⟨hx, hb, hml, hown, hts⟩ (co_X6_joined l dC dI cy a _ z239_v r205 r216 _ hq) (cwV 2 hts gL_tries_X6_joined rfl rfl rfl (by decide +kernel) ⟨Nat.le_of_ble_eq_true rfl, Nat.le_of_ble_eq_true rfl⟩) ⟨xPre_blind, va_recv hK hP (ci := 6) (q0 := 0) rfl rfl, xPre_of hP hK hD⟩ rfl rfl hl.1 rfl (lv_room (Nat.le_of_ble_eq_true rfl)) dL_tries_250 ⟨Nat.le_of_ble_eq_true rfl, Nat.le_of_ble_eq_true rfl⟩) hS (fun q _ h => hFc q h) hFc (fun r250 z250_v t H locs ht hvm hq hB hz1 hk1 hS => ?_)
        obtain ⟨hP1, -, hD1⟩ := hB
        rw [ht] at hP1
        have hP : va_P (dC, dI) vwCl (wX6 cy a z250_v) H := hP1
        have hD : va_D A (wX6 cy a z250_v) := hD1.weaken (fun _ q _ h => hFc q.1 h)
        refine lv_aload_n hx hb dL_tries_253 rfl (lv_at hl 2 rfl) ?_
        refine lv_iload hx hb dL_tries_254 (lv_at hl 1 rfl) ?_
        refine lv_iload hx hb dL_tries_256 (lv_at hl 0 rfl) ?_
        have hFc := xfree_same hS hAe0 (ws := (wX6 cy a z250_v)) hD
        refine va_calli (va_runV (As := [.int r205, .int r216]) (rest := [.int r250]) ⟨hx, hb, hml, hown, hts⟩ (co_X6_fewest l dC dI cy a _ z250_v r205 r216 _ hq) (cwV 2 hts gL_tries_X6_fewest rfl rfl rfl (by decide +kernel) ⟨Nat.le_of_ble_eq_true rfl, Nat.le_of_ble_eq_true rfl⟩) ⟨xPre_blind, va_recv hK hP (ci := 6) (q0 := 0) rfl rfl, xPre_of hP hK hD⟩ rfl rfl hl.1 rfl (lv_room (Nat.le_of_ble_eq_true rfl)) dL_tries_258 ⟨Nat.le_of_ble_eq_true rfl, Nat.le_of_ble_eq_true rfl⟩) hS (fun q _ h => hFc q h) hFc (fun r258 z258_v t H locs ht hvm hq hB hz1 hk1 hS => ?_)
        obtain ⟨hP1, -, hD1⟩ := hB
        rw [ht] at hP1
        have hP : va_P (dC, dI) vwCl (wX6 cy a z258_v) H := hP1
        have hD : va_D A (wX6 cy a z258_v) := hD1.weaken (fun _ q _ h => hFc q.1 h)
        refine lv_iconst (v := (-1)) hx hb dL_tries_261 (by decide) ?_
        obtain ⟨hqA, hqB⟩ := hq
        refine lv_icmp_ne (tgt := 269) hx hb dL_tries_262 (by decide) (fun c9 => ?_) (fun c9 => ?_)
        · have hq := hqB c9
          refine lv_iconst (v := 1) hx hb dL_tries_269 (by decide) ?_
          exact J270 y200_7 r205 z258_v 1 r250  _ _ _ hq hP hD hS (lv_sub hl [2, 4, 1] rfl)
        · have hq := hqA c9
          refine lv_iconst (v := 0) hx hb dL_tries_265 (by decide) ?_
          refine lv_goto (tgt := 270) hx hb dL_tries_266 (by decide) ?_
          exact J270 y200_7 r205 z258_v 0 r250  _ _ _ hq hP hD hS (lv_sub hl [2, 4, 1] rfl)
  have J198 : ∀ (y198_7 : Int32) (z198_v : V_X6) (k198_0 : Int32) (H : Heap) (locs : List Loc) (ls : Array Slot), wp_L_tries_198 v x1 y198_7 z198_v k198_0 Q → va_P (dC, dI) vwCl (wX6 cy a z198_v) H → va_D A (wX6 cy a z198_v) → va_S A s.heap H locs → lv_has ls 12 [(0, .ref (a 0)), (1, .int x1), (7, .int y198_7)] → W p l e (headSpec wsL_tries ({ frames := 8, cells := 0, slots := 0, locals := 187 } : Room)).room s m ([.ref (a 0), .int x1] : List Value).toArray below meth c H locs 0 0 (MQ below (q_L_tries dC dI cy a v x1 Q A) ([.ref (a 0), .int x1] : List Value).toArray s 0 0 A) (F0 m 198 ls [.int k198_0]) := by
    intro y198_7 z198_v k198_0 H locs ls hq hP hD hS hl
    unfold wp_L_tries_198 at hq
    refine lv_istore (lv' := [(8, .int k198_0), (0, .ref (a 0)), (1, .int x1), (7, .int y198_7)]) hx hb dL_tries_198 hl (by decide) rfl (fun ls hl => ?_)
    exact J200 y198_7 k198_0 z198_v  _ _ _ hq hP hD hS (lv_sub hl [1, 2, 3, 0] rfl)
  have J197 : ∀ (y197_7 : Int32) (z197_v : V_X6) (H : Heap) (locs : List Loc) (ls : Array Slot), wp_L_tries_197 v x1 y197_7 z197_v Q → va_P (dC, dI) vwCl (wX6 cy a z197_v) H → va_D A (wX6 cy a z197_v) → va_S A s.heap H locs → lv_has ls 12 [(0, .ref (a 0)), (1, .int x1), (7, .int y197_7)] → W p l e (headSpec wsL_tries ({ frames := 8, cells := 0, slots := 0, locals := 187 } : Room)).room s m ([.ref (a 0), .int x1] : List Value).toArray below meth c H locs 0 0 (MQ below (q_L_tries dC dI cy a v x1 Q A) ([.ref (a 0), .int x1] : List Value).toArray s 0 0 A) (F0 m 197 ls []) := by
    intro y197_7 z197_v H locs ls hq hP hD hS hl
    unfold wp_L_tries_197 at hq
    refine lv_iconst (v := 0) hx hb dL_tries_197 (by decide) ?_
    exact J198 y197_7 z197_v 0  _ _ _ hq hP hD hS (lv_sub hl [0, 1, 2] rfl)
  have J159 : ∀ (y159_7 : Int32) (y159_8 : Int32) (y159_9 : Int32) (z159_v : V_X6) (H : Heap) (locs : List Loc) (ls : Array Slot), wp_L_tries_159 v x1 y159_7 y159_8 y159_9 z159_v Q → va_P (dC, dI) vwCl (wX6 cy a z159_v) H → va_D A (wX6 cy a z159_v) → va_S A s.heap H locs → lv_has ls 12 [(0, .ref (a 0)), (1, .int x1), (7, .int y159_7), (8, .int y159_8), (9, .int y159_9)] → W p l e (headSpec wsL_tries ({ frames := 8, cells := 0, slots := 0, locals := 187 } : Room)).room s m ([.ref (a 0), .int x1] : List Value).toArray below meth c H locs 0 0 (MQ below (q_L_tries dC dI cy a v x1 Q A) ([.ref (a 0), .int x1] : List Value).toArray s 0 0 A) (F0 m 159 ls []) := by
    intro y159_7 y159_8 y159_9 z159_v H locs ls hq hP hD hS hl
    unfold wp_L_tries_159 at hq
    refine lv_iload hx hb dL_tries_159 (lv_at hl 3 rfl) ?_
    obtain ⟨hqA, hqB⟩ := hq
    refine lv_if_eq (tgt := 200) hx hb dL_tries_161 (by decide) (fun c16 => ?_) (fun c16 => ?_)
    · have hq := hqA c16
      exact J200 y159_7 y159_8 z159_v  _ _ _ hq hP hD hS (lv_sub hl [0, 1, 2, 3] rfl)
    · have hq := hqB c16
      refine lv_iload hx hb dL_tries_164 (lv_at hl 4 rfl) ?_
      refine lv_iconst (v := 1) hx hb dL_tries_166 (by decide) ?_
      obtain ⟨hqA, hqB⟩ := hq
      refine lv_icmp_lt (tgt := 200) hx hb dL_tries_167 (by decide) (fun c15 => ?_) (fun c15 => ?_)
      · have hq := hqA c15
        exact J200 y159_7 y159_8 z159_v  _ _ _ hq hP hD hS (lv_sub hl [0, 1, 2, 3] rfl)
      · have hq := hqB c15
        refine lv_iload hx hb dL_tries_170 (lv_at hl 4 rfl) ?_
        refine lv_bipush (v := 30) hx hb dL_tries_172 (by decide) ?_
        obtain ⟨hqA, hqB⟩ := hq
        refine lv_icmp_gt (tgt := 200) hx hb dL_tries_174 (by decide) (fun c14 => ?_) (fun c14 => ?_)
        · have hq := hqA c14
          exact J200 y159_7 y159_8 z159_v  _ _ _ hq hP hD hS (lv_sub hl [0, 1, 2, 3] rfl)
        · have hq := hqB c14
          refine lv_aload_n hx hb dL_tries_177 rfl (lv_at hl 0 rfl) ?_
          refine lv_iload hx hb dL_tries_178 (lv_at hl 4 rfl) ?_
          have hFc := xfree_same hS hAe0 (ws := (wX6 cy a z159_v)) hD
          refine va_calli (va_runV (As := [.int y159_9]) (rest := []) ⟨hx, hb, hml, hown, hts⟩ (co_X6_pass l dC dI cy a _ z159_v y159_9 _ hq) (cwV 1 hts gL_tries_X6_pass rfl rfl rfl (by decide +kernel) ⟨Nat.le_of_ble_eq_true rfl, Nat.le_of_ble_eq_true rfl⟩) ⟨xPre_blindE, va_recv hK hP (ci := 6) (q0 := 0) rfl rfl, xPre_ofE hP hK hD hE hS hFc⟩ rfl rfl hl.1 rfl (lv_room (Nat.le_of_ble_eq_true rfl)) dL_tries_180 ⟨Nat.le_of_ble_eq_true rfl, Nat.le_of_ble_eq_true rfl⟩) hS (fun q _ h => hFc q h) hFc (fun r180 z180_v t H locs ht hvm hq hB hz1 hk1 hS => ?_)
          obtain ⟨hP1, -, hD1⟩ := hB
          rw [ht] at hP1
          have hP : va_P (dC, dI) vwCl (wX6 cy a z180_v) H := hP1
          have hD : va_D A (wX6 cy a z180_v) := hD1.weaken (fun _ q _ h => hFc q.1 h)
          obtain ⟨hqA, hqB⟩ := hq
          refine lv_if_le (tgt := 197) hx hb dL_tries_183 (by decide) (fun c13 => ?_) (fun c13 => ?_)
          · have hq := hqA c13
            exact J197 y159_7 z180_v  _ _ _ hq hP hD hS (lv_sub hl [0, 1, 2] rfl)
          · have hq := hqB c13
            refine lv_aload_n hx hb dL_tries_186 rfl (lv_at hl 0 rfl) ?_
            have hFc := xfree_same hS hAe0 (ws := (wX6 cy a z180_v)) hD
            refine va_calli (va_runV (As := []) (rest := []) ⟨hx, hb, hml, hown, hts⟩ (co_X6_undo l dC dI cy a _ z180_v _ hq) (cwV 0 hts gL_tries_X6_undo rfl rfl rfl (by decide +kernel) ⟨Nat.le_of_ble_eq_true rfl, Nat.le_of_ble_eq_true rfl⟩) ⟨xPre_blind, va_recv hK hP (ci := 6) (q0 := 0) rfl rfl, xPre_of hP hK hD⟩ rfl rfl hl.1 rfl (lv_room (Nat.le_of_ble_eq_true rfl)) dL_tries_187 ⟨Nat.le_of_ble_eq_true rfl, Nat.le_of_ble_eq_true rfl⟩) hS (fun q _ h => hFc q h) hFc (fun r187 z187_v t H locs ht hvm hq hB hz1 hk1 hS => ?_)
            obtain ⟨hP1, -, hD1⟩ := hB
            rw [ht] at hP1
            have hP : va_P (dC, dI) vwCl (wX6 cy a z187_v) H := hP1
            have hD : va_D A (wX6 cy a z187_v) := hD1.weaken (fun _ q _ h => hFc q.1 h)
            obtain ⟨hqA, hqB⟩ := hq
            refine lv_if_lt (tgt := 197) hx hb dL_tries_190 (by decide) (fun c12 => ?_) (fun c12 => ?_)
            · have hq := hqA c12
              exact J197 y159_7 z187_v  _ _ _ hq hP hD hS (lv_sub hl [0, 1, 2] rfl)
            · have hq := hqB c12
              refine lv_iconst (v := 1) hx hb dL_tries_193 (by decide) ?_
              refine lv_goto (tgt := 198) hx hb dL_tries_194 (by decide) ?_
              exact J198 y159_7 z187_v 1  _ _ _ hq hP hD hS (lv_sub hl [0, 1, 2] rfl)
  have J157 : ∀ (y157_7 : Int32) (y157_9 : Int32) (z157_v : V_X6) (k157_0 : Int32) (H : Heap) (locs : List Loc) (ls : Array Slot), wp_L_tries_157 v x1 y157_7 y157_9 z157_v k157_0 Q → va_P (dC, dI) vwCl (wX6 cy a z157_v) H → va_D A (wX6 cy a z157_v) → va_S A s.heap H locs → lv_has ls 12 [(0, .ref (a 0)), (1, .int x1), (7, .int y157_7), (9, .int y157_9)] → W p l e (headSpec wsL_tries ({ frames := 8, cells := 0, slots := 0, locals := 187 } : Room)).room s m ([.ref (a 0), .int x1] : List Value).toArray below meth c H locs 0 0 (MQ below (q_L_tries dC dI cy a v x1 Q A) ([.ref (a 0), .int x1] : List Value).toArray s 0 0 A) (F0 m 157 ls [.int k157_0]) := by
    intro y157_7 y157_9 z157_v k157_0 H locs ls hq hP hD hS hl
    unfold wp_L_tries_157 at hq
    refine lv_istore (lv' := [(8, .int k157_0), (0, .ref (a 0)), (1, .int x1), (7, .int y157_7), (9, .int y157_9)]) hx hb dL_tries_157 hl (by decide) rfl (fun ls hl => ?_)
    exact J159 y157_7 k157_0 y157_9 z157_v  _ _ _ hq hP hD hS (lv_sub hl [1, 2, 3, 0, 4] rfl)
  have J156 : ∀ (y156_7 : Int32) (y156_9 : Int32) (z156_v : V_X6) (H : Heap) (locs : List Loc) (ls : Array Slot), wp_L_tries_156 v x1 y156_7 y156_9 z156_v Q → va_P (dC, dI) vwCl (wX6 cy a z156_v) H → va_D A (wX6 cy a z156_v) → va_S A s.heap H locs → lv_has ls 12 [(0, .ref (a 0)), (1, .int x1), (7, .int y156_7), (9, .int y156_9)] → W p l e (headSpec wsL_tries ({ frames := 8, cells := 0, slots := 0, locals := 187 } : Room)).room s m ([.ref (a 0), .int x1] : List Value).toArray below meth c H locs 0 0 (MQ below (q_L_tries dC dI cy a v x1 Q A) ([.ref (a 0), .int x1] : List Value).toArray s 0 0 A) (F0 m 156 ls []) := by
    intro y156_7 y156_9 z156_v H locs ls hq hP hD hS hl
    unfold wp_L_tries_156 at hq
    refine lv_iconst (v := 0) hx hb dL_tries_156 (by decide) ?_
    exact J157 y156_7 y156_9 z156_v 0  _ _ _ hq hP hD hS (lv_sub hl [0, 1, 2, 3] rfl)
  have J100 : ∀ (y100_7 : Int32) (z100_v : V_X6) (k100_0 : Int32) (H : Heap) (locs : List Loc) (ls : Array Slot), wp_L_tries_100 v x1 y100_7 z100_v k100_0 Q → va_P (dC, dI) vwCl (wX6 cy a z100_v) H → va_D A (wX6 cy a z100_v) → va_S A s.heap H locs → lv_has ls 12 [(0, .ref (a 0)), (1, .int x1), (7, .int y100_7)] → W p l e (headSpec wsL_tries ({ frames := 8, cells := 0, slots := 0, locals := 187 } : Room)).room s m ([.ref (a 0), .int x1] : List Value).toArray below meth c H locs 0 0 (MQ below (q_L_tries dC dI cy a v x1 Q A) ([.ref (a 0), .int x1] : List Value).toArray s 0 0 A) (F0 m 100 ls [.int k100_0]) := by
    intro y100_7 z100_v k100_0 H locs ls hq hP hD hS hl
    unfold wp_L_tries_100 at hq
    refine lv_istore (lv' := [(8, .int k100_0), (0, .ref (a 0)), (1, .int x1), (7, .int y100_7)]) hx hb dL_tries_100 hl (by decide) rfl (fun ls hl => ?_)
    refine lv_aload_n hx hb dL_tries_102 rfl (lv_at hl 1 rfl) ?_
    have hFc := xfree_same hS hAe0 (ws := (wX6 cy a z100_v)) hD
    refine va_calli (va_runV (As := []) (rest := []) ⟨hx, hb, hml, hown, hts⟩ (co_X6_nextMound l dC dI cy a _ z100_v _ hq) (cwV 0 hts gL_tries_X6_nextMound rfl rfl rfl (by decide +kernel) ⟨Nat.le_of_ble_eq_true rfl, Nat.le_of_ble_eq_true rfl⟩) ⟨xPre_blindE, va_recv hK hP (ci := 6) (q0 := 0) rfl rfl, xPre_ofE hP hK hD hE hS hFc⟩ rfl rfl hl.1 rfl (lv_room (Nat.le_of_ble_eq_true rfl)) dL_tries_103 ⟨Nat.le_of_ble_eq_true rfl, Nat.le_of_ble_eq_true rfl⟩) hS (fun q _ h => hFc q h) hFc (fun r103 z103_v t H locs ht hvm hq hB hz1 hk1 hS => ?_)
    obtain ⟨hP1, -, hD1⟩ := hB
    rw [ht] at hP1
    have hP : va_P (dC, dI) vwCl (wX6 cy a z103_v) H := hP1
    have hD : va_D A (wX6 cy a z103_v) := hD1.weaken (fun _ q _ h => hFc q.1 h)
    refine lv_istore (lv' := [(9, .int r103), (8, .int k100_0), (0, .ref (a 0)), (1, .int x1), (7, .int y100_7)]) hx hb dL_tries_106 hl (by decide) rfl (fun ls hl => ?_)
    refine lv_iload hx hb dL_tries_108 (lv_at hl 1 rfl) ?_
    obtain ⟨hqA, hqB⟩ := hq
    refine lv_if_eq (tgt := 159) hx hb dL_tries_110 (by decide) (fun c22 => ?_) (fun c22 => ?_)
    · have hq := hqA c22
      exact J159 y100_7 k100_0 r103 z103_v  _ _ _ hq hP hD hS (lv_sub hl [2, 3, 4, 1, 0] rfl)
    · have hq := hqB c22
      refine lv_iload hx hb dL_tries_113 (lv_at hl 0 rfl) ?_
      refine lv_iconst (v := 1) hx hb dL_tries_115 (by decide) ?_
      obtain ⟨hqA, hqB⟩ := hq
      refine lv_icmp_le (tgt := 159) hx hb dL_tries_116 (by decide) (fun c21 => ?_) (fun c21 => ?_)
      · have hq := hqA c21
        exact J159 y100_7 k100_0 r103 z103_v  _ _ _ hq hP hD hS (lv_sub hl [2, 3, 4, 1, 0] rfl)
      · have hq := hqB c21
        refine lv_iload hx hb dL_tries_119 (lv_at hl 0 rfl) ?_
        refine lv_bipush (v := 31) hx hb dL_tries_121 (by decide) ?_
        obtain ⟨hqA, hqB⟩ := hq
        refine lv_icmp_gt (tgt := 159) hx hb dL_tries_123 (by decide) (fun c20 => ?_) (fun c20 => ?_)
        · have hq := hqA c20
          exact J159 y100_7 k100_0 r103 z103_v  _ _ _ hq hP hD hS (lv_sub hl [2, 3, 4, 1, 0] rfl)
        · have hq := hqB c20
          refine lv_aload_n hx hb dL_tries_126 rfl (lv_at hl 2 rfl) ?_
          refine lv_iload hx hb dL_tries_127 (lv_at hl 0 rfl) ?_
          refine lv_iconst (v := 1) hx hb dL_tries_129 (by decide) ?_
          refine lv_isub hx hb dL_tries_130 ?_
          have hFc := xfree_same hS hAe0 (ws := (wX6 cy a z103_v)) hD
          refine va_calli (va_runV (As := [.int (r103 - 1)]) (rest := []) ⟨hx, hb, hml, hown, hts⟩ (co_X6_pass l dC dI cy a _ z103_v (r103 - 1) _ hq) (cwV 1 hts gL_tries_X6_pass rfl rfl rfl (by decide +kernel) ⟨Nat.le_of_ble_eq_true rfl, Nat.le_of_ble_eq_true rfl⟩) ⟨xPre_blindE, va_recv hK hP (ci := 6) (q0 := 0) rfl rfl, xPre_ofE hP hK hD hE hS hFc⟩ rfl rfl hl.1 rfl (lv_room (Nat.le_of_ble_eq_true rfl)) dL_tries_131 ⟨Nat.le_of_ble_eq_true rfl, Nat.le_of_ble_eq_true rfl⟩) hS (fun q _ h => hFc q h) hFc (fun r131 z131_v t H locs ht hvm hq hB hz1 hk1 hS => ?_)
          obtain ⟨hP1, -, hD1⟩ := hB
          rw [ht] at hP1
          have hP : va_P (dC, dI) vwCl (wX6 cy a z131_v) H := hP1
          have hD : va_D A (wX6 cy a z131_v) := hD1.weaken (fun _ q _ h => hFc q.1 h)
          obtain ⟨hqA, hqB⟩ := hq
          refine lv_if_ne (tgt := 156) hx hb dL_tries_134 (by decide) (fun c19 => ?_) (fun c19 => ?_)
          · have hq := hqB c19
            exact J156 y100_7 r103 z131_v  _ _ _ hq hP hD hS (lv_sub hl [2, 3, 4, 0] rfl)
          · have hq := hqA c19
            refine lv_aload_n hx hb dL_tries_137 rfl (lv_at hl 2 rfl) ?_
            have hFc := xfree_same hS hAe0 (ws := (wX6 cy a z131_v)) hD
            refine va_calli (va_runV (As := []) (rest := []) ⟨hx, hb, hml, hown, hts⟩ (co_X6_nextMound l dC dI cy a _ z131_v _ hq) (cwV 0 hts gL_tries_X6_nextMound rfl rfl rfl (by decide +kernel) ⟨Nat.le_of_ble_eq_true rfl, Nat.le_of_ble_eq_true rfl⟩) ⟨xPre_blindE, va_recv hK hP (ci := 6) (q0 := 0) rfl rfl, xPre_ofE hP hK hD hE hS hFc⟩ rfl rfl hl.1 rfl (lv_room (Nat.le_of_ble_eq_true rfl)) dL_tries_138 ⟨Nat.le_of_ble_eq_true rfl, Nat.le_of_ble_eq_true rfl⟩) hS (fun q _ h => hFc q h) hFc (fun r138 z138_v t H locs ht hvm hq hB hz1 hk1 hS => ?_)
            obtain ⟨hP1, -, hD1⟩ := hB
            rw [ht] at hP1
            have hP : va_P (dC, dI) vwCl (wX6 cy a z138_v) H := hP1
            have hD : va_D A (wX6 cy a z138_v) := hD1.weaken (fun _ q _ h => hFc q.1 h)
            refine lv_iconst (v := 1) hx hb dL_tries_141 (by decide) ?_
            obtain ⟨hqA, hqB⟩ := hq
            refine lv_icmp_ne (tgt := 156) hx hb dL_tries_142 (by decide) (fun c18 => ?_) (fun c18 => ?_)
            · have hq := hqB c18
              exact J156 y100_7 r103 z138_v  _ _ _ hq hP hD hS (lv_sub hl [2, 3, 4, 0] rfl)
            · have hq := hqA c18
              refine lv_aload_n hx hb dL_tries_145 rfl (lv_at hl 2 rfl) ?_
              have hFc := xfree_same hS hAe0 (ws := (wX6 cy a z138_v)) hD
              refine va_calli (va_runV (As := []) (rest := []) ⟨hx, hb, hml, hown, hts⟩ (co_X6_undo l dC dI cy a _ z138_v _ hq) (cwV 0 hts gL_tries_X6_undo rfl rfl rfl (by decide +kernel) ⟨Nat.le_of_ble_eq_true rfl, Nat.le_of_ble_eq_true rfl⟩) ⟨xPre_blind, va_recv hK hP (ci := 6) (q0 := 0) rfl rfl, xPre_of hP hK hD⟩ rfl rfl hl.1 rfl (lv_room (Nat.le_of_ble_eq_true rfl)) dL_tries_146 ⟨Nat.le_of_ble_eq_true rfl, Nat.le_of_ble_eq_true rfl⟩) hS (fun q _ h => hFc q h) hFc (fun r146 z146_v t H locs ht hvm hq hB hz1 hk1 hS => ?_)
              obtain ⟨hP1, -, hD1⟩ := hB
              rw [ht] at hP1
              have hP : va_P (dC, dI) vwCl (wX6 cy a z146_v) H := hP1
              have hD : va_D A (wX6 cy a z146_v) := hD1.weaken (fun _ q _ h => hFc q.1 h)
              obtain ⟨hqA, hqB⟩ := hq
              refine lv_if_lt (tgt := 156) hx hb dL_tries_149 (by decide) (fun c17 => ?_) (fun c17 => ?_)
              · have hq := hqA c17
                exact J156 y100_7 r103 z146_v  _ _ _ hq hP hD hS (lv_sub hl [2, 3, 4, 0] rfl)
              · have hq := hqB c17
                refine lv_iconst (v := 1) hx hb dL_tries_152 (by decide) ?_
                refine lv_goto (tgt := 157) hx hb dL_tries_153 (by decide) ?_
                exact J157 y100_7 r103 z146_v 1  _ _ _ hq hP hD hS (lv_sub hl [2, 3, 4, 0] rfl)
  have J99 : ∀ (y99_7 : Int32) (z99_v : V_X6) (H : Heap) (locs : List Loc) (ls : Array Slot), wp_L_tries_99 v x1 y99_7 z99_v Q → va_P (dC, dI) vwCl (wX6 cy a z99_v) H → va_D A (wX6 cy a z99_v) → va_S A s.heap H locs → lv_has ls 12 [(0, .ref (a 0)), (1, .int x1), (7, .int y99_7)] → W p l e (headSpec wsL_tries ({ frames := 8, cells := 0, slots := 0, locals := 187 } : Room)).room s m ([.ref (a 0), .int x1] : List Value).toArray below meth c H locs 0 0 (MQ below (q_L_tries dC dI cy a v x1 Q A) ([.ref (a 0), .int x1] : List Value).toArray s 0 0 A) (F0 m 99 ls []) := by
    intro y99_7 z99_v H locs ls hq hP hD hS hl
    unfold wp_L_tries_99 at hq
    refine lv_iconst (v := 0) hx hb dL_tries_99 (by decide) ?_
    exact J100 y99_7 z99_v 0  _ _ _ hq hP hD hS (lv_sub hl [0, 1, 2] rfl)
  refine lv_iconst (v := 1) hx hb dL_tries_0 (by decide) ?_
  refine lv_iload_n hx hb dL_tries_1 rfl (lv_at hl 1 rfl) ?_
  refine lv_bipush (v := 12) hx hb dL_tries_2 (by decide) ?_
  have hFc := xfree_none hS hAe0
  refine va_calli (va_runS (As := [.int x1, .int 12]) (rest := [.int 1]) ⟨hx, hb, hml, hown, hts⟩ (c_L_low l dC dI cy  _ x1 12 _ hq) (va_cwS 2 hts gL_tries_L_low rfl rfl rfl (by decide +kernel) ⟨Nat.le_of_ble_eq_true rfl, Nat.le_of_ble_eq_true rfl⟩) ⟨xPre_blind, xPre_of xP_nil hK (xD_nil (A := A))⟩ rfl rfl hl.1 rfl (lv_room (Nat.le_of_ble_eq_true rfl)) dL_tries_4 ⟨Nat.le_of_ble_eq_true rfl, Nat.le_of_ble_eq_true rfl⟩) hS (fun q _ h => hFc q h) hFc (fun r4 u9 t H locs ht hvm hq hB hz1 hk1 hS => ?_)
  have hP := xj_none hP hk1
  refine lv_iadd hx hb dL_tries_7 ?_
  refine lv_istore_n (lv' := [(2, .int (1 + r4)), (0, .ref (a 0)), (1, .int x1)]) hx hb dL_tries_8 rfl hl (by decide) rfl (fun ls hl => ?_)
  refine lv_aload_n hx hb dL_tries_9 rfl (lv_at hl 1 rfl) ?_
  refine lv_iload_n hx hb dL_tries_10 rfl (lv_at hl 0 rfl) ?_
  refine lv_iconst (v := 0) hx hb dL_tries_11 (by decide) ?_
  have hFc := xfree_same hS hAe0 (ws := (wX6 cy a v)) hD
  refine va_calli (va_runV (As := [.int (1 + r4), .int 0]) (rest := []) ⟨hx, hb, hml, hown, hts⟩ (co_X6_ifPassed l dC dI cy a _ v (1 + r4) 0 _ hq) (cwV 2 hts gL_tries_X6_ifPassed rfl rfl rfl (by decide +kernel) ⟨Nat.le_of_ble_eq_true rfl, Nat.le_of_ble_eq_true rfl⟩) ⟨xPre_blindE, va_recv hK hP (ci := 6) (q0 := 0) rfl rfl, xPre_ofE hP hK hD hE hS hFc⟩ rfl rfl hl.1 rfl (lv_room (Nat.le_of_ble_eq_true rfl)) dL_tries_12 ⟨Nat.le_of_ble_eq_true rfl, Nat.le_of_ble_eq_true rfl⟩) hS (fun q _ h => hFc q h) hFc (fun r12 z12_v t H locs ht hvm hq hB hz1 hk1 hS => ?_)
  obtain ⟨hP1, -, hD1⟩ := hB
  rw [ht] at hP1
  have hP : va_P (dC, dI) vwCl (wX6 cy a z12_v) H := hP1
  have hD : va_D A (wX6 cy a z12_v) := hD1.weaken (fun _ q _ h => hFc q.1 h)
  refine lv_istore_n (lv' := [(3, .int r12), (2, .int (1 + r4)), (0, .ref (a 0)), (1, .int x1)]) hx hb dL_tries_15 rfl hl (by decide) rfl (fun ls hl => ?_)
  refine lv_aload_n hx hb dL_tries_16 rfl (lv_at hl 2 rfl) ?_
  refine lv_iload_n hx hb dL_tries_17 rfl (lv_at hl 1 rfl) ?_
  refine lv_iconst (v := 1) hx hb dL_tries_18 (by decide) ?_
  have hFc := xfree_same hS hAe0 (ws := (wX6 cy a z12_v)) hD
  refine va_calli (va_runV (As := [.int (1 + r4), .int 1]) (rest := []) ⟨hx, hb, hml, hown, hts⟩ (co_X6_ifPassed l dC dI cy a _ z12_v (1 + r4) 1 _ hq) (cwV 2 hts gL_tries_X6_ifPassed rfl rfl rfl (by decide +kernel) ⟨Nat.le_of_ble_eq_true rfl, Nat.le_of_ble_eq_true rfl⟩) ⟨xPre_blindE, va_recv hK hP (ci := 6) (q0 := 0) rfl rfl, xPre_ofE hP hK hD hE hS hFc⟩ rfl rfl hl.1 rfl (lv_room (Nat.le_of_ble_eq_true rfl)) dL_tries_19 ⟨Nat.le_of_ble_eq_true rfl, Nat.le_of_ble_eq_true rfl⟩) hS (fun q _ h => hFc q h) hFc (fun r19 z19_v t H locs ht hvm hq hB hz1 hk1 hS => ?_)
  obtain ⟨hP1, -, hD1⟩ := hB
  rw [ht] at hP1
  have hP : va_P (dC, dI) vwCl (wX6 cy a z19_v) H := hP1
  have hD : va_D A (wX6 cy a z19_v) := hD1.weaken (fun _ q _ h => hFc q.1 h)
  refine lv_istore (lv' := [(4, .int r19), (3, .int r12), (2, .int (1 + r4)), (0, .ref (a 0)), (1, .int x1)]) hx hb dL_tries_22 hl (by decide) rfl (fun ls hl => ?_)
  refine lv_aload_n hx hb dL_tries_24 rfl (lv_at hl 3 rfl) ?_
  refine lv_iload_n hx hb dL_tries_25 rfl (lv_at hl 2 rfl) ?_
  refine lv_iconst (v := 2) hx hb dL_tries_26 (by decide) ?_
  have hFc := xfree_same hS hAe0 (ws := (wX6 cy a z19_v)) hD
  refine va_calli (va_runV (As := [.int (1 + r4), .int 2]) (rest := []) ⟨hx, hb, hml, hown, hts⟩ (co_X6_ifPassed l dC dI cy a _ z19_v (1 + r4) 2 _ hq) (cwV 2 hts gL_tries_X6_ifPassed rfl rfl rfl (by decide +kernel) ⟨Nat.le_of_ble_eq_true rfl, Nat.le_of_ble_eq_true rfl⟩) ⟨xPre_blindE, va_recv hK hP (ci := 6) (q0 := 0) rfl rfl, xPre_ofE hP hK hD hE hS hFc⟩ rfl rfl hl.1 rfl (lv_room (Nat.le_of_ble_eq_true rfl)) dL_tries_27 ⟨Nat.le_of_ble_eq_true rfl, Nat.le_of_ble_eq_true rfl⟩) hS (fun q _ h => hFc q h) hFc (fun r27 z27_v t H locs ht hvm hq hB hz1 hk1 hS => ?_)
  obtain ⟨hP1, -, hD1⟩ := hB
  rw [ht] at hP1
  have hP : va_P (dC, dI) vwCl (wX6 cy a z27_v) H := hP1
  have hD : va_D A (wX6 cy a z27_v) := hD1.weaken (fun _ q _ h => hFc q.1 h)
  refine lv_istore (lv' := [(5, .int r27), (4, .int r19), (3, .int r12), (2, .int (1 + r4)), (0, .ref (a 0)), (1, .int x1)]) hx hb dL_tries_30 hl (by decide) rfl (fun ls hl => ?_)
  refine lv_aload_n hx hb dL_tries_32 rfl (lv_at hl 4 rfl) ?_
  refine lv_iconst (v := 1) hx hb dL_tries_33 (by decide) ?_
  have hFc := xfree_same hS hAe0 (ws := (wX6 cy a z27_v)) hD
  refine va_calli (va_runV (As := [.int 1]) (rest := []) ⟨hx, hb, hml, hown, hts⟩ (co_X6_count l dC dI cy a _ z27_v 1 _ hq) (cwV 1 hts gL_tries_X6_count rfl rfl rfl (by decide +kernel) ⟨Nat.le_of_ble_eq_true rfl, Nat.le_of_ble_eq_true rfl⟩) ⟨xPre_blindE, va_recv hK hP (ci := 6) (q0 := 0) rfl rfl, xPre_ofE hP hK hD hE hS hFc⟩ rfl rfl hl.1 rfl (lv_room (Nat.le_of_ble_eq_true rfl)) dL_tries_34 ⟨Nat.le_of_ble_eq_true rfl, Nat.le_of_ble_eq_true rfl⟩) hS (fun q _ h => hFc q h) hFc (fun r34 z34_v t H locs ht hvm hq hB hz1 hk1 hS => ?_)
  obtain ⟨hP1, -, hD1⟩ := hB
  rw [ht] at hP1
  have hP : va_P (dC, dI) vwCl (wX6 cy a z34_v) H := hP1
  have hD : va_D A (wX6 cy a z34_v) := hD1.weaken (fun _ q _ h => hFc q.1 h)
  refine lv_istore (lv' := [(6, .int r34), (5, .int r27), (4, .int r19), (3, .int r12), (2, .int (1 + r4)), (0, .ref (a 0)), (1, .int x1)]) hx hb dL_tries_37 hl (by decide) rfl (fun ls hl => ?_)
  refine lv_aload_n hx hb dL_tries_39 rfl (lv_at hl 5 rfl) ?_
  refine lv_iconst (v := 4) hx hb dL_tries_40 (by decide) ?_
  have hFc := xfree_same hS hAe0 (ws := (wX6 cy a z34_v)) hD
  refine va_calli (va_runV (As := [.int 4]) (rest := []) ⟨hx, hb, hml, hown, hts⟩ (co_X6_count l dC dI cy a _ z34_v 4 _ hq) (cwV 1 hts gL_tries_X6_count rfl rfl rfl (by decide +kernel) ⟨Nat.le_of_ble_eq_true rfl, Nat.le_of_ble_eq_true rfl⟩) ⟨xPre_blindE, va_recv hK hP (ci := 6) (q0 := 0) rfl rfl, xPre_ofE hP hK hD hE hS hFc⟩ rfl rfl hl.1 rfl (lv_room (Nat.le_of_ble_eq_true rfl)) dL_tries_41 ⟨Nat.le_of_ble_eq_true rfl, Nat.le_of_ble_eq_true rfl⟩) hS (fun q _ h => hFc q h) hFc (fun r41 z41_v t H locs ht hvm hq hB hz1 hk1 hS => ?_)
  obtain ⟨hP1, -, hD1⟩ := hB
  rw [ht] at hP1
  have hP : va_P (dC, dI) vwCl (wX6 cy a z41_v) H := hP1
  have hD : va_D A (wX6 cy a z41_v) := hD1.weaken (fun _ q _ h => hFc q.1 h)
  refine lv_istore (lv' := [(7, .int r41), (6, .int r34), (5, .int r27), (4, .int r19), (3, .int r12), (2, .int (1 + r4)), (0, .ref (a 0)), (1, .int x1)]) hx hb dL_tries_44 hl (by decide) rfl (fun ls hl => ?_)
  refine lv_aload_n hx hb dL_tries_46 rfl (lv_at hl 6 rfl) ?_
  refine lv_iload_n hx hb dL_tries_47 rfl (lv_at hl 5 rfl) ?_
  have hFc := xfree_same hS hAe0 (ws := (wX6 cy a z41_v)) hD
  refine va_calli (va_runV (As := [.int (1 + r4)]) (rest := []) ⟨hx, hb, hml, hown, hts⟩ (co_X6_pass l dC dI cy a _ z41_v (1 + r4) _ hq) (cwV 1 hts gL_tries_X6_pass rfl rfl rfl (by decide +kernel) ⟨Nat.le_of_ble_eq_true rfl, Nat.le_of_ble_eq_true rfl⟩) ⟨xPre_blindE, va_recv hK hP (ci := 6) (q0 := 0) rfl rfl, xPre_ofE hP hK hD hE hS hFc⟩ rfl rfl hl.1 rfl (lv_room (Nat.le_of_ble_eq_true rfl)) dL_tries_48 ⟨Nat.le_of_ble_eq_true rfl, Nat.le_of_ble_eq_true rfl⟩) hS (fun q _ h => hFc q h) hFc (fun r48 z48_v t H locs ht hvm hq hB hz1 hk1 hS => ?_)
  obtain ⟨hP1, -, hD1⟩ := hB
  rw [ht] at hP1
  have hP : va_P (dC, dI) vwCl (wX6 cy a z48_v) H := hP1
  have hD : va_D A (wX6 cy a z48_v) := hD1.weaken (fun _ q _ h => hFc q.1 h)
  refine lv_iload_n hx hb dL_tries_51 rfl (lv_at hl 4 rfl) ?_
  obtain ⟨hqA, hqB⟩ := hq
  refine lv_icmp_ne (tgt := 99) hx hb dL_tries_52 (by decide) (fun c27 => ?_) (fun c27 => ?_)
  · have hq := hqB c27
    exact J99 r41 z48_v  _ _ _ hq hP hD hS (lv_sub hl [6, 7, 0] rfl)
  · have hq := hqA c27
    refine lv_aload_n hx hb dL_tries_55 rfl (lv_at hl 6 rfl) ?_
    refine lv_iconst (v := 4) hx hb dL_tries_56 (by decide) ?_
    have hFc := xfree_same hS hAe0 (ws := (wX6 cy a z48_v)) hD
    refine va_calli (va_runV (As := [.int 4]) (rest := []) ⟨hx, hb, hml, hown, hts⟩ (co_X6_count l dC dI cy a _ z48_v 4 _ hq) (cwV 1 hts gL_tries_X6_count rfl rfl rfl (by decide +kernel) ⟨Nat.le_of_ble_eq_true rfl, Nat.le_of_ble_eq_true rfl⟩) ⟨xPre_blindE, va_recv hK hP (ci := 6) (q0 := 0) rfl rfl, xPre_ofE hP hK hD hE hS hFc⟩ rfl rfl hl.1 rfl (lv_room (Nat.le_of_ble_eq_true rfl)) dL_tries_57 ⟨Nat.le_of_ble_eq_true rfl, Nat.le_of_ble_eq_true rfl⟩) hS (fun q _ h => hFc q h) hFc (fun r57 z57_v t H locs ht hvm hq hB hz1 hk1 hS => ?_)
    obtain ⟨hP1, -, hD1⟩ := hB
    rw [ht] at hP1
    have hP : va_P (dC, dI) vwCl (wX6 cy a z57_v) H := hP1
    have hD : va_D A (wX6 cy a z57_v) := hD1.weaken (fun _ q _ h => hFc q.1 h)
    refine lv_iload hx hb dL_tries_60 (lv_at hl 3 rfl) ?_
    obtain ⟨hqA, hqB⟩ := hq
    refine lv_icmp_ne (tgt := 99) hx hb dL_tries_62 (by decide) (fun c26 => ?_) (fun c26 => ?_)
    · have hq := hqB c26
      exact J99 r41 z57_v  _ _ _ hq hP hD hS (lv_sub hl [6, 7, 0] rfl)
    · have hq := hqA c26
      refine lv_aload_n hx hb dL_tries_65 rfl (lv_at hl 6 rfl) ?_
      refine lv_iconst (v := 1) hx hb dL_tries_66 (by decide) ?_
      have hFc := xfree_same hS hAe0 (ws := (wX6 cy a z57_v)) hD
      refine va_calli (va_runV (As := [.int 1]) (rest := []) ⟨hx, hb, hml, hown, hts⟩ (co_X6_count l dC dI cy a _ z57_v 1 _ hq) (cwV 1 hts gL_tries_X6_count rfl rfl rfl (by decide +kernel) ⟨Nat.le_of_ble_eq_true rfl, Nat.le_of_ble_eq_true rfl⟩) ⟨xPre_blindE, va_recv hK hP (ci := 6) (q0 := 0) rfl rfl, xPre_ofE hP hK hD hE hS hFc⟩ rfl rfl hl.1 rfl (lv_room (Nat.le_of_ble_eq_true rfl)) dL_tries_67 ⟨Nat.le_of_ble_eq_true rfl, Nat.le_of_ble_eq_true rfl⟩) hS (fun q _ h => hFc q h) hFc (fun r67 z67_v t H locs ht hvm hq hB hz1 hk1 hS => ?_)
      obtain ⟨hP1, -, hD1⟩ := hB
      rw [ht] at hP1
      have hP : va_P (dC, dI) vwCl (wX6 cy a z67_v) H := hP1
      have hD : va_D A (wX6 cy a z67_v) := hD1.weaken (fun _ q _ h => hFc q.1 h)
      refine lv_iload hx hb dL_tries_70 (lv_at hl 1 rfl) ?_
      refine lv_iload hx hb dL_tries_72 (lv_at hl 2 rfl) ?_
      refine lv_isub hx hb dL_tries_74 ?_
      obtain ⟨hqA, hqB⟩ := hq
      refine lv_icmp_ne (tgt := 99) hx hb dL_tries_75 (by decide) (fun c25 => ?_) (fun c25 => ?_)
      · have hq := hqB c25
        exact J99 r41 z67_v  _ _ _ hq hP hD hS (lv_sub hl [6, 7, 0] rfl)
      · have hq := hqA c25
        refine lv_aload_n hx hb dL_tries_78 rfl (lv_at hl 6 rfl) ?_
        have hFc := xfree_same hS hAe0 (ws := (wX6 cy a z67_v)) hD
        refine va_calli (va_runV (As := []) (rest := []) ⟨hx, hb, hml, hown, hts⟩ (co_X6_undo l dC dI cy a _ z67_v _ hq) (cwV 0 hts gL_tries_X6_undo rfl rfl rfl (by decide +kernel) ⟨Nat.le_of_ble_eq_true rfl, Nat.le_of_ble_eq_true rfl⟩) ⟨xPre_blind, va_recv hK hP (ci := 6) (q0 := 0) rfl rfl, xPre_of hP hK hD⟩ rfl rfl hl.1 rfl (lv_room (Nat.le_of_ble_eq_true rfl)) dL_tries_79 ⟨Nat.le_of_ble_eq_true rfl, Nat.le_of_ble_eq_true rfl⟩) hS (fun q _ h => hFc q h) hFc (fun r79 z79_v t H locs ht hvm hq hB hz1 hk1 hS => ?_)
        obtain ⟨hP1, -, hD1⟩ := hB
        rw [ht] at hP1
        have hP : va_P (dC, dI) vwCl (wX6 cy a z79_v) H := hP1
        have hD : va_D A (wX6 cy a z79_v) := hD1.weaken (fun _ q _ h => hFc q.1 h)
        obtain ⟨hqA, hqB⟩ := hq
        refine lv_if_lt (tgt := 99) hx hb dL_tries_82 (by decide) (fun c24 => ?_) (fun c24 => ?_)
        · have hq := hqA c24
          exact J99 r41 z79_v  _ _ _ hq hP hD hS (lv_sub hl [6, 7, 0] rfl)
        · have hq := hqB c24
          refine lv_aload_n hx hb dL_tries_85 rfl (lv_at hl 6 rfl) ?_
          refine lv_iconst (v := 4) hx hb dL_tries_86 (by decide) ?_
          have hFc := xfree_same hS hAe0 (ws := (wX6 cy a z79_v)) hD
          refine va_calli (va_runV (As := [.int 4]) (rest := []) ⟨hx, hb, hml, hown, hts⟩ (co_X6_count l dC dI cy a _ z79_v 4 _ hq) (cwV 1 hts gL_tries_X6_count rfl rfl rfl (by decide +kernel) ⟨Nat.le_of_ble_eq_true rfl, Nat.le_of_ble_eq_true rfl⟩) ⟨xPre_blindE, va_recv hK hP (ci := 6) (q0 := 0) rfl rfl, xPre_ofE hP hK hD hE hS hFc⟩ rfl rfl hl.1 rfl (lv_room (Nat.le_of_ble_eq_true rfl)) dL_tries_87 ⟨Nat.le_of_ble_eq_true rfl, Nat.le_of_ble_eq_true rfl⟩) hS (fun q _ h => hFc q h) hFc (fun r87 z87_v t H locs ht hvm hq hB hz1 hk1 hS => ?_)
          obtain ⟨hP1, -, hD1⟩ := hB
          rw [ht] at hP1
          have hP : va_P (dC, dI) vwCl (wX6 cy a z87_v) H := hP1
          have hD : va_D A (wX6 cy a z87_v) := hD1.weaken (fun _ q _ h => hFc q.1 h)
          refine lv_iload hx hb dL_tries_90 (lv_at hl 0 rfl) ?_
          obtain ⟨hqA, hqB⟩ := hq
          refine lv_icmp_ne (tgt := 99) hx hb dL_tries_92 (by decide) (fun c23 => ?_) (fun c23 => ?_)
          · have hq := hqB c23
            exact J99 r41 z87_v  _ _ _ hq hP hD hS (lv_sub hl [6, 7, 0] rfl)
          · have hq := hqA c23
            refine lv_iconst (v := 1) hx hb dL_tries_95 (by decide) ?_
            refine lv_goto (tgt := 100) hx hb dL_tries_96 (by decide) ?_
            exact J100 r41 z87_v 1  _ _ _ hq hP hD hS (lv_sub hl [6, 7, 0] rfl)
