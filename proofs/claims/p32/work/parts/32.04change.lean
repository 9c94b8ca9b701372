def wp_L_change_424 (v : V_X6) (x1 : Int32) (x2 : Int32) (z424_v : V_X6) (k424_0 : Int32) (Q : Int32 → V_X6 → Prop) : Prop :=
  wp_L_digs z424_v k424_0 (fun r424 z424_v =>
  bz r424 ∧ Q r424 z424_v)
def wp_L_change_279 (v : V_X6) (x1 : Int32) (x2 : Int32) (y279_3 : Int32) (y279_4 : Int32) (z279_v : V_X6) (k279_0 : Int32) (Q : Int32 → V_X6 → Prop) : Prop :=
  ((y279_3 = 0 → Q 1 z279_v) ∧
  (¬ y279_3 = 0 → (((x2 &&& 7) = 0 → wo_X6_rest z279_v y279_4 (fun r295 z295_v =>
  ((r295 = k279_0 → Q 1 z295_v) ∧
  (¬ r295 = k279_0 → Q 0 z295_v)))) ∧
  (¬ (x2 &&& 7) = 0 → Q 1 z279_v))))
def wb_L_change_216 (v : V_X6) (x1 : Int32) (x2 : Int32) (y216_4 : Int32) (y216_7 : Int32) (y216_8 : Int32) (z216_v : V_X6) (B216 : Int32 → Int32 → V_X6 → Prop) (Q : Int32 → V_X6 → Prop) : Prop :=
  ((4 ≤ y216_8 → Q 1 z216_v) ∧
  (¬ 4 ≤ y216_8 → ((20 ≤ y216_7 → Q 1 z216_v) ∧
  (¬ 20 ≤ y216_7 → wo_X6_plan z216_v y216_4 ((x2 >>> ((6 + (2 * y216_8)) &&& 31)) &&& 3) (fun r246 z246_v =>
  ((r246 = (y216_7 + 1) → B216 (y216_7 + 1) (y216_8 + 1) z246_v) ∧
  (¬ r246 = (y216_7 + 1) → Q 0 z246_v)))))))
def wp_L_change_216 (v : V_X6) (x1 : Int32) (x2 : Int32) (y216_4 : Int32) (y216_7 : Int32) (y216_8 : Int32) (z216_v : V_X6) (Q : Int32 → V_X6 → Prop) : Prop :=
  ∃ (I : Int32 → Int32 → V_X6 → Prop) (μ : Int32 → Int32 → V_X6 → Nat), I y216_7 y216_8 z216_v ∧ ∀ (s0 : Int32) (s1 : Int32) (s2 : V_X6), I s0 s1 s2 → wb_L_change_216 v x1 x2 y216_4 s0 s1 s2 (fun t0 t1 t2 => I t0 t1 t2 ∧ μ t0 t1 t2 < μ s0 s1 s2) Q
def wp_L_change_16 (v : V_X6) (x1 : Int32) (x2 : Int32) (y16_3 : Int32) (z16_v : V_X6) (k16_0 : Int32) (k16_1 : Int32) (Q : Int32 → V_X6 → Prop) : Prop :=
  wp_L_low k16_1 k16_0 (fun r16 =>
  wp_L_low (x2 >>> (2 &&& 31)) 64 (fun r26 =>
  wp_L_low (x2 >>> (2 &&& 31)) 4 (fun r38 =>
  wp_L_low (x2 >>> (5 &&& 31)) 4 (fun r49 =>
  wp_L_low x1 16 (fun r61 =>
  ((r61 = 0 → ((y16_3 = 4 → Q 1 z16_v) ∧
  (¬ y16_3 = 4 → wo_X6_tuft z16_v (((8 * (2 + r38)) + 2) + r49) 1 (fun r141 z141_v =>
  ((0 < r141 → Q 1 z141_v) ∧
  (¬ 0 < r141 → wo_X6_mole z141_v (((8 * (2 + r38)) + 2) + r49) (fun r150 z150_v =>
  ((r150 = y16_3 → wo_X6_moleOf z150_v y16_3 0 (fun r160 =>
  ((r160 = (((8 * (2 + r38)) + 2) + r49) → wo_X6_moleOf z150_v y16_3 5 (fun r171 =>
  ((r171 = 1 → wo_X6_tuft z150_v (((8 * (2 + r38)) + 2) + r49) 0 (fun r182 z182_v =>
  ((r182 = 1 → Q 1 z182_v) ∧
  (¬ r182 = 1 → Q 0 z182_v)))) ∧
  (¬ r171 = 1 → Q 0 z150_v)))) ∧
  (¬ r160 = (((8 * (2 + r38)) + 2) + r49) → Q 0 z150_v)))) ∧
  (¬ r150 = y16_3 → Q 0 z150_v))))))))) ∧
  (¬ r61 = 0 → ((r61 = 1 → ((y16_3 = 4 → Q 1 z16_v) ∧
  (¬ y16_3 = 4 → wo_X6_tuft z16_v (((8 * (2 + r38)) + 2) + r49) 1 (fun r141 z141_v =>
  ((0 < r141 → Q 1 z141_v) ∧
  (¬ 0 < r141 → wo_X6_mole z141_v (((8 * (2 + r38)) + 2) + r49) (fun r150 z150_v =>
  ((r150 = y16_3 → wo_X6_moleOf z150_v y16_3 0 (fun r160 =>
  ((r160 = (((8 * (2 + r38)) + 2) + r49) → wo_X6_moleOf z150_v y16_3 5 (fun r171 =>
  ((r171 = 1 → wo_X6_tuft z150_v (((8 * (2 + r38)) + 2) + r49) 0 (fun r182 z182_v =>
  ((r182 = 1 → Q 1 z182_v) ∧
  (¬ r182 = 1 → Q 0 z182_v)))) ∧
  (¬ r171 = 1 → Q 0 z150_v)))) ∧
  (¬ r160 = (((8 * (2 + r38)) + 2) + r49) → Q 0 z150_v)))) ∧
  (¬ r150 = y16_3 → Q 0 z150_v))))))))) ∧
  (¬ r61 = 1 → ((r61 = 2 → ((y16_3 = 0 → wp_L_change_216 v x1 x2 r16 20 0 z16_v Q) ∧
  (¬ y16_3 = 0 → wo_X6_moleOf z16_v r16 2 (fun r208 =>
  wp_L_change_216 v x1 x2 r16 r208 0 z16_v Q)))) ∧
  (¬ r61 = 2 → ((r61 = 3 → ((y16_3 = 0 → wp_L_change_216 v x1 x2 r16 20 0 z16_v Q) ∧
  (¬ y16_3 = 0 → wo_X6_moleOf z16_v r16 2 (fun r208 =>
  wp_L_change_216 v x1 x2 r16 r208 0 z16_v Q)))) ∧
  (¬ r61 = 3 → ((r61 = 4 → ((y16_3 = 0 → wp_L_change_216 v x1 x2 r16 20 0 z16_v Q) ∧
  (¬ y16_3 = 0 → wo_X6_moleOf z16_v r16 2 (fun r208 =>
  wp_L_change_216 v x1 x2 r16 r208 0 z16_v Q)))) ∧
  (¬ r61 = 4 → ((r61 = 5 → ((y16_3 = 0 → wp_L_change_216 v x1 x2 r16 20 0 z16_v Q) ∧
  (¬ y16_3 = 0 → wo_X6_moleOf z16_v r16 2 (fun r208 =>
  wp_L_change_216 v x1 x2 r16 r208 0 z16_v Q)))) ∧
  (¬ r61 = 5 → ((r61 = 6 → ((y16_3 = 0 → wp_L_change_216 v x1 x2 r16 20 0 z16_v Q) ∧
  (¬ y16_3 = 0 → wo_X6_moleOf z16_v r16 2 (fun r208 =>
  wp_L_change_216 v x1 x2 r16 r208 0 z16_v Q)))) ∧
  (¬ r61 = 6 → ((r61 = 7 → ((y16_3 = 0 → wp_L_change_279 v x1 x2 y16_3 r16 z16_v 0  Q) ∧
  (¬ y16_3 = 0 → wo_X6_moleOf z16_v r16 2 (fun r276 =>
  wp_L_change_279 v x1 x2 y16_3 r16 z16_v r276  Q)))) ∧
  (¬ r61 = 7 → ((r61 = 8 → wo_X6_tuft z16_v (((8 * (2 + r38)) + 2) + r49) 1 (fun r313 z313_v =>
  wp_L_low (x2 >>> (8 &&& 31)) 10 (fun r327 =>
  wo_X6_root z313_v (((8 * (2 + r38)) + 2) + r49) r327 (fun r330 z330_v =>
  ((r330 = r313 → wo_X6_tuft z330_v (((8 * (2 + r38)) + 2) + r49) 1 (fun r342 z342_v =>
  wp_L_low (x2 >>> (8 &&& 31)) 10 (fun r351 =>
  ((r342 = r351 → Q 1 z342_v) ∧
  (¬ r342 = r351 → Q 0 z342_v))))) ∧
  (¬ r330 = r313 → Q 0 z330_v)))))) ∧
  (¬ r61 = 8 → ((r61 = 9 → wo_X6_count z16_v 7 (fun r366 z366_v =>
  wo_X6_tuft z366_v (((8 * (2 + r38)) + 2) + r49) 2 (fun r375 z375_v =>
  ((r375 = (-1) → wp_L_low (x2 >>> (8 &&& 31)) 21 (fun r391 =>
  wo_X6_trap z375_v (((8 * (2 + r38)) + 2) + r49) r391 (fun r394 z394_v =>
  ((r394 = (r366 + 1) → Q 1 z394_v) ∧
  (¬ r394 = (r366 + 1) → Q 0 z394_v))))) ∧
  (¬ r375 = (-1) → Q 1 z375_v))))) ∧
  (¬ r61 = 9 → ((r61 = 10 → (((x2 &&& 1) = 0 → wp_L_change_424 v x1 x2 z16_v (((8 * (2 + r38)) + 2) + r49)  Q) ∧
  (¬ (x2 &&& 1) = 0 → wp_L_change_424 v x1 x2 z16_v r26  Q))) ∧
  (¬ r61 = 10 → ((r61 = 11 → wp_L_rakes z16_v (((8 * (2 + r38)) + 2) + r49) (fun r431 z431_v =>
  bz r431 ∧ Q r431 z431_v)) ∧
  (¬ r61 = 11 → ((r61 = 12 → wo_X6_count z16_v 13 (fun r438 z438_v =>
  wp_L_low x2 10 (fun r448 =>
  wo_X6_set z438_v (2 + r448) (fun r452 z452_v =>
  ((r452 = r438 → Q 1 z452_v) ∧
  (¬ r452 = r438 → Q 0 z452_v)))))) ∧
  (¬ r61 = 12 → wo_X6_count z16_v 10 (fun r469 z469_v =>
  wp_L_low x2 6 (fun r479 =>
  wo_X6_pass z469_v (1 + r479) (fun r483 z483_v =>
  wo_X6_count z483_v 10 (fun r491 z491_v =>
  ((r491 = (r469 + r483) → Q 1 z491_v) ∧
  (¬ r491 = (r469 + r483) → Q 0 z491_v)))))))))))))))))))))))))))))))))))))
def wp_L_change (v : V_X6) (x1 : Int32) (x2 : Int32) (Q : Int32 → V_X6 → Prop) : Prop :=
  wo_X6_count v 1 (fun r2 z2_v =>
  ((r2 = 0 → wp_L_change_16 v x1 x2 r2 z2_v 1 x2  Q) ∧
  (¬ r2 = 0 → wp_L_change_16 v x1 x2 r2 z2_v r2 x2  Q)))
def q_L_change (dC : Nat → ClassId) (dI : Nat → Nat → Nat) (cy : Nat → ClassId) (a : Nat → Nat) (v : V_X6) (x1 : Int32) (x2 : Int32) (Q : Int32 → V_X6 → Prop) (A : Nat → Prop) : Array Value → State → Outcome → State → Prop := va_Qi (fun (r : Int32) (u : V_X6) => Q r u) (fun (u : V_X6) t => xAt dC dI cy A (wX6 cy a u) t) A
set_option maxHeartbeats 4000000 in
set_option maxRecDepth 100000 in
theorem c_L_change (l : Launch) (dC : Nat → ClassId) (dI : Nat → Nat → Nat) (cy : Nat → ClassId) (a : Nat → Nat) (sz : Nat) (v : V_X6) (x1 : Int32) (x2 : Int32) (Q : Int32 → V_X6 → Prop) (hq : wp_L_change v x1 x2 Q) : Met l yL_change wsL_change ({ frames := 9, cells := 0, slots := 0, locals := 208 } : Room) (va_Pc [.ref (a 0), .int x1, .int x2] (xPreE dC dI cy (wX6 cy a v) sz)) (q_L_change dC dI cy a v x1 x2 Q (va_A (wX6 cy a v) sz)) 0 0 (va_A (wX6 cy a v) sz) := by
  refine Met.ofW (cc := cL_change) (maxL := 9) (ret := (some .boolean)) (by decide) rfl ?_
  intro p e s m args below meth c s₁ B hml hv
  obtain ⟨rfl, hsz, hP, hK, hD0, hE⟩ := hv
  have hx := B.exec
  have hb := B.bytes
  have hr := B.returns
  have hts := atoms_spec (ws := wsL_change) B.pre
  have hown : s.vm.findClass RL = some m.cls := findClass_of_methodNamed B.named
  have hlocks := B.notSynchronized
  subst hsz
  have hD := hD0.self (sz := s.heap.size)
  generalize hAe : va_A (wX6 cy a v) s.heap.size = A at hD hE ⊢
  have hAe0 : ∀ q : Nat, s.heap.size ≤ q → A q := fun q h => by rw [← hAe]; exact Or.inr h
  have hS : va_S A s.heap s.heap [] := va_S.rf
  have hl := lv_entry ([.ref (a 0), .int x1, .int x2]) (n := 9) (Nat.le_of_ble_eq_true rfl)
  rw [lg_entry_eq]
  generalize (lg_sl ([.ref (a 0), .int x1, .int x2]) ++ List.replicate (9 - (lg_sl ([.ref (a 0), .int x1, .int x2])).length) Slot.unset).toArray = ls at hl ⊢
  have hl : lv_has ls 9 [(0, .ref (a 0)), (1, .int x1), (2, .int x2)] := hl
  unfold wp_L_change at hq
  have J424 : ∀ (z424_v : V_X6) (k424_0 : Int32) (H : Heap) (locs : List Loc) (ls : Array Slot), wp_L_change_424 v x1 x2 z424_v k424_0 Q → va_P (dC, dI) vwCl (wX6 cy a z424_v) H → va_D A (wX6 cy a z424_v) → va_S A s.heap H locs → lv_has ls 9 [] → W p l e (headSpec wsL_change ({ frames := 9, cells := 0, slots := 0, locals := 208 } : Room)).room s m ([.ref (a 0), .int x1, .int x2] : List Value).toArray below meth c H locs 0 0 (MQ below (q_L_change dC dI cy a v x1 x2 Q A) ([.ref (a 0), .int x1, .int x2] : List Value).toArray s 0 0 A) (F0 m 424 ls [.int k424_0, .ref (a 0)]) := by
    intro z424_v k424_0 H locs ls hq hP hD hS hl
    unfold wp_L_change_424 at hq
    have hFc := xfree_same hS hAe0 (ws := (wX6 cy a z424_v)) hD
    refine va_calli (va_runS (As := [.ref (a 0), .int k424_0]) (rest := []) ⟨hx, hb, hml, hown, hts⟩ (c_L_digs l dC dI cy a _ z424_v k424_0 _ hq) (va_cwS 2 hts gL_change_L_digs rfl rfl rfl (by decide +kernel) ⟨Nat.le_of_ble_eq_true rfl, Nat.le_of_ble_eq_true rfl⟩) ⟨xPre_blindE, xPre_ofE hP hK hD hE hS hFc⟩ rfl rfl hl.1 rfl (lv_room (Nat.le_of_ble_eq_true rfl)) dL_change_424 ⟨Nat.le_of_ble_eq_true rfl, Nat.le_of_ble_eq_true rfl⟩) hS (fun q _ h => hFc q h) hFc (fun r424 z424_v t H locs ht hvm hq hB hz1 hk1 hS => ?_)
    obtain ⟨hP1, -, hD1⟩ := hB
    rw [ht] at hP1
    have hP : va_P (dC, dI) vwCl (wX6 cy a z424_v) H := hP1
    have hD : va_D A (wX6 cy a z424_v) := hD1.weaken (fun _ q _ h => hFc q.1 h)
    obtain ⟨g1, hq⟩ := hq
    exact W.zret (v := r424) hx hb hr (bz_nar g1) (fun t ht hW => ⟨⟨r424, z424_v, rfl, hq, (xAt_of hP hK hD ht hW)⟩, hS.F ht⟩) hS.2.2 dL_change_427
  have J279 : ∀ (y279_3 : Int32) (y279_4 : Int32) (z279_v : V_X6) (k279_0 : Int32) (H : Heap) (locs : List Loc) (ls : Array Slot), wp_L_change_279 v x1 x2 y279_3 y279_4 z279_v k279_0 Q → va_P (dC, dI) vwCl (wX6 cy a z279_v) H → va_D A (wX6 cy a z279_v) → va_S A s.heap H locs → lv_has ls 9 [(0, .ref (a 0)), (2, .int x2), (3, .int y279_3), (4, .int y279_4)] → W p l e (headSpec wsL_change ({ frames := 9, cells := 0, slots := 0, locals := 208 } : Room)).room s m ([.ref (a 0), .int x1, .int x2] : List Value).toArray below meth c H locs 0 0 (MQ below (q_L_change dC dI cy a v x1 x2 Q A) ([.ref (a 0), .int x1, .int x2] : List Value).toArray s 0 0 A) (F0 m 279 ls [.int k279_0]) := by
    intro y279_3 y279_4 z279_v k279_0 H locs ls hq hP hD hS hl
    unfold wp_L_change_279 at hq
    refine lv_istore (lv' := [(7, .int k279_0), (0, .ref (a 0)), (2, .int x2), (3, .int y279_3), (4, .int y279_4)]) hx hb dL_change_279 hl (by decide) rfl (fun ls hl => ?_)
    refine lv_iload_n hx hb dL_change_281 rfl (lv_at hl 3 rfl) ?_
    obtain ⟨hqA, hqB⟩ := hq
    refine lv_if_eq (tgt := 303) hx hb dL_change_282 (by decide) (fun c4 => ?_) (fun c4 => ?_)
    · have hq := hqA c4
      refine lv_iconst (v := 1) hx hb dL_change_303 (by decide) ?_
      refine lv_goto (tgt := 308) hx hb dL_change_304 (by decide) ?_
      exact W.zret (v := 1) hx hb hr rfl (fun t ht hW => ⟨⟨1, z279_v, rfl, hq, (xAt_of hP hK hD ht hW)⟩, hS.F ht⟩) hS.2.2 dL_change_308
    · have hq := hqB c4
      refine lv_iload_n hx hb dL_change_285 rfl (lv_at hl 2 rfl) ?_
      refine lv_bipush (v := 7) hx hb dL_change_286 (by decide) ?_
      refine lv_iand hx hb dL_change_288 ?_
      obtain ⟨hqA, hqB⟩ := hq
      refine lv_if_ne (tgt := 303) hx hb dL_change_289 (by decide) (fun c3 => ?_) (fun c3 => ?_)
      · have hq := hqB c3
        refine lv_iconst (v := 1) hx hb dL_change_303 (by decide) ?_
        refine lv_goto (tgt := 308) hx hb dL_change_304 (by decide) ?_
        exact W.zret (v := 1) hx hb hr rfl (fun t ht hW => ⟨⟨1, z279_v, rfl, hq, (xAt_of hP hK hD ht hW)⟩, hS.F ht⟩) hS.2.2 dL_change_308
      · have hq := hqA c3
        refine lv_aload_n hx hb dL_change_292 rfl (lv_at hl 1 rfl) ?_
        refine lv_iload hx hb dL_change_293 (lv_at hl 4 rfl) ?_
        have hFc := xfree_same hS hAe0 (ws := (wX6 cy a z279_v)) hD
        refine va_calli (va_runV (As := [.int y279_4]) (rest := []) ⟨hx, hb, hml, hown, hts⟩ (co_X6_rest l dC dI cy a _ z279_v y279_4 _ hq) (cwV 1 hts gL_change_X6_rest rfl rfl rfl (by decide +kernel) ⟨Nat.le_of_ble_eq_true rfl, Nat.le_of_ble_eq_true rfl⟩) ⟨xPre_blind, va_recv hK hP (ci := 6) (q0 := 0) rfl rfl, xPre_of hP hK hD⟩ rfl rfl hl.1 rfl (lv_room (Nat.le_of_ble_eq_true rfl)) dL_change_295 ⟨Nat.le_of_ble_eq_true rfl, Nat.le_of_ble_eq_true rfl⟩) hS (fun q _ h => hFc q h) hFc (fun r295 z295_v t H locs ht hvm hq hB hz1 hk1 hS => ?_)
        obtain ⟨hP1, -, hD1⟩ := hB
        rw [ht] at hP1
        have hP : va_P (dC, dI) vwCl (wX6 cy a z295_v) H := hP1
        have hD : va_D A (wX6 cy a z295_v) := hD1.weaken (fun _ q _ h => hFc q.1 h)
        refine lv_iload hx hb dL_change_298 (lv_at hl 0 rfl) ?_
        obtain ⟨hqA, hqB⟩ := hq
        refine lv_icmp_ne (tgt := 307) hx hb dL_change_300 (by decide) (fun c2 => ?_) (fun c2 => ?_)
        · have hq := hqB c2
          refine lv_iconst (v := 0) hx hb dL_change_307 (by decide) ?_
          exact W.zret (v := 0) hx hb hr rfl (fun t ht hW => ⟨⟨0, z295_v, rfl, hq, (xAt_of hP hK hD ht hW)⟩, hS.F ht⟩) hS.2.2 dL_change_308
        · have hq := hqA c2
          refine lv_iconst (v := 1) hx hb dL_change_303 (by decide) ?_
          refine lv_goto (tgt := 308) hx hb dL_change_304 (by decide) ?_
          exact W.zret (v := 1) hx hb hr rfl (fun t ht hW => ⟨⟨1, z295_v, rfl, hq, (xAt_of hP hK hD ht hW)⟩, hS.F ht⟩) hS.2.2 dL_change_308
  have J216 : ∀ (y216_4 : Int32) (y216_7 : Int32) (y216_8 : Int32) (z216_v : V_X6) (H : Heap) (locs : List Loc) (ls : Array Slot), wp_L_change_216 v x1 x2 y216_4 y216_7 y216_8 z216_v Q → va_P (dC, dI) vwCl (wX6 cy a z216_v) H → va_D A (wX6 cy a z216_v) → va_S A s.heap H locs → lv_has ls 9 [(0, .ref (a 0)), (2, .int x2), (4, .int y216_4), (7, .int y216_7), (8, .int y216_8)] → W p l e (headSpec wsL_change ({ frames := 9, cells := 0, slots := 0, locals := 208 } : Room)).room s m ([.ref (a 0), .int x1, .int x2] : List Value).toArray below meth c H locs 0 0 (MQ below (q_L_change dC dI cy a v x1 x2 Q A) ([.ref (a 0), .int x1, .int x2] : List Value).toArray s 0 0 A) (F0 m 216 ls []) := by
    intro y216_4 y216_7 y216_8 z216_v H locs ls hq hP hD hS hl
    obtain ⟨I216, μ216, h0, hs216⟩ := hq
    have key : ∀ (n : Nat) (y216_7 : Int32) (y216_8 : Int32) (z216_v : V_X6) (H : Heap) (locs : List Loc) (ls : Array Slot), I216 y216_7 y216_8 z216_v → μ216 y216_7 y216_8 z216_v < n → va_P (dC, dI) vwCl (wX6 cy a z216_v) H → va_D A (wX6 cy a z216_v) → va_S A s.heap H locs → lv_has ls 9 [(0, .ref (a 0)), (2, .int x2), (4, .int y216_4), (7, .int y216_7), (8, .int y216_8)] → W p l e (headSpec wsL_change ({ frames := 9, cells := 0, slots := 0, locals := 208 } : Room)).room s m ([.ref (a 0), .int x1, .int x2] : List Value).toArray below meth c H locs 0 0 (MQ below (q_L_change dC dI cy a v x1 x2 Q A) ([.ref (a 0), .int x1, .int x2] : List Value).toArray s 0 0 A) (F0 m 216 ls []) := by
      intro n
      induction n with
      | zero => intro y216_7 y216_8 z216_v H locs ls _ hm; exact absurd hm (Nat.not_lt_zero _)
      | succ n ih =>
        intro y216_7 y216_8 z216_v H locs ls hI hm hP hD hS hl
        have hq := hs216 y216_7 y216_8 z216_v hI
        generalize hB216 : (fun (t0 : Int32) (t1 : Int32) (t2 : V_X6) => I216 t0 t1 t2 ∧ μ216 t0 t1 t2 < μ216 y216_7 y216_8 z216_v) = B216 at hq
        have bk216 : ∀ (y216_7 : Int32) (y216_8 : Int32) (z216_v : V_X6) (H : Heap) (locs : List Loc) (ls : Array Slot), B216 y216_7 y216_8 z216_v → va_P (dC, dI) vwCl (wX6 cy a z216_v) H → va_D A (wX6 cy a z216_v) → va_S A s.heap H locs → lv_has ls 9 [(0, .ref (a 0)), (2, .int x2), (4, .int y216_4), (7, .int y216_7), (8, .int y216_8)] → W p l e (headSpec wsL_change ({ frames := 9, cells := 0, slots := 0, locals := 208 } : Room)).room s m ([.ref (a 0), .int x1, .int x2] : List Value).toArray below meth c H locs 0 0 (MQ below (q_L_change dC dI cy a v x1 x2 Q A) ([.ref (a 0), .int x1, .int x2] : List Value).toArray s 0 0 A) (F0 m 216 ls []) := by
          intro y216_7 y216_8 z216_v H locs ls h
          rw [← hB216] at h
          exact ih y216_7 y216_8 z216_v H locs ls h.1 (Nat.lt_of_lt_of_le h.2 (Nat.le_of_lt_succ hm))
        unfold wb_L_change_216 at hq
        refine lv_iload hx hb dL_change_216 (lv_at hl 4 rfl) ?_
        refine lv_iconst (v := 4) hx hb dL_change_218 (by decide) ?_
        obtain ⟨hqA, hqB⟩ := hq
        refine lv_icmp_ge (tgt := 262) hx hb dL_change_219 (by decide) (fun c7 => ?_) (fun c7 => ?_)
        · have hq := hqA c7
          refine lv_iconst (v := 1) hx hb dL_change_262 (by decide) ?_
          exact W.zret (v := 1) hx hb hr rfl (fun t ht hW => ⟨⟨1, z216_v, rfl, hq, (xAt_of hP hK hD ht hW)⟩, hS.F ht⟩) hS.2.2 dL_change_263
        · have hq := hqB c7
          refine lv_iload hx hb dL_change_222 (lv_at hl 3 rfl) ?_
          refine lv_bipush (v := 20) hx hb dL_change_224 (by decide) ?_
          obtain ⟨hqA, hqB⟩ := hq
          refine lv_icmp_ge (tgt := 262) hx hb dL_change_226 (by decide) (fun c6 => ?_) (fun c6 => ?_)
          · have hq := hqA c6
            refine lv_iconst (v := 1) hx hb dL_change_262 (by decide) ?_
            exact W.zret (v := 1) hx hb hr rfl (fun t ht hW => ⟨⟨1, z216_v, rfl, hq, (xAt_of hP hK hD ht hW)⟩, hS.F ht⟩) hS.2.2 dL_change_263
          · have hq := hqB c6
            refine lv_iinc (v := (y216_7 + 1)) (lv' := [(7, .int (y216_7 + 1)), (0, .ref (a 0)), (2, .int x2), (4, .int y216_4), (8, .int y216_8)]) hx hb dL_change_229 hl (k := 3) rfl rfl (by decide) rfl (fun ls hl => ?_)
            refine lv_aload_n hx hb dL_change_232 rfl (lv_at hl 1 rfl) ?_
            refine lv_iload hx hb dL_change_233 (lv_at hl 3 rfl) ?_
            refine lv_iload_n hx hb dL_change_235 rfl (lv_at hl 2 rfl) ?_
            refine lv_bipush (v := 6) hx hb dL_change_236 (by decide) ?_
            refine lv_iconst (v := 2) hx hb dL_change_238 (by decide) ?_
            refine lv_iload hx hb dL_change_239 (lv_at hl 4 rfl) ?_
            refine lv_imul hx hb dL_change_241 ?_
            refine lv_iadd hx hb dL_change_242 ?_
            refine lv_ishr hx hb dL_change_243 ?_
            refine lv_iconst (v := 3) hx hb dL_change_244 (by decide) ?_
            refine lv_iand hx hb dL_change_245 ?_
            have hFc := xfree_same hS hAe0 (ws := (wX6 cy a z216_v)) hD
            refine va_calli (va_runV (As := [.int y216_4, .int ((x2 >>> ((6 + (2 * y216_8)) &&& 31)) &&& 3)]) (rest := []) ⟨hx, hb, hml, hown, hts⟩ (co_X6_plan l dC dI cy a _ z216_v y216_4 ((x2 >>> ((6 + (2 * y216_8)) &&& 31)) &&& 3) _ hq) (cwV 2 hts gL_change_X6_plan rfl rfl rfl (by decide +kernel) ⟨Nat.le_of_ble_eq_true rfl, Nat.le_of_ble_eq_true rfl⟩) ⟨xPre_blind, va_recv hK hP (ci := 6) (q0 := 0) rfl rfl, xPre_of hP hK hD⟩ rfl rfl hl.1 rfl (lv_room (Nat.le_of_ble_eq_true rfl)) dL_change_246 ⟨Nat.le_of_ble_eq_true rfl, Nat.le_of_ble_eq_true rfl⟩) hS (fun q _ h => hFc q h) hFc (fun r246 z246_v t H locs ht hvm hq hB hz1 hk1 hS => ?_)
            obtain ⟨hP1, -, hD1⟩ := hB
            rw [ht] at hP1
            have hP : va_P (dC, dI) vwCl (wX6 cy a z246_v) H := hP1
            have hD : va_D A (wX6 cy a z246_v) := hD1.weaken (fun _ q _ h => hFc q.1 h)
            refine lv_iload hx hb dL_change_249 (lv_at hl 0 rfl) ?_
            obtain ⟨hqA, hqB⟩ := hq
            refine lv_icmp_eq (tgt := 256) hx hb dL_change_251 (by decide) (fun c5 => ?_) (fun c5 => ?_)
            · have hq := hqA c5
              refine lv_iinc (v := (y216_8 + 1)) (lv' := [(8, .int (y216_8 + 1)), (7, .int (y216_7 + 1)), (0, .ref (a 0)), (2, .int x2), (4, .int y216_4)]) hx hb dL_change_256 hl (k := 4) rfl rfl (by decide) rfl (fun ls hl => ?_)
              refine lv_goto (tgt := 216) hx hb dL_change_259 (by decide) ?_
              exact bk216 (y216_7 + 1) (y216_8 + 1) z246_v _ _ _ hq hP hD hS (lv_sub hl [2, 3, 4, 1, 0] rfl)
            · have hq := hqB c5
              refine lv_iconst (v := 0) hx hb dL_change_254 (by decide) ?_
              exact W.zret (v := 0) hx hb hr rfl (fun t ht hW => ⟨⟨0, z246_v, rfl, hq, (xAt_of hP hK hD ht hW)⟩, hS.F ht⟩) hS.2.2 dL_change_255
    exact key _ y216_7 y216_8 z216_v H locs ls h0 (Nat.lt_succ_self _) hP hD hS hl
  have J16 : ∀ (y16_3 : Int32) (z16_v : V_X6) (k16_0 : Int32) (k16_1 : Int32) (H : Heap) (locs : List Loc) (ls : Array Slot), wp_L_change_16 v x1 x2 y16_3 z16_v k16_0 k16_1 Q → va_P (dC, dI) vwCl (wX6 cy a z16_v) H → va_D A (wX6 cy a z16_v) → va_S A s.heap H locs → lv_has ls 9 [(0, .ref (a 0)), (1, .int x1), (2, .int x2), (3, .int y16_3)] → W p l e (headSpec wsL_change ({ frames := 9, cells := 0, slots := 0, locals := 208 } : Room)).room s m ([.ref (a 0), .int x1, .int x2] : List Value).toArray below meth c H locs 0 0 (MQ below (q_L_change dC dI cy a v x1 x2 Q A) ([.ref (a 0), .int x1, .int x2] : List Value).toArray s 0 0 A) (F0 m 16 ls [.int k16_0, .int k16_1]) := by
    intro y16_3 z16_v k16_0 k16_1 H locs ls hq hP hD hS hl
    unfold wp_L_change_16 at hq
    have hFc := xfree_none hS hAe0
    refine va_calli (va_runS (As := [.int k16_1, .int k16_0]) (rest := []) ⟨hx, hb, hml, hown, hts⟩ (c_L_low l dC dI cy  _ k16_1 k16_0 _ hq) (va_cwS 2 hts gL_change_L_low rfl rfl rfl (by decide +kernel) ⟨Nat.le_of_ble_eq_true rfl, Nat.le_of_ble_eq_true rfl⟩) ⟨xPre_blind, xPre_of xP_nil hK (xD_nil (A := A))⟩ rfl rfl hl.1 rfl (lv_room (Nat.le_of_ble_eq_true rfl)) dL_change_16 ⟨Nat.le_of_ble_eq_true rfl, Nat.le_of_ble_eq_true rfl⟩) hS (fun q _ h => hFc q h) hFc (fun r16 u9 t H locs ht hvm hq hB hz1 hk1 hS => ?_)
    have hP := xj_none hP hk1
    refine lv_istore (lv' := [(4, .int r16), (0, .ref (a 0)), (1, .int x1), (2, .int x2), (3, .int y16_3)]) hx hb dL_change_19 hl (by decide) rfl (fun ls hl => ?_)
    refine lv_iload_n hx hb dL_change_21 rfl (lv_at hl 3 rfl) ?_
    refine lv_iconst (v := 2) hx hb dL_change_22 (by decide) ?_
    refine lv_ishr hx hb dL_change_23 ?_
    refine lv_bipush (v := 64) hx hb dL_change_24 (by decide) ?_
    have hFc := xfree_none hS hAe0
    refine va_calli (va_runS (As := [.int (x2 >>> (2 &&& 31)), .int 64]) (rest := []) ⟨hx, hb, hml, hown, hts⟩ (c_L_low l dC dI cy  _ (x2 >>> (2 &&& 31)) 64 _ hq) (va_cwS 2 hts gL_change_L_low rfl rfl rfl (by decide +kernel) ⟨Nat.le_of_ble_eq_true rfl, Nat.le_of_ble_eq_true rfl⟩) ⟨xPre_blind, xPre_of xP_nil hK (xD_nil (A := A))⟩ rfl rfl hl.1 rfl (lv_room (Nat.le_of_ble_eq_true rfl)) dL_change_26 ⟨Nat.le_of_ble_eq_true rfl, Nat.le_of_ble_eq_true rfl⟩) hS (fun q _ h => hFc q h) hFc (fun r26 u9 t H locs ht hvm hq hB hz1 hk1 hS => ?_)
    have hP := xj_none hP hk1
    refine lv_istore (lv' := [(5, .int r26), (4, .int r16), (0, .ref (a 0)), (1, .int x1), (2, .int x2), (3, .int y16_3)]) hx hb dL_change_29 hl (by decide) rfl (fun ls hl => ?_)
    refine lv_bipush (v := 8) hx hb dL_change_31 (by decide) ?_
    refine lv_iconst (v := 2) hx hb dL_change_33 (by decide) ?_
    refine lv_iload_n hx hb dL_change_34 rfl (lv_at hl 4 rfl) ?_
    refine lv_iconst (v := 2) hx hb dL_change_35 (by decide) ?_
    refine lv_ishr hx hb dL_change_36 ?_
    refine lv_iconst (v := 4) hx hb dL_change_37 (by decide) ?_
    have hFc := xfree_none hS hAe0
    refine va_calli (va_runS (As := [.int (x2 >>> (2 &&& 31)), .int 4]) (rest := [.int 2, .int 8]) ⟨hx, hb, hml, hown, hts⟩ (c_L_low l dC dI cy  _ (x2 >>> (2 &&& 31)) 4 _ hq) (va_cwS 2 hts gL_change_L_low rfl rfl rfl (by decide +kernel) ⟨Nat.le_of_ble_eq_true rfl, Nat.le_of_ble_eq_true rfl⟩) ⟨xPre_blind, xPre_of xP_nil hK (xD_nil (A := A))⟩ rfl rfl hl.1 rfl (lv_room (Nat.le_of_ble_eq_true rfl)) dL_change_38 ⟨Nat.le_of_ble_eq_true rfl, Nat.le_of_ble_eq_true rfl⟩) hS (fun q _ h => hFc q h) hFc (fun r38 u9 t H locs ht hvm hq hB hz1 hk1 hS => ?_)
    have hP := xj_none hP hk1
    refine lv_iadd hx hb dL_change_41 ?_
    refine lv_imul hx hb dL_change_42 ?_
    refine lv_iconst (v := 2) hx hb dL_change_43 (by decide) ?_
    refine lv_iadd hx hb dL_change_44 ?_
    refine lv_iload_n hx hb dL_change_45 rfl (lv_at hl 4 rfl) ?_
    refine lv_iconst (v := 5) hx hb dL_change_46 (by decide) ?_
    refine lv_ishr hx hb dL_change_47 ?_
    refine lv_iconst (v := 4) hx hb dL_change_48 (by decide) ?_
    have hFc := xfree_none hS hAe0
    refine va_calli (va_runS (As := [.int (x2 >>> (5 &&& 31)), .int 4]) (rest := [.int ((8 * (2 + r38)) + 2)]) ⟨hx, hb, hml, hown, hts⟩ (c_L_low l dC dI cy  _ (x2 >>> (5 &&& 31)) 4 _ hq) (va_cwS 2 hts gL_change_L_low rfl rfl rfl (by decide +kernel) ⟨Nat.le_of_ble_eq_true rfl, Nat.le_of_ble_eq_true rfl⟩) ⟨xPre_blind, xPre_of xP_nil hK (xD_nil (A := A))⟩ rfl rfl hl.1 rfl (lv_room (Nat.le_of_ble_eq_true rfl)) dL_change_49 ⟨Nat.le_of_ble_eq_true rfl, Nat.le_of_ble_eq_true rfl⟩) hS (fun q _ h => hFc q h) hFc (fun r49 u9 t H locs ht hvm hq hB hz1 hk1 hS => ?_)
    have hP := xj_none hP hk1
    refine lv_iadd hx hb dL_change_52 ?_
    refine lv_istore (lv' := [(6, .int (((8 * (2 + r38)) + 2) + r49)), (5, .int r26), (4, .int r16), (0, .ref (a 0)), (1, .int x1), (2, .int x2), (3, .int y16_3)]) hx hb dL_change_53 hl (by decide) rfl (fun ls hl => ?_)
    refine lv_iconst (v := 0) hx hb dL_change_55 (by decide) ?_
    refine lv_istore (lv' := [(7, .int 0), (6, .int (((8 * (2 + r38)) + 2) + r49)), (5, .int r26), (4, .int r16), (0, .ref (a 0)), (1, .int x1), (2, .int x2), (3, .int y16_3)]) hx hb dL_change_56 hl (by decide) rfl (fun ls hl => ?_)
    refine lv_iload_n hx hb dL_change_58 rfl (lv_at hl 5 rfl) ?_
    refine lv_bipush (v := 16) hx hb dL_change_59 (by decide) ?_
    have hFc := xfree_none hS hAe0
    refine va_calli (va_runS (As := [.int x1, .int 16]) (rest := []) ⟨hx, hb, hml, hown, hts⟩ (c_L_low l dC dI cy  _ x1 16 _ hq) (va_cwS 2 hts gL_change_L_low rfl rfl rfl (by decide +kernel) ⟨Nat.le_of_ble_eq_true rfl, Nat.le_of_ble_eq_true rfl⟩) ⟨xPre_blind, xPre_of xP_nil hK (xD_nil (A := A))⟩ rfl rfl hl.1 rfl (lv_room (Nat.le_of_ble_eq_true rfl)) dL_change_61 ⟨Nat.le_of_ble_eq_true rfl, Nat.le_of_ble_eq_true rfl⟩) hS (fun q _ h => hFc q h) hFc (fun r61 u9 t H locs ht hvm hq hB hz1 hk1 hS => ?_)
    have hP := xj_none hP hk1
    obtain ⟨hqA, hqB⟩ := hq
    by_cases n0 : r61 = 0
    · have hq := hqA n0
      refine lv_tableIn (tgt := 132) (off := 68) hx hb dL_change_64 (by rw [n0]; decide) (by rw [n0]; decide) (by rw [n0]; decide) (by decide) ?_
      refine lv_iload_n hx hb dL_change_132 rfl (lv_at hl 7 rfl) ?_
      refine lv_iconst (v := 4) hx hb dL_change_133 (by decide) ?_
      obtain ⟨hqA, hqB⟩ := hq
      refine lv_icmp_eq (tgt := 189) hx hb dL_change_134 (by decide) (fun c13 => ?_) (fun c13 => ?_)
      · have hq := hqA c13
        refine lv_iconst (v := 1) hx hb dL_change_189 (by decide) ?_
        refine lv_goto (tgt := 194) hx hb dL_change_190 (by decide) ?_
        exact W.zret (v := 1) hx hb hr rfl (fun t ht hW => ⟨⟨1, z16_v, rfl, hq, (xAt_of hP hK hD ht hW)⟩, hS.F ht⟩) hS.2.2 dL_change_194
      · have hq := hqB c13
        refine lv_aload_n hx hb dL_change_137 rfl (lv_at hl 4 rfl) ?_
        refine lv_iload hx hb dL_change_138 (lv_at hl 1 rfl) ?_
        refine lv_iconst (v := 1) hx hb dL_change_140 (by decide) ?_
        have hFc := xfree_same hS hAe0 (ws := (wX6 cy a z16_v)) hD
        refine va_calli (va_runV (As := [.int (((8 * (2 + r38)) + 2) + r49), .int 1]) (rest := []) ⟨hx, hb, hml, hown, hts⟩ (co_X6_tuft l dC dI cy a _ z16_v (((8 * (2 + r38)) + 2) + r49) 1 _ hq) (cwV 2 hts gL_change_X6_tuft rfl rfl rfl (by decide +kernel) ⟨Nat.le_of_ble_eq_true rfl, Nat.le_of_ble_eq_true rfl⟩) ⟨xPre_blindE, va_recv hK hP (ci := 6) (q0 := 0) rfl rfl, xPre_ofE hP hK hD hE hS hFc⟩ rfl rfl hl.1 rfl (lv_room (Nat.le_of_ble_eq_true rfl)) dL_change_141 ⟨Nat.le_of_ble_eq_true rfl, Nat.le_of_ble_eq_true rfl⟩) hS (fun q _ h => hFc q h) hFc (fun r141 z141_v t H locs ht hvm hq hB hz1 hk1 hS => ?_)
        obtain ⟨hP1, -, hD1⟩ := hB
        rw [ht] at hP1
        have hP : va_P (dC, dI) vwCl (wX6 cy a z141_v) H := hP1
        have hD : va_D A (wX6 cy a z141_v) := hD1.weaken (fun _ q _ h => hFc q.1 h)
        obtain ⟨hqA, hqB⟩ := hq
        refine lv_if_gt (tgt := 189) hx hb dL_change_144 (by decide) (fun c12 => ?_) (fun c12 => ?_)
        · have hq := hqA c12
          refine lv_iconst (v := 1) hx hb dL_change_189 (by decide) ?_
          refine lv_goto (tgt := 194) hx hb dL_change_190 (by decide) ?_
          exact W.zret (v := 1) hx hb hr rfl (fun t ht hW => ⟨⟨1, z141_v, rfl, hq, (xAt_of hP hK hD ht hW)⟩, hS.F ht⟩) hS.2.2 dL_change_194
        · have hq := hqB c12
          refine lv_aload_n hx hb dL_change_147 rfl (lv_at hl 4 rfl) ?_
          refine lv_iload hx hb dL_change_148 (lv_at hl 1 rfl) ?_
          have hFc := xfree_same hS hAe0 (ws := (wX6 cy a z141_v)) hD
          refine va_calli (va_runV (As := [.int (((8 * (2 + r38)) + 2) + r49)]) (rest := []) ⟨hx, hb, hml, hown, hts⟩ (co_X6_mole l dC dI cy a _ z141_v (((8 * (2 + r38)) + 2) + r49) _ hq) (cwV 1 hts gL_change_X6_mole rfl rfl rfl (by decide +kernel) ⟨Nat.le_of_ble_eq_true rfl, Nat.le_of_ble_eq_true rfl⟩) ⟨xPre_blind, va_recv hK hP (ci := 6) (q0 := 0) rfl rfl, xPre_of hP hK hD⟩ rfl rfl hl.1 rfl (lv_room (Nat.le_of_ble_eq_true rfl)) dL_change_150 ⟨Nat.le_of_ble_eq_true rfl, Nat.le_of_ble_eq_true rfl⟩) hS (fun q _ h => hFc q h) hFc (fun r150 z150_v t H locs ht hvm hq hB hz1 hk1 hS => ?_)
          obtain ⟨hP1, -, hD1⟩ := hB
          rw [ht] at hP1
          have hP : va_P (dC, dI) vwCl (wX6 cy a z150_v) H := hP1
          have hD : va_D A (wX6 cy a z150_v) := hD1.weaken (fun _ q _ h => hFc q.1 h)
          refine lv_iload_n hx hb dL_change_153 rfl (lv_at hl 7 rfl) ?_
          obtain ⟨hqA, hqB⟩ := hq
          refine lv_icmp_ne (tgt := 193) hx hb dL_change_154 (by decide) (fun c11 => ?_) (fun c11 => ?_)
          · have hq := hqB c11
            refine lv_iconst (v := 0) hx hb dL_change_193 (by decide) ?_
            exact W.zret (v := 0) hx hb hr rfl (fun t ht hW => ⟨⟨0, z150_v, rfl, hq, (xAt_of hP hK hD ht hW)⟩, hS.F ht⟩) hS.2.2 dL_change_194
          · have hq := hqA c11
            refine lv_aload_n hx hb dL_change_157 rfl (lv_at hl 4 rfl) ?_
            refine lv_iload_n hx hb dL_change_158 rfl (lv_at hl 7 rfl) ?_
            refine lv_iconst (v := 0) hx hb dL_change_159 (by decide) ?_
            have hFc := xfree_same hS hAe0 (ws := (wX6 cy a z150_v)) hD
            refine va_calli (va_runV (As := [.int y16_3, .int 0]) (rest := []) ⟨hx, hb, hml, hown, hts⟩ (co_X6_moleOf l dC dI cy a _ z150_v y16_3 0 _ hq) (cwV 2 hts gL_change_X6_moleOf rfl rfl rfl (by decide +kernel) ⟨Nat.le_of_ble_eq_true rfl, Nat.le_of_ble_eq_true rfl⟩) ⟨xPre_blind, va_recv hK hP (ci := 6) (q0 := 0) rfl rfl, xPre_of hP hK hD⟩ rfl rfl hl.1 rfl (lv_room (Nat.le_of_ble_eq_true rfl)) dL_change_160 ⟨Nat.le_of_ble_eq_true rfl, Nat.le_of_ble_eq_true rfl⟩) hS (fun q _ h => hFc q h) hFc (fun r160 u9 t H locs ht hvm hq hB hz1 hk1 hS => ?_)
            obtain ⟨hP1, -, hD1⟩ := hB
            rw [ht] at hP1
            have hP : va_P (dC, dI) vwCl (wX6 cy a z150_v) H := hP1
            have hD : va_D A (wX6 cy a z150_v) := hD1.weaken (fun _ q _ h => hFc q.1 h)
            refine lv_iload hx hb dL_change_163 (lv_at hl 1 rfl) ?_
            obtain ⟨hqA, hqB⟩ := hq
            refine lv_icmp_ne (tgt := 193) hx hb dL_change_165 (by decide) (fun c10 => ?_) (fun c10 => ?_)
            · have hq := hqB c10
              refine lv_iconst (v := 0) hx hb dL_change_193 (by decide) ?_
              exact W.zret (v := 0) hx hb hr rfl (fun t ht hW => ⟨⟨0, z150_v, rfl, hq, (xAt_of hP hK hD ht hW)⟩, hS.F ht⟩) hS.2.2 dL_change_194
            · have hq := hqA c10
              refine lv_aload_n hx hb dL_change_168 rfl (lv_at hl 4 rfl) ?_
              refine lv_iload_n hx hb dL_change_169 rfl (lv_at hl 7 rfl) ?_
              refine lv_iconst (v := 5) hx hb dL_change_170 (by decide) ?_
              have hFc := xfree_same hS hAe0 (ws := (wX6 cy a z150_v)) hD
              refine va_calli (va_runV (As := [.int y16_3, .int 5]) (rest := []) ⟨hx, hb, hml, hown, hts⟩ (co_X6_moleOf l dC dI cy a _ z150_v y16_3 5 _ hq) (cwV 2 hts gL_change_X6_moleOf rfl rfl rfl (by decide +kernel) ⟨Nat.le_of_ble_eq_true rfl, Nat.le_of_ble_eq_true rfl⟩) ⟨xPre_blind, va_recv hK hP (ci := 6) (q0 := 0) rfl rfl, xPre_of hP hK hD⟩ rfl rfl hl.1 rfl (lv_room (Nat.le_of_ble_eq_true rfl)) dL_change_171 ⟨Nat.le_of_ble_eq_true rfl, Nat.le_of_ble_eq_true rfl⟩) hS (fun q _ h => hFc q h) hFc (fun r171 u9 t H locs ht hvm hq hB hz1 hk1 hS => ?_)
              obtain ⟨hP1, -, hD1⟩ := hB
              rw [ht] at hP1
              have hP : va_P (dC, dI) vwCl (wX6 cy a z150_v) H := hP1
              have hD : va_D A (wX6 cy a z150_v) := hD1.weaken (fun _ q _ h => hFc q.1 h)
              refine lv_iconst (v := 1) hx hb dL_change_174 (by decide) ?_
              obtain ⟨hqA, hqB⟩ := hq
              refine lv_icmp_ne (tgt := 193) hx hb dL_change_175 (by decide) (fun c9 => ?_) (fun c9 => ?_)
              · have hq := hqB c9
                refine lv_iconst (v := 0) hx hb dL_change_193 (by decide) ?_
                exact W.zret (v := 0) hx hb hr rfl (fun t ht hW => ⟨⟨0, z150_v, rfl, hq, (xAt_of hP hK hD ht hW)⟩, hS.F ht⟩) hS.2.2 dL_change_194
              · have hq := hqA c9
                refine lv_aload_n hx hb dL_change_178 rfl (lv_at hl 4 rfl) ?_
                refine lv_iload hx hb dL_change_179 (lv_at hl 1 rfl) ?_
                refine lv_iconst (v := 0) hx hb dL_change_181 (by decide) ?_
                have hFc := xfree_same hS hAe0 (ws := (wX6 cy a z150_v)) hD
                refine va_calli (va_runV (As := [.int (((8 * (2 + r38)) + 2) + r49), .int 0]) (rest := []) ⟨hx, hb, hml, hown, hts⟩ (co_X6_tuft l dC dI cy a _ z150_v (((8 * (2 + r38)) + 2) + r49) 0 _ hq) (cwV 2 hts gL_change_X6_tuft rfl rfl rfl (by decide +kernel) ⟨Nat.le_of_ble_eq_true rfl, Nat.le_of_ble_eq_true rfl⟩) ⟨xPre_blindE, va_recv hK hP (ci := 6) (q0 := 0) rfl rfl, xPre_ofE hP hK hD hE hS hFc⟩ rfl rfl hl.1 rfl (lv_room (Nat.le_of_ble_eq_true rfl)) dL_change_182 ⟨Nat.le_of_ble_eq_true rfl, Nat.le_of_ble_eq_true rfl⟩) hS (fun q _ h => hFc q h) hFc (fun r182 z182_v t H locs ht hvm hq hB hz1 hk1 hS => ?_)
                obtain ⟨hP1, -, hD1⟩ := hB
                rw [ht] at hP1
                have hP : va_P (dC, dI) vwCl (wX6 cy a z182_v) H := hP1
                have hD : va_D A (wX6 cy a z182_v) := hD1.weaken (fun _ q _ h => hFc q.1 h)
                refine lv_iconst (v := 1) hx hb dL_change_185 (by decide) ?_
                obtain ⟨hqA, hqB⟩ := hq
                refine lv_icmp_ne (tgt := 193) hx hb dL_change_186 (by decide) (fun c8 => ?_) (fun c8 => ?_)
                · have hq := hqB c8
                  refine lv_iconst (v := 0) hx hb dL_change_193 (by decide) ?_
                  exact W.zret (v := 0) hx hb hr rfl (fun t ht hW => ⟨⟨0, z182_v, rfl, hq, (xAt_of hP hK hD ht hW)⟩, hS.F ht⟩) hS.2.2 dL_change_194
                · have hq := hqA c8
                  refine lv_iconst (v := 1) hx hb dL_change_189 (by decide) ?_
                  refine lv_goto (tgt := 194) hx hb dL_change_190 (by decide) ?_
                  exact W.zret (v := 1) hx hb hr rfl (fun t ht hW => ⟨⟨1, z182_v, rfl, hq, (xAt_of hP hK hD ht hW)⟩, hS.F ht⟩) hS.2.2 dL_change_194
    · have hq := hqB n0
      obtain ⟨hqA, hqB⟩ := hq
      by_cases n1 : r61 = 1
      · have hq := hqA n1
        refine lv_tableIn (tgt := 132) (off := 68) hx hb dL_change_64 (by rw [n1]; decide) (by rw [n1]; decide) (by rw [n1]; decide) (by decide) ?_
        refine lv_iload_n hx hb dL_change_132 rfl (lv_at hl 7 rfl) ?_
        refine lv_iconst (v := 4) hx hb dL_change_133 (by decide) ?_
        obtain ⟨hqA, hqB⟩ := hq
        refine lv_icmp_eq (tgt := 189) hx hb dL_change_134 (by decide) (fun c19 => ?_) (fun c19 => ?_)
        · have hq := hqA c19
          refine lv_iconst (v := 1) hx hb dL_change_189 (by decide) ?_
          refine lv_goto (tgt := 194) hx hb dL_change_190 (by decide) ?_
          exact W.zret (v := 1) hx hb hr rfl (fun t ht hW => ⟨⟨1, z16_v, rfl, hq, (xAt_of hP hK hD ht hW)⟩, hS.F ht⟩) hS.2.2 dL_change_194
        · have hq := hqB c19
          refine lv_aload_n hx hb dL_change_137 rfl (lv_at hl 4 rfl) ?_
          refine lv_iload hx hb dL_change_138 (lv_at hl 1 rfl) ?_
          refine lv_iconst (v := 1) hx hb dL_change_140 (by decide) ?_
          have hFc := xfree_same hS hAe0 (ws := (wX6 cy a z16_v)) hD
          refine va_calli (va_runV (As := [.int (((8 * (2 + r38)) + 2) + r49), .int 1]) (rest := []) ⟨hx, hb, hml, hown, hts⟩ (co_X6_tuft l dC dI cy a _ z16_v (((8 * (2 + r38)) + 2) + r49) 1 _ hq) (cwV 2 hts gL_change_X6_tuft rfl rfl rfl (by decide +kernel) ⟨Nat.le_of_ble_eq_true rfl, Nat.le_of_ble_eq_true rfl⟩) ⟨xPre_blindE, va_recv hK hP (ci := 6) (q0 := 0) rfl rfl, xPre_ofE hP hK hD hE hS hFc⟩ rfl rfl hl.1 rfl (lv_room (Nat.le_of_ble_eq_true rfl)) dL_change_141 ⟨Nat.le_of_ble_eq_true rfl, Nat.le_of_ble_eq_true rfl⟩) hS (fun q _ h => hFc q h) hFc (fun r141 z141_v t H locs ht hvm hq hB hz1 hk1 hS => ?_)
          obtain ⟨hP1, -, hD1⟩ := hB
          rw [ht] at hP1
          have hP : va_P (dC, dI) vwCl (wX6 cy a z141_v) H := hP1
          have hD : va_D A (wX6 cy a z141_v) := hD1.weaken (fun _ q _ h => hFc q.1 h)
          obtain ⟨hqA, hqB⟩ := hq
          refine lv_if_gt (tgt := 189) hx hb dL_change_144 (by decide) (fun c18 => ?_) (fun c18 => ?_)
          · have hq := hqA c18
            refine lv_iconst (v := 1) hx hb dL_change_189 (by decide) ?_
            refine lv_goto (tgt := 194) hx hb dL_change_190 (by decide) ?_
            exact W.zret (v := 1) hx hb hr rfl (fun t ht hW => ⟨⟨1, z141_v, rfl, hq, (xAt_of hP hK hD ht hW)⟩, hS.F ht⟩) hS.2.2 dL_change_194
          · have hq := hqB c18
            refine lv_aload_n hx hb dL_change_147 rfl (lv_at hl 4 rfl) ?_
            refine lv_iload hx hb dL_change_148 (lv_at hl 1 rfl) ?_
            have hFc := xfree_same hS hAe0 (ws := (wX6 cy a z141_v)) hD
            refine va_calli (va_runV (As := [.int (((8 * (2 + r38)) + 2) + r49)]) (rest := []) ⟨hx, hb, hml, hown, hts⟩ (co_X6_mole l dC dI cy a _ z141_v (((8 * (2 + r38)) + 2) + r49) _ hq) (cwV 1 hts gL_change_X6_mole rfl rfl rfl (by decide +kernel) ⟨Nat.le_of_ble_eq_true rfl, Nat.le_of_ble_eq_true rfl⟩) ⟨xPre_blind, va_recv hK hP (ci := 6) (q0 := 0) rfl rfl, xPre_of hP hK hD⟩ rfl rfl hl.1 rfl (lv_room (Nat.le_of_ble_eq_true rfl)) dL_change_150 ⟨Nat.le_of_ble_eq_true rfl, Nat.le_of_ble_eq_true rfl⟩) hS (fun q _ h => hFc q h) hFc (fun r150 z150_v t H locs ht hvm hq hB hz1 hk1 hS => ?_)
            obtain ⟨hP1, -, hD1⟩ := hB
            rw [ht] at hP1
            have hP : va_P (dC, dI) vwCl (wX6 cy a z150_v) H := hP1
            have hD : va_D A (wX6 cy a z150_v) := hD1.weaken (fun _ q _ h => hFc q.1 h)
            refine lv_iload_n hx hb dL_change_153 rfl (lv_at hl 7 rfl) ?_
            obtain ⟨hqA, hqB⟩ := hq
            refine lv_icmp_ne (tgt := 193) hx hb dL_change_154 (by decide) (fun c17 => ?_) (fun c17 => ?_)
            · have hq := hqB c17
              refine lv_iconst (v := 0) hx hb dL_change_193 (by decide) ?_
              exact W.zret (v := 0) hx hb hr rfl (fun t ht hW => ⟨⟨0, z150_v, rfl, hq, (xAt_of hP hK hD ht hW)⟩, hS.F ht⟩) hS.2.2 dL_change_194
            · have hq := hqA c17
              refine lv_aload_n hx hb dL_change_157 rfl (lv_at hl 4 rfl) ?_
              refine lv_iload_n hx hb dL_change_158 rfl (lv_at hl 7 rfl) ?_
              refine lv_iconst (v := 0) hx hb dL_change_159 (by decide) ?_
              have hFc := xfree_same hS hAe0 (ws := (wX6 cy a z150_v)) hD
              refine va_calli (va_runV (As := [.int y16_3, .int 0]) (rest := []) ⟨hx, hb, hml, hown, hts⟩ (co_X6_moleOf l dC dI cy a _ z150_v y16_3 0 _ hq) (cwV 2 hts gL_change_X6_moleOf rfl rfl rfl (by decide +kernel) ⟨Nat.le_of_ble_eq_true rfl, Nat.le_of_ble_eq_true rfl⟩) ⟨xPre_blind, va_recv hK hP (ci := 6) (q0 := 0) rfl rfl, xPre_of hP hK hD⟩ rfl rfl hl.1 rfl (lv_room (Nat.le_of_ble_eq_true rfl)) dL_change_160 ⟨Nat.le_of_ble_eq_true rfl, Nat.le_of_ble_eq_true rfl⟩) hS (fun q _ h => hFc q h) hFc (fun r160 u9 t H locs ht hvm hq hB hz1 hk1 hS => ?_)
              obtain ⟨hP1, -, hD1⟩ := hB
              rw [ht] at hP1
              have hP : va_P (dC, dI) vwCl (wX6 cy a z150_v) H := hP1
              have hD : va_D A (wX6 cy a z150_v) := hD1.weaken (fun _ q _ h => hFc q.1 h)
              refine lv_iload hx hb dL_change_163 (lv_at hl 1 rfl) ?_
              obtain ⟨hqA, hqB⟩ := hq
              refine lv_icmp_ne (tgt := 193) hx hb dL_change_165 (by decide) (fun c16 => ?_) (fun c16 => ?_)
              · have hq := hqB c16
                refine lv_iconst (v := 0) hx hb dL_change_193 (by decide) ?_
                exact W.zret (v := 0) hx hb hr rfl (fun t ht hW => ⟨⟨0, z150_v, rfl, hq, (xAt_of hP hK hD ht hW)⟩, hS.F ht⟩) hS.2.2 dL_change_194
              · have hq := hqA c16
                refine lv_aload_n hx hb dL_change_168 rfl (lv_at hl 4 rfl) ?_
                refine lv_iload_n hx hb dL_change_169 rfl (lv_at hl 7 rfl) ?_
                refine lv_iconst (v := 5) hx hb dL_change_170 (by decide) ?_
                have hFc := xfree_same hS hAe0 (ws := (wX6 cy a z150_v)) hD
                refine va_calli (va_runV (As := [.int y16_3, .int 5]) (rest := []) ⟨hx, hb, hml, hown, hts⟩ (co_X6_moleOf l dC dI cy a _ z150_v y16_3 5 _ hq) (cwV 2 hts gL_change_X6_moleOf rfl rfl rfl (by decide +kernel) ⟨Nat.le_of_ble_eq_true rfl, Nat.le_of_ble_eq_true rfl⟩) ⟨xPre_blind, va_recv hK hP (ci := 6) (q0 := 0) rfl rfl, xPre_of hP hK hD⟩ rfl rfl hl.1 rfl (lv_room (Nat.le_of_ble_eq_true rfl)) dL_change_171 ⟨Nat.le_of_ble_eq_true rfl, Nat.le_of_ble_eq_true rfl⟩) hS (fun q _ h => hFc q h) hFc (fun r171 u9 t H locs ht hvm hq hB hz1 hk1 hS => ?_)
                obtain ⟨hP1, -, hD1⟩ := hB
                rw [ht] at hP1
                have hP : va_P (dC, dI) vwCl (wX6 cy a z150_v) H := hP1
                have hD : va_D A (wX6 cy a z150_v) := hD1.weaken (fun _ q _ h => hFc q.1 h)
                refine lv_iconst (v := 1) hx hb dL_change_174 (by decide) ?_
                obtain ⟨hqA, hqB⟩ := hq
                refine lv_icmp_ne (tgt := 193) hx hb dL_change_175 (by decide) (fun c15 => ?_) (fun c15 => ?_)
                · have hq := hqB c15
                  refine lv_iconst (v := 0) hx hb dL_change_193 (by decide) ?_
                  exact W.zret (v := 0) hx hb hr rfl (fun t ht hW => ⟨⟨0, z150_v, rfl, hq, (xAt_of hP hK hD ht hW)⟩, hS.F ht⟩) hS.2.2 dL_change_194
                · have hq := hqA c15
                  refine lv_aload_n hx hb dL_change_178 rfl (lv_at hl 4 rfl) ?_
                  refine lv_iload hx hb dL_change_179 (lv_at hl 1 rfl) ?_
                  refine lv_iconst (v := 0) hx hb dL_change_181 (by decide) ?_
                  have hFc := xfree_same hS hAe0 (ws := (wX6 cy a z150_v)) hD
                  refine va_calli (va_runV (As := [.int (((8 * (2 + r38)) + 2) + r49), .int 0]) (rest := []) ⟨hx, hb, hml, hown, hts⟩ (co_X6_tuft l dC dI cy a _ z150_v (((8 * (2 + r38)) + 2) + r49) 0 _ hq) (cwV 2 hts gL_change_X6_tuft rfl rfl rfl (by decide +kernel) ⟨Nat.le_of_ble_eq_true rfl, Nat.le_of_ble_eq_true rfl⟩) ⟨xPre_blindE, va_recv hK hP (ci := 6) (q0 := 0) rfl rfl, xPre_ofE hP hK hD hE hS hFc⟩ rfl rfl hl.1 rfl (lv_room (Nat.le_of_ble_eq_true rfl)) dL_change_182 ⟨Nat.le_of_ble_eq_true rfl, Nat.le_of_ble_eq_true rfl⟩) hS (fun q _ h => hFc q h) hFc (fun r182 z182_v t H locs ht hvm hq hB hz1 hk1 hS => ?_)
                  obtain ⟨hP1, -, hD1⟩ := hB
                  rw [ht] at hP1
                  have hP : va_P (dC, dI) vwCl (wX6 cy a z182_v) H := hP1
                  have hD : va_D A (wX6 cy a z182_v) := hD1.weaken (fun _ q _ h => hFc q.1 h)
                  refine lv_iconst (v := 1) hx hb dL_change_185 (by decide) ?_
                  obtain ⟨hqA, hqB⟩ := hq
                  refine lv_icmp_ne (tgt := 193) hx hb dL_change_186 (by decide) (fun c14 => ?_) (fun c14 => ?_)
                  · have hq := hqB c14
                    refine lv_iconst (v := 0) hx hb dL_change_193 (by decide) ?_
                    exact W.zret (v := 0) hx hb hr rfl (fun t ht hW => ⟨⟨0, z182_v, rfl, hq, (xAt_of hP hK hD ht hW)⟩, hS.F ht⟩) hS.2.2 dL_change_194
                  · have hq := hqA c14
                    refine lv_iconst (v := 1) hx hb dL_change_189 (by decide) ?_
                    refine lv_goto (tgt := 194) hx hb dL_change_190 (by decide) ?_
                    exact W.zret (v := 1) hx hb hr rfl (fun t ht hW => ⟨⟨1, z182_v, rfl, hq, (xAt_of hP hK hD ht hW)⟩, hS.F ht⟩) hS.2.2 dL_change_194
      · have hq := hqB n1
        obtain ⟨hqA, hqB⟩ := hq
        by_cases n2 : r61 = 2
        · have hq := hqA n2
          refine lv_tableIn (tgt := 195) (off := 131) hx hb dL_change_64 (by rw [n2]; decide) (by rw [n2]; decide) (by rw [n2]; decide) (by decide) ?_
          refine lv_iload_n hx hb dL_change_195 rfl (lv_at hl 7 rfl) ?_
          obtain ⟨hqA, hqB⟩ := hq
          refine lv_if_ne (tgt := 204) hx hb dL_change_196 (by decide) (fun c20 => ?_) (fun c20 => ?_)
          · have hq := hqB c20
            refine lv_aload_n hx hb dL_change_204 rfl (lv_at hl 4 rfl) ?_
            refine lv_iload hx hb dL_change_205 (lv_at hl 3 rfl) ?_
            refine lv_iconst (v := 2) hx hb dL_change_207 (by decide) ?_
            have hFc := xfree_same hS hAe0 (ws := (wX6 cy a z16_v)) hD
            refine va_calli (va_runV (As := [.int r16, .int 2]) (rest := []) ⟨hx, hb, hml, hown, hts⟩ (co_X6_moleOf l dC dI cy a _ z16_v r16 2 _ hq) (cwV 2 hts gL_change_X6_moleOf rfl rfl rfl (by decide +kernel) ⟨Nat.le_of_ble_eq_true rfl, Nat.le_of_ble_eq_true rfl⟩) ⟨xPre_blind, va_recv hK hP (ci := 6) (q0 := 0) rfl rfl, xPre_of hP hK hD⟩ rfl rfl hl.1 rfl (lv_room (Nat.le_of_ble_eq_true rfl)) dL_change_208 ⟨Nat.le_of_ble_eq_true rfl, Nat.le_of_ble_eq_true rfl⟩) hS (fun q _ h => hFc q h) hFc (fun r208 u9 t H locs ht hvm hq hB hz1 hk1 hS => ?_)
            obtain ⟨hP1, -, hD1⟩ := hB
            rw [ht] at hP1
            have hP : va_P (dC, dI) vwCl (wX6 cy a z16_v) H := hP1
            have hD : va_D A (wX6 cy a z16_v) := hD1.weaken (fun _ q _ h => hFc q.1 h)
            refine lv_istore (lv' := [(7, .int r208), (6, .int (((8 * (2 + r38)) + 2) + r49)), (5, .int r26), (4, .int r16), (0, .ref (a 0)), (1, .int x1), (2, .int x2), (3, .int y16_3)]) hx hb dL_change_211 hl (by decide) rfl (fun ls hl => ?_)
            refine lv_iconst (v := 0) hx hb dL_change_213 (by decide) ?_
            refine lv_istore (lv' := [(8, .int 0), (7, .int r208), (6, .int (((8 * (2 + r38)) + 2) + r49)), (5, .int r26), (4, .int r16), (0, .ref (a 0)), (1, .int x1), (2, .int x2), (3, .int y16_3)]) hx hb dL_change_214 hl (by decide) rfl (fun ls hl => ?_)
            exact J216 r16 r208 0 z16_v _ _ _ hq hP hD hS (lv_sub hl [5, 7, 4, 1, 0] rfl)
          · have hq := hqA c20
            refine lv_bipush (v := 20) hx hb dL_change_199 (by decide) ?_
            refine lv_goto (tgt := 211) hx hb dL_change_201 (by decide) ?_
            refine lv_istore (lv' := [(7, .int 20), (6, .int (((8 * (2 + r38)) + 2) + r49)), (5, .int r26), (4, .int r16), (0, .ref (a 0)), (1, .int x1), (2, .int x2), (3, .int y16_3)]) hx hb dL_change_211 hl (by decide) rfl (fun ls hl => ?_)
            refine lv_iconst (v := 0) hx hb dL_change_213 (by decide) ?_
            refine lv_istore (lv' := [(8, .int 0), (7, .int 20), (6, .int (((8 * (2 + r38)) + 2) + r49)), (5, .int r26), (4, .int r16), (0, .ref (a 0)), (1, .int x1), (2, .int x2), (3, .int y16_3)]) hx hb dL_change_214 hl (by decide) rfl (fun ls hl => ?_)
            exact J216 r16 20 0 z16_v _ _ _ hq hP hD hS (lv_sub hl [5, 7, 4, 1, 0] rfl)
        · have hq := hqB n2
          obtain ⟨hqA, hqB⟩ := hq
          by_cases n3 : r61 = 3
          · have hq := hqA n3
            refine lv_tableIn (tgt := 195) (off := 131) hx hb dL_change_64 (by rw [n3]; decide) (by rw [n3]; decide) (by rw [n3]; decide) (by decide) ?_
            refine lv_iload_n hx hb dL_change_195 rfl (lv_at hl 7 rfl) ?_
            obtain ⟨hqA, hqB⟩ := hq
            refine lv_if_ne (tgt := 204) hx hb dL_change_196 (by decide) (fun c21 => ?_) (fun c21 => ?_)
            · have hq := hqB c21
              refine lv_aload_n hx hb dL_change_204 rfl (lv_at hl 4 rfl) ?_
              refine lv_iload hx hb dL_change_205 (lv_at hl 3 rfl) ?_
              refine lv_iconst (v := 2) hx hb dL_change_207 (by decide) ?_
              have hFc := xfree_same hS hAe0 (ws := (wX6 cy a z16_v)) hD
              refine va_calli (va_runV (As := [.int r16, .int 2]) (rest := []) ⟨hx, hb, hml, hown, hts⟩ (co_X6_moleOf l dC dI cy a _ z16_v r16 2 _ hq) (cwV 2 hts gL_change_X6_moleOf rfl rfl rfl (by decide +kernel) ⟨Nat.le_of_ble_eq_true rfl, Nat.le_of_ble_eq_true rfl⟩) ⟨xPre_blind, va_recv hK hP (ci := 6) (q0 := 0) rfl rfl, xPre_of hP hK hD⟩ rfl rfl hl.1 rfl (lv_room (Nat.le_of_ble_eq_true rfl)) dL_change_208 ⟨Nat.le_of_ble_eq_true rfl, Nat.le_of_ble_eq_true rfl⟩) hS (fun q _ h => hFc q h) hFc (fun r208 u9 t H locs ht hvm hq hB hz1 hk1 hS => ?_)
              obtain ⟨hP1, -, hD1⟩ := hB
              rw [ht] at hP1
              have hP : va_P (dC, dI) vwCl (wX6 cy a z16_v) H := hP1
              have hD : va_D A (wX6 cy a z16_v) := hD1.weaken (fun _ q _ h => hFc q.1 h)
              refine lv_istore (lv' := [(7, .int r208), (6, .int (((8 * (2 + r38)) + 2) + r49)), (5, .int r26), (4, .int r16), (0, .ref (a 0)), (1, .int x1), (2, .int x2), (3, .int y16_3)]) hx hb dL_change_211 hl (by decide) rfl (fun ls hl => ?_)
              refine lv_iconst (v := 0) hx hb dL_change_213 (by decide) ?_
              refine lv_istore (lv' := [(8, .int 0), (7, .int r208), (6, .int (((8 * (2 + r38)) + 2) + r49)), (5, .int r26), (4, .int r16), (0, .ref (a 0)), (1, .int x1), (2, .int x2), (3, .int y16_3)]) hx hb dL_change_214 hl (by decide) rfl (fun ls hl => ?_)
              exact J216 r16 r208 0 z16_v _ _ _ hq hP hD hS (lv_sub hl [5, 7, 4, 1, 0] rfl)
            · have hq := hqA c21
              refine lv_bipush (v := 20) hx hb dL_change_199 (by decide) ?_
              refine lv_goto (tgt := 211) hx hb dL_change_201 (by decide) ?_
              refine lv_istore (lv' := [(7, .int 20), (6, .int (((8 * (2 + r38)) + 2) + r49)), (5, .int r26), (4, .int r16), (0, .ref (a 0)), (1, .int x1), (2, .int x2), (3, .int y16_3)]) hx hb dL_change_211 hl (by decide) rfl (fun ls hl => ?_)
              refine lv_iconst (v := 0) hx hb dL_change_213 (by decide) ?_
              refine lv_istore (lv' := [(8, .int 0), (7, .int 20), (6, .int (((8 * (2 + r38)) + 2) + r49)), (5, .int r26), (4, .int r16), (0, .ref (a 0)), (1, .int x1), (2, .int x2), (3, .int y16_3)]) hx hb dL_change_214 hl (by decide) rfl (fun ls hl => ?_)
              exact J216 r16 20 0 z16_v _ _ _ hq hP hD hS (lv_sub hl [5, 7, 4, 1, 0] rfl)
          · have hq := hqB n3
            obtain ⟨hqA, hqB⟩ := hq
            by_cases n4 : r61 = 4
            · have hq := hqA n4
              refine lv_tableIn (tgt := 195) (off := 131) hx hb dL_change_64 (by rw [n4]; decide) (by rw [n4]; decide) (by rw [n4]; decide) (by decide) ?_
              refine lv_iload_n hx hb dL_change_195 rfl (lv_at hl 7 rfl) ?_
              obtain ⟨hqA, hqB⟩ := hq
              refine lv_if_ne (tgt := 204) hx hb dL_change_196 (by decide) (fun c22 => ?_) (fun c22 => ?_)
              · have hq := hqB c22
                refine lv_aload_n hx hb dL_change_204 rfl (lv_at hl 4 rfl) ?_
                refine lv_iload hx hb dL_change_205 (lv_at hl 3 rfl) ?_
                refine lv_iconst (v := 2) hx hb dL_change_207 (by decide) ?_
                have hFc := xfree_same hS hAe0 (ws := (wX6 cy a z16_v)) hD
                refine va_calli (va_runV (As := [.int r16, .int 2]) (rest := []) ⟨hx, hb, hml, hown, hts⟩ (co_X6_moleOf l dC dI cy a _ z16_v r16 2 _ hq) (cwV 2 hts gL_change_X6_moleOf rfl rfl rfl (by decide +kernel) ⟨Nat.le_of_ble_eq_true rfl, Nat.le_of_ble_eq_true rfl⟩) ⟨xPre_blind, va_recv hK hP (ci := 6) (q0 := 0) rfl rfl, xPre_of hP hK hD⟩ rfl rfl hl.1 rfl (lv_room (Nat.le_of_ble_eq_true rfl)) dL_change_208 ⟨Nat.le_of_ble_eq_true rfl, Nat.le_of_ble_eq_true rfl⟩) hS (fun q _ h => hFc q h) hFc (fun r208 u9 t H locs ht hvm hq hB hz1 hk1 hS => ?_)
                obtain ⟨hP1, -, hD1⟩ := hB
                rw [ht] at hP1
                have hP : va_P (dC, dI) vwCl (wX6 cy a z16_v) H := hP1
                have hD : va_D A (wX6 cy a z16_v) := hD1.weaken (fun _ q _ h => hFc q.1 h)
                refine lv_istore (lv' := [(7, .int r208), (6, .int (((8 * (2 + r38)) + 2) + r49)), (5, .int r26), (4, .int r16), (0, .ref (a 0)), (1, .int x1), (2, .int x2), (3, .int y16_3)]) hx hb dL_change_211 hl (by decide) rfl (fun ls hl => ?_)
                refine lv_iconst (v := 0) hx hb dL_change_213 (by decide) ?_
                refine lv_istore (lv' := [(8, .int 0), (7, .int r208), (6, .int (((8 * (2 + r38)) + 2) + r49)), (5, .int r26), (4, .int r16), (0, .ref (a 0)), (1, .int x1), (2, .int x2), (3, .int y16_3)]) hx hb dL_change_214 hl (by decide) rfl (fun ls hl => ?_)
                exact J216 r16 r208 0 z16_v _ _ _ hq hP hD hS (lv_sub hl [5, 7, 4, 1, 0] rfl)
              · have hq := hqA c22
                refine lv_bipush (v := 20) hx hb dL_change_199 (by decide) ?_
                refine lv_goto (tgt := 211) hx hb dL_change_201 (by decide) ?_
                refine lv_istore (lv' := [(7, .int 20), (6, .int (((8 * (2 + r38)) + 2) + r49)), (5, .int r26), (4, .int r16), (0, .ref (a 0)), (1, .int x1), (2, .int x2), (3, .int y16_3)]) hx hb dL_change_211 hl (by decide) rfl (fun ls hl => ?_)
                refine lv_iconst (v := 0) hx hb dL_change_213 (by decide) ?_
                refine lv_istore (lv' := [(8, .int 0), (7, .int 20), (6, .int (((8 * (2 + r38)) + 2) + r49)), (5, .int r26), (4, .int r16), (0, .ref (a 0)), (1, .int x1), (2, .int x2), (3, .int y16_3)]) hx hb dL_change_214 hl (by decide) rfl (fun ls hl => ?_)
                exact J216 r16 20 0 z16_v _ _ _ hq hP hD hS (lv_sub hl [5, 7, 4, 1, 0] rfl)
            · have hq := hqB n4
              obtain ⟨hqA, hqB⟩ := hq
              by_cases n5 : r61 = 5
              · have hq := hqA n5
                refine lv_tableIn (tgt := 195) (off := 131) hx hb dL_change_64 (by rw [n5]; decide) (by rw [n5]; decide) (by rw [n5]; decide) (by decide) ?_
                refine lv_iload_n hx hb dL_change_195 rfl (lv_at hl 7 rfl) ?_
                obtain ⟨hqA, hqB⟩ := hq
                refine lv_if_ne (tgt := 204) hx hb dL_change_196 (by decide) (fun c23 => ?_) (fun c23 => ?_)
                · have hq := hqB c23
                  refine lv_aload_n hx hb dL_change_204 rfl (lv_at hl 4 rfl) ?_
                  refine lv_iload hx hb dL_change_205 (lv_at hl 3 rfl) ?_
                  refine lv_iconst (v := 2) hx hb dL_change_207 (by decide) ?_
                  have hFc := xfree_same hS hAe0 (ws := (wX6 cy a z16_v)) hD
                  refine va_calli (va_runV (As := [.int r16, .int 2]) (rest := []) ⟨hx, hb, hml, hown, hts⟩ (co_X6_moleOf l dC dI cy a _ z16_v r16 2 _ hq) (cwV 2 hts gL_change_X6_moleOf rfl rfl rfl (by decide +kernel) ⟨Nat.le_of_ble_eq_true rfl, Nat.le_of_ble_eq_true rfl⟩) ⟨xPre_blind, va_recv hK hP (ci := 6) (q0 := 0) rfl rfl, xPre_of hP hK hD⟩ rfl rfl hl.1 rfl (lv_room (Nat.le_of_ble_eq_true rfl)) dL_change_208 ⟨Nat.le_of_ble_eq_true rfl, Nat.le_of_ble_eq_true rfl⟩) hS (fun q _ h => hFc q h) hFc (fun r208 u9 t H locs ht hvm hq hB hz1 hk1 hS => ?_)
                  obtain ⟨hP1, -, hD1⟩ := hB
                  rw [ht] at hP1
                  have hP : va_P (dC, dI) vwCl (wX6 cy a z16_v) H := hP1
                  have hD : va_D A (wX6 cy a z16_v) := hD1.weaken (fun _ q _ h => hFc q.1 h)
                  refine lv_istore (lv' := [(7, .int r208), (6, .int (((8 * (2 + r38)) + 2) + r49)), (5, .int r26), (4, .int r16), (0, .ref (a 0)), (1, .int x1), (2, .int x2), (3, .int y16_3)]) hx hb dL_change_211 hl (by decide) rfl (fun ls hl => ?_)
                  refine lv_iconst (v := 0) hx hb dL_change_213 (by decide) ?_
                  refine lv_istore (lv' := [(8, .int 0), (7, .int r208), (6, .int (((8 * (2 + r38)) + 2) + r49)), (5, .int r26), (4, .int r16), (0, .ref (a 0)), (1, .int x1), (2, .int x2), (3, .int y16_3)]) hx hb dL_change_214 hl (by decide) rfl (fun ls hl => ?_)
                  exact J216 r16 r208 0 z16_v _ _ _ hq hP hD hS (lv_sub hl [5, 7, 4, 1, 0] rfl)
                · have hq := hqA c23
                  refine lv_bipush (v := 20) hx hb dL_change_199 (by decide) ?_
                  refine lv_goto (tgt := 211) hx hb dL_change_201 (by decide) ?_
                  refine lv_istore (lv' := [(7, .int 20), (6, .int (((8 * (2 + r38)) + 2) + r49)), (5, .int r26), (4, .int r16), (0, .ref (a 0)), (1, .int x1), (2, .int x2), (3, .int y16_3)]) hx hb dL_change_211 hl (by decide) rfl (fun ls hl => ?_)
                  refine lv_iconst (v := 0) hx hb dL_change_213 (by decide) ?_
                  refine lv_istore (lv' := [(8, .int 0), (7, .int 20), (6, .int (((8 * (2 + r38)) + 2) + r49)), (5, .int r26), (4, .int r16), (0, .ref (a 0)), (1, .int x1), (2, .int x2), (3, .int y16_3)]) hx hb dL_change_214 hl (by decide) rfl (fun ls hl => ?_)
                  exact J216 r16 20 0 z16_v _ _ _ hq hP hD hS (lv_sub hl [5, 7, 4, 1, 0] rfl)
              · have hq := hqB n5
                obtain ⟨hqA, hqB⟩ := hq
                by_cases n6 : r61 = 6
                · have hq := hqA n6
                  refine lv_tableIn (tgt := 195) (off := 131) hx hb dL_change_64 (by rw [n6]; decide) (by rw [n6]; decide) (by rw [n6]; decide) (by decide) ?_
                  refine lv_iload_n hx hb dL_change_195 rfl (lv_at hl 7 rfl) ?_
                  obtain ⟨hqA, hqB⟩ := hq
                  refine lv_if_ne (tgt := 204) hx hb dL_change_196 (by decide) (fun c24 => ?_) (fun c24 => ?_)
                  · have hq := hqB c24
                    refine lv_aload_n hx hb dL_change_204 rfl (lv_at hl 4 rfl) ?_
                    refine lv_iload hx hb dL_change_205 (lv_at hl 3 rfl) ?_
                    refine lv_iconst (v := 2) hx hb dL_change_207 (by decide) ?_
                    have hFc := xfree_same hS hAe0 (ws := (wX6 cy a z16_v)) hD
                    refine va_calli (va_runV (As := [.int r16, .int 2]) (rest := []) ⟨hx, hb, hml, hown, hts⟩ (co_X6_moleOf l dC dI cy a _ z16_v r16 2 _ hq) (cwV 2 hts gL_change_X6_moleOf rfl rfl rfl (by decide +kernel) ⟨Nat.le_of_ble_eq_true rfl, Nat.le_of_ble_eq_true rfl⟩) ⟨xPre_blind, va_recv hK hP (ci := 6) (q0 := 0) rfl rfl, xPre_of hP hK hD⟩ rfl rfl hl.1 rfl (lv_room (Nat.le_of_ble_eq_true rfl)) dL_change_208 ⟨Nat.le_of_ble_eq_true rfl, Nat.le_of_ble_eq_true rfl⟩) hS (fun q _ h => hFc q h) hFc (fun r208 u9 t H locs ht hvm hq hB hz1 hk1 hS => ?_)
                    obtain ⟨hP1, -, hD1⟩ := hB
                    rw [ht] at hP1
                    have hP : va_P (dC, dI) vwCl (wX6 cy a z16_v) H := hP1
                    have hD : va_D A (wX6 cy a z16_v) := hD1.weaken (fun _ q _ h => hFc q.1 h)
                    refine lv_istore (lv' := [(7, .int r208), (6, .int (((8 * (2 + r38)) + 2) + r49)), (5, .int r26), (4, .int r16), (0, .ref (a 0)), (1, .int x1), (2, .int x2), (3, .int y16_3)]) hx hb dL_change_211 hl (by decide) rfl (fun ls hl => ?_)
                    refine lv_iconst (v := 0) hx hb dL_change_213 (by decide) ?_
                    refine lv_istore (lv' := [(8, .int 0), (7, .int r208), (6, .int (((8 * (2 + r38)) + 2) + r49)), (5, .int r26), (4, .int r16), (0, .ref (a 0)), (1, .int x1), (2, .int x2), (3, .int y16_3)]) hx hb dL_change_214 hl (by decide) rfl (fun ls hl => ?_)
                    exact J216 r16 r208 0 z16_v _ _ _ hq hP hD hS (lv_sub hl [5, 7, 4, 1, 0] rfl)
                  · have hq := hqA c24
                    refine lv_bipush (v := 20) hx hb dL_change_199 (by decide) ?_
                    refine lv_goto (tgt := 211) hx hb dL_change_201 (by decide) ?_
                    refine lv_istore (lv' := [(7, .int 20), (6, .int (((8 * (2 + r38)) + 2) + r49)), (5, .int r26), (4, .int r16), (0, .ref (a 0)), (1, .int x1), (2, .int x2), (3, .int y16_3)]) hx hb dL_change_211 hl (by decide) rfl (fun ls hl => ?_)
                    refine lv_iconst (v := 0) hx hb dL_change_213 (by decide) ?_
                    refine lv_istore (lv' := [(8, .int 0), (7, .int 20), (6, .int (((8 * (2 + r38)) + 2) + r49)), (5, .int r26), (4, .int r16), (0, .ref (a 0)), (1, .int x1), (2, .int x2), (3, .int y16_3)]) hx hb dL_change_214 hl (by decide) rfl (fun ls hl => ?_)
                    exact J216 r16 20 0 z16_v _ _ _ hq hP hD hS (lv_sub hl [5, 7, 4, 1, 0] rfl)
                · have hq := hqB n6
                  obtain ⟨hqA, hqB⟩ := hq
                  by_cases n7 : r61 = 7
                  · have hq := hqA n7
                    refine lv_tableIn (tgt := 264) (off := 200) hx hb dL_change_64 (by rw [n7]; decide) (by rw [n7]; decide) (by rw [n7]; decide) (by decide) ?_
                    refine lv_iload_n hx hb dL_change_264 rfl (lv_at hl 7 rfl) ?_
                    obtain ⟨hqA, hqB⟩ := hq
                    refine lv_if_ne (tgt := 272) hx hb dL_change_265 (by decide) (fun c25 => ?_) (fun c25 => ?_)
                    · have hq := hqB c25
                      refine lv_aload_n hx hb dL_change_272 rfl (lv_at hl 4 rfl) ?_
                      refine lv_iload hx hb dL_change_273 (lv_at hl 3 rfl) ?_
                      refine lv_iconst (v := 2) hx hb dL_change_275 (by decide) ?_
                      have hFc := xfree_same hS hAe0 (ws := (wX6 cy a z16_v)) hD
                      refine va_calli (va_runV (As := [.int r16, .int 2]) (rest := []) ⟨hx, hb, hml, hown, hts⟩ (co_X6_moleOf l dC dI cy a _ z16_v r16 2 _ hq) (cwV 2 hts gL_change_X6_moleOf rfl rfl rfl (by decide +kernel) ⟨Nat.le_of_ble_eq_true rfl, Nat.le_of_ble_eq_true rfl⟩) ⟨xPre_blind, va_recv hK hP (ci := 6) (q0 := 0) rfl rfl, xPre_of hP hK hD⟩ rfl rfl hl.1 rfl (lv_room (Nat.le_of_ble_eq_true rfl)) dL_change_276 ⟨Nat.le_of_ble_eq_true rfl, Nat.le_of_ble_eq_true rfl⟩) hS (fun q _ h => hFc q h) hFc (fun r276 u9 t H locs ht hvm hq hB hz1 hk1 hS => ?_)
                      obtain ⟨hP1, -, hD1⟩ := hB
                      rw [ht] at hP1
                      have hP : va_P (dC, dI) vwCl (wX6 cy a z16_v) H := hP1
                      have hD : va_D A (wX6 cy a z16_v) := hD1.weaken (fun _ q _ h => hFc q.1 h)
                      exact J279 y16_3 r16 z16_v r276  _ _ _ hq hP hD hS (lv_sub hl [4, 6, 7, 3] rfl)
                    · have hq := hqA c25
                      refine lv_iconst (v := 0) hx hb dL_change_268 (by decide) ?_
                      refine lv_goto (tgt := 279) hx hb dL_change_269 (by decide) ?_
                      exact J279 y16_3 r16 z16_v 0  _ _ _ hq hP hD hS (lv_sub hl [4, 6, 7, 3] rfl)
                  · have hq := hqB n7
                    obtain ⟨hqA, hqB⟩ := hq
                    by_cases n8 : r61 = 8
                    · have hq := hqA n8
                      refine lv_tableIn (tgt := 309) (off := 245) hx hb dL_change_64 (by rw [n8]; decide) (by rw [n8]; decide) (by rw [n8]; decide) (by decide) ?_
                      refine lv_aload_n hx hb dL_change_309 rfl (lv_at hl 4 rfl) ?_
                      refine lv_iload hx hb dL_change_310 (lv_at hl 1 rfl) ?_
                      refine lv_iconst (v := 1) hx hb dL_change_312 (by decide) ?_
                      have hFc := xfree_same hS hAe0 (ws := (wX6 cy a z16_v)) hD
                      refine va_calli (va_runV (As := [.int (((8 * (2 + r38)) + 2) + r49), .int 1]) (rest := []) ⟨hx, hb, hml, hown, hts⟩ (co_X6_tuft l dC dI cy a _ z16_v (((8 * (2 + r38)) + 2) + r49) 1 _ hq) (cwV 2 hts gL_change_X6_tuft rfl rfl rfl (by decide +kernel) ⟨Nat.le_of_ble_eq_true rfl, Nat.le_of_ble_eq_true rfl⟩) ⟨xPre_blindE, va_recv hK hP (ci := 6) (q0 := 0) rfl rfl, xPre_ofE hP hK hD hE hS hFc⟩ rfl rfl hl.1 rfl (lv_room (Nat.le_of_ble_eq_true rfl)) dL_change_313 ⟨Nat.le_of_ble_eq_true rfl, Nat.le_of_ble_eq_true rfl⟩) hS (fun q _ h => hFc q h) hFc (fun r313 z313_v t H locs ht hvm hq hB hz1 hk1 hS => ?_)
                      obtain ⟨hP1, -, hD1⟩ := hB
                      rw [ht] at hP1
                      have hP : va_P (dC, dI) vwCl (wX6 cy a z313_v) H := hP1
                      have hD : va_D A (wX6 cy a z313_v) := hD1.weaken (fun _ q _ h => hFc q.1 h)
                      refine lv_istore (lv' := [(7, .int r313), (6, .int (((8 * (2 + r38)) + 2) + r49)), (5, .int r26), (4, .int r16), (0, .ref (a 0)), (1, .int x1), (2, .int x2), (3, .int y16_3)]) hx hb dL_change_316 hl (by decide) rfl (fun ls hl => ?_)
                      refine lv_aload_n hx hb dL_change_318 rfl (lv_at hl 4 rfl) ?_
                      refine lv_iload hx hb dL_change_319 (lv_at hl 1 rfl) ?_
                      refine lv_iload_n hx hb dL_change_321 rfl (lv_at hl 6 rfl) ?_
                      refine lv_bipush (v := 8) hx hb dL_change_322 (by decide) ?_
                      refine lv_ishr hx hb dL_change_324 ?_
                      refine lv_bipush (v := 10) hx hb dL_change_325 (by decide) ?_
                      have hFc := xfree_none hS hAe0
                      refine va_calli (va_runS (As := [.int (x2 >>> (8 &&& 31)), .int 10]) (rest := [.int (((8 * (2 + r38)) + 2) + r49), .ref (a 0)]) ⟨hx, hb, hml, hown, hts⟩ (c_L_low l dC dI cy  _ (x2 >>> (8 &&& 31)) 10 _ hq) (va_cwS 2 hts gL_change_L_low rfl rfl rfl (by decide +kernel) ⟨Nat.le_of_ble_eq_true rfl, Nat.le_of_ble_eq_true rfl⟩) ⟨xPre_blind, xPre_of xP_nil hK (xD_nil (A := A))⟩ rfl rfl hl.1 rfl (lv_room (Nat.le_of_ble_eq_true rfl)) dL_change_327 ⟨Nat.le_of_ble_eq_true rfl, Nat.le_of_ble_eq_true rfl⟩) hS (fun q _ h => hFc q h) hFc (fun r327 u9 t H locs ht hvm hq hB hz1 hk1 hS => ?_)
                      have hP := xj_none hP hk1
                      have hFc := xfree_same hS hAe0 (ws := (wX6 cy a z313_v)) hD
                      refine va_calli (va_runV (As := [.int (((8 * (2 + r38)) + 2) + r49), .int r327]) (rest := []) ⟨hx, hb, hml, hown, hts⟩ (co_X6_root l dC dI cy a _ z313_v (((8 * (2 + r38)) + 2) + r49) r327 _ hq) (cwV 2 hts gL_change_X6_root rfl rfl rfl (by decide +kernel) ⟨Nat.le_of_ble_eq_true rfl, Nat.le_of_ble_eq_true rfl⟩) ⟨xPre_blind, va_recv hK hP (ci := 6) (q0 := 0) rfl rfl, xPre_of hP hK hD⟩ rfl rfl hl.1 rfl (lv_room (Nat.le_of_ble_eq_true rfl)) dL_change_330 ⟨Nat.le_of_ble_eq_true rfl, Nat.le_of_ble_eq_true rfl⟩) hS (fun q _ h => hFc q h) hFc (fun r330 z330_v t H locs ht hvm hq hB hz1 hk1 hS => ?_)
                      obtain ⟨hP1, -, hD1⟩ := hB
                      rw [ht] at hP1
                      have hP : va_P (dC, dI) vwCl (wX6 cy a z330_v) H := hP1
                      have hD : va_D A (wX6 cy a z330_v) := hD1.weaken (fun _ q _ h => hFc q.1 h)
                      refine lv_iload hx hb dL_change_333 (lv_at hl 0 rfl) ?_
                      obtain ⟨hqA, hqB⟩ := hq
                      refine lv_icmp_ne (tgt := 361) hx hb dL_change_335 (by decide) (fun c27 => ?_) (fun c27 => ?_)
                      · have hq := hqB c27
                        refine lv_iconst (v := 0) hx hb dL_change_361 (by decide) ?_
                        exact W.zret (v := 0) hx hb hr rfl (fun t ht hW => ⟨⟨0, z330_v, rfl, hq, (xAt_of hP hK hD ht hW)⟩, hS.F ht⟩) hS.2.2 dL_change_362
                      · have hq := hqA c27
                        refine lv_aload_n hx hb dL_change_338 rfl (lv_at hl 4 rfl) ?_
                        refine lv_iload hx hb dL_change_339 (lv_at hl 1 rfl) ?_
                        refine lv_iconst (v := 1) hx hb dL_change_341 (by decide) ?_
                        have hFc := xfree_same hS hAe0 (ws := (wX6 cy a z330_v)) hD
                        refine va_calli (va_runV (As := [.int (((8 * (2 + r38)) + 2) + r49), .int 1]) (rest := []) ⟨hx, hb, hml, hown, hts⟩ (co_X6_tuft l dC dI cy a _ z330_v (((8 * (2 + r38)) + 2) + r49) 1 _ hq) (cwV 2 hts gL_change_X6_tuft rfl rfl rfl (by decide +kernel) ⟨Nat.le_of_ble_eq_true rfl, Nat.le_of_ble_eq_true rfl⟩) ⟨xPre_blindE, va_recv hK hP (ci := 6) (q0 := 0) rfl rfl, xPre_ofE hP hK hD hE hS hFc⟩ rfl rfl hl.1 rfl (lv_room (Nat.le_of_ble_eq_true rfl)) dL_change_342 ⟨Nat.le_of_ble_eq_true rfl, Nat.le_of_ble_eq_true rfl⟩) hS (fun q _ h => hFc q h) hFc (fun r342 z342_v t H locs ht hvm hq hB hz1 hk1 hS => ?_)
                        obtain ⟨hP1, -, hD1⟩ := hB
                        rw [ht] at hP1
                        have hP : va_P (dC, dI) vwCl (wX6 cy a z342_v) H := hP1
                        have hD : va_D A (wX6 cy a z342_v) := hD1.weaken (fun _ q _ h => hFc q.1 h)
                        refine lv_iload_n hx hb dL_change_345 rfl (lv_at hl 6 rfl) ?_
                        refine lv_bipush (v := 8) hx hb dL_change_346 (by decide) ?_
                        refine lv_ishr hx hb dL_change_348 ?_
                        refine lv_bipush (v := 10) hx hb dL_change_349 (by decide) ?_
                        have hFc := xfree_none hS hAe0
                        refine va_calli (va_runS (As := [.int (x2 >>> (8 &&& 31)), .int 10]) (rest := [.int r342]) ⟨hx, hb, hml, hown, hts⟩ (c_L_low l dC dI cy  _ (x2 >>> (8 &&& 31)) 10 _ hq) (va_cwS 2 hts gL_change_L_low rfl rfl rfl (by decide +kernel) ⟨Nat.le_of_ble_eq_true rfl, Nat.le_of_ble_eq_true rfl⟩) ⟨xPre_blind, xPre_of xP_nil hK (xD_nil (A := A))⟩ rfl rfl hl.1 rfl (lv_room (Nat.le_of_ble_eq_true rfl)) dL_change_351 ⟨Nat.le_of_ble_eq_true rfl, Nat.le_of_ble_eq_true rfl⟩) hS (fun q _ h => hFc q h) hFc (fun r351 u9 t H locs ht hvm hq hB hz1 hk1 hS => ?_)
                        have hP := xj_none hP hk1
                        obtain ⟨hqA, hqB⟩ := hq
                        refine lv_icmp_ne (tgt := 361) hx hb dL_change_354 (by decide) (fun c26 => ?_) (fun c26 => ?_)
                        · have hq := hqB c26
                          refine lv_iconst (v := 0) hx hb dL_change_361 (by decide) ?_
                          exact W.zret (v := 0) hx hb hr rfl (fun t ht hW => ⟨⟨0, z342_v, rfl, hq, (xAt_of hP hK hD ht hW)⟩, hS.F ht⟩) hS.2.2 dL_change_362
                        · have hq := hqA c26
                          refine lv_iconst (v := 1) hx hb dL_change_357 (by decide) ?_
                          refine lv_goto (tgt := 362) hx hb dL_change_358 (by decide) ?_
                          exact W.zret (v := 1) hx hb hr rfl (fun t ht hW => ⟨⟨1, z342_v, rfl, hq, (xAt_of hP hK hD ht hW)⟩, hS.F ht⟩) hS.2.2 dL_change_362
                    · have hq := hqB n8
                      obtain ⟨hqA, hqB⟩ := hq
                      by_cases n9 : r61 = 9
                      · have hq := hqA n9
                        refine lv_tableIn (tgt := 363) (off := 299) hx hb dL_change_64 (by rw [n9]; decide) (by rw [n9]; decide) (by rw [n9]; decide) (by decide) ?_
                        refine lv_aload_n hx hb dL_change_363 rfl (lv_at hl 4 rfl) ?_
                        refine lv_bipush (v := 7) hx hb dL_change_364 (by decide) ?_
                        have hFc := xfree_same hS hAe0 (ws := (wX6 cy a z16_v)) hD
                        refine va_calli (va_runV (As := [.int 7]) (rest := []) ⟨hx, hb, hml, hown, hts⟩ (co_X6_count l dC dI cy a _ z16_v 7 _ hq) (cwV 1 hts gL_change_X6_count rfl rfl rfl (by decide +kernel) ⟨Nat.le_of_ble_eq_true rfl, Nat.le_of_ble_eq_true rfl⟩) ⟨xPre_blindE, va_recv hK hP (ci := 6) (q0 := 0) rfl rfl, xPre_ofE hP hK hD hE hS hFc⟩ rfl rfl hl.1 rfl (lv_room (Nat.le_of_ble_eq_true rfl)) dL_change_366 ⟨Nat.le_of_ble_eq_true rfl, Nat.le_of_ble_eq_true rfl⟩) hS (fun q _ h => hFc q h) hFc (fun r366 z366_v t H locs ht hvm hq hB hz1 hk1 hS => ?_)
                        obtain ⟨hP1, -, hD1⟩ := hB
                        rw [ht] at hP1
                        have hP : va_P (dC, dI) vwCl (wX6 cy a z366_v) H := hP1
                        have hD : va_D A (wX6 cy a z366_v) := hD1.weaken (fun _ q _ h => hFc q.1 h)
                        refine lv_istore (lv' := [(7, .int r366), (6, .int (((8 * (2 + r38)) + 2) + r49)), (5, .int r26), (4, .int r16), (0, .ref (a 0)), (1, .int x1), (2, .int x2), (3, .int y16_3)]) hx hb dL_change_369 hl (by decide) rfl (fun ls hl => ?_)
                        refine lv_aload_n hx hb dL_change_371 rfl (lv_at hl 4 rfl) ?_
                        refine lv_iload hx hb dL_change_372 (lv_at hl 1 rfl) ?_
                        refine lv_iconst (v := 2) hx hb dL_change_374 (by decide) ?_
                        have hFc := xfree_same hS hAe0 (ws := (wX6 cy a z366_v)) hD
                        refine va_calli (va_runV (As := [.int (((8 * (2 + r38)) + 2) + r49), .int 2]) (rest := []) ⟨hx, hb, hml, hown, hts⟩ (co_X6_tuft l dC dI cy a _ z366_v (((8 * (2 + r38)) + 2) + r49) 2 _ hq) (cwV 2 hts gL_change_X6_tuft rfl rfl rfl (by decide +kernel) ⟨Nat.le_of_ble_eq_true rfl, Nat.le_of_ble_eq_true rfl⟩) ⟨xPre_blindE, va_recv hK hP (ci := 6) (q0 := 0) rfl rfl, xPre_ofE hP hK hD hE hS hFc⟩ rfl rfl hl.1 rfl (lv_room (Nat.le_of_ble_eq_true rfl)) dL_change_375 ⟨Nat.le_of_ble_eq_true rfl, Nat.le_of_ble_eq_true rfl⟩) hS (fun q _ h => hFc q h) hFc (fun r375 z375_v t H locs ht hvm hq hB hz1 hk1 hS => ?_)
                        obtain ⟨hP1, -, hD1⟩ := hB
                        rw [ht] at hP1
                        have hP : va_P (dC, dI) vwCl (wX6 cy a z375_v) H := hP1
                        have hD : va_D A (wX6 cy a z375_v) := hD1.weaken (fun _ q _ h => hFc q.1 h)
                        refine lv_iconst (v := (-1)) hx hb dL_change_378 (by decide) ?_
                        obtain ⟨hqA, hqB⟩ := hq
                        refine lv_icmp_ne (tgt := 404) hx hb dL_change_379 (by decide) (fun c29 => ?_) (fun c29 => ?_)
                        · have hq := hqB c29
                          refine lv_iconst (v := 1) hx hb dL_change_404 (by decide) ?_
                          refine lv_goto (tgt := 409) hx hb dL_change_405 (by decide) ?_
                          exact W.zret (v := 1) hx hb hr rfl (fun t ht hW => ⟨⟨1, z375_v, rfl, hq, (xAt_of hP hK hD ht hW)⟩, hS.F ht⟩) hS.2.2 dL_change_409
                        · have hq := hqA c29
                          refine lv_aload_n hx hb dL_change_382 rfl (lv_at hl 4 rfl) ?_
                          refine lv_iload hx hb dL_change_383 (lv_at hl 1 rfl) ?_
                          refine lv_iload_n hx hb dL_change_385 rfl (lv_at hl 6 rfl) ?_
                          refine lv_bipush (v := 8) hx hb dL_change_386 (by decide) ?_
                          refine lv_ishr hx hb dL_change_388 ?_
                          refine lv_bipush (v := 21) hx hb dL_change_389 (by decide) ?_
                          have hFc := xfree_none hS hAe0
                          refine va_calli (va_runS (As := [.int (x2 >>> (8 &&& 31)), .int 21]) (rest := [.int (((8 * (2 + r38)) + 2) + r49), .ref (a 0)]) ⟨hx, hb, hml, hown, hts⟩ (c_L_low l dC dI cy  _ (x2 >>> (8 &&& 31)) 21 _ hq) (va_cwS 2 hts gL_change_L_low rfl rfl rfl (by decide +kernel) ⟨Nat.le_of_ble_eq_true rfl, Nat.le_of_ble_eq_true rfl⟩) ⟨xPre_blind, xPre_of xP_nil hK (xD_nil (A := A))⟩ rfl rfl hl.1 rfl (lv_room (Nat.le_of_ble_eq_true rfl)) dL_change_391 ⟨Nat.le_of_ble_eq_true rfl, Nat.le_of_ble_eq_true rfl⟩) hS (fun q _ h => hFc q h) hFc (fun r391 u9 t H locs ht hvm hq hB hz1 hk1 hS => ?_)
                          have hP := xj_none hP hk1
                          have hFc := xfree_same hS hAe0 (ws := (wX6 cy a z375_v)) hD
                          refine va_calli (va_runV (As := [.int (((8 * (2 + r38)) + 2) + r49), .int r391]) (rest := []) ⟨hx, hb, hml, hown, hts⟩ (co_X6_trap l dC dI cy a _ z375_v (((8 * (2 + r38)) + 2) + r49) r391 _ hq) (cwV 2 hts gL_change_X6_trap rfl rfl rfl (by decide +kernel) ⟨Nat.le_of_ble_eq_true rfl, Nat.le_of_ble_eq_true rfl⟩) ⟨xPre_blind, va_recv hK hP (ci := 6) (q0 := 0) rfl rfl, xPre_of hP hK hD⟩ rfl rfl hl.1 rfl (lv_room (Nat.le_of_ble_eq_true rfl)) dL_change_394 ⟨Nat.le_of_ble_eq_true rfl, Nat.le_of_ble_eq_true rfl⟩) hS (fun q _ h => hFc q h) hFc (fun r394 z394_v t H locs ht hvm hq hB hz1 hk1 hS => ?_)
                          obtain ⟨hP1, -, hD1⟩ := hB
                          rw [ht] at hP1
                          have hP : va_P (dC, dI) vwCl (wX6 cy a z394_v) H := hP1
                          have hD : va_D A (wX6 cy a z394_v) := hD1.weaken (fun _ q _ h => hFc q.1 h)
                          refine lv_iload hx hb dL_change_397 (lv_at hl 0 rfl) ?_
                          refine lv_iconst (v := 1) hx hb dL_change_399 (by decide) ?_
                          refine lv_iadd hx hb dL_change_400 ?_
                          obtain ⟨hqA, hqB⟩ := hq
                          refine lv_icmp_ne (tgt := 408) hx hb dL_change_401 (by decide) (fun c28 => ?_) (fun c28 => ?_)
                          · have hq := hqB c28
                            refine lv_iconst (v := 0) hx hb dL_change_408 (by decide) ?_
                            exact W.zret (v := 0) hx hb hr rfl (fun t ht hW => ⟨⟨0, z394_v, rfl, hq, (xAt_of hP hK hD ht hW)⟩, hS.F ht⟩) hS.2.2 dL_change_409
                          · have hq := hqA c28
                            refine lv_iconst (v := 1) hx hb dL_change_404 (by decide) ?_
                            refine lv_goto (tgt := 409) hx hb dL_change_405 (by decide) ?_
                            exact W.zret (v := 1) hx hb hr rfl (fun t ht hW => ⟨⟨1, z394_v, rfl, hq, (xAt_of hP hK hD ht hW)⟩, hS.F ht⟩) hS.2.2 dL_change_409
                      · have hq := hqB n9
                        obtain ⟨hqA, hqB⟩ := hq
                        by_cases n10 : r61 = 10
                        · have hq := hqA n10
                          refine lv_tableIn (tgt := 410) (off := 346) hx hb dL_change_64 (by rw [n10]; decide) (by rw [n10]; decide) (by rw [n10]; decide) (by decide) ?_
                          refine lv_aload_n hx hb dL_change_410 rfl (lv_at hl 4 rfl) ?_
                          refine lv_iload_n hx hb dL_change_411 rfl (lv_at hl 6 rfl) ?_
                          refine lv_iconst (v := 1) hx hb dL_change_412 (by decide) ?_
                          refine lv_iand hx hb dL_change_413 ?_
                          obtain ⟨hqA, hqB⟩ := hq
                          refine lv_if_ne (tgt := 422) hx hb dL_change_414 (by decide) (fun c30 => ?_) (fun c30 => ?_)
                          · have hq := hqB c30
                            refine lv_iload hx hb dL_change_422 (lv_at hl 2 rfl) ?_
                            exact J424 z16_v r26  _ _ _ hq hP hD hS (lv_sub hl [] rfl)
                          · have hq := hqA c30
                            refine lv_iload hx hb dL_change_417 (lv_at hl 1 rfl) ?_
                            refine lv_goto (tgt := 424) hx hb dL_change_419 (by decide) ?_
                            exact J424 z16_v (((8 * (2 + r38)) + 2) + r49)  _ _ _ hq hP hD hS (lv_sub hl [] rfl)
                        · have hq := hqB n10
                          obtain ⟨hqA, hqB⟩ := hq
                          by_cases n11 : r61 = 11
                          · have hq := hqA n11
                            refine lv_tableIn (tgt := 428) (off := 364) hx hb dL_change_64 (by rw [n11]; decide) (by rw [n11]; decide) (by rw [n11]; decide) (by decide) ?_
                            refine lv_aload_n hx hb dL_change_428 rfl (lv_at hl 4 rfl) ?_
                            refine lv_iload hx hb dL_change_429 (lv_at hl 1 rfl) ?_
                            have hFc := xfree_same hS hAe0 (ws := (wX6 cy a z16_v)) hD
                            refine va_calli (va_runS (As := [.ref (a 0), .int (((8 * (2 + r38)) + 2) + r49)]) (rest := []) ⟨hx, hb, hml, hown, hts⟩ (c_L_rakes l dC dI cy a _ z16_v (((8 * (2 + r38)) + 2) + r49) _ hq) (va_cwS 2 hts gL_change_L_rakes rfl rfl rfl (by decide +kernel) ⟨Nat.le_of_ble_eq_true rfl, Nat.le_of_ble_eq_true rfl⟩) ⟨xPre_blindE, xPre_ofE hP hK hD hE hS hFc⟩ rfl rfl hl.1 rfl (lv_room (Nat.le_of_ble_eq_true rfl)) dL_change_431 ⟨Nat.le_of_ble_eq_true rfl, Nat.le_of_ble_eq_true rfl⟩) hS (fun q _ h => hFc q h) hFc (fun r431 z431_v t H locs ht hvm hq hB hz1 hk1 hS => ?_)
                            obtain ⟨hP1, -, hD1⟩ := hB
                            rw [ht] at hP1
                            have hP : va_P (dC, dI) vwCl (wX6 cy a z431_v) H := hP1
                            have hD : va_D A (wX6 cy a z431_v) := hD1.weaken (fun _ q _ h => hFc q.1 h)
                            obtain ⟨g31, hq⟩ := hq
                            exact W.zret (v := r431) hx hb hr (bz_nar g31) (fun t ht hW => ⟨⟨r431, z431_v, rfl, hq, (xAt_of hP hK hD ht hW)⟩, hS.F ht⟩) hS.2.2 dL_change_434
                          · have hq := hqB n11
                            obtain ⟨hqA, hqB⟩ := hq
                            by_cases n12 : r61 = 12
                            · have hq := hqA n12
                              refine lv_tableIn (tgt := 435) (off := 371) hx hb dL_change_64 (by rw [n12]; decide) (by rw [n12]; decide) (by rw [n12]; decide) (by decide) ?_
                              refine lv_aload_n hx hb dL_change_435 rfl (lv_at hl 4 rfl) ?_
                              refine lv_bipush (v := 13) hx hb dL_change_436 (by decide) ?_
                              have hFc := xfree_same hS hAe0 (ws := (wX6 cy a z16_v)) hD
                              refine va_calli (va_runV (As := [.int 13]) (rest := []) ⟨hx, hb, hml, hown, hts⟩ (co_X6_count l dC dI cy a _ z16_v 13 _ hq) (cwV 1 hts gL_change_X6_count rfl rfl rfl (by decide +kernel) ⟨Nat.le_of_ble_eq_true rfl, Nat.le_of_ble_eq_true rfl⟩) ⟨xPre_blindE, va_recv hK hP (ci := 6) (q0 := 0) rfl rfl, xPre_ofE hP hK hD hE hS hFc⟩ rfl rfl hl.1 rfl (lv_room (Nat.le_of_ble_eq_true rfl)) dL_change_438 ⟨Nat.le_of_ble_eq_true rfl, Nat.le_of_ble_eq_true rfl⟩) hS (fun q _ h => hFc q h) hFc (fun r438 z438_v t H locs ht hvm hq hB hz1 hk1 hS => ?_)
                              obtain ⟨hP1, -, hD1⟩ := hB
                              rw [ht] at hP1
                              have hP : va_P (dC, dI) vwCl (wX6 cy a z438_v) H := hP1
                              have hD : va_D A (wX6 cy a z438_v) := hD1.weaken (fun _ q _ h => hFc q.1 h)
                              refine lv_istore (lv' := [(7, .int r438), (6, .int (((8 * (2 + r38)) + 2) + r49)), (5, .int r26), (4, .int r16), (0, .ref (a 0)), (1, .int x1), (2, .int x2), (3, .int y16_3)]) hx hb dL_change_441 hl (by decide) rfl (fun ls hl => ?_)
                              refine lv_aload_n hx hb dL_change_443 rfl (lv_at hl 4 rfl) ?_
                              refine lv_iconst (v := 2) hx hb dL_change_444 (by decide) ?_
                              refine lv_iload_n hx hb dL_change_445 rfl (lv_at hl 6 rfl) ?_
                              refine lv_bipush (v := 10) hx hb dL_change_446 (by decide) ?_
                              have hFc := xfree_none hS hAe0
                              refine va_calli (va_runS (As := [.int x2, .int 10]) (rest := [.int 2, .ref (a 0)]) ⟨hx, hb, hml, hown, hts⟩ (c_L_low l dC dI cy  _ x2 10 _ hq) (va_cwS 2 hts gL_change_L_low rfl rfl rfl (by decide +kernel) ⟨Nat.le_of_ble_eq_true rfl, Nat.le_of_ble_eq_true rfl⟩) ⟨xPre_blind, xPre_of xP_nil hK (xD_nil (A := A))⟩ rfl rfl hl.1 rfl (lv_room (Nat.le_of_ble_eq_true rfl)) dL_change_448 ⟨Nat.le_of_ble_eq_true rfl, Nat.le_of_ble_eq_true rfl⟩) hS (fun q _ h => hFc q h) hFc (fun r448 u9 t H locs ht hvm hq hB hz1 hk1 hS => ?_)
                              have hP := xj_none hP hk1
                              refine lv_iadd hx hb dL_change_451 ?_
                              have hFc := xfree_same hS hAe0 (ws := (wX6 cy a z438_v)) hD
                              refine va_calli (va_runV (As := [.int (2 + r448)]) (rest := []) ⟨hx, hb, hml, hown, hts⟩ (co_X6_set l dC dI cy a _ z438_v (2 + r448) _ hq) (cwV 1 hts gL_change_X6_set rfl rfl rfl (by decide +kernel) ⟨Nat.le_of_ble_eq_true rfl, Nat.le_of_ble_eq_true rfl⟩) ⟨xPre_blind, va_recv hK hP (ci := 6) (q0 := 0) rfl rfl, xPre_of hP hK hD⟩ rfl rfl hl.1 rfl (lv_room (Nat.le_of_ble_eq_true rfl)) dL_change_452 ⟨Nat.le_of_ble_eq_true rfl, Nat.le_of_ble_eq_true rfl⟩) hS (fun q _ h => hFc q h) hFc (fun r452 z452_v t H locs ht hvm hq hB hz1 hk1 hS => ?_)
                              obtain ⟨hP1, -, hD1⟩ := hB
                              rw [ht] at hP1
                              have hP : va_P (dC, dI) vwCl (wX6 cy a z452_v) H := hP1
                              have hD : va_D A (wX6 cy a z452_v) := hD1.weaken (fun _ q _ h => hFc q.1 h)
                              refine lv_iload hx hb dL_change_455 (lv_at hl 0 rfl) ?_
                              obtain ⟨hqA, hqB⟩ := hq
                              refine lv_icmp_ne (tgt := 464) hx hb dL_change_457 (by decide) (fun c32 => ?_) (fun c32 => ?_)
                              · have hq := hqB c32
                                refine lv_iconst (v := 0) hx hb dL_change_464 (by decide) ?_
                                exact W.zret (v := 0) hx hb hr rfl (fun t ht hW => ⟨⟨0, z452_v, rfl, hq, (xAt_of hP hK hD ht hW)⟩, hS.F ht⟩) hS.2.2 dL_change_465
                              · have hq := hqA c32
                                refine lv_iconst (v := 1) hx hb dL_change_460 (by decide) ?_
                                refine lv_goto (tgt := 465) hx hb dL_change_461 (by decide) ?_
                                exact W.zret (v := 1) hx hb hr rfl (fun t ht hW => ⟨⟨1, z452_v, rfl, hq, (xAt_of hP hK hD ht hW)⟩, hS.F ht⟩) hS.2.2 dL_change_465
                            · have hq := hqB n12
                              refine lv_tableOut (tgt := 466) hx hb dL_change_64 (by have e0 := lv_neT n0 (show (0 : Int32).toInt = 0 from by decide); have e1 := lv_neT n1 (show (1 : Int32).toInt = 1 from by decide); have e2 := lv_neT n2 (show (2 : Int32).toInt = 2 from by decide); have e3 := lv_neT n3 (show (3 : Int32).toInt = 3 from by decide); have e4 := lv_neT n4 (show (4 : Int32).toInt = 4 from by decide); have e5 := lv_neT n5 (show (5 : Int32).toInt = 5 from by decide); have e6 := lv_neT n6 (show (6 : Int32).toInt = 6 from by decide); have e7 := lv_neT n7 (show (7 : Int32).toInt = 7 from by decide); have e8 := lv_neT n8 (show (8 : Int32).toInt = 8 from by decide); have e9 := lv_neT n9 (show (9 : Int32).toInt = 9 from by decide); have e10 := lv_neT n10 (show (10 : Int32).toInt = 10 from by decide); have e11 := lv_neT n11 (show (11 : Int32).toInt = 11 from by decide); have e12 := lv_neT n12 (show (12 : Int32).toInt = 12 from by decide); omega) (by decide) ?_
                              refine lv_aload_n hx hb dL_change_466 rfl (lv_at hl 4 rfl) ?_
                              refine lv_bipush (v := 10) hx hb dL_change_467 (by decide) ?_
                              have hFc := xfree_same hS hAe0 (ws := (wX6 cy a z16_v)) hD
                              refine va_calli (va_runV (As := [.int 10]) (rest := []) ⟨hx, hb, hml, hown, hts⟩ (co_X6_count l dC dI cy a _ z16_v 10 _ hq) (cwV 1 hts gL_change_X6_count rfl rfl rfl (by decide +kernel) ⟨Nat.le_of_ble_eq_true rfl, Nat.le_of_ble_eq_true rfl⟩) ⟨xPre_blindE, va_recv hK hP (ci := 6) (q0 := 0) rfl rfl, xPre_ofE hP hK hD hE hS hFc⟩ rfl rfl hl.1 rfl (lv_room (Nat.le_of_ble_eq_true rfl)) dL_change_469 ⟨Nat.le_of_ble_eq_true rfl, Nat.le_of_ble_eq_true rfl⟩) hS (fun q _ h => hFc q h) hFc (fun r469 z469_v t H locs ht hvm hq hB hz1 hk1 hS => ?_)
                              obtain ⟨hP1, -, hD1⟩ := hB
                              rw [ht] at hP1
                              have hP : va_P (dC, dI) vwCl (wX6 cy a z469_v) H := hP1
                              have hD : va_D A (wX6 cy a z469_v) := hD1.weaken (fun _ q _ h => hFc q.1 h)
                              refine lv_istore (lv' := [(7, .int r469), (6, .int (((8 * (2 + r38)) + 2) + r49)), (5, .int r26), (4, .int r16), (0, .ref (a 0)), (1, .int x1), (2, .int x2), (3, .int y16_3)]) hx hb dL_change_472 hl (by decide) rfl (fun ls hl => ?_)
                              refine lv_aload_n hx hb dL_change_474 rfl (lv_at hl 4 rfl) ?_
                              refine lv_iconst (v := 1) hx hb dL_change_475 (by decide) ?_
                              refine lv_iload_n hx hb dL_change_476 rfl (lv_at hl 6 rfl) ?_
                              refine lv_bipush (v := 6) hx hb dL_change_477 (by decide) ?_
                              have hFc := xfree_none hS hAe0
                              refine va_calli (va_runS (As := [.int x2, .int 6]) (rest := [.int 1, .ref (a 0)]) ⟨hx, hb, hml, hown, hts⟩ (c_L_low l dC dI cy  _ x2 6 _ hq) (va_cwS 2 hts gL_change_L_low rfl rfl rfl (by decide +kernel) ⟨Nat.le_of_ble_eq_true rfl, Nat.le_of_ble_eq_true rfl⟩) ⟨xPre_blind, xPre_of xP_nil hK (xD_nil (A := A))⟩ rfl rfl hl.1 rfl (lv_room (Nat.le_of_ble_eq_true rfl)) dL_change_479 ⟨Nat.le_of_ble_eq_true rfl, Nat.le_of_ble_eq_true rfl⟩) hS (fun q _ h => hFc q h) hFc (fun r479 u9 t H locs ht hvm hq hB hz1 hk1 hS => ?_)
                              have hP := xj_none hP hk1
                              refine lv_iadd hx hb dL_change_482 ?_
                              have hFc := xfree_same hS hAe0 (ws := (wX6 cy a z469_v)) hD
                              refine va_calli (va_runV (As := [.int (1 + r479)]) (rest := []) ⟨hx, hb, hml, hown, hts⟩ (co_X6_pass l dC dI cy a _ z469_v (1 + r479) _ hq) (cwV 1 hts gL_change_X6_pass rfl rfl rfl (by decide +kernel) ⟨Nat.le_of_ble_eq_true rfl, Nat.le_of_ble_eq_true rfl⟩) ⟨xPre_blindE, va_recv hK hP (ci := 6) (q0 := 0) rfl rfl, xPre_ofE hP hK hD hE hS hFc⟩ rfl rfl hl.1 rfl (lv_room (Nat.le_of_ble_eq_true rfl)) dL_change_483 ⟨Nat.le_of_ble_eq_true rfl, Nat.le_of_ble_eq_true rfl⟩) hS (fun q _ h => hFc q h) hFc (fun r483 z483_v t H locs ht hvm hq hB hz1 hk1 hS => ?_)
                              obtain ⟨hP1, -, hD1⟩ := hB
                              rw [ht] at hP1
                              have hP : va_P (dC, dI) vwCl (wX6 cy a z483_v) H := hP1
                              have hD : va_D A (wX6 cy a z483_v) := hD1.weaken (fun _ q _ h => hFc q.1 h)
                              refine lv_istore (lv' := [(8, .int r483), (7, .int r469), (6, .int (((8 * (2 + r38)) + 2) + r49)), (5, .int r26), (4, .int r16), (0, .ref (a 0)), (1, .int x1), (2, .int x2), (3, .int y16_3)]) hx hb dL_change_486 hl (by decide) rfl (fun ls hl => ?_)
                              refine lv_aload_n hx hb dL_change_488 rfl (lv_at hl 5 rfl) ?_
                              refine lv_bipush (v := 10) hx hb dL_change_489 (by decide) ?_
                              have hFc := xfree_same hS hAe0 (ws := (wX6 cy a z483_v)) hD
                              refine va_calli (va_runV (As := [.int 10]) (rest := []) ⟨hx, hb, hml, hown, hts⟩ (co_X6_count l dC dI cy a _ z483_v 10 _ hq) (cwV 1 hts gL_change_X6_count rfl rfl rfl (by decide +kernel) ⟨Nat.le_of_ble_eq_true rfl, Nat.le_of_ble_eq_true rfl⟩) ⟨xPre_blindE, va_recv hK hP (ci := 6) (q0 := 0) rfl rfl, xPre_ofE hP hK hD hE hS hFc⟩ rfl rfl hl.1 rfl (lv_room (Nat.le_of_ble_eq_true rfl)) dL_change_491 ⟨Nat.le_of_ble_eq_true rfl, Nat.le_of_ble_eq_true rfl⟩) hS (fun q _ h => hFc q h) hFc (fun r491 z491_v t H locs ht hvm hq hB hz1 hk1 hS => ?_)
                              obtain ⟨hP1, -, hD1⟩ := hB
                              rw [ht] at hP1
                              have hP : va_P (dC, dI) vwCl (wX6 cy a z491_v) H := hP1
                              have hD : va_D A (wX6 cy a z491_v) := hD1.weaken (fun _ q _ h => hFc q.1 h)
                              refine lv_iload hx hb dL_change_494 (lv_at hl 1 rfl) ?_
                              refine lv_iload hx hb dL_change_496 (lv_at hl 0 rfl) ?_
                              refine lv_iadd hx hb dL_change_498 ?_
                              obtain ⟨hqA, hqB⟩ := hq
                              refine lv_icmp_ne (tgt := 506) hx hb dL_change_499 (by decide) (fun c33 => ?_) (fun c33 => ?_)
                              · have hq := hqB c33
                                refine lv_iconst (v := 0) hx hb dL_change_506 (by decide) ?_
                                exact W.zret (v := 0) hx hb hr rfl (fun t ht hW => ⟨⟨0, z491_v, rfl, hq, (xAt_of hP hK hD ht hW)⟩, hS.F ht⟩) hS.2.2 dL_change_507
                              · have hq := hqA c33
                                refine lv_iconst (v := 1) hx hb dL_change_502 (by decide) ?_
                                refine lv_goto (tgt := 507) hx hb dL_change_503 (by decide) ?_
                                exact W.zret (v := 1) hx hb hr rfl (fun t ht hW => ⟨⟨1, z491_v, rfl, hq, (xAt_of hP hK hD ht hW)⟩, hS.F ht⟩) hS.2.2 dL_change_507
  refine lv_aload_n hx hb dL_change_0 rfl (lv_at hl 0 rfl) ?_
  refine lv_iconst (v := 1) hx hb dL_change_1 (by decide) ?_
  have hFc := xfree_same hS hAe0 (ws := (wX6 cy a v)) hD
  refine va_calli (va_runV (As := [.int 1]) (rest := []) ⟨hx, hb, hml, hown, hts⟩ (co_X6_count l dC dI cy a _ v 1 _ hq) (cwV 1 hts gL_change_X6_count rfl rfl rfl (by decide +kernel) ⟨Nat.le_of_ble_eq_true rfl, Nat.le_of_ble_eq_true rfl⟩) ⟨xPre_blindE, va_recv hK hP (ci := 6) (q0 := 0) rfl rfl, xPre_ofE hP hK hD hE hS hFc⟩ rfl rfl hl.1 rfl (lv_room (Nat.le_of_ble_eq_true rfl)) dL_change_2 ⟨Nat.le_of_ble_eq_true rfl, Nat.le_of_ble_eq_true rfl⟩) hS (fun q _ h => hFc q h) hFc (fun r2 z2_v t H locs ht hvm hq hB hz1 hk1 hS => ?_)
  obtain ⟨hP1, -, hD1⟩ := hB
  rw [ht] at hP1
  have hP : va_P (dC, dI) vwCl (wX6 cy a z2_v) H := hP1
  have hD : va_D A (wX6 cy a z2_v) := hD1.weaken (fun _ q _ h => hFc q.1 h)
  refine lv_istore_n (lv' := [(3, .int r2), (0, .ref (a 0)), (1, .int x1), (2, .int x2)]) hx hb dL_change_5 rfl hl (by decide) rfl (fun ls hl => ?_)
  refine lv_iload_n hx hb dL_change_6 rfl (lv_at hl 3 rfl) ?_
  refine lv_iload_n hx hb dL_change_7 rfl (lv_at hl 0 rfl) ?_
  obtain ⟨hqA, hqB⟩ := hq
  refine lv_if_ne (tgt := 15) hx hb dL_change_8 (by decide) (fun c34 => ?_) (fun c34 => ?_)
  · have hq := hqB c34
    refine lv_iload_n hx hb dL_change_15 rfl (lv_at hl 0 rfl) ?_
    exact J16 r2 z2_v r2 x2  _ _ _ hq hP hD hS (lv_sub hl [1, 2, 3, 0] rfl)
  · have hq := hqA c34
    refine lv_iconst (v := 1) hx hb dL_change_11 (by decide) ?_
    refine lv_goto (tgt := 16) hx hb dL_change_12 (by decide) ?_
    exact J16 r2 z2_v 1 x2  _ _ _ hq hP hD hS (lv_sub hl [1, 2, 3, 0] rfl)
