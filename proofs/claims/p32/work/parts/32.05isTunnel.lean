def wp_L_isTunnel_167 (v : V_X6) (nw : Nat) (w : (Nat → Int32)) (x1 : Int32) (y167_4 : Int32) (y167_5 : Int32) (z167_v : V_X6) (z167_w : (Nat → Int32)) (Q : Int32 → V_X6 → (Nat → Int32) → Prop) : Prop :=
  ((y167_5 = 0 → Q 0 z167_v z167_w) ∧
  (¬ y167_5 = 0 → wo_X6_cell z167_v x1 0 (fun r176 =>
  wo_X6_fewest z167_v r176 y167_4 (fun r181 z181_v =>
  ((r181 = 1 → wo_X6_cell z181_v x1 0 (fun r194 =>
  wo_X6_joined z181_v y167_4 r194 (fun r197 z197_v =>
  ((r197 = 1 → Q 1 z197_v z167_w) ∧
  (¬ r197 = 1 → Q 0 z197_v z167_w))))) ∧
  (¬ r181 = 1 → Q 0 z181_v z167_w))))))
def wp_L_isTunnel_129 (v : V_X6) (nw : Nat) (w : (Nat → Int32)) (x1 : Int32) (y79_3 : Int32) (y79_4 : Int32) (y79_5 : Int32) (y79_6 : Int32) (z79_v : V_X6) (z79_w : (Nat → Int32)) (B79 : Int32 → Int32 → V_X6 → (Nat → Int32) → Prop) (y129_7 : Int32) (z129_v : V_X6) (z129_w : (Nat → Int32)) (k129_0 : Int32) (k129_1 : Int32) (Q : Int32 → V_X6 → (Nat → Int32) → Prop) : Prop :=
  ((k129_1 = k129_0 → ((y79_6 = 0 → B79 1 (y79_6 + 1) z129_v z129_w) ∧
  (¬ y79_6 = 0 → wo_X6_cell z129_v x1 (y79_6 - 1) (fun r143 =>
  wp_L_isStep r143 y129_7 (fun r148 =>
  ((r148 = 0 → B79 0 (y79_6 + 1) z129_v z129_w) ∧
  (¬ r148 = 0 → B79 1 (y79_6 + 1) z129_v z129_w))))))) ∧
  (¬ k129_1 = k129_0 → B79 0 (y79_6 + 1) z129_v z129_w))
def wp_L_isTunnel_124 (v : V_X6) (nw : Nat) (w : (Nat → Int32)) (x1 : Int32) (y79_3 : Int32) (y79_4 : Int32) (y79_5 : Int32) (y79_6 : Int32) (z79_v : V_X6) (z79_w : (Nat → Int32)) (B79 : Int32 → Int32 → V_X6 → (Nat → Int32) → Prop) (y124_7 : Int32) (z124_v : V_X6) (z124_w : (Nat → Int32)) (k124_0 : Int32) (Q : Int32 → V_X6 → (Nat → Int32) → Prop) : Prop :=
  wp_L_isTunnel_129 v nw w x1 y79_3 y79_4 y79_5 y79_6 z79_v z79_w B79 y124_7 z124_v z124_w 1 k124_0  Q
def wb_L_isTunnel_79 (v : V_X6) (nw : Nat) (w : (Nat → Int32)) (x1 : Int32) (y79_3 : Int32) (y79_4 : Int32) (y79_5 : Int32) (y79_6 : Int32) (z79_v : V_X6) (z79_w : (Nat → Int32)) (B79 : Int32 → Int32 → V_X6 → (Nat → Int32) → Prop) (Q : Int32 → V_X6 → (Nat → Int32) → Prop) : Prop :=
  ((y79_3 ≤ y79_6 → wp_L_isTunnel_167 v nw w x1 y79_4 y79_5 z79_v z79_w  Q) ∧
  (¬ y79_3 ≤ y79_6 → ((y79_5 = 0 → wp_L_isTunnel_167 v nw w x1 y79_4 y79_5 z79_v z79_w  Q) ∧
  (¬ y79_5 = 0 → wo_X6_cell z79_v x1 y79_6 (fun r94 =>
  vp_in r94 nw ∧ wo_X6_tuft z79_v r94 0 (fun r108 z108_v =>
  ((y79_6 = 0 → wp_L_isTunnel_124 v nw w x1 y79_3 y79_4 y79_5 y79_6 z79_v z79_w B79 r94 z108_v (upd z79_w r94.toNatClampNeg 1) r108  Q) ∧
  (¬ y79_6 = 0 → ((y79_6 = (y79_3 - 1) → wp_L_isTunnel_124 v nw w x1 y79_3 y79_4 y79_5 y79_6 z79_v z79_w B79 r94 z108_v (upd z79_w r94.toNatClampNeg 1) r108  Q) ∧
  (¬ y79_6 = (y79_3 - 1) → wp_L_isTunnel_129 v nw w x1 y79_3 y79_4 y79_5 y79_6 z79_v z79_w B79 r94 z108_v (upd z79_w r94.toNatClampNeg 1) 0 r108  Q))))))))))
def wp_L_isTunnel_79 (v : V_X6) (nw : Nat) (w : (Nat → Int32)) (x1 : Int32) (y79_3 : Int32) (y79_4 : Int32) (y79_5 : Int32) (y79_6 : Int32) (z79_v : V_X6) (z79_w : (Nat → Int32)) (Q : Int32 → V_X6 → (Nat → Int32) → Prop) : Prop :=
  ∃ (I : Int32 → Int32 → V_X6 → (Nat → Int32) → Prop) (μ : Int32 → Int32 → V_X6 → (Nat → Int32) → Nat), I y79_5 y79_6 z79_v z79_w ∧ ∀ (s0 : Int32) (s1 : Int32) (s2 : V_X6) (s3 : (Nat → Int32)), I s0 s1 s2 s3 → wb_L_isTunnel_79 v nw w x1 y79_3 y79_4 s0 s1 s2 s3 (fun t0 t1 t2 t3 => I t0 t1 t2 t3 ∧ μ t0 t1 t2 t3 < μ s0 s1 s2 s3) Q
def wp_L_isTunnel_73 (v : V_X6) (nw : Nat) (w : (Nat → Int32)) (x1 : Int32) (y73_3 : Int32) (y73_4 : Int32) (Q : Int32 → V_X6 → (Nat → Int32) → Prop) : Prop :=
  wp_L_isTunnel_79 v nw w x1 y73_3 y73_4 0 0 v w Q
def wp_L_isTunnel (v : V_X6) (nw : Nat) (w : (Nat → Int32)) (x1 : Int32) (Q : Int32 → V_X6 → (Nat → Int32) → Prop) : Prop :=
  wo_X6_tunnel v x1 2 (fun r3 =>
  wo_X6_cell v x1 (r3 - 1) (fun r12 =>
  ((r3 < 2 → wp_L_isTunnel_73 v nw w x1 r3 r12  Q) ∧
  (¬ r3 < 2 → wo_X6_cell v x1 0 (fun r25 =>
  wo_X6_tunnel v x1 0 (fun r31 =>
  ((r25 = r31 → wo_X6_tunnel v x1 1 (fun r42 =>
  ((r12 = r42 → wo_X6_cell v x1 0 (fun r53 =>
  ((r12 = r53 → wp_L_isTunnel_73 v nw w x1 r3 r12  Q) ∧
  (¬ r12 = r53 → wo_X6_cell v x1 r3 (fun r62 =>
  ((r62 = (-1) → wp_L_isTunnel_79 v nw w x1 r3 r12 1 0 v w Q) ∧
  (¬ r62 = (-1) → wp_L_isTunnel_73 v nw w x1 r3 r12  Q))))))) ∧
  (¬ r12 = r42 → wp_L_isTunnel_73 v nw w x1 r3 r12  Q)))) ∧
  (¬ r25 = r31 → wp_L_isTunnel_73 v nw w x1 r3 r12  Q))))))))
def q_L_isTunnel (dC : Nat → ClassId) (dI : Nat → Nat → Nat) (cy : Nat → ClassId) (a d : Nat → Nat) (v : V_X6) (nw : Nat) (w : (Nat → Int32)) (x1 : Int32) (Q : Int32 → V_X6 → (Nat → Int32) → Prop) (A : Nat → Prop) : Array Value → State → Outcome → State → Prop := va_Qi (fun (r : Int32) (u : V_X6 × (Nat → Int32)) => Q r u.1 u.2) (fun (u : V_X6 × (Nat → Int32)) t => xAt dC dI cy A (wX6 cy a u.1 ++ cAI cy d nw u.2) t) A
set_option maxHeartbeats 4000000 in
set_option maxRecDepth 100000 in
theorem c_L_isTunnel (l : Launch) (dC : Nat → ClassId) (dI : Nat → Nat → Nat) (cy : Nat → ClassId) (a d : Nat → Nat) (sz : Nat) (v : V_X6) (nw : Nat) (w : (Nat → Int32)) (x1 : Int32) (Q : Int32 → V_X6 → (Nat → Int32) → Prop) (hq : wp_L_isTunnel v nw w x1 Q) : Met l yL_isTunnel wsL_isTunnel ({ frames := 7, cells := 0, slots := 0, locals := 160 } : Room) (va_Pc [.ref (a 0), .int x1, .ref (d 0)] (xPreE dC dI cy (wX6 cy a v ++ cAI cy d nw w) sz)) (q_L_isTunnel dC dI cy a d v nw w x1 Q (va_A (wX6 cy a v ++ cAI cy d nw w) sz)) 0 0 (va_A (wX6 cy a v ++ cAI cy d nw w) sz) := by
  refine Met.ofW (cc := cL_isTunnel) (maxL := 8) (ret := (some .boolean)) (by decide) rfl ?_
  intro p e s m args below meth c s₁ B hml hv
  obtain ⟨rfl, hsz, hP, hK, hD0, hE⟩ := hv
  have hx := B.exec
  have hb := B.bytes
  have hr := B.returns
  have hts := atoms_spec (ws := wsL_isTunnel) B.pre
  have hown : s.vm.findClass RL = some m.cls := findClass_of_methodNamed B.named
  have hlocks := B.notSynchronized
  subst hsz
  have hD := hD0.self (sz := s.heap.size)
  generalize hAe : va_A (wX6 cy a v ++ cAI cy d nw w) s.heap.size = A at hD hE ⊢
  have hAe0 : ∀ q : Nat, s.heap.size ≤ q → A q := fun q h => by rw [← hAe]; exact Or.inr h
  have hS : va_S A s.heap s.heap [] := va_S.rf
  have hl := lv_entry ([.ref (a 0), .int x1, .ref (d 0)]) (n := 8) (Nat.le_of_ble_eq_true rfl)
  rw [lg_entry_eq]
  generalize (lg_sl ([.ref (a 0), .int x1, .ref (d 0)]) ++ List.replicate (8 - (lg_sl ([.ref (a 0), .int x1, .ref (d 0)])).length) Slot.unset).toArray = ls at hl ⊢
  have hl : lv_has ls 8 [(0, .ref (a 0)), (1, .int x1), (2, .ref (d 0))] := hl
  unfold wp_L_isTunnel at hq
  have J167 : ∀ (y167_4 : Int32) (y167_5 : Int32) (z167_v : V_X6) (z167_w : (Nat → Int32)) (H : Heap) (locs : List Loc) (ls : Array Slot), wp_L_isTunnel_167 v nw w x1 y167_4 y167_5 z167_v z167_w Q → va_P (dC, dI) vwCl (wX6 cy a z167_v ++ cAI cy d nw z167_w) H → va_D A (wX6 cy a z167_v ++ cAI cy d nw z167_w) → va_S A s.heap H locs → lv_has ls 8 [(0, .ref (a 0)), (1, .int x1), (4, .int y167_4), (5, .int y167_5)] → W p l e (headSpec wsL_isTunnel ({ frames := 7, cells := 0, slots := 0, locals := 160 } : Room)).room s m ([.ref (a 0), .int x1, .ref (d 0)] : List Value).toArray below meth c H locs 0 0 (MQ below (q_L_isTunnel dC dI cy a d v nw w x1 Q A) ([.ref (a 0), .int x1, .ref (d 0)] : List Value).toArray s 0 0 A) (F0 m 167 ls []) := by
    intro y167_4 y167_5 z167_v z167_w H locs ls hq hP hD hS hl
    unfold wp_L_isTunnel_167 at hq
    refine lv_iload hx hb dL_isTunnel_167 (lv_at hl 3 rfl) ?_
    obtain ⟨hqA, hqB⟩ := hq
    refine lv_if_eq (tgt := 208) hx hb dL_isTunnel_169 (by decide) (fun c3 => ?_) (fun c3 => ?_)
    · have hq := hqA c3
      refine lv_iconst (v := 0) hx hb dL_isTunnel_208 (by decide) ?_
      exact W.zret (v := 0) hx hb hr rfl (fun t ht hW => ⟨⟨0, (z167_v, z167_w), rfl, hq, (xAt_of hP hK hD ht hW)⟩, hS.F ht⟩) hS.2.2 dL_isTunnel_209
    · have hq := hqB c3
      refine lv_aload_n hx hb dL_isTunnel_172 rfl (lv_at hl 0 rfl) ?_
      refine lv_aload_n hx hb dL_isTunnel_173 rfl (lv_at hl 0 rfl) ?_
      refine lv_iload_n hx hb dL_isTunnel_174 rfl (lv_at hl 1 rfl) ?_
      refine lv_iconst (v := 0) hx hb dL_isTunnel_175 (by decide) ?_
      have hC : ((rng 0 204).map (fun i => (wX6 cy a z167_v ++ cAI cy d nw z167_w)[i]?)) = (wX6 cy a z167_v).map some := xC_left wX6_len
      have hPc := xsubP hP hC
      have hDc := xsubD hD (rng_nd 204 0) hC
      have hFc := va_free (wc := (wX6 cy a z167_v)) hD hS hAe0 (rng 0 204) hC
      refine va_calli (va_runV (As := [.int x1, .int 0]) (rest := [.ref (a 0)]) ⟨hx, hb, hml, hown, hts⟩ (co_X6_cell l dC dI cy a _ z167_v x1 0 _ hq) (cwV 2 hts gL_isTunnel_X6_cell rfl rfl rfl (by decide +kernel) ⟨Nat.le_of_ble_eq_true rfl, Nat.le_of_ble_eq_true rfl⟩) ⟨xPre_blind, va_recv hK hPc (ci := 6) (q0 := 0) rfl rfl, xPre_of hPc hK hDc⟩ rfl rfl hl.1 rfl (lv_room (Nat.le_of_ble_eq_true rfl)) dL_isTunnel_176 ⟨Nat.le_of_ble_eq_true rfl, Nat.le_of_ble_eq_true rfl⟩) hS (fun q _ h => hFc q h) hFc (fun r176 u9 t H locs ht hvm hq hB hz1 hk1 hS => ?_)
      obtain ⟨hP1, -, hD1⟩ := hB
      rw [ht] at hP1
      have hP : va_P (dC, dI) vwCl (wX6 cy a z167_v ++ cAI cy d nw z167_w) H := xj_keep hP hD (rng 0 204) hC hP1 hk1
      refine lv_iload hx hb dL_isTunnel_179 (lv_at hl 2 rfl) ?_
      have hC : ((rng 0 204).map (fun i => (wX6 cy a z167_v ++ cAI cy d nw z167_w)[i]?)) = (wX6 cy a z167_v).map some := xC_left wX6_len
      have hPc := xsubP hP hC
      have hDc := xsubD hD (rng_nd 204 0) hC
      have hFc := va_free (wc := (wX6 cy a z167_v)) hD hS hAe0 (rng 0 204) hC
      refine va_calli (va_runV (As := [.int r176, .int y167_4]) (rest := []) ⟨hx, hb, hml, hown, hts⟩ (co_X6_fewest l dC dI cy a _ z167_v r176 y167_4 _ hq) (cwV 2 hts gL_isTunnel_X6_fewest rfl rfl rfl (by decide +kernel) ⟨Nat.le_of_ble_eq_true rfl, Nat.le_of_ble_eq_true rfl⟩) ⟨xPre_blind, va_recv hK hPc (ci := 6) (q0 := 0) rfl rfl, xPre_of hPc hK hDc⟩ rfl rfl hl.1 rfl (lv_room (Nat.le_of_ble_eq_true rfl)) dL_isTunnel_181 ⟨Nat.le_of_ble_eq_true rfl, Nat.le_of_ble_eq_true rfl⟩) hS (fun q _ h => hFc q h) hFc (fun r181 z181_v t H locs ht hvm hq hB hz1 hk1 hS => ?_)
      obtain ⟨hP1, -, hD1⟩ := hB
      rw [ht] at hP1
      obtain ⟨hP, hD⟩ := xj hP hD (rng 0 204) (wX6 cy a z181_v) (ws' := (wX6 cy a z181_v ++ cAI cy d nw z167_w)) hC wX6_fst (xS_left wX6_len wX6_len) hk1 hFc hP1
      refine lv_iconst (v := 1) hx hb dL_isTunnel_184 (by decide) ?_
      obtain ⟨hqA, hqB⟩ := hq
      refine lv_icmp_ne (tgt := 208) hx hb dL_isTunnel_185 (by decide) (fun c2 => ?_) (fun c2 => ?_)
      · have hq := hqB c2
        refine lv_iconst (v := 0) hx hb dL_isTunnel_208 (by decide) ?_
        exact W.zret (v := 0) hx hb hr rfl (fun t ht hW => ⟨⟨0, (z181_v, z167_w), rfl, hq, (xAt_of hP hK hD ht hW)⟩, hS.F ht⟩) hS.2.2 dL_isTunnel_209
      · have hq := hqA c2
        refine lv_aload_n hx hb dL_isTunnel_188 rfl (lv_at hl 0 rfl) ?_
        refine lv_iload hx hb dL_isTunnel_189 (lv_at hl 2 rfl) ?_
        refine lv_aload_n hx hb dL_isTunnel_191 rfl (lv_at hl 0 rfl) ?_
        refine lv_iload_n hx hb dL_isTunnel_192 rfl (lv_at hl 1 rfl) ?_
        refine lv_iconst (v := 0) hx hb dL_isTunnel_193 (by decide) ?_
        have hC : ((rng 0 204).map (fun i => (wX6 cy a z181_v ++ cAI cy d nw z167_w)[i]?)) = (wX6 cy a z181_v).map some := xC_left wX6_len
        have hPc := xsubP hP hC
        have hDc := xsubD hD (rng_nd 204 0) hC
        have hFc := va_free (wc := (wX6 cy a z181_v)) hD hS hAe0 (rng 0 204) hC
        refine va_calli (va_runV (As := [.int x1, .int 0]) (rest := [.int y167_4, .ref (a 0)]) ⟨hx, hb, hml, hown, hts⟩ (co_X6_cell l dC dI cy a _ z181_v x1 0 _ hq) (cwV 2 hts gL_isTunnel_X6_cell rfl rfl rfl (by decide +kernel) ⟨Nat.le_of_ble_eq_true rfl, Nat.le_of_ble_eq_true rfl⟩) ⟨xPre_blind, va_recv hK hPc (ci := 6) (q0 := 0) rfl rfl, xPre_of hPc hK hDc⟩ rfl rfl hl.1 rfl (lv_room (Nat.le_of_ble_eq_true rfl)) dL_isTunnel_194 ⟨Nat.le_of_ble_eq_true rfl, Nat.le_of_ble_eq_true rfl⟩) hS (fun q _ h => hFc q h) hFc (fun r194 u9 t H locs ht hvm hq hB hz1 hk1 hS => ?_)
        obtain ⟨hP1, -, hD1⟩ := hB
        rw [ht] at hP1
        have hP : va_P (dC, dI) vwCl (wX6 cy a z181_v ++ cAI cy d nw z167_w) H := xj_keep hP hD (rng 0 204) hC hP1 hk1
        have hC : ((rng 0 204).map (fun i => (wX6 cy a z181_v ++ cAI cy d nw z167_w)[i]?)) = (wX6 cy a z181_v).map some := xC_left wX6_len
        have hPc := xsubP hP hC
        have hDc := xsubD hD (rng_nd 204 0) hC
        have hFc := va_free (wc := (wX6 cy a z181_v)) hD hS hAe0 (rng 0 204) hC
        refine va_calli (va_runV (As := [.int y167_4, .int r194]) (rest := []) ⟨hx, hb, hml, hown, hts⟩ (co_X6_joined l dC dI cy a _ z181_v y167_4 r194 _ hq) (cwV 2 hts gL_isTunnel_X6_joined rfl rfl rfl (by decide +kernel) ⟨Nat.le_of_ble_eq_true rfl, Nat.le_of_ble_eq_true rfl⟩) ⟨xPre_blind, va_recv hK hPc (ci := 6) (q0 := 0) rfl rfl, xPre_of hPc hK hDc⟩ rfl rfl hl.1 rfl (lv_room (Nat.le_of_ble_eq_true rfl)) dL_isTunnel_197 ⟨Nat.le_of_ble_eq_true rfl, Nat.le_of_ble_eq_true rfl⟩) hS (fun q _ h => hFc q h) hFc (fun r197 z197_v t H locs ht hvm hq hB hz1 hk1 hS => ?_)
        obtain ⟨hP1, -, hD1⟩ := hB
        rw [ht] at hP1
        obtain ⟨hP, hD⟩ := xj hP hD (rng 0 204) (wX6 cy a z197_v) (ws' := (wX6 cy a z197_v ++ cAI cy d nw z167_w)) hC wX6_fst (xS_left wX6_len wX6_len) hk1 hFc hP1
        refine lv_iconst (v := 1) hx hb dL_isTunnel_200 (by decide) ?_
        obtain ⟨hqA, hqB⟩ := hq
        refine lv_icmp_ne (tgt := 208) hx hb dL_isTunnel_201 (by decide) (fun c1 => ?_) (fun c1 => ?_)
        · have hq := hqB c1
          refine lv_iconst (v := 0) hx hb dL_isTunnel_208 (by decide) ?_
          exact W.zret (v := 0) hx hb hr rfl (fun t ht hW => ⟨⟨0, (z197_v, z167_w), rfl, hq, (xAt_of hP hK hD ht hW)⟩, hS.F ht⟩) hS.2.2 dL_isTunnel_209
        · have hq := hqA c1
          refine lv_iconst (v := 1) hx hb dL_isTunnel_204 (by decide) ?_
          refine lv_goto (tgt := 209) hx hb dL_isTunnel_205 (by decide) ?_
          exact W.zret (v := 1) hx hb hr rfl (fun t ht hW => ⟨⟨1, (z197_v, z167_w), rfl, hq, (xAt_of hP hK hD ht hW)⟩, hS.F ht⟩) hS.2.2 dL_isTunnel_209
  have J79 : ∀ (y79_3 : Int32) (y79_4 : Int32) (y79_5 : Int32) (y79_6 : Int32) (z79_v : V_X6) (z79_w : (Nat → Int32)) (H : Heap) (locs : List Loc) (ls : Array Slot), wp_L_isTunnel_79 v nw w x1 y79_3 y79_4 y79_5 y79_6 z79_v z79_w Q → va_P (dC, dI) vwCl (wX6 cy a z79_v ++ cAI cy d nw z79_w) H → va_D A (wX6 cy a z79_v ++ cAI cy d nw z79_w) → va_S A s.heap H locs → lv_has ls 8 [(0, .ref (a 0)), (1, .int x1), (2, .ref (d 0)), (3, .int y79_3), (4, .int y79_4), (5, .int y79_5), (6, .int y79_6)] → W p l e (headSpec wsL_isTunnel ({ frames := 7, cells := 0, slots := 0, locals := 160 } : Room)).room s m ([.ref (a 0), .int x1, .ref (d 0)] : List Value).toArray below meth c H locs 0 0 (MQ below (q_L_isTunnel dC dI cy a d v nw w x1 Q A) ([.ref (a 0), .int x1, .ref (d 0)] : List Value).toArray s 0 0 A) (F0 m 79 ls []) := by
    intro y79_3 y79_4 y79_5 y79_6 z79_v z79_w H locs ls hq hP hD hS hl
    obtain ⟨I79, μ79, h0, hs79⟩ := hq
    have key : ∀ (n : Nat) (y79_5 : Int32) (y79_6 : Int32) (z79_v : V_X6) (z79_w : (Nat → Int32)) (H : Heap) (locs : List Loc) (ls : Array Slot), I79 y79_5 y79_6 z79_v z79_w → μ79 y79_5 y79_6 z79_v z79_w < n → va_P (dC, dI) vwCl (wX6 cy a z79_v ++ cAI cy d nw z79_w) H → va_D A (wX6 cy a z79_v ++ cAI cy d nw z79_w) → va_S A s.heap H locs → lv_has ls 8 [(0, .ref (a 0)), (1, .int x1), (2, .ref (d 0)), (3, .int y79_3), (4, .int y79_4), (5, .int y79_5), (6, .int y79_6)] → W p l e (headSpec wsL_isTunnel ({ frames := 7, cells := 0, slots := 0, locals := 160 } : Room)).room s m ([.ref (a 0), .int x1, .ref (d 0)] : List Value).toArray below meth c H locs 0 0 (MQ below (q_L_isTunnel dC dI cy a d v nw w x1 Q A) ([.ref (a 0), .int x1, .ref (d 0)] : List Value).toArray s 0 0 A) (F0 m 79 ls []) := by
      intro n
      induction n with
      | zero => intro y79_5 y79_6 z79_v z79_w H locs ls _ hm; exact absurd hm (Nat.not_lt_zero _)
      | succ n ih =>
        intro y79_5 y79_6 z79_v z79_w H locs ls hI hm hP hD hS hl
        have hq := hs79 y79_5 y79_6 z79_v z79_w hI
        generalize hB79 : (fun (t0 : Int32) (t1 : Int32) (t2 : V_X6) (t3 : (Nat → Int32)) => I79 t0 t1 t2 t3 ∧ μ79 t0 t1 t2 t3 < μ79 y79_5 y79_6 z79_v z79_w) = B79 at hq
        have bk79 : ∀ (y79_5 : Int32) (y79_6 : Int32) (z79_v : V_X6) (z79_w : (Nat → Int32)) (H : Heap) (locs : List Loc) (ls : Array Slot), B79 y79_5 y79_6 z79_v z79_w → va_P (dC, dI) vwCl (wX6 cy a z79_v ++ cAI cy d nw z79_w) H → va_D A (wX6 cy a z79_v ++ cAI cy d nw z79_w) → va_S A s.heap H locs → lv_has ls 8 [(0, .ref (a 0)), (1, .int x1), (2, .ref (d 0)), (3, .int y79_3), (4, .int y79_4), (5, .int y79_5), (6, .int y79_6)] → W p l e (headSpec wsL_isTunnel ({ frames := 7, cells := 0, slots := 0, locals := 160 } : Room)).room s m ([.ref (a 0), .int x1, .ref (d 0)] : List Value).toArray below meth c H locs 0 0 (MQ below (q_L_isTunnel dC dI cy a d v nw w x1 Q A) ([.ref (a 0), .int x1, .ref (d 0)] : List Value).toArray s 0 0 A) (F0 m 79 ls []) := by
          intro y79_5 y79_6 z79_v z79_w H locs ls h
          rw [← hB79] at h
          exact ih y79_5 y79_6 z79_v z79_w H locs ls h.1 (Nat.lt_of_lt_of_le h.2 (Nat.le_of_lt_succ hm))
        unfold wb_L_isTunnel_79 at hq
        have J129 : ∀ (y129_7 : Int32) (z129_v : V_X6) (z129_w : (Nat → Int32)) (k129_0 : Int32) (k129_1 : Int32) (H : Heap) (locs : List Loc) (ls : Array Slot), wp_L_isTunnel_129 v nw w x1 y79_3 y79_4 y79_5 y79_6 z79_v z79_w B79 y129_7 z129_v z129_w k129_0 k129_1 Q → va_P (dC, dI) vwCl (wX6 cy a z129_v ++ cAI cy d nw z129_w) H → va_D A (wX6 cy a z129_v ++ cAI cy d nw z129_w) → va_S A s.heap H locs → lv_has ls 8 [(0, .ref (a 0)), (1, .int x1), (2, .ref (d 0)), (3, .int y79_3), (4, .int y79_4), (6, .int y79_6), (7, .int y129_7)] → W p l e (headSpec wsL_isTunnel ({ frames := 7, cells := 0, slots := 0, locals := 160 } : Room)).room s m ([.ref (a 0), .int x1, .ref (d 0)] : List Value).toArray below meth c H locs 0 0 (MQ below (q_L_isTunnel dC dI cy a d v nw w x1 Q A) ([.ref (a 0), .int x1, .ref (d 0)] : List Value).toArray s 0 0 A) (F0 m 129 ls [.int k129_0, .int k129_1]) := by
          intro y129_7 z129_v z129_w k129_0 k129_1 H locs ls hq hP hD hS hl
          unfold wp_L_isTunnel_129 at hq
          obtain ⟨hqA, hqB⟩ := hq
          refine lv_icmp_ne (tgt := 158) hx hb dL_isTunnel_129 (by decide) (fun c6 => ?_) (fun c6 => ?_)
          · have hq := hqB c6
            refine lv_iconst (v := 0) hx hb dL_isTunnel_158 (by decide) ?_
            refine lv_istore (lv' := [(5, .int 0), (0, .ref (a 0)), (1, .int x1), (2, .ref (d 0)), (3, .int y79_3), (4, .int y79_4), (6, .int y79_6), (7, .int y129_7)]) hx hb dL_isTunnel_159 hl (by decide) rfl (fun ls hl => ?_)
            refine lv_iinc (v := (y79_6 + 1)) (lv' := [(6, .int (y79_6 + 1)), (5, .int 0), (0, .ref (a 0)), (1, .int x1), (2, .ref (d 0)), (3, .int y79_3), (4, .int y79_4), (7, .int y129_7)]) hx hb dL_isTunnel_161 hl (k := 6) rfl rfl (by decide) rfl (fun ls hl => ?_)
            refine lv_goto (tgt := 79) hx hb dL_isTunnel_164 (by decide) ?_
            exact bk79 0 (y79_6 + 1) z129_v z129_w _ _ _ hq hP hD hS (lv_sub hl [2, 3, 4, 5, 6, 1, 0] rfl)
          · have hq := hqA c6
            refine lv_iload hx hb dL_isTunnel_132 (lv_at hl 5 rfl) ?_
            obtain ⟨hqA, hqB⟩ := hq
            refine lv_if_eq (tgt := 154) hx hb dL_isTunnel_134 (by decide) (fun c5 => ?_) (fun c5 => ?_)
            · have hq := hqA c5
              refine lv_iconst (v := 1) hx hb dL_isTunnel_154 (by decide) ?_
              refine lv_goto (tgt := 159) hx hb dL_isTunnel_155 (by decide) ?_
              refine lv_istore (lv' := [(5, .int 1), (0, .ref (a 0)), (1, .int x1), (2, .ref (d 0)), (3, .int y79_3), (4, .int y79_4), (6, .int y79_6), (7, .int y129_7)]) hx hb dL_isTunnel_159 hl (by decide) rfl (fun ls hl => ?_)
              refine lv_iinc (v := (y79_6 + 1)) (lv' := [(6, .int (y79_6 + 1)), (5, .int 1), (0, .ref (a 0)), (1, .int x1), (2, .ref (d 0)), (3, .int y79_3), (4, .int y79_4), (7, .int y129_7)]) hx hb dL_isTunnel_161 hl (k := 6) rfl rfl (by decide) rfl (fun ls hl => ?_)
              refine lv_goto (tgt := 79) hx hb dL_isTunnel_164 (by decide) ?_
              exact bk79 1 (y79_6 + 1) z129_v z129_w _ _ _ hq hP hD hS (lv_sub hl [2, 3, 4, 5, 6, 1, 0] rfl)
            · have hq := hqB c5
              refine lv_aload_n hx hb dL_isTunnel_137 rfl (lv_at hl 0 rfl) ?_
              refine lv_iload_n hx hb dL_isTunnel_138 rfl (lv_at hl 1 rfl) ?_
              refine lv_iload hx hb dL_isTunnel_139 (lv_at hl 5 rfl) ?_
              refine lv_iconst (v := 1) hx hb dL_isTunnel_141 (by decide) ?_
              refine lv_isub hx hb dL_isTunnel_142 ?_
              have hC : ((rng 0 204).map (fun i => (wX6 cy a z129_v ++ cAI cy d nw z129_w)[i]?)) = (wX6 cy a z129_v).map some := xC_left wX6_len
              have hPc := xsubP hP hC
              have hDc := xsubD hD (rng_nd 204 0) hC
              have hFc := va_free (wc := (wX6 cy a z129_v)) hD hS hAe0 (rng 0 204) hC
              refine va_calli (va_runV (As := [.int x1, .int (y79_6 - 1)]) (rest := []) ⟨hx, hb, hml, hown, hts⟩ (co_X6_cell l dC dI cy a _ z129_v x1 (y79_6 - 1) _ hq) (cwV 2 hts gL_isTunnel_X6_cell rfl rfl rfl (by decide +kernel) ⟨Nat.le_of_ble_eq_true rfl, Nat.le_of_ble_eq_true rfl⟩) ⟨xPre_blind, va_recv hK hPc (ci := 6) (q0 := 0) rfl rfl, xPre_of hPc hK hDc⟩ rfl rfl hl.1 rfl (lv_room (Nat.le_of_ble_eq_true rfl)) dL_isTunnel_143 ⟨Nat.le_of_ble_eq_true rfl, Nat.le_of_ble_eq_true rfl⟩) hS (fun q _ h => hFc q h) hFc (fun r143 u9 t H locs ht hvm hq hB hz1 hk1 hS => ?_)
              obtain ⟨hP1, -, hD1⟩ := hB
              rw [ht] at hP1
              have hP : va_P (dC, dI) vwCl (wX6 cy a z129_v ++ cAI cy d nw z129_w) H := xj_keep hP hD (rng 0 204) hC hP1 hk1
              refine lv_iload hx hb dL_isTunnel_146 (lv_at hl 6 rfl) ?_
              have hFc := xfree_none hS hAe0
              refine va_calli (va_runS (As := [.int r143, .int y129_7]) (rest := []) ⟨hx, hb, hml, hown, hts⟩ (c_L_isStep l dC dI cy  _ r143 y129_7 _ hq) (va_cwS 2 hts gL_isTunnel_L_isStep rfl rfl rfl (by decide +kernel) ⟨Nat.le_of_ble_eq_true rfl, Nat.le_of_ble_eq_true rfl⟩) ⟨xPre_blind, xPre_of xP_nil hK (xD_nil (A := A))⟩ rfl rfl hl.1 rfl (lv_room (Nat.le_of_ble_eq_true rfl)) dL_isTunnel_148 ⟨Nat.le_of_ble_eq_true rfl, Nat.le_of_ble_eq_true rfl⟩) hS (fun q _ h => hFc q h) hFc (fun r148 u9 t H locs ht hvm hq hB hz1 hk1 hS => ?_)
              have hP := xj_none hP hk1
              obtain ⟨hqA, hqB⟩ := hq
              refine lv_if_eq (tgt := 158) hx hb dL_isTunnel_151 (by decide) (fun c4 => ?_) (fun c4 => ?_)
              · have hq := hqA c4
                refine lv_iconst (v := 0) hx hb dL_isTunnel_158 (by decide) ?_
                refine lv_istore (lv' := [(5, .int 0), (0, .ref (a 0)), (1, .int x1), (2, .ref (d 0)), (3, .int y79_3), (4, .int y79_4), (6, .int y79_6), (7, .int y129_7)]) hx hb dL_isTunnel_159 hl (by decide) rfl (fun ls hl => ?_)
                refine lv_iinc (v := (y79_6 + 1)) (lv' := [(6, .int (y79_6 + 1)), (5, .int 0), (0, .ref (a 0)), (1, .int x1), (2, .ref (d 0)), (3, .int y79_3), (4, .int y79_4), (7, .int y129_7)]) hx hb dL_isTunnel_161 hl (k := 6) rfl rfl (by decide) rfl (fun ls hl => ?_)
                refine lv_goto (tgt := 79) hx hb dL_isTunnel_164 (by decide) ?_
                exact bk79 0 (y79_6 + 1) z129_v z129_w _ _ _ hq hP hD hS (lv_sub hl [2, 3, 4, 5, 6, 1, 0] rfl)
              · have hq := hqB c4
                refine lv_iconst (v := 1) hx hb dL_isTunnel_154 (by decide) ?_
                refine lv_goto (tgt := 159) hx hb dL_isTunnel_155 (by decide) ?_
                refine lv_istore (lv' := [(5, .int 1), (0, .ref (a 0)), (1, .int x1), (2, .ref (d 0)), (3, .int y79_3), (4, .int y79_4), (6, .int y79_6), (7, .int y129_7)]) hx hb dL_isTunnel_159 hl (by decide) rfl (fun ls hl => ?_)
                refine lv_iinc (v := (y79_6 + 1)) (lv' := [(6, .int (y79_6 + 1)), (5, .int 1), (0, .ref (a 0)), (1, .int x1), (2, .ref (d 0)), (3, .int y79_3), (4, .int y79_4), (7, .int y129_7)]) hx hb dL_isTunnel_161 hl (k := 6) rfl rfl (by decide) rfl (fun ls hl => ?_)
                refine lv_goto (tgt := 79) hx hb dL_isTunnel_164 (by decide) ?_
                exact bk79 1 (y79_6 + 1) z129_v z129_w _ _ _ hq hP hD hS (lv_sub hl [2, 3, 4, 5, 6, 1, 0] rfl)
        have J124 : ∀ (y124_7 : Int32) (z124_v : V_X6) (z124_w : (Nat → Int32)) (k124_0 : Int32) (H : Heap) (locs : List Loc) (ls : Array Slot), wp_L_isTunnel_124 v nw w x1 y79_3 y79_4 y79_5 y79_6 z79_v z79_w B79 y124_7 z124_v z124_w k124_0 Q → va_P (dC, dI) vwCl (wX6 cy a z124_v ++ cAI cy d nw z124_w) H → va_D A (wX6 cy a z124_v ++ cAI cy d nw z124_w) → va_S A s.heap H locs → lv_has ls 8 [(0, .ref (a 0)), (1, .int x1), (2, .ref (d 0)), (3, .int y79_3), (4, .int y79_4), (6, .int y79_6), (7, .int y124_7)] → W p l e (headSpec wsL_isTunnel ({ frames := 7, cells := 0, slots := 0, locals := 160 } : Room)).room s m ([.ref (a 0), .int x1, .ref (d 0)] : List Value).toArray below meth c H locs 0 0 (MQ below (q_L_isTunnel dC dI cy a d v nw w x1 Q A) ([.ref (a 0), .int x1, .ref (d 0)] : List Value).toArray s 0 0 A) (F0 m 124 ls [.int k124_0]) := by
          intro y124_7 z124_v z124_w k124_0 H locs ls hq hP hD hS hl
          unfold wp_L_isTunnel_124 at hq
          refine lv_iconst (v := 1) hx hb dL_isTunnel_124 (by decide) ?_
          refine lv_goto (tgt := 129) hx hb dL_isTunnel_125 (by decide) ?_
          exact J129 y124_7 z124_v z124_w 1 k124_0  _ _ _ hq hP hD hS (lv_sub hl [0, 1, 2, 3, 4, 5, 6] rfl)
        refine lv_iload hx hb dL_isTunnel_79 (lv_at hl 6 rfl) ?_
        refine lv_iload_n hx hb dL_isTunnel_81 rfl (lv_at hl 3 rfl) ?_
        obtain ⟨hqA, hqB⟩ := hq
        refine lv_icmp_ge (tgt := 167) hx hb dL_isTunnel_82 (by decide) (fun c11 => ?_) (fun c11 => ?_)
        · have hq := hqA c11
          exact J167 y79_4 y79_5 z79_v z79_w  _ _ _ hq hP hD hS (lv_sub hl [0, 1, 4, 5] rfl)
        · have hq := hqB c11
          refine lv_iload hx hb dL_isTunnel_85 (lv_at hl 5 rfl) ?_
          obtain ⟨hqA, hqB⟩ := hq
          refine lv_if_eq (tgt := 167) hx hb dL_isTunnel_87 (by decide) (fun c10 => ?_) (fun c10 => ?_)
          · have hq := hqA c10
            exact J167 y79_4 y79_5 z79_v z79_w  _ _ _ hq hP hD hS (lv_sub hl [0, 1, 4, 5] rfl)
          · have hq := hqB c10
            refine lv_aload_n hx hb dL_isTunnel_90 rfl (lv_at hl 0 rfl) ?_
            refine lv_iload_n hx hb dL_isTunnel_91 rfl (lv_at hl 1 rfl) ?_
            refine lv_iload hx hb dL_isTunnel_92 (lv_at hl 6 rfl) ?_
            have hC : ((rng 0 204).map (fun i => (wX6 cy a z79_v ++ cAI cy d nw z79_w)[i]?)) = (wX6 cy a z79_v).map some := xC_left wX6_len
            have hPc := xsubP hP hC
            have hDc := xsubD hD (rng_nd 204 0) hC
            have hFc := va_free (wc := (wX6 cy a z79_v)) hD hS hAe0 (rng 0 204) hC
            refine va_calli (va_runV (As := [.int x1, .int y79_6]) (rest := []) ⟨hx, hb, hml, hown, hts⟩ (co_X6_cell l dC dI cy a _ z79_v x1 y79_6 _ hq) (cwV 2 hts gL_isTunnel_X6_cell rfl rfl rfl (by decide +kernel) ⟨Nat.le_of_ble_eq_true rfl, Nat.le_of_ble_eq_true rfl⟩) ⟨xPre_blind, va_recv hK hPc (ci := 6) (q0 := 0) rfl rfl, xPre_of hPc hK hDc⟩ rfl rfl hl.1 rfl (lv_room (Nat.le_of_ble_eq_true rfl)) dL_isTunnel_94 ⟨Nat.le_of_ble_eq_true rfl, Nat.le_of_ble_eq_true rfl⟩) hS (fun q _ h => hFc q h) hFc (fun r94 u9 t H locs ht hvm hq hB hz1 hk1 hS => ?_)
            obtain ⟨hP1, -, hD1⟩ := hB
            rw [ht] at hP1
            have hP : va_P (dC, dI) vwCl (wX6 cy a z79_v ++ cAI cy d nw z79_w) H := xj_keep hP hD (rng 0 204) hC hP1 hk1
            refine lv_istore (lv' := [(7, .int r94), (0, .ref (a 0)), (1, .int x1), (2, .ref (d 0)), (3, .int y79_3), (4, .int y79_4), (5, .int y79_5), (6, .int y79_6)]) hx hb dL_isTunnel_97 hl (by decide) rfl (fun ls hl => ?_)
            refine lv_aload_n hx hb dL_isTunnel_99 rfl (lv_at hl 3 rfl) ?_
            refine lv_iload hx hb dL_isTunnel_100 (lv_at hl 0 rfl) ?_
            refine lv_iconst (v := 1) hx hb dL_isTunnel_102 (by decide) ?_
            obtain ⟨g7, hq⟩ := hq
            refine va_iast hx hb hK hP hD hS 204 0 rfl rfl g7 dL_isTunnel_103 (fun H locs hP hD hS => ?_)
            have hP : va_P (dC, dI) vwCl (wX6 cy a z79_v ++ cAI cy d nw (upd z79_w r94.toNatClampNeg 1)) H := hP
            have hD : va_D A (wX6 cy a z79_v ++ cAI cy d nw (upd z79_w r94.toNatClampNeg 1)) := hD
            refine lv_aload_n hx hb dL_isTunnel_104 rfl (lv_at hl 1 rfl) ?_
            refine lv_iload hx hb dL_isTunnel_105 (lv_at hl 0 rfl) ?_
            refine lv_iconst (v := 0) hx hb dL_isTunnel_107 (by decide) ?_
            have hC : ((rng 0 204).map (fun i => (wX6 cy a z79_v ++ cAI cy d nw (upd z79_w r94.toNatClampNeg 1))[i]?)) = (wX6 cy a z79_v).map some := xC_left wX6_len
            have hPc := xsubP hP hC
            have hDc := xsubD hD (rng_nd 204 0) hC
            have hFc := va_free (wc := (wX6 cy a z79_v)) hD hS hAe0 (rng 0 204) hC
            refine va_calli (va_runV (As := [.int r94, .int 0]) (rest := []) ⟨hx, hb, hml, hown, hts⟩ (co_X6_tuft l dC dI cy a _ z79_v r94 0 _ hq) (cwV 2 hts gL_isTunnel_X6_tuft rfl rfl rfl (by decide +kernel) ⟨Nat.le_of_ble_eq_true rfl, Nat.le_of_ble_eq_true rfl⟩) ⟨xPre_blindE, va_recv hK hPc (ci := 6) (q0 := 0) rfl rfl, xPre_ofE hPc hK hDc hE hS hFc⟩ rfl rfl hl.1 rfl (lv_room (Nat.le_of_ble_eq_true rfl)) dL_isTunnel_108 ⟨Nat.le_of_ble_eq_true rfl, Nat.le_of_ble_eq_true rfl⟩) hS (fun q _ h => hFc q h) hFc (fun r108 z108_v t H locs ht hvm hq hB hz1 hk1 hS => ?_)
            obtain ⟨hP1, -, hD1⟩ := hB
            rw [ht] at hP1
            obtain ⟨hP, hD⟩ := xj hP hD (rng 0 204) (wX6 cy a z108_v) (ws' := (wX6 cy a z108_v ++ cAI cy d nw (upd z79_w r94.toNatClampNeg 1))) hC wX6_fst (xS_left wX6_len wX6_len) hk1 hFc hP1
            refine lv_iload hx hb dL_isTunnel_111 (lv_at hl 7 rfl) ?_
            obtain ⟨hqA, hqB⟩ := hq
            refine lv_if_eq (tgt := 124) hx hb dL_isTunnel_113 (by decide) (fun c9 => ?_) (fun c9 => ?_)
            · have hq := hqA c9
              exact J124 r94 z108_v (upd z79_w r94.toNatClampNeg 1) r108  _ _ _ hq hP hD hS (lv_sub hl [1, 2, 3, 4, 5, 7, 0] rfl)
            · have hq := hqB c9
              refine lv_iload hx hb dL_isTunnel_116 (lv_at hl 7 rfl) ?_
              refine lv_iload_n hx hb dL_isTunnel_118 rfl (lv_at hl 4 rfl) ?_
              refine lv_iconst (v := 1) hx hb dL_isTunnel_119 (by decide) ?_
              refine lv_isub hx hb dL_isTunnel_120 ?_
              obtain ⟨hqA, hqB⟩ := hq
              refine lv_icmp_ne (tgt := 128) hx hb dL_isTunnel_121 (by decide) (fun c8 => ?_) (fun c8 => ?_)
              · have hq := hqB c8
                refine lv_iconst (v := 0) hx hb dL_isTunnel_128 (by decide) ?_
                exact J129 r94 z108_v (upd z79_w r94.toNatClampNeg 1) 0 r108  _ _ _ hq hP hD hS (lv_sub hl [1, 2, 3, 4, 5, 7, 0] rfl)
              · have hq := hqA c8
                exact J124 r94 z108_v (upd z79_w r94.toNatClampNeg 1) r108  _ _ _ hq hP hD hS (lv_sub hl [1, 2, 3, 4, 5, 7, 0] rfl)
    exact key _ y79_5 y79_6 z79_v z79_w H locs ls h0 (Nat.lt_succ_self _) hP hD hS hl
  have J73 : ∀ (y73_3 : Int32) (y73_4 : Int32) (H : Heap) (locs : List Loc) (ls : Array Slot), wp_L_isTunnel_73 v nw w x1 y73_3 y73_4 Q → va_P (dC, dI) vwCl (wX6 cy a v ++ cAI cy d nw w) H → va_D A (wX6 cy a v ++ cAI cy d nw w) → va_S A s.heap H locs → lv_has ls 8 [(0, .ref (a 0)), (1, .int x1), (2, .ref (d 0)), (3, .int y73_3), (4, .int y73_4)] → W p l e (headSpec wsL_isTunnel ({ frames := 7, cells := 0, slots := 0, locals := 160 } : Room)).room s m ([.ref (a 0), .int x1, .ref (d 0)] : List Value).toArray below meth c H locs 0 0 (MQ below (q_L_isTunnel dC dI cy a d v nw w x1 Q A) ([.ref (a 0), .int x1, .ref (d 0)] : List Value).toArray s 0 0 A) (F0 m 73 ls []) := by
    intro y73_3 y73_4 H locs ls hq hP hD hS hl
    unfold wp_L_isTunnel_73 at hq
    refine lv_iconst (v := 0) hx hb dL_isTunnel_73 (by decide) ?_
    refine lv_istore (lv' := [(5, .int 0), (0, .ref (a 0)), (1, .int x1), (2, .ref (d 0)), (3, .int y73_3), (4, .int y73_4)]) hx hb dL_isTunnel_74 hl (by decide) rfl (fun ls hl => ?_)
    refine lv_iconst (v := 0) hx hb dL_isTunnel_76 (by decide) ?_
    refine lv_istore (lv' := [(6, .int 0), (5, .int 0), (0, .ref (a 0)), (1, .int x1), (2, .ref (d 0)), (3, .int y73_3), (4, .int y73_4)]) hx hb dL_isTunnel_77 hl (by decide) rfl (fun ls hl => ?_)
    exact J79 y73_3 y73_4 0 0 v w _ _ _ hq hP hD hS (lv_sub hl [2, 3, 4, 5, 6, 1, 0] rfl)
  refine lv_aload_n hx hb dL_isTunnel_0 rfl (lv_at hl 0 rfl) ?_
  refine lv_iload_n hx hb dL_isTunnel_1 rfl (lv_at hl 1 rfl) ?_
  refine lv_iconst (v := 2) hx hb dL_isTunnel_2 (by decide) ?_
  have hC : ((rng 0 204).map (fun i => (wX6 cy a v ++ cAI cy d nw w)[i]?)) = (wX6 cy a v).map some := xC_left wX6_len
  have hPc := xsubP hP hC
  have hDc := xsubD hD (rng_nd 204 0) hC
  have hFc := va_free (wc := (wX6 cy a v)) hD hS hAe0 (rng 0 204) hC
  refine va_calli (va_runV (As := [.int x1, .int 2]) (rest := []) ⟨hx, hb, hml, hown, hts⟩ (co_X6_tunnel l dC dI cy a _ v x1 2 _ hq) (cwV 2 hts gL_isTunnel_X6_tunnel rfl rfl rfl (by decide +kernel) ⟨Nat.le_of_ble_eq_true rfl, Nat.le_of_ble_eq_true rfl⟩) ⟨xPre_blind, va_recv hK hPc (ci := 6) (q0 := 0) rfl rfl, xPre_of hPc hK hDc⟩ rfl rfl hl.1 rfl (lv_room (Nat.le_of_ble_eq_true rfl)) dL_isTunnel_3 ⟨Nat.le_of_ble_eq_true rfl, Nat.le_of_ble_eq_true rfl⟩) hS (fun q _ h => hFc q h) hFc (fun r3 u9 t H locs ht hvm hq hB hz1 hk1 hS => ?_)
  obtain ⟨hP1, -, hD1⟩ := hB
  rw [ht] at hP1
  have hP : va_P (dC, dI) vwCl (wX6 cy a v ++ cAI cy d nw w) H := xj_keep hP hD (rng 0 204) hC hP1 hk1
  refine lv_istore_n (lv' := [(3, .int r3), (0, .ref (a 0)), (1, .int x1), (2, .ref (d 0))]) hx hb dL_isTunnel_6 rfl hl (by decide) rfl (fun ls hl => ?_)
  refine lv_aload_n hx hb dL_isTunnel_7 rfl (lv_at hl 1 rfl) ?_
  refine lv_iload_n hx hb dL_isTunnel_8 rfl (lv_at hl 2 rfl) ?_
  refine lv_iload_n hx hb dL_isTunnel_9 rfl (lv_at hl 0 rfl) ?_
  refine lv_iconst (v := 1) hx hb dL_isTunnel_10 (by decide) ?_
  refine lv_isub hx hb dL_isTunnel_11 ?_
  have hC : ((rng 0 204).map (fun i => (wX6 cy a v ++ cAI cy d nw w)[i]?)) = (wX6 cy a v).map some := xC_left wX6_len
  have hPc := xsubP hP hC
  have hDc := xsubD hD (rng_nd 204 0) hC
  have hFc := va_free (wc := (wX6 cy a v)) hD hS hAe0 (rng 0 204) hC
  refine va_calli (va_runV (As := [.int x1, .int (r3 - 1)]) (rest := []) ⟨hx, hb, hml, hown, hts⟩ (co_X6_cell l dC dI cy a _ v x1 (r3 - 1) _ hq) (cwV 2 hts gL_isTunnel_X6_cell rfl rfl rfl (by decide +kernel) ⟨Nat.le_of_ble_eq_true rfl, Nat.le_of_ble_eq_true rfl⟩) ⟨xPre_blind, va_recv hK hPc (ci := 6) (q0 := 0) rfl rfl, xPre_of hPc hK hDc⟩ rfl rfl hl.1 rfl (lv_room (Nat.le_of_ble_eq_true rfl)) dL_isTunnel_12 ⟨Nat.le_of_ble_eq_true rfl, Nat.le_of_ble_eq_true rfl⟩) hS (fun q _ h => hFc q h) hFc (fun r12 u9 t H locs ht hvm hq hB hz1 hk1 hS => ?_)
  obtain ⟨hP1, -, hD1⟩ := hB
  rw [ht] at hP1
  have hP : va_P (dC, dI) vwCl (wX6 cy a v ++ cAI cy d nw w) H := xj_keep hP hD (rng 0 204) hC hP1 hk1
  refine lv_istore (lv' := [(4, .int r12), (3, .int r3), (0, .ref (a 0)), (1, .int x1), (2, .ref (d 0))]) hx hb dL_isTunnel_15 hl (by decide) rfl (fun ls hl => ?_)
  refine lv_iload_n hx hb dL_isTunnel_17 rfl (lv_at hl 1 rfl) ?_
  refine lv_iconst (v := 2) hx hb dL_isTunnel_18 (by decide) ?_
  obtain ⟨hqA, hqB⟩ := hq
  refine lv_icmp_lt (tgt := 73) hx hb dL_isTunnel_19 (by decide) (fun c16 => ?_) (fun c16 => ?_)
  · have hq := hqA c16
    exact J73 r3 r12  _ _ _ hq hP hD hS (lv_sub hl [2, 3, 4, 1, 0] rfl)
  · have hq := hqB c16
    refine lv_aload_n hx hb dL_isTunnel_22 rfl (lv_at hl 2 rfl) ?_
    refine lv_iload_n hx hb dL_isTunnel_23 rfl (lv_at hl 3 rfl) ?_
    refine lv_iconst (v := 0) hx hb dL_isTunnel_24 (by decide) ?_
    have hC : ((rng 0 204).map (fun i => (wX6 cy a v ++ cAI cy d nw w)[i]?)) = (wX6 cy a v).map some := xC_left wX6_len
    have hPc := xsubP hP hC
    have hDc := xsubD hD (rng_nd 204 0) hC
    have hFc := va_free (wc := (wX6 cy a v)) hD hS hAe0 (rng 0 204) hC
    refine va_calli (va_runV (As := [.int x1, .int 0]) (rest := []) ⟨hx, hb, hml, hown, hts⟩ (co_X6_cell l dC dI cy a _ v x1 0 _ hq) (cwV 2 hts gL_isTunnel_X6_cell rfl rfl rfl (by decide +kernel) ⟨Nat.le_of_ble_eq_true rfl, Nat.le_of_ble_eq_true rfl⟩) ⟨xPre_blind, va_recv hK hPc (ci := 6) (q0 := 0) rfl rfl, xPre_of hPc hK hDc⟩ rfl rfl hl.1 rfl (lv_room (Nat.le_of_ble_eq_true rfl)) dL_isTunnel_25 ⟨Nat.le_of_ble_eq_true rfl, Nat.le_of_ble_eq_true rfl⟩) hS (fun q _ h => hFc q h) hFc (fun r25 u9 t H locs ht hvm hq hB hz1 hk1 hS => ?_)
    obtain ⟨hP1, -, hD1⟩ := hB
    rw [ht] at hP1
    have hP : va_P (dC, dI) vwCl (wX6 cy a v ++ cAI cy d nw w) H := xj_keep hP hD (rng 0 204) hC hP1 hk1
    refine lv_aload_n hx hb dL_isTunnel_28 rfl (lv_at hl 2 rfl) ?_
    refine lv_iload_n hx hb dL_isTunnel_29 rfl (lv_at hl 3 rfl) ?_
    refine lv_iconst (v := 0) hx hb dL_isTunnel_30 (by decide) ?_
    have hC : ((rng 0 204).map (fun i => (wX6 cy a v ++ cAI cy d nw w)[i]?)) = (wX6 cy a v).map some := xC_left wX6_len
    have hPc := xsubP hP hC
    have hDc := xsubD hD (rng_nd 204 0) hC
    have hFc := va_free (wc := (wX6 cy a v)) hD hS hAe0 (rng 0 204) hC
    refine va_calli (va_runV (As := [.int x1, .int 0]) (rest := [.int r25]) ⟨hx, hb, hml, hown, hts⟩ (co_X6_tunnel l dC dI cy a _ v x1 0 _ hq) (cwV 2 hts gL_isTunnel_X6_tunnel rfl rfl rfl (by decide +kernel) ⟨Nat.le_of_ble_eq_true rfl, Nat.le_of_ble_eq_true rfl⟩) ⟨xPre_blind, va_recv hK hPc (ci := 6) (q0 := 0) rfl rfl, xPre_of hPc hK hDc⟩ rfl rfl hl.1 rfl (lv_room (Nat.le_of_ble_eq_true rfl)) dL_isTunnel_31 ⟨Nat.le_of_ble_eq_true rfl, Nat.le_of_ble_eq_true rfl⟩) hS (fun q _ h => hFc q h) hFc (fun r31 u9 t H locs ht hvm hq hB hz1 hk1 hS => ?_)
    obtain ⟨hP1, -, hD1⟩ := hB
    rw [ht] at hP1
    have hP : va_P (dC, dI) vwCl (wX6 cy a v ++ cAI cy d nw w) H := xj_keep hP hD (rng 0 204) hC hP1 hk1
    obtain ⟨hqA, hqB⟩ := hq
    refine lv_icmp_ne (tgt := 73) hx hb dL_isTunnel_34 (by decide) (fun c15 => ?_) (fun c15 => ?_)
    · have hq := hqB c15
      exact J73 r3 r12  _ _ _ hq hP hD hS (lv_sub hl [2, 3, 4, 1, 0] rfl)
    · have hq := hqA c15
      refine lv_iload hx hb dL_isTunnel_37 (lv_at hl 0 rfl) ?_
      refine lv_aload_n hx hb dL_isTunnel_39 rfl (lv_at hl 2 rfl) ?_
      refine lv_iload_n hx hb dL_isTunnel_40 rfl (lv_at hl 3 rfl) ?_
      refine lv_iconst (v := 1) hx hb dL_isTunnel_41 (by decide) ?_
      have hC : ((rng 0 204).map (fun i => (wX6 cy a v ++ cAI cy d nw w)[i]?)) = (wX6 cy a v).map some := xC_left wX6_len
      have hPc := xsubP hP hC
      have hDc := xsubD hD (rng_nd 204 0) hC
      have hFc := va_free (wc := (wX6 cy a v)) hD hS hAe0 (rng 0 204) hC
      refine va_calli (va_runV (As := [.int x1, .int 1]) (rest := [.int r12]) ⟨hx, hb, hml, hown, hts⟩ (co_X6_tunnel l dC dI cy a _ v x1 1 _ hq) (cwV 2 hts gL_isTunnel_X6_tunnel rfl rfl rfl (by decide +kernel) ⟨Nat.le_of_ble_eq_true rfl, Nat.le_of_ble_eq_true rfl⟩) ⟨xPre_blind, va_recv hK hPc (ci := 6) (q0 := 0) rfl rfl, xPre_of hPc hK hDc⟩ rfl rfl hl.1 rfl (lv_room (Nat.le_of_ble_eq_true rfl)) dL_isTunnel_42 ⟨Nat.le_of_ble_eq_true rfl, Nat.le_of_ble_eq_true rfl⟩) hS (fun q _ h => hFc q h) hFc (fun r42 u9 t H locs ht hvm hq hB hz1 hk1 hS => ?_)
      obtain ⟨hP1, -, hD1⟩ := hB
      rw [ht] at hP1
      have hP : va_P (dC, dI) vwCl (wX6 cy a v ++ cAI cy d nw w) H := xj_keep hP hD (rng 0 204) hC hP1 hk1
      obtain ⟨hqA, hqB⟩ := hq
      refine lv_icmp_ne (tgt := 73) hx hb dL_isTunnel_45 (by decide) (fun c14 => ?_) (fun c14 => ?_)
      · have hq := hqB c14
        exact J73 r3 r12  _ _ _ hq hP hD hS (lv_sub hl [2, 3, 4, 1, 0] rfl)
      · have hq := hqA c14
        refine lv_iload hx hb dL_isTunnel_48 (lv_at hl 0 rfl) ?_
        refine lv_aload_n hx hb dL_isTunnel_50 rfl (lv_at hl 2 rfl) ?_
        refine lv_iload_n hx hb dL_isTunnel_51 rfl (lv_at hl 3 rfl) ?_
        refine lv_iconst (v := 0) hx hb dL_isTunnel_52 (by decide) ?_
        have hC : ((rng 0 204).map (fun i => (wX6 cy a v ++ cAI cy d nw w)[i]?)) = (wX6 cy a v).map some := xC_left wX6_len
        have hPc := xsubP hP hC
        have hDc := xsubD hD (rng_nd 204 0) hC
        have hFc := va_free (wc := (wX6 cy a v)) hD hS hAe0 (rng 0 204) hC
        refine va_calli (va_runV (As := [.int x1, .int 0]) (rest := [.int r12]) ⟨hx, hb, hml, hown, hts⟩ (co_X6_cell l dC dI cy a _ v x1 0 _ hq) (cwV 2 hts gL_isTunnel_X6_cell rfl rfl rfl (by decide +kernel) ⟨Nat.le_of_ble_eq_true rfl, Nat.le_of_ble_eq_true rfl⟩) ⟨xPre_blind, va_recv hK hPc (ci := 6) (q0 := 0) rfl rfl, xPre_of hPc hK hDc⟩ rfl rfl hl.1 rfl (lv_room (Nat.le_of_ble_eq_true rfl)) dL_isTunnel_53 ⟨Nat.le_of_ble_eq_true rfl, Nat.le_of_ble_eq_true rfl⟩) hS (fun q _ h => hFc q h) hFc (fun r53 u9 t H locs ht hvm hq hB hz1 hk1 hS => ?_)
        obtain ⟨hP1, -, hD1⟩ := hB
        rw [ht] at hP1
        have hP : va_P (dC, dI) vwCl (wX6 cy a v ++ cAI cy d nw w) H := xj_keep hP hD (rng 0 204) hC hP1 hk1
        obtain ⟨hqA, hqB⟩ := hq
        refine lv_icmp_eq (tgt := 73) hx hb dL_isTunnel_56 (by decide) (fun c13 => ?_) (fun c13 => ?_)
        · have hq := hqA c13
          exact J73 r3 r12  _ _ _ hq hP hD hS (lv_sub hl [2, 3, 4, 1, 0] rfl)
        · have hq := hqB c13
          refine lv_aload_n hx hb dL_isTunnel_59 rfl (lv_at hl 2 rfl) ?_
          refine lv_iload_n hx hb dL_isTunnel_60 rfl (lv_at hl 3 rfl) ?_
          refine lv_iload_n hx hb dL_isTunnel_61 rfl (lv_at hl 1 rfl) ?_
          have hC : ((rng 0 204).map (fun i => (wX6 cy a v ++ cAI cy d nw w)[i]?)) = (wX6 cy a v).map some := xC_left wX6_len
          have hPc := xsubP hP hC
          have hDc := xsubD hD (rng_nd 204 0) hC
          have hFc := va_free (wc := (wX6 cy a v)) hD hS hAe0 (rng 0 204) hC
          refine va_calli (va_runV (As := [.int x1, .int r3]) (rest := []) ⟨hx, hb, hml, hown, hts⟩ (co_X6_cell l dC dI cy a _ v x1 r3 _ hq) (cwV 2 hts gL_isTunnel_X6_cell rfl rfl rfl (by decide +kernel) ⟨Nat.le_of_ble_eq_true rfl, Nat.le_of_ble_eq_true rfl⟩) ⟨xPre_blind, va_recv hK hPc (ci := 6) (q0 := 0) rfl rfl, xPre_of hPc hK hDc⟩ rfl rfl hl.1 rfl (lv_room (Nat.le_of_ble_eq_true rfl)) dL_isTunnel_62 ⟨Nat.le_of_ble_eq_true rfl, Nat.le_of_ble_eq_true rfl⟩) hS (fun q _ h => hFc q h) hFc (fun r62 u9 t H locs ht hvm hq hB hz1 hk1 hS => ?_)
          obtain ⟨hP1, -, hD1⟩ := hB
          rw [ht] at hP1
          have hP : va_P (dC, dI) vwCl (wX6 cy a v ++ cAI cy d nw w) H := xj_keep hP hD (rng 0 204) hC hP1 hk1
          refine lv_iconst (v := (-1)) hx hb dL_isTunnel_65 (by decide) ?_
          obtain ⟨hqA, hqB⟩ := hq
          refine lv_icmp_ne (tgt := 73) hx hb dL_isTunnel_66 (by decide) (fun c12 => ?_) (fun c12 => ?_)
          · have hq := hqB c12
            exact J73 r3 r12  _ _ _ hq hP hD hS (lv_sub hl [2, 3, 4, 1, 0] rfl)
          · have hq := hqA c12
            refine lv_iconst (v := 1) hx hb dL_isTunnel_69 (by decide) ?_
            refine lv_goto (tgt := 74) hx hb dL_isTunnel_70 (by decide) ?_
            refine lv_istore (lv' := [(5, .int 1), (4, .int r12), (3, .int r3), (0, .ref (a 0)), (1, .int x1), (2, .ref (d 0))]) hx hb dL_isTunnel_74 hl (by decide) rfl (fun ls hl => ?_)
            refine lv_iconst (v := 0) hx hb dL_isTunnel_76 (by decide) ?_
            refine lv_istore (lv' := [(6, .int 0), (5, .int 1), (4, .int r12), (3, .int r3), (0, .ref (a 0)), (1, .int x1), (2, .ref (d 0))]) hx hb dL_isTunnel_77 hl (by decide) rfl (fun ls hl => ?_)
            exact J79 r3 r12 1 0 v w _ _ _ hq hP hD hS (lv_sub hl [4, 5, 6, 3, 2, 1, 0] rfl)
