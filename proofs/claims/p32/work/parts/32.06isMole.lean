def wp_L_isMole_173 (v : V_X6) (nw : Nat) (w : (Nat → Int32)) (x1 : Int32) (y173_3 : Int32) (y173_4 : Int32) (z173_v : V_X6) (z173_w : (Nat → Int32)) (k173_0 : Int32) (Q : Int32 → V_X6 → (Nat → Int32) → Prop) : Prop :=
  ((k173_0 = 0 → Q 0 z173_v z173_w) ∧
  (¬ k173_0 = 0 → wo_X6_tuft z173_v y173_3 3 (fun r183 z183_v =>
  ((r183 = 1 → wo_X6_tuft z183_v y173_4 3 (fun r194 z194_v =>
  ((r194 = 1 → wo_X6_tuft z194_v y173_3 8 (fun r205 z205_v =>
  ((r205 ≤ 0 → Q 0 z205_v z173_w) ∧
  (¬ r205 ≤ 0 → Q 1 z205_v z173_w)))) ∧
  (¬ r194 = 1 → Q 0 z194_v z173_w)))) ∧
  (¬ r183 = 1 → Q 0 z183_v z173_w)))))
def wp_L_isMole_172 (v : V_X6) (nw : Nat) (w : (Nat → Int32)) (x1 : Int32) (y172_3 : Int32) (y172_4 : Int32) (z172_v : V_X6) (z172_w : (Nat → Int32)) (Q : Int32 → V_X6 → (Nat → Int32) → Prop) : Prop :=
  wp_L_isMole_173 v nw w x1 y172_3 y172_4 z172_v z172_w 0  Q
def wp_L_isMole_165 (v : V_X6) (nw : Nat) (w : (Nat → Int32)) (x1 : Int32) (y165_3 : Int32) (y165_4 : Int32) (z165_v : V_X6) (z165_w : (Nat → Int32)) (k165_0 : Int32) (k165_1 : Int32) (Q : Int32 → V_X6 → (Nat → Int32) → Prop) : Prop :=
  ((k165_1 = k165_0 → wp_L_isMole_173 v nw w x1 y165_3 y165_4 z165_v z165_w 1  Q) ∧
  (¬ k165_1 = k165_0 → wp_L_isMole_172 v nw w x1 y165_3 y165_4 z165_v z165_w  Q))
def wp_L_isMole_155 (v : V_X6) (nw : Nat) (w : (Nat → Int32)) (x1 : Int32) (y155_3 : Int32) (y155_4 : Int32) (y155_6 : Int32) (z155_v : V_X6) (z155_w : (Nat → Int32)) (k155_0 : Int32) (Q : Int32 → V_X6 → (Nat → Int32) → Prop) : Prop :=
  ((y155_6 = 0 → wp_L_isMole_165 v nw w x1 y155_3 y155_4 z155_v z155_w 1 k155_0  Q) ∧
  (¬ y155_6 = 0 → wp_L_isMole_165 v nw w x1 y155_3 y155_4 z155_v z155_w 0 k155_0  Q))
def wp_L_isMole_96 (v : V_X6) (nw : Nat) (w : (Nat → Int32)) (x1 : Int32) (y96_3 : Int32) (y96_4 : Int32) (y96_6 : Int32) (z96_v : V_X6) (z96_w : (Nat → Int32)) (k96_0 : Int32) (Q : Int32 → V_X6 → (Nat → Int32) → Prop) : Prop :=
  ((k96_0 = 0 → wp_L_isMole_172 v nw w x1 y96_3 y96_4 z96_v z96_w  Q) ∧
  (¬ k96_0 = 0 → wo_X6_moleOf z96_v x1 1 (fun r106 =>
  ((r106 < 1 → wp_L_isMole_172 v nw w x1 y96_3 y96_4 z96_v z96_w  Q) ∧
  (¬ r106 < 1 → wo_X6_moleOf z96_v x1 1 (fun r116 =>
  wo_X6_count z96_v 13 (fun r122 z122_v =>
  ((r122 < r116 → wp_L_isMole_172 v nw w x1 y96_3 y96_4 z122_v z96_w  Q) ∧
  (¬ r122 < r116 → ((y96_6 < 0 → wp_L_isMole_172 v nw w x1 y96_3 y96_4 z122_v z96_w  Q) ∧
  (¬ y96_6 < 0 → ((20 < y96_6 → wp_L_isMole_172 v nw w x1 y96_3 y96_4 z122_v z96_w  Q) ∧
  (¬ 20 < y96_6 → wo_X6_moleOf z122_v x1 3 (fun r143 =>
  ((r143 = (-1) → wp_L_isMole_155 v nw w x1 y96_3 y96_4 y96_6 z122_v z96_w 1  Q) ∧
  (¬ r143 = (-1) → wp_L_isMole_155 v nw w x1 y96_3 y96_4 y96_6 z122_v z96_w 0  Q))))))))))))))))
def wp_L_isMole_95 (v : V_X6) (nw : Nat) (w : (Nat → Int32)) (x1 : Int32) (y95_3 : Int32) (y95_4 : Int32) (y95_6 : Int32) (z95_v : V_X6) (z95_w : (Nat → Int32)) (Q : Int32 → V_X6 → (Nat → Int32) → Prop) : Prop :=
  wp_L_isMole_96 v nw w x1 y95_3 y95_4 y95_6 z95_v z95_w 0  Q
def wp_L_isMole_91 (v : V_X6) (nw : Nat) (w : (Nat → Int32)) (x1 : Int32) (y91_3 : Int32) (y91_4 : Int32) (y91_6 : Int32) (z91_v : V_X6) (z91_w : (Nat → Int32)) (Q : Int32 → V_X6 → (Nat → Int32) → Prop) : Prop :=
  wp_L_isMole_96 v nw w x1 y91_3 y91_4 y91_6 z91_v z91_w 1  Q
def wp_L_isMole_76 (v : V_X6) (nw : Nat) (w : (Nat → Int32)) (x1 : Int32) (y76_3 : Int32) (y76_4 : Int32) (y76_5 : Int32) (y76_6 : Int32) (z76_v : V_X6) (z76_w : (Nat → Int32)) (Q : Int32 → V_X6 → (Nat → Int32) → Prop) : Prop :=
  ((y76_5 = 1 → wp_L_isMole_91 v nw w x1 y76_3 y76_4 y76_6 z76_v z76_w  Q) ∧
  (¬ y76_5 = 1 → wo_X6_tuft z76_v y76_3 0 (fun r85 z85_v =>
  ((r85 = 0 → wp_L_isMole_91 v nw w x1 y76_3 y76_4 y76_6 z85_v z76_w  Q) ∧
  (¬ r85 = 0 → wp_L_isMole_95 v nw w x1 y76_3 y76_4 y76_6 z85_v z76_w  Q)))))
def wp_L_isMole (v : V_X6) (nw : Nat) (w : (Nat → Int32)) (x1 : Int32) (Q : Int32 → V_X6 → (Nat → Int32) → Prop) : Prop :=
  wo_X6_moleOf v x1 0 (fun r3 =>
  wo_X6_moleOf v x1 4 (fun r10 =>
  wo_X6_moleOf v x1 5 (fun r18 =>
  wo_X6_moleOf v x1 2 (fun r26 =>
  vp_in r3 nw ∧ vp_in r10 nw ∧ wo_X6_tuft v r10 0 (fun r44 z44_v =>
  ((r44 = 1 → ((r18 < 1 → wp_L_isMole_95 v nw w x1 r3 r10 r26 z44_v (upd (upd w r3.toNatClampNeg 1) r10.toNatClampNeg 1)  Q) ∧
  (¬ r18 < 1 → ((21 < r18 → wp_L_isMole_95 v nw w x1 r3 r10 r26 z44_v (upd (upd w r3.toNatClampNeg 1) r10.toNatClampNeg 1)  Q) ∧
  (¬ 21 < r18 → ((1 < r18 → wp_L_isMole_76 v nw w x1 r3 r10 r18 r26 z44_v (upd (upd w r3.toNatClampNeg 1) r10.toNatClampNeg 1)  Q) ∧
  (¬ 1 < r18 → ((r3 = r10 → wp_L_isMole_76 v nw w x1 r3 r10 r18 r26 z44_v (upd (upd w r3.toNatClampNeg 1) r10.toNatClampNeg 1)  Q) ∧
  (¬ r3 = r10 → wp_L_isMole_95 v nw w x1 r3 r10 r26 z44_v (upd (upd w r3.toNatClampNeg 1) r10.toNatClampNeg 1)  Q))))))))) ∧
  (¬ r44 = 1 → wp_L_isMole_95 v nw w x1 r3 r10 r26 z44_v (upd (upd w r3.toNatClampNeg 1) r10.toNatClampNeg 1)  Q)))))))
def q_L_isMole (dC : Nat → ClassId) (dI : Nat → Nat → Nat) (cy : Nat → ClassId) (a d : Nat → Nat) (v : V_X6) (nw : Nat) (w : (Nat → Int32)) (x1 : Int32) (Q : Int32 → V_X6 → (Nat → Int32) → Prop) (A : Nat → Prop) : Array Value → State → Outcome → State → Prop := va_Qi (fun (r : Int32) (u : V_X6 × (Nat → Int32)) => Q r u.1 u.2) (fun (u : V_X6 × (Nat → Int32)) t => xAt dC dI cy A (wX6 cy a u.1 ++ cAI cy d nw u.2) t) A
set_option maxHeartbeats 4000000 in
set_option maxRecDepth 100000 in
theorem c_L_isMole (l : Launch) (dC : Nat → ClassId) (dI : Nat → Nat → Nat) (cy : Nat → ClassId) (a d : Nat → Nat) (sz : Nat) (v : V_X6) (nw : Nat) (w : (Nat → Int32)) (x1 : Int32) (Q : Int32 → V_X6 → (Nat → Int32) → Prop) (hq : wp_L_isMole v nw w x1 Q) : Met l yL_isMole wsL_isMole ({ frames := 7, cells := 0, slots := 0, locals := 160 } : Room) (va_Pc [.ref (a 0), .int x1, .ref (d 0)] (xPreE dC dI cy (wX6 cy a v ++ cAI cy d nw w) sz)) (q_L_isMole dC dI cy a d v nw w x1 Q (va_A (wX6 cy a v ++ cAI cy d nw w) sz)) 0 0 (va_A (wX6 cy a v ++ cAI cy d nw w) sz) := by
  refine Met.ofW (cc := cL_isMole) (maxL := 8) (ret := (some .boolean)) (by decide) rfl ?_
  intro p e s m args below meth c s₁ B hml hv
  obtain ⟨rfl, hsz, hP, hK, hD0, hE⟩ := hv
  have hx := B.exec
  have hb := B.bytes
  have hr := B.returns
  have hts := atoms_spec (ws := wsL_isMole) B.pre
  have hown : s.vm.findClass RL = some m.cls := findClass_of_methodNamed B.named
  have hlocks := B.notSynchronized
  subst hsz
  have hD := hD0.self (sz := s.heap.size)
  generalize hAe : va_A (wX6 cy a v ++ cAI cy d nw w) s.heap.size = A at hD hE ⊢
  have hAe0 : ∀ q : Nat, s.heap.size ≤ q → A q := fun q h => by rw [← hAe]; exact Or.inr h
  have hS : va_S A s.heap s.heap [] := va_S.rf
  have hl := lv_entry ([.ref (a 0), .int x1, .ref (d 0)]) (n := 8) (Nat.le_of_ble_eq_true rfl)
  rw [lg_entry_eq]
  generalize (lg_sl ([.ref (a 0), .int x1, .ref (d 0)]) ++ List.replicate (8 - (lg_sl ([.ref (a 0), .int x1, .ref (d 0)])).length) Slot.unset).toArray = ls at hl ⊢
  have hl : lv_has ls 8 [(0, .ref (a 0)), (1, .int x1), (2, .ref (d 0))] := hl
  unfold wp_L_isMole at hq
  have J173 : ∀ (y173_3 : Int32) (y173_4 : Int32) (z173_v : V_X6) (z173_w : (Nat → Int32)) (k173_0 : Int32) (H : Heap) (locs : List Loc) (ls : Array Slot), wp_L_isMole_173 v nw w x1 y173_3 y173_4 z173_v z173_w k173_0 Q → va_P (dC, dI) vwCl (wX6 cy a z173_v ++ cAI cy d nw z173_w) H → va_D A (wX6 cy a z173_v ++ cAI cy d nw z173_w) → va_S A s.heap H locs → lv_has ls 8 [(0, .ref (a 0)), (3, .int y173_3), (4, .int y173_4)] → W p l e (headSpec wsL_isMole ({ frames := 7, cells := 0, slots := 0, locals := 160 } : Room)).room s m ([.ref (a 0), .int x1, .ref (d 0)] : List Value).toArray below meth c H locs 0 0 (MQ below (q_L_isMole dC dI cy a d v nw w x1 Q A) ([.ref (a 0), .int x1, .ref (d 0)] : List Value).toArray s 0 0 A) (F0 m 173 ls [.int k173_0]) := by
    intro y173_3 y173_4 z173_v z173_w k173_0 H locs ls hq hP hD hS hl
    unfold wp_L_isMole_173 at hq
    refine lv_istore (lv' := [(7, .int k173_0), (0, .ref (a 0)), (3, .int y173_3), (4, .int y173_4)]) hx hb dL_isMole_173 hl (by decide) rfl (fun ls hl => ?_)
    refine lv_iload hx hb dL_isMole_175 (lv_at hl 0 rfl) ?_
    obtain ⟨hqA, hqB⟩ := hq
    refine lv_if_eq (tgt := 215) hx hb dL_isMole_177 (by decide) (fun c4 => ?_) (fun c4 => ?_)
    · have hq := hqA c4
      refine lv_iconst (v := 0) hx hb dL_isMole_215 (by decide) ?_
      exact W.zret (v := 0) hx hb hr rfl (fun t ht hW => ⟨⟨0, (z173_v, z173_w), rfl, hq, (xAt_of hP hK hD ht hW)⟩, hS.F ht⟩) hS.2.2 dL_isMole_216
    · have hq := hqB c4
      refine lv_aload_n hx hb dL_isMole_180 rfl (lv_at hl 1 rfl) ?_
      refine lv_iload_n hx hb dL_isMole_181 rfl (lv_at hl 2 rfl) ?_
      refine lv_iconst (v := 3) hx hb dL_isMole_182 (by decide) ?_
      have hC : ((rng 0 204).map (fun i => (wX6 cy a z173_v ++ cAI cy d nw z173_w)[i]?)) = (wX6 cy a z173_v).map some := xC_left wX6_len
      have hPc := xsubP hP hC
      have hDc := xsubD hD (rng_nd 204 0) hC
      have hFc := va_free (wc := (wX6 cy a z173_v)) hD hS hAe0 (rng 0 204) hC
      refine va_calli (va_runV (As := [.int y173_3, .int 3]) (rest := []) ⟨hx, hb, hml, hown, hts⟩ (co_X6_tuft l dC dI cy a _ z173_v y173_3 3 _ hq) (cwV 2 hts gL_isMole_X6_tuft rfl rfl rfl (by decide +kernel) ⟨Nat.le_of_ble_eq_true rfl, Nat.le_of_ble_eq_true rfl⟩) ⟨xPre_blindE, va_recv hK hPc (ci := 6) (q0 := 0) rfl rfl, xPre_ofE hPc hK hDc hE hS hFc⟩ rfl rfl hl.1 rfl (lv_room (Nat.le_of_ble_eq_true rfl)) dL_isMole_183 ⟨Nat.le_of_ble_eq_true rfl, Nat.le_of_ble_eq_true rfl⟩) hS (fun q _ h => hFc q h) hFc (fun r183 z183_v t H locs ht hvm hq hB hz1 hk1 hS => ?_)
      obtain ⟨hP1, -, hD1⟩ := hB
      rw [ht] at hP1
      obtain ⟨hP, hD⟩ := xj hP hD (rng 0 204) (wX6 cy a z183_v) (ws' := (wX6 cy a z183_v ++ cAI cy d nw z173_w)) hC wX6_fst (xS_left wX6_len wX6_len) hk1 hFc hP1
      refine lv_iconst (v := 1) hx hb dL_isMole_186 (by decide) ?_
      obtain ⟨hqA, hqB⟩ := hq
      refine lv_icmp_ne (tgt := 215) hx hb dL_isMole_187 (by decide) (fun c3 => ?_) (fun c3 => ?_)
      · have hq := hqB c3
        refine lv_iconst (v := 0) hx hb dL_isMole_215 (by decide) ?_
        exact W.zret (v := 0) hx hb hr rfl (fun t ht hW => ⟨⟨0, (z183_v, z173_w), rfl, hq, (xAt_of hP hK hD ht hW)⟩, hS.F ht⟩) hS.2.2 dL_isMole_216
      · have hq := hqA c3
        refine lv_aload_n hx hb dL_isMole_190 rfl (lv_at hl 1 rfl) ?_
        refine lv_iload hx hb dL_isMole_191 (lv_at hl 3 rfl) ?_
        refine lv_iconst (v := 3) hx hb dL_isMole_193 (by decide) ?_
        have hC : ((rng 0 204).map (fun i => (wX6 cy a z183_v ++ cAI cy d nw z173_w)[i]?)) = (wX6 cy a z183_v).map some := xC_left wX6_len
        have hPc := xsubP hP hC
        have hDc := xsubD hD (rng_nd 204 0) hC
        have hFc := va_free (wc := (wX6 cy a z183_v)) hD hS hAe0 (rng 0 204) hC
        refine va_calli (va_runV (As := [.int y173_4, .int 3]) (rest := []) ⟨hx, hb, hml, hown, hts⟩ (co_X6_tuft l dC dI cy a _ z183_v y173_4 3 _ hq) (cwV 2 hts gL_isMole_X6_tuft rfl rfl rfl (by decide +kernel) ⟨Nat.le_of_ble_eq_true rfl, Nat.le_of_ble_eq_true rfl⟩) ⟨xPre_blindE, va_recv hK hPc (ci := 6) (q0 := 0) rfl rfl, xPre_ofE hPc hK hDc hE hS hFc⟩ rfl rfl hl.1 rfl (lv_room (Nat.le_of_ble_eq_true rfl)) dL_isMole_194 ⟨Nat.le_of_ble_eq_true rfl, Nat.le_of_ble_eq_true rfl⟩) hS (fun q _ h => hFc q h) hFc (fun r194 z194_v t H locs ht hvm hq hB hz1 hk1 hS => ?_)
        obtain ⟨hP1, -, hD1⟩ := hB
        rw [ht] at hP1
        obtain ⟨hP, hD⟩ := xj hP hD (rng 0 204) (wX6 cy a z194_v) (ws' := (wX6 cy a z194_v ++ cAI cy d nw z173_w)) hC wX6_fst (xS_left wX6_len wX6_len) hk1 hFc hP1
        refine lv_iconst (v := 1) hx hb dL_isMole_197 (by decide) ?_
        obtain ⟨hqA, hqB⟩ := hq
        refine lv_icmp_ne (tgt := 215) hx hb dL_isMole_198 (by decide) (fun c2 => ?_) (fun c2 => ?_)
        · have hq := hqB c2
          refine lv_iconst (v := 0) hx hb dL_isMole_215 (by decide) ?_
          exact W.zret (v := 0) hx hb hr rfl (fun t ht hW => ⟨⟨0, (z194_v, z173_w), rfl, hq, (xAt_of hP hK hD ht hW)⟩, hS.F ht⟩) hS.2.2 dL_isMole_216
        · have hq := hqA c2
          refine lv_aload_n hx hb dL_isMole_201 rfl (lv_at hl 1 rfl) ?_
          refine lv_iload_n hx hb dL_isMole_202 rfl (lv_at hl 2 rfl) ?_
          refine lv_bipush (v := 8) hx hb dL_isMole_203 (by decide) ?_
          have hC : ((rng 0 204).map (fun i => (wX6 cy a z194_v ++ cAI cy d nw z173_w)[i]?)) = (wX6 cy a z194_v).map some := xC_left wX6_len
          have hPc := xsubP hP hC
          have hDc := xsubD hD (rng_nd 204 0) hC
          have hFc := va_free (wc := (wX6 cy a z194_v)) hD hS hAe0 (rng 0 204) hC
          refine va_calli (va_runV (As := [.int y173_3, .int 8]) (rest := []) ⟨hx, hb, hml, hown, hts⟩ (co_X6_tuft l dC dI cy a _ z194_v y173_3 8 _ hq) (cwV 2 hts gL_isMole_X6_tuft rfl rfl rfl (by decide +kernel) ⟨Nat.le_of_ble_eq_true rfl, Nat.le_of_ble_eq_true rfl⟩) ⟨xPre_blindE, va_recv hK hPc (ci := 6) (q0 := 0) rfl rfl, xPre_ofE hPc hK hDc hE hS hFc⟩ rfl rfl hl.1 rfl (lv_room (Nat.le_of_ble_eq_true rfl)) dL_isMole_205 ⟨Nat.le_of_ble_eq_true rfl, Nat.le_of_ble_eq_true rfl⟩) hS (fun q _ h => hFc q h) hFc (fun r205 z205_v t H locs ht hvm hq hB hz1 hk1 hS => ?_)
          obtain ⟨hP1, -, hD1⟩ := hB
          rw [ht] at hP1
          obtain ⟨hP, hD⟩ := xj hP hD (rng 0 204) (wX6 cy a z205_v) (ws' := (wX6 cy a z205_v ++ cAI cy d nw z173_w)) hC wX6_fst (xS_left wX6_len wX6_len) hk1 hFc hP1
          obtain ⟨hqA, hqB⟩ := hq
          refine lv_if_le (tgt := 215) hx hb dL_isMole_208 (by decide) (fun c1 => ?_) (fun c1 => ?_)
          · have hq := hqA c1
            refine lv_iconst (v := 0) hx hb dL_isMole_215 (by decide) ?_
            exact W.zret (v := 0) hx hb hr rfl (fun t ht hW => ⟨⟨0, (z205_v, z173_w), rfl, hq, (xAt_of hP hK hD ht hW)⟩, hS.F ht⟩) hS.2.2 dL_isMole_216
          · have hq := hqB c1
            refine lv_iconst (v := 1) hx hb dL_isMole_211 (by decide) ?_
            refine lv_goto (tgt := 216) hx hb dL_isMole_212 (by decide) ?_
            exact W.zret (v := 1) hx hb hr rfl (fun t ht hW => ⟨⟨1, (z205_v, z173_w), rfl, hq, (xAt_of hP hK hD ht hW)⟩, hS.F ht⟩) hS.2.2 dL_isMole_216
  have J172 : ∀ (y172_3 : Int32) (y172_4 : Int32) (z172_v : V_X6) (z172_w : (Nat → Int32)) (H : Heap) (locs : List Loc) (ls : Array Slot), wp_L_isMole_172 v nw w x1 y172_3 y172_4 z172_v z172_w Q → va_P (dC, dI) vwCl (wX6 cy a z172_v ++ cAI cy d nw z172_w) H → va_D A (wX6 cy a z172_v ++ cAI cy d nw z172_w) → va_S A s.heap H locs → lv_has ls 8 [(0, .ref (a 0)), (3, .int y172_3), (4, .int y172_4)] → W p l e (headSpec wsL_isMole ({ frames := 7, cells := 0, slots := 0, locals := 160 } : Room)).room s m ([.ref (a 0), .int x1, .ref (d 0)] : List Value).toArray below meth c H locs 0 0 (MQ below (q_L_isMole dC dI cy a d v nw w x1 Q A) ([.ref (a 0), .int x1, .ref (d 0)] : List Value).toArray s 0 0 A) (F0 m 172 ls []) := by
    intro y172_3 y172_4 z172_v z172_w H locs ls hq hP hD hS hl
    unfold wp_L_isMole_172 at hq
    refine lv_iconst (v := 0) hx hb dL_isMole_172 (by decide) ?_
    exact J173 y172_3 y172_4 z172_v z172_w 0  _ _ _ hq hP hD hS (lv_sub hl [0, 1, 2] rfl)
  have J165 : ∀ (y165_3 : Int32) (y165_4 : Int32) (z165_v : V_X6) (z165_w : (Nat → Int32)) (k165_0 : Int32) (k165_1 : Int32) (H : Heap) (locs : List Loc) (ls : Array Slot), wp_L_isMole_165 v nw w x1 y165_3 y165_4 z165_v z165_w k165_0 k165_1 Q → va_P (dC, dI) vwCl (wX6 cy a z165_v ++ cAI cy d nw z165_w) H → va_D A (wX6 cy a z165_v ++ cAI cy d nw z165_w) → va_S A s.heap H locs → lv_has ls 8 [(0, .ref (a 0)), (3, .int y165_3), (4, .int y165_4)] → W p l e (headSpec wsL_isMole ({ frames := 7, cells := 0, slots := 0, locals := 160 } : Room)).room s m ([.ref (a 0), .int x1, .ref (d 0)] : List Value).toArray below meth c H locs 0 0 (MQ below (q_L_isMole dC dI cy a d v nw w x1 Q A) ([.ref (a 0), .int x1, .ref (d 0)] : List Value).toArray s 0 0 A) (F0 m 165 ls [.int k165_0, .int k165_1]) := by
    intro y165_3 y165_4 z165_v z165_w k165_0 k165_1 H locs ls hq hP hD hS hl
    unfold wp_L_isMole_165 at hq
    obtain ⟨hqA, hqB⟩ := hq
    refine lv_icmp_ne (tgt := 172) hx hb dL_isMole_165 (by decide) (fun c5 => ?_) (fun c5 => ?_)
    · have hq := hqB c5
      exact J172 y165_3 y165_4 z165_v z165_w  _ _ _ hq hP hD hS (lv_sub hl [0, 1, 2] rfl)
    · have hq := hqA c5
      refine lv_iconst (v := 1) hx hb dL_isMole_168 (by decide) ?_
      refine lv_goto (tgt := 173) hx hb dL_isMole_169 (by decide) ?_
      exact J173 y165_3 y165_4 z165_v z165_w 1  _ _ _ hq hP hD hS (lv_sub hl [0, 1, 2] rfl)
  have J155 : ∀ (y155_3 : Int32) (y155_4 : Int32) (y155_6 : Int32) (z155_v : V_X6) (z155_w : (Nat → Int32)) (k155_0 : Int32) (H : Heap) (locs : List Loc) (ls : Array Slot), wp_L_isMole_155 v nw w x1 y155_3 y155_4 y155_6 z155_v z155_w k155_0 Q → va_P (dC, dI) vwCl (wX6 cy a z155_v ++ cAI cy d nw z155_w) H → va_D A (wX6 cy a z155_v ++ cAI cy d nw z155_w) → va_S A s.heap H locs → lv_has ls 8 [(0, .ref (a 0)), (3, .int y155_3), (4, .int y155_4), (6, .int y155_6)] → W p l e (headSpec wsL_isMole ({ frames := 7, cells := 0, slots := 0, locals := 160 } : Room)).room s m ([.ref (a 0), .int x1, .ref (d 0)] : List Value).toArray below meth c H locs 0 0 (MQ below (q_L_isMole dC dI cy a d v nw w x1 Q A) ([.ref (a 0), .int x1, .ref (d 0)] : List Value).toArray s 0 0 A) (F0 m 155 ls [.int k155_0]) := by
    intro y155_3 y155_4 y155_6 z155_v z155_w k155_0 H locs ls hq hP hD hS hl
    unfold wp_L_isMole_155 at hq
    refine lv_iload hx hb dL_isMole_155 (lv_at hl 3 rfl) ?_
    obtain ⟨hqA, hqB⟩ := hq
    refine lv_if_ne (tgt := 164) hx hb dL_isMole_157 (by decide) (fun c6 => ?_) (fun c6 => ?_)
    · have hq := hqB c6
      refine lv_iconst (v := 0) hx hb dL_isMole_164 (by decide) ?_
      exact J165 y155_3 y155_4 z155_v z155_w 0 k155_0  _ _ _ hq hP hD hS (lv_sub hl [0, 1, 2] rfl)
    · have hq := hqA c6
      refine lv_iconst (v := 1) hx hb dL_isMole_160 (by decide) ?_
      refine lv_goto (tgt := 165) hx hb dL_isMole_161 (by decide) ?_
      exact J165 y155_3 y155_4 z155_v z155_w 1 k155_0  _ _ _ hq hP hD hS (lv_sub hl [0, 1, 2] rfl)
  have J96 : ∀ (y96_3 : Int32) (y96_4 : Int32) (y96_6 : Int32) (z96_v : V_X6) (z96_w : (Nat → Int32)) (k96_0 : Int32) (H : Heap) (locs : List Loc) (ls : Array Slot), wp_L_isMole_96 v nw w x1 y96_3 y96_4 y96_6 z96_v z96_w k96_0 Q → va_P (dC, dI) vwCl (wX6 cy a z96_v ++ cAI cy d nw z96_w) H → va_D A (wX6 cy a z96_v ++ cAI cy d nw z96_w) → va_S A s.heap H locs → lv_has ls 8 [(0, .ref (a 0)), (1, .int x1), (3, .int y96_3), (4, .int y96_4), (6, .int y96_6)] → W p l e (headSpec wsL_isMole ({ frames := 7, cells := 0, slots := 0, locals := 160 } : Room)).room s m ([.ref (a 0), .int x1, .ref (d 0)] : List Value).toArray below meth c H locs 0 0 (MQ below (q_L_isMole dC dI cy a d v nw w x1 Q A) ([.ref (a 0), .int x1, .ref (d 0)] : List Value).toArray s 0 0 A) (F0 m 96 ls [.int k96_0]) := by
    intro y96_3 y96_4 y96_6 z96_v z96_w k96_0 H locs ls hq hP hD hS hl
    unfold wp_L_isMole_96 at hq
    refine lv_istore (lv' := [(7, .int k96_0), (0, .ref (a 0)), (1, .int x1), (3, .int y96_3), (4, .int y96_4), (6, .int y96_6)]) hx hb dL_isMole_96 hl (by decide) rfl (fun ls hl => ?_)
    refine lv_iload hx hb dL_isMole_98 (lv_at hl 0 rfl) ?_
    obtain ⟨hqA, hqB⟩ := hq
    refine lv_if_eq (tgt := 172) hx hb dL_isMole_100 (by decide) (fun c12 => ?_) (fun c12 => ?_)
    · have hq := hqA c12
      exact J172 y96_3 y96_4 z96_v z96_w  _ _ _ hq hP hD hS (lv_sub hl [1, 3, 4] rfl)
    · have hq := hqB c12
      refine lv_aload_n hx hb dL_isMole_103 rfl (lv_at hl 1 rfl) ?_
      refine lv_iload_n hx hb dL_isMole_104 rfl (lv_at hl 2 rfl) ?_
      refine lv_iconst (v := 1) hx hb dL_isMole_105 (by decide) ?_
      have hC : ((rng 0 204).map (fun i => (wX6 cy a z96_v ++ cAI cy d nw z96_w)[i]?)) = (wX6 cy a z96_v).map some := xC_left wX6_len
      have hPc := xsubP hP hC
      have hDc := xsubD hD (rng_nd 204 0) hC
      have hFc := va_free (wc := (wX6 cy a z96_v)) hD hS hAe0 (rng 0 204) hC
      refine va_calli (va_runV (As := [.int x1, .int 1]) (rest := []) ⟨hx, hb, hml, hown, hts⟩ (co_X6_moleOf l dC dI cy a _ z96_v x1 1 _ hq) (cwV 2 hts gL_isMole_X6_moleOf rfl rfl rfl (by decide +kernel) ⟨Nat.le_of_ble_eq_true rfl, Nat.le_of_ble_eq_true rfl⟩) ⟨xPre_blind, va_recv hK hPc (ci := 6) (q0 := 0) rfl rfl, xPre_of hPc hK hDc⟩ rfl rfl hl.1 rfl (lv_room (Nat.le_of_ble_eq_true rfl)) dL_isMole_106 ⟨Nat.le_of_ble_eq_true rfl, Nat.le_of_ble_eq_true rfl⟩) hS (fun q _ h => hFc q h) hFc (fun r106 u9 t H locs ht hvm hq hB hz1 hk1 hS => ?_)
      obtain ⟨hP1, -, hD1⟩ := hB
      rw [ht] at hP1
      have hP : va_P (dC, dI) vwCl (wX6 cy a z96_v ++ cAI cy d nw z96_w) H := xj_keep hP hD (rng 0 204) hC hP1 hk1
      refine lv_iconst (v := 1) hx hb dL_isMole_109 (by decide) ?_
      obtain ⟨hqA, hqB⟩ := hq
      refine lv_icmp_lt (tgt := 172) hx hb dL_isMole_110 (by decide) (fun c11 => ?_) (fun c11 => ?_)
      · have hq := hqA c11
        exact J172 y96_3 y96_4 z96_v z96_w  _ _ _ hq hP hD hS (lv_sub hl [1, 3, 4] rfl)
      · have hq := hqB c11
        refine lv_aload_n hx hb dL_isMole_113 rfl (lv_at hl 1 rfl) ?_
        refine lv_iload_n hx hb dL_isMole_114 rfl (lv_at hl 2 rfl) ?_
        refine lv_iconst (v := 1) hx hb dL_isMole_115 (by decide) ?_
        have hC : ((rng 0 204).map (fun i => (wX6 cy a z96_v ++ cAI cy d nw z96_w)[i]?)) = (wX6 cy a z96_v).map some := xC_left wX6_len
        have hPc := xsubP hP hC
        have hDc := xsubD hD (rng_nd 204 0) hC
        have hFc := va_free (wc := (wX6 cy a z96_v)) hD hS hAe0 (rng 0 204) hC
        refine va_calli (va_runV (As := [.int x1, .int 1]) (rest := []) ⟨hx, hb, hml, hown, hts⟩ (co_X6_moleOf l dC dI cy a _ z96_v x1 1 _ hq) (cwV 2 hts gL_isMole_X6_moleOf rfl rfl rfl (by decide +kernel) ⟨Nat.le_of_ble_eq_true rfl, Nat.le_of_ble_eq_true rfl⟩) ⟨xPre_blind, va_recv hK hPc (ci := 6) (q0 := 0) rfl rfl, xPre_of hPc hK hDc⟩ rfl rfl hl.1 rfl (lv_room (Nat.le_of_ble_eq_true rfl)) dL_isMole_116 ⟨Nat.le_of_ble_eq_true rfl, Nat.le_of_ble_eq_true rfl⟩) hS (fun q _ h => hFc q h) hFc (fun r116 u9 t H locs ht hvm hq hB hz1 hk1 hS => ?_)
        obtain ⟨hP1, -, hD1⟩ := hB
        rw [ht] at hP1
        have hP : va_P (dC, dI) vwCl (wX6 cy a z96_v ++ cAI cy d nw z96_w) H := xj_keep hP hD (rng 0 204) hC hP1 hk1
        refine lv_aload_n hx hb dL_isMole_119 rfl (lv_at hl 1 rfl) ?_
        refine lv_bipush (v := 13) hx hb dL_isMole_120 (by decide) ?_
        have hC : ((rng 0 204).map (fun i => (wX6 cy a z96_v ++ cAI cy d nw z96_w)[i]?)) = (wX6 cy a z96_v).map some := xC_left wX6_len
        have hPc := xsubP hP hC
        have hDc := xsubD hD (rng_nd 204 0) hC
        have hFc := va_free (wc := (wX6 cy a z96_v)) hD hS hAe0 (rng 0 204) hC
        refine va_calli (va_runV (As := [.int 13]) (rest := [.int r116]) ⟨hx, hb, hml, hown, hts⟩ (co_X6_count l dC dI cy a _ z96_v 13 _ hq) (cwV 1 hts gL_isMole_X6_count rfl rfl rfl (by decide +kernel) ⟨Nat.le_of_ble_eq_true rfl, Nat.le_of_ble_eq_true rfl⟩) ⟨xPre_blindE, va_recv hK hPc (ci := 6) (q0 := 0) rfl rfl, xPre_ofE hPc hK hDc hE hS hFc⟩ rfl rfl hl.1 rfl (lv_room (Nat.le_of_ble_eq_true rfl)) dL_isMole_122 ⟨Nat.le_of_ble_eq_true rfl, Nat.le_of_ble_eq_true rfl⟩) hS (fun q _ h => hFc q h) hFc (fun r122 z122_v t H locs ht hvm hq hB hz1 hk1 hS => ?_)
        obtain ⟨hP1, -, hD1⟩ := hB
        rw [ht] at hP1
        obtain ⟨hP, hD⟩ := xj hP hD (rng 0 204) (wX6 cy a z122_v) (ws' := (wX6 cy a z122_v ++ cAI cy d nw z96_w)) hC wX6_fst (xS_left wX6_len wX6_len) hk1 hFc hP1
        obtain ⟨hqA, hqB⟩ := hq
        refine lv_icmp_gt (tgt := 172) hx hb dL_isMole_125 (by decide) (fun c10 => ?_) (fun c10 => ?_)
        · have hq := hqA c10
          exact J172 y96_3 y96_4 z122_v z96_w  _ _ _ hq hP hD hS (lv_sub hl [1, 3, 4] rfl)
        · have hq := hqB c10
          refine lv_iload hx hb dL_isMole_128 (lv_at hl 5 rfl) ?_
          obtain ⟨hqA, hqB⟩ := hq
          refine lv_if_lt (tgt := 172) hx hb dL_isMole_130 (by decide) (fun c9 => ?_) (fun c9 => ?_)
          · have hq := hqA c9
            exact J172 y96_3 y96_4 z122_v z96_w  _ _ _ hq hP hD hS (lv_sub hl [1, 3, 4] rfl)
          · have hq := hqB c9
            refine lv_iload hx hb dL_isMole_133 (lv_at hl 5 rfl) ?_
            refine lv_bipush (v := 20) hx hb dL_isMole_135 (by decide) ?_
            obtain ⟨hqA, hqB⟩ := hq
            refine lv_icmp_gt (tgt := 172) hx hb dL_isMole_137 (by decide) (fun c8 => ?_) (fun c8 => ?_)
            · have hq := hqA c8
              exact J172 y96_3 y96_4 z122_v z96_w  _ _ _ hq hP hD hS (lv_sub hl [1, 3, 4] rfl)
            · have hq := hqB c8
              refine lv_aload_n hx hb dL_isMole_140 rfl (lv_at hl 1 rfl) ?_
              refine lv_iload_n hx hb dL_isMole_141 rfl (lv_at hl 2 rfl) ?_
              refine lv_iconst (v := 3) hx hb dL_isMole_142 (by decide) ?_
              have hC : ((rng 0 204).map (fun i => (wX6 cy a z122_v ++ cAI cy d nw z96_w)[i]?)) = (wX6 cy a z122_v).map some := xC_left wX6_len
              have hPc := xsubP hP hC
              have hDc := xsubD hD (rng_nd 204 0) hC
              have hFc := va_free (wc := (wX6 cy a z122_v)) hD hS hAe0 (rng 0 204) hC
              refine va_calli (va_runV (As := [.int x1, .int 3]) (rest := []) ⟨hx, hb, hml, hown, hts⟩ (co_X6_moleOf l dC dI cy a _ z122_v x1 3 _ hq) (cwV 2 hts gL_isMole_X6_moleOf rfl rfl rfl (by decide +kernel) ⟨Nat.le_of_ble_eq_true rfl, Nat.le_of_ble_eq_true rfl⟩) ⟨xPre_blind, va_recv hK hPc (ci := 6) (q0 := 0) rfl rfl, xPre_of hPc hK hDc⟩ rfl rfl hl.1 rfl (lv_room (Nat.le_of_ble_eq_true rfl)) dL_isMole_143 ⟨Nat.le_of_ble_eq_true rfl, Nat.le_of_ble_eq_true rfl⟩) hS (fun q _ h => hFc q h) hFc (fun r143 u9 t H locs ht hvm hq hB hz1 hk1 hS => ?_)
              obtain ⟨hP1, -, hD1⟩ := hB
              rw [ht] at hP1
              have hP : va_P (dC, dI) vwCl (wX6 cy a z122_v ++ cAI cy d nw z96_w) H := xj_keep hP hD (rng 0 204) hC hP1 hk1
              refine lv_iconst (v := (-1)) hx hb dL_isMole_146 (by decide) ?_
              obtain ⟨hqA, hqB⟩ := hq
              refine lv_icmp_ne (tgt := 154) hx hb dL_isMole_147 (by decide) (fun c7 => ?_) (fun c7 => ?_)
              · have hq := hqB c7
                refine lv_iconst (v := 0) hx hb dL_isMole_154 (by decide) ?_
                exact J155 y96_3 y96_4 y96_6 z122_v z96_w 0  _ _ _ hq hP hD hS (lv_sub hl [1, 3, 4, 5] rfl)
              · have hq := hqA c7
                refine lv_iconst (v := 1) hx hb dL_isMole_150 (by decide) ?_
                refine lv_goto (tgt := 155) hx hb dL_isMole_151 (by decide) ?_
                exact J155 y96_3 y96_4 y96_6 z122_v z96_w 1  _ _ _ hq hP hD hS (lv_sub hl [1, 3, 4, 5] rfl)
  have J95 : ∀ (y95_3 : Int32) (y95_4 : Int32) (y95_6 : Int32) (z95_v : V_X6) (z95_w : (Nat → Int32)) (H : Heap) (locs : List Loc) (ls : Array Slot), wp_L_isMole_95 v nw w x1 y95_3 y95_4 y95_6 z95_v z95_w Q → va_P (dC, dI) vwCl (wX6 cy a z95_v ++ cAI cy d nw z95_w) H → va_D A (wX6 cy a z95_v ++ cAI cy d nw z95_w) → va_S A s.heap H locs → lv_has ls 8 [(0, .ref (a 0)), (1, .int x1), (3, .int y95_3), (4, .int y95_4), (6, .int y95_6)] → W p l e (headSpec wsL_isMole ({ frames := 7, cells := 0, slots := 0, locals := 160 } : Room)).room s m ([.ref (a 0), .int x1, .ref (d 0)] : List Value).toArray below meth c H locs 0 0 (MQ below (q_L_isMole dC dI cy a d v nw w x1 Q A) ([.ref (a 0), .int x1, .ref (d 0)] : List Value).toArray s 0 0 A) (F0 m 95 ls []) := by
    intro y95_3 y95_4 y95_6 z95_v z95_w H locs ls hq hP hD hS hl
    unfold wp_L_isMole_95 at hq
    refine lv_iconst (v := 0) hx hb dL_isMole_95 (by decide) ?_
    exact J96 y95_3 y95_4 y95_6 z95_v z95_w 0  _ _ _ hq hP hD hS (lv_sub hl [0, 1, 2, 3, 4] rfl)
  have J91 : ∀ (y91_3 : Int32) (y91_4 : Int32) (y91_6 : Int32) (z91_v : V_X6) (z91_w : (Nat → Int32)) (H : Heap) (locs : List Loc) (ls : Array Slot), wp_L_isMole_91 v nw w x1 y91_3 y91_4 y91_6 z91_v z91_w Q → va_P (dC, dI) vwCl (wX6 cy a z91_v ++ cAI cy d nw z91_w) H → va_D A (wX6 cy a z91_v ++ cAI cy d nw z91_w) → va_S A s.heap H locs → lv_has ls 8 [(0, .ref (a 0)), (1, .int x1), (3, .int y91_3), (4, .int y91_4), (6, .int y91_6)] → W p l e (headSpec wsL_isMole ({ frames := 7, cells := 0, slots := 0, locals := 160 } : Room)).room s m ([.ref (a 0), .int x1, .ref (d 0)] : List Value).toArray below meth c H locs 0 0 (MQ below (q_L_isMole dC dI cy a d v nw w x1 Q A) ([.ref (a 0), .int x1, .ref (d 0)] : List Value).toArray s 0 0 A) (F0 m 91 ls []) := by
    intro y91_3 y91_4 y91_6 z91_v z91_w H locs ls hq hP hD hS hl
    unfold wp_L_isMole_91 at hq
    refine lv_iconst (v := 1) hx hb dL_isMole_91 (by decide) ?_
    refine lv_goto (tgt := 96) hx hb dL_isMole_92 (by decide) ?_
    exact J96 y91_3 y91_4 y91_6 z91_v z91_w 1  _ _ _ hq hP hD hS (lv_sub hl [0, 1, 2, 3, 4] rfl)
  have J76 : ∀ (y76_3 : Int32) (y76_4 : Int32) (y76_5 : Int32) (y76_6 : Int32) (z76_v : V_X6) (z76_w : (Nat → Int32)) (H : Heap) (locs : List Loc) (ls : Array Slot), wp_L_isMole_76 v nw w x1 y76_3 y76_4 y76_5 y76_6 z76_v z76_w Q → va_P (dC, dI) vwCl (wX6 cy a z76_v ++ cAI cy d nw z76_w) H → va_D A (wX6 cy a z76_v ++ cAI cy d nw z76_w) → va_S A s.heap H locs → lv_has ls 8 [(0, .ref (a 0)), (1, .int x1), (3, .int y76_3), (4, .int y76_4), (5, .int y76_5), (6, .int y76_6)] → W p l e (headSpec wsL_isMole ({ frames := 7, cells := 0, slots := 0, locals := 160 } : Room)).room s m ([.ref (a 0), .int x1, .ref (d 0)] : List Value).toArray below meth c H locs 0 0 (MQ below (q_L_isMole dC dI cy a d v nw w x1 Q A) ([.ref (a 0), .int x1, .ref (d 0)] : List Value).toArray s 0 0 A) (F0 m 76 ls []) := by
    intro y76_3 y76_4 y76_5 y76_6 z76_v z76_w H locs ls hq hP hD hS hl
    unfold wp_L_isMole_76 at hq
    refine lv_iload hx hb dL_isMole_76 (lv_at hl 4 rfl) ?_
    refine lv_iconst (v := 1) hx hb dL_isMole_78 (by decide) ?_
    obtain ⟨hqA, hqB⟩ := hq
    refine lv_icmp_eq (tgt := 91) hx hb dL_isMole_79 (by decide) (fun c14 => ?_) (fun c14 => ?_)
    · have hq := hqA c14
      exact J91 y76_3 y76_4 y76_6 z76_v z76_w  _ _ _ hq hP hD hS (lv_sub hl [0, 1, 2, 3, 5] rfl)
    · have hq := hqB c14
      refine lv_aload_n hx hb dL_isMole_82 rfl (lv_at hl 0 rfl) ?_
      refine lv_iload_n hx hb dL_isMole_83 rfl (lv_at hl 2 rfl) ?_
      refine lv_iconst (v := 0) hx hb dL_isMole_84 (by decide) ?_
      have hC : ((rng 0 204).map (fun i => (wX6 cy a z76_v ++ cAI cy d nw z76_w)[i]?)) = (wX6 cy a z76_v).map some := xC_left wX6_len
      have hPc := xsubP hP hC
      have hDc := xsubD hD (rng_nd 204 0) hC
      have hFc := va_free (wc := (wX6 cy a z76_v)) hD hS hAe0 (rng 0 204) hC
      refine va_calli (va_runV (As := [.int y76_3, .int 0]) (rest := []) ⟨hx, hb, hml, hown, hts⟩ (co_X6_tuft l dC dI cy a _ z76_v y76_3 0 _ hq) (cwV 2 hts gL_isMole_X6_tuft rfl rfl rfl (by decide +kernel) ⟨Nat.le_of_ble_eq_true rfl, Nat.le_of_ble_eq_true rfl⟩) ⟨xPre_blindE, va_recv hK hPc (ci := 6) (q0 := 0) rfl rfl, xPre_ofE hPc hK hDc hE hS hFc⟩ rfl rfl hl.1 rfl (lv_room (Nat.le_of_ble_eq_true rfl)) dL_isMole_85 ⟨Nat.le_of_ble_eq_true rfl, Nat.le_of_ble_eq_true rfl⟩) hS (fun q _ h => hFc q h) hFc (fun r85 z85_v t H locs ht hvm hq hB hz1 hk1 hS => ?_)
      obtain ⟨hP1, -, hD1⟩ := hB
      rw [ht] at hP1
      obtain ⟨hP, hD⟩ := xj hP hD (rng 0 204) (wX6 cy a z85_v) (ws' := (wX6 cy a z85_v ++ cAI cy d nw z76_w)) hC wX6_fst (xS_left wX6_len wX6_len) hk1 hFc hP1
      obtain ⟨hqA, hqB⟩ := hq
      refine lv_if_ne (tgt := 95) hx hb dL_isMole_88 (by decide) (fun c13 => ?_) (fun c13 => ?_)
      · have hq := hqB c13
        exact J95 y76_3 y76_4 y76_6 z85_v z76_w  _ _ _ hq hP hD hS (lv_sub hl [0, 1, 2, 3, 5] rfl)
      · have hq := hqA c13
        exact J91 y76_3 y76_4 y76_6 z85_v z76_w  _ _ _ hq hP hD hS (lv_sub hl [0, 1, 2, 3, 5] rfl)
  refine lv_aload_n hx hb dL_isMole_0 rfl (lv_at hl 0 rfl) ?_
  refine lv_iload_n hx hb dL_isMole_1 rfl (lv_at hl 1 rfl) ?_
  refine lv_iconst (v := 0) hx hb dL_isMole_2 (by decide) ?_
  have hC : ((rng 0 204).map (fun i => (wX6 cy a v ++ cAI cy d nw w)[i]?)) = (wX6 cy a v).map some := xC_left wX6_len
  have hPc := xsubP hP hC
  have hDc := xsubD hD (rng_nd 204 0) hC
  have hFc := va_free (wc := (wX6 cy a v)) hD hS hAe0 (rng 0 204) hC
  refine va_calli (va_runV (As := [.int x1, .int 0]) (rest := []) ⟨hx, hb, hml, hown, hts⟩ (co_X6_moleOf l dC dI cy a _ v x1 0 _ hq) (cwV 2 hts gL_isMole_X6_moleOf rfl rfl rfl (by decide +kernel) ⟨Nat.le_of_ble_eq_true rfl, Nat.le_of_ble_eq_true rfl⟩) ⟨xPre_blind, va_recv hK hPc (ci := 6) (q0 := 0) rfl rfl, xPre_of hPc hK hDc⟩ rfl rfl hl.1 rfl (lv_room (Nat.le_of_ble_eq_true rfl)) dL_isMole_3 ⟨Nat.le_of_ble_eq_true rfl, Nat.le_of_ble_eq_true rfl⟩) hS (fun q _ h => hFc q h) hFc (fun r3 u9 t H locs ht hvm hq hB hz1 hk1 hS => ?_)
  obtain ⟨hP1, -, hD1⟩ := hB
  rw [ht] at hP1
  have hP : va_P (dC, dI) vwCl (wX6 cy a v ++ cAI cy d nw w) H := xj_keep hP hD (rng 0 204) hC hP1 hk1
  refine lv_istore_n (lv' := [(3, .int r3), (0, .ref (a 0)), (1, .int x1), (2, .ref (d 0))]) hx hb dL_isMole_6 rfl hl (by decide) rfl (fun ls hl => ?_)
  refine lv_aload_n hx hb dL_isMole_7 rfl (lv_at hl 1 rfl) ?_
  refine lv_iload_n hx hb dL_isMole_8 rfl (lv_at hl 2 rfl) ?_
  refine lv_iconst (v := 4) hx hb dL_isMole_9 (by decide) ?_
  have hC : ((rng 0 204).map (fun i => (wX6 cy a v ++ cAI cy d nw w)[i]?)) = (wX6 cy a v).map some := xC_left wX6_len
  have hPc := xsubP hP hC
  have hDc := xsubD hD (rng_nd 204 0) hC
  have hFc := va_free (wc := (wX6 cy a v)) hD hS hAe0 (rng 0 204) hC
  refine va_calli (va_runV (As := [.int x1, .int 4]) (rest := []) ⟨hx, hb, hml, hown, hts⟩ (co_X6_moleOf l dC dI cy a _ v x1 4 _ hq) (cwV 2 hts gL_isMole_X6_moleOf rfl rfl rfl (by decide +kernel) ⟨Nat.le_of_ble_eq_true rfl, Nat.le_of_ble_eq_true rfl⟩) ⟨xPre_blind, va_recv hK hPc (ci := 6) (q0 := 0) rfl rfl, xPre_of hPc hK hDc⟩ rfl rfl hl.1 rfl (lv_room (Nat.le_of_ble_eq_true rfl)) dL_isMole_10 ⟨Nat.le_of_ble_eq_true rfl, Nat.le_of_ble_eq_true rfl⟩) hS (fun q _ h => hFc q h) hFc (fun r10 u9 t H locs ht hvm hq hB hz1 hk1 hS => ?_)
  obtain ⟨hP1, -, hD1⟩ := hB
  rw [ht] at hP1
  have hP : va_P (dC, dI) vwCl (wX6 cy a v ++ cAI cy d nw w) H := xj_keep hP hD (rng 0 204) hC hP1 hk1
  refine lv_istore (lv' := [(4, .int r10), (3, .int r3), (0, .ref (a 0)), (1, .int x1), (2, .ref (d 0))]) hx hb dL_isMole_13 hl (by decide) rfl (fun ls hl => ?_)
  refine lv_aload_n hx hb dL_isMole_15 rfl (lv_at hl 2 rfl) ?_
  refine lv_iload_n hx hb dL_isMole_16 rfl (lv_at hl 3 rfl) ?_
  refine lv_iconst (v := 5) hx hb dL_isMole_17 (by decide) ?_
  have hC : ((rng 0 204).map (fun i => (wX6 cy a v ++ cAI cy d nw w)[i]?)) = (wX6 cy a v).map some := xC_left wX6_len
  have hPc := xsubP hP hC
  have hDc := xsubD hD (rng_nd 204 0) hC
  have hFc := va_free (wc := (wX6 cy a v)) hD hS hAe0 (rng 0 204) hC
  refine va_calli (va_runV (As := [.int x1, .int 5]) (rest := []) ⟨hx, hb, hml, hown, hts⟩ (co_X6_moleOf l dC dI cy a _ v x1 5 _ hq) (cwV 2 hts gL_isMole_X6_moleOf rfl rfl rfl (by decide +kernel) ⟨Nat.le_of_ble_eq_true rfl, Nat.le_of_ble_eq_true rfl⟩) ⟨xPre_blind, va_recv hK hPc (ci := 6) (q0 := 0) rfl rfl, xPre_of hPc hK hDc⟩ rfl rfl hl.1 rfl (lv_room (Nat.le_of_ble_eq_true rfl)) dL_isMole_18 ⟨Nat.le_of_ble_eq_true rfl, Nat.le_of_ble_eq_true rfl⟩) hS (fun q _ h => hFc q h) hFc (fun r18 u9 t H locs ht hvm hq hB hz1 hk1 hS => ?_)
  obtain ⟨hP1, -, hD1⟩ := hB
  rw [ht] at hP1
  have hP : va_P (dC, dI) vwCl (wX6 cy a v ++ cAI cy d nw w) H := xj_keep hP hD (rng 0 204) hC hP1 hk1
  refine lv_istore (lv' := [(5, .int r18), (4, .int r10), (3, .int r3), (0, .ref (a 0)), (1, .int x1), (2, .ref (d 0))]) hx hb dL_isMole_21 hl (by decide) rfl (fun ls hl => ?_)
  refine lv_aload_n hx hb dL_isMole_23 rfl (lv_at hl 3 rfl) ?_
  refine lv_iload_n hx hb dL_isMole_24 rfl (lv_at hl 4 rfl) ?_
  refine lv_iconst (v := 2) hx hb dL_isMole_25 (by decide) ?_
  have hC : ((rng 0 204).map (fun i => (wX6 cy a v ++ cAI cy d nw w)[i]?)) = (wX6 cy a v).map some := xC_left wX6_len
  have hPc := xsubP hP hC
  have hDc := xsubD hD (rng_nd 204 0) hC
  have hFc := va_free (wc := (wX6 cy a v)) hD hS hAe0 (rng 0 204) hC
  refine va_calli (va_runV (As := [.int x1, .int 2]) (rest := []) ⟨hx, hb, hml, hown, hts⟩ (co_X6_moleOf l dC dI cy a _ v x1 2 _ hq) (cwV 2 hts gL_isMole_X6_moleOf rfl rfl rfl (by decide +kernel) ⟨Nat.le_of_ble_eq_true rfl, Nat.le_of_ble_eq_true rfl⟩) ⟨xPre_blind, va_recv hK hPc (ci := 6) (q0 := 0) rfl rfl, xPre_of hPc hK hDc⟩ rfl rfl hl.1 rfl (lv_room (Nat.le_of_ble_eq_true rfl)) dL_isMole_26 ⟨Nat.le_of_ble_eq_true rfl, Nat.le_of_ble_eq_true rfl⟩) hS (fun q _ h => hFc q h) hFc (fun r26 u9 t H locs ht hvm hq hB hz1 hk1 hS => ?_)
  obtain ⟨hP1, -, hD1⟩ := hB
  rw [ht] at hP1
  have hP : va_P (dC, dI) vwCl (wX6 cy a v ++ cAI cy d nw w) H := xj_keep hP hD (rng 0 204) hC hP1 hk1
  refine lv_istore (lv' := [(6, .int r26), (5, .int r18), (4, .int r10), (3, .int r3), (0, .ref (a 0)), (1, .int x1), (2, .ref (d 0))]) hx hb dL_isMole_29 hl (by decide) rfl (fun ls hl => ?_)
  refine lv_aload_n hx hb dL_isMole_31 rfl (lv_at hl 6 rfl) ?_
  refine lv_iload_n hx hb dL_isMole_32 rfl (lv_at hl 3 rfl) ?_
  refine lv_iconst (v := 1) hx hb dL_isMole_33 (by decide) ?_
  obtain ⟨g15, hq⟩ := hq
  refine va_iast hx hb hK hP hD hS 204 0 rfl rfl g15 dL_isMole_34 (fun H locs hP hD hS => ?_)
  have hP : va_P (dC, dI) vwCl (wX6 cy a v ++ cAI cy d nw (upd w r3.toNatClampNeg 1)) H := hP
  have hD : va_D A (wX6 cy a v ++ cAI cy d nw (upd w r3.toNatClampNeg 1)) := hD
  refine lv_aload_n hx hb dL_isMole_35 rfl (lv_at hl 6 rfl) ?_
  refine lv_iload hx hb dL_isMole_36 (lv_at hl 2 rfl) ?_
  refine lv_iconst (v := 1) hx hb dL_isMole_38 (by decide) ?_
  obtain ⟨g16, hq⟩ := hq
  refine va_iast hx hb hK hP hD hS 204 0 rfl rfl g16 dL_isMole_39 (fun H locs hP hD hS => ?_)
  have hP : va_P (dC, dI) vwCl (wX6 cy a v ++ cAI cy d nw (upd (upd w r3.toNatClampNeg 1) r10.toNatClampNeg 1)) H := hP
  have hD : va_D A (wX6 cy a v ++ cAI cy d nw (upd (upd w r3.toNatClampNeg 1) r10.toNatClampNeg 1)) := hD
  refine lv_aload_n hx hb dL_isMole_40 rfl (lv_at hl 4 rfl) ?_
  refine lv_iload hx hb dL_isMole_41 (lv_at hl 2 rfl) ?_
  refine lv_iconst (v := 0) hx hb dL_isMole_43 (by decide) ?_
  have hC : ((rng 0 204).map (fun i => (wX6 cy a v ++ cAI cy d nw (upd (upd w r3.toNatClampNeg 1) r10.toNatClampNeg 1))[i]?)) = (wX6 cy a v).map some := xC_left wX6_len
  have hPc := xsubP hP hC
  have hDc := xsubD hD (rng_nd 204 0) hC
  have hFc := va_free (wc := (wX6 cy a v)) hD hS hAe0 (rng 0 204) hC
  refine va_calli (va_runV (As := [.int r10, .int 0]) (rest := []) ⟨hx, hb, hml, hown, hts⟩ (co_X6_tuft l dC dI cy a _ v r10 0 _ hq) (cwV 2 hts gL_isMole_X6_tuft rfl rfl rfl (by decide +kernel) ⟨Nat.le_of_ble_eq_true rfl, Nat.le_of_ble_eq_true rfl⟩) ⟨xPre_blindE, va_recv hK hPc (ci := 6) (q0 := 0) rfl rfl, xPre_ofE hPc hK hDc hE hS hFc⟩ rfl rfl hl.1 rfl (lv_room (Nat.le_of_ble_eq_true rfl)) dL_isMole_44 ⟨Nat.le_of_ble_eq_true rfl, Nat.le_of_ble_eq_true rfl⟩) hS (fun q _ h => hFc q h) hFc (fun r44 z44_v t H locs ht hvm hq hB hz1 hk1 hS => ?_)
  obtain ⟨hP1, -, hD1⟩ := hB
  rw [ht] at hP1
  obtain ⟨hP, hD⟩ := xj hP hD (rng 0 204) (wX6 cy a z44_v) (ws' := (wX6 cy a z44_v ++ cAI cy d nw (upd (upd w r3.toNatClampNeg 1) r10.toNatClampNeg 1))) hC wX6_fst (xS_left wX6_len wX6_len) hk1 hFc hP1
  refine lv_iconst (v := 1) hx hb dL_isMole_47 (by decide) ?_
  obtain ⟨hqA, hqB⟩ := hq
  refine lv_icmp_ne (tgt := 95) hx hb dL_isMole_48 (by decide) (fun c21 => ?_) (fun c21 => ?_)
  · have hq := hqB c21
    exact J95 r3 r10 r26 z44_v (upd (upd w r3.toNatClampNeg 1) r10.toNatClampNeg 1)  _ _ _ hq hP hD hS (lv_sub hl [4, 5, 3, 2, 0] rfl)
  · have hq := hqA c21
    refine lv_iload hx hb dL_isMole_51 (lv_at hl 1 rfl) ?_
    refine lv_iconst (v := 1) hx hb dL_isMole_53 (by decide) ?_
    obtain ⟨hqA, hqB⟩ := hq
    refine lv_icmp_lt (tgt := 95) hx hb dL_isMole_54 (by decide) (fun c20 => ?_) (fun c20 => ?_)
    · have hq := hqA c20
      exact J95 r3 r10 r26 z44_v (upd (upd w r3.toNatClampNeg 1) r10.toNatClampNeg 1)  _ _ _ hq hP hD hS (lv_sub hl [4, 5, 3, 2, 0] rfl)
    · have hq := hqB c20
      refine lv_iload hx hb dL_isMole_57 (lv_at hl 1 rfl) ?_
      refine lv_bipush (v := 21) hx hb dL_isMole_59 (by decide) ?_
      obtain ⟨hqA, hqB⟩ := hq
      refine lv_icmp_gt (tgt := 95) hx hb dL_isMole_61 (by decide) (fun c19 => ?_) (fun c19 => ?_)
      · have hq := hqA c19
        exact J95 r3 r10 r26 z44_v (upd (upd w r3.toNatClampNeg 1) r10.toNatClampNeg 1)  _ _ _ hq hP hD hS (lv_sub hl [4, 5, 3, 2, 0] rfl)
      · have hq := hqB c19
        refine lv_iload hx hb dL_isMole_64 (lv_at hl 1 rfl) ?_
        refine lv_iconst (v := 1) hx hb dL_isMole_66 (by decide) ?_
        obtain ⟨hqA, hqB⟩ := hq
        refine lv_icmp_gt (tgt := 76) hx hb dL_isMole_67 (by decide) (fun c18 => ?_) (fun c18 => ?_)
        · have hq := hqA c18
          exact J76 r3 r10 r18 r26 z44_v (upd (upd w r3.toNatClampNeg 1) r10.toNatClampNeg 1)  _ _ _ hq hP hD hS (lv_sub hl [4, 5, 3, 2, 1, 0] rfl)
        · have hq := hqB c18
          refine lv_iload_n hx hb dL_isMole_70 rfl (lv_at hl 3 rfl) ?_
          refine lv_iload hx hb dL_isMole_71 (lv_at hl 2 rfl) ?_
          obtain ⟨hqA, hqB⟩ := hq
          refine lv_icmp_ne (tgt := 95) hx hb dL_isMole_73 (by decide) (fun c17 => ?_) (fun c17 => ?_)
          · have hq := hqB c17
            exact J95 r3 r10 r26 z44_v (upd (upd w r3.toNatClampNeg 1) r10.toNatClampNeg 1)  _ _ _ hq hP hD hS (lv_sub hl [4, 5, 3, 2, 0] rfl)
          · have hq := hqA c17
            exact J76 r3 r10 r18 r26 z44_v (upd (upd w r3.toNatClampNeg 1) r10.toNatClampNeg 1)  _ _ _ hq hP hD hS (lv_sub hl [4, 5, 3, 2, 1, 0] rfl)
