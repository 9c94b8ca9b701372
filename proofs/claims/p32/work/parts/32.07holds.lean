def wp_L_holds_444 (v : V_X6) (z444_q : (Nat → Int32)) (z444_v : V_X6) (z444_w : (Nat → Int32)) (k444_0 : Int32) (k444_1 : Int32) (Q : Int32 → V_X6 → Prop) : Prop :=
  ((k444_1 = k444_0 → Q 1 z444_v) ∧
  (¬ k444_1 = k444_0 → Q 0 z444_v))
def wp_L_holds_428 (v : V_X6) (y428_5 : Int32) (z428_q : (Nat → Int32)) (z428_v : V_X6) (z428_w : (Nat → Int32)) (k428_0 : Int32) (Q : Int32 → V_X6 → Prop) : Prop :=
  wo_X6_count z428_v 12 (fun r431 z431_v =>
  ((r431 = y428_5 → wp_L_holds_444 v z428_q z431_v z428_w 1 k428_0  Q) ∧
  (¬ r431 = y428_5 → wp_L_holds_444 v z428_q z431_v z428_w 0 k428_0  Q)))
def wp_L_holds_366 (v : V_X6) (y366_3 : Int32) (y366_4 : Int32) (y366_5 : Int32) (z366_q : (Nat → Int32)) (z366_v : V_X6) (z366_w : (Nat → Int32)) (k366_0 : Int32) (Q : Int32 → V_X6 → Prop) : Prop :=
  ((k366_0 = 0 → Q 0 z366_v) ∧
  (¬ k366_0 = 0 → wo_X6_count z366_v 5 (fun r377 z377_v =>
  ((y366_4 = r377 → wo_X6_count z377_v 3 (fun r387 z387_v =>
  ((y366_5 = r387 → wo_X6_hollowShare z387_v (fun r394 z394_v =>
  vf_n64 (FP.ddiv (FP.i2d y366_4) 4634204016564240384) ∧ (((Op.cmpValue (FP.dcmp r394 (FP.ddiv (FP.i2d y366_4) 4634204016564240384)) .l) = 0 → wo_X6_count z394_v 12 (fun r411 z411_v =>
  ((y366_5 < r411 → Q 0 z411_v) ∧
  (¬ y366_5 < r411 → ((y366_3 = 0 → wp_L_holds_428 v y366_5 z366_q z411_v z366_w 1  Q) ∧
  (¬ y366_3 = 0 → wp_L_holds_428 v y366_5 z366_q z411_v z366_w 0  Q)))))) ∧
  (¬ (Op.cmpValue (FP.dcmp r394 (FP.ddiv (FP.i2d y366_4) 4634204016564240384)) .l) = 0 → Q 0 z394_v)))) ∧
  (¬ y366_5 = r387 → Q 0 z387_v)))) ∧
  (¬ y366_4 = r377 → Q 0 z377_v)))))
def wp_L_holds_365 (v : V_X6) (y365_3 : Int32) (y365_4 : Int32) (y365_5 : Int32) (z365_q : (Nat → Int32)) (z365_v : V_X6) (z365_w : (Nat → Int32)) (Q : Int32 → V_X6 → Prop) : Prop :=
  wp_L_holds_366 v y365_3 y365_4 y365_5 z365_q z365_v z365_w 0  Q
def wp_L_holds_361 (v : V_X6) (y361_3 : Int32) (y361_4 : Int32) (y361_5 : Int32) (z361_q : (Nat → Int32)) (z361_v : V_X6) (z361_w : (Nat → Int32)) (Q : Int32 → V_X6 → Prop) : Prop :=
  wp_L_holds_366 v y361_3 y361_4 y361_5 z361_q z361_v z361_w 1  Q
def wp_L_holds_324 (v : V_X6) (y324_3 : Int32) (y324_4 : Int32) (y324_5 : Int32) (y324_6 : Int32) (z324_q : (Nat → Int32)) (z324_v : V_X6) (z324_w : (Nat → Int32)) (Q : Int32 → V_X6 → Prop) : Prop :=
  wo_X6_bestDig z324_v (fun r325 z325_v =>
  ((y324_6 = 0 → wp_L_holds_365 v y324_3 y324_4 y324_5 z324_q z325_v z324_w  Q) ∧
  (¬ y324_6 = 0 → ((r325 = (-1) → wp_L_holds_361 v y324_3 y324_4 y324_5 z324_q z325_v z324_w  Q) ∧
  (¬ r325 = (-1) → wo_X6_tuft z325_v r325 5 (fun r345 z345_v =>
  ((r345 = 0 → wo_X6_ifDug z345_v r325 0 (fun r355 z355_v =>
  ((r355 ≤ 0 → wp_L_holds_365 v y324_3 y324_4 y324_5 z324_q z355_v z324_w  Q) ∧
  (¬ r355 ≤ 0 → wp_L_holds_361 v y324_3 y324_4 y324_5 z324_q z355_v z324_w  Q)))) ∧
  (¬ r345 = 0 → wp_L_holds_365 v y324_3 y324_4 y324_5 z324_q z345_v z324_w  Q))))))))
def wp_L_holds_271 (v : V_X6) (y117_3 : Int32) (z117_q : (Nat → Int32)) (z117_w : (Nat → Int32)) (y117_4 : Int32) (y117_5 : Int32) (y117_6 : Int32) (y117_7 : Int32) (z117_v : V_X6) (B117 : Int32 → Int32 → Int32 → Int32 → V_X6 → Prop) (y271_4 : Int32) (y271_5 : Int32) (y271_8 : Int32) (y271_9 : Int32) (z271_v : V_X6) (Q : Int32 → V_X6 → Prop) : Prop :=
  wo_X6_tuft z271_v y117_7 4 (fun r275 z275_v =>
  ((r275 = y271_9 → ((y271_8 = (-1) → wo_X6_tuft z275_v y117_7 5 (fun r293 z293_v =>
  ((r293 = 0 → B117 y271_4 y271_5 1 (y117_7 + 1) z293_v) ∧
  (¬ r293 = 0 → B117 y271_4 y271_5 0 (y117_7 + 1) z293_v)))) ∧
  (¬ y271_8 = (-1) → vp_in y117_7 64 ∧ ((y271_8 = (z117_q y117_7.toNatClampNeg) → B117 y271_4 y271_5 1 (y117_7 + 1) z275_v) ∧
  (¬ y271_8 = (z117_q y117_7.toNatClampNeg) → B117 y271_4 y271_5 0 (y117_7 + 1) z275_v))))) ∧
  (¬ r275 = y271_9 → B117 y271_4 y271_5 0 (y117_7 + 1) z275_v)))
def wb_L_holds_145 (v : V_X6) (y117_3 : Int32) (z117_q : (Nat → Int32)) (z117_w : (Nat → Int32)) (y117_4 : Int32) (y117_5 : Int32) (y117_6 : Int32) (y117_7 : Int32) (z117_v : V_X6) (B117 : Int32 → Int32 → Int32 → Int32 → V_X6 → Prop) (y145_8 : Int32) (z145_v : V_X6) (y145_9 : Int32) (y145_10 : Int32) (B145 : Int32 → Int32 → Prop) (Q : Int32 → V_X6 → Prop) : Prop :=
  ((9 ≤ y145_10 → vp_in y117_7 64 ∧ wo_X6_tuft z145_v y117_7 0 (fun r250 z250_v =>
  (((z117_w y117_7.toNatClampNeg) = 0 → wp_L_holds_271 v y117_3 z117_q z117_w y117_4 y117_5 y117_6 y117_7 z117_v B117 (y117_4 + (z117_q y117_7.toNatClampNeg)) (y117_5 + r250) y145_8 y145_9 z250_v  Q) ∧
  (¬ (z117_w y117_7.toNatClampNeg) = 0 → (((z117_q y117_7.toNatClampNeg) = 1 → wp_L_holds_271 v y117_3 z117_q z117_w y117_4 y117_5 y117_6 y117_7 z117_v B117 (y117_4 + (z117_q y117_7.toNatClampNeg)) (y117_5 + r250) y145_8 y145_9 z250_v  Q) ∧
  (¬ (z117_q y117_7.toNatClampNeg) = 1 → B117 (y117_4 + (z117_q y117_7.toNatClampNeg)) (y117_5 + r250) 0 (y117_7 + 1) z250_v)))))) ∧
  (¬ 9 ≤ y145_10 → ((y145_10 = 4 → B145 (y145_9 + 0) (y145_10 + 1)) ∧
  (¬ y145_10 = 4 → (((((y117_7 / 8) + (y145_10 / 3)) - 1) < 0 → B145 (y145_9 + 0) (y145_10 + 1)) ∧
  (¬ (((y117_7 / 8) + (y145_10 / 3)) - 1) < 0 → ((8 ≤ (((y117_7 / 8) + (y145_10 / 3)) - 1) → B145 (y145_9 + 0) (y145_10 + 1)) ∧
  (¬ 8 ≤ (((y117_7 / 8) + (y145_10 / 3)) - 1) → (((((y117_7 - y117_7 / 8 * 8) + (y145_10 - y145_10 / 3 * 3)) - 1) < 0 → B145 (y145_9 + 0) (y145_10 + 1)) ∧
  (¬ (((y117_7 - y117_7 / 8 * 8) + (y145_10 - y145_10 / 3 * 3)) - 1) < 0 → ((8 ≤ (((y117_7 - y117_7 / 8 * 8) + (y145_10 - y145_10 / 3 * 3)) - 1) → B145 (y145_9 + 0) (y145_10 + 1)) ∧
  (¬ 8 ≤ (((y117_7 - y117_7 / 8 * 8) + (y145_10 - y145_10 / 3 * 3)) - 1) → vp_in ((8 * (((y117_7 / 8) + (y145_10 / 3)) - 1)) + (((y117_7 - y117_7 / 8 * 8) + (y145_10 - y145_10 / 3 * 3)) - 1)) 64 ∧ B145 (y145_9 + (z117_q ((8 * (((y117_7 / 8) + (y145_10 / 3)) - 1)) + (((y117_7 - y117_7 / 8 * 8) + (y145_10 - y145_10 / 3 * 3)) - 1)).toNatClampNeg)) (y145_10 + 1)))))))))))))
def wp_L_holds_145 (v : V_X6) (y117_3 : Int32) (z117_q : (Nat → Int32)) (z117_w : (Nat → Int32)) (y117_4 : Int32) (y117_5 : Int32) (y117_6 : Int32) (y117_7 : Int32) (z117_v : V_X6) (B117 : Int32 → Int32 → Int32 → Int32 → V_X6 → Prop) (y145_8 : Int32) (z145_v : V_X6) (y145_9 : Int32) (y145_10 : Int32) (Q : Int32 → V_X6 → Prop) : Prop :=
  ∃ (I : Int32 → Int32 → Prop) (μ : Int32 → Int32 → Nat), I y145_9 y145_10 ∧ ∀ (s0 : Int32) (s1 : Int32), I s0 s1 → wb_L_holds_145 v y117_3 z117_q z117_w y117_4 y117_5 y117_6 y117_7 z117_v B117 y145_8 z145_v s0 s1 (fun t0 t1 => I t0 t1 ∧ μ t0 t1 < μ s0 s1) Q
def wb_L_holds_117 (v : V_X6) (y117_3 : Int32) (z117_q : (Nat → Int32)) (z117_w : (Nat → Int32)) (y117_4 : Int32) (y117_5 : Int32) (y117_6 : Int32) (y117_7 : Int32) (z117_v : V_X6) (B117 : Int32 → Int32 → Int32 → Int32 → V_X6 → Prop) (Q : Int32 → V_X6 → Prop) : Prop :=
  ((64 ≤ y117_7 → wp_L_holds_324 v y117_3 y117_4 y117_5 y117_6 z117_q z117_v z117_w  Q) ∧
  (¬ 64 ≤ y117_7 → ((y117_6 = 0 → wp_L_holds_324 v y117_3 y117_4 y117_5 y117_6 z117_q z117_v z117_w  Q) ∧
  (¬ y117_6 = 0 → wo_X6_tuft z117_v y117_7 6 (fun r134 z134_v =>
  wp_L_holds_145 v y117_3 z117_q z117_w y117_4 y117_5 y117_6 y117_7 z117_v B117 r134 z134_v 0 0 Q)))))
def wp_L_holds_117 (v : V_X6) (y117_3 : Int32) (z117_q : (Nat → Int32)) (z117_w : (Nat → Int32)) (y117_4 : Int32) (y117_5 : Int32) (y117_6 : Int32) (y117_7 : Int32) (z117_v : V_X6) (Q : Int32 → V_X6 → Prop) : Prop :=
  ∃ (I : Int32 → Int32 → Int32 → Int32 → V_X6 → Prop) (μ : Int32 → Int32 → Int32 → Int32 → V_X6 → Nat), I y117_4 y117_5 y117_6 y117_7 z117_v ∧ ∀ (s0 : Int32) (s1 : Int32) (s2 : Int32) (s3 : Int32) (s4 : V_X6), I s0 s1 s2 s3 s4 → wb_L_holds_117 v y117_3 z117_q z117_w s0 s1 s2 s3 s4 (fun t0 t1 t2 t3 t4 => I t0 t1 t2 t3 t4 ∧ μ t0 t1 t2 t3 t4 < μ s0 s1 s2 s3 s4) Q
def wb_L_holds_90 (v : V_X6) (y90_3 : Int32) (y90_4 : Int32) (y90_5 : Int32) (y90_6 : Int32) (z90_w : (Nat → Int32)) (y90_7 : Int32) (z90_q : (Nat → Int32)) (z90_v : V_X6) (B90 : Int32 → (Nat → Int32) → V_X6 → Prop) (Q : Int32 → V_X6 → Prop) : Prop :=
  ((64 ≤ y90_7 → wp_L_holds_117 v y90_3 z90_q z90_w y90_4 y90_5 y90_6 0 z90_v Q) ∧
  (¬ 64 ≤ y90_7 → wo_X6_tuft z90_v y90_7 3 (fun r104 z104_v =>
  vp_in y90_7 64 ∧ B90 (y90_7 + 1) (upd z90_q y90_7.toNatClampNeg r104) z104_v)))
def wp_L_holds_90 (v : V_X6) (y90_3 : Int32) (y90_4 : Int32) (y90_5 : Int32) (y90_6 : Int32) (z90_w : (Nat → Int32)) (y90_7 : Int32) (z90_q : (Nat → Int32)) (z90_v : V_X6) (Q : Int32 → V_X6 → Prop) : Prop :=
  ∃ (I : Int32 → (Nat → Int32) → V_X6 → Prop) (μ : Int32 → (Nat → Int32) → V_X6 → Nat), I y90_7 z90_q z90_v ∧ ∀ (s0 : Int32) (s1 : (Nat → Int32)) (s2 : V_X6), I s0 s1 s2 → wb_L_holds_90 v y90_3 y90_4 y90_5 y90_6 z90_w s0 s1 s2 (fun t0 t1 t2 => I t0 t1 t2 ∧ μ t0 t1 t2 < μ s0 s1 s2) Q
def wb_L_holds_57 (v : V_X6) (y57_3 : Int32) (y57_4 : Int32) (y57_5 : Int32) (z57_q : (Nat → Int32)) (y57_6 : Int32) (y57_7 : Int32) (z57_v : V_X6) (z57_w : (Nat → Int32)) (B57 : Int32 → Int32 → V_X6 → (Nat → Int32) → Prop) (Q : Int32 → V_X6 → Prop) : Prop :=
  wo_X6_count z57_v 1 (fun r61 z61_v =>
  ((r61 ≤ y57_7 → wp_L_holds_90 v y57_3 y57_4 y57_5 y57_6 z57_w 0 z57_q z61_v Q) ∧
  (¬ r61 ≤ y57_7 → ((y57_6 = 0 → wp_L_holds_90 v y57_3 y57_4 y57_5 y57_6 z57_w 0 z57_q z61_v Q) ∧
  (¬ y57_6 = 0 → wp_L_isMole z61_v 64 z57_w y57_7 (fun r76 z76_v z76_w =>
  B57 r76 (y57_7 + 1) z76_v z76_w))))))
def wp_L_holds_57 (v : V_X6) (y57_3 : Int32) (y57_4 : Int32) (y57_5 : Int32) (z57_q : (Nat → Int32)) (y57_6 : Int32) (y57_7 : Int32) (z57_v : V_X6) (z57_w : (Nat → Int32)) (Q : Int32 → V_X6 → Prop) : Prop :=
  ∃ (I : Int32 → Int32 → V_X6 → (Nat → Int32) → Prop) (μ : Int32 → Int32 → V_X6 → (Nat → Int32) → Nat), I y57_6 y57_7 z57_v z57_w ∧ ∀ (s0 : Int32) (s1 : Int32) (s2 : V_X6) (s3 : (Nat → Int32)), I s0 s1 s2 s3 → wb_L_holds_57 v y57_3 y57_4 y57_5 z57_q s0 s1 s2 s3 (fun t0 t1 t2 t3 => I t0 t1 t2 t3 ∧ μ t0 t1 t2 t3 < μ s0 s1 s2 s3) Q
def wb_L_holds_28 (v : V_X6) (y28_3 : Int32) (y28_4 : Int32) (y28_5 : Int32) (z28_q : (Nat → Int32)) (y28_6 : Int32) (y28_7 : Int32) (z28_v : V_X6) (z28_w : (Nat → Int32)) (B28 : Int32 → Int32 → V_X6 → (Nat → Int32) → Prop) (Q : Int32 → V_X6 → Prop) : Prop :=
  ((y28_3 ≤ y28_7 → wp_L_holds_57 v y28_3 y28_4 y28_5 z28_q y28_6 0 z28_v z28_w Q) ∧
  (¬ y28_3 ≤ y28_7 → ((y28_6 = 0 → wp_L_holds_57 v y28_3 y28_4 y28_5 z28_q y28_6 0 z28_v z28_w Q) ∧
  (¬ y28_6 = 0 → wp_L_isTunnel z28_v 64 z28_w y28_7 (fun r43 z43_v z43_w =>
  B28 r43 (y28_7 + 1) z43_v z43_w)))))
def wp_L_holds_28 (v : V_X6) (y28_3 : Int32) (y28_4 : Int32) (y28_5 : Int32) (z28_q : (Nat → Int32)) (y28_6 : Int32) (y28_7 : Int32) (z28_v : V_X6) (z28_w : (Nat → Int32)) (Q : Int32 → V_X6 → Prop) : Prop :=
  ∃ (I : Int32 → Int32 → V_X6 → (Nat → Int32) → Prop) (μ : Int32 → Int32 → V_X6 → (Nat → Int32) → Nat), I y28_6 y28_7 z28_v z28_w ∧ ∀ (s0 : Int32) (s1 : Int32) (s2 : V_X6) (s3 : (Nat → Int32)), I s0 s1 s2 s3 → wb_L_holds_28 v y28_3 y28_4 y28_5 z28_q s0 s1 s2 s3 (fun t0 t1 t2 t3 => I t0 t1 t2 t3 ∧ μ t0 t1 t2 t3 < μ s0 s1 s2 s3) Q
def wp_L_holds (v : V_X6) (Q : Int32 → V_X6 → Prop) : Prop :=
  wo_X6_count v 4 (fun r12 z12_v =>
  wp_L_holds_28 v r12 0 0 (fun _ => 0) 1 0 z12_v (fun _ => 0) Q)
def q_L_holds (dC : Nat → ClassId) (dI : Nat → Nat → Nat) (cy : Nat → ClassId) (a : Nat → Nat) (v : V_X6) (Q : Int32 → V_X6 → Prop) (A : Nat → Prop) : Array Value → State → Outcome → State → Prop := va_Qi (fun (r : Int32) (u : V_X6) => Q r u) (fun (u : V_X6) t => xAt dC dI cy A (wX6 cy a u) t) A
set_option maxHeartbeats 4000000 in
set_option maxRecDepth 100000 in
theorem c_L_holds (l : Launch) (dC : Nat → ClassId) (dI : Nat → Nat → Nat) (cy : Nat → ClassId) (a : Nat → Nat) (sz : Nat) (v : V_X6) (Q : Int32 → V_X6 → Prop) (hq : wp_L_holds v Q) : Met l yL_holds wsL_holds ({ frames := 8, cells := 2, slots := 128, locals := 187 } : Room) (va_Pc [.ref (a 0)] (xPreE dC dI cy (wX6 cy a v) sz)) (q_L_holds dC dI cy a v Q (va_A (wX6 cy a v) sz)) 2 128 (va_A (wX6 cy a v) sz) := by
  refine Met.ofW (cc := cL_holds) (maxL := 13) (ret := (some .boolean)) (by decide) rfl ?_
  intro p e s m args below meth c s₁ B hml hv
  obtain ⟨rfl, hsz, hP, hK, hD0, hE⟩ := hv
  have hx := B.exec
  have hb := B.bytes
  have hr := B.returns
  have hts := atoms_spec (ws := wsL_holds) B.pre
  have hown : s.vm.findClass RL = some m.cls := findClass_of_methodNamed B.named
  have hlocks := B.notSynchronized
  subst hsz
  have hD := hD0.self (sz := s.heap.size)
  generalize hAe : va_A (wX6 cy a v) s.heap.size = A at hD hE ⊢
  have hAe0 : ∀ q : Nat, s.heap.size ≤ q → A q := fun q h => by rw [← hAe]; exact Or.inr h
  have hS : va_S A s.heap s.heap [] := va_S.rf
  have hl := lv_entry ([.ref (a 0)]) (n := 13) (Nat.le_of_ble_eq_true rfl)
  rw [lg_entry_eq]
  generalize (lg_sl ([.ref (a 0)]) ++ List.replicate (13 - (lg_sl ([.ref (a 0)])).length) Slot.unset).toArray = ls at hl ⊢
  have hl : lv_has ls 13 [(0, .ref (a 0))] := hl
  have lk0 := hts (Cond.constantDouble RL 95 (4634204016564240384)) (List.mem_cons_of_mem _ (List.mem_append_left _ (List.mem_append_left _ (List.mem_append_left _ (List.mem_append_left _ (List.mem_append_left _ (List.mem_append_left _ (List.mem_append_left _ (List.mem_append_left _ (List.mem_append_left _ (List.mem_of_getElem? (i := 1) rfl)))))))))))
  have lk1 := hts (Cond.arrayClass .int) (List.mem_cons_of_mem _ (List.mem_append_left _ (List.mem_append_left _ (List.mem_append_left _ (List.mem_append_left _ (List.mem_append_left _ (List.mem_append_left _ (List.mem_append_left _ (List.mem_append_left _ (List.mem_append_left _ (List.mem_of_getElem? (i := 0) rfl)))))))))))
  unfold wp_L_holds at hq
  refine lv_bipush (v := 64) hx hb dL_holds_0 (by decide) ?_
  refine va_newa (atype := .int) (ty := .int) (a0 := (64, .inl (fun _ => 0))) hx hb lk1 rfl hK hP hD hS hAe0 (fun _ => rfl) (by decide) (by decide) (Nat.le_of_ble_eq_true rfl) (Nat.le_of_ble_eq_true rfl) (Nat.le_of_ble_eq_true rfl) dL_holds_2 (fun q9 cA H hK9 hP hD hS => ?_)
  obtain ⟨d, rfl⟩ : ∃ d9 : Nat → Nat, q9 = d9 0 := ⟨fun _ => q9, rfl⟩
  have ec : cA = cy 0 := xcy (i := 4) (j := 0) hK9 rfl rfl
  subst ec
  have hP : va_P (dC, dI) vwCl (wX6 cy a v ++ cAI cy d 64 (fun _ => 0)) H := hP
  have hD : va_D A (wX6 cy a v ++ cAI cy d 64 (fun _ => 0)) := hD
  refine lv_astore_n (lv' := [(1, .ref (d 0)), (0, .ref (a 0))]) hx hb dL_holds_4 rfl hl (by decide) rfl (fun ls hl => ?_)
  refine lv_bipush (v := 64) hx hb dL_holds_5 (by decide) ?_
  refine va_newa (atype := .int) (ty := .int) (a0 := (64, .inl (fun _ => 0))) hx hb lk1 rfl hK hP hD hS hAe0 (fun _ => rfl) (by decide) (by decide) (Nat.le_of_ble_eq_true rfl) (Nat.le_of_ble_eq_true rfl) (Nat.le_of_ble_eq_true rfl) dL_holds_7 (fun q9 cA H hK9 hP hD hS => ?_)
  obtain ⟨g, rfl⟩ : ∃ d9 : Nat → Nat, q9 = d9 0 := ⟨fun _ => q9, rfl⟩
  have ec : cA = cy 0 := xcy (i := 4) (j := 0) hK9 rfl rfl
  subst ec
  have hP : va_P (dC, dI) vwCl (wX6 cy a v ++ cAI cy d 64 (fun _ => 0) ++ cAI cy g 64 (fun _ => 0)) H := hP
  have hD : va_D A (wX6 cy a v ++ cAI cy d 64 (fun _ => 0) ++ cAI cy g 64 (fun _ => 0)) := hD
  have J444 : ∀ (z444_q : (Nat → Int32)) (z444_v : V_X6) (z444_w : (Nat → Int32)) (k444_0 : Int32) (k444_1 : Int32) (H : Heap) (locs : List Loc) (ls : Array Slot), wp_L_holds_444 v z444_q z444_v z444_w k444_0 k444_1 Q → va_P (dC, dI) vwCl (wX6 cy a z444_v ++ cAI cy d 64 z444_w ++ cAI cy g 64 z444_q) H → va_D A (wX6 cy a z444_v ++ cAI cy d 64 z444_w ++ cAI cy g 64 z444_q) → va_S A s.heap H locs → lv_has ls 13 [] → W p l e (headSpec wsL_holds ({ frames := 8, cells := 2, slots := 128, locals := 187 } : Room)).room s m ([.ref (a 0)] : List Value).toArray below meth c H locs 2 128 (MQ below (q_L_holds dC dI cy a v Q A) ([.ref (a 0)] : List Value).toArray s 2 128 A) (F0 m 444 ls [.int k444_0, .int k444_1]) := by
    intro z444_q z444_v z444_w k444_0 k444_1 H locs ls hq hP hD hS hl
    unfold wp_L_holds_444 at hq
    obtain ⟨hqA, hqB⟩ := hq
    refine lv_icmp_ne (tgt := 451) hx hb dL_holds_444 (by decide) (fun c1 => ?_) (fun c1 => ?_)
    · have hq := hqB c1
      refine lv_iconst (v := 0) hx hb dL_holds_451 (by decide) ?_
      have hC : ((rng 0 204).map (fun i => (wX6 cy a z444_v ++ cAI cy d 64 z444_w ++ cAI cy g 64 z444_q)[i]?)) = (wX6 cy a z444_v).map some := xC_left2 wX6_len
      exact W.zret (v := 0) hx hb hr rfl (fun t ht hW => ⟨⟨0, z444_v, rfl, hq, (xAt_of (xsubP hP hC) hK (xsubD hD (rng_nd 204 0) hC) ht hW)⟩, hS.F ht⟩) hS.2.2 dL_holds_452
    · have hq := hqA c1
      refine lv_iconst (v := 1) hx hb dL_holds_447 (by decide) ?_
      refine lv_goto (tgt := 452) hx hb dL_holds_448 (by decide) ?_
      have hC : ((rng 0 204).map (fun i => (wX6 cy a z444_v ++ cAI cy d 64 z444_w ++ cAI cy g 64 z444_q)[i]?)) = (wX6 cy a z444_v).map some := xC_left2 wX6_len
      exact W.zret (v := 1) hx hb hr rfl (fun t ht hW => ⟨⟨1, z444_v, rfl, hq, (xAt_of (xsubP hP hC) hK (xsubD hD (rng_nd 204 0) hC) ht hW)⟩, hS.F ht⟩) hS.2.2 dL_holds_452
  have J428 : ∀ (y428_5 : Int32) (z428_q : (Nat → Int32)) (z428_v : V_X6) (z428_w : (Nat → Int32)) (k428_0 : Int32) (H : Heap) (locs : List Loc) (ls : Array Slot), wp_L_holds_428 v y428_5 z428_q z428_v z428_w k428_0 Q → va_P (dC, dI) vwCl (wX6 cy a z428_v ++ cAI cy d 64 z428_w ++ cAI cy g 64 z428_q) H → va_D A (wX6 cy a z428_v ++ cAI cy d 64 z428_w ++ cAI cy g 64 z428_q) → va_S A s.heap H locs → lv_has ls 13 [(0, .ref (a 0)), (5, .int y428_5)] → W p l e (headSpec wsL_holds ({ frames := 8, cells := 2, slots := 128, locals := 187 } : Room)).room s m ([.ref (a 0)] : List Value).toArray below meth c H locs 2 128 (MQ below (q_L_holds dC dI cy a v Q A) ([.ref (a 0)] : List Value).toArray s 2 128 A) (F0 m 428 ls [.int k428_0]) := by
    intro y428_5 z428_q z428_v z428_w k428_0 H locs ls hq hP hD hS hl
    unfold wp_L_holds_428 at hq
    refine lv_aload_n hx hb dL_holds_428 rfl (lv_at hl 0 rfl) ?_
    refine lv_bipush (v := 12) hx hb dL_holds_429 (by decide) ?_
    have hC : ((rng 0 204).map (fun i => (wX6 cy a z428_v ++ cAI cy d 64 z428_w ++ cAI cy g 64 z428_q)[i]?)) = (wX6 cy a z428_v).map some := xC_left2 wX6_len
    have hPc := xsubP hP hC
    have hDc := xsubD hD (rng_nd 204 0) hC
    have hFc := va_free (wc := (wX6 cy a z428_v)) hD hS hAe0 (rng 0 204) hC
    refine va_calli (va_runV (As := [.int 12]) (rest := [.int k428_0]) ⟨hx, hb, hml, hown, hts⟩ (co_X6_count l dC dI cy a _ z428_v 12 _ hq) (cwV 1 hts gL_holds_X6_count rfl rfl rfl (by decide +kernel) ⟨Nat.le_of_ble_eq_true rfl, Nat.le_of_ble_eq_true rfl⟩) ⟨xPre_blindE, va_recv hK hPc (ci := 6) (q0 := 0) rfl rfl, xPre_ofE hPc hK hDc hE hS hFc⟩ rfl rfl hl.1 rfl (lv_room (Nat.le_of_ble_eq_true rfl)) dL_holds_431 ⟨Nat.le_of_ble_eq_true rfl, Nat.le_of_ble_eq_true rfl⟩) hS (fun q _ h => hFc q h) hFc (fun r431 z431_v t H locs ht hvm hq hB hz1 hk1 hS => ?_)
    obtain ⟨hP1, -, hD1⟩ := hB
    rw [ht] at hP1
    obtain ⟨hP, hD⟩ := xj hP hD (rng 0 204) (wX6 cy a z431_v) (ws' := (wX6 cy a z431_v ++ cAI cy d 64 z428_w ++ cAI cy g 64 z428_q)) hC wX6_fst (xS_left2 wX6_len wX6_len) hk1 hFc hP1
    refine lv_iload hx hb dL_holds_434 (lv_at hl 1 rfl) ?_
    obtain ⟨hqA, hqB⟩ := hq
    refine lv_icmp_ne (tgt := 443) hx hb dL_holds_436 (by decide) (fun c2 => ?_) (fun c2 => ?_)
    · have hq := hqB c2
      refine lv_iconst (v := 0) hx hb dL_holds_443 (by decide) ?_
      exact J444 z428_q z431_v z428_w 0 k428_0  _ _ _ hq hP hD hS (lv_sub hl [] rfl)
    · have hq := hqA c2
      refine lv_iconst (v := 1) hx hb dL_holds_439 (by decide) ?_
      refine lv_goto (tgt := 444) hx hb dL_holds_440 (by decide) ?_
      exact J444 z428_q z431_v z428_w 1 k428_0  _ _ _ hq hP hD hS (lv_sub hl [] rfl)
  have J366 : ∀ (y366_3 : Int32) (y366_4 : Int32) (y366_5 : Int32) (z366_q : (Nat → Int32)) (z366_v : V_X6) (z366_w : (Nat → Int32)) (k366_0 : Int32) (H : Heap) (locs : List Loc) (ls : Array Slot), wp_L_holds_366 v y366_3 y366_4 y366_5 z366_q z366_v z366_w k366_0 Q → va_P (dC, dI) vwCl (wX6 cy a z366_v ++ cAI cy d 64 z366_w ++ cAI cy g 64 z366_q) H → va_D A (wX6 cy a z366_v ++ cAI cy d 64 z366_w ++ cAI cy g 64 z366_q) → va_S A s.heap H locs → lv_has ls 13 [(0, .ref (a 0)), (3, .int y366_3), (4, .int y366_4), (5, .int y366_5)] → W p l e (headSpec wsL_holds ({ frames := 8, cells := 2, slots := 128, locals := 187 } : Room)).room s m ([.ref (a 0)] : List Value).toArray below meth c H locs 2 128 (MQ below (q_L_holds dC dI cy a v Q A) ([.ref (a 0)] : List Value).toArray s 2 128 A) (F0 m 366 ls [.int k366_0]) := by
    intro y366_3 y366_4 y366_5 z366_q z366_v z366_w k366_0 H locs ls hq hP hD hS hl
    unfold wp_L_holds_366 at hq
    refine lv_istore (lv' := [(6, .int k366_0), (0, .ref (a 0)), (3, .int y366_3), (4, .int y366_4), (5, .int y366_5)]) hx hb dL_holds_366 hl (by decide) rfl (fun ls hl => ?_)
    refine lv_iload hx hb dL_holds_368 (lv_at hl 0 rfl) ?_
    obtain ⟨hqA, hqB⟩ := hq
    refine lv_if_eq (tgt := 451) hx hb dL_holds_370 (by decide) (fun c9 => ?_) (fun c9 => ?_)
    · have hq := hqA c9
      refine lv_iconst (v := 0) hx hb dL_holds_451 (by decide) ?_
      have hC : ((rng 0 204).map (fun i => (wX6 cy a z366_v ++ cAI cy d 64 z366_w ++ cAI cy g 64 z366_q)[i]?)) = (wX6 cy a z366_v).map some := xC_left2 wX6_len
      exact W.zret (v := 0) hx hb hr rfl (fun t ht hW => ⟨⟨0, z366_v, rfl, hq, (xAt_of (xsubP hP hC) hK (xsubD hD (rng_nd 204 0) hC) ht hW)⟩, hS.F ht⟩) hS.2.2 dL_holds_452
    · have hq := hqB c9
      refine lv_iload hx hb dL_holds_373 (lv_at hl 3 rfl) ?_
      refine lv_aload_n hx hb dL_holds_375 rfl (lv_at hl 1 rfl) ?_
      refine lv_iconst (v := 5) hx hb dL_holds_376 (by decide) ?_
      have hC : ((rng 0 204).map (fun i => (wX6 cy a z366_v ++ cAI cy d 64 z366_w ++ cAI cy g 64 z366_q)[i]?)) = (wX6 cy a z366_v).map some := xC_left2 wX6_len
      have hPc := xsubP hP hC
      have hDc := xsubD hD (rng_nd 204 0) hC
      have hFc := va_free (wc := (wX6 cy a z366_v)) hD hS hAe0 (rng 0 204) hC
      refine va_calli (va_runV (As := [.int 5]) (rest := [.int y366_4]) ⟨hx, hb, hml, hown, hts⟩ (co_X6_count l dC dI cy a _ z366_v 5 _ hq) (cwV 1 hts gL_holds_X6_count rfl rfl rfl (by decide +kernel) ⟨Nat.le_of_ble_eq_true rfl, Nat.le_of_ble_eq_true rfl⟩) ⟨xPre_blindE, va_recv hK hPc (ci := 6) (q0 := 0) rfl rfl, xPre_ofE hPc hK hDc hE hS hFc⟩ rfl rfl hl.1 rfl (lv_room (Nat.le_of_ble_eq_true rfl)) dL_holds_377 ⟨Nat.le_of_ble_eq_true rfl, Nat.le_of_ble_eq_true rfl⟩) hS (fun q _ h => hFc q h) hFc (fun r377 z377_v t H locs ht hvm hq hB hz1 hk1 hS => ?_)
      obtain ⟨hP1, -, hD1⟩ := hB
      rw [ht] at hP1
      obtain ⟨hP, hD⟩ := xj hP hD (rng 0 204) (wX6 cy a z377_v) (ws' := (wX6 cy a z377_v ++ cAI cy d 64 z366_w ++ cAI cy g 64 z366_q)) hC wX6_fst (xS_left2 wX6_len wX6_len) hk1 hFc hP1
      obtain ⟨hqA, hqB⟩ := hq
      refine lv_icmp_ne (tgt := 451) hx hb dL_holds_380 (by decide) (fun c8 => ?_) (fun c8 => ?_)
      · have hq := hqB c8
        refine lv_iconst (v := 0) hx hb dL_holds_451 (by decide) ?_
        have hC : ((rng 0 204).map (fun i => (wX6 cy a z377_v ++ cAI cy d 64 z366_w ++ cAI cy g 64 z366_q)[i]?)) = (wX6 cy a z377_v).map some := xC_left2 wX6_len
        exact W.zret (v := 0) hx hb hr rfl (fun t ht hW => ⟨⟨0, z377_v, rfl, hq, (xAt_of (xsubP hP hC) hK (xsubD hD (rng_nd 204 0) hC) ht hW)⟩, hS.F ht⟩) hS.2.2 dL_holds_452
      · have hq := hqA c8
        refine lv_iload hx hb dL_holds_383 (lv_at hl 4 rfl) ?_
        refine lv_aload_n hx hb dL_holds_385 rfl (lv_at hl 1 rfl) ?_
        refine lv_iconst (v := 3) hx hb dL_holds_386 (by decide) ?_
        have hC : ((rng 0 204).map (fun i => (wX6 cy a z377_v ++ cAI cy d 64 z366_w ++ cAI cy g 64 z366_q)[i]?)) = (wX6 cy a z377_v).map some := xC_left2 wX6_len
        have hPc := xsubP hP hC
        have hDc := xsubD hD (rng_nd 204 0) hC
        have hFc := va_free (wc := (wX6 cy a z377_v)) hD hS hAe0 (rng 0 204) hC
        refine va_calli (va_runV (As := [.int 3]) (rest := [.int y366_5]) ⟨hx, hb, hml, hown, hts⟩ (co_X6_count l dC dI cy a _ z377_v 3 _ hq) (cwV 1 hts gL_holds_X6_count rfl rfl rfl (by decide +kernel) ⟨Nat.le_of_ble_eq_true rfl, Nat.le_of_ble_eq_true rfl⟩) ⟨xPre_blindE, va_recv hK hPc (ci := 6) (q0 := 0) rfl rfl, xPre_ofE hPc hK hDc hE hS hFc⟩ rfl rfl hl.1 rfl (lv_room (Nat.le_of_ble_eq_true rfl)) dL_holds_387 ⟨Nat.le_of_ble_eq_true rfl, Nat.le_of_ble_eq_true rfl⟩) hS (fun q _ h => hFc q h) hFc (fun r387 z387_v t H locs ht hvm hq hB hz1 hk1 hS => ?_)
        obtain ⟨hP1, -, hD1⟩ := hB
        rw [ht] at hP1
        obtain ⟨hP, hD⟩ := xj hP hD (rng 0 204) (wX6 cy a z387_v) (ws' := (wX6 cy a z387_v ++ cAI cy d 64 z366_w ++ cAI cy g 64 z366_q)) hC wX6_fst (xS_left2 wX6_len wX6_len) hk1 hFc hP1
        obtain ⟨hqA, hqB⟩ := hq
        refine lv_icmp_ne (tgt := 451) hx hb dL_holds_390 (by decide) (fun c7 => ?_) (fun c7 => ?_)
        · have hq := hqB c7
          refine lv_iconst (v := 0) hx hb dL_holds_451 (by decide) ?_
          have hC : ((rng 0 204).map (fun i => (wX6 cy a z387_v ++ cAI cy d 64 z366_w ++ cAI cy g 64 z366_q)[i]?)) = (wX6 cy a z387_v).map some := xC_left2 wX6_len
          exact W.zret (v := 0) hx hb hr rfl (fun t ht hW => ⟨⟨0, z387_v, rfl, hq, (xAt_of (xsubP hP hC) hK (xsubD hD (rng_nd 204 0) hC) ht hW)⟩, hS.F ht⟩) hS.2.2 dL_holds_452
        · have hq := hqA c7
          refine lv_aload_n hx hb dL_holds_393 rfl (lv_at hl 1 rfl) ?_
          have hC : ((rng 0 204).map (fun i => (wX6 cy a z387_v ++ cAI cy d 64 z366_w ++ cAI cy g 64 z366_q)[i]?)) = (wX6 cy a z387_v).map some := xC_left2 wX6_len
          have hPc := xsubP hP hC
          have hDc := xsubD hD (rng_nd 204 0) hC
          have hFc := va_free (wc := (wX6 cy a z387_v)) hD hS hAe0 (rng 0 204) hC
          refine va_calld (va_runV (As := []) (rest := []) ⟨hx, hb, hml, hown, hts⟩ (co_X6_hollowShare l dC dI cy a _ z387_v _ hq) (cwV 0 hts gL_holds_X6_hollowShare rfl rfl rfl (by decide +kernel) ⟨Nat.le_of_ble_eq_true rfl, Nat.le_of_ble_eq_true rfl⟩) ⟨xPre_blindE, va_recv hK hPc (ci := 6) (q0 := 0) rfl rfl, xPre_ofE hPc hK hDc hE hS hFc⟩ rfl rfl hl.1 rfl (lv_room (Nat.le_of_ble_eq_true rfl)) dL_holds_394 ⟨Nat.le_of_ble_eq_true rfl, Nat.le_of_ble_eq_true rfl⟩) hS (fun q _ h => hFc q h) hFc (fun r394 z394_v t H locs ht hvm hq hB hz1 hk1 hS => ?_)
          obtain ⟨hP1, -, hD1⟩ := hB
          rw [ht] at hP1
          obtain ⟨hP, hD⟩ := xj hP hD (rng 0 204) (wX6 cy a z394_v) (ws' := (wX6 cy a z394_v ++ cAI cy d 64 z366_w ++ cAI cy g 64 z366_q)) hC wX6_fst (xS_left2 wX6_len wX6_len) hk1 hFc hP1
          refine lv_iload hx hb dL_holds_397 (lv_at hl 3 rfl) ?_
          refine lv_i2d hx hb dL_holds_399 ?_
          refine lv_ldc2d (v := 4634204016564240384) hx hb hown lk0 dL_holds_400 ?_
          obtain ⟨g3, hq⟩ := hq
          refine lv_ddiv hx hb dL_holds_403 g3 ?_
          refine lv_dcmp hx hb dL_holds_404 ?_
          obtain ⟨hqA, hqB⟩ := hq
          refine lv_if_ne (tgt := 451) hx hb dL_holds_405 (by decide) (fun c6 => ?_) (fun c6 => ?_)
          · have hq := hqB c6
            refine lv_iconst (v := 0) hx hb dL_holds_451 (by decide) ?_
            have hC : ((rng 0 204).map (fun i => (wX6 cy a z394_v ++ cAI cy d 64 z366_w ++ cAI cy g 64 z366_q)[i]?)) = (wX6 cy a z394_v).map some := xC_left2 wX6_len
            exact W.zret (v := 0) hx hb hr rfl (fun t ht hW => ⟨⟨0, z394_v, rfl, hq, (xAt_of (xsubP hP hC) hK (xsubD hD (rng_nd 204 0) hC) ht hW)⟩, hS.F ht⟩) hS.2.2 dL_holds_452
          · have hq := hqA c6
            refine lv_aload_n hx hb dL_holds_408 rfl (lv_at hl 1 rfl) ?_
            refine lv_bipush (v := 12) hx hb dL_holds_409 (by decide) ?_
            have hC : ((rng 0 204).map (fun i => (wX6 cy a z394_v ++ cAI cy d 64 z366_w ++ cAI cy g 64 z366_q)[i]?)) = (wX6 cy a z394_v).map some := xC_left2 wX6_len
            have hPc := xsubP hP hC
            have hDc := xsubD hD (rng_nd 204 0) hC
            have hFc := va_free (wc := (wX6 cy a z394_v)) hD hS hAe0 (rng 0 204) hC
            refine va_calli (va_runV (As := [.int 12]) (rest := []) ⟨hx, hb, hml, hown, hts⟩ (co_X6_count l dC dI cy a _ z394_v 12 _ hq) (cwV 1 hts gL_holds_X6_count rfl rfl rfl (by decide +kernel) ⟨Nat.le_of_ble_eq_true rfl, Nat.le_of_ble_eq_true rfl⟩) ⟨xPre_blindE, va_recv hK hPc (ci := 6) (q0 := 0) rfl rfl, xPre_ofE hPc hK hDc hE hS hFc⟩ rfl rfl hl.1 rfl (lv_room (Nat.le_of_ble_eq_true rfl)) dL_holds_411 ⟨Nat.le_of_ble_eq_true rfl, Nat.le_of_ble_eq_true rfl⟩) hS (fun q _ h => hFc q h) hFc (fun r411 z411_v t H locs ht hvm hq hB hz1 hk1 hS => ?_)
            obtain ⟨hP1, -, hD1⟩ := hB
            rw [ht] at hP1
            obtain ⟨hP, hD⟩ := xj hP hD (rng 0 204) (wX6 cy a z411_v) (ws' := (wX6 cy a z411_v ++ cAI cy d 64 z366_w ++ cAI cy g 64 z366_q)) hC wX6_fst (xS_left2 wX6_len wX6_len) hk1 hFc hP1
            refine lv_iload hx hb dL_holds_414 (lv_at hl 4 rfl) ?_
            obtain ⟨hqA, hqB⟩ := hq
            refine lv_icmp_gt (tgt := 451) hx hb dL_holds_416 (by decide) (fun c5 => ?_) (fun c5 => ?_)
            · have hq := hqA c5
              refine lv_iconst (v := 0) hx hb dL_holds_451 (by decide) ?_
              have hC : ((rng 0 204).map (fun i => (wX6 cy a z411_v ++ cAI cy d 64 z366_w ++ cAI cy g 64 z366_q)[i]?)) = (wX6 cy a z411_v).map some := xC_left2 wX6_len
              exact W.zret (v := 0) hx hb hr rfl (fun t ht hW => ⟨⟨0, z411_v, rfl, hq, (xAt_of (xsubP hP hC) hK (xsubD hD (rng_nd 204 0) hC) ht hW)⟩, hS.F ht⟩) hS.2.2 dL_holds_452
            · have hq := hqB c5
              refine lv_iload_n hx hb dL_holds_419 rfl (lv_at hl 2 rfl) ?_
              obtain ⟨hqA, hqB⟩ := hq
              refine lv_if_ne (tgt := 427) hx hb dL_holds_420 (by decide) (fun c4 => ?_) (fun c4 => ?_)
              · have hq := hqB c4
                refine lv_iconst (v := 0) hx hb dL_holds_427 (by decide) ?_
                exact J428 y366_5 z366_q z411_v z366_w 0  _ _ _ hq hP hD hS (lv_sub hl [1, 4] rfl)
              · have hq := hqA c4
                refine lv_iconst (v := 1) hx hb dL_holds_423 (by decide) ?_
                refine lv_goto (tgt := 428) hx hb dL_holds_424 (by decide) ?_
                exact J428 y366_5 z366_q z411_v z366_w 1  _ _ _ hq hP hD hS (lv_sub hl [1, 4] rfl)
  have J365 : ∀ (y365_3 : Int32) (y365_4 : Int32) (y365_5 : Int32) (z365_q : (Nat → Int32)) (z365_v : V_X6) (z365_w : (Nat → Int32)) (H : Heap) (locs : List Loc) (ls : Array Slot), wp_L_holds_365 v y365_3 y365_4 y365_5 z365_q z365_v z365_w Q → va_P (dC, dI) vwCl (wX6 cy a z365_v ++ cAI cy d 64 z365_w ++ cAI cy g 64 z365_q) H → va_D A (wX6 cy a z365_v ++ cAI cy d 64 z365_w ++ cAI cy g 64 z365_q) → va_S A s.heap H locs → lv_has ls 13 [(0, .ref (a 0)), (3, .int y365_3), (4, .int y365_4), (5, .int y365_5)] → W p l e (headSpec wsL_holds ({ frames := 8, cells := 2, slots := 128, locals := 187 } : Room)).room s m ([.ref (a 0)] : List Value).toArray below meth c H locs 2 128 (MQ below (q_L_holds dC dI cy a v Q A) ([.ref (a 0)] : List Value).toArray s 2 128 A) (F0 m 365 ls []) := by
    intro y365_3 y365_4 y365_5 z365_q z365_v z365_w H locs ls hq hP hD hS hl
    unfold wp_L_holds_365 at hq
    refine lv_iconst (v := 0) hx hb dL_holds_365 (by decide) ?_
    exact J366 y365_3 y365_4 y365_5 z365_q z365_v z365_w 0  _ _ _ hq hP hD hS (lv_sub hl [0, 1, 2, 3] rfl)
  have J361 : ∀ (y361_3 : Int32) (y361_4 : Int32) (y361_5 : Int32) (z361_q : (Nat → Int32)) (z361_v : V_X6) (z361_w : (Nat → Int32)) (H : Heap) (locs : List Loc) (ls : Array Slot), wp_L_holds_361 v y361_3 y361_4 y361_5 z361_q z361_v z361_w Q → va_P (dC, dI) vwCl (wX6 cy a z361_v ++ cAI cy d 64 z361_w ++ cAI cy g 64 z361_q) H → va_D A (wX6 cy a z361_v ++ cAI cy d 64 z361_w ++ cAI cy g 64 z361_q) → va_S A s.heap H locs → lv_has ls 13 [(0, .ref (a 0)), (3, .int y361_3), (4, .int y361_4), (5, .int y361_5)] → W p l e (headSpec wsL_holds ({ frames := 8, cells := 2, slots := 128, locals := 187 } : Room)).room s m ([.ref (a 0)] : List Value).toArray below meth c H locs 2 128 (MQ below (q_L_holds dC dI cy a v Q A) ([.ref (a 0)] : List Value).toArray s 2 128 A) (F0 m 361 ls []) := by
    intro y361_3 y361_4 y361_5 z361_q z361_v z361_w H locs ls hq hP hD hS hl
    unfold wp_L_holds_361 at hq
    refine lv_iconst (v := 1) hx hb dL_holds_361 (by decide) ?_
    refine lv_goto (tgt := 366) hx hb dL_holds_362 (by decide) ?_
    exact J366 y361_3 y361_4 y361_5 z361_q z361_v z361_w 1  _ _ _ hq hP hD hS (lv_sub hl [0, 1, 2, 3] rfl)
  have J324 : ∀ (y324_3 : Int32) (y324_4 : Int32) (y324_5 : Int32) (y324_6 : Int32) (z324_q : (Nat → Int32)) (z324_v : V_X6) (z324_w : (Nat → Int32)) (H : Heap) (locs : List Loc) (ls : Array Slot), wp_L_holds_324 v y324_3 y324_4 y324_5 y324_6 z324_q z324_v z324_w Q → va_P (dC, dI) vwCl (wX6 cy a z324_v ++ cAI cy d 64 z324_w ++ cAI cy g 64 z324_q) H → va_D A (wX6 cy a z324_v ++ cAI cy d 64 z324_w ++ cAI cy g 64 z324_q) → va_S A s.heap H locs → lv_has ls 13 [(0, .ref (a 0)), (3, .int y324_3), (4, .int y324_4), (5, .int y324_5), (6, .int y324_6)] → W p l e (headSpec wsL_holds ({ frames := 8, cells := 2, slots := 128, locals := 187 } : Room)).room s m ([.ref (a 0)] : List Value).toArray below meth c H locs 2 128 (MQ below (q_L_holds dC dI cy a v Q A) ([.ref (a 0)] : List Value).toArray s 2 128 A) (F0 m 324 ls []) := by
    intro y324_3 y324_4 y324_5 y324_6 z324_q z324_v z324_w H locs ls hq hP hD hS hl
    unfold wp_L_holds_324 at hq
    refine lv_aload_n hx hb dL_holds_324 rfl (lv_at hl 0 rfl) ?_
    have hC : ((rng 0 204).map (fun i => (wX6 cy a z324_v ++ cAI cy d 64 z324_w ++ cAI cy g 64 z324_q)[i]?)) = (wX6 cy a z324_v).map some := xC_left2 wX6_len
    have hPc := xsubP hP hC
    have hDc := xsubD hD (rng_nd 204 0) hC
    have hFc := va_free (wc := (wX6 cy a z324_v)) hD hS hAe0 (rng 0 204) hC
    refine va_calli (va_runV (As := []) (rest := []) ⟨hx, hb, hml, hown, hts⟩ (co_X6_bestDig l dC dI cy a _ z324_v _ hq) (cwV 0 hts gL_holds_X6_bestDig rfl rfl rfl (by decide +kernel) ⟨Nat.le_of_ble_eq_true rfl, Nat.le_of_ble_eq_true rfl⟩) ⟨xPre_blindE, va_recv hK hPc (ci := 6) (q0 := 0) rfl rfl, xPre_ofE hPc hK hDc hE hS hFc⟩ rfl rfl hl.1 rfl (lv_room (Nat.le_of_ble_eq_true rfl)) dL_holds_325 ⟨Nat.le_of_ble_eq_true rfl, Nat.le_of_ble_eq_true rfl⟩) hS (fun q _ h => hFc q h) hFc (fun r325 z325_v t H locs ht hvm hq hB hz1 hk1 hS => ?_)
    obtain ⟨hP1, -, hD1⟩ := hB
    rw [ht] at hP1
    obtain ⟨hP, hD⟩ := xj hP hD (rng 0 204) (wX6 cy a z325_v) (ws' := (wX6 cy a z325_v ++ cAI cy d 64 z324_w ++ cAI cy g 64 z324_q)) hC wX6_fst (xS_left2 wX6_len wX6_len) hk1 hFc hP1
    refine lv_istore (lv' := [(7, .int r325), (0, .ref (a 0)), (3, .int y324_3), (4, .int y324_4), (5, .int y324_5), (6, .int y324_6)]) hx hb dL_holds_328 hl (by decide) rfl (fun ls hl => ?_)
    refine lv_iload hx hb dL_holds_330 (lv_at hl 5 rfl) ?_
    obtain ⟨hqA, hqB⟩ := hq
    refine lv_if_eq (tgt := 365) hx hb dL_holds_332 (by decide) (fun c13 => ?_) (fun c13 => ?_)
    · have hq := hqA c13
      exact J365 y324_3 y324_4 y324_5 z324_q z325_v z324_w  _ _ _ hq hP hD hS (lv_sub hl [1, 2, 3, 4] rfl)
    · have hq := hqB c13
      refine lv_iload hx hb dL_holds_335 (lv_at hl 0 rfl) ?_
      refine lv_iconst (v := (-1)) hx hb dL_holds_337 (by decide) ?_
      obtain ⟨hqA, hqB⟩ := hq
      refine lv_icmp_eq (tgt := 361) hx hb dL_holds_338 (by decide) (fun c12 => ?_) (fun c12 => ?_)
      · have hq := hqA c12
        exact J361 y324_3 y324_4 y324_5 z324_q z325_v z324_w  _ _ _ hq hP hD hS (lv_sub hl [1, 2, 3, 4] rfl)
      · have hq := hqB c12
        refine lv_aload_n hx hb dL_holds_341 rfl (lv_at hl 1 rfl) ?_
        refine lv_iload hx hb dL_holds_342 (lv_at hl 0 rfl) ?_
        refine lv_iconst (v := 5) hx hb dL_holds_344 (by decide) ?_
        have hC : ((rng 0 204).map (fun i => (wX6 cy a z325_v ++ cAI cy d 64 z324_w ++ cAI cy g 64 z324_q)[i]?)) = (wX6 cy a z325_v).map some := xC_left2 wX6_len
        have hPc := xsubP hP hC
        have hDc := xsubD hD (rng_nd 204 0) hC
        have hFc := va_free (wc := (wX6 cy a z325_v)) hD hS hAe0 (rng 0 204) hC
        refine va_calli (va_runV (As := [.int r325, .int 5]) (rest := []) ⟨hx, hb, hml, hown, hts⟩ (co_X6_tuft l dC dI cy a _ z325_v r325 5 _ hq) (cwV 2 hts gL_holds_X6_tuft rfl rfl rfl (by decide +kernel) ⟨Nat.le_of_ble_eq_true rfl, Nat.le_of_ble_eq_true rfl⟩) ⟨xPre_blindE, va_recv hK hPc (ci := 6) (q0 := 0) rfl rfl, xPre_ofE hPc hK hDc hE hS hFc⟩ rfl rfl hl.1 rfl (lv_room (Nat.le_of_ble_eq_true rfl)) dL_holds_345 ⟨Nat.le_of_ble_eq_true rfl, Nat.le_of_ble_eq_true rfl⟩) hS (fun q _ h => hFc q h) hFc (fun r345 z345_v t H locs ht hvm hq hB hz1 hk1 hS => ?_)
        obtain ⟨hP1, -, hD1⟩ := hB
        rw [ht] at hP1
        obtain ⟨hP, hD⟩ := xj hP hD (rng 0 204) (wX6 cy a z345_v) (ws' := (wX6 cy a z345_v ++ cAI cy d 64 z324_w ++ cAI cy g 64 z324_q)) hC wX6_fst (xS_left2 wX6_len wX6_len) hk1 hFc hP1
        obtain ⟨hqA, hqB⟩ := hq
        refine lv_if_ne (tgt := 365) hx hb dL_holds_348 (by decide) (fun c11 => ?_) (fun c11 => ?_)
        · have hq := hqB c11
          exact J365 y324_3 y324_4 y324_5 z324_q z345_v z324_w  _ _ _ hq hP hD hS (lv_sub hl [1, 2, 3, 4] rfl)
        · have hq := hqA c11
          refine lv_aload_n hx hb dL_holds_351 rfl (lv_at hl 1 rfl) ?_
          refine lv_iload hx hb dL_holds_352 (lv_at hl 0 rfl) ?_
          refine lv_iconst (v := 0) hx hb dL_holds_354 (by decide) ?_
          have hC : ((rng 0 204).map (fun i => (wX6 cy a z345_v ++ cAI cy d 64 z324_w ++ cAI cy g 64 z324_q)[i]?)) = (wX6 cy a z345_v).map some := xC_left2 wX6_len
          have hPc := xsubP hP hC
          have hDc := xsubD hD (rng_nd 204 0) hC
          have hFc := va_free (wc := (wX6 cy a z345_v)) hD hS hAe0 (rng 0 204) hC
          refine va_calli (va_runV (As := [.int r325, .int 0]) (rest := []) ⟨hx, hb, hml, hown, hts⟩ (co_X6_ifDug l dC dI cy a _ z345_v r325 0 _ hq) (cwV 2 hts gL_holds_X6_ifDug rfl rfl rfl (by decide +kernel) ⟨Nat.le_of_ble_eq_true rfl, Nat.le_of_ble_eq_true rfl⟩) ⟨xPre_blindE, va_recv hK hPc (ci := 6) (q0 := 0) rfl rfl, xPre_ofE hPc hK hDc hE hS hFc⟩ rfl rfl hl.1 rfl (lv_room (Nat.le_of_ble_eq_true rfl)) dL_holds_355 ⟨Nat.le_of_ble_eq_true rfl, Nat.le_of_ble_eq_true rfl⟩) hS (fun q _ h => hFc q h) hFc (fun r355 z355_v t H locs ht hvm hq hB hz1 hk1 hS => ?_)
          obtain ⟨hP1, -, hD1⟩ := hB
          rw [ht] at hP1
          obtain ⟨hP, hD⟩ := xj hP hD (rng 0 204) (wX6 cy a z355_v) (ws' := (wX6 cy a z355_v ++ cAI cy d 64 z324_w ++ cAI cy g 64 z324_q)) hC wX6_fst (xS_left2 wX6_len wX6_len) hk1 hFc hP1
          obtain ⟨hqA, hqB⟩ := hq
          refine lv_if_le (tgt := 365) hx hb dL_holds_358 (by decide) (fun c10 => ?_) (fun c10 => ?_)
          · have hq := hqA c10
            exact J365 y324_3 y324_4 y324_5 z324_q z355_v z324_w  _ _ _ hq hP hD hS (lv_sub hl [1, 2, 3, 4] rfl)
          · have hq := hqB c10
            exact J361 y324_3 y324_4 y324_5 z324_q z355_v z324_w  _ _ _ hq hP hD hS (lv_sub hl [1, 2, 3, 4] rfl)
  have J117 : ∀ (y117_3 : Int32) (z117_q : (Nat → Int32)) (z117_w : (Nat → Int32)) (y117_4 : Int32) (y117_5 : Int32) (y117_6 : Int32) (y117_7 : Int32) (z117_v : V_X6) (H : Heap) (locs : List Loc) (ls : Array Slot), wp_L_holds_117 v y117_3 z117_q z117_w y117_4 y117_5 y117_6 y117_7 z117_v Q → va_P (dC, dI) vwCl (wX6 cy a z117_v ++ cAI cy d 64 z117_w ++ cAI cy g 64 z117_q) H → va_D A (wX6 cy a z117_v ++ cAI cy d 64 z117_w ++ cAI cy g 64 z117_q) → va_S A s.heap H locs → lv_has ls 13 [(0, .ref (a 0)), (1, .ref (d 0)), (2, .ref (g 0)), (3, .int y117_3), (4, .int y117_4), (5, .int y117_5), (6, .int y117_6), (7, .int y117_7)] → W p l e (headSpec wsL_holds ({ frames := 8, cells := 2, slots := 128, locals := 187 } : Room)).room s m ([.ref (a 0)] : List Value).toArray below meth c H locs 2 128 (MQ below (q_L_holds dC dI cy a v Q A) ([.ref (a 0)] : List Value).toArray s 2 128 A) (F0 m 117 ls []) := by
    intro y117_3 z117_q z117_w y117_4 y117_5 y117_6 y117_7 z117_v H locs ls hq hP hD hS hl
    obtain ⟨I117, μ117, h0, hs117⟩ := hq
    have key : ∀ (n : Nat) (y117_4 : Int32) (y117_5 : Int32) (y117_6 : Int32) (y117_7 : Int32) (z117_v : V_X6) (H : Heap) (locs : List Loc) (ls : Array Slot), I117 y117_4 y117_5 y117_6 y117_7 z117_v → μ117 y117_4 y117_5 y117_6 y117_7 z117_v < n → va_P (dC, dI) vwCl (wX6 cy a z117_v ++ cAI cy d 64 z117_w ++ cAI cy g 64 z117_q) H → va_D A (wX6 cy a z117_v ++ cAI cy d 64 z117_w ++ cAI cy g 64 z117_q) → va_S A s.heap H locs → lv_has ls 13 [(0, .ref (a 0)), (1, .ref (d 0)), (2, .ref (g 0)), (3, .int y117_3), (4, .int y117_4), (5, .int y117_5), (6, .int y117_6), (7, .int y117_7)] → W p l e (headSpec wsL_holds ({ frames := 8, cells := 2, slots := 128, locals := 187 } : Room)).room s m ([.ref (a 0)] : List Value).toArray below meth c H locs 2 128 (MQ below (q_L_holds dC dI cy a v Q A) ([.ref (a 0)] : List Value).toArray s 2 128 A) (F0 m 117 ls []) := by
      intro n
      induction n with
      | zero => intro y117_4 y117_5 y117_6 y117_7 z117_v H locs ls _ hm; exact absurd hm (Nat.not_lt_zero _)
      | succ n ih =>
        intro y117_4 y117_5 y117_6 y117_7 z117_v H locs ls hI hm hP hD hS hl
        have hq := hs117 y117_4 y117_5 y117_6 y117_7 z117_v hI
        generalize hB117 : (fun (t0 : Int32) (t1 : Int32) (t2 : Int32) (t3 : Int32) (t4 : V_X6) => I117 t0 t1 t2 t3 t4 ∧ μ117 t0 t1 t2 t3 t4 < μ117 y117_4 y117_5 y117_6 y117_7 z117_v) = B117 at hq
        have bk117 : ∀ (y117_4 : Int32) (y117_5 : Int32) (y117_6 : Int32) (y117_7 : Int32) (z117_v : V_X6) (H : Heap) (locs : List Loc) (ls : Array Slot), B117 y117_4 y117_5 y117_6 y117_7 z117_v → va_P (dC, dI) vwCl (wX6 cy a z117_v ++ cAI cy d 64 z117_w ++ cAI cy g 64 z117_q) H → va_D A (wX6 cy a z117_v ++ cAI cy d 64 z117_w ++ cAI cy g 64 z117_q) → va_S A s.heap H locs → lv_has ls 13 [(0, .ref (a 0)), (1, .ref (d 0)), (2, .ref (g 0)), (3, .int y117_3), (4, .int y117_4), (5, .int y117_5), (6, .int y117_6), (7, .int y117_7)] → W p l e (headSpec wsL_holds ({ frames := 8, cells := 2, slots := 128, locals := 187 } : Room)).room s m ([.ref (a 0)] : List Value).toArray below meth c H locs 2 128 (MQ below (q_L_holds dC dI cy a v Q A) ([.ref (a 0)] : List Value).toArray s 2 128 A) (F0 m 117 ls []) := by
          intro y117_4 y117_5 y117_6 y117_7 z117_v H locs ls h
          rw [← hB117] at h
          exact ih y117_4 y117_5 y117_6 y117_7 z117_v H locs ls h.1 (Nat.lt_of_lt_of_le h.2 (Nat.le_of_lt_succ hm))
        unfold wb_L_holds_117 at hq
        have J271 : ∀ (y271_4 : Int32) (y271_5 : Int32) (y271_8 : Int32) (y271_9 : Int32) (z271_v : V_X6) (H : Heap) (locs : List Loc) (ls : Array Slot), wp_L_holds_271 v y117_3 z117_q z117_w y117_4 y117_5 y117_6 y117_7 z117_v B117 y271_4 y271_5 y271_8 y271_9 z271_v Q → va_P (dC, dI) vwCl (wX6 cy a z271_v ++ cAI cy d 64 z117_w ++ cAI cy g 64 z117_q) H → va_D A (wX6 cy a z271_v ++ cAI cy d 64 z117_w ++ cAI cy g 64 z117_q) → va_S A s.heap H locs → lv_has ls 13 [(0, .ref (a 0)), (1, .ref (d 0)), (2, .ref (g 0)), (3, .int y117_3), (4, .int y271_4), (5, .int y271_5), (7, .int y117_7), (8, .int y271_8), (9, .int y271_9)] → W p l e (headSpec wsL_holds ({ frames := 8, cells := 2, slots := 128, locals := 187 } : Room)).room s m ([.ref (a 0)] : List Value).toArray below meth c H locs 2 128 (MQ below (q_L_holds dC dI cy a v Q A) ([.ref (a 0)] : List Value).toArray s 2 128 A) (F0 m 271 ls []) := by
          intro y271_4 y271_5 y271_8 y271_9 z271_v H locs ls hq hP hD hS hl
          unfold wp_L_holds_271 at hq
          refine lv_aload_n hx hb dL_holds_271 rfl (lv_at hl 0 rfl) ?_
          refine lv_iload hx hb dL_holds_272 (lv_at hl 6 rfl) ?_
          refine lv_iconst (v := 4) hx hb dL_holds_274 (by decide) ?_
          have hC : ((rng 0 204).map (fun i => (wX6 cy a z271_v ++ cAI cy d 64 z117_w ++ cAI cy g 64 z117_q)[i]?)) = (wX6 cy a z271_v).map some := xC_left2 wX6_len
          have hPc := xsubP hP hC
          have hDc := xsubD hD (rng_nd 204 0) hC
          have hFc := va_free (wc := (wX6 cy a z271_v)) hD hS hAe0 (rng 0 204) hC
          refine va_calli (va_runV (As := [.int y117_7, .int 4]) (rest := []) ⟨hx, hb, hml, hown, hts⟩ (co_X6_tuft l dC dI cy a _ z271_v y117_7 4 _ hq) (cwV 2 hts gL_holds_X6_tuft rfl rfl rfl (by decide +kernel) ⟨Nat.le_of_ble_eq_true rfl, Nat.le_of_ble_eq_true rfl⟩) ⟨xPre_blindE, va_recv hK hPc (ci := 6) (q0 := 0) rfl rfl, xPre_ofE hPc hK hDc hE hS hFc⟩ rfl rfl hl.1 rfl (lv_room (Nat.le_of_ble_eq_true rfl)) dL_holds_275 ⟨Nat.le_of_ble_eq_true rfl, Nat.le_of_ble_eq_true rfl⟩) hS (fun q _ h => hFc q h) hFc (fun r275 z275_v t H locs ht hvm hq hB hz1 hk1 hS => ?_)
          obtain ⟨hP1, -, hD1⟩ := hB
          rw [ht] at hP1
          obtain ⟨hP, hD⟩ := xj hP hD (rng 0 204) (wX6 cy a z275_v) (ws' := (wX6 cy a z275_v ++ cAI cy d 64 z117_w ++ cAI cy g 64 z117_q)) hC wX6_fst (xS_left2 wX6_len wX6_len) hk1 hFc hP1
          refine lv_iload hx hb dL_holds_278 (lv_at hl 8 rfl) ?_
          obtain ⟨hqA, hqB⟩ := hq
          refine lv_icmp_ne (tgt := 315) hx hb dL_holds_280 (by decide) (fun c18 => ?_) (fun c18 => ?_)
          · have hq := hqB c18
            refine lv_iconst (v := 0) hx hb dL_holds_315 (by decide) ?_
            refine lv_istore (lv' := [(6, .int 0), (0, .ref (a 0)), (1, .ref (d 0)), (2, .ref (g 0)), (3, .int y117_3), (4, .int y271_4), (5, .int y271_5), (7, .int y117_7), (8, .int y271_8), (9, .int y271_9)]) hx hb dL_holds_316 hl (by decide) rfl (fun ls hl => ?_)
            refine lv_iinc (v := (y117_7 + 1)) (lv' := [(7, .int (y117_7 + 1)), (6, .int 0), (0, .ref (a 0)), (1, .ref (d 0)), (2, .ref (g 0)), (3, .int y117_3), (4, .int y271_4), (5, .int y271_5), (8, .int y271_8), (9, .int y271_9)]) hx hb dL_holds_318 hl (k := 7) rfl rfl (by decide) rfl (fun ls hl => ?_)
            refine lv_goto (tgt := 117) hx hb dL_holds_321 (by decide) ?_
            exact bk117 y271_4 y271_5 0 (y117_7 + 1) z275_v _ _ _ hq hP hD hS (lv_sub hl [2, 3, 4, 5, 6, 7, 1, 0] rfl)
          · have hq := hqA c18
            refine lv_iload hx hb dL_holds_283 (lv_at hl 7 rfl) ?_
            refine lv_iconst (v := (-1)) hx hb dL_holds_285 (by decide) ?_
            obtain ⟨hqA, hqB⟩ := hq
            refine lv_icmp_ne (tgt := 302) hx hb dL_holds_286 (by decide) (fun c17 => ?_) (fun c17 => ?_)
            · have hq := hqB c17
              refine lv_iload hx hb dL_holds_302 (lv_at hl 7 rfl) ?_
              refine lv_aload_n hx hb dL_holds_304 rfl (lv_at hl 2 rfl) ?_
              refine lv_iload hx hb dL_holds_305 (lv_at hl 6 rfl) ?_
              obtain ⟨g14, hq⟩ := hq
              refine va_iald hx hb hK hP 205 0 rfl rfl g14 dL_holds_307 ?_
              obtain ⟨hqA, hqB⟩ := hq
              refine lv_icmp_ne (tgt := 315) hx hb dL_holds_308 (by decide) (fun c15 => ?_) (fun c15 => ?_)
              · have hq := hqB c15
                refine lv_iconst (v := 0) hx hb dL_holds_315 (by decide) ?_
                refine lv_istore (lv' := [(6, .int 0), (0, .ref (a 0)), (1, .ref (d 0)), (2, .ref (g 0)), (3, .int y117_3), (4, .int y271_4), (5, .int y271_5), (7, .int y117_7), (8, .int y271_8), (9, .int y271_9)]) hx hb dL_holds_316 hl (by decide) rfl (fun ls hl => ?_)
                refine lv_iinc (v := (y117_7 + 1)) (lv' := [(7, .int (y117_7 + 1)), (6, .int 0), (0, .ref (a 0)), (1, .ref (d 0)), (2, .ref (g 0)), (3, .int y117_3), (4, .int y271_4), (5, .int y271_5), (8, .int y271_8), (9, .int y271_9)]) hx hb dL_holds_318 hl (k := 7) rfl rfl (by decide) rfl (fun ls hl => ?_)
                refine lv_goto (tgt := 117) hx hb dL_holds_321 (by decide) ?_
                exact bk117 y271_4 y271_5 0 (y117_7 + 1) z275_v _ _ _ hq hP hD hS (lv_sub hl [2, 3, 4, 5, 6, 7, 1, 0] rfl)
              · have hq := hqA c15
                refine lv_iconst (v := 1) hx hb dL_holds_311 (by decide) ?_
                refine lv_goto (tgt := 316) hx hb dL_holds_312 (by decide) ?_
                refine lv_istore (lv' := [(6, .int 1), (0, .ref (a 0)), (1, .ref (d 0)), (2, .ref (g 0)), (3, .int y117_3), (4, .int y271_4), (5, .int y271_5), (7, .int y117_7), (8, .int y271_8), (9, .int y271_9)]) hx hb dL_holds_316 hl (by decide) rfl (fun ls hl => ?_)
                refine lv_iinc (v := (y117_7 + 1)) (lv' := [(7, .int (y117_7 + 1)), (6, .int 1), (0, .ref (a 0)), (1, .ref (d 0)), (2, .ref (g 0)), (3, .int y117_3), (4, .int y271_4), (5, .int y271_5), (8, .int y271_8), (9, .int y271_9)]) hx hb dL_holds_318 hl (k := 7) rfl rfl (by decide) rfl (fun ls hl => ?_)
                refine lv_goto (tgt := 117) hx hb dL_holds_321 (by decide) ?_
                exact bk117 y271_4 y271_5 1 (y117_7 + 1) z275_v _ _ _ hq hP hD hS (lv_sub hl [2, 3, 4, 5, 6, 7, 1, 0] rfl)
            · have hq := hqA c17
              refine lv_aload_n hx hb dL_holds_289 rfl (lv_at hl 0 rfl) ?_
              refine lv_iload hx hb dL_holds_290 (lv_at hl 6 rfl) ?_
              refine lv_iconst (v := 5) hx hb dL_holds_292 (by decide) ?_
              have hC : ((rng 0 204).map (fun i => (wX6 cy a z275_v ++ cAI cy d 64 z117_w ++ cAI cy g 64 z117_q)[i]?)) = (wX6 cy a z275_v).map some := xC_left2 wX6_len
              have hPc := xsubP hP hC
              have hDc := xsubD hD (rng_nd 204 0) hC
              have hFc := va_free (wc := (wX6 cy a z275_v)) hD hS hAe0 (rng 0 204) hC
              refine va_calli (va_runV (As := [.int y117_7, .int 5]) (rest := []) ⟨hx, hb, hml, hown, hts⟩ (co_X6_tuft l dC dI cy a _ z275_v y117_7 5 _ hq) (cwV 2 hts gL_holds_X6_tuft rfl rfl rfl (by decide +kernel) ⟨Nat.le_of_ble_eq_true rfl, Nat.le_of_ble_eq_true rfl⟩) ⟨xPre_blindE, va_recv hK hPc (ci := 6) (q0 := 0) rfl rfl, xPre_ofE hPc hK hDc hE hS hFc⟩ rfl rfl hl.1 rfl (lv_room (Nat.le_of_ble_eq_true rfl)) dL_holds_293 ⟨Nat.le_of_ble_eq_true rfl, Nat.le_of_ble_eq_true rfl⟩) hS (fun q _ h => hFc q h) hFc (fun r293 z293_v t H locs ht hvm hq hB hz1 hk1 hS => ?_)
              obtain ⟨hP1, -, hD1⟩ := hB
              rw [ht] at hP1
              obtain ⟨hP, hD⟩ := xj hP hD (rng 0 204) (wX6 cy a z293_v) (ws' := (wX6 cy a z293_v ++ cAI cy d 64 z117_w ++ cAI cy g 64 z117_q)) hC wX6_fst (xS_left2 wX6_len wX6_len) hk1 hFc hP1
              obtain ⟨hqA, hqB⟩ := hq
              refine lv_if_ne (tgt := 315) hx hb dL_holds_296 (by decide) (fun c16 => ?_) (fun c16 => ?_)
              · have hq := hqB c16
                refine lv_iconst (v := 0) hx hb dL_holds_315 (by decide) ?_
                refine lv_istore (lv' := [(6, .int 0), (0, .ref (a 0)), (1, .ref (d 0)), (2, .ref (g 0)), (3, .int y117_3), (4, .int y271_4), (5, .int y271_5), (7, .int y117_7), (8, .int y271_8), (9, .int y271_9)]) hx hb dL_holds_316 hl (by decide) rfl (fun ls hl => ?_)
                refine lv_iinc (v := (y117_7 + 1)) (lv' := [(7, .int (y117_7 + 1)), (6, .int 0), (0, .ref (a 0)), (1, .ref (d 0)), (2, .ref (g 0)), (3, .int y117_3), (4, .int y271_4), (5, .int y271_5), (8, .int y271_8), (9, .int y271_9)]) hx hb dL_holds_318 hl (k := 7) rfl rfl (by decide) rfl (fun ls hl => ?_)
                refine lv_goto (tgt := 117) hx hb dL_holds_321 (by decide) ?_
                exact bk117 y271_4 y271_5 0 (y117_7 + 1) z293_v _ _ _ hq hP hD hS (lv_sub hl [2, 3, 4, 5, 6, 7, 1, 0] rfl)
              · have hq := hqA c16
                refine lv_goto (tgt := 311) hx hb dL_holds_299 (by decide) ?_
                refine lv_iconst (v := 1) hx hb dL_holds_311 (by decide) ?_
                refine lv_goto (tgt := 316) hx hb dL_holds_312 (by decide) ?_
                refine lv_istore (lv' := [(6, .int 1), (0, .ref (a 0)), (1, .ref (d 0)), (2, .ref (g 0)), (3, .int y117_3), (4, .int y271_4), (5, .int y271_5), (7, .int y117_7), (8, .int y271_8), (9, .int y271_9)]) hx hb dL_holds_316 hl (by decide) rfl (fun ls hl => ?_)
                refine lv_iinc (v := (y117_7 + 1)) (lv' := [(7, .int (y117_7 + 1)), (6, .int 1), (0, .ref (a 0)), (1, .ref (d 0)), (2, .ref (g 0)), (3, .int y117_3), (4, .int y271_4), (5, .int y271_5), (8, .int y271_8), (9, .int y271_9)]) hx hb dL_holds_318 hl (k := 7) rfl rfl (by decide) rfl (fun ls hl => ?_)
                refine lv_goto (tgt := 117) hx hb dL_holds_321 (by decide) ?_
                exact bk117 y271_4 y271_5 1 (y117_7 + 1) z293_v _ _ _ hq hP hD hS (lv_sub hl [2, 3, 4, 5, 6, 7, 1, 0] rfl)
        have J145 : ∀ (y145_8 : Int32) (z145_v : V_X6) (y145_9 : Int32) (y145_10 : Int32) (H : Heap) (locs : List Loc) (ls : Array Slot), wp_L_holds_145 v y117_3 z117_q z117_w y117_4 y117_5 y117_6 y117_7 z117_v B117 y145_8 z145_v y145_9 y145_10 Q → va_P (dC, dI) vwCl (wX6 cy a z145_v ++ cAI cy d 64 z117_w ++ cAI cy g 64 z117_q) H → va_D A (wX6 cy a z145_v ++ cAI cy d 64 z117_w ++ cAI cy g 64 z117_q) → va_S A s.heap H locs → lv_has ls 13 [(0, .ref (a 0)), (1, .ref (d 0)), (2, .ref (g 0)), (3, .int y117_3), (4, .int y117_4), (5, .int y117_5), (7, .int y117_7), (8, .int y145_8), (9, .int y145_9), (10, .int y145_10)] → W p l e (headSpec wsL_holds ({ frames := 8, cells := 2, slots := 128, locals := 187 } : Room)).room s m ([.ref (a 0)] : List Value).toArray below meth c H locs 2 128 (MQ below (q_L_holds dC dI cy a v Q A) ([.ref (a 0)] : List Value).toArray s 2 128 A) (F0 m 145 ls []) := by
          intro y145_8 z145_v y145_9 y145_10 H locs ls hq hP hD hS hl
          obtain ⟨I145, μ145, h0, hs145⟩ := hq
          have key : ∀ (n : Nat) (y145_9 : Int32) (y145_10 : Int32) (H : Heap) (locs : List Loc) (ls : Array Slot), I145 y145_9 y145_10 → μ145 y145_9 y145_10 < n → va_P (dC, dI) vwCl (wX6 cy a z145_v ++ cAI cy d 64 z117_w ++ cAI cy g 64 z117_q) H → va_D A (wX6 cy a z145_v ++ cAI cy d 64 z117_w ++ cAI cy g 64 z117_q) → va_S A s.heap H locs → lv_has ls 13 [(0, .ref (a 0)), (1, .ref (d 0)), (2, .ref (g 0)), (3, .int y117_3), (4, .int y117_4), (5, .int y117_5), (7, .int y117_7), (8, .int y145_8), (9, .int y145_9), (10, .int y145_10)] → W p l e (headSpec wsL_holds ({ frames := 8, cells := 2, slots := 128, locals := 187 } : Room)).room s m ([.ref (a 0)] : List Value).toArray below meth c H locs 2 128 (MQ below (q_L_holds dC dI cy a v Q A) ([.ref (a 0)] : List Value).toArray s 2 128 A) (F0 m 145 ls []) := by
            intro n
            induction n with
            | zero => intro y145_9 y145_10 H locs ls _ hm; exact absurd hm (Nat.not_lt_zero _)
            | succ n ih =>
              intro y145_9 y145_10 H locs ls hI hm hP hD hS hl
              have hq := hs145 y145_9 y145_10 hI
              generalize hB145 : (fun (t0 : Int32) (t1 : Int32) => I145 t0 t1 ∧ μ145 t0 t1 < μ145 y145_9 y145_10) = B145 at hq
              have bk145 : ∀ (y145_9 : Int32) (y145_10 : Int32) (H : Heap) (locs : List Loc) (ls : Array Slot), B145 y145_9 y145_10 → va_P (dC, dI) vwCl (wX6 cy a z145_v ++ cAI cy d 64 z117_w ++ cAI cy g 64 z117_q) H → va_D A (wX6 cy a z145_v ++ cAI cy d 64 z117_w ++ cAI cy g 64 z117_q) → va_S A s.heap H locs → lv_has ls 13 [(0, .ref (a 0)), (1, .ref (d 0)), (2, .ref (g 0)), (3, .int y117_3), (4, .int y117_4), (5, .int y117_5), (7, .int y117_7), (8, .int y145_8), (9, .int y145_9), (10, .int y145_10)] → W p l e (headSpec wsL_holds ({ frames := 8, cells := 2, slots := 128, locals := 187 } : Room)).room s m ([.ref (a 0)] : List Value).toArray below meth c H locs 2 128 (MQ below (q_L_holds dC dI cy a v Q A) ([.ref (a 0)] : List Value).toArray s 2 128 A) (F0 m 145 ls []) := by
                intro y145_9 y145_10 H locs ls h
                rw [← hB145] at h
                exact ih y145_9 y145_10 H locs ls h.1 (Nat.lt_of_lt_of_le h.2 (Nat.le_of_lt_succ hm))
              unfold wb_L_holds_145 at hq
              refine lv_iload hx hb dL_holds_145 (lv_at hl 9 rfl) ?_
              refine lv_bipush (v := 9) hx hb dL_holds_147 (by decide) ?_
              obtain ⟨hqA, hqB⟩ := hq
              refine lv_icmp_ge (tgt := 235) hx hb dL_holds_149 (by decide) (fun c28 => ?_) (fun c28 => ?_)
              · have hq := hqA c28
                refine lv_iload hx hb dL_holds_235 (lv_at hl 4 rfl) ?_
                refine lv_aload_n hx hb dL_holds_237 rfl (lv_at hl 2 rfl) ?_
                refine lv_iload hx hb dL_holds_238 (lv_at hl 6 rfl) ?_
                obtain ⟨g19, hq⟩ := hq
                refine va_iald hx hb hK hP 205 0 rfl rfl g19 dL_holds_240 ?_
                refine lv_iadd hx hb dL_holds_241 ?_
                refine lv_istore (lv' := [(4, .int (y117_4 + (z117_q y117_7.toNatClampNeg))), (0, .ref (a 0)), (1, .ref (d 0)), (2, .ref (g 0)), (3, .int y117_3), (5, .int y117_5), (7, .int y117_7), (8, .int y145_8), (9, .int y145_9), (10, .int y145_10)]) hx hb dL_holds_242 hl (by decide) rfl (fun ls hl => ?_)
                refine lv_iload hx hb dL_holds_244 (lv_at hl 5 rfl) ?_
                refine lv_aload_n hx hb dL_holds_246 rfl (lv_at hl 1 rfl) ?_
                refine lv_iload hx hb dL_holds_247 (lv_at hl 6 rfl) ?_
                refine lv_iconst (v := 0) hx hb dL_holds_249 (by decide) ?_
                have hC : ((rng 0 204).map (fun i => (wX6 cy a z145_v ++ cAI cy d 64 z117_w ++ cAI cy g 64 z117_q)[i]?)) = (wX6 cy a z145_v).map some := xC_left2 wX6_len
                have hPc := xsubP hP hC
                have hDc := xsubD hD (rng_nd 204 0) hC
                have hFc := va_free (wc := (wX6 cy a z145_v)) hD hS hAe0 (rng 0 204) hC
                refine va_calli (va_runV (As := [.int y117_7, .int 0]) (rest := [.int y117_5]) ⟨hx, hb, hml, hown, hts⟩ (co_X6_tuft l dC dI cy a _ z145_v y117_7 0 _ hq) (cwV 2 hts gL_holds_X6_tuft rfl rfl rfl (by decide +kernel) ⟨Nat.le_of_ble_eq_true rfl, Nat.le_of_ble_eq_true rfl⟩) ⟨xPre_blindE, va_recv hK hPc (ci := 6) (q0 := 0) rfl rfl, xPre_ofE hPc hK hDc hE hS hFc⟩ rfl rfl hl.1 rfl (lv_room (Nat.le_of_ble_eq_true rfl)) dL_holds_250 ⟨Nat.le_of_ble_eq_true rfl, Nat.le_of_ble_eq_true rfl⟩) hS (fun q _ h => hFc q h) hFc (fun r250 z250_v t H locs ht hvm hq hB hz1 hk1 hS => ?_)
                obtain ⟨hP1, -, hD1⟩ := hB
                rw [ht] at hP1
                obtain ⟨hP, hD⟩ := xj hP hD (rng 0 204) (wX6 cy a z250_v) (ws' := (wX6 cy a z250_v ++ cAI cy d 64 z117_w ++ cAI cy g 64 z117_q)) hC wX6_fst (xS_left2 wX6_len wX6_len) hk1 hFc hP1
                refine lv_iadd hx hb dL_holds_253 ?_
                refine lv_istore (lv' := [(5, .int (y117_5 + r250)), (4, .int (y117_4 + (z117_q y117_7.toNatClampNeg))), (0, .ref (a 0)), (1, .ref (d 0)), (2, .ref (g 0)), (3, .int y117_3), (7, .int y117_7), (8, .int y145_8), (9, .int y145_9), (10, .int y145_10)]) hx hb dL_holds_254 hl (by decide) rfl (fun ls hl => ?_)
                refine lv_aload_n hx hb dL_holds_256 rfl (lv_at hl 3 rfl) ?_
                refine lv_iload hx hb dL_holds_257 (lv_at hl 6 rfl) ?_
                refine va_iald hx hb hK hP 204 0 rfl rfl g19 dL_holds_259 ?_
                obtain ⟨hqA, hqB⟩ := hq
                refine lv_if_eq (tgt := 271) hx hb dL_holds_260 (by decide) (fun c21 => ?_) (fun c21 => ?_)
                · have hq := hqA c21
                  exact J271 (y117_4 + (z117_q y117_7.toNatClampNeg)) (y117_5 + r250) y145_8 y145_9 z250_v  _ _ _ hq hP hD hS (lv_sub hl [2, 3, 4, 5, 1, 0, 6, 7, 8] rfl)
                · have hq := hqB c21
                  refine lv_aload_n hx hb dL_holds_263 rfl (lv_at hl 4 rfl) ?_
                  refine lv_iload hx hb dL_holds_264 (lv_at hl 6 rfl) ?_
                  refine va_iald hx hb hK hP 205 0 rfl rfl g19 dL_holds_266 ?_
                  refine lv_iconst (v := 1) hx hb dL_holds_267 (by decide) ?_
                  obtain ⟨hqA, hqB⟩ := hq
                  refine lv_icmp_ne (tgt := 315) hx hb dL_holds_268 (by decide) (fun c20 => ?_) (fun c20 => ?_)
                  · have hq := hqB c20
                    refine lv_iconst (v := 0) hx hb dL_holds_315 (by decide) ?_
                    refine lv_istore (lv' := [(6, .int 0), (5, .int (y117_5 + r250)), (4, .int (y117_4 + (z117_q y117_7.toNatClampNeg))), (0, .ref (a 0)), (1, .ref (d 0)), (2, .ref (g 0)), (3, .int y117_3), (7, .int y117_7), (8, .int y145_8), (9, .int y145_9), (10, .int y145_10)]) hx hb dL_holds_316 hl (by decide) rfl (fun ls hl => ?_)
                    refine lv_iinc (v := (y117_7 + 1)) (lv' := [(7, .int (y117_7 + 1)), (6, .int 0), (5, .int (y117_5 + r250)), (4, .int (y117_4 + (z117_q y117_7.toNatClampNeg))), (0, .ref (a 0)), (1, .ref (d 0)), (2, .ref (g 0)), (3, .int y117_3), (8, .int y145_8), (9, .int y145_9), (10, .int y145_10)]) hx hb dL_holds_318 hl (k := 7) rfl rfl (by decide) rfl (fun ls hl => ?_)
                    refine lv_goto (tgt := 117) hx hb dL_holds_321 (by decide) ?_
                    exact bk117 (y117_4 + (z117_q y117_7.toNatClampNeg)) (y117_5 + r250) 0 (y117_7 + 1) z250_v _ _ _ hq hP hD hS (lv_sub hl [4, 5, 6, 7, 3, 2, 1, 0] rfl)
                  · have hq := hqA c20
                    exact J271 (y117_4 + (z117_q y117_7.toNatClampNeg)) (y117_5 + r250) y145_8 y145_9 z250_v  _ _ _ hq hP hD hS (lv_sub hl [2, 3, 4, 5, 1, 0, 6, 7, 8] rfl)
              · have hq := hqB c28
                refine lv_iload hx hb dL_holds_152 (lv_at hl 6 rfl) ?_
                refine lv_bipush (v := 8) hx hb dL_holds_154 (by decide) ?_
                refine lv_idiv hx hb dL_holds_156 (by decide) ?_
                refine lv_iload hx hb dL_holds_157 (lv_at hl 9 rfl) ?_
                refine lv_iconst (v := 3) hx hb dL_holds_159 (by decide) ?_
                refine lv_idiv hx hb dL_holds_160 (by decide) ?_
                refine lv_iadd hx hb dL_holds_161 ?_
                refine lv_iconst (v := 1) hx hb dL_holds_162 (by decide) ?_
                refine lv_isub hx hb dL_holds_163 ?_
                refine lv_istore (lv' := [(11, .int (((y117_7 / 8) + (y145_10 / 3)) - 1)), (0, .ref (a 0)), (1, .ref (d 0)), (2, .ref (g 0)), (3, .int y117_3), (4, .int y117_4), (5, .int y117_5), (7, .int y117_7), (8, .int y145_8), (9, .int y145_9), (10, .int y145_10)]) hx hb dL_holds_164 hl (by decide) rfl (fun ls hl => ?_)
                refine lv_iload hx hb dL_holds_166 (lv_at hl 7 rfl) ?_
                refine lv_bipush (v := 8) hx hb dL_holds_168 (by decide) ?_
                refine lv_irem hx hb dL_holds_170 (by decide) ?_
                refine lv_iload hx hb dL_holds_171 (lv_at hl 10 rfl) ?_
                refine lv_iconst (v := 3) hx hb dL_holds_173 (by decide) ?_
                refine lv_irem hx hb dL_holds_174 (by decide) ?_
                refine lv_iadd hx hb dL_holds_175 ?_
                refine lv_iconst (v := 1) hx hb dL_holds_176 (by decide) ?_
                refine lv_isub hx hb dL_holds_177 ?_
                refine lv_istore (lv' := [(12, .int (((y117_7 - y117_7 / 8 * 8) + (y145_10 - y145_10 / 3 * 3)) - 1)), (11, .int (((y117_7 / 8) + (y145_10 / 3)) - 1)), (0, .ref (a 0)), (1, .ref (d 0)), (2, .ref (g 0)), (3, .int y117_3), (4, .int y117_4), (5, .int y117_5), (7, .int y117_7), (8, .int y145_8), (9, .int y145_9), (10, .int y145_10)]) hx hb dL_holds_178 hl (by decide) rfl (fun ls hl => ?_)
                refine lv_iload hx hb dL_holds_180 (lv_at hl 10 rfl) ?_
                refine lv_iload hx hb dL_holds_182 (lv_at hl 11 rfl) ?_
                refine lv_iconst (v := 4) hx hb dL_holds_184 (by decide) ?_
                obtain ⟨hqA, hqB⟩ := hq
                refine lv_icmp_eq (tgt := 225) hx hb dL_holds_185 (by decide) (fun c27 => ?_) (fun c27 => ?_)
                · have hq := hqA c27
                  refine lv_iconst (v := 0) hx hb dL_holds_225 (by decide) ?_
                  refine lv_iadd hx hb dL_holds_226 ?_
                  refine lv_istore (lv' := [(9, .int (y145_9 + 0)), (12, .int (((y117_7 - y117_7 / 8 * 8) + (y145_10 - y145_10 / 3 * 3)) - 1)), (11, .int (((y117_7 / 8) + (y145_10 / 3)) - 1)), (0, .ref (a 0)), (1, .ref (d 0)), (2, .ref (g 0)), (3, .int y117_3), (4, .int y117_4), (5, .int y117_5), (7, .int y117_7), (8, .int y145_8), (10, .int y145_10)]) hx hb dL_holds_227 hl (by decide) rfl (fun ls hl => ?_)
                  refine lv_iinc (v := (y145_10 + 1)) (lv' := [(10, .int (y145_10 + 1)), (9, .int (y145_9 + 0)), (12, .int (((y117_7 - y117_7 / 8 * 8) + (y145_10 - y145_10 / 3 * 3)) - 1)), (11, .int (((y117_7 / 8) + (y145_10 / 3)) - 1)), (0, .ref (a 0)), (1, .ref (d 0)), (2, .ref (g 0)), (3, .int y117_3), (4, .int y117_4), (5, .int y117_5), (7, .int y117_7), (8, .int y145_8)]) hx hb dL_holds_229 hl (k := 11) rfl rfl (by decide) rfl (fun ls hl => ?_)
                  refine lv_goto (tgt := 145) hx hb dL_holds_232 (by decide) ?_
                  exact bk145 (y145_9 + 0) (y145_10 + 1) _ _ _ hq hP hD hS (lv_sub hl [4, 5, 6, 7, 8, 9, 10, 11, 1, 0] rfl)
                · have hq := hqB c27
                  refine lv_iload hx hb dL_holds_188 (lv_at hl 1 rfl) ?_
                  obtain ⟨hqA, hqB⟩ := hq
                  refine lv_if_lt (tgt := 225) hx hb dL_holds_190 (by decide) (fun c26 => ?_) (fun c26 => ?_)
                  · have hq := hqA c26
                    refine lv_iconst (v := 0) hx hb dL_holds_225 (by decide) ?_
                    refine lv_iadd hx hb dL_holds_226 ?_
                    refine lv_istore (lv' := [(9, .int (y145_9 + 0)), (12, .int (((y117_7 - y117_7 / 8 * 8) + (y145_10 - y145_10 / 3 * 3)) - 1)), (11, .int (((y117_7 / 8) + (y145_10 / 3)) - 1)), (0, .ref (a 0)), (1, .ref (d 0)), (2, .ref (g 0)), (3, .int y117_3), (4, .int y117_4), (5, .int y117_5), (7, .int y117_7), (8, .int y145_8), (10, .int y145_10)]) hx hb dL_holds_227 hl (by decide) rfl (fun ls hl => ?_)
                    refine lv_iinc (v := (y145_10 + 1)) (lv' := [(10, .int (y145_10 + 1)), (9, .int (y145_9 + 0)), (12, .int (((y117_7 - y117_7 / 8 * 8) + (y145_10 - y145_10 / 3 * 3)) - 1)), (11, .int (((y117_7 / 8) + (y145_10 / 3)) - 1)), (0, .ref (a 0)), (1, .ref (d 0)), (2, .ref (g 0)), (3, .int y117_3), (4, .int y117_4), (5, .int y117_5), (7, .int y117_7), (8, .int y145_8)]) hx hb dL_holds_229 hl (k := 11) rfl rfl (by decide) rfl (fun ls hl => ?_)
                    refine lv_goto (tgt := 145) hx hb dL_holds_232 (by decide) ?_
                    exact bk145 (y145_9 + 0) (y145_10 + 1) _ _ _ hq hP hD hS (lv_sub hl [4, 5, 6, 7, 8, 9, 10, 11, 1, 0] rfl)
                  · have hq := hqB c26
                    refine lv_iload hx hb dL_holds_193 (lv_at hl 1 rfl) ?_
                    refine lv_bipush (v := 8) hx hb dL_holds_195 (by decide) ?_
                    obtain ⟨hqA, hqB⟩ := hq
                    refine lv_icmp_ge (tgt := 225) hx hb dL_holds_197 (by decide) (fun c25 => ?_) (fun c25 => ?_)
                    · have hq := hqA c25
                      refine lv_iconst (v := 0) hx hb dL_holds_225 (by decide) ?_
                      refine lv_iadd hx hb dL_holds_226 ?_
                      refine lv_istore (lv' := [(9, .int (y145_9 + 0)), (12, .int (((y117_7 - y117_7 / 8 * 8) + (y145_10 - y145_10 / 3 * 3)) - 1)), (11, .int (((y117_7 / 8) + (y145_10 / 3)) - 1)), (0, .ref (a 0)), (1, .ref (d 0)), (2, .ref (g 0)), (3, .int y117_3), (4, .int y117_4), (5, .int y117_5), (7, .int y117_7), (8, .int y145_8), (10, .int y145_10)]) hx hb dL_holds_227 hl (by decide) rfl (fun ls hl => ?_)
                      refine lv_iinc (v := (y145_10 + 1)) (lv' := [(10, .int (y145_10 + 1)), (9, .int (y145_9 + 0)), (12, .int (((y117_7 - y117_7 / 8 * 8) + (y145_10 - y145_10 / 3 * 3)) - 1)), (11, .int (((y117_7 / 8) + (y145_10 / 3)) - 1)), (0, .ref (a 0)), (1, .ref (d 0)), (2, .ref (g 0)), (3, .int y117_3), (4, .int y117_4), (5, .int y117_5), (7, .int y117_7), (8, .int y145_8)]) hx hb dL_holds_229 hl (k := 11) rfl rfl (by decide) rfl (fun ls hl => ?_)
                      refine lv_goto (tgt := 145) hx hb dL_holds_232 (by decide) ?_
                      exact bk145 (y145_9 + 0) (y145_10 + 1) _ _ _ hq hP hD hS (lv_sub hl [4, 5, 6, 7, 8, 9, 10, 11, 1, 0] rfl)
                    · have hq := hqB c25
                      refine lv_iload hx hb dL_holds_200 (lv_at hl 0 rfl) ?_
                      obtain ⟨hqA, hqB⟩ := hq
                      refine lv_if_lt (tgt := 225) hx hb dL_holds_202 (by decide) (fun c24 => ?_) (fun c24 => ?_)
                      · have hq := hqA c24
                        refine lv_iconst (v := 0) hx hb dL_holds_225 (by decide) ?_
                        refine lv_iadd hx hb dL_holds_226 ?_
                        refine lv_istore (lv' := [(9, .int (y145_9 + 0)), (12, .int (((y117_7 - y117_7 / 8 * 8) + (y145_10 - y145_10 / 3 * 3)) - 1)), (11, .int (((y117_7 / 8) + (y145_10 / 3)) - 1)), (0, .ref (a 0)), (1, .ref (d 0)), (2, .ref (g 0)), (3, .int y117_3), (4, .int y117_4), (5, .int y117_5), (7, .int y117_7), (8, .int y145_8), (10, .int y145_10)]) hx hb dL_holds_227 hl (by decide) rfl (fun ls hl => ?_)
                        refine lv_iinc (v := (y145_10 + 1)) (lv' := [(10, .int (y145_10 + 1)), (9, .int (y145_9 + 0)), (12, .int (((y117_7 - y117_7 / 8 * 8) + (y145_10 - y145_10 / 3 * 3)) - 1)), (11, .int (((y117_7 / 8) + (y145_10 / 3)) - 1)), (0, .ref (a 0)), (1, .ref (d 0)), (2, .ref (g 0)), (3, .int y117_3), (4, .int y117_4), (5, .int y117_5), (7, .int y117_7), (8, .int y145_8)]) hx hb dL_holds_229 hl (k := 11) rfl rfl (by decide) rfl (fun ls hl => ?_)
                        refine lv_goto (tgt := 145) hx hb dL_holds_232 (by decide) ?_
                        exact bk145 (y145_9 + 0) (y145_10 + 1) _ _ _ hq hP hD hS (lv_sub hl [4, 5, 6, 7, 8, 9, 10, 11, 1, 0] rfl)
                      · have hq := hqB c24
                        refine lv_iload hx hb dL_holds_205 (lv_at hl 0 rfl) ?_
                        refine lv_bipush (v := 8) hx hb dL_holds_207 (by decide) ?_
                        obtain ⟨hqA, hqB⟩ := hq
                        refine lv_icmp_ge (tgt := 225) hx hb dL_holds_209 (by decide) (fun c23 => ?_) (fun c23 => ?_)
                        · have hq := hqA c23
                          refine lv_iconst (v := 0) hx hb dL_holds_225 (by decide) ?_
                          refine lv_iadd hx hb dL_holds_226 ?_
                          refine lv_istore (lv' := [(9, .int (y145_9 + 0)), (12, .int (((y117_7 - y117_7 / 8 * 8) + (y145_10 - y145_10 / 3 * 3)) - 1)), (11, .int (((y117_7 / 8) + (y145_10 / 3)) - 1)), (0, .ref (a 0)), (1, .ref (d 0)), (2, .ref (g 0)), (3, .int y117_3), (4, .int y117_4), (5, .int y117_5), (7, .int y117_7), (8, .int y145_8), (10, .int y145_10)]) hx hb dL_holds_227 hl (by decide) rfl (fun ls hl => ?_)
                          refine lv_iinc (v := (y145_10 + 1)) (lv' := [(10, .int (y145_10 + 1)), (9, .int (y145_9 + 0)), (12, .int (((y117_7 - y117_7 / 8 * 8) + (y145_10 - y145_10 / 3 * 3)) - 1)), (11, .int (((y117_7 / 8) + (y145_10 / 3)) - 1)), (0, .ref (a 0)), (1, .ref (d 0)), (2, .ref (g 0)), (3, .int y117_3), (4, .int y117_4), (5, .int y117_5), (7, .int y117_7), (8, .int y145_8)]) hx hb dL_holds_229 hl (k := 11) rfl rfl (by decide) rfl (fun ls hl => ?_)
                          refine lv_goto (tgt := 145) hx hb dL_holds_232 (by decide) ?_
                          exact bk145 (y145_9 + 0) (y145_10 + 1) _ _ _ hq hP hD hS (lv_sub hl [4, 5, 6, 7, 8, 9, 10, 11, 1, 0] rfl)
                        · have hq := hqB c23
                          refine lv_aload_n hx hb dL_holds_212 rfl (lv_at hl 4 rfl) ?_
                          refine lv_bipush (v := 8) hx hb dL_holds_213 (by decide) ?_
                          refine lv_iload hx hb dL_holds_215 (lv_at hl 1 rfl) ?_
                          refine lv_imul hx hb dL_holds_217 ?_
                          refine lv_iload hx hb dL_holds_218 (lv_at hl 0 rfl) ?_
                          refine lv_iadd hx hb dL_holds_220 ?_
                          obtain ⟨g22, hq⟩ := hq
                          refine va_iald hx hb hK hP 205 0 rfl rfl g22 dL_holds_221 ?_
                          refine lv_goto (tgt := 226) hx hb dL_holds_222 (by decide) ?_
                          refine lv_iadd hx hb dL_holds_226 ?_
                          refine lv_istore (lv' := [(9, .int (y145_9 + (z117_q ((8 * (((y117_7 / 8) + (y145_10 / 3)) - 1)) + (((y117_7 - y117_7 / 8 * 8) + (y145_10 - y145_10 / 3 * 3)) - 1)).toNatClampNeg))), (12, .int (((y117_7 - y117_7 / 8 * 8) + (y145_10 - y145_10 / 3 * 3)) - 1)), (11, .int (((y117_7 / 8) + (y145_10 / 3)) - 1)), (0, .ref (a 0)), (1, .ref (d 0)), (2, .ref (g 0)), (3, .int y117_3), (4, .int y117_4), (5, .int y117_5), (7, .int y117_7), (8, .int y145_8), (10, .int y145_10)]) hx hb dL_holds_227 hl (by decide) rfl (fun ls hl => ?_)
                          refine lv_iinc (v := (y145_10 + 1)) (lv' := [(10, .int (y145_10 + 1)), (9, .int (y145_9 + (z117_q ((8 * (((y117_7 / 8) + (y145_10 / 3)) - 1)) + (((y117_7 - y117_7 / 8 * 8) + (y145_10 - y145_10 / 3 * 3)) - 1)).toNatClampNeg))), (12, .int (((y117_7 - y117_7 / 8 * 8) + (y145_10 - y145_10 / 3 * 3)) - 1)), (11, .int (((y117_7 / 8) + (y145_10 / 3)) - 1)), (0, .ref (a 0)), (1, .ref (d 0)), (2, .ref (g 0)), (3, .int y117_3), (4, .int y117_4), (5, .int y117_5), (7, .int y117_7), (8, .int y145_8)]) hx hb dL_holds_229 hl (k := 11) rfl rfl (by decide) rfl (fun ls hl => ?_)
                          refine lv_goto (tgt := 145) hx hb dL_holds_232 (by decide) ?_
                          exact bk145 (y145_9 + (z117_q ((8 * (((y117_7 / 8) + (y145_10 / 3)) - 1)) + (((y117_7 - y117_7 / 8 * 8) + (y145_10 - y145_10 / 3 * 3)) - 1)).toNatClampNeg)) (y145_10 + 1) _ _ _ hq hP hD hS (lv_sub hl [4, 5, 6, 7, 8, 9, 10, 11, 1, 0] rfl)
          exact key _ y145_9 y145_10 H locs ls h0 (Nat.lt_succ_self _) hP hD hS hl
        refine lv_iload hx hb dL_holds_117 (lv_at hl 7 rfl) ?_
        refine lv_bipush (v := 64) hx hb dL_holds_119 (by decide) ?_
        obtain ⟨hqA, hqB⟩ := hq
        refine lv_icmp_ge (tgt := 324) hx hb dL_holds_121 (by decide) (fun c30 => ?_) (fun c30 => ?_)
        · have hq := hqA c30
          exact J324 y117_3 y117_4 y117_5 y117_6 z117_q z117_v z117_w  _ _ _ hq hP hD hS (lv_sub hl [0, 3, 4, 5, 6] rfl)
        · have hq := hqB c30
          refine lv_iload hx hb dL_holds_124 (lv_at hl 6 rfl) ?_
          obtain ⟨hqA, hqB⟩ := hq
          refine lv_if_eq (tgt := 324) hx hb dL_holds_126 (by decide) (fun c29 => ?_) (fun c29 => ?_)
          · have hq := hqA c29
            exact J324 y117_3 y117_4 y117_5 y117_6 z117_q z117_v z117_w  _ _ _ hq hP hD hS (lv_sub hl [0, 3, 4, 5, 6] rfl)
          · have hq := hqB c29
            refine lv_aload_n hx hb dL_holds_129 rfl (lv_at hl 0 rfl) ?_
            refine lv_iload hx hb dL_holds_130 (lv_at hl 7 rfl) ?_
            refine lv_bipush (v := 6) hx hb dL_holds_132 (by decide) ?_
            have hC : ((rng 0 204).map (fun i => (wX6 cy a z117_v ++ cAI cy d 64 z117_w ++ cAI cy g 64 z117_q)[i]?)) = (wX6 cy a z117_v).map some := xC_left2 wX6_len
            have hPc := xsubP hP hC
            have hDc := xsubD hD (rng_nd 204 0) hC
            have hFc := va_free (wc := (wX6 cy a z117_v)) hD hS hAe0 (rng 0 204) hC
            refine va_calli (va_runV (As := [.int y117_7, .int 6]) (rest := []) ⟨hx, hb, hml, hown, hts⟩ (co_X6_tuft l dC dI cy a _ z117_v y117_7 6 _ hq) (cwV 2 hts gL_holds_X6_tuft rfl rfl rfl (by decide +kernel) ⟨Nat.le_of_ble_eq_true rfl, Nat.le_of_ble_eq_true rfl⟩) ⟨xPre_blindE, va_recv hK hPc (ci := 6) (q0 := 0) rfl rfl, xPre_ofE hPc hK hDc hE hS hFc⟩ rfl rfl hl.1 rfl (lv_room (Nat.le_of_ble_eq_true rfl)) dL_holds_134 ⟨Nat.le_of_ble_eq_true rfl, Nat.le_of_ble_eq_true rfl⟩) hS (fun q _ h => hFc q h) hFc (fun r134 z134_v t H locs ht hvm hq hB hz1 hk1 hS => ?_)
            obtain ⟨hP1, -, hD1⟩ := hB
            rw [ht] at hP1
            obtain ⟨hP, hD⟩ := xj hP hD (rng 0 204) (wX6 cy a z134_v) (ws' := (wX6 cy a z134_v ++ cAI cy d 64 z117_w ++ cAI cy g 64 z117_q)) hC wX6_fst (xS_left2 wX6_len wX6_len) hk1 hFc hP1
            refine lv_istore (lv' := [(8, .int r134), (0, .ref (a 0)), (1, .ref (d 0)), (2, .ref (g 0)), (3, .int y117_3), (4, .int y117_4), (5, .int y117_5), (6, .int y117_6), (7, .int y117_7)]) hx hb dL_holds_137 hl (by decide) rfl (fun ls hl => ?_)
            refine lv_iconst (v := 0) hx hb dL_holds_139 (by decide) ?_
            refine lv_istore (lv' := [(9, .int 0), (8, .int r134), (0, .ref (a 0)), (1, .ref (d 0)), (2, .ref (g 0)), (3, .int y117_3), (4, .int y117_4), (5, .int y117_5), (6, .int y117_6), (7, .int y117_7)]) hx hb dL_holds_140 hl (by decide) rfl (fun ls hl => ?_)
            refine lv_iconst (v := 0) hx hb dL_holds_142 (by decide) ?_
            refine lv_istore (lv' := [(10, .int 0), (9, .int 0), (8, .int r134), (0, .ref (a 0)), (1, .ref (d 0)), (2, .ref (g 0)), (3, .int y117_3), (4, .int y117_4), (5, .int y117_5), (6, .int y117_6), (7, .int y117_7)]) hx hb dL_holds_143 hl (by decide) rfl (fun ls hl => ?_)
            exact J145 r134 z134_v 0 0 _ _ _ hq hP hD hS (lv_sub hl [3, 4, 5, 6, 7, 8, 10, 2, 1, 0] rfl)
    exact key _ y117_4 y117_5 y117_6 y117_7 z117_v H locs ls h0 (Nat.lt_succ_self _) hP hD hS hl
  have J90 : ∀ (y90_3 : Int32) (y90_4 : Int32) (y90_5 : Int32) (y90_6 : Int32) (z90_w : (Nat → Int32)) (y90_7 : Int32) (z90_q : (Nat → Int32)) (z90_v : V_X6) (H : Heap) (locs : List Loc) (ls : Array Slot), wp_L_holds_90 v y90_3 y90_4 y90_5 y90_6 z90_w y90_7 z90_q z90_v Q → va_P (dC, dI) vwCl (wX6 cy a z90_v ++ cAI cy d 64 z90_w ++ cAI cy g 64 z90_q) H → va_D A (wX6 cy a z90_v ++ cAI cy d 64 z90_w ++ cAI cy g 64 z90_q) → va_S A s.heap H locs → lv_has ls 13 [(0, .ref (a 0)), (1, .ref (d 0)), (2, .ref (g 0)), (3, .int y90_3), (4, .int y90_4), (5, .int y90_5), (6, .int y90_6), (7, .int y90_7)] → W p l e (headSpec wsL_holds ({ frames := 8, cells := 2, slots := 128, locals := 187 } : Room)).room s m ([.ref (a 0)] : List Value).toArray below meth c H locs 2 128 (MQ below (q_L_holds dC dI cy a v Q A) ([.ref (a 0)] : List Value).toArray s 2 128 A) (F0 m 90 ls []) := by
    intro y90_3 y90_4 y90_5 y90_6 z90_w y90_7 z90_q z90_v H locs ls hq hP hD hS hl
    obtain ⟨I90, μ90, h0, hs90⟩ := hq
    have key : ∀ (n : Nat) (y90_7 : Int32) (z90_q : (Nat → Int32)) (z90_v : V_X6) (H : Heap) (locs : List Loc) (ls : Array Slot), I90 y90_7 z90_q z90_v → μ90 y90_7 z90_q z90_v < n → va_P (dC, dI) vwCl (wX6 cy a z90_v ++ cAI cy d 64 z90_w ++ cAI cy g 64 z90_q) H → va_D A (wX6 cy a z90_v ++ cAI cy d 64 z90_w ++ cAI cy g 64 z90_q) → va_S A s.heap H locs → lv_has ls 13 [(0, .ref (a 0)), (1, .ref (d 0)), (2, .ref (g 0)), (3, .int y90_3), (4, .int y90_4), (5, .int y90_5), (6, .int y90_6), (7, .int y90_7)] → W p l e (headSpec wsL_holds ({ frames := 8, cells := 2, slots := 128, locals := 187 } : Room)).room s m ([.ref (a 0)] : List Value).toArray below meth c H locs 2 128 (MQ below (q_L_holds dC dI cy a v Q A) ([.ref (a 0)] : List Value).toArray s 2 128 A) (F0 m 90 ls []) := by
      intro n
      induction n with
      | zero => intro y90_7 z90_q z90_v H locs ls _ hm; exact absurd hm (Nat.not_lt_zero _)
      | succ n ih =>
        intro y90_7 z90_q z90_v H locs ls hI hm hP hD hS hl
        have hq := hs90 y90_7 z90_q z90_v hI
        generalize hB90 : (fun (t0 : Int32) (t1 : (Nat → Int32)) (t2 : V_X6) => I90 t0 t1 t2 ∧ μ90 t0 t1 t2 < μ90 y90_7 z90_q z90_v) = B90 at hq
        have bk90 : ∀ (y90_7 : Int32) (z90_q : (Nat → Int32)) (z90_v : V_X6) (H : Heap) (locs : List Loc) (ls : Array Slot), B90 y90_7 z90_q z90_v → va_P (dC, dI) vwCl (wX6 cy a z90_v ++ cAI cy d 64 z90_w ++ cAI cy g 64 z90_q) H → va_D A (wX6 cy a z90_v ++ cAI cy d 64 z90_w ++ cAI cy g 64 z90_q) → va_S A s.heap H locs → lv_has ls 13 [(0, .ref (a 0)), (1, .ref (d 0)), (2, .ref (g 0)), (3, .int y90_3), (4, .int y90_4), (5, .int y90_5), (6, .int y90_6), (7, .int y90_7)] → W p l e (headSpec wsL_holds ({ frames := 8, cells := 2, slots := 128, locals := 187 } : Room)).room s m ([.ref (a 0)] : List Value).toArray below meth c H locs 2 128 (MQ below (q_L_holds dC dI cy a v Q A) ([.ref (a 0)] : List Value).toArray s 2 128 A) (F0 m 90 ls []) := by
          intro y90_7 z90_q z90_v H locs ls h
          rw [← hB90] at h
          exact ih y90_7 z90_q z90_v H locs ls h.1 (Nat.lt_of_lt_of_le h.2 (Nat.le_of_lt_succ hm))
        unfold wb_L_holds_90 at hq
        refine lv_iload hx hb dL_holds_90 (lv_at hl 7 rfl) ?_
        refine lv_bipush (v := 64) hx hb dL_holds_92 (by decide) ?_
        obtain ⟨hqA, hqB⟩ := hq
        refine lv_icmp_ge (tgt := 114) hx hb dL_holds_94 (by decide) (fun c32 => ?_) (fun c32 => ?_)
        · have hq := hqA c32
          refine lv_iconst (v := 0) hx hb dL_holds_114 (by decide) ?_
          refine lv_istore (lv' := [(7, .int 0), (0, .ref (a 0)), (1, .ref (d 0)), (2, .ref (g 0)), (3, .int y90_3), (4, .int y90_4), (5, .int y90_5), (6, .int y90_6)]) hx hb dL_holds_115 hl (by decide) rfl (fun ls hl => ?_)
          exact J117 y90_3 z90_q z90_w y90_4 y90_5 y90_6 0 z90_v _ _ _ hq hP hD hS (lv_sub hl [1, 2, 3, 4, 5, 6, 7, 0] rfl)
        · have hq := hqB c32
          refine lv_aload_n hx hb dL_holds_97 rfl (lv_at hl 2 rfl) ?_
          refine lv_iload hx hb dL_holds_98 (lv_at hl 7 rfl) ?_
          refine lv_aload_n hx hb dL_holds_100 rfl (lv_at hl 0 rfl) ?_
          refine lv_iload hx hb dL_holds_101 (lv_at hl 7 rfl) ?_
          refine lv_iconst (v := 3) hx hb dL_holds_103 (by decide) ?_
          have hC : ((rng 0 204).map (fun i => (wX6 cy a z90_v ++ cAI cy d 64 z90_w ++ cAI cy g 64 z90_q)[i]?)) = (wX6 cy a z90_v).map some := xC_left2 wX6_len
          have hPc := xsubP hP hC
          have hDc := xsubD hD (rng_nd 204 0) hC
          have hFc := va_free (wc := (wX6 cy a z90_v)) hD hS hAe0 (rng 0 204) hC
          refine va_calli (va_runV (As := [.int y90_7, .int 3]) (rest := [.int y90_7, .ref (g 0)]) ⟨hx, hb, hml, hown, hts⟩ (co_X6_tuft l dC dI cy a _ z90_v y90_7 3 _ hq) (cwV 2 hts gL_holds_X6_tuft rfl rfl rfl (by decide +kernel) ⟨Nat.le_of_ble_eq_true rfl, Nat.le_of_ble_eq_true rfl⟩) ⟨xPre_blindE, va_recv hK hPc (ci := 6) (q0 := 0) rfl rfl, xPre_ofE hPc hK hDc hE hS hFc⟩ rfl rfl hl.1 rfl (lv_room (Nat.le_of_ble_eq_true rfl)) dL_holds_104 ⟨Nat.le_of_ble_eq_true rfl, Nat.le_of_ble_eq_true rfl⟩) hS (fun q _ h => hFc q h) hFc (fun r104 z104_v t H locs ht hvm hq hB hz1 hk1 hS => ?_)
          obtain ⟨hP1, -, hD1⟩ := hB
          rw [ht] at hP1
          obtain ⟨hP, hD⟩ := xj hP hD (rng 0 204) (wX6 cy a z104_v) (ws' := (wX6 cy a z104_v ++ cAI cy d 64 z90_w ++ cAI cy g 64 z90_q)) hC wX6_fst (xS_left2 wX6_len wX6_len) hk1 hFc hP1
          obtain ⟨g31, hq⟩ := hq
          refine va_iast hx hb hK hP hD hS 205 0 rfl rfl g31 dL_holds_107 (fun H locs hP hD hS => ?_)
          have hP : va_P (dC, dI) vwCl (wX6 cy a z104_v ++ cAI cy d 64 z90_w ++ cAI cy g 64 (upd z90_q y90_7.toNatClampNeg r104)) H := hP
          have hD : va_D A (wX6 cy a z104_v ++ cAI cy d 64 z90_w ++ cAI cy g 64 (upd z90_q y90_7.toNatClampNeg r104)) := hD
          refine lv_iinc (v := (y90_7 + 1)) (lv' := [(7, .int (y90_7 + 1)), (0, .ref (a 0)), (1, .ref (d 0)), (2, .ref (g 0)), (3, .int y90_3), (4, .int y90_4), (5, .int y90_5), (6, .int y90_6)]) hx hb dL_holds_108 hl (k := 7) rfl rfl (by decide) rfl (fun ls hl => ?_)
          refine lv_goto (tgt := 90) hx hb dL_holds_111 (by decide) ?_
          exact bk90 (y90_7 + 1) (upd z90_q y90_7.toNatClampNeg r104) z104_v _ _ _ hq hP hD hS (lv_sub hl [1, 2, 3, 4, 5, 6, 7, 0] rfl)
    exact key _ y90_7 z90_q z90_v H locs ls h0 (Nat.lt_succ_self _) hP hD hS hl
  have J57 : ∀ (y57_3 : Int32) (y57_4 : Int32) (y57_5 : Int32) (z57_q : (Nat → Int32)) (y57_6 : Int32) (y57_7 : Int32) (z57_v : V_X6) (z57_w : (Nat → Int32)) (H : Heap) (locs : List Loc) (ls : Array Slot), wp_L_holds_57 v y57_3 y57_4 y57_5 z57_q y57_6 y57_7 z57_v z57_w Q → va_P (dC, dI) vwCl (wX6 cy a z57_v ++ cAI cy d 64 z57_w ++ cAI cy g 64 z57_q) H → va_D A (wX6 cy a z57_v ++ cAI cy d 64 z57_w ++ cAI cy g 64 z57_q) → va_S A s.heap H locs → lv_has ls 13 [(0, .ref (a 0)), (1, .ref (d 0)), (2, .ref (g 0)), (3, .int y57_3), (4, .int y57_4), (5, .int y57_5), (6, .int y57_6), (7, .int y57_7)] → W p l e (headSpec wsL_holds ({ frames := 8, cells := 2, slots := 128, locals := 187 } : Room)).room s m ([.ref (a 0)] : List Value).toArray below meth c H locs 2 128 (MQ below (q_L_holds dC dI cy a v Q A) ([.ref (a 0)] : List Value).toArray s 2 128 A) (F0 m 57 ls []) := by
    intro y57_3 y57_4 y57_5 z57_q y57_6 y57_7 z57_v z57_w H locs ls hq hP hD hS hl
    obtain ⟨I57, μ57, h0, hs57⟩ := hq
    have key : ∀ (n : Nat) (y57_6 : Int32) (y57_7 : Int32) (z57_v : V_X6) (z57_w : (Nat → Int32)) (H : Heap) (locs : List Loc) (ls : Array Slot), I57 y57_6 y57_7 z57_v z57_w → μ57 y57_6 y57_7 z57_v z57_w < n → va_P (dC, dI) vwCl (wX6 cy a z57_v ++ cAI cy d 64 z57_w ++ cAI cy g 64 z57_q) H → va_D A (wX6 cy a z57_v ++ cAI cy d 64 z57_w ++ cAI cy g 64 z57_q) → va_S A s.heap H locs → lv_has ls 13 [(0, .ref (a 0)), (1, .ref (d 0)), (2, .ref (g 0)), (3, .int y57_3), (4, .int y57_4), (5, .int y57_5), (6, .int y57_6), (7, .int y57_7)] → W p l e (headSpec wsL_holds ({ frames := 8, cells := 2, slots := 128, locals := 187 } : Room)).room s m ([.ref (a 0)] : List Value).toArray below meth c H locs 2 128 (MQ below (q_L_holds dC dI cy a v Q A) ([.ref (a 0)] : List Value).toArray s 2 128 A) (F0 m 57 ls []) := by
      intro n
      induction n with
      | zero => intro y57_6 y57_7 z57_v z57_w H locs ls _ hm; exact absurd hm (Nat.not_lt_zero _)
      | succ n ih =>
        intro y57_6 y57_7 z57_v z57_w H locs ls hI hm hP hD hS hl
        have hq := hs57 y57_6 y57_7 z57_v z57_w hI
        generalize hB57 : (fun (t0 : Int32) (t1 : Int32) (t2 : V_X6) (t3 : (Nat → Int32)) => I57 t0 t1 t2 t3 ∧ μ57 t0 t1 t2 t3 < μ57 y57_6 y57_7 z57_v z57_w) = B57 at hq
        have bk57 : ∀ (y57_6 : Int32) (y57_7 : Int32) (z57_v : V_X6) (z57_w : (Nat → Int32)) (H : Heap) (locs : List Loc) (ls : Array Slot), B57 y57_6 y57_7 z57_v z57_w → va_P (dC, dI) vwCl (wX6 cy a z57_v ++ cAI cy d 64 z57_w ++ cAI cy g 64 z57_q) H → va_D A (wX6 cy a z57_v ++ cAI cy d 64 z57_w ++ cAI cy g 64 z57_q) → va_S A s.heap H locs → lv_has ls 13 [(0, .ref (a 0)), (1, .ref (d 0)), (2, .ref (g 0)), (3, .int y57_3), (4, .int y57_4), (5, .int y57_5), (6, .int y57_6), (7, .int y57_7)] → W p l e (headSpec wsL_holds ({ frames := 8, cells := 2, slots := 128, locals := 187 } : Room)).room s m ([.ref (a 0)] : List Value).toArray below meth c H locs 2 128 (MQ below (q_L_holds dC dI cy a v Q A) ([.ref (a 0)] : List Value).toArray s 2 128 A) (F0 m 57 ls []) := by
          intro y57_6 y57_7 z57_v z57_w H locs ls h
          rw [← hB57] at h
          exact ih y57_6 y57_7 z57_v z57_w H locs ls h.1 (Nat.lt_of_lt_of_le h.2 (Nat.le_of_lt_succ hm))
        unfold wb_L_holds_57 at hq
        refine lv_iload hx hb dL_holds_57 (lv_at hl 7 rfl) ?_
        refine lv_aload_n hx hb dL_holds_59 rfl (lv_at hl 0 rfl) ?_
        refine lv_iconst (v := 1) hx hb dL_holds_60 (by decide) ?_
        have hC : ((rng 0 204).map (fun i => (wX6 cy a z57_v ++ cAI cy d 64 z57_w ++ cAI cy g 64 z57_q)[i]?)) = (wX6 cy a z57_v).map some := xC_left2 wX6_len
        have hPc := xsubP hP hC
        have hDc := xsubD hD (rng_nd 204 0) hC
        have hFc := va_free (wc := (wX6 cy a z57_v)) hD hS hAe0 (rng 0 204) hC
        refine va_calli (va_runV (As := [.int 1]) (rest := [.int y57_7]) ⟨hx, hb, hml, hown, hts⟩ (co_X6_count l dC dI cy a _ z57_v 1 _ hq) (cwV 1 hts gL_holds_X6_count rfl rfl rfl (by decide +kernel) ⟨Nat.le_of_ble_eq_true rfl, Nat.le_of_ble_eq_true rfl⟩) ⟨xPre_blindE, va_recv hK hPc (ci := 6) (q0 := 0) rfl rfl, xPre_ofE hPc hK hDc hE hS hFc⟩ rfl rfl hl.1 rfl (lv_room (Nat.le_of_ble_eq_true rfl)) dL_holds_61 ⟨Nat.le_of_ble_eq_true rfl, Nat.le_of_ble_eq_true rfl⟩) hS (fun q _ h => hFc q h) hFc (fun r61 z61_v t H locs ht hvm hq hB hz1 hk1 hS => ?_)
        obtain ⟨hP1, -, hD1⟩ := hB
        rw [ht] at hP1
        obtain ⟨hP, hD⟩ := xj hP hD (rng 0 204) (wX6 cy a z61_v) (ws' := (wX6 cy a z61_v ++ cAI cy d 64 z57_w ++ cAI cy g 64 z57_q)) hC wX6_fst (xS_left2 wX6_len wX6_len) hk1 hFc hP1
        obtain ⟨hqA, hqB⟩ := hq
        refine lv_icmp_ge (tgt := 87) hx hb dL_holds_64 (by decide) (fun c34 => ?_) (fun c34 => ?_)
        · have hq := hqA c34
          refine lv_iconst (v := 0) hx hb dL_holds_87 (by decide) ?_
          refine lv_istore (lv' := [(7, .int 0), (0, .ref (a 0)), (1, .ref (d 0)), (2, .ref (g 0)), (3, .int y57_3), (4, .int y57_4), (5, .int y57_5), (6, .int y57_6)]) hx hb dL_holds_88 hl (by decide) rfl (fun ls hl => ?_)
          exact J90 y57_3 y57_4 y57_5 y57_6 z57_w 0 z57_q z61_v _ _ _ hq hP hD hS (lv_sub hl [1, 2, 3, 4, 5, 6, 7, 0] rfl)
        · have hq := hqB c34
          refine lv_iload hx hb dL_holds_67 (lv_at hl 6 rfl) ?_
          obtain ⟨hqA, hqB⟩ := hq
          refine lv_if_eq (tgt := 87) hx hb dL_holds_69 (by decide) (fun c33 => ?_) (fun c33 => ?_)
          · have hq := hqA c33
            refine lv_iconst (v := 0) hx hb dL_holds_87 (by decide) ?_
            refine lv_istore (lv' := [(7, .int 0), (0, .ref (a 0)), (1, .ref (d 0)), (2, .ref (g 0)), (3, .int y57_3), (4, .int y57_4), (5, .int y57_5), (6, .int y57_6)]) hx hb dL_holds_88 hl (by decide) rfl (fun ls hl => ?_)
            exact J90 y57_3 y57_4 y57_5 y57_6 z57_w 0 z57_q z61_v _ _ _ hq hP hD hS (lv_sub hl [1, 2, 3, 4, 5, 6, 7, 0] rfl)
          · have hq := hqB c33
            refine lv_aload_n hx hb dL_holds_72 rfl (lv_at hl 0 rfl) ?_
            refine lv_iload hx hb dL_holds_73 (lv_at hl 7 rfl) ?_
            refine lv_aload_n hx hb dL_holds_75 rfl (lv_at hl 1 rfl) ?_
            have hC : ((rng 0 205).map (fun i => (wX6 cy a z61_v ++ cAI cy d 64 z57_w ++ cAI cy g 64 z57_q)[i]?)) = (wX6 cy a z61_v ++ cAI cy d 64 z57_w).map some := xC_left wH_len
            have hPc := xsubP hP hC
            have hDc := xsubD hD (rng_nd 205 0) hC
            have hFc := va_free (wc := (wX6 cy a z61_v ++ cAI cy d 64 z57_w)) hD hS hAe0 (rng 0 205) hC
            refine va_calli (va_runS (As := [.ref (a 0), .int y57_7, .ref (d 0)]) (rest := []) ⟨hx, hb, hml, hown, hts⟩ (c_L_isMole l dC dI cy a d _ z61_v 64 z57_w y57_7 _ hq) (va_cwS 3 hts gL_holds_L_isMole rfl rfl rfl (by decide +kernel) ⟨Nat.le_of_ble_eq_true rfl, Nat.le_of_ble_eq_true rfl⟩) ⟨xPre_blindE, xPre_ofE hPc hK hDc hE hS hFc⟩ rfl rfl hl.1 rfl (lv_room (Nat.le_of_ble_eq_true rfl)) dL_holds_76 ⟨Nat.le_of_ble_eq_true rfl, Nat.le_of_ble_eq_true rfl⟩) hS (fun q _ h => hFc q h) hFc (fun r76 u9 t H locs ht hvm hq hB hz1 hk1 hS => ?_)
            obtain ⟨z76_v, z76_w⟩ := u9
            obtain ⟨hP1, -, hD1⟩ := hB
            rw [ht] at hP1
            obtain ⟨hP, hD⟩ := xj hP hD (rng 0 205) (wX6 cy a z76_v ++ cAI cy d 64 z76_w) (ws' := (wX6 cy a z76_v ++ cAI cy d 64 z76_w ++ cAI cy g 64 z57_q)) hC wH_fst (xS_left wH_len wH_len) hk1 hFc hP1
            refine lv_istore (lv' := [(6, .int r76), (0, .ref (a 0)), (1, .ref (d 0)), (2, .ref (g 0)), (3, .int y57_3), (4, .int y57_4), (5, .int y57_5), (7, .int y57_7)]) hx hb dL_holds_79 hl (by decide) rfl (fun ls hl => ?_)
            refine lv_iinc (v := (y57_7 + 1)) (lv' := [(7, .int (y57_7 + 1)), (6, .int r76), (0, .ref (a 0)), (1, .ref (d 0)), (2, .ref (g 0)), (3, .int y57_3), (4, .int y57_4), (5, .int y57_5)]) hx hb dL_holds_81 hl (k := 7) rfl rfl (by decide) rfl (fun ls hl => ?_)
            refine lv_goto (tgt := 57) hx hb dL_holds_84 (by decide) ?_
            exact bk57 r76 (y57_7 + 1) z76_v z76_w _ _ _ hq hP hD hS (lv_sub hl [2, 3, 4, 5, 6, 7, 1, 0] rfl)
    exact key _ y57_6 y57_7 z57_v z57_w H locs ls h0 (Nat.lt_succ_self _) hP hD hS hl
  have J28 : ∀ (y28_3 : Int32) (y28_4 : Int32) (y28_5 : Int32) (z28_q : (Nat → Int32)) (y28_6 : Int32) (y28_7 : Int32) (z28_v : V_X6) (z28_w : (Nat → Int32)) (H : Heap) (locs : List Loc) (ls : Array Slot), wp_L_holds_28 v y28_3 y28_4 y28_5 z28_q y28_6 y28_7 z28_v z28_w Q → va_P (dC, dI) vwCl (wX6 cy a z28_v ++ cAI cy d 64 z28_w ++ cAI cy g 64 z28_q) H → va_D A (wX6 cy a z28_v ++ cAI cy d 64 z28_w ++ cAI cy g 64 z28_q) → va_S A s.heap H locs → lv_has ls 13 [(0, .ref (a 0)), (1, .ref (d 0)), (2, .ref (g 0)), (3, .int y28_3), (4, .int y28_4), (5, .int y28_5), (6, .int y28_6), (7, .int y28_7)] → W p l e (headSpec wsL_holds ({ frames := 8, cells := 2, slots := 128, locals := 187 } : Room)).room s m ([.ref (a 0)] : List Value).toArray below meth c H locs 2 128 (MQ below (q_L_holds dC dI cy a v Q A) ([.ref (a 0)] : List Value).toArray s 2 128 A) (F0 m 28 ls []) := by
    intro y28_3 y28_4 y28_5 z28_q y28_6 y28_7 z28_v z28_w H locs ls hq hP hD hS hl
    obtain ⟨I28, μ28, h0, hs28⟩ := hq
    have key : ∀ (n : Nat) (y28_6 : Int32) (y28_7 : Int32) (z28_v : V_X6) (z28_w : (Nat → Int32)) (H : Heap) (locs : List Loc) (ls : Array Slot), I28 y28_6 y28_7 z28_v z28_w → μ28 y28_6 y28_7 z28_v z28_w < n → va_P (dC, dI) vwCl (wX6 cy a z28_v ++ cAI cy d 64 z28_w ++ cAI cy g 64 z28_q) H → va_D A (wX6 cy a z28_v ++ cAI cy d 64 z28_w ++ cAI cy g 64 z28_q) → va_S A s.heap H locs → lv_has ls 13 [(0, .ref (a 0)), (1, .ref (d 0)), (2, .ref (g 0)), (3, .int y28_3), (4, .int y28_4), (5, .int y28_5), (6, .int y28_6), (7, .int y28_7)] → W p l e (headSpec wsL_holds ({ frames := 8, cells := 2, slots := 128, locals := 187 } : Room)).room s m ([.ref (a 0)] : List Value).toArray below meth c H locs 2 128 (MQ below (q_L_holds dC dI cy a v Q A) ([.ref (a 0)] : List Value).toArray s 2 128 A) (F0 m 28 ls []) := by
      intro n
      induction n with
      | zero => intro y28_6 y28_7 z28_v z28_w H locs ls _ hm; exact absurd hm (Nat.not_lt_zero _)
      | succ n ih =>
        intro y28_6 y28_7 z28_v z28_w H locs ls hI hm hP hD hS hl
        have hq := hs28 y28_6 y28_7 z28_v z28_w hI
        generalize hB28 : (fun (t0 : Int32) (t1 : Int32) (t2 : V_X6) (t3 : (Nat → Int32)) => I28 t0 t1 t2 t3 ∧ μ28 t0 t1 t2 t3 < μ28 y28_6 y28_7 z28_v z28_w) = B28 at hq
        have bk28 : ∀ (y28_6 : Int32) (y28_7 : Int32) (z28_v : V_X6) (z28_w : (Nat → Int32)) (H : Heap) (locs : List Loc) (ls : Array Slot), B28 y28_6 y28_7 z28_v z28_w → va_P (dC, dI) vwCl (wX6 cy a z28_v ++ cAI cy d 64 z28_w ++ cAI cy g 64 z28_q) H → va_D A (wX6 cy a z28_v ++ cAI cy d 64 z28_w ++ cAI cy g 64 z28_q) → va_S A s.heap H locs → lv_has ls 13 [(0, .ref (a 0)), (1, .ref (d 0)), (2, .ref (g 0)), (3, .int y28_3), (4, .int y28_4), (5, .int y28_5), (6, .int y28_6), (7, .int y28_7)] → W p l e (headSpec wsL_holds ({ frames := 8, cells := 2, slots := 128, locals := 187 } : Room)).room s m ([.ref (a 0)] : List Value).toArray below meth c H locs 2 128 (MQ below (q_L_holds dC dI cy a v Q A) ([.ref (a 0)] : List Value).toArray s 2 128 A) (F0 m 28 ls []) := by
          intro y28_6 y28_7 z28_v z28_w H locs ls h
          rw [← hB28] at h
          exact ih y28_6 y28_7 z28_v z28_w H locs ls h.1 (Nat.lt_of_lt_of_le h.2 (Nat.le_of_lt_succ hm))
        unfold wb_L_holds_28 at hq
        refine lv_iload hx hb dL_holds_28 (lv_at hl 7 rfl) ?_
        refine lv_iload_n hx hb dL_holds_30 rfl (lv_at hl 3 rfl) ?_
        obtain ⟨hqA, hqB⟩ := hq
        refine lv_icmp_ge (tgt := 54) hx hb dL_holds_31 (by decide) (fun c36 => ?_) (fun c36 => ?_)
        · have hq := hqA c36
          refine lv_iconst (v := 0) hx hb dL_holds_54 (by decide) ?_
          refine lv_istore (lv' := [(7, .int 0), (0, .ref (a 0)), (1, .ref (d 0)), (2, .ref (g 0)), (3, .int y28_3), (4, .int y28_4), (5, .int y28_5), (6, .int y28_6)]) hx hb dL_holds_55 hl (by decide) rfl (fun ls hl => ?_)
          exact J57 y28_3 y28_4 y28_5 z28_q y28_6 0 z28_v z28_w _ _ _ hq hP hD hS (lv_sub hl [1, 2, 3, 4, 5, 6, 7, 0] rfl)
        · have hq := hqB c36
          refine lv_iload hx hb dL_holds_34 (lv_at hl 6 rfl) ?_
          obtain ⟨hqA, hqB⟩ := hq
          refine lv_if_eq (tgt := 54) hx hb dL_holds_36 (by decide) (fun c35 => ?_) (fun c35 => ?_)
          · have hq := hqA c35
            refine lv_iconst (v := 0) hx hb dL_holds_54 (by decide) ?_
            refine lv_istore (lv' := [(7, .int 0), (0, .ref (a 0)), (1, .ref (d 0)), (2, .ref (g 0)), (3, .int y28_3), (4, .int y28_4), (5, .int y28_5), (6, .int y28_6)]) hx hb dL_holds_55 hl (by decide) rfl (fun ls hl => ?_)
            exact J57 y28_3 y28_4 y28_5 z28_q y28_6 0 z28_v z28_w _ _ _ hq hP hD hS (lv_sub hl [1, 2, 3, 4, 5, 6, 7, 0] rfl)
          · have hq := hqB c35
            refine lv_aload_n hx hb dL_holds_39 rfl (lv_at hl 0 rfl) ?_
            refine lv_iload hx hb dL_holds_40 (lv_at hl 7 rfl) ?_
            refine lv_aload_n hx hb dL_holds_42 rfl (lv_at hl 1 rfl) ?_
            have hC : ((rng 0 205).map (fun i => (wX6 cy a z28_v ++ cAI cy d 64 z28_w ++ cAI cy g 64 z28_q)[i]?)) = (wX6 cy a z28_v ++ cAI cy d 64 z28_w).map some := xC_left wH_len
            have hPc := xsubP hP hC
            have hDc := xsubD hD (rng_nd 205 0) hC
            have hFc := va_free (wc := (wX6 cy a z28_v ++ cAI cy d 64 z28_w)) hD hS hAe0 (rng 0 205) hC
            refine va_calli (va_runS (As := [.ref (a 0), .int y28_7, .ref (d 0)]) (rest := []) ⟨hx, hb, hml, hown, hts⟩ (c_L_isTunnel l dC dI cy a d _ z28_v 64 z28_w y28_7 _ hq) (va_cwS 3 hts gL_holds_L_isTunnel rfl rfl rfl (by decide +kernel) ⟨Nat.le_of_ble_eq_true rfl, Nat.le_of_ble_eq_true rfl⟩) ⟨xPre_blindE, xPre_ofE hPc hK hDc hE hS hFc⟩ rfl rfl hl.1 rfl (lv_room (Nat.le_of_ble_eq_true rfl)) dL_holds_43 ⟨Nat.le_of_ble_eq_true rfl, Nat.le_of_ble_eq_true rfl⟩) hS (fun q _ h => hFc q h) hFc (fun r43 u9 t H locs ht hvm hq hB hz1 hk1 hS => ?_)
            obtain ⟨z43_v, z43_w⟩ := u9
            obtain ⟨hP1, -, hD1⟩ := hB
            rw [ht] at hP1
            obtain ⟨hP, hD⟩ := xj hP hD (rng 0 205) (wX6 cy a z43_v ++ cAI cy d 64 z43_w) (ws' := (wX6 cy a z43_v ++ cAI cy d 64 z43_w ++ cAI cy g 64 z28_q)) hC wH_fst (xS_left wH_len wH_len) hk1 hFc hP1
            refine lv_istore (lv' := [(6, .int r43), (0, .ref (a 0)), (1, .ref (d 0)), (2, .ref (g 0)), (3, .int y28_3), (4, .int y28_4), (5, .int y28_5), (7, .int y28_7)]) hx hb dL_holds_46 hl (by decide) rfl (fun ls hl => ?_)
            refine lv_iinc (v := (y28_7 + 1)) (lv' := [(7, .int (y28_7 + 1)), (6, .int r43), (0, .ref (a 0)), (1, .ref (d 0)), (2, .ref (g 0)), (3, .int y28_3), (4, .int y28_4), (5, .int y28_5)]) hx hb dL_holds_48 hl (k := 7) rfl rfl (by decide) rfl (fun ls hl => ?_)
            refine lv_goto (tgt := 28) hx hb dL_holds_51 (by decide) ?_
            exact bk28 r43 (y28_7 + 1) z43_v z43_w _ _ _ hq hP hD hS (lv_sub hl [2, 3, 4, 5, 6, 7, 1, 0] rfl)
    exact key _ y28_6 y28_7 z28_v z28_w H locs ls h0 (Nat.lt_succ_self _) hP hD hS hl
  refine lv_astore_n (lv' := [(2, .ref (g 0)), (1, .ref (d 0)), (0, .ref (a 0))]) hx hb dL_holds_9 rfl hl (by decide) rfl (fun ls hl => ?_)
  refine lv_aload_n hx hb dL_holds_10 rfl (lv_at hl 2 rfl) ?_
  refine lv_iconst (v := 4) hx hb dL_holds_11 (by decide) ?_
  have hC : ((rng 0 204).map (fun i => (wX6 cy a v ++ cAI cy d 64 (fun _ => 0) ++ cAI cy g 64 (fun _ => 0))[i]?)) = (wX6 cy a v).map some := xC_left2 wX6_len
  have hPc := xsubP hP hC
  have hDc := xsubD hD (rng_nd 204 0) hC
  have hFc := va_free (wc := (wX6 cy a v)) hD hS hAe0 (rng 0 204) hC
  refine va_calli (va_runV (As := [.int 4]) (rest := []) ⟨hx, hb, hml, hown, hts⟩ (co_X6_count l dC dI cy a _ v 4 _ hq) (cwV 1 hts gL_holds_X6_count rfl rfl rfl (by decide +kernel) ⟨Nat.le_of_ble_eq_true rfl, Nat.le_of_ble_eq_true rfl⟩) ⟨xPre_blindE, va_recv hK hPc (ci := 6) (q0 := 0) rfl rfl, xPre_ofE hPc hK hDc hE hS hFc⟩ rfl rfl hl.1 rfl (lv_room (Nat.le_of_ble_eq_true rfl)) dL_holds_12 ⟨Nat.le_of_ble_eq_true rfl, Nat.le_of_ble_eq_true rfl⟩) hS (fun q _ h => hFc q h) hFc (fun r12 z12_v t H locs ht hvm hq hB hz1 hk1 hS => ?_)
  obtain ⟨hP1, -, hD1⟩ := hB
  rw [ht] at hP1
  obtain ⟨hP, hD⟩ := xj hP hD (rng 0 204) (wX6 cy a z12_v) (ws' := (wX6 cy a z12_v ++ cAI cy d 64 (fun _ => 0) ++ cAI cy g 64 (fun _ => 0))) hC wX6_fst (xS_left2 wX6_len wX6_len) hk1 hFc hP1
  refine lv_istore_n (lv' := [(3, .int r12), (2, .ref (g 0)), (1, .ref (d 0)), (0, .ref (a 0))]) hx hb dL_holds_15 rfl hl (by decide) rfl (fun ls hl => ?_)
  refine lv_iconst (v := 0) hx hb dL_holds_16 (by decide) ?_
  refine lv_istore (lv' := [(4, .int 0), (3, .int r12), (2, .ref (g 0)), (1, .ref (d 0)), (0, .ref (a 0))]) hx hb dL_holds_17 hl (by decide) rfl (fun ls hl => ?_)
  refine lv_iconst (v := 0) hx hb dL_holds_19 (by decide) ?_
  refine lv_istore (lv' := [(5, .int 0), (4, .int 0), (3, .int r12), (2, .ref (g 0)), (1, .ref (d 0)), (0, .ref (a 0))]) hx hb dL_holds_20 hl (by decide) rfl (fun ls hl => ?_)
  refine lv_iconst (v := 1) hx hb dL_holds_22 (by decide) ?_
  refine lv_istore (lv' := [(6, .int 1), (5, .int 0), (4, .int 0), (3, .int r12), (2, .ref (g 0)), (1, .ref (d 0)), (0, .ref (a 0))]) hx hb dL_holds_23 hl (by decide) rfl (fun ls hl => ?_)
  refine lv_iconst (v := 0) hx hb dL_holds_25 (by decide) ?_
  refine lv_istore (lv' := [(7, .int 0), (6, .int 1), (5, .int 0), (4, .int 0), (3, .int r12), (2, .ref (g 0)), (1, .ref (d 0)), (0, .ref (a 0))]) hx hb dL_holds_26 hl (by decide) rfl (fun ls hl => ?_)
  exact J28 r12 0 0 (fun _ => 0) 1 0 z12_v (fun _ => 0) _ _ _ hq hP hD hS (lv_sub hl [7, 6, 5, 4, 3, 2, 1, 0] rfl)
