def wp_L_looks_209 (v : V_X6) (x1 : Int32) (z209_v : V_X6) (z209_w : (Nat → Int32)) (k209_0 : Int32) (k209_1 : Int32) (Q : Int32 → V_X6 → Prop) : Prop :=
  ((k209_1 = k209_0 → Q 1 z209_v) ∧
  (¬ k209_1 = k209_0 → Q 0 z209_v))
def wp_L_looks_190 (v : V_X6) (x1 : Int32) (z190_v : V_X6) (z190_w : (Nat → Int32)) (k190_0 : Int32) (Q : Int32 → V_X6 → Prop) : Prop :=
  wo_X6_count z190_v 12 (fun r193 z193_v =>
  wo_X6_count z193_v 3 (fun r198 z198_v =>
  ((r193 = r198 → wp_L_looks_209 v x1 z198_v z190_w 1 k190_0  Q) ∧
  (¬ r193 = r198 → wp_L_looks_209 v x1 z198_v z190_w 0 k190_0  Q))))
def wp_L_looks_144 (v : V_X6) (x1 : Int32) (y144_3 : Int32) (y144_5 : Int32) (z144_v : V_X6) (z144_w : (Nat → Int32)) (Q : Int32 → V_X6 → Prop) : Prop :=
  ((y144_5 = 0 → Q 0 z144_v) ∧
  (¬ y144_5 = 0 → wo_X6_hollowShare z144_v (fun r150 z150_v =>
  wo_X6_count z150_v 5 (fun r155 z155_v =>
  vf_n64 (FP.ddiv (FP.i2d r155) 4634204016564240384) ∧ (((Op.cmpValue (FP.dcmp r150 (FP.ddiv (FP.i2d r155) 4634204016564240384)) .l) = 0 → wo_X6_count z155_v 12 (fun r170 z170_v =>
  wo_X6_count z170_v 3 (fun r175 z175_v =>
  ((r175 < r170 → Q 0 z175_v) ∧
  (¬ r175 < r170 → ((y144_3 = 0 → wp_L_looks_190 v x1 z175_v z144_w 1  Q) ∧
  (¬ y144_3 = 0 → wp_L_looks_190 v x1 z175_v z144_w 0  Q))))))) ∧
  (¬ (Op.cmpValue (FP.dcmp r150 (FP.ddiv (FP.i2d r155) 4634204016564240384)) .l) = 0 → Q 0 z155_v))))))
def wb_L_looks_60 (v : V_X6) (x1 : Int32) (y60_3 : Int32) (z60_w : (Nat → Int32)) (y60_5 : Int32) (y60_6 : Int32) (z60_v : V_X6) (B60 : Int32 → Int32 → V_X6 → Prop) (Q : Int32 → V_X6 → Prop) : Prop :=
  ((4 ≤ y60_6 → wp_L_looks_144 v x1 y60_3 y60_5 z60_v z60_w  Q) ∧
  (¬ 4 ≤ y60_6 → ((y60_5 = 0 → wp_L_looks_144 v x1 y60_3 y60_5 z60_v z60_w  Q) ∧
  (¬ y60_5 = 0 → wo_X6_tuft z60_v (((16 * y60_6) + (5 * x1)) - ((16 * y60_6) + (5 * x1)) / 64 * 64) 6 (fun r90 z90_v =>
  ((r90 = (-1) → wo_X6_tuft z90_v (((16 * y60_6) + (5 * x1)) - ((16 * y60_6) + (5 * x1)) / 64 * 64) 5 (fun r105 z105_v =>
  ((r105 = 0 → B60 1 (y60_6 + 1) z105_v) ∧
  (¬ r105 = 0 → B60 0 (y60_6 + 1) z105_v)))) ∧
  (¬ r90 = (-1) → wo_X6_tuft z90_v (((16 * y60_6) + (5 * x1)) - ((16 * y60_6) + (5 * x1)) / 64 * 64) 3 (fun r125 z125_v =>
  ((r90 = r125 → B60 1 (y60_6 + 1) z125_v) ∧
  (¬ r90 = r125 → B60 0 (y60_6 + 1) z125_v))))))))))
def wp_L_looks_60 (v : V_X6) (x1 : Int32) (y60_3 : Int32) (z60_w : (Nat → Int32)) (y60_5 : Int32) (y60_6 : Int32) (z60_v : V_X6) (Q : Int32 → V_X6 → Prop) : Prop :=
  ∃ (I : Int32 → Int32 → V_X6 → Prop) (μ : Int32 → Int32 → V_X6 → Nat), I y60_5 y60_6 z60_v ∧ ∀ (s0 : Int32) (s1 : Int32) (s2 : V_X6), I s0 s1 s2 → wb_L_looks_60 v x1 y60_3 z60_w s0 s1 s2 (fun t0 t1 t2 => I t0 t1 t2 ∧ μ t0 t1 t2 < μ s0 s1 s2) Q
def wp_L_looks_54 (v : V_X6) (x1 : Int32) (y54_3 : Int32) (z54_v : V_X6) (z54_w : (Nat → Int32)) (Q : Int32 → V_X6 → Prop) : Prop :=
  wp_L_looks_60 v x1 y54_3 z54_w 0 0 z54_v Q
def wp_L_looks_50 (v : V_X6) (x1 : Int32) (y50_3 : Int32) (z50_v : V_X6) (z50_w : (Nat → Int32)) (Q : Int32 → V_X6 → Prop) : Prop :=
  wp_L_looks_60 v x1 y50_3 z50_w 1 0 z50_v Q
def wp_L_looks_33 (v : V_X6) (x1 : Int32) (y33_3 : Int32) (y33_4 : Int32) (z33_v : V_X6) (z33_w : (Nat → Int32)) (Q : Int32 → V_X6 → Prop) : Prop :=
  ((y33_4 = 0 → wp_L_looks_50 v x1 y33_3 z33_v z33_w  Q) ∧
  (¬ y33_4 = 0 → ¬ y33_4 = 0 ∧ wp_L_isMole z33_v 64 z33_w (x1 - x1 / y33_4 * y33_4) (fun r44 z44_v z44_w =>
  ((r44 = 0 → wp_L_looks_54 v x1 y33_3 z44_v z44_w  Q) ∧
  (¬ r44 = 0 → wp_L_looks_50 v x1 y33_3 z44_v z44_w  Q)))))
def wp_L_looks (v : V_X6) (x1 : Int32) (Q : Int32 → V_X6 → Prop) : Prop :=
  wo_X6_count v 4 (fun r7 z7_v =>
  wo_X6_count z7_v 1 (fun r13 z13_v =>
  ((r7 = 0 → wp_L_looks_33 v x1 r7 r13 z13_v (fun _ => 0)  Q) ∧
  (¬ r7 = 0 → ¬ r7 = 0 ∧ wp_L_isTunnel z13_v 64 (fun _ => 0) (x1 - x1 / r7 * r7) (fun r27 z27_v z27_w =>
  ((r27 = 0 → wp_L_looks_54 v x1 r7 z27_v z27_w  Q) ∧
  (¬ r27 = 0 → wp_L_looks_33 v x1 r7 r13 z27_v z27_w  Q)))))))
def q_L_looks (dC : Nat → ClassId) (dI : Nat → Nat → Nat) (cy : Nat → ClassId) (a : Nat → Nat) (v : V_X6) (x1 : Int32) (Q : Int32 → V_X6 → Prop) (A : Nat → Prop) : Array Value → State → Outcome → State → Prop := va_Qi (fun (r : Int32) (u : V_X6) => Q r u) (fun (u : V_X6) t => xAt dC dI cy A (wX6 cy a u) t) A
set_option maxHeartbeats 4000000 in
set_option maxRecDepth 100000 in
theorem c_L_looks (l : Launch) (dC : Nat → ClassId) (dI : Nat → Nat → Nat) (cy : Nat → ClassId) (a : Nat → Nat) (sz : Nat) (v : V_X6) (x1 : Int32) (Q : Int32 → V_X6 → Prop) (hq : wp_L_looks v x1 Q) : Met l yL_looks wsL_looks ({ frames := 8, cells := 1, slots := 64, locals := 187 } : Room) (va_Pc [.ref (a 0), .int x1] (xPreE dC dI cy (wX6 cy a v) sz)) (q_L_looks dC dI cy a v x1 Q (va_A (wX6 cy a v) sz)) 1 64 (va_A (wX6 cy a v) sz) := by
  refine Met.ofW (cc := cL_looks) (maxL := 9) (ret := (some .boolean)) (by decide) rfl ?_
  intro p e s m args below meth c s₁ B hml hv
  obtain ⟨rfl, hsz, hP, hK, hD0, hE⟩ := hv
  have hx := B.exec
  have hb := B.bytes
  have hr := B.returns
  have hts := atoms_spec (ws := wsL_looks) B.pre
  have hown : s.vm.findClass RL = some m.cls := findClass_of_methodNamed B.named
  have hlocks := B.notSynchronized
  subst hsz
  have hD := hD0.self (sz := s.heap.size)
  generalize hAe : va_A (wX6 cy a v) s.heap.size = A at hD hE ⊢
  have hAe0 : ∀ q : Nat, s.heap.size ≤ q → A q := fun q h => by rw [← hAe]; exact Or.inr h
  have hS : va_S A s.heap s.heap [] := va_S.rf
  have hl := lv_entry ([.ref (a 0), .int x1]) (n := 9) (Nat.le_of_ble_eq_true rfl)
  rw [lg_entry_eq]
  generalize (lg_sl ([.ref (a 0), .int x1]) ++ List.replicate (9 - (lg_sl ([.ref (a 0), .int x1])).length) Slot.unset).toArray = ls at hl ⊢
  have hl : lv_has ls 9 [(0, .ref (a 0)), (1, .int x1)] := hl
  have lk0 := hts (Cond.constantDouble RL 95 (4634204016564240384)) (List.mem_cons_of_mem _ (List.mem_append_left _ (List.mem_append_left _ (List.mem_append_left _ (List.mem_append_left _ (List.mem_append_left _ (List.mem_append_left _ (List.mem_append_left _ (List.mem_append_left _ (List.mem_append_left _ (List.mem_of_getElem? (i := 1) rfl)))))))))))
  have lk1 := hts (Cond.arrayClass .int) (List.mem_cons_of_mem _ (List.mem_append_left _ (List.mem_append_left _ (List.mem_append_left _ (List.mem_append_left _ (List.mem_append_left _ (List.mem_append_left _ (List.mem_append_left _ (List.mem_append_left _ (List.mem_append_left _ (List.mem_of_getElem? (i := 0) rfl)))))))))))
  unfold wp_L_looks at hq
  refine lv_bipush (v := 64) hx hb dL_looks_0 (by decide) ?_
  refine va_newa (atype := .int) (ty := .int) (a0 := (64, .inl (fun _ => 0))) hx hb lk1 rfl hK hP hD hS hAe0 (fun _ => rfl) (by decide) (by decide) (Nat.le_of_ble_eq_true rfl) (Nat.le_of_ble_eq_true rfl) (Nat.le_of_ble_eq_true rfl) dL_looks_2 (fun q9 cA H hK9 hP hD hS => ?_)
  obtain ⟨d, rfl⟩ : ∃ d9 : Nat → Nat, q9 = d9 0 := ⟨fun _ => q9, rfl⟩
  have ec : cA = cy 0 := xcy (i := 4) (j := 0) hK9 rfl rfl
  subst ec
  have hP : va_P (dC, dI) vwCl (wX6 cy a v ++ cAI cy d 64 (fun _ => 0)) H := hP
  have hD : va_D A (wX6 cy a v ++ cAI cy d 64 (fun _ => 0)) := hD
  have J209 : ∀ (z209_v : V_X6) (z209_w : (Nat → Int32)) (k209_0 : Int32) (k209_1 : Int32) (H : Heap) (locs : List Loc) (ls : Array Slot), wp_L_looks_209 v x1 z209_v z209_w k209_0 k209_1 Q → va_P (dC, dI) vwCl (wX6 cy a z209_v ++ cAI cy d 64 z209_w) H → va_D A (wX6 cy a z209_v ++ cAI cy d 64 z209_w) → va_S A s.heap H locs → lv_has ls 9 [] → W p l e (headSpec wsL_looks ({ frames := 8, cells := 1, slots := 64, locals := 187 } : Room)).room s m ([.ref (a 0), .int x1] : List Value).toArray below meth c H locs 1 64 (MQ below (q_L_looks dC dI cy a v x1 Q A) ([.ref (a 0), .int x1] : List Value).toArray s 1 64 A) (F0 m 209 ls [.int k209_0, .int k209_1]) := by
    intro z209_v z209_w k209_0 k209_1 H locs ls hq hP hD hS hl
    unfold wp_L_looks_209 at hq
    obtain ⟨hqA, hqB⟩ := hq
    refine lv_icmp_ne (tgt := 216) hx hb dL_looks_209 (by decide) (fun c1 => ?_) (fun c1 => ?_)
    · have hq := hqB c1
      refine lv_iconst (v := 0) hx hb dL_looks_216 (by decide) ?_
      have hC : ((rng 0 204).map (fun i => (wX6 cy a z209_v ++ cAI cy d 64 z209_w)[i]?)) = (wX6 cy a z209_v).map some := xC_left wX6_len
      exact W.zret (v := 0) hx hb hr rfl (fun t ht hW => ⟨⟨0, z209_v, rfl, hq, (xAt_of (xsubP hP hC) hK (xsubD hD (rng_nd 204 0) hC) ht hW)⟩, hS.F ht⟩) hS.2.2 dL_looks_217
    · have hq := hqA c1
      refine lv_iconst (v := 1) hx hb dL_looks_212 (by decide) ?_
      refine lv_goto (tgt := 217) hx hb dL_looks_213 (by decide) ?_
      have hC : ((rng 0 204).map (fun i => (wX6 cy a z209_v ++ cAI cy d 64 z209_w)[i]?)) = (wX6 cy a z209_v).map some := xC_left wX6_len
      exact W.zret (v := 1) hx hb hr rfl (fun t ht hW => ⟨⟨1, z209_v, rfl, hq, (xAt_of (xsubP hP hC) hK (xsubD hD (rng_nd 204 0) hC) ht hW)⟩, hS.F ht⟩) hS.2.2 dL_looks_217
  have J190 : ∀ (z190_v : V_X6) (z190_w : (Nat → Int32)) (k190_0 : Int32) (H : Heap) (locs : List Loc) (ls : Array Slot), wp_L_looks_190 v x1 z190_v z190_w k190_0 Q → va_P (dC, dI) vwCl (wX6 cy a z190_v ++ cAI cy d 64 z190_w) H → va_D A (wX6 cy a z190_v ++ cAI cy d 64 z190_w) → va_S A s.heap H locs → lv_has ls 9 [(0, .ref (a 0))] → W p l e (headSpec wsL_looks ({ frames := 8, cells := 1, slots := 64, locals := 187 } : Room)).room s m ([.ref (a 0), .int x1] : List Value).toArray below meth c H locs 1 64 (MQ below (q_L_looks dC dI cy a v x1 Q A) ([.ref (a 0), .int x1] : List Value).toArray s 1 64 A) (F0 m 190 ls [.int k190_0]) := by
    intro z190_v z190_w k190_0 H locs ls hq hP hD hS hl
    unfold wp_L_looks_190 at hq
    refine lv_aload_n hx hb dL_looks_190 rfl (lv_at hl 0 rfl) ?_
    refine lv_bipush (v := 12) hx hb dL_looks_191 (by decide) ?_
    have hC : ((rng 0 204).map (fun i => (wX6 cy a z190_v ++ cAI cy d 64 z190_w)[i]?)) = (wX6 cy a z190_v).map some := xC_left wX6_len
    have hPc := xsubP hP hC
    have hDc := xsubD hD (rng_nd 204 0) hC
    have hFc := va_free (wc := (wX6 cy a z190_v)) hD hS hAe0 (rng 0 204) hC
    refine va_calli (va_runV (As := [.int 12]) (rest := [.int k190_0]) ⟨hx, hb, hml, hown, hts⟩ (co_X6_count l dC dI cy a _ z190_v 12 _ hq) (cwV 1 hts gL_looks_X6_count rfl rfl rfl (by decide +kernel) ⟨Nat.le_of_ble_eq_true rfl, Nat.le_of_ble_eq_true rfl⟩) ⟨xPre_blindE, va_recv hK hPc (ci := 6) (q0 := 0) rfl rfl, xPre_ofE hPc hK hDc hE hS hFc⟩ rfl rfl hl.1 rfl (lv_room (Nat.le_of_ble_eq_true rfl)) dL_looks_193 ⟨Nat.le_of_ble_eq_true rfl, Nat.le_of_ble_eq_true rfl⟩) hS (fun q _ h => hFc q h) hFc (fun r193 z193_v t H locs ht hvm hq hB hz1 hk1 hS => ?_)
    obtain ⟨hP1, -, hD1⟩ := hB
    rw [ht] at hP1
    obtain ⟨hP, hD⟩ := xj hP hD (rng 0 204) (wX6 cy a z193_v) (ws' := (wX6 cy a z193_v ++ cAI cy d 64 z190_w)) hC wX6_fst (xS_left wX6_len wX6_len) hk1 hFc hP1
    refine lv_aload_n hx hb dL_looks_196 rfl (lv_at hl 0 rfl) ?_
    refine lv_iconst (v := 3) hx hb dL_looks_197 (by decide) ?_
    have hC : ((rng 0 204).map (fun i => (wX6 cy a z193_v ++ cAI cy d 64 z190_w)[i]?)) = (wX6 cy a z193_v).map some := xC_left wX6_len
    have hPc := xsubP hP hC
    have hDc := xsubD hD (rng_nd 204 0) hC
    have hFc := va_free (wc := (wX6 cy a z193_v)) hD hS hAe0 (rng 0 204) hC
    refine va_calli (va_runV (As := [.int 3]) (rest := [.int r193, .int k190_0]) ⟨hx, hb, hml, hown, hts⟩ (co_X6_count l dC dI cy a _ z193_v 3 _ hq) (cwV 1 hts gL_looks_X6_count rfl rfl rfl (by decide +kernel) ⟨Nat.le_of_ble_eq_true rfl, Nat.le_of_ble_eq_true rfl⟩) ⟨xPre_blindE, va_recv hK hPc (ci := 6) (q0 := 0) rfl rfl, xPre_ofE hPc hK hDc hE hS hFc⟩ rfl rfl hl.1 rfl (lv_room (Nat.le_of_ble_eq_true rfl)) dL_looks_198 ⟨Nat.le_of_ble_eq_true rfl, Nat.le_of_ble_eq_true rfl⟩) hS (fun q _ h => hFc q h) hFc (fun r198 z198_v t H locs ht hvm hq hB hz1 hk1 hS => ?_)
    obtain ⟨hP1, -, hD1⟩ := hB
    rw [ht] at hP1
    obtain ⟨hP, hD⟩ := xj hP hD (rng 0 204) (wX6 cy a z198_v) (ws' := (wX6 cy a z198_v ++ cAI cy d 64 z190_w)) hC wX6_fst (xS_left wX6_len wX6_len) hk1 hFc hP1
    obtain ⟨hqA, hqB⟩ := hq
    refine lv_icmp_ne (tgt := 208) hx hb dL_looks_201 (by decide) (fun c2 => ?_) (fun c2 => ?_)
    · have hq := hqB c2
      refine lv_iconst (v := 0) hx hb dL_looks_208 (by decide) ?_
      exact J209 z198_v z190_w 0 k190_0  _ _ _ hq hP hD hS (lv_sub hl [] rfl)
    · have hq := hqA c2
      refine lv_iconst (v := 1) hx hb dL_looks_204 (by decide) ?_
      refine lv_goto (tgt := 209) hx hb dL_looks_205 (by decide) ?_
      exact J209 z198_v z190_w 1 k190_0  _ _ _ hq hP hD hS (lv_sub hl [] rfl)
  have J144 : ∀ (y144_3 : Int32) (y144_5 : Int32) (z144_v : V_X6) (z144_w : (Nat → Int32)) (H : Heap) (locs : List Loc) (ls : Array Slot), wp_L_looks_144 v x1 y144_3 y144_5 z144_v z144_w Q → va_P (dC, dI) vwCl (wX6 cy a z144_v ++ cAI cy d 64 z144_w) H → va_D A (wX6 cy a z144_v ++ cAI cy d 64 z144_w) → va_S A s.heap H locs → lv_has ls 9 [(0, .ref (a 0)), (3, .int y144_3), (5, .int y144_5)] → W p l e (headSpec wsL_looks ({ frames := 8, cells := 1, slots := 64, locals := 187 } : Room)).room s m ([.ref (a 0), .int x1] : List Value).toArray below meth c H locs 1 64 (MQ below (q_L_looks dC dI cy a v x1 Q A) ([.ref (a 0), .int x1] : List Value).toArray s 1 64 A) (F0 m 144 ls []) := by
    intro y144_3 y144_5 z144_v z144_w H locs ls hq hP hD hS hl
    unfold wp_L_looks_144 at hq
    refine lv_iload hx hb dL_looks_144 (lv_at hl 2 rfl) ?_
    obtain ⟨hqA, hqB⟩ := hq
    refine lv_if_eq (tgt := 216) hx hb dL_looks_146 (by decide) (fun c7 => ?_) (fun c7 => ?_)
    · have hq := hqA c7
      refine lv_iconst (v := 0) hx hb dL_looks_216 (by decide) ?_
      have hC : ((rng 0 204).map (fun i => (wX6 cy a z144_v ++ cAI cy d 64 z144_w)[i]?)) = (wX6 cy a z144_v).map some := xC_left wX6_len
      exact W.zret (v := 0) hx hb hr rfl (fun t ht hW => ⟨⟨0, z144_v, rfl, hq, (xAt_of (xsubP hP hC) hK (xsubD hD (rng_nd 204 0) hC) ht hW)⟩, hS.F ht⟩) hS.2.2 dL_looks_217
    · have hq := hqB c7
      refine lv_aload_n hx hb dL_looks_149 rfl (lv_at hl 0 rfl) ?_
      have hC : ((rng 0 204).map (fun i => (wX6 cy a z144_v ++ cAI cy d 64 z144_w)[i]?)) = (wX6 cy a z144_v).map some := xC_left wX6_len
      have hPc := xsubP hP hC
      have hDc := xsubD hD (rng_nd 204 0) hC
      have hFc := va_free (wc := (wX6 cy a z144_v)) hD hS hAe0 (rng 0 204) hC
      refine va_calld (va_runV (As := []) (rest := []) ⟨hx, hb, hml, hown, hts⟩ (co_X6_hollowShare l dC dI cy a _ z144_v _ hq) (cwV 0 hts gL_looks_X6_hollowShare rfl rfl rfl (by decide +kernel) ⟨Nat.le_of_ble_eq_true rfl, Nat.le_of_ble_eq_true rfl⟩) ⟨xPre_blindE, va_recv hK hPc (ci := 6) (q0 := 0) rfl rfl, xPre_ofE hPc hK hDc hE hS hFc⟩ rfl rfl hl.1 rfl (lv_room (Nat.le_of_ble_eq_true rfl)) dL_looks_150 ⟨Nat.le_of_ble_eq_true rfl, Nat.le_of_ble_eq_true rfl⟩) hS (fun q _ h => hFc q h) hFc (fun r150 z150_v t H locs ht hvm hq hB hz1 hk1 hS => ?_)
      obtain ⟨hP1, -, hD1⟩ := hB
      rw [ht] at hP1
      obtain ⟨hP, hD⟩ := xj hP hD (rng 0 204) (wX6 cy a z150_v) (ws' := (wX6 cy a z150_v ++ cAI cy d 64 z144_w)) hC wX6_fst (xS_left wX6_len wX6_len) hk1 hFc hP1
      refine lv_aload_n hx hb dL_looks_153 rfl (lv_at hl 0 rfl) ?_
      refine lv_iconst (v := 5) hx hb dL_looks_154 (by decide) ?_
      have hC : ((rng 0 204).map (fun i => (wX6 cy a z150_v ++ cAI cy d 64 z144_w)[i]?)) = (wX6 cy a z150_v).map some := xC_left wX6_len
      have hPc := xsubP hP hC
      have hDc := xsubD hD (rng_nd 204 0) hC
      have hFc := va_free (wc := (wX6 cy a z150_v)) hD hS hAe0 (rng 0 204) hC
      refine va_calli (va_runV (As := [.int 5]) (rest := [.double r150]) ⟨hx, hb, hml, hown, hts⟩ (co_X6_count l dC dI cy a _ z150_v 5 _ hq) (cwV 1 hts gL_looks_X6_count rfl rfl rfl (by decide +kernel) ⟨Nat.le_of_ble_eq_true rfl, Nat.le_of_ble_eq_true rfl⟩) ⟨xPre_blindE, va_recv hK hPc (ci := 6) (q0 := 0) rfl rfl, xPre_ofE hPc hK hDc hE hS hFc⟩ rfl rfl hl.1 rfl (lv_room (Nat.le_of_ble_eq_true rfl)) dL_looks_155 ⟨Nat.le_of_ble_eq_true rfl, Nat.le_of_ble_eq_true rfl⟩) hS (fun q _ h => hFc q h) hFc (fun r155 z155_v t H locs ht hvm hq hB hz1 hk1 hS => ?_)
      obtain ⟨hP1, -, hD1⟩ := hB
      rw [ht] at hP1
      obtain ⟨hP, hD⟩ := xj hP hD (rng 0 204) (wX6 cy a z155_v) (ws' := (wX6 cy a z155_v ++ cAI cy d 64 z144_w)) hC wX6_fst (xS_left wX6_len wX6_len) hk1 hFc hP1
      refine lv_i2d hx hb dL_looks_158 ?_
      refine lv_ldc2d (v := 4634204016564240384) hx hb hown lk0 dL_looks_159 ?_
      obtain ⟨g3, hq⟩ := hq
      refine lv_ddiv hx hb dL_looks_162 g3 ?_
      refine lv_dcmp hx hb dL_looks_163 ?_
      obtain ⟨hqA, hqB⟩ := hq
      refine lv_if_ne (tgt := 216) hx hb dL_looks_164 (by decide) (fun c6 => ?_) (fun c6 => ?_)
      · have hq := hqB c6
        refine lv_iconst (v := 0) hx hb dL_looks_216 (by decide) ?_
        have hC : ((rng 0 204).map (fun i => (wX6 cy a z155_v ++ cAI cy d 64 z144_w)[i]?)) = (wX6 cy a z155_v).map some := xC_left wX6_len
        exact W.zret (v := 0) hx hb hr rfl (fun t ht hW => ⟨⟨0, z155_v, rfl, hq, (xAt_of (xsubP hP hC) hK (xsubD hD (rng_nd 204 0) hC) ht hW)⟩, hS.F ht⟩) hS.2.2 dL_looks_217
      · have hq := hqA c6
        refine lv_aload_n hx hb dL_looks_167 rfl (lv_at hl 0 rfl) ?_
        refine lv_bipush (v := 12) hx hb dL_looks_168 (by decide) ?_
        have hC : ((rng 0 204).map (fun i => (wX6 cy a z155_v ++ cAI cy d 64 z144_w)[i]?)) = (wX6 cy a z155_v).map some := xC_left wX6_len
        have hPc := xsubP hP hC
        have hDc := xsubD hD (rng_nd 204 0) hC
        have hFc := va_free (wc := (wX6 cy a z155_v)) hD hS hAe0 (rng 0 204) hC
        refine va_calli (va_runV (As := [.int 12]) (rest := []) ⟨hx, hb, hml, hown, hts⟩ (co_X6_count l dC dI cy a _ z155_v 12 _ hq) (cwV 1 hts gL_looks_X6_count rfl rfl rfl (by decide +kernel) ⟨Nat.le_of_ble_eq_true rfl, Nat.le_of_ble_eq_true rfl⟩) ⟨xPre_blindE, va_recv hK hPc (ci := 6) (q0 := 0) rfl rfl, xPre_ofE hPc hK hDc hE hS hFc⟩ rfl rfl hl.1 rfl (lv_room (Nat.le_of_ble_eq_true rfl)) dL_looks_170 ⟨Nat.le_of_ble_eq_true rfl, Nat.le_of_ble_eq_true rfl⟩) hS (fun q _ h => hFc q h) hFc (fun r170 z170_v t H locs ht hvm hq hB hz1 hk1 hS => ?_)
        obtain ⟨hP1, -, hD1⟩ := hB
        rw [ht] at hP1
        obtain ⟨hP, hD⟩ := xj hP hD (rng 0 204) (wX6 cy a z170_v) (ws' := (wX6 cy a z170_v ++ cAI cy d 64 z144_w)) hC wX6_fst (xS_left wX6_len wX6_len) hk1 hFc hP1
        refine lv_aload_n hx hb dL_looks_173 rfl (lv_at hl 0 rfl) ?_
        refine lv_iconst (v := 3) hx hb dL_looks_174 (by decide) ?_
        have hC : ((rng 0 204).map (fun i => (wX6 cy a z170_v ++ cAI cy d 64 z144_w)[i]?)) = (wX6 cy a z170_v).map some := xC_left wX6_len
        have hPc := xsubP hP hC
        have hDc := xsubD hD (rng_nd 204 0) hC
        have hFc := va_free (wc := (wX6 cy a z170_v)) hD hS hAe0 (rng 0 204) hC
        refine va_calli (va_runV (As := [.int 3]) (rest := [.int r170]) ⟨hx, hb, hml, hown, hts⟩ (co_X6_count l dC dI cy a _ z170_v 3 _ hq) (cwV 1 hts gL_looks_X6_count rfl rfl rfl (by decide +kernel) ⟨Nat.le_of_ble_eq_true rfl, Nat.le_of_ble_eq_true rfl⟩) ⟨xPre_blindE, va_recv hK hPc (ci := 6) (q0 := 0) rfl rfl, xPre_ofE hPc hK hDc hE hS hFc⟩ rfl rfl hl.1 rfl (lv_room (Nat.le_of_ble_eq_true rfl)) dL_looks_175 ⟨Nat.le_of_ble_eq_true rfl, Nat.le_of_ble_eq_true rfl⟩) hS (fun q _ h => hFc q h) hFc (fun r175 z175_v t H locs ht hvm hq hB hz1 hk1 hS => ?_)
        obtain ⟨hP1, -, hD1⟩ := hB
        rw [ht] at hP1
        obtain ⟨hP, hD⟩ := xj hP hD (rng 0 204) (wX6 cy a z175_v) (ws' := (wX6 cy a z175_v ++ cAI cy d 64 z144_w)) hC wX6_fst (xS_left wX6_len wX6_len) hk1 hFc hP1
        obtain ⟨hqA, hqB⟩ := hq
        refine lv_icmp_gt (tgt := 216) hx hb dL_looks_178 (by decide) (fun c5 => ?_) (fun c5 => ?_)
        · have hq := hqA c5
          refine lv_iconst (v := 0) hx hb dL_looks_216 (by decide) ?_
          have hC : ((rng 0 204).map (fun i => (wX6 cy a z175_v ++ cAI cy d 64 z144_w)[i]?)) = (wX6 cy a z175_v).map some := xC_left wX6_len
          exact W.zret (v := 0) hx hb hr rfl (fun t ht hW => ⟨⟨0, z175_v, rfl, hq, (xAt_of (xsubP hP hC) hK (xsubD hD (rng_nd 204 0) hC) ht hW)⟩, hS.F ht⟩) hS.2.2 dL_looks_217
        · have hq := hqB c5
          refine lv_iload_n hx hb dL_looks_181 rfl (lv_at hl 1 rfl) ?_
          obtain ⟨hqA, hqB⟩ := hq
          refine lv_if_ne (tgt := 189) hx hb dL_looks_182 (by decide) (fun c4 => ?_) (fun c4 => ?_)
          · have hq := hqB c4
            refine lv_iconst (v := 0) hx hb dL_looks_189 (by decide) ?_
            exact J190 z175_v z144_w 0  _ _ _ hq hP hD hS (lv_sub hl [0] rfl)
          · have hq := hqA c4
            refine lv_iconst (v := 1) hx hb dL_looks_185 (by decide) ?_
            refine lv_goto (tgt := 190) hx hb dL_looks_186 (by decide) ?_
            exact J190 z175_v z144_w 1  _ _ _ hq hP hD hS (lv_sub hl [0] rfl)
  have J60 : ∀ (y60_3 : Int32) (z60_w : (Nat → Int32)) (y60_5 : Int32) (y60_6 : Int32) (z60_v : V_X6) (H : Heap) (locs : List Loc) (ls : Array Slot), wp_L_looks_60 v x1 y60_3 z60_w y60_5 y60_6 z60_v Q → va_P (dC, dI) vwCl (wX6 cy a z60_v ++ cAI cy d 64 z60_w) H → va_D A (wX6 cy a z60_v ++ cAI cy d 64 z60_w) → va_S A s.heap H locs → lv_has ls 9 [(0, .ref (a 0)), (1, .int x1), (3, .int y60_3), (5, .int y60_5), (6, .int y60_6)] → W p l e (headSpec wsL_looks ({ frames := 8, cells := 1, slots := 64, locals := 187 } : Room)).room s m ([.ref (a 0), .int x1] : List Value).toArray below meth c H locs 1 64 (MQ below (q_L_looks dC dI cy a v x1 Q A) ([.ref (a 0), .int x1] : List Value).toArray s 1 64 A) (F0 m 60 ls []) := by
    intro y60_3 z60_w y60_5 y60_6 z60_v H locs ls hq hP hD hS hl
    obtain ⟨I60, μ60, h0, hs60⟩ := hq
    have key : ∀ (n : Nat) (y60_5 : Int32) (y60_6 : Int32) (z60_v : V_X6) (H : Heap) (locs : List Loc) (ls : Array Slot), I60 y60_5 y60_6 z60_v → μ60 y60_5 y60_6 z60_v < n → va_P (dC, dI) vwCl (wX6 cy a z60_v ++ cAI cy d 64 z60_w) H → va_D A (wX6 cy a z60_v ++ cAI cy d 64 z60_w) → va_S A s.heap H locs → lv_has ls 9 [(0, .ref (a 0)), (1, .int x1), (3, .int y60_3), (5, .int y60_5), (6, .int y60_6)] → W p l e (headSpec wsL_looks ({ frames := 8, cells := 1, slots := 64, locals := 187 } : Room)).room s m ([.ref (a 0), .int x1] : List Value).toArray below meth c H locs 1 64 (MQ below (q_L_looks dC dI cy a v x1 Q A) ([.ref (a 0), .int x1] : List Value).toArray s 1 64 A) (F0 m 60 ls []) := by
      intro n
      induction n with
      | zero => intro y60_5 y60_6 z60_v H locs ls _ hm; exact absurd hm (Nat.not_lt_zero _)
      | succ n ih =>
        intro y60_5 y60_6 z60_v H locs ls hI hm hP hD hS hl
        have hq := hs60 y60_5 y60_6 z60_v hI
        generalize hB60 : (fun (t0 : Int32) (t1 : Int32) (t2 : V_X6) => I60 t0 t1 t2 ∧ μ60 t0 t1 t2 < μ60 y60_5 y60_6 z60_v) = B60 at hq
        have bk60 : ∀ (y60_5 : Int32) (y60_6 : Int32) (z60_v : V_X6) (H : Heap) (locs : List Loc) (ls : Array Slot), B60 y60_5 y60_6 z60_v → va_P (dC, dI) vwCl (wX6 cy a z60_v ++ cAI cy d 64 z60_w) H → va_D A (wX6 cy a z60_v ++ cAI cy d 64 z60_w) → va_S A s.heap H locs → lv_has ls 9 [(0, .ref (a 0)), (1, .int x1), (3, .int y60_3), (5, .int y60_5), (6, .int y60_6)] → W p l e (headSpec wsL_looks ({ frames := 8, cells := 1, slots := 64, locals := 187 } : Room)).room s m ([.ref (a 0), .int x1] : List Value).toArray below meth c H locs 1 64 (MQ below (q_L_looks dC dI cy a v x1 Q A) ([.ref (a 0), .int x1] : List Value).toArray s 1 64 A) (F0 m 60 ls []) := by
          intro y60_5 y60_6 z60_v H locs ls h
          rw [← hB60] at h
          exact ih y60_5 y60_6 z60_v H locs ls h.1 (Nat.lt_of_lt_of_le h.2 (Nat.le_of_lt_succ hm))
        unfold wb_L_looks_60 at hq
        refine lv_iload hx hb dL_looks_60 (lv_at hl 4 rfl) ?_
        refine lv_iconst (v := 4) hx hb dL_looks_62 (by decide) ?_
        obtain ⟨hqA, hqB⟩ := hq
        refine lv_icmp_ge (tgt := 144) hx hb dL_looks_63 (by decide) (fun c12 => ?_) (fun c12 => ?_)
        · have hq := hqA c12
          exact J144 y60_3 y60_5 z60_v z60_w  _ _ _ hq hP hD hS (lv_sub hl [0, 2, 3] rfl)
        · have hq := hqB c12
          refine lv_iload hx hb dL_looks_66 (lv_at hl 3 rfl) ?_
          obtain ⟨hqA, hqB⟩ := hq
          refine lv_if_eq (tgt := 144) hx hb dL_looks_68 (by decide) (fun c11 => ?_) (fun c11 => ?_)
          · have hq := hqA c11
            exact J144 y60_3 y60_5 z60_v z60_w  _ _ _ hq hP hD hS (lv_sub hl [0, 2, 3] rfl)
          · have hq := hqB c11
            refine lv_bipush (v := 16) hx hb dL_looks_71 (by decide) ?_
            refine lv_iload hx hb dL_looks_73 (lv_at hl 4 rfl) ?_
            refine lv_imul hx hb dL_looks_75 ?_
            refine lv_iconst (v := 5) hx hb dL_looks_76 (by decide) ?_
            refine lv_iload_n hx hb dL_looks_77 rfl (lv_at hl 1 rfl) ?_
            refine lv_imul hx hb dL_looks_78 ?_
            refine lv_iadd hx hb dL_looks_79 ?_
            refine lv_bipush (v := 64) hx hb dL_looks_80 (by decide) ?_
            refine lv_irem hx hb dL_looks_82 (by decide) ?_
            refine lv_istore (lv' := [(7, .int (((16 * y60_6) + (5 * x1)) - ((16 * y60_6) + (5 * x1)) / 64 * 64)), (0, .ref (a 0)), (1, .int x1), (3, .int y60_3), (5, .int y60_5), (6, .int y60_6)]) hx hb dL_looks_83 hl (by decide) rfl (fun ls hl => ?_)
            refine lv_aload_n hx hb dL_looks_85 rfl (lv_at hl 1 rfl) ?_
            refine lv_iload hx hb dL_looks_86 (lv_at hl 0 rfl) ?_
            refine lv_bipush (v := 6) hx hb dL_looks_88 (by decide) ?_
            have hC : ((rng 0 204).map (fun i => (wX6 cy a z60_v ++ cAI cy d 64 z60_w)[i]?)) = (wX6 cy a z60_v).map some := xC_left wX6_len
            have hPc := xsubP hP hC
            have hDc := xsubD hD (rng_nd 204 0) hC
            have hFc := va_free (wc := (wX6 cy a z60_v)) hD hS hAe0 (rng 0 204) hC
            refine va_calli (va_runV (As := [.int (((16 * y60_6) + (5 * x1)) - ((16 * y60_6) + (5 * x1)) / 64 * 64), .int 6]) (rest := []) ⟨hx, hb, hml, hown, hts⟩ (co_X6_tuft l dC dI cy a _ z60_v (((16 * y60_6) + (5 * x1)) - ((16 * y60_6) + (5 * x1)) / 64 * 64) 6 _ hq) (cwV 2 hts gL_looks_X6_tuft rfl rfl rfl (by decide +kernel) ⟨Nat.le_of_ble_eq_true rfl, Nat.le_of_ble_eq_true rfl⟩) ⟨xPre_blindE, va_recv hK hPc (ci := 6) (q0 := 0) rfl rfl, xPre_ofE hPc hK hDc hE hS hFc⟩ rfl rfl hl.1 rfl (lv_room (Nat.le_of_ble_eq_true rfl)) dL_looks_90 ⟨Nat.le_of_ble_eq_true rfl, Nat.le_of_ble_eq_true rfl⟩) hS (fun q _ h => hFc q h) hFc (fun r90 z90_v t H locs ht hvm hq hB hz1 hk1 hS => ?_)
            obtain ⟨hP1, -, hD1⟩ := hB
            rw [ht] at hP1
            obtain ⟨hP, hD⟩ := xj hP hD (rng 0 204) (wX6 cy a z90_v) (ws' := (wX6 cy a z90_v ++ cAI cy d 64 z60_w)) hC wX6_fst (xS_left wX6_len wX6_len) hk1 hFc hP1
            refine lv_istore (lv' := [(8, .int r90), (7, .int (((16 * y60_6) + (5 * x1)) - ((16 * y60_6) + (5 * x1)) / 64 * 64)), (0, .ref (a 0)), (1, .int x1), (3, .int y60_3), (5, .int y60_5), (6, .int y60_6)]) hx hb dL_looks_93 hl (by decide) rfl (fun ls hl => ?_)
            refine lv_iload hx hb dL_looks_95 (lv_at hl 0 rfl) ?_
            refine lv_iconst (v := (-1)) hx hb dL_looks_97 (by decide) ?_
            obtain ⟨hqA, hqB⟩ := hq
            refine lv_icmp_ne (tgt := 119) hx hb dL_looks_98 (by decide) (fun c10 => ?_) (fun c10 => ?_)
            · have hq := hqB c10
              refine lv_iload hx hb dL_looks_119 (lv_at hl 0 rfl) ?_
              refine lv_aload_n hx hb dL_looks_121 rfl (lv_at hl 2 rfl) ?_
              refine lv_iload hx hb dL_looks_122 (lv_at hl 1 rfl) ?_
              refine lv_iconst (v := 3) hx hb dL_looks_124 (by decide) ?_
              have hC : ((rng 0 204).map (fun i => (wX6 cy a z90_v ++ cAI cy d 64 z60_w)[i]?)) = (wX6 cy a z90_v).map some := xC_left wX6_len
              have hPc := xsubP hP hC
              have hDc := xsubD hD (rng_nd 204 0) hC
              have hFc := va_free (wc := (wX6 cy a z90_v)) hD hS hAe0 (rng 0 204) hC
              refine va_calli (va_runV (As := [.int (((16 * y60_6) + (5 * x1)) - ((16 * y60_6) + (5 * x1)) / 64 * 64), .int 3]) (rest := [.int r90]) ⟨hx, hb, hml, hown, hts⟩ (co_X6_tuft l dC dI cy a _ z90_v (((16 * y60_6) + (5 * x1)) - ((16 * y60_6) + (5 * x1)) / 64 * 64) 3 _ hq) (cwV 2 hts gL_looks_X6_tuft rfl rfl rfl (by decide +kernel) ⟨Nat.le_of_ble_eq_true rfl, Nat.le_of_ble_eq_true rfl⟩) ⟨xPre_blindE, va_recv hK hPc (ci := 6) (q0 := 0) rfl rfl, xPre_ofE hPc hK hDc hE hS hFc⟩ rfl rfl hl.1 rfl (lv_room (Nat.le_of_ble_eq_true rfl)) dL_looks_125 ⟨Nat.le_of_ble_eq_true rfl, Nat.le_of_ble_eq_true rfl⟩) hS (fun q _ h => hFc q h) hFc (fun r125 z125_v t H locs ht hvm hq hB hz1 hk1 hS => ?_)
              obtain ⟨hP1, -, hD1⟩ := hB
              rw [ht] at hP1
              obtain ⟨hP, hD⟩ := xj hP hD (rng 0 204) (wX6 cy a z125_v) (ws' := (wX6 cy a z125_v ++ cAI cy d 64 z60_w)) hC wX6_fst (xS_left wX6_len wX6_len) hk1 hFc hP1
              obtain ⟨hqA, hqB⟩ := hq
              refine lv_icmp_ne (tgt := 135) hx hb dL_looks_128 (by decide) (fun c8 => ?_) (fun c8 => ?_)
              · have hq := hqB c8
                refine lv_iconst (v := 0) hx hb dL_looks_135 (by decide) ?_
                refine lv_istore (lv' := [(5, .int 0), (8, .int r90), (7, .int (((16 * y60_6) + (5 * x1)) - ((16 * y60_6) + (5 * x1)) / 64 * 64)), (0, .ref (a 0)), (1, .int x1), (3, .int y60_3), (6, .int y60_6)]) hx hb dL_looks_136 hl (by decide) rfl (fun ls hl => ?_)
                refine lv_iinc (v := (y60_6 + 1)) (lv' := [(6, .int (y60_6 + 1)), (5, .int 0), (8, .int r90), (7, .int (((16 * y60_6) + (5 * x1)) - ((16 * y60_6) + (5 * x1)) / 64 * 64)), (0, .ref (a 0)), (1, .int x1), (3, .int y60_3)]) hx hb dL_looks_138 hl (k := 6) rfl rfl (by decide) rfl (fun ls hl => ?_)
                refine lv_goto (tgt := 60) hx hb dL_looks_141 (by decide) ?_
                exact bk60 0 (y60_6 + 1) z125_v _ _ _ hq hP hD hS (lv_sub hl [4, 5, 6, 1, 0] rfl)
              · have hq := hqA c8
                refine lv_iconst (v := 1) hx hb dL_looks_131 (by decide) ?_
                refine lv_goto (tgt := 136) hx hb dL_looks_132 (by decide) ?_
                refine lv_istore (lv' := [(5, .int 1), (8, .int r90), (7, .int (((16 * y60_6) + (5 * x1)) - ((16 * y60_6) + (5 * x1)) / 64 * 64)), (0, .ref (a 0)), (1, .int x1), (3, .int y60_3), (6, .int y60_6)]) hx hb dL_looks_136 hl (by decide) rfl (fun ls hl => ?_)
                refine lv_iinc (v := (y60_6 + 1)) (lv' := [(6, .int (y60_6 + 1)), (5, .int 1), (8, .int r90), (7, .int (((16 * y60_6) + (5 * x1)) - ((16 * y60_6) + (5 * x1)) / 64 * 64)), (0, .ref (a 0)), (1, .int x1), (3, .int y60_3)]) hx hb dL_looks_138 hl (k := 6) rfl rfl (by decide) rfl (fun ls hl => ?_)
                refine lv_goto (tgt := 60) hx hb dL_looks_141 (by decide) ?_
                exact bk60 1 (y60_6 + 1) z125_v _ _ _ hq hP hD hS (lv_sub hl [4, 5, 6, 1, 0] rfl)
            · have hq := hqA c10
              refine lv_aload_n hx hb dL_looks_101 rfl (lv_at hl 2 rfl) ?_
              refine lv_iload hx hb dL_looks_102 (lv_at hl 1 rfl) ?_
              refine lv_iconst (v := 5) hx hb dL_looks_104 (by decide) ?_
              have hC : ((rng 0 204).map (fun i => (wX6 cy a z90_v ++ cAI cy d 64 z60_w)[i]?)) = (wX6 cy a z90_v).map some := xC_left wX6_len
              have hPc := xsubP hP hC
              have hDc := xsubD hD (rng_nd 204 0) hC
              have hFc := va_free (wc := (wX6 cy a z90_v)) hD hS hAe0 (rng 0 204) hC
              refine va_calli (va_runV (As := [.int (((16 * y60_6) + (5 * x1)) - ((16 * y60_6) + (5 * x1)) / 64 * 64), .int 5]) (rest := []) ⟨hx, hb, hml, hown, hts⟩ (co_X6_tuft l dC dI cy a _ z90_v (((16 * y60_6) + (5 * x1)) - ((16 * y60_6) + (5 * x1)) / 64 * 64) 5 _ hq) (cwV 2 hts gL_looks_X6_tuft rfl rfl rfl (by decide +kernel) ⟨Nat.le_of_ble_eq_true rfl, Nat.le_of_ble_eq_true rfl⟩) ⟨xPre_blindE, va_recv hK hPc (ci := 6) (q0 := 0) rfl rfl, xPre_ofE hPc hK hDc hE hS hFc⟩ rfl rfl hl.1 rfl (lv_room (Nat.le_of_ble_eq_true rfl)) dL_looks_105 ⟨Nat.le_of_ble_eq_true rfl, Nat.le_of_ble_eq_true rfl⟩) hS (fun q _ h => hFc q h) hFc (fun r105 z105_v t H locs ht hvm hq hB hz1 hk1 hS => ?_)
              obtain ⟨hP1, -, hD1⟩ := hB
              rw [ht] at hP1
              obtain ⟨hP, hD⟩ := xj hP hD (rng 0 204) (wX6 cy a z105_v) (ws' := (wX6 cy a z105_v ++ cAI cy d 64 z60_w)) hC wX6_fst (xS_left wX6_len wX6_len) hk1 hFc hP1
              obtain ⟨hqA, hqB⟩ := hq
              refine lv_if_ne (tgt := 115) hx hb dL_looks_108 (by decide) (fun c9 => ?_) (fun c9 => ?_)
              · have hq := hqB c9
                refine lv_iconst (v := 0) hx hb dL_looks_115 (by decide) ?_
                refine lv_goto (tgt := 136) hx hb dL_looks_116 (by decide) ?_
                refine lv_istore (lv' := [(5, .int 0), (8, .int r90), (7, .int (((16 * y60_6) + (5 * x1)) - ((16 * y60_6) + (5 * x1)) / 64 * 64)), (0, .ref (a 0)), (1, .int x1), (3, .int y60_3), (6, .int y60_6)]) hx hb dL_looks_136 hl (by decide) rfl (fun ls hl => ?_)
                refine lv_iinc (v := (y60_6 + 1)) (lv' := [(6, .int (y60_6 + 1)), (5, .int 0), (8, .int r90), (7, .int (((16 * y60_6) + (5 * x1)) - ((16 * y60_6) + (5 * x1)) / 64 * 64)), (0, .ref (a 0)), (1, .int x1), (3, .int y60_3)]) hx hb dL_looks_138 hl (k := 6) rfl rfl (by decide) rfl (fun ls hl => ?_)
                refine lv_goto (tgt := 60) hx hb dL_looks_141 (by decide) ?_
                exact bk60 0 (y60_6 + 1) z105_v _ _ _ hq hP hD hS (lv_sub hl [4, 5, 6, 1, 0] rfl)
              · have hq := hqA c9
                refine lv_iconst (v := 1) hx hb dL_looks_111 (by decide) ?_
                refine lv_goto (tgt := 136) hx hb dL_looks_112 (by decide) ?_
                refine lv_istore (lv' := [(5, .int 1), (8, .int r90), (7, .int (((16 * y60_6) + (5 * x1)) - ((16 * y60_6) + (5 * x1)) / 64 * 64)), (0, .ref (a 0)), (1, .int x1), (3, .int y60_3), (6, .int y60_6)]) hx hb dL_looks_136 hl (by decide) rfl (fun ls hl => ?_)
                refine lv_iinc (v := (y60_6 + 1)) (lv' := [(6, .int (y60_6 + 1)), (5, .int 1), (8, .int r90), (7, .int (((16 * y60_6) + (5 * x1)) - ((16 * y60_6) + (5 * x1)) / 64 * 64)), (0, .ref (a 0)), (1, .int x1), (3, .int y60_3)]) hx hb dL_looks_138 hl (k := 6) rfl rfl (by decide) rfl (fun ls hl => ?_)
                refine lv_goto (tgt := 60) hx hb dL_looks_141 (by decide) ?_
                exact bk60 1 (y60_6 + 1) z105_v _ _ _ hq hP hD hS (lv_sub hl [4, 5, 6, 1, 0] rfl)
    exact key _ y60_5 y60_6 z60_v H locs ls h0 (Nat.lt_succ_self _) hP hD hS hl
  have J54 : ∀ (y54_3 : Int32) (z54_v : V_X6) (z54_w : (Nat → Int32)) (H : Heap) (locs : List Loc) (ls : Array Slot), wp_L_looks_54 v x1 y54_3 z54_v z54_w Q → va_P (dC, dI) vwCl (wX6 cy a z54_v ++ cAI cy d 64 z54_w) H → va_D A (wX6 cy a z54_v ++ cAI cy d 64 z54_w) → va_S A s.heap H locs → lv_has ls 9 [(0, .ref (a 0)), (1, .int x1), (3, .int y54_3)] → W p l e (headSpec wsL_looks ({ frames := 8, cells := 1, slots := 64, locals := 187 } : Room)).room s m ([.ref (a 0), .int x1] : List Value).toArray below meth c H locs 1 64 (MQ below (q_L_looks dC dI cy a v x1 Q A) ([.ref (a 0), .int x1] : List Value).toArray s 1 64 A) (F0 m 54 ls []) := by
    intro y54_3 z54_v z54_w H locs ls hq hP hD hS hl
    unfold wp_L_looks_54 at hq
    refine lv_iconst (v := 0) hx hb dL_looks_54 (by decide) ?_
    refine lv_istore (lv' := [(5, .int 0), (0, .ref (a 0)), (1, .int x1), (3, .int y54_3)]) hx hb dL_looks_55 hl (by decide) rfl (fun ls hl => ?_)
    refine lv_iconst (v := 0) hx hb dL_looks_57 (by decide) ?_
    refine lv_istore (lv' := [(6, .int 0), (5, .int 0), (0, .ref (a 0)), (1, .int x1), (3, .int y54_3)]) hx hb dL_looks_58 hl (by decide) rfl (fun ls hl => ?_)
    exact J60 y54_3 z54_w 0 0 z54_v _ _ _ hq hP hD hS (lv_sub hl [2, 3, 4, 1, 0] rfl)
  have J50 : ∀ (y50_3 : Int32) (z50_v : V_X6) (z50_w : (Nat → Int32)) (H : Heap) (locs : List Loc) (ls : Array Slot), wp_L_looks_50 v x1 y50_3 z50_v z50_w Q → va_P (dC, dI) vwCl (wX6 cy a z50_v ++ cAI cy d 64 z50_w) H → va_D A (wX6 cy a z50_v ++ cAI cy d 64 z50_w) → va_S A s.heap H locs → lv_has ls 9 [(0, .ref (a 0)), (1, .int x1), (3, .int y50_3)] → W p l e (headSpec wsL_looks ({ frames := 8, cells := 1, slots := 64, locals := 187 } : Room)).room s m ([.ref (a 0), .int x1] : List Value).toArray below meth c H locs 1 64 (MQ below (q_L_looks dC dI cy a v x1 Q A) ([.ref (a 0), .int x1] : List Value).toArray s 1 64 A) (F0 m 50 ls []) := by
    intro y50_3 z50_v z50_w H locs ls hq hP hD hS hl
    unfold wp_L_looks_50 at hq
    refine lv_iconst (v := 1) hx hb dL_looks_50 (by decide) ?_
    refine lv_goto (tgt := 55) hx hb dL_looks_51 (by decide) ?_
    refine lv_istore (lv' := [(5, .int 1), (0, .ref (a 0)), (1, .int x1), (3, .int y50_3)]) hx hb dL_looks_55 hl (by decide) rfl (fun ls hl => ?_)
    refine lv_iconst (v := 0) hx hb dL_looks_57 (by decide) ?_
    refine lv_istore (lv' := [(6, .int 0), (5, .int 1), (0, .ref (a 0)), (1, .int x1), (3, .int y50_3)]) hx hb dL_looks_58 hl (by decide) rfl (fun ls hl => ?_)
    exact J60 y50_3 z50_w 1 0 z50_v _ _ _ hq hP hD hS (lv_sub hl [2, 3, 4, 1, 0] rfl)
  have J33 : ∀ (y33_3 : Int32) (y33_4 : Int32) (z33_v : V_X6) (z33_w : (Nat → Int32)) (H : Heap) (locs : List Loc) (ls : Array Slot), wp_L_looks_33 v x1 y33_3 y33_4 z33_v z33_w Q → va_P (dC, dI) vwCl (wX6 cy a z33_v ++ cAI cy d 64 z33_w) H → va_D A (wX6 cy a z33_v ++ cAI cy d 64 z33_w) → va_S A s.heap H locs → lv_has ls 9 [(0, .ref (a 0)), (1, .int x1), (2, .ref (d 0)), (3, .int y33_3), (4, .int y33_4)] → W p l e (headSpec wsL_looks ({ frames := 8, cells := 1, slots := 64, locals := 187 } : Room)).room s m ([.ref (a 0), .int x1] : List Value).toArray below meth c H locs 1 64 (MQ below (q_L_looks dC dI cy a v x1 Q A) ([.ref (a 0), .int x1] : List Value).toArray s 1 64 A) (F0 m 33 ls []) := by
    intro y33_3 y33_4 z33_v z33_w H locs ls hq hP hD hS hl
    unfold wp_L_looks_33 at hq
    refine lv_iload hx hb dL_looks_33 (lv_at hl 4 rfl) ?_
    obtain ⟨hqA, hqB⟩ := hq
    refine lv_if_eq (tgt := 50) hx hb dL_looks_35 (by decide) (fun c15 => ?_) (fun c15 => ?_)
    · have hq := hqA c15
      exact J50 y33_3 z33_v z33_w  _ _ _ hq hP hD hS (lv_sub hl [0, 1, 3] rfl)
    · have hq := hqB c15
      refine lv_aload_n hx hb dL_looks_38 rfl (lv_at hl 0 rfl) ?_
      refine lv_iload_n hx hb dL_looks_39 rfl (lv_at hl 1 rfl) ?_
      refine lv_iload hx hb dL_looks_40 (lv_at hl 4 rfl) ?_
      obtain ⟨g13, hq⟩ := hq
      refine lv_irem hx hb dL_looks_42 g13 ?_
      refine lv_aload_n hx hb dL_looks_43 rfl (lv_at hl 2 rfl) ?_
      have hFc := xfree_same hS hAe0 (ws := (wX6 cy a z33_v ++ cAI cy d 64 z33_w)) hD
      refine va_calli (va_runS (As := [.ref (a 0), .int (x1 - x1 / y33_4 * y33_4), .ref (d 0)]) (rest := []) ⟨hx, hb, hml, hown, hts⟩ (c_L_isMole l dC dI cy a d _ z33_v 64 z33_w (x1 - x1 / y33_4 * y33_4) _ hq) (va_cwS 3 hts gL_looks_L_isMole rfl rfl rfl (by decide +kernel) ⟨Nat.le_of_ble_eq_true rfl, Nat.le_of_ble_eq_true rfl⟩) ⟨xPre_blindE, xPre_ofE hP hK hD hE hS hFc⟩ rfl rfl hl.1 rfl (lv_room (Nat.le_of_ble_eq_true rfl)) dL_looks_44 ⟨Nat.le_of_ble_eq_true rfl, Nat.le_of_ble_eq_true rfl⟩) hS (fun q _ h => hFc q h) hFc (fun r44 u9 t H locs ht hvm hq hB hz1 hk1 hS => ?_)
      obtain ⟨z44_v, z44_w⟩ := u9
      obtain ⟨hP1, -, hD1⟩ := hB
      rw [ht] at hP1
      have hP : va_P (dC, dI) vwCl (wX6 cy a z44_v ++ cAI cy d 64 z44_w) H := hP1
      have hD : va_D A (wX6 cy a z44_v ++ cAI cy d 64 z44_w) := hD1.weaken (fun _ q _ h => hFc q.1 h)
      obtain ⟨hqA, hqB⟩ := hq
      refine lv_if_eq (tgt := 54) hx hb dL_looks_47 (by decide) (fun c14 => ?_) (fun c14 => ?_)
      · have hq := hqA c14
        exact J54 y33_3 z44_v z44_w  _ _ _ hq hP hD hS (lv_sub hl [0, 1, 3] rfl)
      · have hq := hqB c14
        exact J50 y33_3 z44_v z44_w  _ _ _ hq hP hD hS (lv_sub hl [0, 1, 3] rfl)
  refine lv_astore_n (lv' := [(2, .ref (d 0)), (0, .ref (a 0)), (1, .int x1)]) hx hb dL_looks_4 rfl hl (by decide) rfl (fun ls hl => ?_)
  refine lv_aload_n hx hb dL_looks_5 rfl (lv_at hl 1 rfl) ?_
  refine lv_iconst (v := 4) hx hb dL_looks_6 (by decide) ?_
  have hC : ((rng 0 204).map (fun i => (wX6 cy a v ++ cAI cy d 64 (fun _ => 0))[i]?)) = (wX6 cy a v).map some := xC_left wX6_len
  have hPc := xsubP hP hC
  have hDc := xsubD hD (rng_nd 204 0) hC
  have hFc := va_free (wc := (wX6 cy a v)) hD hS hAe0 (rng 0 204) hC
  refine va_calli (va_runV (As := [.int 4]) (rest := []) ⟨hx, hb, hml, hown, hts⟩ (co_X6_count l dC dI cy a _ v 4 _ hq) (cwV 1 hts gL_looks_X6_count rfl rfl rfl (by decide +kernel) ⟨Nat.le_of_ble_eq_true rfl, Nat.le_of_ble_eq_true rfl⟩) ⟨xPre_blindE, va_recv hK hPc (ci := 6) (q0 := 0) rfl rfl, xPre_ofE hPc hK hDc hE hS hFc⟩ rfl rfl hl.1 rfl (lv_room (Nat.le_of_ble_eq_true rfl)) dL_looks_7 ⟨Nat.le_of_ble_eq_true rfl, Nat.le_of_ble_eq_true rfl⟩) hS (fun q _ h => hFc q h) hFc (fun r7 z7_v t H locs ht hvm hq hB hz1 hk1 hS => ?_)
  obtain ⟨hP1, -, hD1⟩ := hB
  rw [ht] at hP1
  obtain ⟨hP, hD⟩ := xj hP hD (rng 0 204) (wX6 cy a z7_v) (ws' := (wX6 cy a z7_v ++ cAI cy d 64 (fun _ => 0))) hC wX6_fst (xS_left wX6_len wX6_len) hk1 hFc hP1
  refine lv_istore_n (lv' := [(3, .int r7), (2, .ref (d 0)), (0, .ref (a 0)), (1, .int x1)]) hx hb dL_looks_10 rfl hl (by decide) rfl (fun ls hl => ?_)
  refine lv_aload_n hx hb dL_looks_11 rfl (lv_at hl 2 rfl) ?_
  refine lv_iconst (v := 1) hx hb dL_looks_12 (by decide) ?_
  have hC : ((rng 0 204).map (fun i => (wX6 cy a z7_v ++ cAI cy d 64 (fun _ => 0))[i]?)) = (wX6 cy a z7_v).map some := xC_left wX6_len
  have hPc := xsubP hP hC
  have hDc := xsubD hD (rng_nd 204 0) hC
  have hFc := va_free (wc := (wX6 cy a z7_v)) hD hS hAe0 (rng 0 204) hC
  refine va_calli (va_runV (As := [.int 1]) (rest := []) ⟨hx, hb, hml, hown, hts⟩ (co_X6_count l dC dI cy a _ z7_v 1 _ hq) (cwV 1 hts gL_looks_X6_count rfl rfl rfl (by decide +kernel) ⟨Nat.le_of_ble_eq_true rfl, Nat.le_of_ble_eq_true rfl⟩) ⟨xPre_blindE, va_recv hK hPc (ci := 6) (q0 := 0) rfl rfl, xPre_ofE hPc hK hDc hE hS hFc⟩ rfl rfl hl.1 rfl (lv_room (Nat.le_of_ble_eq_true rfl)) dL_looks_13 ⟨Nat.le_of_ble_eq_true rfl, Nat.le_of_ble_eq_true rfl⟩) hS (fun q _ h => hFc q h) hFc (fun r13 z13_v t H locs ht hvm hq hB hz1 hk1 hS => ?_)
  obtain ⟨hP1, -, hD1⟩ := hB
  rw [ht] at hP1
  obtain ⟨hP, hD⟩ := xj hP hD (rng 0 204) (wX6 cy a z13_v) (ws' := (wX6 cy a z13_v ++ cAI cy d 64 (fun _ => 0))) hC wX6_fst (xS_left wX6_len wX6_len) hk1 hFc hP1
  refine lv_istore (lv' := [(4, .int r13), (3, .int r7), (2, .ref (d 0)), (0, .ref (a 0)), (1, .int x1)]) hx hb dL_looks_16 hl (by decide) rfl (fun ls hl => ?_)
  refine lv_iload_n hx hb dL_looks_18 rfl (lv_at hl 1 rfl) ?_
  obtain ⟨hqA, hqB⟩ := hq
  refine lv_if_eq (tgt := 33) hx hb dL_looks_19 (by decide) (fun c18 => ?_) (fun c18 => ?_)
  · have hq := hqA c18
    exact J33 r7 r13 z13_v (fun _ => 0)  _ _ _ hq hP hD hS (lv_sub hl [3, 4, 2, 1, 0] rfl)
  · have hq := hqB c18
    refine lv_aload_n hx hb dL_looks_22 rfl (lv_at hl 3 rfl) ?_
    refine lv_iload_n hx hb dL_looks_23 rfl (lv_at hl 4 rfl) ?_
    refine lv_iload_n hx hb dL_looks_24 rfl (lv_at hl 1 rfl) ?_
    obtain ⟨g16, hq⟩ := hq
    refine lv_irem hx hb dL_looks_25 g16 ?_
    refine lv_aload_n hx hb dL_looks_26 rfl (lv_at hl 2 rfl) ?_
    have hFc := xfree_same hS hAe0 (ws := (wX6 cy a z13_v ++ cAI cy d 64 (fun _ => 0))) hD
    refine va_calli (va_runS (As := [.ref (a 0), .int (x1 - x1 / r7 * r7), .ref (d 0)]) (rest := []) ⟨hx, hb, hml, hown, hts⟩ (c_L_isTunnel l dC dI cy a d _ z13_v 64 (fun _ => 0) (x1 - x1 / r7 * r7) _ hq) (va_cwS 3 hts gL_looks_L_isTunnel rfl rfl rfl (by decide +kernel) ⟨Nat.le_of_ble_eq_true rfl, Nat.le_of_ble_eq_true rfl⟩) ⟨xPre_blindE, xPre_ofE hP hK hD hE hS hFc⟩ rfl rfl hl.1 rfl (lv_room (Nat.le_of_ble_eq_true rfl)) dL_looks_27 ⟨Nat.le_of_ble_eq_true rfl, Nat.le_of_ble_eq_true rfl⟩) hS (fun q _ h => hFc q h) hFc (fun r27 u9 t H locs ht hvm hq hB hz1 hk1 hS => ?_)
    obtain ⟨z27_v, z27_w⟩ := u9
    obtain ⟨hP1, -, hD1⟩ := hB
    rw [ht] at hP1
    have hP : va_P (dC, dI) vwCl (wX6 cy a z27_v ++ cAI cy d 64 z27_w) H := hP1
    have hD : va_D A (wX6 cy a z27_v ++ cAI cy d 64 z27_w) := hD1.weaken (fun _ q _ h => hFc q.1 h)
    obtain ⟨hqA, hqB⟩ := hq
    refine lv_if_eq (tgt := 54) hx hb dL_looks_30 (by decide) (fun c17 => ?_) (fun c17 => ?_)
    · have hq := hqA c17
      exact J54 r7 z27_v z27_w  _ _ _ hq hP hD hS (lv_sub hl [3, 4, 1] rfl)
    · have hq := hqB c17
      exact J33 r7 r13 z27_v z27_w  _ _ _ hq hP hD hS (lv_sub hl [3, 4, 2, 1, 0] rfl)
