def wb_X6_digest_149 (v : V_X6) (z149_v_paths : V_X2) (z149_v_spareR : V_X3) (z149_v_survey : V_X4) (z149_v_trial : V_X0) (y149_1 : Int64) (y149_3 : Int32) (B149 : Int64 → Int32 → Prop) (Q : Int64 → V_X2 → V_X3 → V_X4 → V_X0 → Prop) : Prop :=
  (((X5_length (X6_text v)) ≤ y149_3 → Q y149_1 z149_v_paths z149_v_spareR z149_v_survey z149_v_trial) ∧
  (¬ (X5_length (X6_text v)) ≤ y149_3 → vp_in y149_3 60 ∧ B149 ((31 * y149_1) + (((X5_codes (X6_text v)) y149_3.toNatClampNeg).toInt64)) (y149_3 + 1)))
def wp_X6_digest_149 (v : V_X6) (z149_v_paths : V_X2) (z149_v_spareR : V_X3) (z149_v_survey : V_X4) (z149_v_trial : V_X0) (y149_1 : Int64) (y149_3 : Int32) (Q : Int64 → V_X2 → V_X3 → V_X4 → V_X0 → Prop) : Prop :=
  ∃ (I : Int64 → Int32 → Prop) (μ : Int64 → Int32 → Nat), I y149_1 y149_3 ∧ ∀ (s0 : Int64) (s1 : Int32), I s0 s1 → wb_X6_digest_149 v z149_v_paths z149_v_spareR z149_v_survey z149_v_trial s0 s1 (fun t0 t1 => I t0 t1 ∧ μ t0 t1 < μ s0 s1) Q
def wb_X6_digest_79 (v : V_X6) (z79_v_paths : V_X2) (z79_v_spareR : V_X3) (z79_v_survey : V_X4) (z79_v_trial : V_X0) (y79_1 : Int64) (y79_3 : Int32) (B79 : Int64 → Int32 → Prop) (Q : Int64 → V_X2 → V_X3 → V_X4 → V_X0 → Prop) : Prop :=
  ((2 < y79_3 → wp_X6_beatsToMound ((X6_lawn v), (X6_snapshot v), z79_v_trial, (X6_savedR v), (X6_saved v), (X6_text v), z79_v_survey, z79_v_paths, (X6_snapshotTaken v), (X6_savedCount v), z79_v_spareR) (fun r109 z109_v_spareR z109_v_trial =>
  wp_X4_hollowCount z79_v_survey (fun r124 =>
  wp_X6_bitsOfShare r124 (fun r127 =>
  wp_X6_digest_149 v z79_v_paths z109_v_spareR z79_v_survey z109_v_trial ((31 * ((31 * ((31 * y79_1) + (r109.toInt64))) + r127)) + ((X5_length (X6_text v)).toInt64)) 0 Q)))) ∧
  (¬ 2 < y79_3 → wp_X6_numberOfTrial ((X6_lawn v), (X6_snapshot v), z79_v_trial, (X6_savedR v), (X6_saved v), (X6_text v), z79_v_survey, z79_v_paths, (X6_snapshotTaken v), (X6_savedCount v), z79_v_spareR) y79_3 (fun r91 =>
  B79 ((31 * y79_1) + (r91.toInt64)) (y79_3 + 1))))
def wp_X6_digest_79 (v : V_X6) (z79_v_paths : V_X2) (z79_v_spareR : V_X3) (z79_v_survey : V_X4) (z79_v_trial : V_X0) (y79_1 : Int64) (y79_3 : Int32) (Q : Int64 → V_X2 → V_X3 → V_X4 → V_X0 → Prop) : Prop :=
  ∃ (I : Int64 → Int32 → Prop) (μ : Int64 → Int32 → Nat), I y79_1 y79_3 ∧ ∀ (s0 : Int64) (s1 : Int32), I s0 s1 → wb_X6_digest_79 v z79_v_paths z79_v_spareR z79_v_survey z79_v_trial s0 s1 (fun t0 t1 => I t0 t1 ∧ μ t0 t1 < μ s0 s1) Q
def wb_X6_digest_17 (v : V_X6) (z17_v_survey : V_X4) (y17_1 : Int64) (y17_3 : Int32) (z17_v_paths : V_X2) (B17 : Int64 → Int32 → V_X2 → Prop) (Q : Int64 → V_X2 → V_X3 → V_X4 → V_X0 → Prop) : Prop :=
  ((14 < y17_3 → wp_X6_hashTufts (X6_s7 (X6_s6 v z17_v_survey) z17_v_paths) y17_1 (fun r44 =>
  wp_X6_hashMoles (X6_s7 (X6_s6 v z17_v_survey) z17_v_paths) r44 (fun r50 =>
  wp_X6_hashTunnels (X6_s7 (X6_s6 v z17_v_survey) z17_v_paths) r50 (fun r56 =>
  wp_X6_hashPaths (X6_s7 (X6_s6 v z17_v_survey) z17_v_paths) r56 (fun r62 z62_v_paths =>
  wp_X6_hashDigging (X6_s7 (X6_s6 v z17_v_survey) z62_v_paths) r62 (fun r68 =>
  wp_X6_tryBeats (X6_s7 (X6_s6 v z17_v_survey) z62_v_paths) 5 (fun z74_v_spareR z74_v_trial =>
  wp_X6_digest_79 v z62_v_paths z74_v_spareR z17_v_survey z74_v_trial r68 0 Q))))))) ∧
  (¬ 14 < y17_3 → wp_X6_numberOfAll (X6_s7 (X6_s6 v z17_v_survey) z17_v_paths) y17_3 (fun r30 z30_v_paths =>
  B17 ((31 * y17_1) + (r30.toInt64)) (y17_3 + 1) z30_v_paths)))
def wp_X6_digest_17 (v : V_X6) (z17_v_survey : V_X4) (y17_1 : Int64) (y17_3 : Int32) (z17_v_paths : V_X2) (Q : Int64 → V_X2 → V_X3 → V_X4 → V_X0 → Prop) : Prop :=
  ∃ (I : Int64 → Int32 → V_X2 → Prop) (μ : Int64 → Int32 → V_X2 → Nat), I y17_1 y17_3 z17_v_paths ∧ ∀ (s0 : Int64) (s1 : Int32) (s2 : V_X2), I s0 s1 s2 → wb_X6_digest_17 v z17_v_survey s0 s1 s2 (fun t0 t1 t2 => I t0 t1 t2 ∧ μ t0 t1 t2 < μ s0 s1 s2) Q
def wp_X6_digest (v : V_X6) (Q : Int64 → V_X2 → V_X3 → V_X4 → V_X0 → Prop) : Prop :=
  wp_X4_read (X6_survey v) (X6_lawn v) (fun z8_v_crossings z8_v_hollow z8_v_seenBy z8_v_sure =>
  wp_X6_digest_17 v (z8_v_hollow, z8_v_crossings, z8_v_sure, z8_v_seenBy) 3631 0 (X6_paths v) Q)
def q_X6_digest (dC : Nat → ClassId) (dI : Nat → Nat → Nat) (cy : Nat → ClassId) (a : Nat → Nat) (v : V_X6) (Q : Int64 → V_X2 → V_X3 → V_X4 → V_X0 → Prop) (A : Nat → Prop) : Array Value → State → Outcome → State → Prop := va_Ql (fun (r : Int64) (u : V_X2 × V_X3 × V_X4 × V_X0) => Q r u.1 u.2.1 u.2.2.1 u.2.2.2) (fun (u : V_X2 × V_X3 × V_X4 × V_X0) t => xAt dC dI cy A (cX6 cy a (X6_lawn v) (X6_snapshot v) u.2.2.2 (X6_savedR v) (X6_saved v) (X6_text v) u.2.2.1 u.1 (X6_snapshotTaken v) (X6_savedCount v) u.2.1) t) A
set_option maxHeartbeats 4000000 in
set_option maxRecDepth 100000 in
theorem c_X6_digest (l : Launch) (dC : Nat → ClassId) (dI : Nat → Nat → Nat) (cy : Nat → ClassId) (a : Nat → Nat) (sz : Nat) (v : V_X6) (Q : Int64 → V_X2 → V_X3 → V_X4 → V_X0 → Prop) (hq : wp_X6_digest v Q) : Met l yX6_digest wsX6_digest ({ frames := 7, cells := 0, slots := 0, locals := 165 } : Room) (va_Pc [.ref (a 0)] (xPreE dC dI cy (wX6 cy a v) sz)) (q_X6_digest dC dI cy a v Q (va_A (wX6 cy a v) sz)) 0 0 (va_A (wX6 cy a v) sz) := by
  refine Met.ofW (cc := cX6_digest) (maxL := 4) (ret := (some .long)) (by decide) rfl ?_
  intro p e s m args below meth c s₁ B hml hv
  obtain ⟨rfl, hsz, hP, hK, hD0, hE⟩ := hv
  have hx := B.exec
  have hb := B.bytes
  have hr := B.returns
  have hts := atoms_spec (ws := wsX6_digest) B.pre
  have hown : s.vm.findClass RX6 = some m.cls := findClass_of_methodNamed B.named
  have hlocks := B.notSynchronized
  subst hsz
  have hD := hD0.self (sz := s.heap.size)
  generalize hAe : va_A (wX6 cy a v) s.heap.size = A at hD hE ⊢
  have hAe0 : ∀ q : Nat, s.heap.size ≤ q → A q := fun q h => by rw [← hAe]; exact Or.inr h
  have hS : va_S A s.heap s.heap [] := va_S.rf
  have hl := lv_entry ([.ref (a 0)]) (n := 4) (Nat.le_of_ble_eq_true rfl)
  rw [lg_entry_eq]
  generalize (lg_sl ([.ref (a 0)]) ++ List.replicate (4 - (lg_sl ([.ref (a 0)])).length) Slot.unset).toArray = ls at hl ⊢
  have hl : lv_has ls 4 [(0, .ref (a 0))] := hl
  have lk0 := hts (Cond.fieldLink RX6 34 "MolesLawn" "text" "LMolesLawn$Text;") (List.mem_cons_of_mem _ (List.mem_append_left _ (List.mem_append_left _ (List.mem_append_left _ (List.mem_append_left _ (List.mem_append_left _ (List.mem_append_left _ (List.mem_append_left _ (List.mem_append_left _ (List.mem_of_getElem? (i := 4) rfl))))))))))
  have lk1 := hts (Cond.fieldLink RX6 148 "MolesLawn$Text" "length" "I") (List.mem_cons_of_mem _ (List.mem_append_left _ (List.mem_append_left _ (List.mem_append_left _ (List.mem_append_left _ (List.mem_append_left _ (List.mem_append_left _ (List.mem_append_left _ (List.mem_append_left _ (List.mem_of_getElem? (i := 5) rfl))))))))))
  have lk2 := hts (Cond.constantLong RX6 252 (31)) (List.mem_cons_of_mem _ (List.mem_append_left _ (List.mem_append_left _ (List.mem_append_left _ (List.mem_append_left _ (List.mem_append_left _ (List.mem_append_left _ (List.mem_append_left _ (List.mem_append_left _ (List.mem_of_getElem? (i := 3) rfl))))))))))
  have lk3 := hts (Cond.fieldLink RX6 165 "MolesLawn$Text" "codes" "[I") (List.mem_cons_of_mem _ (List.mem_append_left _ (List.mem_append_left _ (List.mem_append_left _ (List.mem_append_left _ (List.mem_append_left _ (List.mem_append_left _ (List.mem_append_left _ (List.mem_append_left _ (List.mem_of_getElem? (i := 6) rfl))))))))))
  have lk4 := hts (Cond.fieldLink RX6 41 "MolesLawn" "survey" "LMolesLawn$Survey;") (List.mem_cons_of_mem _ (List.mem_append_left _ (List.mem_append_left _ (List.mem_append_left _ (List.mem_append_left _ (List.mem_append_left _ (List.mem_append_left _ (List.mem_append_left _ (List.mem_append_left _ (List.mem_of_getElem? (i := 0) rfl))))))))))
  have lk5 := hts (Cond.fieldLink RX6 15 "MolesLawn" "lawn" "LMolesLawn$Lawn;") (List.mem_cons_of_mem _ (List.mem_append_left _ (List.mem_append_left _ (List.mem_append_left _ (List.mem_append_left _ (List.mem_append_left _ (List.mem_append_left _ (List.mem_append_left _ (List.mem_append_left _ (List.mem_of_getElem? (i := 1) rfl))))))))))
  have lk6 := hts (Cond.constantLong RX6 250 (3631)) (List.mem_cons_of_mem _ (List.mem_append_left _ (List.mem_append_left _ (List.mem_append_left _ (List.mem_append_left _ (List.mem_append_left _ (List.mem_append_left _ (List.mem_append_left _ (List.mem_append_left _ (List.mem_of_getElem? (i := 2) rfl))))))))))
  have iK5 : ∀ w ∈ wsX50, w ∈ wsX6_digest := fun _ h => (List.mem_cons_of_mem _ (List.mem_append_left _ (List.mem_append_left _ (List.mem_append_left _ (List.mem_append_left _ (List.mem_append_left _ (List.mem_append_right _ h)))))))
  have iK6 : ∀ w ∈ wsX60, w ∈ wsX6_digest := fun _ h => (List.mem_cons_of_mem _ (List.mem_append_left _ (List.mem_append_left _ (List.mem_append_left _ (List.mem_append_left _ (List.mem_append_left _ (List.mem_append_left _ (List.mem_append_right _ h))))))))
  unfold wp_X6_digest at hq
  have J149 : ∀ (z149_v_paths : V_X2) (z149_v_spareR : V_X3) (z149_v_survey : V_X4) (z149_v_trial : V_X0) (y149_1 : Int64) (y149_3 : Int32) (H : Heap) (locs : List Loc) (ls : Array Slot), wp_X6_digest_149 v z149_v_paths z149_v_spareR z149_v_survey z149_v_trial y149_1 y149_3 Q → va_P (dC, dI) vwCl (cX6 cy a (X6_lawn v) (X6_snapshot v) z149_v_trial (X6_savedR v) (X6_saved v) (X6_text v) z149_v_survey z149_v_paths (X6_snapshotTaken v) (X6_savedCount v) z149_v_spareR) H → va_D A (cX6 cy a (X6_lawn v) (X6_snapshot v) z149_v_trial (X6_savedR v) (X6_saved v) (X6_text v) z149_v_survey z149_v_paths (X6_snapshotTaken v) (X6_savedCount v) z149_v_spareR) → va_S A s.heap H locs → lv_has ls 4 [(0, .ref (a 0)), (1, .long y149_1), (3, .int y149_3)] → W p l e (headSpec wsX6_digest ({ frames := 7, cells := 0, slots := 0, locals := 165 } : Room)).room s m ([.ref (a 0)] : List Value).toArray below meth c H locs 0 0 (MQ below (q_X6_digest dC dI cy a v Q A) ([.ref (a 0)] : List Value).toArray s 0 0 A) (F0 m 149 ls []) := by
    intro z149_v_paths z149_v_spareR z149_v_survey z149_v_trial y149_1 y149_3 H locs ls hq hP hD hS hl
    obtain ⟨I149, μ149, h0, hs149⟩ := hq
    have key : ∀ (n : Nat) (y149_1 : Int64) (y149_3 : Int32) (H : Heap) (locs : List Loc) (ls : Array Slot), I149 y149_1 y149_3 → μ149 y149_1 y149_3 < n → va_P (dC, dI) vwCl (cX6 cy a (X6_lawn v) (X6_snapshot v) z149_v_trial (X6_savedR v) (X6_saved v) (X6_text v) z149_v_survey z149_v_paths (X6_snapshotTaken v) (X6_savedCount v) z149_v_spareR) H → va_D A (cX6 cy a (X6_lawn v) (X6_snapshot v) z149_v_trial (X6_savedR v) (X6_saved v) (X6_text v) z149_v_survey z149_v_paths (X6_snapshotTaken v) (X6_savedCount v) z149_v_spareR) → va_S A s.heap H locs → lv_has ls 4 [(0, .ref (a 0)), (1, .long y149_1), (3, .int y149_3)] → W p l e (headSpec wsX6_digest ({ frames := 7, cells := 0, slots := 0, locals := 165 } : Room)).room s m ([.ref (a 0)] : List Value).toArray below meth c H locs 0 0 (MQ below (q_X6_digest dC dI cy a v Q A) ([.ref (a 0)] : List Value).toArray s 0 0 A) (F0 m 149 ls []) := by
      intro n
      induction n with
      | zero => intro y149_1 y149_3 H locs ls _ hm; exact absurd hm (Nat.not_lt_zero _)
      | succ n ih =>
        intro y149_1 y149_3 H locs ls hI hm hP hD hS hl
        have hq := hs149 y149_1 y149_3 hI
        generalize hB149 : (fun (t0 : Int64) (t1 : Int32) => I149 t0 t1 ∧ μ149 t0 t1 < μ149 y149_1 y149_3) = B149 at hq
        have bk149 : ∀ (y149_1 : Int64) (y149_3 : Int32) (H : Heap) (locs : List Loc) (ls : Array Slot), B149 y149_1 y149_3 → va_P (dC, dI) vwCl (cX6 cy a (X6_lawn v) (X6_snapshot v) z149_v_trial (X6_savedR v) (X6_saved v) (X6_text v) z149_v_survey z149_v_paths (X6_snapshotTaken v) (X6_savedCount v) z149_v_spareR) H → va_D A (cX6 cy a (X6_lawn v) (X6_snapshot v) z149_v_trial (X6_savedR v) (X6_saved v) (X6_text v) z149_v_survey z149_v_paths (X6_snapshotTaken v) (X6_savedCount v) z149_v_spareR) → va_S A s.heap H locs → lv_has ls 4 [(0, .ref (a 0)), (1, .long y149_1), (3, .int y149_3)] → W p l e (headSpec wsX6_digest ({ frames := 7, cells := 0, slots := 0, locals := 165 } : Room)).room s m ([.ref (a 0)] : List Value).toArray below meth c H locs 0 0 (MQ below (q_X6_digest dC dI cy a v Q A) ([.ref (a 0)] : List Value).toArray s 0 0 A) (F0 m 149 ls []) := by
          intro y149_1 y149_3 H locs ls h
          rw [← hB149] at h
          exact ih y149_1 y149_3 H locs ls h.1 (Nat.lt_of_lt_of_le h.2 (Nat.le_of_lt_succ hm))
        unfold wb_X6_digest_149 at hq
        refine lv_iload_n hx hb dX6_digest_149 rfl (lv_at hl 2 rfl) ?_
        refine lv_aload_n hx hb dX6_digest_150 rfl (lv_at hl 0 rfl) ?_
        refine va_get (D := (dC, dI)) (ci := 6) (v := .ref (a 194)) (C := RX6) (T := TX6) (N := 9) hx hb hts iK6 hown hK hP 0 rfl rfl 4 (by decide) lk0 (fun _ h9 => h9) rfl dX6_digest_151 ?_
        refine va_get (D := (dC, dI)) (ci := 5) (v := .int (X5_length (X6_text v))) (C := RX5) (T := TX5) (N := 2) hx hb hts iK5 hown hK hP 194 rfl rfl 1 (by decide) lk1 (fun _ h9 => h9) rfl dX6_digest_154 ?_
        obtain ⟨hqA, hqB⟩ := hq
        refine lv_icmp_ge (tgt := 183) hx hb dX6_digest_157 (by decide) (fun c2 => ?_) (fun c2 => ?_)
        · have hq := hqA c2
          refine lv_lload_n hx hb dX6_digest_183 rfl (lv_at hl 1 rfl) ?_
          exact W.lret (v := y149_1) hx hb hr (fun t ht hW => ⟨⟨y149_1, (z149_v_paths, z149_v_spareR, z149_v_survey, z149_v_trial), rfl, hq, (xAt_of hP hK hD ht hW)⟩, hS.F ht⟩) hS.2.2 dX6_digest_184
        · have hq := hqB c2
          refine lv_ldc2 (v := 31) hx hb hown lk2 dX6_digest_160 ?_
          refine lv_lload_n hx hb dX6_digest_163 rfl (lv_at hl 1 rfl) ?_
          refine lv_lmul hx hb dX6_digest_164 ?_
          refine lv_aload_n hx hb dX6_digest_165 rfl (lv_at hl 0 rfl) ?_
          refine va_get (D := (dC, dI)) (ci := 6) (v := .ref (a 194)) (C := RX6) (T := TX6) (N := 9) hx hb hts iK6 hown hK hP 0 rfl rfl 4 (by decide) lk0 (fun _ h9 => h9) rfl dX6_digest_166 ?_
          refine va_get (D := (dC, dI)) (ci := 5) (v := .ref (a 195)) (C := RX5) (T := TX5) (N := 2) hx hb hts iK5 hown hK hP 194 rfl rfl 0 (by decide) lk3 (fun _ h9 => h9) rfl dX6_digest_169 ?_
          refine lv_iload_n hx hb dX6_digest_172 rfl (lv_at hl 2 rfl) ?_
          obtain ⟨g1, hq⟩ := hq
          refine va_iald hx hb hK hP 195 0 rfl rfl g1 dX6_digest_173 ?_
          refine lv_i2l hx hb dX6_digest_174 rfl ?_
          refine lv_ladd hx hb dX6_digest_175 ?_
          refine lv_lstore_n (lv' := [(1, .long ((31 * y149_1) + (((X5_codes (X6_text v)) y149_3.toNatClampNeg).toInt64))), (0, .ref (a 0)), (3, .int y149_3)]) hx hb dX6_digest_176 rfl hl (by decide) rfl (fun ls hl => ?_)
          refine lv_iinc (v := (y149_3 + 1)) (lv' := [(3, .int (y149_3 + 1)), (1, .long ((31 * y149_1) + (((X5_codes (X6_text v)) y149_3.toNatClampNeg).toInt64))), (0, .ref (a 0))]) hx hb dX6_digest_177 hl (k := 2) rfl rfl (by decide) rfl (fun ls hl => ?_)
          refine lv_goto (tgt := 149) hx hb dX6_digest_180 (by decide) ?_
          exact bk149 ((31 * y149_1) + (((X5_codes (X6_text v)) y149_3.toNatClampNeg).toInt64)) (y149_3 + 1) _ _ _ hq hP hD hS (lv_sub hl [2, 1, 0] rfl)
    exact key _ y149_1 y149_3 H locs ls h0 (Nat.lt_succ_self _) hP hD hS hl
  have J79 : ∀ (z79_v_paths : V_X2) (z79_v_spareR : V_X3) (z79_v_survey : V_X4) (z79_v_trial : V_X0) (y79_1 : Int64) (y79_3 : Int32) (H : Heap) (locs : List Loc) (ls : Array Slot), wp_X6_digest_79 v z79_v_paths z79_v_spareR z79_v_survey z79_v_trial y79_1 y79_3 Q → va_P (dC, dI) vwCl (cX6 cy a (X6_lawn v) (X6_snapshot v) z79_v_trial (X6_savedR v) (X6_saved v) (X6_text v) z79_v_survey z79_v_paths (X6_snapshotTaken v) (X6_savedCount v) z79_v_spareR) H → va_D A (cX6 cy a (X6_lawn v) (X6_snapshot v) z79_v_trial (X6_savedR v) (X6_saved v) (X6_text v) z79_v_survey z79_v_paths (X6_snapshotTaken v) (X6_savedCount v) z79_v_spareR) → va_S A s.heap H locs → lv_has ls 4 [(0, .ref (a 0)), (1, .long y79_1), (3, .int y79_3)] → W p l e (headSpec wsX6_digest ({ frames := 7, cells := 0, slots := 0, locals := 165 } : Room)).room s m ([.ref (a 0)] : List Value).toArray below meth c H locs 0 0 (MQ below (q_X6_digest dC dI cy a v Q A) ([.ref (a 0)] : List Value).toArray s 0 0 A) (F0 m 79 ls []) := by
    intro z79_v_paths z79_v_spareR z79_v_survey z79_v_trial y79_1 y79_3 H locs ls hq hP hD hS hl
    obtain ⟨I79, μ79, h0, hs79⟩ := hq
    have key : ∀ (n : Nat) (y79_1 : Int64) (y79_3 : Int32) (H : Heap) (locs : List Loc) (ls : Array Slot), I79 y79_1 y79_3 → μ79 y79_1 y79_3 < n → va_P (dC, dI) vwCl (cX6 cy a (X6_lawn v) (X6_snapshot v) z79_v_trial (X6_savedR v) (X6_saved v) (X6_text v) z79_v_survey z79_v_paths (X6_snapshotTaken v) (X6_savedCount v) z79_v_spareR) H → va_D A (cX6 cy a (X6_lawn v) (X6_snapshot v) z79_v_trial (X6_savedR v) (X6_saved v) (X6_text v) z79_v_survey z79_v_paths (X6_snapshotTaken v) (X6_savedCount v) z79_v_spareR) → va_S A s.heap H locs → lv_has ls 4 [(0, .ref (a 0)), (1, .long y79_1), (3, .int y79_3)] → W p l e (headSpec wsX6_digest ({ frames := 7, cells := 0, slots := 0, locals := 165 } : Room)).room s m ([.ref (a 0)] : List Value).toArray below meth c H locs 0 0 (MQ below (q_X6_digest dC dI cy a v Q A) ([.ref (a 0)] : List Value).toArray s 0 0 A) (F0 m 79 ls []) := by
      intro n
      induction n with
      | zero => intro y79_1 y79_3 H locs ls _ hm; exact absurd hm (Nat.not_lt_zero _)
      | succ n ih =>
        intro y79_1 y79_3 H locs ls hI hm hP hD hS hl
        have hq := hs79 y79_1 y79_3 hI
        generalize hB79 : (fun (t0 : Int64) (t1 : Int32) => I79 t0 t1 ∧ μ79 t0 t1 < μ79 y79_1 y79_3) = B79 at hq
        have bk79 : ∀ (y79_1 : Int64) (y79_3 : Int32) (H : Heap) (locs : List Loc) (ls : Array Slot), B79 y79_1 y79_3 → va_P (dC, dI) vwCl (cX6 cy a (X6_lawn v) (X6_snapshot v) z79_v_trial (X6_savedR v) (X6_saved v) (X6_text v) z79_v_survey z79_v_paths (X6_snapshotTaken v) (X6_savedCount v) z79_v_spareR) H → va_D A (cX6 cy a (X6_lawn v) (X6_snapshot v) z79_v_trial (X6_savedR v) (X6_saved v) (X6_text v) z79_v_survey z79_v_paths (X6_snapshotTaken v) (X6_savedCount v) z79_v_spareR) → va_S A s.heap H locs → lv_has ls 4 [(0, .ref (a 0)), (1, .long y79_1), (3, .int y79_3)] → W p l e (headSpec wsX6_digest ({ frames := 7, cells := 0, slots := 0, locals := 165 } : Room)).room s m ([.ref (a 0)] : List Value).toArray below meth c H locs 0 0 (MQ below (q_X6_digest dC dI cy a v Q A) ([.ref (a 0)] : List Value).toArray s 0 0 A) (F0 m 79 ls []) := by
          intro y79_1 y79_3 H locs ls h
          rw [← hB79] at h
          exact ih y79_1 y79_3 H locs ls h.1 (Nat.lt_of_lt_of_le h.2 (Nat.le_of_lt_succ hm))
        unfold wb_X6_digest_79 at hq
        refine lv_iload_n hx hb dX6_digest_79 rfl (lv_at hl 2 rfl) ?_
        refine lv_iconst (v := 2) hx hb dX6_digest_80 (by decide) ?_
        obtain ⟨hqA, hqB⟩ := hq
        refine lv_icmp_gt (tgt := 103) hx hb dX6_digest_81 (by decide) (fun c3 => ?_) (fun c3 => ?_)
        · have hq := hqA c3
          refine lv_ldc2 (v := 31) hx hb hown lk2 dX6_digest_103 ?_
          refine lv_lload_n hx hb dX6_digest_106 rfl (lv_at hl 1 rfl) ?_
          refine lv_lmul hx hb dX6_digest_107 ?_
          refine lv_aload_n hx hb dX6_digest_108 rfl (lv_at hl 0 rfl) ?_
          have hFc := xfree_same hS hAe0 (ws := (cX6 cy a (X6_lawn v) (X6_snapshot v) z79_v_trial (X6_savedR v) (X6_saved v) (X6_text v) z79_v_survey z79_v_paths (X6_snapshotTaken v) (X6_savedCount v) z79_v_spareR)) hD
          refine va_calli (va_runV (As := []) (rest := [.long (31 * y79_1)]) ⟨hx, hb, hml, hown, hts⟩ (c_X6_beatsToMound l dC dI cy a _ ((X6_lawn v), (X6_snapshot v), z79_v_trial, (X6_savedR v), (X6_saved v), (X6_text v), z79_v_survey, z79_v_paths, (X6_snapshotTaken v), (X6_savedCount v), z79_v_spareR) _ hq) (cwV 0 hts gX6_digest_X6_beatsToMound rfl rfl rfl (by decide +kernel) ⟨Nat.le_of_ble_eq_true rfl, Nat.le_of_ble_eq_true rfl⟩) ⟨xPre_blindE, va_recv hK hP (ci := 6) (q0 := 0) rfl rfl, xPre_ofE hP hK hD hE hS hFc⟩ rfl rfl hl.1 rfl (lv_room (Nat.le_of_ble_eq_true rfl)) dX6_digest_109 ⟨Nat.le_of_ble_eq_true rfl, Nat.le_of_ble_eq_true rfl⟩) hS (fun q _ h => hFc q h) hFc (fun r109 u9 t H locs ht hvm hq hB hz1 hk1 hS => ?_)
          obtain ⟨z109_v_spareR, z109_v_trial⟩ := u9
          obtain ⟨hP1, -, hD1⟩ := hB
          rw [ht] at hP1
          have hP : va_P (dC, dI) vwCl (cX6 cy a (X6_lawn v) (X6_snapshot v) z109_v_trial (X6_savedR v) (X6_saved v) (X6_text v) z79_v_survey z79_v_paths (X6_snapshotTaken v) (X6_savedCount v) z109_v_spareR) H := hP1
          have hD : va_D A (cX6 cy a (X6_lawn v) (X6_snapshot v) z109_v_trial (X6_savedR v) (X6_saved v) (X6_text v) z79_v_survey z79_v_paths (X6_snapshotTaken v) (X6_savedCount v) z109_v_spareR) := hD1.weaken (fun _ q _ h => hFc q.1 h)
          refine lv_i2l hx hb dX6_digest_112 rfl ?_
          refine lv_ladd hx hb dX6_digest_113 ?_
          refine lv_lstore_n (lv' := [(1, .long ((31 * y79_1) + (r109.toInt64))), (0, .ref (a 0)), (3, .int y79_3)]) hx hb dX6_digest_114 rfl hl (by decide) rfl (fun ls hl => ?_)
          refine lv_ldc2 (v := 31) hx hb hown lk2 dX6_digest_115 ?_
          refine lv_lload_n hx hb dX6_digest_118 rfl (lv_at hl 0 rfl) ?_
          refine lv_lmul hx hb dX6_digest_119 ?_
          refine lv_aload_n hx hb dX6_digest_120 rfl (lv_at hl 1 rfl) ?_
          refine va_get (D := (dC, dI)) (ci := 6) (v := .ref (a 196)) (C := RX6) (T := TX6) (N := 9) hx hb hts iK6 hown hK hP 0 rfl rfl 5 (by decide) lk4 (fun _ h9 => h9) rfl dX6_digest_121 ?_
          have hC : (([196, 197, 198, 199, 200] : List Nat).map (fun i => (cX6 cy a (X6_lawn v) (X6_snapshot v) z109_v_trial (X6_savedR v) (X6_saved v) (X6_text v) z79_v_survey z79_v_paths (X6_snapshotTaken v) (X6_savedCount v) z109_v_spareR)[i]?)) = (wX4 cy (sh a 196) z79_v_survey).map some := (xC_one (n := 196) (m := 5) rfl rfl rfl)
          have hPc := xsubP hP hC
          have hDc := xsubD hD (by decide) hC
          have hFc := va_free (wc := (wX4 cy (sh a 196) z79_v_survey)) hD hS hAe0 [196, 197, 198, 199, 200] hC
          refine va_calli (va_runV (As := []) (rest := [.long (31 * ((31 * y79_1) + (r109.toInt64)))]) ⟨hx, hb, hml, hown, hts⟩ (c_X4_hollowCount l dC dI cy (sh a 196) _ z79_v_survey _ hq) (cwV 0 hts gX6_digest_X4_hollowCount rfl rfl rfl (by decide +kernel) ⟨Nat.le_of_ble_eq_true rfl, Nat.le_of_ble_eq_true rfl⟩) ⟨xPre_blind, va_recv hK hP (ci := 4) (q0 := 196) rfl rfl, xPre_of hPc hK hDc⟩ rfl rfl hl.1 rfl (lv_room (Nat.le_of_ble_eq_true rfl)) dX6_digest_124 ⟨Nat.le_of_ble_eq_true rfl, Nat.le_of_ble_eq_true rfl⟩) hS (fun q _ h => hFc q h) hFc (fun r124 u9 t H locs ht hvm hq hB hz1 hk1 hS => ?_)
          obtain ⟨hP1, -, hD1⟩ := hB
          rw [ht] at hP1
          have hP : va_P (dC, dI) vwCl (cX6 cy a (X6_lawn v) (X6_snapshot v) z109_v_trial (X6_savedR v) (X6_saved v) (X6_text v) z79_v_survey z79_v_paths (X6_snapshotTaken v) (X6_savedCount v) z109_v_spareR) H := xj_keep hP hD [196, 197, 198, 199, 200] hC hP1 hk1
          have hFc := xfree_none hS hAe0
          refine va_calll (va_runS (As := [.int r124]) (rest := [.long (31 * ((31 * y79_1) + (r109.toInt64)))]) ⟨hx, hb, hml, hown, hts⟩ (c_X6_bitsOfShare l dC dI cy  _ r124 _ hq) (va_cwS 1 hts gX6_digest_X6_bitsOfShare rfl rfl rfl (by decide +kernel) ⟨Nat.le_of_ble_eq_true rfl, Nat.le_of_ble_eq_true rfl⟩) ⟨xPre_blind, xPre_of xP_nil hK (xD_nil (A := A))⟩ rfl rfl hl.1 rfl (lv_room (Nat.le_of_ble_eq_true rfl)) dX6_digest_127 ⟨Nat.le_of_ble_eq_true rfl, Nat.le_of_ble_eq_true rfl⟩) hS (fun q _ h => hFc q h) hFc (fun r127 u9 t H locs ht hvm hq hB hz1 hk1 hS => ?_)
          have hP := xj_none hP hk1
          refine lv_ladd hx hb dX6_digest_130 ?_
          refine lv_lstore_n (lv' := [(1, .long ((31 * ((31 * y79_1) + (r109.toInt64))) + r127)), (0, .ref (a 0)), (3, .int y79_3)]) hx hb dX6_digest_131 rfl hl (by decide) rfl (fun ls hl => ?_)
          refine lv_ldc2 (v := 31) hx hb hown lk2 dX6_digest_132 ?_
          refine lv_lload_n hx hb dX6_digest_135 rfl (lv_at hl 0 rfl) ?_
          refine lv_lmul hx hb dX6_digest_136 ?_
          refine lv_aload_n hx hb dX6_digest_137 rfl (lv_at hl 1 rfl) ?_
          refine va_get (D := (dC, dI)) (ci := 6) (v := .ref (a 194)) (C := RX6) (T := TX6) (N := 9) hx hb hts iK6 hown hK hP 0 rfl rfl 4 (by decide) lk0 (fun _ h9 => h9) rfl dX6_digest_138 ?_
          refine va_get (D := (dC, dI)) (ci := 5) (v := .int (X5_length (X6_text v))) (C := RX5) (T := TX5) (N := 2) hx hb hts iK5 hown hK hP 194 rfl rfl 1 (by decide) lk1 (fun _ h9 => h9) rfl dX6_digest_141 ?_
          refine lv_i2l hx hb dX6_digest_144 rfl ?_
          refine lv_ladd hx hb dX6_digest_145 ?_
          refine lv_lstore_n (lv' := [(1, .long ((31 * ((31 * ((31 * y79_1) + (r109.toInt64))) + r127)) + ((X5_length (X6_text v)).toInt64))), (0, .ref (a 0)), (3, .int y79_3)]) hx hb dX6_digest_146 rfl hl (by decide) rfl (fun ls hl => ?_)
          refine lv_iconst (v := 0) hx hb dX6_digest_147 (by decide) ?_
          refine lv_istore_n (lv' := [(3, .int 0), (1, .long ((31 * ((31 * ((31 * y79_1) + (r109.toInt64))) + r127)) + ((X5_length (X6_text v)).toInt64))), (0, .ref (a 0))]) hx hb dX6_digest_148 rfl hl (by decide) rfl (fun ls hl => ?_)
          exact J149 z79_v_paths z109_v_spareR z79_v_survey z109_v_trial ((31 * ((31 * ((31 * y79_1) + (r109.toInt64))) + r127)) + ((X5_length (X6_text v)).toInt64)) 0 _ _ _ hq hP hD hS (lv_sub hl [2, 1, 0] rfl)
        · have hq := hqB c3
          refine lv_ldc2 (v := 31) hx hb hown lk2 dX6_digest_84 ?_
          refine lv_lload_n hx hb dX6_digest_87 rfl (lv_at hl 1 rfl) ?_
          refine lv_lmul hx hb dX6_digest_88 ?_
          refine lv_aload_n hx hb dX6_digest_89 rfl (lv_at hl 0 rfl) ?_
          refine lv_iload_n hx hb dX6_digest_90 rfl (lv_at hl 2 rfl) ?_
          have hFc := xfree_same hS hAe0 (ws := (cX6 cy a (X6_lawn v) (X6_snapshot v) z79_v_trial (X6_savedR v) (X6_saved v) (X6_text v) z79_v_survey z79_v_paths (X6_snapshotTaken v) (X6_savedCount v) z79_v_spareR)) hD
          refine va_calli (va_runV (As := [.int y79_3]) (rest := [.long (31 * y79_1)]) ⟨hx, hb, hml, hown, hts⟩ (c_X6_numberOfTrial l dC dI cy a _ ((X6_lawn v), (X6_snapshot v), z79_v_trial, (X6_savedR v), (X6_saved v), (X6_text v), z79_v_survey, z79_v_paths, (X6_snapshotTaken v), (X6_savedCount v), z79_v_spareR) y79_3 _ hq) (cwV 1 hts gX6_digest_X6_numberOfTrial rfl rfl rfl (by decide +kernel) ⟨Nat.le_of_ble_eq_true rfl, Nat.le_of_ble_eq_true rfl⟩) ⟨xPre_blind, va_recv hK hP (ci := 6) (q0 := 0) rfl rfl, xPre_of hP hK hD⟩ rfl rfl hl.1 rfl (lv_room (Nat.le_of_ble_eq_true rfl)) dX6_digest_91 ⟨Nat.le_of_ble_eq_true rfl, Nat.le_of_ble_eq_true rfl⟩) hS (fun q _ h => hFc q h) hFc (fun r91 u9 t H locs ht hvm hq hB hz1 hk1 hS => ?_)
          obtain ⟨hP1, -, hD1⟩ := hB
          rw [ht] at hP1
          have hP : va_P (dC, dI) vwCl (cX6 cy a (X6_lawn v) (X6_snapshot v) z79_v_trial (X6_savedR v) (X6_saved v) (X6_text v) z79_v_survey z79_v_paths (X6_snapshotTaken v) (X6_savedCount v) z79_v_spareR) H := hP1
          have hD : va_D A (cX6 cy a (X6_lawn v) (X6_snapshot v) z79_v_trial (X6_savedR v) (X6_saved v) (X6_text v) z79_v_survey z79_v_paths (X6_snapshotTaken v) (X6_savedCount v) z79_v_spareR) := hD1.weaken (fun _ q _ h => hFc q.1 h)
          refine lv_i2l hx hb dX6_digest_94 rfl ?_
          refine lv_ladd hx hb dX6_digest_95 ?_
          refine lv_lstore_n (lv' := [(1, .long ((31 * y79_1) + (r91.toInt64))), (0, .ref (a 0)), (3, .int y79_3)]) hx hb dX6_digest_96 rfl hl (by decide) rfl (fun ls hl => ?_)
          refine lv_iinc (v := (y79_3 + 1)) (lv' := [(3, .int (y79_3 + 1)), (1, .long ((31 * y79_1) + (r91.toInt64))), (0, .ref (a 0))]) hx hb dX6_digest_97 hl (k := 2) rfl rfl (by decide) rfl (fun ls hl => ?_)
          refine lv_goto (tgt := 79) hx hb dX6_digest_100 (by decide) ?_
          exact bk79 ((31 * y79_1) + (r91.toInt64)) (y79_3 + 1) _ _ _ hq hP hD hS (lv_sub hl [2, 1, 0] rfl)
    exact key _ y79_1 y79_3 H locs ls h0 (Nat.lt_succ_self _) hP hD hS hl
  have J17 : ∀ (z17_v_survey : V_X4) (y17_1 : Int64) (y17_3 : Int32) (z17_v_paths : V_X2) (H : Heap) (locs : List Loc) (ls : Array Slot), wp_X6_digest_17 v z17_v_survey y17_1 y17_3 z17_v_paths Q → va_P (dC, dI) vwCl (cX6 cy a (X6_lawn v) (X6_snapshot v) (X6_trial v) (X6_savedR v) (X6_saved v) (X6_text v) z17_v_survey z17_v_paths (X6_snapshotTaken v) (X6_savedCount v) (X6_spareR v)) H → va_D A (cX6 cy a (X6_lawn v) (X6_snapshot v) (X6_trial v) (X6_savedR v) (X6_saved v) (X6_text v) z17_v_survey z17_v_paths (X6_snapshotTaken v) (X6_savedCount v) (X6_spareR v)) → va_S A s.heap H locs → lv_has ls 4 [(0, .ref (a 0)), (1, .long y17_1), (3, .int y17_3)] → W p l e (headSpec wsX6_digest ({ frames := 7, cells := 0, slots := 0, locals := 165 } : Room)).room s m ([.ref (a 0)] : List Value).toArray below meth c H locs 0 0 (MQ below (q_X6_digest dC dI cy a v Q A) ([.ref (a 0)] : List Value).toArray s 0 0 A) (F0 m 17 ls []) := by
    intro z17_v_survey y17_1 y17_3 z17_v_paths H locs ls hq hP hD hS hl
    obtain ⟨I17, μ17, h0, hs17⟩ := hq
    have key : ∀ (n : Nat) (y17_1 : Int64) (y17_3 : Int32) (z17_v_paths : V_X2) (H : Heap) (locs : List Loc) (ls : Array Slot), I17 y17_1 y17_3 z17_v_paths → μ17 y17_1 y17_3 z17_v_paths < n → va_P (dC, dI) vwCl (cX6 cy a (X6_lawn v) (X6_snapshot v) (X6_trial v) (X6_savedR v) (X6_saved v) (X6_text v) z17_v_survey z17_v_paths (X6_snapshotTaken v) (X6_savedCount v) (X6_spareR v)) H → va_D A (cX6 cy a (X6_lawn v) (X6_snapshot v) (X6_trial v) (X6_savedR v) (X6_saved v) (X6_text v) z17_v_survey z17_v_paths (X6_snapshotTaken v) (X6_savedCount v) (X6_spareR v)) → va_S A s.heap H locs → lv_has ls 4 [(0, .ref (a 0)), (1, .long y17_1), (3, .int y17_3)] → W p l e (headSpec wsX6_digest ({ frames := 7, cells := 0, slots := 0, locals := 165 } : Room)).room s m ([.ref (a 0)] : List Value).toArray below meth c H locs 0 0 (MQ below (q_X6_digest dC dI cy a v Q A) ([.ref (a 0)] : List Value).toArray s 0 0 A) (F0 m 17 ls []) := by
      intro n
      induction n with
      | zero => intro y17_1 y17_3 z17_v_paths H locs ls _ hm; exact absurd hm (Nat.not_lt_zero _)
      | succ n ih =>
        intro y17_1 y17_3 z17_v_paths H locs ls hI hm hP hD hS hl
        have hq := hs17 y17_1 y17_3 z17_v_paths hI
        generalize hB17 : (fun (t0 : Int64) (t1 : Int32) (t2 : V_X2) => I17 t0 t1 t2 ∧ μ17 t0 t1 t2 < μ17 y17_1 y17_3 z17_v_paths) = B17 at hq
        have bk17 : ∀ (y17_1 : Int64) (y17_3 : Int32) (z17_v_paths : V_X2) (H : Heap) (locs : List Loc) (ls : Array Slot), B17 y17_1 y17_3 z17_v_paths → va_P (dC, dI) vwCl (cX6 cy a (X6_lawn v) (X6_snapshot v) (X6_trial v) (X6_savedR v) (X6_saved v) (X6_text v) z17_v_survey z17_v_paths (X6_snapshotTaken v) (X6_savedCount v) (X6_spareR v)) H → va_D A (cX6 cy a (X6_lawn v) (X6_snapshot v) (X6_trial v) (X6_savedR v) (X6_saved v) (X6_text v) z17_v_survey z17_v_paths (X6_snapshotTaken v) (X6_savedCount v) (X6_spareR v)) → va_S A s.heap H locs → lv_has ls 4 [(0, .ref (a 0)), (1, .long y17_1), (3, .int y17_3)] → W p l e (headSpec wsX6_digest ({ frames := 7, cells := 0, slots := 0, locals := 165 } : Room)).room s m ([.ref (a 0)] : List Value).toArray below meth c H locs 0 0 (MQ below (q_X6_digest dC dI cy a v Q A) ([.ref (a 0)] : List Value).toArray s 0 0 A) (F0 m 17 ls []) := by
          intro y17_1 y17_3 z17_v_paths H locs ls h
          rw [← hB17] at h
          exact ih y17_1 y17_3 z17_v_paths H locs ls h.1 (Nat.lt_of_lt_of_le h.2 (Nat.le_of_lt_succ hm))
        unfold wb_X6_digest_17 at hq
        refine lv_iload_n hx hb dX6_digest_17 rfl (lv_at hl 2 rfl) ?_
        refine lv_bipush (v := 14) hx hb dX6_digest_18 (by decide) ?_
        obtain ⟨hqA, hqB⟩ := hq
        refine lv_icmp_gt (tgt := 42) hx hb dX6_digest_20 (by decide) (fun c4 => ?_) (fun c4 => ?_)
        · have hq := hqA c4
          refine lv_aload_n hx hb dX6_digest_42 rfl (lv_at hl 0 rfl) ?_
          refine lv_lload_n hx hb dX6_digest_43 rfl (lv_at hl 1 rfl) ?_
          have hFc := xfree_same hS hAe0 (ws := (cX6 cy a (X6_lawn v) (X6_snapshot v) (X6_trial v) (X6_savedR v) (X6_saved v) (X6_text v) z17_v_survey z17_v_paths (X6_snapshotTaken v) (X6_savedCount v) (X6_spareR v))) hD
          refine va_calll (va_runV (As := [.long y17_1]) (rest := []) ⟨hx, hb, hml, hown, hts⟩ (c_X6_hashTufts l dC dI cy a _ (X6_s7 (X6_s6 v z17_v_survey) z17_v_paths) y17_1 _ hq) (cwV 1 hts gX6_digest_X6_hashTufts rfl rfl rfl (by decide +kernel) ⟨Nat.le_of_ble_eq_true rfl, Nat.le_of_ble_eq_true rfl⟩) ⟨xPre_blindE, va_recv hK hP (ci := 6) (q0 := 0) rfl rfl, xPre_ofE hP hK hD hE hS hFc⟩ rfl rfl hl.1 rfl (lv_room (Nat.le_of_ble_eq_true rfl)) dX6_digest_44 ⟨Nat.le_of_ble_eq_true rfl, Nat.le_of_ble_eq_true rfl⟩) hS (fun q _ h => hFc q h) hFc (fun r44 u9 t H locs ht hvm hq hB hz1 hk1 hS => ?_)
          obtain ⟨hP1, -, hD1⟩ := hB
          rw [ht] at hP1
          have hP : va_P (dC, dI) vwCl (cX6 cy a (X6_lawn v) (X6_snapshot v) (X6_trial v) (X6_savedR v) (X6_saved v) (X6_text v) z17_v_survey z17_v_paths (X6_snapshotTaken v) (X6_savedCount v) (X6_spareR v)) H := hP1
          have hD : va_D A (cX6 cy a (X6_lawn v) (X6_snapshot v) (X6_trial v) (X6_savedR v) (X6_saved v) (X6_text v) z17_v_survey z17_v_paths (X6_snapshotTaken v) (X6_savedCount v) (X6_spareR v)) := hD1.weaken (fun _ q _ h => hFc q.1 h)
          refine lv_lstore_n (lv' := [(1, .long r44), (0, .ref (a 0)), (3, .int y17_3)]) hx hb dX6_digest_47 rfl hl (by decide) rfl (fun ls hl => ?_)
          refine lv_aload_n hx hb dX6_digest_48 rfl (lv_at hl 1 rfl) ?_
          refine lv_lload_n hx hb dX6_digest_49 rfl (lv_at hl 0 rfl) ?_
          have hFc := xfree_same hS hAe0 (ws := (cX6 cy a (X6_lawn v) (X6_snapshot v) (X6_trial v) (X6_savedR v) (X6_saved v) (X6_text v) z17_v_survey z17_v_paths (X6_snapshotTaken v) (X6_savedCount v) (X6_spareR v))) hD
          refine va_calll (va_runV (As := [.long r44]) (rest := []) ⟨hx, hb, hml, hown, hts⟩ (c_X6_hashMoles l dC dI cy a _ (X6_s7 (X6_s6 v z17_v_survey) z17_v_paths) r44 _ hq) (cwV 1 hts gX6_digest_X6_hashMoles rfl rfl rfl (by decide +kernel) ⟨Nat.le_of_ble_eq_true rfl, Nat.le_of_ble_eq_true rfl⟩) ⟨xPre_blind, va_recv hK hP (ci := 6) (q0 := 0) rfl rfl, xPre_of hP hK hD⟩ rfl rfl hl.1 rfl (lv_room (Nat.le_of_ble_eq_true rfl)) dX6_digest_50 ⟨Nat.le_of_ble_eq_true rfl, Nat.le_of_ble_eq_true rfl⟩) hS (fun q _ h => hFc q h) hFc (fun r50 u9 t H locs ht hvm hq hB hz1 hk1 hS => ?_)
          obtain ⟨hP1, -, hD1⟩ := hB
          rw [ht] at hP1
          have hP : va_P (dC, dI) vwCl (cX6 cy a (X6_lawn v) (X6_snapshot v) (X6_trial v) (X6_savedR v) (X6_saved v) (X6_text v) z17_v_survey z17_v_paths (X6_snapshotTaken v) (X6_savedCount v) (X6_spareR v)) H := hP1
          have hD : va_D A (cX6 cy a (X6_lawn v) (X6_snapshot v) (X6_trial v) (X6_savedR v) (X6_saved v) (X6_text v) z17_v_survey z17_v_paths (X6_snapshotTaken v) (X6_savedCount v) (X6_spareR v)) := hD1.weaken (fun _ q _ h => hFc q.1 h)
          refine lv_lstore_n (lv' := [(1, .long r50), (0, .ref (a 0)), (3, .int y17_3)]) hx hb dX6_digest_53 rfl hl (by decide) rfl (fun ls hl => ?_)
          refine lv_aload_n hx hb dX6_digest_54 rfl (lv_at hl 1 rfl) ?_
          refine lv_lload_n hx hb dX6_digest_55 rfl (lv_at hl 0 rfl) ?_
          have hFc := xfree_same hS hAe0 (ws := (cX6 cy a (X6_lawn v) (X6_snapshot v) (X6_trial v) (X6_savedR v) (X6_saved v) (X6_text v) z17_v_survey z17_v_paths (X6_snapshotTaken v) (X6_savedCount v) (X6_spareR v))) hD
          refine va_calll (va_runV (As := [.long r50]) (rest := []) ⟨hx, hb, hml, hown, hts⟩ (c_X6_hashTunnels l dC dI cy a _ (X6_s7 (X6_s6 v z17_v_survey) z17_v_paths) r50 _ hq) (cwV 1 hts gX6_digest_X6_hashTunnels rfl rfl rfl (by decide +kernel) ⟨Nat.le_of_ble_eq_true rfl, Nat.le_of_ble_eq_true rfl⟩) ⟨xPre_blind, va_recv hK hP (ci := 6) (q0 := 0) rfl rfl, xPre_of hP hK hD⟩ rfl rfl hl.1 rfl (lv_room (Nat.le_of_ble_eq_true rfl)) dX6_digest_56 ⟨Nat.le_of_ble_eq_true rfl, Nat.le_of_ble_eq_true rfl⟩) hS (fun q _ h => hFc q h) hFc (fun r56 u9 t H locs ht hvm hq hB hz1 hk1 hS => ?_)
          obtain ⟨hP1, -, hD1⟩ := hB
          rw [ht] at hP1
          have hP : va_P (dC, dI) vwCl (cX6 cy a (X6_lawn v) (X6_snapshot v) (X6_trial v) (X6_savedR v) (X6_saved v) (X6_text v) z17_v_survey z17_v_paths (X6_snapshotTaken v) (X6_savedCount v) (X6_spareR v)) H := hP1
          have hD : va_D A (cX6 cy a (X6_lawn v) (X6_snapshot v) (X6_trial v) (X6_savedR v) (X6_saved v) (X6_text v) z17_v_survey z17_v_paths (X6_snapshotTaken v) (X6_savedCount v) (X6_spareR v)) := hD1.weaken (fun _ q _ h => hFc q.1 h)
          refine lv_lstore_n (lv' := [(1, .long r56), (0, .ref (a 0)), (3, .int y17_3)]) hx hb dX6_digest_59 rfl hl (by decide) rfl (fun ls hl => ?_)
          refine lv_aload_n hx hb dX6_digest_60 rfl (lv_at hl 1 rfl) ?_
          refine lv_lload_n hx hb dX6_digest_61 rfl (lv_at hl 0 rfl) ?_
          have hFc := xfree_same hS hAe0 (ws := (cX6 cy a (X6_lawn v) (X6_snapshot v) (X6_trial v) (X6_savedR v) (X6_saved v) (X6_text v) z17_v_survey z17_v_paths (X6_snapshotTaken v) (X6_savedCount v) (X6_spareR v))) hD
          refine va_calll (va_runV (As := [.long r56]) (rest := []) ⟨hx, hb, hml, hown, hts⟩ (c_X6_hashPaths l dC dI cy a _ (X6_s7 (X6_s6 v z17_v_survey) z17_v_paths) r56 _ hq) (cwV 1 hts gX6_digest_X6_hashPaths rfl rfl rfl (by decide +kernel) ⟨Nat.le_of_ble_eq_true rfl, Nat.le_of_ble_eq_true rfl⟩) ⟨xPre_blind, va_recv hK hP (ci := 6) (q0 := 0) rfl rfl, xPre_of hP hK hD⟩ rfl rfl hl.1 rfl (lv_room (Nat.le_of_ble_eq_true rfl)) dX6_digest_62 ⟨Nat.le_of_ble_eq_true rfl, Nat.le_of_ble_eq_true rfl⟩) hS (fun q _ h => hFc q h) hFc (fun r62 z62_v_paths t H locs ht hvm hq hB hz1 hk1 hS => ?_)
          obtain ⟨hP1, -, hD1⟩ := hB
          rw [ht] at hP1
          have hP : va_P (dC, dI) vwCl (cX6 cy a (X6_lawn v) (X6_snapshot v) (X6_trial v) (X6_savedR v) (X6_saved v) (X6_text v) z17_v_survey z62_v_paths (X6_snapshotTaken v) (X6_savedCount v) (X6_spareR v)) H := hP1
          have hD : va_D A (cX6 cy a (X6_lawn v) (X6_snapshot v) (X6_trial v) (X6_savedR v) (X6_saved v) (X6_text v) z17_v_survey z62_v_paths (X6_snapshotTaken v) (X6_savedCount v) (X6_spareR v)) := hD1.weaken (fun _ q _ h => hFc q.1 h)
          refine lv_lstore_n (lv' := [(1, .long r62), (0, .ref (a 0)), (3, .int y17_3)]) hx hb dX6_digest_65 rfl hl (by decide) rfl (fun ls hl => ?_)
          refine lv_aload_n hx hb dX6_digest_66 rfl (lv_at hl 1 rfl) ?_
          refine lv_lload_n hx hb dX6_digest_67 rfl (lv_at hl 0 rfl) ?_
          have hFc := xfree_same hS hAe0 (ws := (cX6 cy a (X6_lawn v) (X6_snapshot v) (X6_trial v) (X6_savedR v) (X6_saved v) (X6_text v) z17_v_survey z62_v_paths (X6_snapshotTaken v) (X6_savedCount v) (X6_spareR v))) hD
          refine va_calll (va_runV (As := [.long r62]) (rest := []) ⟨hx, hb, hml, hown, hts⟩ (c_X6_hashDigging l dC dI cy a _ (X6_s7 (X6_s6 v z17_v_survey) z62_v_paths) r62 _ hq) (cwV 1 hts gX6_digest_X6_hashDigging rfl rfl rfl (by decide +kernel) ⟨Nat.le_of_ble_eq_true rfl, Nat.le_of_ble_eq_true rfl⟩) ⟨xPre_blind, va_recv hK hP (ci := 6) (q0 := 0) rfl rfl, xPre_of hP hK hD⟩ rfl rfl hl.1 rfl (lv_room (Nat.le_of_ble_eq_true rfl)) dX6_digest_68 ⟨Nat.le_of_ble_eq_true rfl, Nat.le_of_ble_eq_true rfl⟩) hS (fun q _ h => hFc q h) hFc (fun r68 u9 t H locs ht hvm hq hB hz1 hk1 hS => ?_)
          obtain ⟨hP1, -, hD1⟩ := hB
          rw [ht] at hP1
          have hP : va_P (dC, dI) vwCl (cX6 cy a (X6_lawn v) (X6_snapshot v) (X6_trial v) (X6_savedR v) (X6_saved v) (X6_text v) z17_v_survey z62_v_paths (X6_snapshotTaken v) (X6_savedCount v) (X6_spareR v)) H := hP1
          have hD : va_D A (cX6 cy a (X6_lawn v) (X6_snapshot v) (X6_trial v) (X6_savedR v) (X6_saved v) (X6_text v) z17_v_survey z62_v_paths (X6_snapshotTaken v) (X6_savedCount v) (X6_spareR v)) := hD1.weaken (fun _ q _ h => hFc q.1 h)
          refine lv_lstore_n (lv' := [(1, .long r68), (0, .ref (a 0)), (3, .int y17_3)]) hx hb dX6_digest_71 rfl hl (by decide) rfl (fun ls hl => ?_)
          refine lv_aload_n hx hb dX6_digest_72 rfl (lv_at hl 1 rfl) ?_
          refine lv_iconst (v := 5) hx hb dX6_digest_73 (by decide) ?_
          have hFc := xfree_same hS hAe0 (ws := (cX6 cy a (X6_lawn v) (X6_snapshot v) (X6_trial v) (X6_savedR v) (X6_saved v) (X6_text v) z17_v_survey z62_v_paths (X6_snapshotTaken v) (X6_savedCount v) (X6_spareR v))) hD
          refine va_callv (va_runV (As := [.int 5]) (rest := []) ⟨hx, hb, hml, hown, hts⟩ (c_X6_tryBeats l dC dI cy a _ (X6_s7 (X6_s6 v z17_v_survey) z62_v_paths) 5 _ hq) (cwV 1 hts gX6_digest_X6_tryBeats rfl rfl rfl (by decide +kernel) ⟨Nat.le_of_ble_eq_true rfl, Nat.le_of_ble_eq_true rfl⟩) ⟨xPre_blindE, va_recv hK hP (ci := 6) (q0 := 0) rfl rfl, xPre_ofE hP hK hD hE hS hFc⟩ rfl rfl hl.1 rfl (lv_room (Nat.le_of_ble_eq_true rfl)) dX6_digest_74 ⟨Nat.le_of_ble_eq_true rfl, Nat.le_of_ble_eq_true rfl⟩) hS (fun q _ h => hFc q h) hFc (fun u9 t H locs ht hvm hq hB hz1 hk1 hS => ?_)
          obtain ⟨z74_v_spareR, z74_v_trial⟩ := u9
          obtain ⟨hP1, -, hD1⟩ := hB
          rw [ht] at hP1
          have hP : va_P (dC, dI) vwCl (cX6 cy a (X6_lawn v) (X6_snapshot v) z74_v_trial (X6_savedR v) (X6_saved v) (X6_text v) z17_v_survey z62_v_paths (X6_snapshotTaken v) (X6_savedCount v) z74_v_spareR) H := hP1
          have hD : va_D A (cX6 cy a (X6_lawn v) (X6_snapshot v) z74_v_trial (X6_savedR v) (X6_saved v) (X6_text v) z17_v_survey z62_v_paths (X6_snapshotTaken v) (X6_savedCount v) z74_v_spareR) := hD1.weaken (fun _ q _ h => hFc q.1 h)
          refine lv_iconst (v := 0) hx hb dX6_digest_77 (by decide) ?_
          refine lv_istore_n (lv' := [(3, .int 0), (1, .long r68), (0, .ref (a 0))]) hx hb dX6_digest_78 rfl hl (by decide) rfl (fun ls hl => ?_)
          exact J79 z62_v_paths z74_v_spareR z17_v_survey z74_v_trial r68 0 _ _ _ hq hP hD hS (lv_sub hl [2, 1, 0] rfl)
        · have hq := hqB c4
          refine lv_ldc2 (v := 31) hx hb hown lk2 dX6_digest_23 ?_
          refine lv_lload_n hx hb dX6_digest_26 rfl (lv_at hl 1 rfl) ?_
          refine lv_lmul hx hb dX6_digest_27 ?_
          refine lv_aload_n hx hb dX6_digest_28 rfl (lv_at hl 0 rfl) ?_
          refine lv_iload_n hx hb dX6_digest_29 rfl (lv_at hl 2 rfl) ?_
          have hFc := xfree_same hS hAe0 (ws := (cX6 cy a (X6_lawn v) (X6_snapshot v) (X6_trial v) (X6_savedR v) (X6_saved v) (X6_text v) z17_v_survey z17_v_paths (X6_snapshotTaken v) (X6_savedCount v) (X6_spareR v))) hD
          refine va_calli (va_runV (As := [.int y17_3]) (rest := [.long (31 * y17_1)]) ⟨hx, hb, hml, hown, hts⟩ (c_X6_numberOfAll l dC dI cy a _ (X6_s7 (X6_s6 v z17_v_survey) z17_v_paths) y17_3 _ hq) (cwV 1 hts gX6_digest_X6_numberOfAll rfl rfl rfl (by decide +kernel) ⟨Nat.le_of_ble_eq_true rfl, Nat.le_of_ble_eq_true rfl⟩) ⟨xPre_blind, va_recv hK hP (ci := 6) (q0 := 0) rfl rfl, xPre_of hP hK hD⟩ rfl rfl hl.1 rfl (lv_room (Nat.le_of_ble_eq_true rfl)) dX6_digest_30 ⟨Nat.le_of_ble_eq_true rfl, Nat.le_of_ble_eq_true rfl⟩) hS (fun q _ h => hFc q h) hFc (fun r30 z30_v_paths t H locs ht hvm hq hB hz1 hk1 hS => ?_)
          obtain ⟨hP1, -, hD1⟩ := hB
          rw [ht] at hP1
          have hP : va_P (dC, dI) vwCl (cX6 cy a (X6_lawn v) (X6_snapshot v) (X6_trial v) (X6_savedR v) (X6_saved v) (X6_text v) z17_v_survey z30_v_paths (X6_snapshotTaken v) (X6_savedCount v) (X6_spareR v)) H := hP1
          have hD : va_D A (cX6 cy a (X6_lawn v) (X6_snapshot v) (X6_trial v) (X6_savedR v) (X6_saved v) (X6_text v) z17_v_survey z30_v_paths (X6_snapshotTaken v) (X6_savedCount v) (X6_spareR v)) := hD1.weaken (fun _ q _ h => hFc q.1 h)
          refine lv_i2l hx hb dX6_digest_33 rfl ?_
          refine lv_ladd hx hb dX6_digest_34 ?_
          refine lv_lstore_n (lv' := [(1, .long ((31 * y17_1) + (r30.toInt64))), (0, .ref (a 0)), (3, .int y17_3)]) hx hb dX6_digest_35 rfl hl (by decide) rfl (fun ls hl => ?_)
          refine lv_iinc (v := (y17_3 + 1)) (lv' := [(3, .int (y17_3 + 1)), (1, .long ((31 * y17_1) + (r30.toInt64))), (0, .ref (a 0))]) hx hb dX6_digest_36 hl (k := 2) rfl rfl (by decide) rfl (fun ls hl => ?_)
          refine lv_goto (tgt := 17) hx hb dX6_digest_39 (by decide) ?_
          exact bk17 ((31 * y17_1) + (r30.toInt64)) (y17_3 + 1) z30_v_paths _ _ _ hq hP hD hS (lv_sub hl [2, 1, 0] rfl)
    exact key _ y17_1 y17_3 z17_v_paths H locs ls h0 (Nat.lt_succ_self _) hP hD hS hl
  refine lv_aload_n hx hb dX6_digest_0 rfl (lv_at hl 0 rfl) ?_
  refine va_get (D := (dC, dI)) (ci := 6) (v := .ref (a 196)) (C := RX6) (T := TX6) (N := 9) hx hb hts iK6 hown hK hP 0 rfl rfl 5 (by decide) lk4 (fun _ h9 => h9) rfl dX6_digest_1 ?_
  refine lv_aload_n hx hb dX6_digest_4 rfl (lv_at hl 0 rfl) ?_
  refine va_get (D := (dC, dI)) (ci := 6) (v := .ref (a 4)) (C := RX6) (T := TX6) (N := 9) hx hb hts iK6 hown hK hP 0 rfl rfl 0 (by decide) lk5 (fun _ h9 => h9) rfl dX6_digest_5 ?_
  have hC : (([196, 197, 198, 199, 200, 4, 5, 6, 7, 8, 9, 10, 11, 12, 13, 14, 15, 16, 17, 18, 19, 20, 21, 22, 23, 24] : List Nat).map (fun i => (wX6 cy a v)[i]?)) = (wX4 cy (sh a 196) (X6_survey v) ++ wX0 cy (sh a 4) (sh a 1) (X6_lawn v)).map some := (xC_app (i1 := [196, 197, 198, 199, 200]) (i2 := [4, 5, 6, 7, 8, 9, 10, 11, 12, 13, 14, 15, 16, 17, 18, 19, 20, 21, 22, 23, 24]) rfl (xC_one (n := 196) (m := 5) rfl rfl rfl) (xC_one (n := 4) (m := 21) rfl rfl rfl))
  have hPc := xsubP hP hC
  have hDc := xsubD hD (by decide) hC
  have hFc := va_free (wc := (wX4 cy (sh a 196) (X6_survey v) ++ wX0 cy (sh a 4) (sh a 1) (X6_lawn v))) hD hS hAe0 [196, 197, 198, 199, 200, 4, 5, 6, 7, 8, 9, 10, 11, 12, 13, 14, 15, 16, 17, 18, 19, 20, 21, 22, 23, 24] hC
  refine va_callv (va_runV (As := [.ref (a 4)]) (rest := []) ⟨hx, hb, hml, hown, hts⟩ (c_X4_read l dC dI cy (sh a 196) (sh a 4) (sh a 1) _ (X6_survey v) (X6_lawn v) _ hq) (cwV 1 hts gX6_digest_X4_read rfl rfl rfl (by decide +kernel) ⟨Nat.le_of_ble_eq_true rfl, Nat.le_of_ble_eq_true rfl⟩) ⟨xPre_blindE, va_recv hK hP (ci := 4) (q0 := 196) rfl rfl, xPre_ofE hPc hK hDc hE hS hFc⟩ rfl rfl hl.1 rfl (lv_room (Nat.le_of_ble_eq_true rfl)) dX6_digest_8 ⟨Nat.le_of_ble_eq_true rfl, Nat.le_of_ble_eq_true rfl⟩) hS (fun q _ h => hFc q h) hFc (fun u9 t H locs ht hvm hq hB hz1 hk1 hS => ?_)
  obtain ⟨z8_v_crossings, z8_v_hollow, z8_v_seenBy, z8_v_sure⟩ := u9
  obtain ⟨hP1, -, hD1⟩ := hB
  rw [ht] at hP1
  obtain ⟨hP, hD⟩ := xj hP hD [196, 197, 198, 199, 200, 4, 5, 6, 7, 8, 9, 10, 11, 12, 13, 14, 15, 16, 17, 18, 19, 20, 21, 22, 23, 24] (cX4 cy (sh a 196) z8_v_hollow z8_v_crossings z8_v_sure z8_v_seenBy ++ wX0 cy (sh a 4) (sh a 1) (X6_lawn v)) (ws' := (cX6 cy a (X6_lawn v) (X6_snapshot v) (X6_trial v) (X6_savedR v) (X6_saved v) (X6_text v) (z8_v_hollow, z8_v_crossings, z8_v_sure, z8_v_seenBy) (X6_paths v) (X6_snapshotTaken v) (X6_savedCount v) (X6_spareR v))) hC rfl (xS_app (n := 196) (m := 5) (i2 := [4, 5, 6, 7, 8, 9, 10, 11, 12, 13, 14, 15, 16, 17, 18, 19, 20, 21, 22, 23, 24]) rfl rfl rfl (xS_one (n := 4) (m := 21) rfl rfl rfl)) hk1 hFc hP1
  refine lv_ldc2 (v := 3631) hx hb hown lk6 dX6_digest_11 ?_
  refine lv_lstore_n (lv' := [(1, .long 3631), (0, .ref (a 0))]) hx hb dX6_digest_14 rfl hl (by decide) rfl (fun ls hl => ?_)
  refine lv_iconst (v := 0) hx hb dX6_digest_15 (by decide) ?_
  refine lv_istore_n (lv' := [(3, .int 0), (1, .long 3631), (0, .ref (a 0))]) hx hb dX6_digest_16 rfl hl (by decide) rfl (fun ls hl => ?_)
  exact J17 (z8_v_hollow, z8_v_crossings, z8_v_sure, z8_v_seenBy) 3631 0 (X6_paths v) _ _ _ hq hP hD hS (lv_sub hl [2, 1, 0] rfl)
