def wb_X7_beat_47 (v : V_X7)  (y47_1 : Int32) (z47_v_s : (Nat → Int32)) (B47 : Int32 → (Nat → Int32) → Prop) (Q : (Nat → Int32) → Prop) : Prop :=
  vp_in 1 1472 ∧ (((z47_v_s (1 : Int32).toNatClampNeg) ≤ y47_1 → vp_in 0 1472 ∧ Q (upd z47_v_s (0 : Int32).toNatClampNeg ((z47_v_s (0 : Int32).toNatClampNeg) + 1))) ∧
  (¬ (z47_v_s (1 : Int32).toNatClampNeg) ≤ y47_1 → wp_X7_acts (X7_s0 v z47_v_s) y47_1 (fun r60 z60_v_s =>
  ((r60 = 0 → B47 (y47_1 + 1) z60_v_s) ∧
  (¬ r60 = 0 → B47 (y47_1 + 0) z60_v_s)))))
def wp_X7_beat_47 (v : V_X7)  (y47_1 : Int32) (z47_v_s : (Nat → Int32)) (Q : (Nat → Int32) → Prop) : Prop :=
  ∃ (I : Int32 → (Nat → Int32) → Prop) (μ : Int32 → (Nat → Int32) → Nat), I y47_1 z47_v_s ∧ ∀ (s0 : Int32) (s1 : (Nat → Int32)), I s0 s1 → wb_X7_beat_47 v  s0 s1 (fun t0 t1 => I t0 t1 ∧ μ t0 t1 < μ s0 s1) Q
def wb_X7_beat_2 (v : V_X7)  (y2_1 : Int32) (z2_v_s : (Nat → Int32)) (B2 : Int32 → (Nat → Int32) → Prop) (Q : (Nat → Int32) → Prop) : Prop :=
  ((64 ≤ y2_1 → wp_X7_beat_47 v  0 z2_v_s Q) ∧
  (¬ 64 ≤ y2_1 → vp_in (136 + y2_1) 1472 ∧ (((z2_v_s (136 + y2_1).toNatClampNeg) ≤ 0 → B2 (y2_1 + 1) (upd z2_v_s (136 + y2_1).toNatClampNeg ((z2_v_s (136 + y2_1).toNatClampNeg) - 0))) ∧
  (¬ (z2_v_s (136 + y2_1).toNatClampNeg) ≤ 0 → B2 (y2_1 + 1) (upd z2_v_s (136 + y2_1).toNatClampNeg ((z2_v_s (136 + y2_1).toNatClampNeg) - 1))))))
def wp_X7_beat_2 (v : V_X7)  (y2_1 : Int32) (z2_v_s : (Nat → Int32)) (Q : (Nat → Int32) → Prop) : Prop :=
  ∃ (I : Int32 → (Nat → Int32) → Prop) (μ : Int32 → (Nat → Int32) → Nat), I y2_1 z2_v_s ∧ ∀ (s0 : Int32) (s1 : (Nat → Int32)), I s0 s1 → wb_X7_beat_2 v  s0 s1 (fun t0 t1 => I t0 t1 ∧ μ t0 t1 < μ s0 s1) Q
def wp_X7_beat (v : V_X7) (Q : (Nat → Int32) → Prop) : Prop :=
  wp_X7_beat_2 v  0 (X7_s v) Q
def q_X7_beat (dC : Nat → ClassId) (dI : Nat → Nat → Nat) (cy : Nat → ClassId) (a : Nat → Nat) (v : V_X7) (Q : (Nat → Int32) → Prop) (A : Nat → Prop) : Array Value → State → Outcome → State → Prop := va_Qv (fun (u : (Nat → Int32)) => Q u) (fun (u : (Nat → Int32)) t => xAt dC dI cy A (cX7 cy a u (X7_aside v) (X7_kept v) (X7_isKept v) (X7_saved v) (X7_savedMany v) (X7_text v) (X7_length v) (X7_thrown v) (X7_joint v) (X7_position v) (X7_isWrong v) (X7_isHollow v) (X7_sure v) (X7_away v) (X7_digested v)) t) A
set_option maxHeartbeats 4000000 in
set_option maxRecDepth 100000 in
theorem c_X7_beat (l : Launch) (dC : Nat → ClassId) (dI : Nat → Nat → Nat) (cy : Nat → ClassId) (a : Nat → Nat) (sz : Nat) (v : V_X7) (Q : (Nat → Int32) → Prop) (hq : wp_X7_beat v Q) : Met l yX7_beat wsX7_beat ({ frames := 6, cells := 0, slots := 0, locals := 145 } : Room) (va_Pc [.ref (a 0)] (xPre dC dI cy (wX7 cy a v) sz)) (q_X7_beat dC dI cy a v Q (va_A (wX7 cy a v) sz)) 0 0 (va_A (wX7 cy a v) sz) := by
  refine Met.ofW (cc := cX7_beat) (maxL := 2) (ret := none) (by decide) rfl ?_
  intro p e s m args below meth c s₁ B hml hv
  obtain ⟨rfl, hsz, hP, hK, hD0⟩ := hv
  have hx := B.exec
  have hb := B.bytes
  have hr := B.returns
  have hts := atoms_spec (ws := wsX7_beat) B.pre
  have hown : s.vm.findClass RX7 = some m.cls := findClass_of_methodNamed B.named
  have hlocks := B.notSynchronized
  subst hsz
  have hD := hD0.self (sz := s.heap.size)
  generalize hAe : va_A (wX7 cy a v) s.heap.size = A at hD ⊢
  have hAe0 : ∀ q : Nat, s.heap.size ≤ q → A q := fun q h => by rw [← hAe]; exact Or.inr h
  have hS : va_S A s.heap s.heap [] := va_S.rf
  have hl := lv_entry ([.ref (a 0)]) (n := 2) (Nat.le_of_ble_eq_true rfl)
  rw [lg_entry_eq]
  generalize (lg_sl ([.ref (a 0)]) ++ List.replicate (2 - (lg_sl ([.ref (a 0)])).length) Slot.unset).toArray = ls at hl ⊢
  have hl : lv_has ls 2 [(0, .ref (a 0))] := hl
  have lk0 := hts (Cond.fieldLink RX7 7 "MolesLawnModel" "s" "[I") (List.mem_cons_of_mem _ (List.mem_append_left _ (List.mem_append_left _ (List.mem_of_getElem? (i := 0) rfl))))
  have iK7 : ∀ w ∈ wsX70, w ∈ wsX7_beat := fun _ h => (List.mem_cons_of_mem _ (List.mem_append_right _ h))
  unfold wp_X7_beat at hq
  have J47 : ∀  (y47_1 : Int32) (z47_v_s : (Nat → Int32)) (H : Heap) (locs : List Loc) (ls : Array Slot), wp_X7_beat_47 v  y47_1 z47_v_s Q → va_P (dC, dI) vwCl (cX7 cy a z47_v_s (X7_aside v) (X7_kept v) (X7_isKept v) (X7_saved v) (X7_savedMany v) (X7_text v) (X7_length v) (X7_thrown v) (X7_joint v) (X7_position v) (X7_isWrong v) (X7_isHollow v) (X7_sure v) (X7_away v) (X7_digested v)) H → va_D A (cX7 cy a z47_v_s (X7_aside v) (X7_kept v) (X7_isKept v) (X7_saved v) (X7_savedMany v) (X7_text v) (X7_length v) (X7_thrown v) (X7_joint v) (X7_position v) (X7_isWrong v) (X7_isHollow v) (X7_sure v) (X7_away v) (X7_digested v)) → va_S A s.heap H locs → lv_has ls 2 [(0, .ref (a 0)), (1, .int y47_1)] → W p l e (headSpec wsX7_beat ({ frames := 6, cells := 0, slots := 0, locals := 145 } : Room)).room s m ([.ref (a 0)] : List Value).toArray below meth c H locs 0 0 (MQ below (q_X7_beat dC dI cy a v Q A) ([.ref (a 0)] : List Value).toArray s 0 0 A) (F0 m 47 ls []) := by
    intro  y47_1 z47_v_s H locs ls hq hP hD hS hl
    obtain ⟨I47, μ47, h0, hs47⟩ := hq
    have key : ∀ (n : Nat) (y47_1 : Int32) (z47_v_s : (Nat → Int32)) (H : Heap) (locs : List Loc) (ls : Array Slot), I47 y47_1 z47_v_s → μ47 y47_1 z47_v_s < n → va_P (dC, dI) vwCl (cX7 cy a z47_v_s (X7_aside v) (X7_kept v) (X7_isKept v) (X7_saved v) (X7_savedMany v) (X7_text v) (X7_length v) (X7_thrown v) (X7_joint v) (X7_position v) (X7_isWrong v) (X7_isHollow v) (X7_sure v) (X7_away v) (X7_digested v)) H → va_D A (cX7 cy a z47_v_s (X7_aside v) (X7_kept v) (X7_isKept v) (X7_saved v) (X7_savedMany v) (X7_text v) (X7_length v) (X7_thrown v) (X7_joint v) (X7_position v) (X7_isWrong v) (X7_isHollow v) (X7_sure v) (X7_away v) (X7_digested v)) → va_S A s.heap H locs → lv_has ls 2 [(0, .ref (a 0)), (1, .int y47_1)] → W p l e (headSpec wsX7_beat ({ frames := 6, cells := 0, slots := 0, locals := 145 } : Room)).room s m ([.ref (a 0)] : List Value).toArray below meth c H locs 0 0 (MQ below (q_X7_beat dC dI cy a v Q A) ([.ref (a 0)] : List Value).toArray s 0 0 A) (F0 m 47 ls []) := by
      intro n
      induction n with
      | zero => intro y47_1 z47_v_s H locs ls _ hm; exact absurd hm (Nat.not_lt_zero _)
      | succ n ih =>
        intro y47_1 z47_v_s H locs ls hI hm hP hD hS hl
        have hq := hs47 y47_1 z47_v_s hI
        generalize hB47 : (fun (t0 : Int32) (t1 : (Nat → Int32)) => I47 t0 t1 ∧ μ47 t0 t1 < μ47 y47_1 z47_v_s) = B47 at hq
        have bk47 : ∀ (y47_1 : Int32) (z47_v_s : (Nat → Int32)) (H : Heap) (locs : List Loc) (ls : Array Slot), B47 y47_1 z47_v_s → va_P (dC, dI) vwCl (cX7 cy a z47_v_s (X7_aside v) (X7_kept v) (X7_isKept v) (X7_saved v) (X7_savedMany v) (X7_text v) (X7_length v) (X7_thrown v) (X7_joint v) (X7_position v) (X7_isWrong v) (X7_isHollow v) (X7_sure v) (X7_away v) (X7_digested v)) H → va_D A (cX7 cy a z47_v_s (X7_aside v) (X7_kept v) (X7_isKept v) (X7_saved v) (X7_savedMany v) (X7_text v) (X7_length v) (X7_thrown v) (X7_joint v) (X7_position v) (X7_isWrong v) (X7_isHollow v) (X7_sure v) (X7_away v) (X7_digested v)) → va_S A s.heap H locs → lv_has ls 2 [(0, .ref (a 0)), (1, .int y47_1)] → W p l e (headSpec wsX7_beat ({ frames := 6, cells := 0, slots := 0, locals := 145 } : Room)).room s m ([.ref (a 0)] : List Value).toArray below meth c H locs 0 0 (MQ below (q_X7_beat dC dI cy a v Q A) ([.ref (a 0)] : List Value).toArray s 0 0 A) (F0 m 47 ls []) := by
          intro y47_1 z47_v_s H locs ls h
          rw [← hB47] at h
          exact ih y47_1 z47_v_s H locs ls h.1 (Nat.lt_of_lt_of_le h.2 (Nat.le_of_lt_succ hm))
        unfold wb_X7_beat_47 at hq
        refine lv_iload_n hx hb dX7_beat_47 rfl (lv_at hl 1 rfl) ?_
        refine lv_aload_n hx hb dX7_beat_48 rfl (lv_at hl 0 rfl) ?_
        refine va_get (D := (dC, dI)) (ci := 7) (v := .ref (a 1)) (C := RX7) (T := TX7) (N := 16) hx hb hts iK7 hown hK hP 0 rfl rfl 0 (by decide) lk0 (fun _ h9 => h9) rfl dX7_beat_49 ?_
        refine lv_iconst (v := 1) hx hb dX7_beat_52 (by decide) ?_
        obtain ⟨g1, hq⟩ := hq
        refine va_iald hx hb hK hP 1 0 rfl rfl g1 dX7_beat_53 ?_
        obtain ⟨hqA, hqB⟩ := hq
        refine lv_icmp_ge (tgt := 76) hx hb dX7_beat_54 (by decide) (fun c4 => ?_) (fun c4 => ?_)
        · have hq := hqA c4
          refine lv_aload_n hx hb dX7_beat_76 rfl (lv_at hl 0 rfl) ?_
          refine va_get (D := (dC, dI)) (ci := 7) (v := .ref (a 1)) (C := RX7) (T := TX7) (N := 16) hx hb hts iK7 hown hK hP 0 rfl rfl 0 (by decide) lk0 (fun _ h9 => h9) rfl dX7_beat_77 ?_
          refine lv_iconst (v := 0) hx hb dX7_beat_80 (by decide) ?_
          refine lv_dup2_11 hx hb dX7_beat_81 rfl rfl ?_
          obtain ⟨g2, hq⟩ := hq
          refine va_iald hx hb hK hP 1 0 rfl rfl g2 dX7_beat_82 ?_
          refine lv_iconst (v := 1) hx hb dX7_beat_83 (by decide) ?_
          refine lv_iadd hx hb dX7_beat_84 ?_
          refine va_iast hx hb hK hP hD hS 1 0 rfl rfl g2 dX7_beat_85 (fun H locs hP hD hS => ?_)
          have hP : va_P (dC, dI) vwCl (cX7 cy a (upd z47_v_s (0 : Int32).toNatClampNeg ((z47_v_s (0 : Int32).toNatClampNeg) + 1)) (X7_aside v) (X7_kept v) (X7_isKept v) (X7_saved v) (X7_savedMany v) (X7_text v) (X7_length v) (X7_thrown v) (X7_joint v) (X7_position v) (X7_isWrong v) (X7_isHollow v) (X7_sure v) (X7_away v) (X7_digested v)) H := hP
          have hD : va_D A (cX7 cy a (upd z47_v_s (0 : Int32).toNatClampNeg ((z47_v_s (0 : Int32).toNatClampNeg) + 1)) (X7_aside v) (X7_kept v) (X7_isKept v) (X7_saved v) (X7_savedMany v) (X7_text v) (X7_length v) (X7_thrown v) (X7_joint v) (X7_position v) (X7_isWrong v) (X7_isHollow v) (X7_sure v) (X7_away v) (X7_digested v)) := hD
          exact W.vret hx hb hr (fun t ht hW => ⟨⟨(upd z47_v_s (0 : Int32).toNatClampNeg ((z47_v_s (0 : Int32).toNatClampNeg) + 1)), rfl, hq, (xAt_of hP hK hD ht hW)⟩, hS.F ht⟩) hS.2.2 dX7_beat_86
        · have hq := hqB c4
          refine lv_iload_n hx hb dX7_beat_57 rfl (lv_at hl 1 rfl) ?_
          refine lv_aload_n hx hb dX7_beat_58 rfl (lv_at hl 0 rfl) ?_
          refine lv_iload_n hx hb dX7_beat_59 rfl (lv_at hl 1 rfl) ?_
          have hFc := xfree_same hS hAe0 (ws := (cX7 cy a z47_v_s (X7_aside v) (X7_kept v) (X7_isKept v) (X7_saved v) (X7_savedMany v) (X7_text v) (X7_length v) (X7_thrown v) (X7_joint v) (X7_position v) (X7_isWrong v) (X7_isHollow v) (X7_sure v) (X7_away v) (X7_digested v))) hD
          refine va_calli (va_runV (As := [.int y47_1]) (rest := [.int y47_1]) ⟨hx, hb, hml, hown, hts⟩ (c_X7_acts l dC dI cy a _ (X7_s0 v z47_v_s) y47_1 _ hq) (cwV 1 hts gX7_beat_X7_acts rfl rfl rfl (by decide +kernel) ⟨Nat.le_of_ble_eq_true rfl, Nat.le_of_ble_eq_true rfl⟩) ⟨xPre_blind, va_recv hK hP (ci := 7) (q0 := 0) rfl rfl, xPre_of hP hK hD⟩ rfl rfl hl.1 rfl (lv_room (Nat.le_of_ble_eq_true rfl)) dX7_beat_60 ⟨Nat.le_of_ble_eq_true rfl, Nat.le_of_ble_eq_true rfl⟩) hS (fun q _ h => hFc q h) hFc (fun r60 z60_v_s t H locs ht hvm hq hB hz1 hk1 hS => ?_)
          obtain ⟨hP1, -, hD1⟩ := hB
          rw [ht] at hP1
          have hP : va_P (dC, dI) vwCl (cX7 cy a z60_v_s (X7_aside v) (X7_kept v) (X7_isKept v) (X7_saved v) (X7_savedMany v) (X7_text v) (X7_length v) (X7_thrown v) (X7_joint v) (X7_position v) (X7_isWrong v) (X7_isHollow v) (X7_sure v) (X7_away v) (X7_digested v)) H := hP1
          have hD : va_D A (cX7 cy a z60_v_s (X7_aside v) (X7_kept v) (X7_isKept v) (X7_saved v) (X7_savedMany v) (X7_text v) (X7_length v) (X7_thrown v) (X7_joint v) (X7_position v) (X7_isWrong v) (X7_isHollow v) (X7_sure v) (X7_away v) (X7_digested v)) := hD1.weaken (fun _ q _ h => hFc q.1 h)
          obtain ⟨hqA, hqB⟩ := hq
          refine lv_if_eq (tgt := 70) hx hb dX7_beat_63 (by decide) (fun c3 => ?_) (fun c3 => ?_)
          · have hq := hqA c3
            refine lv_iconst (v := 1) hx hb dX7_beat_70 (by decide) ?_
            refine lv_iadd hx hb dX7_beat_71 ?_
            refine lv_istore_n (lv' := [(1, .int (y47_1 + 1)), (0, .ref (a 0))]) hx hb dX7_beat_72 rfl hl (by decide) rfl (fun ls hl => ?_)
            refine lv_goto (tgt := 47) hx hb dX7_beat_73 (by decide) ?_
            exact bk47 (y47_1 + 1) z60_v_s _ _ _ hq hP hD hS (lv_sub hl [1, 0] rfl)
          · have hq := hqB c3
            refine lv_iconst (v := 0) hx hb dX7_beat_66 (by decide) ?_
            refine lv_goto (tgt := 71) hx hb dX7_beat_67 (by decide) ?_
            refine lv_iadd hx hb dX7_beat_71 ?_
            refine lv_istore_n (lv' := [(1, .int (y47_1 + 0)), (0, .ref (a 0))]) hx hb dX7_beat_72 rfl hl (by decide) rfl (fun ls hl => ?_)
            refine lv_goto (tgt := 47) hx hb dX7_beat_73 (by decide) ?_
            exact bk47 (y47_1 + 0) z60_v_s _ _ _ hq hP hD hS (lv_sub hl [1, 0] rfl)
    exact key _ y47_1 z47_v_s H locs ls h0 (Nat.lt_succ_self _) hP hD hS hl
  have J2 : ∀  (y2_1 : Int32) (z2_v_s : (Nat → Int32)) (H : Heap) (locs : List Loc) (ls : Array Slot), wp_X7_beat_2 v  y2_1 z2_v_s Q → va_P (dC, dI) vwCl (cX7 cy a z2_v_s (X7_aside v) (X7_kept v) (X7_isKept v) (X7_saved v) (X7_savedMany v) (X7_text v) (X7_length v) (X7_thrown v) (X7_joint v) (X7_position v) (X7_isWrong v) (X7_isHollow v) (X7_sure v) (X7_away v) (X7_digested v)) H → va_D A (cX7 cy a z2_v_s (X7_aside v) (X7_kept v) (X7_isKept v) (X7_saved v) (X7_savedMany v) (X7_text v) (X7_length v) (X7_thrown v) (X7_joint v) (X7_position v) (X7_isWrong v) (X7_isHollow v) (X7_sure v) (X7_away v) (X7_digested v)) → va_S A s.heap H locs → lv_has ls 2 [(0, .ref (a 0)), (1, .int y2_1)] → W p l e (headSpec wsX7_beat ({ frames := 6, cells := 0, slots := 0, locals := 145 } : Room)).room s m ([.ref (a 0)] : List Value).toArray below meth c H locs 0 0 (MQ below (q_X7_beat dC dI cy a v Q A) ([.ref (a 0)] : List Value).toArray s 0 0 A) (F0 m 2 ls []) := by
    intro  y2_1 z2_v_s H locs ls hq hP hD hS hl
    obtain ⟨I2, μ2, h0, hs2⟩ := hq
    have key : ∀ (n : Nat) (y2_1 : Int32) (z2_v_s : (Nat → Int32)) (H : Heap) (locs : List Loc) (ls : Array Slot), I2 y2_1 z2_v_s → μ2 y2_1 z2_v_s < n → va_P (dC, dI) vwCl (cX7 cy a z2_v_s (X7_aside v) (X7_kept v) (X7_isKept v) (X7_saved v) (X7_savedMany v) (X7_text v) (X7_length v) (X7_thrown v) (X7_joint v) (X7_position v) (X7_isWrong v) (X7_isHollow v) (X7_sure v) (X7_away v) (X7_digested v)) H → va_D A (cX7 cy a z2_v_s (X7_aside v) (X7_kept v) (X7_isKept v) (X7_saved v) (X7_savedMany v) (X7_text v) (X7_length v) (X7_thrown v) (X7_joint v) (X7_position v) (X7_isWrong v) (X7_isHollow v) (X7_sure v) (X7_away v) (X7_digested v)) → va_S A s.heap H locs → lv_has ls 2 [(0, .ref (a 0)), (1, .int y2_1)] → W p l e (headSpec wsX7_beat ({ frames := 6, cells := 0, slots := 0, locals := 145 } : Room)).room s m ([.ref (a 0)] : List Value).toArray below meth c H locs 0 0 (MQ below (q_X7_beat dC dI cy a v Q A) ([.ref (a 0)] : List Value).toArray s 0 0 A) (F0 m 2 ls []) := by
      intro n
      induction n with
      | zero => intro y2_1 z2_v_s H locs ls _ hm; exact absurd hm (Nat.not_lt_zero _)
      | succ n ih =>
        intro y2_1 z2_v_s H locs ls hI hm hP hD hS hl
        have hq := hs2 y2_1 z2_v_s hI
        generalize hB2 : (fun (t0 : Int32) (t1 : (Nat → Int32)) => I2 t0 t1 ∧ μ2 t0 t1 < μ2 y2_1 z2_v_s) = B2 at hq
        have bk2 : ∀ (y2_1 : Int32) (z2_v_s : (Nat → Int32)) (H : Heap) (locs : List Loc) (ls : Array Slot), B2 y2_1 z2_v_s → va_P (dC, dI) vwCl (cX7 cy a z2_v_s (X7_aside v) (X7_kept v) (X7_isKept v) (X7_saved v) (X7_savedMany v) (X7_text v) (X7_length v) (X7_thrown v) (X7_joint v) (X7_position v) (X7_isWrong v) (X7_isHollow v) (X7_sure v) (X7_away v) (X7_digested v)) H → va_D A (cX7 cy a z2_v_s (X7_aside v) (X7_kept v) (X7_isKept v) (X7_saved v) (X7_savedMany v) (X7_text v) (X7_length v) (X7_thrown v) (X7_joint v) (X7_position v) (X7_isWrong v) (X7_isHollow v) (X7_sure v) (X7_away v) (X7_digested v)) → va_S A s.heap H locs → lv_has ls 2 [(0, .ref (a 0)), (1, .int y2_1)] → W p l e (headSpec wsX7_beat ({ frames := 6, cells := 0, slots := 0, locals := 145 } : Room)).room s m ([.ref (a 0)] : List Value).toArray below meth c H locs 0 0 (MQ below (q_X7_beat dC dI cy a v Q A) ([.ref (a 0)] : List Value).toArray s 0 0 A) (F0 m 2 ls []) := by
          intro y2_1 z2_v_s H locs ls h
          rw [← hB2] at h
          exact ih y2_1 z2_v_s H locs ls h.1 (Nat.lt_of_lt_of_le h.2 (Nat.le_of_lt_succ hm))
        unfold wb_X7_beat_2 at hq
        refine lv_iload_n hx hb dX7_beat_2 rfl (lv_at hl 1 rfl) ?_
        refine lv_bipush (v := 64) hx hb dX7_beat_3 (by decide) ?_
        obtain ⟨hqA, hqB⟩ := hq
        refine lv_icmp_ge (tgt := 45) hx hb dX7_beat_5 (by decide) (fun c7 => ?_) (fun c7 => ?_)
        · have hq := hqA c7
          refine lv_iconst (v := 0) hx hb dX7_beat_45 (by decide) ?_
          refine lv_istore_n (lv' := [(1, .int 0), (0, .ref (a 0))]) hx hb dX7_beat_46 rfl hl (by decide) rfl (fun ls hl => ?_)
          exact J47  0 z2_v_s _ _ _ hq hP hD hS (lv_sub hl [1, 0] rfl)
        · have hq := hqB c7
          refine lv_aload_n hx hb dX7_beat_8 rfl (lv_at hl 0 rfl) ?_
          refine va_get (D := (dC, dI)) (ci := 7) (v := .ref (a 1)) (C := RX7) (T := TX7) (N := 16) hx hb hts iK7 hown hK hP 0 rfl rfl 0 (by decide) lk0 (fun _ h9 => h9) rfl dX7_beat_9 ?_
          refine lv_sipush (v := 136) hx hb dX7_beat_12 (by decide) ?_
          refine lv_iload_n hx hb dX7_beat_15 rfl (lv_at hl 1 rfl) ?_
          refine lv_iadd hx hb dX7_beat_16 ?_
          refine lv_dup2_11 hx hb dX7_beat_17 rfl rfl ?_
          obtain ⟨g5, hq⟩ := hq
          refine va_iald hx hb hK hP 1 0 rfl rfl g5 dX7_beat_18 ?_
          refine lv_aload_n hx hb dX7_beat_19 rfl (lv_at hl 0 rfl) ?_
          refine va_get (D := (dC, dI)) (ci := 7) (v := .ref (a 1)) (C := RX7) (T := TX7) (N := 16) hx hb hts iK7 hown hK hP 0 rfl rfl 0 (by decide) lk0 (fun _ h9 => h9) rfl dX7_beat_20 ?_
          refine lv_sipush (v := 136) hx hb dX7_beat_23 (by decide) ?_
          refine lv_iload_n hx hb dX7_beat_26 rfl (lv_at hl 1 rfl) ?_
          refine lv_iadd hx hb dX7_beat_27 ?_
          refine va_iald hx hb hK hP 1 0 rfl rfl g5 dX7_beat_28 ?_
          obtain ⟨hqA, hqB⟩ := hq
          refine lv_if_le (tgt := 36) hx hb dX7_beat_29 (by decide) (fun c6 => ?_) (fun c6 => ?_)
          · have hq := hqA c6
            refine lv_iconst (v := 0) hx hb dX7_beat_36 (by decide) ?_
            refine lv_isub hx hb dX7_beat_37 ?_
            refine va_iast hx hb hK hP hD hS 1 0 rfl rfl g5 dX7_beat_38 (fun H locs hP hD hS => ?_)
            have hP : va_P (dC, dI) vwCl (cX7 cy a (upd z2_v_s (136 + y2_1).toNatClampNeg ((z2_v_s (136 + y2_1).toNatClampNeg) - 0)) (X7_aside v) (X7_kept v) (X7_isKept v) (X7_saved v) (X7_savedMany v) (X7_text v) (X7_length v) (X7_thrown v) (X7_joint v) (X7_position v) (X7_isWrong v) (X7_isHollow v) (X7_sure v) (X7_away v) (X7_digested v)) H := hP
            have hD : va_D A (cX7 cy a (upd z2_v_s (136 + y2_1).toNatClampNeg ((z2_v_s (136 + y2_1).toNatClampNeg) - 0)) (X7_aside v) (X7_kept v) (X7_isKept v) (X7_saved v) (X7_savedMany v) (X7_text v) (X7_length v) (X7_thrown v) (X7_joint v) (X7_position v) (X7_isWrong v) (X7_isHollow v) (X7_sure v) (X7_away v) (X7_digested v)) := hD
            refine lv_iinc (v := (y2_1 + 1)) (lv' := [(1, .int (y2_1 + 1)), (0, .ref (a 0))]) hx hb dX7_beat_39 hl (k := 1) rfl rfl (by decide) rfl (fun ls hl => ?_)
            refine lv_goto (tgt := 2) hx hb dX7_beat_42 (by decide) ?_
            exact bk2 (y2_1 + 1) (upd z2_v_s (136 + y2_1).toNatClampNeg ((z2_v_s (136 + y2_1).toNatClampNeg) - 0)) _ _ _ hq hP hD hS (lv_sub hl [1, 0] rfl)
          · have hq := hqB c6
            refine lv_iconst (v := 1) hx hb dX7_beat_32 (by decide) ?_
            refine lv_goto (tgt := 37) hx hb dX7_beat_33 (by decide) ?_
            refine lv_isub hx hb dX7_beat_37 ?_
            refine va_iast hx hb hK hP hD hS 1 0 rfl rfl g5 dX7_beat_38 (fun H locs hP hD hS => ?_)
            have hP : va_P (dC, dI) vwCl (cX7 cy a (upd z2_v_s (136 + y2_1).toNatClampNeg ((z2_v_s (136 + y2_1).toNatClampNeg) - 1)) (X7_aside v) (X7_kept v) (X7_isKept v) (X7_saved v) (X7_savedMany v) (X7_text v) (X7_length v) (X7_thrown v) (X7_joint v) (X7_position v) (X7_isWrong v) (X7_isHollow v) (X7_sure v) (X7_away v) (X7_digested v)) H := hP
            have hD : va_D A (cX7 cy a (upd z2_v_s (136 + y2_1).toNatClampNeg ((z2_v_s (136 + y2_1).toNatClampNeg) - 1)) (X7_aside v) (X7_kept v) (X7_isKept v) (X7_saved v) (X7_savedMany v) (X7_text v) (X7_length v) (X7_thrown v) (X7_joint v) (X7_position v) (X7_isWrong v) (X7_isHollow v) (X7_sure v) (X7_away v) (X7_digested v)) := hD
            refine lv_iinc (v := (y2_1 + 1)) (lv' := [(1, .int (y2_1 + 1)), (0, .ref (a 0))]) hx hb dX7_beat_39 hl (k := 1) rfl rfl (by decide) rfl (fun ls hl => ?_)
            refine lv_goto (tgt := 2) hx hb dX7_beat_42 (by decide) ?_
            exact bk2 (y2_1 + 1) (upd z2_v_s (136 + y2_1).toNatClampNeg ((z2_v_s (136 + y2_1).toNatClampNeg) - 1)) _ _ _ hq hP hD hS (lv_sub hl [1, 0] rfl)
    exact key _ y2_1 z2_v_s H locs ls h0 (Nat.lt_succ_self _) hP hD hS hl
  refine lv_iconst (v := 0) hx hb dX7_beat_0 (by decide) ?_
  refine lv_istore_n (lv' := [(1, .int 0), (0, .ref (a 0))]) hx hb dX7_beat_1 rfl hl (by decide) rfl (fun ls hl => ?_)
  exact J2  0 (X7_s v) _ _ _ hq hP hD hS (lv_sub hl [1, 0] rfl)
def wb_X7_beats_9 (v : V_X7) (x1 : Int32) (y9_2 : Int32) (y9_3 : Int32) (z9_v_s : (Nat → Int32)) (B9 : Int32 → (Nat → Int32) → Prop) (Q : Int32 → (Nat → Int32) → Prop) : Prop :=
  ((x1 ≤ y9_3 → vp_in 4 1472 ∧ Q ((z9_v_s (4 : Int32).toNatClampNeg) - y9_2) z9_v_s) ∧
  (¬ x1 ≤ y9_3 → wp_X7_beat (X7_s0 v z9_v_s) (fun z15_v_s =>
  B9 (y9_3 + 1) z15_v_s)))
def wp_X7_beats_9 (v : V_X7) (x1 : Int32) (y9_2 : Int32) (y9_3 : Int32) (z9_v_s : (Nat → Int32)) (Q : Int32 → (Nat → Int32) → Prop) : Prop :=
  ∃ (I : Int32 → (Nat → Int32) → Prop) (μ : Int32 → (Nat → Int32) → Nat), I y9_3 z9_v_s ∧ ∀ (s0 : Int32) (s1 : (Nat → Int32)), I s0 s1 → wb_X7_beats_9 v x1 y9_2 s0 s1 (fun t0 t1 => I t0 t1 ∧ μ t0 t1 < μ s0 s1) Q
def wp_X7_beats (v : V_X7) (x1 : Int32) (Q : Int32 → (Nat → Int32) → Prop) : Prop :=
  vp_in 4 1472 ∧ wp_X7_beats_9 v x1 ((X7_s v) (4 : Int32).toNatClampNeg) 0 (X7_s v) Q
def q_X7_beats (dC : Nat → ClassId) (dI : Nat → Nat → Nat) (cy : Nat → ClassId) (a : Nat → Nat) (v : V_X7) (x1 : Int32) (Q : Int32 → (Nat → Int32) → Prop) (A : Nat → Prop) : Array Value → State → Outcome → State → Prop := va_Qi (fun (r : Int32) (u : (Nat → Int32)) => Q r u) (fun (u : (Nat → Int32)) t => xAt dC dI cy A (cX7 cy a u (X7_aside v) (X7_kept v) (X7_isKept v) (X7_saved v) (X7_savedMany v) (X7_text v) (X7_length v) (X7_thrown v) (X7_joint v) (X7_position v) (X7_isWrong v) (X7_isHollow v) (X7_sure v) (X7_away v) (X7_digested v)) t) A
set_option maxHeartbeats 4000000 in
set_option maxRecDepth 100000 in
theorem c_X7_beats (l : Launch) (dC : Nat → ClassId) (dI : Nat → Nat → Nat) (cy : Nat → ClassId) (a : Nat → Nat) (sz : Nat) (v : V_X7) (x1 : Int32) (Q : Int32 → (Nat → Int32) → Prop) (hq : wp_X7_beats v x1 Q) : Met l yX7_beats wsX7_beats ({ frames := 7, cells := 0, slots := 0, locals := 166 } : Room) (va_Pc [.ref (a 0), .int x1] (xPre dC dI cy (wX7 cy a v) sz)) (q_X7_beats dC dI cy a v x1 Q (va_A (wX7 cy a v) sz)) 0 0 (va_A (wX7 cy a v) sz) := by
  refine Met.ofW (cc := cX7_beats) (maxL := 4) (ret := (some .int)) (by decide) rfl ?_
  intro p e s m args below meth c s₁ B hml hv
  obtain ⟨rfl, hsz, hP, hK, hD0⟩ := hv
  have hx := B.exec
  have hb := B.bytes
  have hr := B.returns
  have hts := atoms_spec (ws := wsX7_beats) B.pre
  have hown : s.vm.findClass RX7 = some m.cls := findClass_of_methodNamed B.named
  have hlocks := B.notSynchronized
  subst hsz
  have hD := hD0.self (sz := s.heap.size)
  generalize hAe : va_A (wX7 cy a v) s.heap.size = A at hD ⊢
  have hAe0 : ∀ q : Nat, s.heap.size ≤ q → A q := fun q h => by rw [← hAe]; exact Or.inr h
  have hS : va_S A s.heap s.heap [] := va_S.rf
  have hl := lv_entry ([.ref (a 0), .int x1]) (n := 4) (Nat.le_of_ble_eq_true rfl)
  rw [lg_entry_eq]
  generalize (lg_sl ([.ref (a 0), .int x1]) ++ List.replicate (4 - (lg_sl ([.ref (a 0), .int x1])).length) Slot.unset).toArray = ls at hl ⊢
  have hl : lv_has ls 4 [(0, .ref (a 0)), (1, .int x1)] := hl
  have lk0 := hts (Cond.fieldLink RX7 7 "MolesLawnModel" "s" "[I") (List.mem_cons_of_mem _ (List.mem_append_left _ (List.mem_append_left _ (List.mem_of_getElem? (i := 0) rfl))))
  have iK7 : ∀ w ∈ wsX70, w ∈ wsX7_beats := fun _ h => (List.mem_cons_of_mem _ (List.mem_append_right _ h))
  unfold wp_X7_beats at hq
  have J9 : ∀ (y9_2 : Int32) (y9_3 : Int32) (z9_v_s : (Nat → Int32)) (H : Heap) (locs : List Loc) (ls : Array Slot), wp_X7_beats_9 v x1 y9_2 y9_3 z9_v_s Q → va_P (dC, dI) vwCl (cX7 cy a z9_v_s (X7_aside v) (X7_kept v) (X7_isKept v) (X7_saved v) (X7_savedMany v) (X7_text v) (X7_length v) (X7_thrown v) (X7_joint v) (X7_position v) (X7_isWrong v) (X7_isHollow v) (X7_sure v) (X7_away v) (X7_digested v)) H → va_D A (cX7 cy a z9_v_s (X7_aside v) (X7_kept v) (X7_isKept v) (X7_saved v) (X7_savedMany v) (X7_text v) (X7_length v) (X7_thrown v) (X7_joint v) (X7_position v) (X7_isWrong v) (X7_isHollow v) (X7_sure v) (X7_away v) (X7_digested v)) → va_S A s.heap H locs → lv_has ls 4 [(0, .ref (a 0)), (1, .int x1), (2, .int y9_2), (3, .int y9_3)] → W p l e (headSpec wsX7_beats ({ frames := 7, cells := 0, slots := 0, locals := 166 } : Room)).room s m ([.ref (a 0), .int x1] : List Value).toArray below meth c H locs 0 0 (MQ below (q_X7_beats dC dI cy a v x1 Q A) ([.ref (a 0), .int x1] : List Value).toArray s 0 0 A) (F0 m 9 ls []) := by
    intro y9_2 y9_3 z9_v_s H locs ls hq hP hD hS hl
    obtain ⟨I9, μ9, h0, hs9⟩ := hq
    have key : ∀ (n : Nat) (y9_3 : Int32) (z9_v_s : (Nat → Int32)) (H : Heap) (locs : List Loc) (ls : Array Slot), I9 y9_3 z9_v_s → μ9 y9_3 z9_v_s < n → va_P (dC, dI) vwCl (cX7 cy a z9_v_s (X7_aside v) (X7_kept v) (X7_isKept v) (X7_saved v) (X7_savedMany v) (X7_text v) (X7_length v) (X7_thrown v) (X7_joint v) (X7_position v) (X7_isWrong v) (X7_isHollow v) (X7_sure v) (X7_away v) (X7_digested v)) H → va_D A (cX7 cy a z9_v_s (X7_aside v) (X7_kept v) (X7_isKept v) (X7_saved v) (X7_savedMany v) (X7_text v) (X7_length v) (X7_thrown v) (X7_joint v) (X7_position v) (X7_isWrong v) (X7_isHollow v) (X7_sure v) (X7_away v) (X7_digested v)) → va_S A s.heap H locs → lv_has ls 4 [(0, .ref (a 0)), (1, .int x1), (2, .int y9_2), (3, .int y9_3)] → W p l e (headSpec wsX7_beats ({ frames := 7, cells := 0, slots := 0, locals := 166 } : Room)).room s m ([.ref (a 0), .int x1] : List Value).toArray below meth c H locs 0 0 (MQ below (q_X7_beats dC dI cy a v x1 Q A) ([.ref (a 0), .int x1] : List Value).toArray s 0 0 A) (F0 m 9 ls []) := by
      intro n
      induction n with
      | zero => intro y9_3 z9_v_s H locs ls _ hm; exact absurd hm (Nat.not_lt_zero _)
      | succ n ih =>
        intro y9_3 z9_v_s H locs ls hI hm hP hD hS hl
        have hq := hs9 y9_3 z9_v_s hI
        generalize hB9 : (fun (t0 : Int32) (t1 : (Nat → Int32)) => I9 t0 t1 ∧ μ9 t0 t1 < μ9 y9_3 z9_v_s) = B9 at hq
        have bk9 : ∀ (y9_3 : Int32) (z9_v_s : (Nat → Int32)) (H : Heap) (locs : List Loc) (ls : Array Slot), B9 y9_3 z9_v_s → va_P (dC, dI) vwCl (cX7 cy a z9_v_s (X7_aside v) (X7_kept v) (X7_isKept v) (X7_saved v) (X7_savedMany v) (X7_text v) (X7_length v) (X7_thrown v) (X7_joint v) (X7_position v) (X7_isWrong v) (X7_isHollow v) (X7_sure v) (X7_away v) (X7_digested v)) H → va_D A (cX7 cy a z9_v_s (X7_aside v) (X7_kept v) (X7_isKept v) (X7_saved v) (X7_savedMany v) (X7_text v) (X7_length v) (X7_thrown v) (X7_joint v) (X7_position v) (X7_isWrong v) (X7_isHollow v) (X7_sure v) (X7_away v) (X7_digested v)) → va_S A s.heap H locs → lv_has ls 4 [(0, .ref (a 0)), (1, .int x1), (2, .int y9_2), (3, .int y9_3)] → W p l e (headSpec wsX7_beats ({ frames := 7, cells := 0, slots := 0, locals := 166 } : Room)).room s m ([.ref (a 0), .int x1] : List Value).toArray below meth c H locs 0 0 (MQ below (q_X7_beats dC dI cy a v x1 Q A) ([.ref (a 0), .int x1] : List Value).toArray s 0 0 A) (F0 m 9 ls []) := by
          intro y9_3 z9_v_s H locs ls h
          rw [← hB9] at h
          exact ih y9_3 z9_v_s H locs ls h.1 (Nat.lt_of_lt_of_le h.2 (Nat.le_of_lt_succ hm))
        unfold wb_X7_beats_9 at hq
        refine lv_iload_n hx hb dX7_beats_9 rfl (lv_at hl 3 rfl) ?_
        refine lv_iload_n hx hb dX7_beats_10 rfl (lv_at hl 1 rfl) ?_
        obtain ⟨hqA, hqB⟩ := hq
        refine lv_icmp_ge (tgt := 24) hx hb dX7_beats_11 (by decide) (fun c2 => ?_) (fun c2 => ?_)
        · have hq := hqA c2
          refine lv_aload_n hx hb dX7_beats_24 rfl (lv_at hl 0 rfl) ?_
          refine va_get (D := (dC, dI)) (ci := 7) (v := .ref (a 1)) (C := RX7) (T := TX7) (N := 16) hx hb hts iK7 hown hK hP 0 rfl rfl 0 (by decide) lk0 (fun _ h9 => h9) rfl dX7_beats_25 ?_
          refine lv_iconst (v := 4) hx hb dX7_beats_28 (by decide) ?_
          obtain ⟨g1, hq⟩ := hq
          refine va_iald hx hb hK hP 1 0 rfl rfl g1 dX7_beats_29 ?_
          refine lv_iload_n hx hb dX7_beats_30 rfl (lv_at hl 2 rfl) ?_
          refine lv_isub hx hb dX7_beats_31 ?_
          exact W.iret (v := ((z9_v_s (4 : Int32).toNatClampNeg) - y9_2)) hx hb hr (fun t ht hW => ⟨⟨((z9_v_s (4 : Int32).toNatClampNeg) - y9_2), z9_v_s, rfl, hq, (xAt_of hP hK hD ht hW)⟩, hS.F ht⟩) hS.2.2 dX7_beats_32
        · have hq := hqB c2
          refine lv_aload_n hx hb dX7_beats_14 rfl (lv_at hl 0 rfl) ?_
          have hFc := xfree_same hS hAe0 (ws := (cX7 cy a z9_v_s (X7_aside v) (X7_kept v) (X7_isKept v) (X7_saved v) (X7_savedMany v) (X7_text v) (X7_length v) (X7_thrown v) (X7_joint v) (X7_position v) (X7_isWrong v) (X7_isHollow v) (X7_sure v) (X7_away v) (X7_digested v))) hD
          refine va_callv (va_runV (As := []) (rest := []) ⟨hx, hb, hml, hown, hts⟩ (c_X7_beat l dC dI cy a _ (X7_s0 v z9_v_s) _ hq) (cwV 0 hts gX7_beats_X7_beat rfl rfl rfl (by decide +kernel) ⟨Nat.le_of_ble_eq_true rfl, Nat.le_of_ble_eq_true rfl⟩) ⟨xPre_blind, va_recv hK hP (ci := 7) (q0 := 0) rfl rfl, xPre_of hP hK hD⟩ rfl rfl hl.1 rfl (lv_room (Nat.le_of_ble_eq_true rfl)) dX7_beats_15 ⟨Nat.le_of_ble_eq_true rfl, Nat.le_of_ble_eq_true rfl⟩) hS (fun q _ h => hFc q h) hFc (fun z15_v_s t H locs ht hvm hq hB hz1 hk1 hS => ?_)
          obtain ⟨hP1, -, hD1⟩ := hB
          rw [ht] at hP1
          have hP : va_P (dC, dI) vwCl (cX7 cy a z15_v_s (X7_aside v) (X7_kept v) (X7_isKept v) (X7_saved v) (X7_savedMany v) (X7_text v) (X7_length v) (X7_thrown v) (X7_joint v) (X7_position v) (X7_isWrong v) (X7_isHollow v) (X7_sure v) (X7_away v) (X7_digested v)) H := hP1
          have hD : va_D A (cX7 cy a z15_v_s (X7_aside v) (X7_kept v) (X7_isKept v) (X7_saved v) (X7_savedMany v) (X7_text v) (X7_length v) (X7_thrown v) (X7_joint v) (X7_position v) (X7_isWrong v) (X7_isHollow v) (X7_sure v) (X7_away v) (X7_digested v)) := hD1.weaken (fun _ q _ h => hFc q.1 h)
          refine lv_iinc (v := (y9_3 + 1)) (lv' := [(3, .int (y9_3 + 1)), (0, .ref (a 0)), (1, .int x1), (2, .int y9_2)]) hx hb dX7_beats_18 hl (k := 3) rfl rfl (by decide) rfl (fun ls hl => ?_)
          refine lv_goto (tgt := 9) hx hb dX7_beats_21 (by decide) ?_
          exact bk9 (y9_3 + 1) z15_v_s _ _ _ hq hP hD hS (lv_sub hl [1, 2, 3, 0] rfl)
    exact key _ y9_3 z9_v_s H locs ls h0 (Nat.lt_succ_self _) hP hD hS hl
  refine lv_aload_n hx hb dX7_beats_0 rfl (lv_at hl 0 rfl) ?_
  refine va_get (D := (dC, dI)) (ci := 7) (v := .ref (a 1)) (C := RX7) (T := TX7) (N := 16) hx hb hts iK7 hown hK hP 0 rfl rfl 0 (by decide) lk0 (fun _ h9 => h9) rfl dX7_beats_1 ?_
  refine lv_iconst (v := 4) hx hb dX7_beats_4 (by decide) ?_
  obtain ⟨g3, hq⟩ := hq
  refine va_iald hx hb hK hP 1 0 rfl rfl g3 dX7_beats_5 ?_
  refine lv_istore_n (lv' := [(2, .int ((X7_s v) (4 : Int32).toNatClampNeg)), (0, .ref (a 0)), (1, .int x1)]) hx hb dX7_beats_6 rfl hl (by decide) rfl (fun ls hl => ?_)
  refine lv_iconst (v := 0) hx hb dX7_beats_7 (by decide) ?_
  refine lv_istore_n (lv' := [(3, .int 0), (2, .int ((X7_s v) (4 : Int32).toNatClampNeg)), (0, .ref (a 0)), (1, .int x1)]) hx hb dX7_beats_8 rfl hl (by decide) rfl (fun ls hl => ?_)
  exact J9 ((X7_s v) (4 : Int32).toNatClampNeg) 0 (X7_s v) _ _ _ hq hP hD hS (lv_sub hl [2, 3, 1, 0] rfl)
def wp_X7_lays (v : V_X7) (x1 : Int32) (x2 : Int32) (Q : Int32 → (Nat → Int32) → (Nat → Int32) → Int32 → Prop) : Prop :=
  wp_X7_save v (fun z1_v_saved z1_v_savedMany =>
  vp_in x1 1472 ∧ Q ((X7_s v) x1.toNatClampNeg) (upd (X7_s v) x1.toNatClampNeg x2) z1_v_saved z1_v_savedMany)
def q_X7_lays (dC : Nat → ClassId) (dI : Nat → Nat → Nat) (cy : Nat → ClassId) (a : Nat → Nat) (v : V_X7) (x1 : Int32) (x2 : Int32) (Q : Int32 → (Nat → Int32) → (Nat → Int32) → Int32 → Prop) (A : Nat → Prop) : Array Value → State → Outcome → State → Prop := va_Qi (fun (r : Int32) (u : (Nat → Int32) × (Nat → Int32) × Int32) => Q r u.1 u.2.1 u.2.2) (fun (u : (Nat → Int32) × (Nat → Int32) × Int32) t => xAt dC dI cy A (cX7 cy a u.1 (X7_aside v) (X7_kept v) (X7_isKept v) u.2.1 u.2.2 (X7_text v) (X7_length v) (X7_thrown v) (X7_joint v) (X7_position v) (X7_isWrong v) (X7_isHollow v) (X7_sure v) (X7_away v) (X7_digested v)) t) A
set_option maxHeartbeats 4000000 in
set_option maxRecDepth 100000 in
theorem c_X7_lays (l : Launch) (dC : Nat → ClassId) (dI : Nat → Nat → Nat) (cy : Nat → ClassId) (a : Nat → Nat) (sz : Nat) (v : V_X7) (x1 : Int32) (x2 : Int32) (Q : Int32 → (Nat → Int32) → (Nat → Int32) → Int32 → Prop) (hq : wp_X7_lays v x1 x2 Q) : Met l yX7_lays wsX7_lays ({ frames := 1, cells := 0, slots := 0, locals := 21 } : Room) (va_Pc [.ref (a 0), .int x1, .int x2] (xPre dC dI cy (wX7 cy a v) sz)) (q_X7_lays dC dI cy a v x1 x2 Q (va_A (wX7 cy a v) sz)) 0 0 (va_A (wX7 cy a v) sz) := by
  refine Met.ofW (cc := cX7_lays) (maxL := 4) (ret := (some .int)) (by decide) rfl ?_
  intro p e s m args below meth c s₁ B hml hv
  obtain ⟨rfl, hsz, hP, hK, hD0⟩ := hv
  have hx := B.exec
  have hb := B.bytes
  have hr := B.returns
  have hts := atoms_spec (ws := wsX7_lays) B.pre
  have hown : s.vm.findClass RX7 = some m.cls := findClass_of_methodNamed B.named
  have hlocks := B.notSynchronized
  subst hsz
  have hD := hD0.self (sz := s.heap.size)
  generalize hAe : va_A (wX7 cy a v) s.heap.size = A at hD ⊢
  have hAe0 : ∀ q : Nat, s.heap.size ≤ q → A q := fun q h => by rw [← hAe]; exact Or.inr h
  have hS : va_S A s.heap s.heap [] := va_S.rf
  have hl := lv_entry ([.ref (a 0), .int x1, .int x2]) (n := 4) (Nat.le_of_ble_eq_true rfl)
  rw [lg_entry_eq]
  generalize (lg_sl ([.ref (a 0), .int x1, .int x2]) ++ List.replicate (4 - (lg_sl ([.ref (a 0), .int x1, .int x2])).length) Slot.unset).toArray = ls at hl ⊢
  have hl : lv_has ls 4 [(0, .ref (a 0)), (1, .int x1), (2, .int x2)] := hl
  have lk0 := hts (Cond.fieldLink RX7 7 "MolesLawnModel" "s" "[I") (List.mem_cons_of_mem _ (List.mem_append_left _ (List.mem_of_getElem? (i := 0) rfl)))
  have iK7 : ∀ w ∈ wsX70, w ∈ wsX7_lays := fun _ h => (List.mem_cons_of_mem _ (List.mem_append_right _ h))
  unfold wp_X7_lays at hq
  refine lv_aload_n hx hb dX7_lays_0 rfl (lv_at hl 0 rfl) ?_
  have hFc := xfree_same hS hAe0 (ws := (wX7 cy a v)) hD
  refine va_callv (va_runV (As := []) (rest := []) ⟨hx, hb, hml, hown, hts⟩ (c_X7_save l dC dI cy a _ v _ hq) (cwV 0 hts gX7_lays_X7_save rfl rfl rfl (by decide +kernel) ⟨Nat.le_of_ble_eq_true rfl, Nat.le_of_ble_eq_true rfl⟩) ⟨xPre_blind, va_recv hK hP (ci := 7) (q0 := 0) rfl rfl, xPre_of hP hK hD⟩ rfl rfl hl.1 rfl (lv_room (Nat.le_of_ble_eq_true rfl)) dX7_lays_1 ⟨Nat.le_of_ble_eq_true rfl, Nat.le_of_ble_eq_true rfl⟩) hS (fun q _ h => hFc q h) hFc (fun u9 t H locs ht hvm hq hB hz1 hk1 hS => ?_)
  obtain ⟨z1_v_saved, z1_v_savedMany⟩ := u9
  obtain ⟨hP1, -, hD1⟩ := hB
  rw [ht] at hP1
  have hP : va_P (dC, dI) vwCl (cX7 cy a (X7_s v) (X7_aside v) (X7_kept v) (X7_isKept v) z1_v_saved z1_v_savedMany (X7_text v) (X7_length v) (X7_thrown v) (X7_joint v) (X7_position v) (X7_isWrong v) (X7_isHollow v) (X7_sure v) (X7_away v) (X7_digested v)) H := hP1
  have hD : va_D A (cX7 cy a (X7_s v) (X7_aside v) (X7_kept v) (X7_isKept v) z1_v_saved z1_v_savedMany (X7_text v) (X7_length v) (X7_thrown v) (X7_joint v) (X7_position v) (X7_isWrong v) (X7_isHollow v) (X7_sure v) (X7_away v) (X7_digested v)) := hD1.weaken (fun _ q _ h => hFc q.1 h)
  refine lv_aload_n hx hb dX7_lays_4 rfl (lv_at hl 0 rfl) ?_
  refine va_get (D := (dC, dI)) (ci := 7) (v := .ref (a 1)) (C := RX7) (T := TX7) (N := 16) hx hb hts iK7 hown hK hP 0 rfl rfl 0 (by decide) lk0 (fun _ h9 => h9) rfl dX7_lays_5 ?_
  refine lv_iload_n hx hb dX7_lays_8 rfl (lv_at hl 1 rfl) ?_
  obtain ⟨g1, hq⟩ := hq
  refine va_iald hx hb hK hP 1 0 rfl rfl g1 dX7_lays_9 ?_
  refine lv_istore_n (lv' := [(3, .int ((X7_s v) x1.toNatClampNeg)), (0, .ref (a 0)), (1, .int x1), (2, .int x2)]) hx hb dX7_lays_10 rfl hl (by decide) rfl (fun ls hl => ?_)
  refine lv_aload_n hx hb dX7_lays_11 rfl (lv_at hl 1 rfl) ?_
  refine va_get (D := (dC, dI)) (ci := 7) (v := .ref (a 1)) (C := RX7) (T := TX7) (N := 16) hx hb hts iK7 hown hK hP 0 rfl rfl 0 (by decide) lk0 (fun _ h9 => h9) rfl dX7_lays_12 ?_
  refine lv_iload_n hx hb dX7_lays_15 rfl (lv_at hl 2 rfl) ?_
  refine lv_iload_n hx hb dX7_lays_16 rfl (lv_at hl 3 rfl) ?_
  refine va_iast hx hb hK hP hD hS 1 0 rfl rfl g1 dX7_lays_17 (fun H locs hP hD hS => ?_)
  have hP : va_P (dC, dI) vwCl (cX7 cy a (upd (X7_s v) x1.toNatClampNeg x2) (X7_aside v) (X7_kept v) (X7_isKept v) z1_v_saved z1_v_savedMany (X7_text v) (X7_length v) (X7_thrown v) (X7_joint v) (X7_position v) (X7_isWrong v) (X7_isHollow v) (X7_sure v) (X7_away v) (X7_digested v)) H := hP
  have hD : va_D A (cX7 cy a (upd (X7_s v) x1.toNatClampNeg x2) (X7_aside v) (X7_kept v) (X7_isKept v) z1_v_saved z1_v_savedMany (X7_text v) (X7_length v) (X7_thrown v) (X7_joint v) (X7_position v) (X7_isWrong v) (X7_isHollow v) (X7_sure v) (X7_away v) (X7_digested v)) := hD
  refine lv_iload_n hx hb dX7_lays_18 rfl (lv_at hl 0 rfl) ?_
  exact W.iret (v := ((X7_s v) x1.toNatClampNeg)) hx hb hr (fun t ht hW => ⟨⟨((X7_s v) x1.toNatClampNeg), ((upd (X7_s v) x1.toNatClampNeg x2), z1_v_saved, z1_v_savedMany), rfl, hq, (xAt_of hP hK hD ht hW)⟩, hS.F ht⟩) hS.2.2 dX7_lays_19
def wp_X7_mole_64 (v : V_X7) (x1 : Int32) (z64_v_s : (Nat → Int32)) (z64_v_saved : (Nat → Int32)) (z64_v_savedMany : Int32) (z64_v_thrown : Int32) (Q : Int32 → (Nat → Int32) → (Nat → Int32) → Int32 → Int32 → Prop) : Prop :=
  vp_in 1 1472 ∧ wp_X7_of (z64_v_s (1 : Int32).toNatClampNeg) 0 (fun r87 =>
  vp_in r87 1472 ∧ wp_X7_beginsTrail ((upd (upd z64_v_s (1 : Int32).toNatClampNeg ((z64_v_s (1 : Int32).toNatClampNeg) + 1)) r87.toNatClampNeg x1), (X7_aside v), (X7_kept v), (X7_isKept v), z64_v_saved, z64_v_savedMany, (X7_text v), (X7_length v), z64_v_thrown, (X7_joint v), (X7_position v), (X7_isWrong v), (X7_isHollow v), (X7_sure v), (X7_away v), (X7_digested v)) (z64_v_s (1 : Int32).toNatClampNeg) (fun z94_v_s =>
  Q (z64_v_s (1 : Int32).toNatClampNeg) z94_v_s z64_v_saved z64_v_savedMany z64_v_thrown))
def wp_X7_mole_39 (v : V_X7) (x1 : Int32) (k39_0 : Int32) (Q : Int32 → (Nat → Int32) → (Nat → Int32) → Int32 → Int32 → Prop) : Prop :=
  wp_X7_holds v k39_0 (fun r39 z39_v_thrown =>
  ((r39 = 0 → Q 0 (X7_s v) (X7_saved v) (X7_savedMany v) z39_v_thrown) ∧
  (¬ r39 = 0 → wp_X7_save (X7_s8 v z39_v_thrown) (fun z48_v_saved z48_v_savedMany =>
  wp_X7_hasMound ((X7_s v), (X7_aside v), (X7_kept v), (X7_isKept v), z48_v_saved, z48_v_savedMany, (X7_text v), (X7_length v), z39_v_thrown, (X7_joint v), (X7_position v), (X7_isWrong v), (X7_isHollow v), (X7_sure v), (X7_away v), (X7_digested v)) x1 (fun r53 =>
  ((r53 = 0 → wp_X7_comesUp ((X7_s v), (X7_aside v), (X7_kept v), (X7_isKept v), z48_v_saved, z48_v_savedMany, (X7_text v), (X7_length v), z39_v_thrown, (X7_joint v), (X7_position v), (X7_isWrong v), (X7_isHollow v), (X7_sure v), (X7_away v), (X7_digested v)) x1 (fun z61_v_s =>
  wp_X7_mole_64 v x1 z61_v_s z48_v_saved z48_v_savedMany z39_v_thrown  Q)) ∧
  (¬ r53 = 0 → wp_X7_mole_64 v x1 (X7_s v) z48_v_saved z48_v_savedMany z39_v_thrown  Q)))))))
def wp_X7_mole_34 (v : V_X7) (x1 : Int32)  (Q : Int32 → (Nat → Int32) → (Nat → Int32) → Int32 → Int32 → Prop) : Prop :=
  wp_X7_mole_39 v x1 2  Q
def wp_X7_mole (v : V_X7) (x1 : Int32) (Q : Int32 → (Nat → Int32) → (Nat → Int32) → Int32 → Int32 → Prop) : Prop :=
  wp_X7_isTuft x1 (fun r2 =>
  ((r2 = 0 → wp_X7_mole_39 v x1 1  Q) ∧
  (¬ r2 = 0 → vp_in 1 1472 ∧ ((((X7_s v) (1 : Int32).toNatClampNeg) = 4 → wp_X7_mole_34 v x1   Q) ∧
  (¬ ((X7_s v) (1 : Int32).toNatClampNeg) = 4 → vp_in (72 + x1) 1472 ∧ ((((X7_s v) (72 + x1).toNatClampNeg) ≤ 0 → wp_X7_mole_39 v x1 0  Q) ∧
  (¬ ((X7_s v) (72 + x1).toNatClampNeg) ≤ 0 → wp_X7_mole_34 v x1   Q)))))))
def q_X7_mole (dC : Nat → ClassId) (dI : Nat → Nat → Nat) (cy : Nat → ClassId) (a : Nat → Nat) (v : V_X7) (x1 : Int32) (Q : Int32 → (Nat → Int32) → (Nat → Int32) → Int32 → Int32 → Prop) (A : Nat → Prop) : Array Value → State → Outcome → State → Prop := va_Qi (fun (r : Int32) (u : (Nat → Int32) × (Nat → Int32) × Int32 × Int32) => Q r u.1 u.2.1 u.2.2.1 u.2.2.2) (fun (u : (Nat → Int32) × (Nat → Int32) × Int32 × Int32) t => xAt dC dI cy A (cX7 cy a u.1 (X7_aside v) (X7_kept v) (X7_isKept v) u.2.1 u.2.2.1 (X7_text v) (X7_length v) u.2.2.2 (X7_joint v) (X7_position v) (X7_isWrong v) (X7_isHollow v) (X7_sure v) (X7_away v) (X7_digested v)) t) A
set_option maxHeartbeats 4000000 in
set_option maxRecDepth 100000 in
theorem c_X7_mole (l : Launch) (dC : Nat → ClassId) (dI : Nat → Nat → Nat) (cy : Nat → ClassId) (a : Nat → Nat) (sz : Nat) (v : V_X7) (x1 : Int32) (Q : Int32 → (Nat → Int32) → (Nat → Int32) → Int32 → Int32 → Prop) (hq : wp_X7_mole v x1 Q) : Met l yX7_mole wsX7_mole ({ frames := 4, cells := 0, slots := 0, locals := 97 } : Room) (va_Pc [.ref (a 0), .int x1] (xPre dC dI cy (wX7 cy a v) sz)) (q_X7_mole dC dI cy a v x1 Q (va_A (wX7 cy a v) sz)) 0 0 (va_A (wX7 cy a v) sz) := by
  refine Met.ofW (cc := cX7_mole) (maxL := 3) (ret := (some .int)) (by decide) rfl ?_
  intro p e s m args below meth c s₁ B hml hv
  obtain ⟨rfl, hsz, hP, hK, hD0⟩ := hv
  have hx := B.exec
  have hb := B.bytes
  have hr := B.returns
  have hts := atoms_spec (ws := wsX7_mole) B.pre
  have hown : s.vm.findClass RX7 = some m.cls := findClass_of_methodNamed B.named
  have hlocks := B.notSynchronized
  subst hsz
  have hD := hD0.self (sz := s.heap.size)
  generalize hAe : va_A (wX7 cy a v) s.heap.size = A at hD ⊢
  have hAe0 : ∀ q : Nat, s.heap.size ≤ q → A q := fun q h => by rw [← hAe]; exact Or.inr h
  have hS : va_S A s.heap s.heap [] := va_S.rf
  have hl := lv_entry ([.ref (a 0), .int x1]) (n := 3) (Nat.le_of_ble_eq_true rfl)
  rw [lg_entry_eq]
  generalize (lg_sl ([.ref (a 0), .int x1]) ++ List.replicate (3 - (lg_sl ([.ref (a 0), .int x1])).length) Slot.unset).toArray = ls at hl ⊢
  have hl : lv_has ls 3 [(0, .ref (a 0)), (1, .int x1)] := hl
  have lk0 := hts (Cond.fieldLink RX7 7 "MolesLawnModel" "s" "[I") (List.mem_cons_of_mem _ (List.mem_append_left _ (List.mem_append_left _ (List.mem_of_getElem? (i := 0) rfl))))
  have iK7 : ∀ w ∈ wsX70, w ∈ wsX7_mole := fun _ h => (List.mem_cons_of_mem _ (List.mem_append_right _ h))
  unfold wp_X7_mole at hq
  have J64 : ∀ (z64_v_s : (Nat → Int32)) (z64_v_saved : (Nat → Int32)) (z64_v_savedMany : Int32) (z64_v_thrown : Int32) (H : Heap) (locs : List Loc) (ls : Array Slot), wp_X7_mole_64 v x1 z64_v_s z64_v_saved z64_v_savedMany z64_v_thrown Q → va_P (dC, dI) vwCl (cX7 cy a z64_v_s (X7_aside v) (X7_kept v) (X7_isKept v) z64_v_saved z64_v_savedMany (X7_text v) (X7_length v) z64_v_thrown (X7_joint v) (X7_position v) (X7_isWrong v) (X7_isHollow v) (X7_sure v) (X7_away v) (X7_digested v)) H → va_D A (cX7 cy a z64_v_s (X7_aside v) (X7_kept v) (X7_isKept v) z64_v_saved z64_v_savedMany (X7_text v) (X7_length v) z64_v_thrown (X7_joint v) (X7_position v) (X7_isWrong v) (X7_isHollow v) (X7_sure v) (X7_away v) (X7_digested v)) → va_S A s.heap H locs → lv_has ls 3 [(0, .ref (a 0)), (1, .int x1)] → W p l e (headSpec wsX7_mole ({ frames := 4, cells := 0, slots := 0, locals := 97 } : Room)).room s m ([.ref (a 0), .int x1] : List Value).toArray below meth c H locs 0 0 (MQ below (q_X7_mole dC dI cy a v x1 Q A) ([.ref (a 0), .int x1] : List Value).toArray s 0 0 A) (F0 m 64 ls []) := by
    intro z64_v_s z64_v_saved z64_v_savedMany z64_v_thrown H locs ls hq hP hD hS hl
    unfold wp_X7_mole_64 at hq
    refine lv_aload_n hx hb dX7_mole_64 rfl (lv_at hl 0 rfl) ?_
    refine va_get (D := (dC, dI)) (ci := 7) (v := .ref (a 1)) (C := RX7) (T := TX7) (N := 16) hx hb hts iK7 hown hK hP 0 rfl rfl 0 (by decide) lk0 (fun _ h9 => h9) rfl dX7_mole_65 ?_
    refine lv_iconst (v := 1) hx hb dX7_mole_68 (by decide) ?_
    obtain ⟨g1, hq⟩ := hq
    refine va_iald hx hb hK hP 1 0 rfl rfl g1 dX7_mole_69 ?_
    refine lv_istore_n (lv' := [(2, .int (z64_v_s (1 : Int32).toNatClampNeg)), (0, .ref (a 0)), (1, .int x1)]) hx hb dX7_mole_70 rfl hl (by decide) rfl (fun ls hl => ?_)
    refine lv_aload_n hx hb dX7_mole_71 rfl (lv_at hl 1 rfl) ?_
    refine va_get (D := (dC, dI)) (ci := 7) (v := .ref (a 1)) (C := RX7) (T := TX7) (N := 16) hx hb hts iK7 hown hK hP 0 rfl rfl 0 (by decide) lk0 (fun _ h9 => h9) rfl dX7_mole_72 ?_
    refine lv_iconst (v := 1) hx hb dX7_mole_75 (by decide) ?_
    refine lv_dup2_11 hx hb dX7_mole_76 rfl rfl ?_
    refine va_iald hx hb hK hP 1 0 rfl rfl g1 dX7_mole_77 ?_
    refine lv_iconst (v := 1) hx hb dX7_mole_78 (by decide) ?_
    refine lv_iadd hx hb dX7_mole_79 ?_
    refine va_iast hx hb hK hP hD hS 1 0 rfl rfl g1 dX7_mole_80 (fun H locs hP hD hS => ?_)
    have hP : va_P (dC, dI) vwCl (cX7 cy a (upd z64_v_s (1 : Int32).toNatClampNeg ((z64_v_s (1 : Int32).toNatClampNeg) + 1)) (X7_aside v) (X7_kept v) (X7_isKept v) z64_v_saved z64_v_savedMany (X7_text v) (X7_length v) z64_v_thrown (X7_joint v) (X7_position v) (X7_isWrong v) (X7_isHollow v) (X7_sure v) (X7_away v) (X7_digested v)) H := hP
    have hD : va_D A (cX7 cy a (upd z64_v_s (1 : Int32).toNatClampNeg ((z64_v_s (1 : Int32).toNatClampNeg) + 1)) (X7_aside v) (X7_kept v) (X7_isKept v) z64_v_saved z64_v_savedMany (X7_text v) (X7_length v) z64_v_thrown (X7_joint v) (X7_position v) (X7_isWrong v) (X7_isHollow v) (X7_sure v) (X7_away v) (X7_digested v)) := hD
    refine lv_aload_n hx hb dX7_mole_81 rfl (lv_at hl 1 rfl) ?_
    refine va_get (D := (dC, dI)) (ci := 7) (v := .ref (a 1)) (C := RX7) (T := TX7) (N := 16) hx hb hts iK7 hown hK hP 0 rfl rfl 0 (by decide) lk0 (fun _ h9 => h9) rfl dX7_mole_82 ?_
    refine lv_iload_n hx hb dX7_mole_85 rfl (lv_at hl 0 rfl) ?_
    refine lv_iconst (v := 0) hx hb dX7_mole_86 (by decide) ?_
    have hFc := xfree_none hS hAe0
    refine va_calli (va_runS (As := [.int (z64_v_s (1 : Int32).toNatClampNeg), .int 0]) (rest := [.ref (a 1)]) ⟨hx, hb, hml, hown, hts⟩ (c_X7_of l dC dI cy  _ (z64_v_s (1 : Int32).toNatClampNeg) 0 _ hq) (va_cwS 2 hts gX7_mole_X7_of rfl rfl rfl (by decide +kernel) ⟨Nat.le_of_ble_eq_true rfl, Nat.le_of_ble_eq_true rfl⟩) ⟨xPre_blind, xPre_of xP_nil hK (xD_nil (A := A))⟩ rfl rfl hl.1 rfl (lv_room (Nat.le_of_ble_eq_true rfl)) dX7_mole_87 ⟨Nat.le_of_ble_eq_true rfl, Nat.le_of_ble_eq_true rfl⟩) hS (fun q _ h => hFc q h) hFc (fun r87 u9 t H locs ht hvm hq hB hz1 hk1 hS => ?_)
    have hP := xj_none hP hk1
    refine lv_iload_n hx hb dX7_mole_90 rfl (lv_at hl 2 rfl) ?_
    obtain ⟨g2, hq⟩ := hq
    refine va_iast hx hb hK hP hD hS 1 0 rfl rfl g2 dX7_mole_91 (fun H locs hP hD hS => ?_)
    have hP : va_P (dC, dI) vwCl (cX7 cy a (upd (upd z64_v_s (1 : Int32).toNatClampNeg ((z64_v_s (1 : Int32).toNatClampNeg) + 1)) r87.toNatClampNeg x1) (X7_aside v) (X7_kept v) (X7_isKept v) z64_v_saved z64_v_savedMany (X7_text v) (X7_length v) z64_v_thrown (X7_joint v) (X7_position v) (X7_isWrong v) (X7_isHollow v) (X7_sure v) (X7_away v) (X7_digested v)) H := hP
    have hD : va_D A (cX7 cy a (upd (upd z64_v_s (1 : Int32).toNatClampNeg ((z64_v_s (1 : Int32).toNatClampNeg) + 1)) r87.toNatClampNeg x1) (X7_aside v) (X7_kept v) (X7_isKept v) z64_v_saved z64_v_savedMany (X7_text v) (X7_length v) z64_v_thrown (X7_joint v) (X7_position v) (X7_isWrong v) (X7_isHollow v) (X7_sure v) (X7_away v) (X7_digested v)) := hD
    refine lv_aload_n hx hb dX7_mole_92 rfl (lv_at hl 1 rfl) ?_
    refine lv_iload_n hx hb dX7_mole_93 rfl (lv_at hl 0 rfl) ?_
    have hFc := xfree_same hS hAe0 (ws := (cX7 cy a (upd (upd z64_v_s (1 : Int32).toNatClampNeg ((z64_v_s (1 : Int32).toNatClampNeg) + 1)) r87.toNatClampNeg x1) (X7_aside v) (X7_kept v) (X7_isKept v) z64_v_saved z64_v_savedMany (X7_text v) (X7_length v) z64_v_thrown (X7_joint v) (X7_position v) (X7_isWrong v) (X7_isHollow v) (X7_sure v) (X7_away v) (X7_digested v))) hD
    refine va_callv (va_runV (As := [.int (z64_v_s (1 : Int32).toNatClampNeg)]) (rest := []) ⟨hx, hb, hml, hown, hts⟩ (c_X7_beginsTrail l dC dI cy a _ ((upd (upd z64_v_s (1 : Int32).toNatClampNeg ((z64_v_s (1 : Int32).toNatClampNeg) + 1)) r87.toNatClampNeg x1), (X7_aside v), (X7_kept v), (X7_isKept v), z64_v_saved, z64_v_savedMany, (X7_text v), (X7_length v), z64_v_thrown, (X7_joint v), (X7_position v), (X7_isWrong v), (X7_isHollow v), (X7_sure v), (X7_away v), (X7_digested v)) (z64_v_s (1 : Int32).toNatClampNeg) _ hq) (cwV 1 hts gX7_mole_X7_beginsTrail rfl rfl rfl (by decide +kernel) ⟨Nat.le_of_ble_eq_true rfl, Nat.le_of_ble_eq_true rfl⟩) ⟨xPre_blind, va_recv hK hP (ci := 7) (q0 := 0) rfl rfl, xPre_of hP hK hD⟩ rfl rfl hl.1 rfl (lv_room (Nat.le_of_ble_eq_true rfl)) dX7_mole_94 ⟨Nat.le_of_ble_eq_true rfl, Nat.le_of_ble_eq_true rfl⟩) hS (fun q _ h => hFc q h) hFc (fun z94_v_s t H locs ht hvm hq hB hz1 hk1 hS => ?_)
    obtain ⟨hP1, -, hD1⟩ := hB
    rw [ht] at hP1
    have hP : va_P (dC, dI) vwCl (cX7 cy a z94_v_s (X7_aside v) (X7_kept v) (X7_isKept v) z64_v_saved z64_v_savedMany (X7_text v) (X7_length v) z64_v_thrown (X7_joint v) (X7_position v) (X7_isWrong v) (X7_isHollow v) (X7_sure v) (X7_away v) (X7_digested v)) H := hP1
    have hD : va_D A (cX7 cy a z94_v_s (X7_aside v) (X7_kept v) (X7_isKept v) z64_v_saved z64_v_savedMany (X7_text v) (X7_length v) z64_v_thrown (X7_joint v) (X7_position v) (X7_isWrong v) (X7_isHollow v) (X7_sure v) (X7_away v) (X7_digested v)) := hD1.weaken (fun _ q _ h => hFc q.1 h)
    refine lv_iload_n hx hb dX7_mole_97 rfl (lv_at hl 0 rfl) ?_
    exact W.iret (v := (z64_v_s (1 : Int32).toNatClampNeg)) hx hb hr (fun t ht hW => ⟨⟨(z64_v_s (1 : Int32).toNatClampNeg), (z94_v_s, z64_v_saved, z64_v_savedMany, z64_v_thrown), rfl, hq, (xAt_of hP hK hD ht hW)⟩, hS.F ht⟩) hS.2.2 dX7_mole_98
  have J39 : ∀ (k39_0 : Int32) (H : Heap) (locs : List Loc) (ls : Array Slot), wp_X7_mole_39 v x1 k39_0 Q → va_P (dC, dI) vwCl (wX7 cy a v) H → va_D A (wX7 cy a v) → va_S A s.heap H locs → lv_has ls 3 [(0, .ref (a 0)), (1, .int x1)] → W p l e (headSpec wsX7_mole ({ frames := 4, cells := 0, slots := 0, locals := 97 } : Room)).room s m ([.ref (a 0), .int x1] : List Value).toArray below meth c H locs 0 0 (MQ below (q_X7_mole dC dI cy a v x1 Q A) ([.ref (a 0), .int x1] : List Value).toArray s 0 0 A) (F0 m 39 ls [.int k39_0, .ref (a 0)]) := by
    intro k39_0 H locs ls hq hP hD hS hl
    unfold wp_X7_mole_39 at hq
    have hFc := xfree_same hS hAe0 (ws := (wX7 cy a v)) hD
    refine va_calli (va_runV (As := [.int k39_0]) (rest := []) ⟨hx, hb, hml, hown, hts⟩ (c_X7_holds l dC dI cy a _ v k39_0 _ hq) (cwV 1 hts gX7_mole_X7_holds rfl rfl rfl (by decide +kernel) ⟨Nat.le_of_ble_eq_true rfl, Nat.le_of_ble_eq_true rfl⟩) ⟨xPre_blind, va_recv hK hP (ci := 7) (q0 := 0) rfl rfl, xPre_of hP hK hD⟩ rfl rfl hl.1 rfl (lv_room (Nat.le_of_ble_eq_true rfl)) dX7_mole_39 ⟨Nat.le_of_ble_eq_true rfl, Nat.le_of_ble_eq_true rfl⟩) hS (fun q _ h => hFc q h) hFc (fun r39 z39_v_thrown t H locs ht hvm hq hB hz1 hk1 hS => ?_)
    obtain ⟨hP1, -, hD1⟩ := hB
    rw [ht] at hP1
    have hP : va_P (dC, dI) vwCl (cX7 cy a (X7_s v) (X7_aside v) (X7_kept v) (X7_isKept v) (X7_saved v) (X7_savedMany v) (X7_text v) (X7_length v) z39_v_thrown (X7_joint v) (X7_position v) (X7_isWrong v) (X7_isHollow v) (X7_sure v) (X7_away v) (X7_digested v)) H := hP1
    have hD : va_D A (cX7 cy a (X7_s v) (X7_aside v) (X7_kept v) (X7_isKept v) (X7_saved v) (X7_savedMany v) (X7_text v) (X7_length v) z39_v_thrown (X7_joint v) (X7_position v) (X7_isWrong v) (X7_isHollow v) (X7_sure v) (X7_away v) (X7_digested v)) := hD1.weaken (fun _ q _ h => hFc q.1 h)
    obtain ⟨hqA, hqB⟩ := hq
    refine lv_if_ne (tgt := 47) hx hb dX7_mole_42 (by decide) (fun c4 => ?_) (fun c4 => ?_)
    · have hq := hqB c4
      refine lv_aload_n hx hb dX7_mole_47 rfl (lv_at hl 0 rfl) ?_
      have hFc := xfree_same hS hAe0 (ws := (cX7 cy a (X7_s v) (X7_aside v) (X7_kept v) (X7_isKept v) (X7_saved v) (X7_savedMany v) (X7_text v) (X7_length v) z39_v_thrown (X7_joint v) (X7_position v) (X7_isWrong v) (X7_isHollow v) (X7_sure v) (X7_away v) (X7_digested v))) hD
      refine va_callv (va_runV (As := []) (rest := []) ⟨hx, hb, hml, hown, hts⟩ (c_X7_save l dC dI cy a _ (X7_s8 v z39_v_thrown) _ hq) (cwV 0 hts gX7_mole_X7_save rfl rfl rfl (by decide +kernel) ⟨Nat.le_of_ble_eq_true rfl, Nat.le_of_ble_eq_true rfl⟩) ⟨xPre_blind, va_recv hK hP (ci := 7) (q0 := 0) rfl rfl, xPre_of hP hK hD⟩ rfl rfl hl.1 rfl (lv_room (Nat.le_of_ble_eq_true rfl)) dX7_mole_48 ⟨Nat.le_of_ble_eq_true rfl, Nat.le_of_ble_eq_true rfl⟩) hS (fun q _ h => hFc q h) hFc (fun u9 t H locs ht hvm hq hB hz1 hk1 hS => ?_)
      obtain ⟨z48_v_saved, z48_v_savedMany⟩ := u9
      obtain ⟨hP1, -, hD1⟩ := hB
      rw [ht] at hP1
      have hP : va_P (dC, dI) vwCl (cX7 cy a (X7_s v) (X7_aside v) (X7_kept v) (X7_isKept v) z48_v_saved z48_v_savedMany (X7_text v) (X7_length v) z39_v_thrown (X7_joint v) (X7_position v) (X7_isWrong v) (X7_isHollow v) (X7_sure v) (X7_away v) (X7_digested v)) H := hP1
      have hD : va_D A (cX7 cy a (X7_s v) (X7_aside v) (X7_kept v) (X7_isKept v) z48_v_saved z48_v_savedMany (X7_text v) (X7_length v) z39_v_thrown (X7_joint v) (X7_position v) (X7_isWrong v) (X7_isHollow v) (X7_sure v) (X7_away v) (X7_digested v)) := hD1.weaken (fun _ q _ h => hFc q.1 h)
      refine lv_aload_n hx hb dX7_mole_51 rfl (lv_at hl 0 rfl) ?_
      refine lv_iload_n hx hb dX7_mole_52 rfl (lv_at hl 1 rfl) ?_
      have hFc := xfree_same hS hAe0 (ws := (cX7 cy a (X7_s v) (X7_aside v) (X7_kept v) (X7_isKept v) z48_v_saved z48_v_savedMany (X7_text v) (X7_length v) z39_v_thrown (X7_joint v) (X7_position v) (X7_isWrong v) (X7_isHollow v) (X7_sure v) (X7_away v) (X7_digested v))) hD
      refine va_calli (va_runV (As := [.int x1]) (rest := []) ⟨hx, hb, hml, hown, hts⟩ (c_X7_hasMound l dC dI cy a _ ((X7_s v), (X7_aside v), (X7_kept v), (X7_isKept v), z48_v_saved, z48_v_savedMany, (X7_text v), (X7_length v), z39_v_thrown, (X7_joint v), (X7_position v), (X7_isWrong v), (X7_isHollow v), (X7_sure v), (X7_away v), (X7_digested v)) x1 _ hq) (cwV 1 hts gX7_mole_X7_hasMound rfl rfl rfl (by decide +kernel) ⟨Nat.le_of_ble_eq_true rfl, Nat.le_of_ble_eq_true rfl⟩) ⟨xPre_blind, va_recv hK hP (ci := 7) (q0 := 0) rfl rfl, xPre_of hP hK hD⟩ rfl rfl hl.1 rfl (lv_room (Nat.le_of_ble_eq_true rfl)) dX7_mole_53 ⟨Nat.le_of_ble_eq_true rfl, Nat.le_of_ble_eq_true rfl⟩) hS (fun q _ h => hFc q h) hFc (fun r53 u9 t H locs ht hvm hq hB hz1 hk1 hS => ?_)
      obtain ⟨hP1, -, hD1⟩ := hB
      rw [ht] at hP1
      have hP : va_P (dC, dI) vwCl (cX7 cy a (X7_s v) (X7_aside v) (X7_kept v) (X7_isKept v) z48_v_saved z48_v_savedMany (X7_text v) (X7_length v) z39_v_thrown (X7_joint v) (X7_position v) (X7_isWrong v) (X7_isHollow v) (X7_sure v) (X7_away v) (X7_digested v)) H := hP1
      have hD : va_D A (cX7 cy a (X7_s v) (X7_aside v) (X7_kept v) (X7_isKept v) z48_v_saved z48_v_savedMany (X7_text v) (X7_length v) z39_v_thrown (X7_joint v) (X7_position v) (X7_isWrong v) (X7_isHollow v) (X7_sure v) (X7_away v) (X7_digested v)) := hD1.weaken (fun _ q _ h => hFc q.1 h)
      obtain ⟨hqA, hqB⟩ := hq
      refine lv_if_ne (tgt := 64) hx hb dX7_mole_56 (by decide) (fun c3 => ?_) (fun c3 => ?_)
      · have hq := hqB c3
        exact J64 (X7_s v) z48_v_saved z48_v_savedMany z39_v_thrown  _ _ _ hq hP hD hS (lv_sub hl [0, 1] rfl)
      · have hq := hqA c3
        refine lv_aload_n hx hb dX7_mole_59 rfl (lv_at hl 0 rfl) ?_
        refine lv_iload_n hx hb dX7_mole_60 rfl (lv_at hl 1 rfl) ?_
        have hFc := xfree_same hS hAe0 (ws := (cX7 cy a (X7_s v) (X7_aside v) (X7_kept v) (X7_isKept v) z48_v_saved z48_v_savedMany (X7_text v) (X7_length v) z39_v_thrown (X7_joint v) (X7_position v) (X7_isWrong v) (X7_isHollow v) (X7_sure v) (X7_away v) (X7_digested v))) hD
        refine va_callv (va_runV (As := [.int x1]) (rest := []) ⟨hx, hb, hml, hown, hts⟩ (c_X7_comesUp l dC dI cy a _ ((X7_s v), (X7_aside v), (X7_kept v), (X7_isKept v), z48_v_saved, z48_v_savedMany, (X7_text v), (X7_length v), z39_v_thrown, (X7_joint v), (X7_position v), (X7_isWrong v), (X7_isHollow v), (X7_sure v), (X7_away v), (X7_digested v)) x1 _ hq) (cwV 1 hts gX7_mole_X7_comesUp rfl rfl rfl (by decide +kernel) ⟨Nat.le_of_ble_eq_true rfl, Nat.le_of_ble_eq_true rfl⟩) ⟨xPre_blind, va_recv hK hP (ci := 7) (q0 := 0) rfl rfl, xPre_of hP hK hD⟩ rfl rfl hl.1 rfl (lv_room (Nat.le_of_ble_eq_true rfl)) dX7_mole_61 ⟨Nat.le_of_ble_eq_true rfl, Nat.le_of_ble_eq_true rfl⟩) hS (fun q _ h => hFc q h) hFc (fun z61_v_s t H locs ht hvm hq hB hz1 hk1 hS => ?_)
        obtain ⟨hP1, -, hD1⟩ := hB
        rw [ht] at hP1
        have hP : va_P (dC, dI) vwCl (cX7 cy a z61_v_s (X7_aside v) (X7_kept v) (X7_isKept v) z48_v_saved z48_v_savedMany (X7_text v) (X7_length v) z39_v_thrown (X7_joint v) (X7_position v) (X7_isWrong v) (X7_isHollow v) (X7_sure v) (X7_away v) (X7_digested v)) H := hP1
        have hD : va_D A (cX7 cy a z61_v_s (X7_aside v) (X7_kept v) (X7_isKept v) z48_v_saved z48_v_savedMany (X7_text v) (X7_length v) z39_v_thrown (X7_joint v) (X7_position v) (X7_isWrong v) (X7_isHollow v) (X7_sure v) (X7_away v) (X7_digested v)) := hD1.weaken (fun _ q _ h => hFc q.1 h)
        exact J64 z61_v_s z48_v_saved z48_v_savedMany z39_v_thrown  _ _ _ hq hP hD hS (lv_sub hl [0, 1] rfl)
    · have hq := hqA c4
      refine lv_iconst (v := 0) hx hb dX7_mole_45 (by decide) ?_
      exact W.iret (v := 0) hx hb hr (fun t ht hW => ⟨⟨0, ((X7_s v), (X7_saved v), (X7_savedMany v), z39_v_thrown), rfl, hq, (xAt_of hP hK hD ht hW)⟩, hS.F ht⟩) hS.2.2 dX7_mole_46
  have J34 : ∀  (H : Heap) (locs : List Loc) (ls : Array Slot), wp_X7_mole_34 v x1  Q → va_P (dC, dI) vwCl (wX7 cy a v) H → va_D A (wX7 cy a v) → va_S A s.heap H locs → lv_has ls 3 [(0, .ref (a 0)), (1, .int x1)] → W p l e (headSpec wsX7_mole ({ frames := 4, cells := 0, slots := 0, locals := 97 } : Room)).room s m ([.ref (a 0), .int x1] : List Value).toArray below meth c H locs 0 0 (MQ below (q_X7_mole dC dI cy a v x1 Q A) ([.ref (a 0), .int x1] : List Value).toArray s 0 0 A) (F0 m 34 ls [.ref (a 0)]) := by
    intro  H locs ls hq hP hD hS hl
    unfold wp_X7_mole_34 at hq
    refine lv_iconst (v := 2) hx hb dX7_mole_34 (by decide) ?_
    refine lv_goto (tgt := 39) hx hb dX7_mole_35 (by decide) ?_
    exact J39 2  _ _ _ hq hP hD hS (lv_sub hl [0, 1] rfl)
  refine lv_aload_n hx hb dX7_mole_0 rfl (lv_at hl 0 rfl) ?_
  refine lv_iload_n hx hb dX7_mole_1 rfl (lv_at hl 1 rfl) ?_
  have hFc := xfree_none hS hAe0
  refine va_calli (va_runS (As := [.int x1]) (rest := [.ref (a 0)]) ⟨hx, hb, hml, hown, hts⟩ (c_X7_isTuft l dC dI cy  _ x1 _ hq) (va_cwS 1 hts gX7_mole_X7_isTuft rfl rfl rfl (by decide +kernel) ⟨Nat.le_of_ble_eq_true rfl, Nat.le_of_ble_eq_true rfl⟩) ⟨xPre_blind, xPre_of xP_nil hK (xD_nil (A := A))⟩ rfl rfl hl.1 rfl (lv_room (Nat.le_of_ble_eq_true rfl)) dX7_mole_2 ⟨Nat.le_of_ble_eq_true rfl, Nat.le_of_ble_eq_true rfl⟩) hS (fun q _ h => hFc q h) hFc (fun r2 u9 t H locs ht hvm hq hB hz1 hk1 hS => ?_)
  have hP := xj_none hP hk1
  obtain ⟨hqA, hqB⟩ := hq
  refine lv_if_ne (tgt := 12) hx hb dX7_mole_5 (by decide) (fun c9 => ?_) (fun c9 => ?_)
  · have hq := hqB c9
    refine lv_aload_n hx hb dX7_mole_12 rfl (lv_at hl 0 rfl) ?_
    refine va_get (D := (dC, dI)) (ci := 7) (v := .ref (a 1)) (C := RX7) (T := TX7) (N := 16) hx hb hts iK7 hown hK hP 0 rfl rfl 0 (by decide) lk0 (fun _ h9 => h9) rfl dX7_mole_13 ?_
    refine lv_iconst (v := 1) hx hb dX7_mole_16 (by decide) ?_
    obtain ⟨g5, hq⟩ := hq
    refine va_iald hx hb hK hP 1 0 rfl rfl g5 dX7_mole_17 ?_
    refine lv_iconst (v := 4) hx hb dX7_mole_18 (by decide) ?_
    obtain ⟨hqA, hqB⟩ := hq
    refine lv_icmp_eq (tgt := 34) hx hb dX7_mole_19 (by decide) (fun c8 => ?_) (fun c8 => ?_)
    · have hq := hqA c8
      exact J34   _ _ _ hq hP hD hS (lv_sub hl [0, 1] rfl)
    · have hq := hqB c8
      refine lv_aload_n hx hb dX7_mole_22 rfl (lv_at hl 0 rfl) ?_
      refine va_get (D := (dC, dI)) (ci := 7) (v := .ref (a 1)) (C := RX7) (T := TX7) (N := 16) hx hb hts iK7 hown hK hP 0 rfl rfl 0 (by decide) lk0 (fun _ h9 => h9) rfl dX7_mole_23 ?_
      refine lv_bipush (v := 72) hx hb dX7_mole_26 (by decide) ?_
      refine lv_iload_n hx hb dX7_mole_28 rfl (lv_at hl 1 rfl) ?_
      refine lv_iadd hx hb dX7_mole_29 ?_
      obtain ⟨g6, hq⟩ := hq
      refine va_iald hx hb hK hP 1 0 rfl rfl g6 dX7_mole_30 ?_
      obtain ⟨hqA, hqB⟩ := hq
      refine lv_if_le (tgt := 38) hx hb dX7_mole_31 (by decide) (fun c7 => ?_) (fun c7 => ?_)
      · have hq := hqA c7
        refine lv_iconst (v := 0) hx hb dX7_mole_38 (by decide) ?_
        exact J39 0  _ _ _ hq hP hD hS (lv_sub hl [0, 1] rfl)
      · have hq := hqB c7
        exact J34   _ _ _ hq hP hD hS (lv_sub hl [0, 1] rfl)
  · have hq := hqA c9
    refine lv_iconst (v := 1) hx hb dX7_mole_8 (by decide) ?_
    refine lv_goto (tgt := 39) hx hb dX7_mole_9 (by decide) ?_
    exact J39 1  _ _ _ hq hP hD hS (lv_sub hl [0, 1] rfl)
def wp_X7_putsPlan_28 (v : V_X7) (x1 : Int32) (x2 : Int32) (k28_0 : Int32) (Q : Int32 → (Nat → Int32) → Prop) : Prop :=
  ((k28_0 = 0 → bz k28_0 ∧ Q k28_0 (X7_s v)) ∧
  (¬ k28_0 = 0 → wp_X7_of x1 2 (fun r45 =>
  vp_in r45 1472 ∧ wp_X7_of x1 (3 + ((X7_s v) r45.toNatClampNeg)) (fun r50 =>
  vp_in r50 1472 ∧ wp_X7_of x1 2 (fun r61 =>
  vp_in r61 1472 ∧ bz k28_0 ∧ Q k28_0 (upd (upd (X7_s v) r50.toNatClampNeg x2) r61.toNatClampNeg (((upd (X7_s v) r50.toNatClampNeg x2) r61.toNatClampNeg) + 1)))))))
def wp_X7_putsPlan_27 (v : V_X7) (x1 : Int32) (x2 : Int32)  (Q : Int32 → (Nat → Int32) → Prop) : Prop :=
  wp_X7_putsPlan_28 v x1 x2 0  Q
def wp_X7_putsPlan (v : V_X7) (x1 : Int32) (x2 : Int32) (Q : Int32 → (Nat → Int32) → Prop) : Prop :=
  wp_X7_isMole v x1 (fun r2 =>
  ((r2 = 0 → wp_X7_putsPlan_27 v x1 x2   Q) ∧
  (¬ r2 = 0 → wp_X7_of x1 2 (fun r14 =>
  vp_in r14 1472 ∧ ((20 ≤ ((X7_s v) r14.toNatClampNeg) → wp_X7_putsPlan_27 v x1 x2   Q) ∧
  (¬ 20 ≤ ((X7_s v) r14.toNatClampNeg) → wp_X7_putsPlan_28 v x1 x2 1  Q))))))
def q_X7_putsPlan (dC : Nat → ClassId) (dI : Nat → Nat → Nat) (cy : Nat → ClassId) (a : Nat → Nat) (v : V_X7) (x1 : Int32) (x2 : Int32) (Q : Int32 → (Nat → Int32) → Prop) (A : Nat → Prop) : Array Value → State → Outcome → State → Prop := va_Qi (fun (r : Int32) (u : (Nat → Int32)) => Q r u) (fun (u : (Nat → Int32)) t => xAt dC dI cy A (cX7 cy a u (X7_aside v) (X7_kept v) (X7_isKept v) (X7_saved v) (X7_savedMany v) (X7_text v) (X7_length v) (X7_thrown v) (X7_joint v) (X7_position v) (X7_isWrong v) (X7_isHollow v) (X7_sure v) (X7_away v) (X7_digested v)) t) A
set_option maxHeartbeats 4000000 in
set_option maxRecDepth 100000 in
theorem c_X7_putsPlan (l : Launch) (dC : Nat → ClassId) (dI : Nat → Nat → Nat) (cy : Nat → ClassId) (a : Nat → Nat) (sz : Nat) (v : V_X7) (x1 : Int32) (x2 : Int32) (Q : Int32 → (Nat → Int32) → Prop) (hq : wp_X7_putsPlan v x1 x2 Q) : Met l yX7_putsPlan wsX7_putsPlan ({ frames := 2, cells := 0, slots := 0, locals := 43 } : Room) (va_Pc [.ref (a 0), .int x1, .int x2] (xPre dC dI cy (wX7 cy a v) sz)) (q_X7_putsPlan dC dI cy a v x1 x2 Q (va_A (wX7 cy a v) sz)) 0 0 (va_A (wX7 cy a v) sz) := by
  refine Met.ofW (cc := cX7_putsPlan) (maxL := 4) (ret := (some .boolean)) (by decide) rfl ?_
  intro p e s m args below meth c s₁ B hml hv
  obtain ⟨rfl, hsz, hP, hK, hD0⟩ := hv
  have hx := B.exec
  have hb := B.bytes
  have hr := B.returns
  have hts := atoms_spec (ws := wsX7_putsPlan) B.pre
  have hown : s.vm.findClass RX7 = some m.cls := findClass_of_methodNamed B.named
  have hlocks := B.notSynchronized
  subst hsz
  have hD := hD0.self (sz := s.heap.size)
  generalize hAe : va_A (wX7 cy a v) s.heap.size = A at hD ⊢
  have hAe0 : ∀ q : Nat, s.heap.size ≤ q → A q := fun q h => by rw [← hAe]; exact Or.inr h
  have hS : va_S A s.heap s.heap [] := va_S.rf
  have hl := lv_entry ([.ref (a 0), .int x1, .int x2]) (n := 4) (Nat.le_of_ble_eq_true rfl)
  rw [lg_entry_eq]
  generalize (lg_sl ([.ref (a 0), .int x1, .int x2]) ++ List.replicate (4 - (lg_sl ([.ref (a 0), .int x1, .int x2])).length) Slot.unset).toArray = ls at hl ⊢
  have hl : lv_has ls 4 [(0, .ref (a 0)), (1, .int x1), (2, .int x2)] := hl
  have lk0 := hts (Cond.fieldLink RX7 7 "MolesLawnModel" "s" "[I") (List.mem_cons_of_mem _ (List.mem_append_left _ (List.mem_of_getElem? (i := 0) rfl)))
  have iK7 : ∀ w ∈ wsX70, w ∈ wsX7_putsPlan := fun _ h => (List.mem_cons_of_mem _ (List.mem_append_right _ h))
  unfold wp_X7_putsPlan at hq
  have J28 : ∀ (k28_0 : Int32) (H : Heap) (locs : List Loc) (ls : Array Slot), wp_X7_putsPlan_28 v x1 x2 k28_0 Q → va_P (dC, dI) vwCl (wX7 cy a v) H → va_D A (wX7 cy a v) → va_S A s.heap H locs → lv_has ls 4 [(0, .ref (a 0)), (1, .int x1), (2, .int x2)] → W p l e (headSpec wsX7_putsPlan ({ frames := 2, cells := 0, slots := 0, locals := 43 } : Room)).room s m ([.ref (a 0), .int x1, .int x2] : List Value).toArray below meth c H locs 0 0 (MQ below (q_X7_putsPlan dC dI cy a v x1 x2 Q A) ([.ref (a 0), .int x1, .int x2] : List Value).toArray s 0 0 A) (F0 m 28 ls [.int k28_0]) := by
    intro k28_0 H locs ls hq hP hD hS hl
    unfold wp_X7_putsPlan_28 at hq
    refine lv_istore_n (lv' := [(3, .int k28_0), (0, .ref (a 0)), (1, .int x1), (2, .int x2)]) hx hb dX7_putsPlan_28 rfl hl (by decide) rfl (fun ls hl => ?_)
    refine lv_iload_n hx hb dX7_putsPlan_29 rfl (lv_at hl 0 rfl) ?_
    obtain ⟨hqA, hqB⟩ := hq
    refine lv_if_eq (tgt := 69) hx hb dX7_putsPlan_30 (by decide) (fun c6 => ?_) (fun c6 => ?_)
    · have hq := hqA c6
      refine lv_iload_n hx hb dX7_putsPlan_69 rfl (lv_at hl 0 rfl) ?_
      obtain ⟨g1, hq⟩ := hq
      exact W.zret (v := k28_0) hx hb hr (bz_nar g1) (fun t ht hW => ⟨⟨k28_0, (X7_s v), rfl, hq, (xAt_of hP hK hD ht hW)⟩, hS.F ht⟩) hS.2.2 dX7_putsPlan_70
    · have hq := hqB c6
      refine lv_aload_n hx hb dX7_putsPlan_33 rfl (lv_at hl 1 rfl) ?_
      refine va_get (D := (dC, dI)) (ci := 7) (v := .ref (a 1)) (C := RX7) (T := TX7) (N := 16) hx hb hts iK7 hown hK hP 0 rfl rfl 0 (by decide) lk0 (fun _ h9 => h9) rfl dX7_putsPlan_34 ?_
      refine lv_iload_n hx hb dX7_putsPlan_37 rfl (lv_at hl 2 rfl) ?_
      refine lv_iconst (v := 3) hx hb dX7_putsPlan_38 (by decide) ?_
      refine lv_aload_n hx hb dX7_putsPlan_39 rfl (lv_at hl 1 rfl) ?_
      refine va_get (D := (dC, dI)) (ci := 7) (v := .ref (a 1)) (C := RX7) (T := TX7) (N := 16) hx hb hts iK7 hown hK hP 0 rfl rfl 0 (by decide) lk0 (fun _ h9 => h9) rfl dX7_putsPlan_40 ?_
      refine lv_iload_n hx hb dX7_putsPlan_43 rfl (lv_at hl 2 rfl) ?_
      refine lv_iconst (v := 2) hx hb dX7_putsPlan_44 (by decide) ?_
      have hFc := xfree_none hS hAe0
      refine va_calli (va_runS (As := [.int x1, .int 2]) (rest := [.ref (a 1), .int 3, .int x1, .ref (a 1)]) ⟨hx, hb, hml, hown, hts⟩ (c_X7_of l dC dI cy  _ x1 2 _ hq) (va_cwS 2 hts gX7_putsPlan_X7_of rfl rfl rfl (by decide +kernel) ⟨Nat.le_of_ble_eq_true rfl, Nat.le_of_ble_eq_true rfl⟩) ⟨xPre_blind, xPre_of xP_nil hK (xD_nil (A := A))⟩ rfl rfl hl.1 rfl (lv_room (Nat.le_of_ble_eq_true rfl)) dX7_putsPlan_45 ⟨Nat.le_of_ble_eq_true rfl, Nat.le_of_ble_eq_true rfl⟩) hS (fun q _ h => hFc q h) hFc (fun r45 u9 t H locs ht hvm hq hB hz1 hk1 hS => ?_)
      have hP := xj_none hP hk1
      obtain ⟨g2, hq⟩ := hq
      refine va_iald hx hb hK hP 1 0 rfl rfl g2 dX7_putsPlan_48 ?_
      refine lv_iadd hx hb dX7_putsPlan_49 ?_
      have hFc := xfree_none hS hAe0
      refine va_calli (va_runS (As := [.int x1, .int (3 + ((X7_s v) r45.toNatClampNeg))]) (rest := [.ref (a 1)]) ⟨hx, hb, hml, hown, hts⟩ (c_X7_of l dC dI cy  _ x1 (3 + ((X7_s v) r45.toNatClampNeg)) _ hq) (va_cwS 2 hts gX7_putsPlan_X7_of rfl rfl rfl (by decide +kernel) ⟨Nat.le_of_ble_eq_true rfl, Nat.le_of_ble_eq_true rfl⟩) ⟨xPre_blind, xPre_of xP_nil hK (xD_nil (A := A))⟩ rfl rfl hl.1 rfl (lv_room (Nat.le_of_ble_eq_true rfl)) dX7_putsPlan_50 ⟨Nat.le_of_ble_eq_true rfl, Nat.le_of_ble_eq_true rfl⟩) hS (fun q _ h => hFc q h) hFc (fun r50 u9 t H locs ht hvm hq hB hz1 hk1 hS => ?_)
      have hP := xj_none hP hk1
      refine lv_iload_n hx hb dX7_putsPlan_53 rfl (lv_at hl 3 rfl) ?_
      obtain ⟨g3, hq⟩ := hq
      refine va_iast hx hb hK hP hD hS 1 0 rfl rfl g3 dX7_putsPlan_54 (fun H locs hP hD hS => ?_)
      have hP : va_P (dC, dI) vwCl (cX7 cy a (upd (X7_s v) r50.toNatClampNeg x2) (X7_aside v) (X7_kept v) (X7_isKept v) (X7_saved v) (X7_savedMany v) (X7_text v) (X7_length v) (X7_thrown v) (X7_joint v) (X7_position v) (X7_isWrong v) (X7_isHollow v) (X7_sure v) (X7_away v) (X7_digested v)) H := hP
      have hD : va_D A (cX7 cy a (upd (X7_s v) r50.toNatClampNeg x2) (X7_aside v) (X7_kept v) (X7_isKept v) (X7_saved v) (X7_savedMany v) (X7_text v) (X7_length v) (X7_thrown v) (X7_joint v) (X7_position v) (X7_isWrong v) (X7_isHollow v) (X7_sure v) (X7_away v) (X7_digested v)) := hD
      refine lv_aload_n hx hb dX7_putsPlan_55 rfl (lv_at hl 1 rfl) ?_
      refine va_get (D := (dC, dI)) (ci := 7) (v := .ref (a 1)) (C := RX7) (T := TX7) (N := 16) hx hb hts iK7 hown hK hP 0 rfl rfl 0 (by decide) lk0 (fun _ h9 => h9) rfl dX7_putsPlan_56 ?_
      refine lv_iload_n hx hb dX7_putsPlan_59 rfl (lv_at hl 2 rfl) ?_
      refine lv_iconst (v := 2) hx hb dX7_putsPlan_60 (by decide) ?_
      have hFc := xfree_none hS hAe0
      refine va_calli (va_runS (As := [.int x1, .int 2]) (rest := [.ref (a 1)]) ⟨hx, hb, hml, hown, hts⟩ (c_X7_of l dC dI cy  _ x1 2 _ hq) (va_cwS 2 hts gX7_putsPlan_X7_of rfl rfl rfl (by decide +kernel) ⟨Nat.le_of_ble_eq_true rfl, Nat.le_of_ble_eq_true rfl⟩) ⟨xPre_blind, xPre_of xP_nil hK (xD_nil (A := A))⟩ rfl rfl hl.1 rfl (lv_room (Nat.le_of_ble_eq_true rfl)) dX7_putsPlan_61 ⟨Nat.le_of_ble_eq_true rfl, Nat.le_of_ble_eq_true rfl⟩) hS (fun q _ h => hFc q h) hFc (fun r61 u9 t H locs ht hvm hq hB hz1 hk1 hS => ?_)
      have hP := xj_none hP hk1
      refine lv_dup2_11 hx hb dX7_putsPlan_64 rfl rfl ?_
      obtain ⟨g4, hq⟩ := hq
      refine va_iald hx hb hK hP 1 0 rfl rfl g4 dX7_putsPlan_65 ?_
      refine lv_iconst (v := 1) hx hb dX7_putsPlan_66 (by decide) ?_
      refine lv_iadd hx hb dX7_putsPlan_67 ?_
      refine va_iast hx hb hK hP hD hS 1 0 rfl rfl g4 dX7_putsPlan_68 (fun H locs hP hD hS => ?_)
      have hP : va_P (dC, dI) vwCl (cX7 cy a (upd (upd (X7_s v) r50.toNatClampNeg x2) r61.toNatClampNeg (((upd (X7_s v) r50.toNatClampNeg x2) r61.toNatClampNeg) + 1)) (X7_aside v) (X7_kept v) (X7_isKept v) (X7_saved v) (X7_savedMany v) (X7_text v) (X7_length v) (X7_thrown v) (X7_joint v) (X7_position v) (X7_isWrong v) (X7_isHollow v) (X7_sure v) (X7_away v) (X7_digested v)) H := hP
      have hD : va_D A (cX7 cy a (upd (upd (X7_s v) r50.toNatClampNeg x2) r61.toNatClampNeg (((upd (X7_s v) r50.toNatClampNeg x2) r61.toNatClampNeg) + 1)) (X7_aside v) (X7_kept v) (X7_isKept v) (X7_saved v) (X7_savedMany v) (X7_text v) (X7_length v) (X7_thrown v) (X7_joint v) (X7_position v) (X7_isWrong v) (X7_isHollow v) (X7_sure v) (X7_away v) (X7_digested v)) := hD
      refine lv_iload_n hx hb dX7_putsPlan_69 rfl (lv_at hl 0 rfl) ?_
      obtain ⟨g5, hq⟩ := hq
      exact W.zret (v := k28_0) hx hb hr (bz_nar g5) (fun t ht hW => ⟨⟨k28_0, (upd (upd (X7_s v) r50.toNatClampNeg x2) r61.toNatClampNeg (((upd (X7_s v) r50.toNatClampNeg x2) r61.toNatClampNeg) + 1)), rfl, hq, (xAt_of hP hK hD ht hW)⟩, hS.F ht⟩) hS.2.2 dX7_putsPlan_70
  have J27 : ∀  (H : Heap) (locs : List Loc) (ls : Array Slot), wp_X7_putsPlan_27 v x1 x2  Q → va_P (dC, dI) vwCl (wX7 cy a v) H → va_D A (wX7 cy a v) → va_S A s.heap H locs → lv_has ls 4 [(0, .ref (a 0)), (1, .int x1), (2, .int x2)] → W p l e (headSpec wsX7_putsPlan ({ frames := 2, cells := 0, slots := 0, locals := 43 } : Room)).room s m ([.ref (a 0), .int x1, .int x2] : List Value).toArray below meth c H locs 0 0 (MQ below (q_X7_putsPlan dC dI cy a v x1 x2 Q A) ([.ref (a 0), .int x1, .int x2] : List Value).toArray s 0 0 A) (F0 m 27 ls []) := by
    intro  H locs ls hq hP hD hS hl
    unfold wp_X7_putsPlan_27 at hq
    refine lv_iconst (v := 0) hx hb dX7_putsPlan_27 (by decide) ?_
    exact J28 0  _ _ _ hq hP hD hS (lv_sub hl [0, 1, 2] rfl)
  refine lv_aload_n hx hb dX7_putsPlan_0 rfl (lv_at hl 0 rfl) ?_
  refine lv_iload_n hx hb dX7_putsPlan_1 rfl (lv_at hl 1 rfl) ?_
  have hFc := xfree_same hS hAe0 (ws := (wX7 cy a v)) hD
  refine va_calli (va_runV (As := [.int x1]) (rest := []) ⟨hx, hb, hml, hown, hts⟩ (c_X7_isMole l dC dI cy a _ v x1 _ hq) (cwV 1 hts gX7_putsPlan_X7_isMole rfl rfl rfl (by decide +kernel) ⟨Nat.le_of_ble_eq_true rfl, Nat.le_of_ble_eq_true rfl⟩) ⟨xPre_blind, va_recv hK hP (ci := 7) (q0 := 0) rfl rfl, xPre_of hP hK hD⟩ rfl rfl hl.1 rfl (lv_room (Nat.le_of_ble_eq_true rfl)) dX7_putsPlan_2 ⟨Nat.le_of_ble_eq_true rfl, Nat.le_of_ble_eq_true rfl⟩) hS (fun q _ h => hFc q h) hFc (fun r2 u9 t H locs ht hvm hq hB hz1 hk1 hS => ?_)
  obtain ⟨hP1, -, hD1⟩ := hB
  rw [ht] at hP1
  have hP : va_P (dC, dI) vwCl (wX7 cy a v) H := hP1
  have hD : va_D A (wX7 cy a v) := hD1.weaken (fun _ q _ h => hFc q.1 h)
  obtain ⟨hqA, hqB⟩ := hq
  refine lv_if_eq (tgt := 27) hx hb dX7_putsPlan_5 (by decide) (fun c9 => ?_) (fun c9 => ?_)
  · have hq := hqA c9
    exact J27   _ _ _ hq hP hD hS (lv_sub hl [0, 1, 2] rfl)
  · have hq := hqB c9
    refine lv_aload_n hx hb dX7_putsPlan_8 rfl (lv_at hl 0 rfl) ?_
    refine va_get (D := (dC, dI)) (ci := 7) (v := .ref (a 1)) (C := RX7) (T := TX7) (N := 16) hx hb hts iK7 hown hK hP 0 rfl rfl 0 (by decide) lk0 (fun _ h9 => h9) rfl dX7_putsPlan_9 ?_
    refine lv_iload_n hx hb dX7_putsPlan_12 rfl (lv_at hl 1 rfl) ?_
    refine lv_iconst (v := 2) hx hb dX7_putsPlan_13 (by decide) ?_
    have hFc := xfree_none hS hAe0
    refine va_calli (va_runS (As := [.int x1, .int 2]) (rest := [.ref (a 1)]) ⟨hx, hb, hml, hown, hts⟩ (c_X7_of l dC dI cy  _ x1 2 _ hq) (va_cwS 2 hts gX7_putsPlan_X7_of rfl rfl rfl (by decide +kernel) ⟨Nat.le_of_ble_eq_true rfl, Nat.le_of_ble_eq_true rfl⟩) ⟨xPre_blind, xPre_of xP_nil hK (xD_nil (A := A))⟩ rfl rfl hl.1 rfl (lv_room (Nat.le_of_ble_eq_true rfl)) dX7_putsPlan_14 ⟨Nat.le_of_ble_eq_true rfl, Nat.le_of_ble_eq_true rfl⟩) hS (fun q _ h => hFc q h) hFc (fun r14 u9 t H locs ht hvm hq hB hz1 hk1 hS => ?_)
    have hP := xj_none hP hk1
    obtain ⟨g7, hq⟩ := hq
    refine va_iald hx hb hK hP 1 0 rfl rfl g7 dX7_putsPlan_17 ?_
    refine lv_bipush (v := 20) hx hb dX7_putsPlan_18 (by decide) ?_
    obtain ⟨hqA, hqB⟩ := hq
    refine lv_icmp_ge (tgt := 27) hx hb dX7_putsPlan_20 (by decide) (fun c8 => ?_) (fun c8 => ?_)
    · have hq := hqA c8
      exact J27   _ _ _ hq hP hD hS (lv_sub hl [0, 1, 2] rfl)
    · have hq := hqB c8
      refine lv_iconst (v := 1) hx hb dX7_putsPlan_23 (by decide) ?_
      refine lv_goto (tgt := 28) hx hb dX7_putsPlan_24 (by decide) ?_
      exact J28 1  _ _ _ hq hP hD hS (lv_sub hl [0, 1, 2] rfl)
def wp_X7_plan_46 (v : V_X7) (x1 : Int32) (x2 : Int32) (k46_0 : Int32) (Q : Int32 → (Nat → Int32) → (Nat → Int32) → Int32 → Int32 → Prop) : Prop :=
  wp_X7_holds v k46_0 (fun r46 z46_v_thrown =>
  ((r46 = 0 → Q 0 (X7_s v) (X7_saved v) (X7_savedMany v) z46_v_thrown) ∧
  (¬ r46 = 0 → wp_X7_save (X7_s8 v z46_v_thrown) (fun z55_v_saved z55_v_savedMany =>
  wp_X7_putsPlan ((X7_s v), (X7_aside v), (X7_kept v), (X7_isKept v), z55_v_saved, z55_v_savedMany, (X7_text v), (X7_length v), z46_v_thrown, (X7_joint v), (X7_position v), (X7_isWrong v), (X7_isHollow v), (X7_sure v), (X7_away v), (X7_digested v)) x1 x2 (fun r61 z61_v_s =>
  wp_X7_of x1 2 (fun r71 =>
  vp_in r71 1472 ∧ Q (z61_v_s r71.toNatClampNeg) z61_v_s z55_v_saved z55_v_savedMany z46_v_thrown))))))
def wp_X7_plan (v : V_X7) (x1 : Int32) (x2 : Int32) (Q : Int32 → (Nat → Int32) → (Nat → Int32) → Int32 → Int32 → Prop) : Prop :=
  wp_X7_isMole v x1 (fun r3 =>
  ((r3 = 0 → wp_X7_plan_46 v x1 x2 1  Q) ∧
  (¬ r3 = 0 → wp_X7_in x2 0 3 (fun r16 =>
  ((r16 = 0 → wp_X7_plan_46 v x1 x2 2  Q) ∧
  (¬ r16 = 0 → wp_X7_of x1 2 (fun r32 =>
  vp_in r32 1472 ∧ ((((X7_s v) r32.toNatClampNeg) = 20 → wp_X7_plan_46 v x1 x2 3  Q) ∧
  (¬ ((X7_s v) r32.toNatClampNeg) = 20 → wp_X7_plan_46 v x1 x2 0  Q)))))))))
def q_X7_plan (dC : Nat → ClassId) (dI : Nat → Nat → Nat) (cy : Nat → ClassId) (a : Nat → Nat) (v : V_X7) (x1 : Int32) (x2 : Int32) (Q : Int32 → (Nat → Int32) → (Nat → Int32) → Int32 → Int32 → Prop) (A : Nat → Prop) : Array Value → State → Outcome → State → Prop := va_Qi (fun (r : Int32) (u : (Nat → Int32) × (Nat → Int32) × Int32 × Int32) => Q r u.1 u.2.1 u.2.2.1 u.2.2.2) (fun (u : (Nat → Int32) × (Nat → Int32) × Int32 × Int32) t => xAt dC dI cy A (cX7 cy a u.1 (X7_aside v) (X7_kept v) (X7_isKept v) u.2.1 u.2.2.1 (X7_text v) (X7_length v) u.2.2.2 (X7_joint v) (X7_position v) (X7_isWrong v) (X7_isHollow v) (X7_sure v) (X7_away v) (X7_digested v)) t) A
set_option maxHeartbeats 4000000 in
set_option maxRecDepth 100000 in
theorem c_X7_plan (l : Launch) (dC : Nat → ClassId) (dI : Nat → Nat → Nat) (cy : Nat → ClassId) (a : Nat → Nat) (sz : Nat) (v : V_X7) (x1 : Int32) (x2 : Int32) (Q : Int32 → (Nat → Int32) → (Nat → Int32) → Int32 → Int32 → Prop) (hq : wp_X7_plan v x1 x2 Q) : Met l yX7_plan wsX7_plan ({ frames := 3, cells := 0, slots := 0, locals := 66 } : Room) (va_Pc [.ref (a 0), .int x1, .int x2] (xPre dC dI cy (wX7 cy a v) sz)) (q_X7_plan dC dI cy a v x1 x2 Q (va_A (wX7 cy a v) sz)) 0 0 (va_A (wX7 cy a v) sz) := by
  refine Met.ofW (cc := cX7_plan) (maxL := 4) (ret := (some .int)) (by decide) rfl ?_
  intro p e s m args below meth c s₁ B hml hv
  obtain ⟨rfl, hsz, hP, hK, hD0⟩ := hv
  have hx := B.exec
  have hb := B.bytes
  have hr := B.returns
  have hts := atoms_spec (ws := wsX7_plan) B.pre
  have hown : s.vm.findClass RX7 = some m.cls := findClass_of_methodNamed B.named
  have hlocks := B.notSynchronized
  subst hsz
  have hD := hD0.self (sz := s.heap.size)
  generalize hAe : va_A (wX7 cy a v) s.heap.size = A at hD ⊢
  have hAe0 : ∀ q : Nat, s.heap.size ≤ q → A q := fun q h => by rw [← hAe]; exact Or.inr h
  have hS : va_S A s.heap s.heap [] := va_S.rf
  have hl := lv_entry ([.ref (a 0), .int x1, .int x2]) (n := 4) (Nat.le_of_ble_eq_true rfl)
  rw [lg_entry_eq]
  generalize (lg_sl ([.ref (a 0), .int x1, .int x2]) ++ List.replicate (4 - (lg_sl ([.ref (a 0), .int x1, .int x2])).length) Slot.unset).toArray = ls at hl ⊢
  have hl : lv_has ls 4 [(0, .ref (a 0)), (1, .int x1), (2, .int x2)] := hl
  have lk0 := hts (Cond.fieldLink RX7 7 "MolesLawnModel" "s" "[I") (List.mem_cons_of_mem _ (List.mem_append_left _ (List.mem_append_left _ (List.mem_of_getElem? (i := 0) rfl))))
  have iK7 : ∀ w ∈ wsX70, w ∈ wsX7_plan := fun _ h => (List.mem_cons_of_mem _ (List.mem_append_right _ h))
  unfold wp_X7_plan at hq
  have J46 : ∀ (k46_0 : Int32) (H : Heap) (locs : List Loc) (ls : Array Slot), wp_X7_plan_46 v x1 x2 k46_0 Q → va_P (dC, dI) vwCl (wX7 cy a v) H → va_D A (wX7 cy a v) → va_S A s.heap H locs → lv_has ls 4 [(0, .ref (a 0)), (1, .int x1), (2, .int x2)] → W p l e (headSpec wsX7_plan ({ frames := 3, cells := 0, slots := 0, locals := 66 } : Room)).room s m ([.ref (a 0), .int x1, .int x2] : List Value).toArray below meth c H locs 0 0 (MQ below (q_X7_plan dC dI cy a v x1 x2 Q A) ([.ref (a 0), .int x1, .int x2] : List Value).toArray s 0 0 A) (F0 m 46 ls [.int k46_0, .ref (a 0)]) := by
    intro k46_0 H locs ls hq hP hD hS hl
    unfold wp_X7_plan_46 at hq
    have hFc := xfree_same hS hAe0 (ws := (wX7 cy a v)) hD
    refine va_calli (va_runV (As := [.int k46_0]) (rest := []) ⟨hx, hb, hml, hown, hts⟩ (c_X7_holds l dC dI cy a _ v k46_0 _ hq) (cwV 1 hts gX7_plan_X7_holds rfl rfl rfl (by decide +kernel) ⟨Nat.le_of_ble_eq_true rfl, Nat.le_of_ble_eq_true rfl⟩) ⟨xPre_blind, va_recv hK hP (ci := 7) (q0 := 0) rfl rfl, xPre_of hP hK hD⟩ rfl rfl hl.1 rfl (lv_room (Nat.le_of_ble_eq_true rfl)) dX7_plan_46 ⟨Nat.le_of_ble_eq_true rfl, Nat.le_of_ble_eq_true rfl⟩) hS (fun q _ h => hFc q h) hFc (fun r46 z46_v_thrown t H locs ht hvm hq hB hz1 hk1 hS => ?_)
    obtain ⟨hP1, -, hD1⟩ := hB
    rw [ht] at hP1
    have hP : va_P (dC, dI) vwCl (cX7 cy a (X7_s v) (X7_aside v) (X7_kept v) (X7_isKept v) (X7_saved v) (X7_savedMany v) (X7_text v) (X7_length v) z46_v_thrown (X7_joint v) (X7_position v) (X7_isWrong v) (X7_isHollow v) (X7_sure v) (X7_away v) (X7_digested v)) H := hP1
    have hD : va_D A (cX7 cy a (X7_s v) (X7_aside v) (X7_kept v) (X7_isKept v) (X7_saved v) (X7_savedMany v) (X7_text v) (X7_length v) z46_v_thrown (X7_joint v) (X7_position v) (X7_isWrong v) (X7_isHollow v) (X7_sure v) (X7_away v) (X7_digested v)) := hD1.weaken (fun _ q _ h => hFc q.1 h)
    obtain ⟨hqA, hqB⟩ := hq
    refine lv_if_ne (tgt := 54) hx hb dX7_plan_49 (by decide) (fun c2 => ?_) (fun c2 => ?_)
    · have hq := hqB c2
      refine lv_aload_n hx hb dX7_plan_54 rfl (lv_at hl 0 rfl) ?_
      have hFc := xfree_same hS hAe0 (ws := (cX7 cy a (X7_s v) (X7_aside v) (X7_kept v) (X7_isKept v) (X7_saved v) (X7_savedMany v) (X7_text v) (X7_length v) z46_v_thrown (X7_joint v) (X7_position v) (X7_isWrong v) (X7_isHollow v) (X7_sure v) (X7_away v) (X7_digested v))) hD
      refine va_callv (va_runV (As := []) (rest := []) ⟨hx, hb, hml, hown, hts⟩ (c_X7_save l dC dI cy a _ (X7_s8 v z46_v_thrown) _ hq) (cwV 0 hts gX7_plan_X7_save rfl rfl rfl (by decide +kernel) ⟨Nat.le_of_ble_eq_true rfl, Nat.le_of_ble_eq_true rfl⟩) ⟨xPre_blind, va_recv hK hP (ci := 7) (q0 := 0) rfl rfl, xPre_of hP hK hD⟩ rfl rfl hl.1 rfl (lv_room (Nat.le_of_ble_eq_true rfl)) dX7_plan_55 ⟨Nat.le_of_ble_eq_true rfl, Nat.le_of_ble_eq_true rfl⟩) hS (fun q _ h => hFc q h) hFc (fun u9 t H locs ht hvm hq hB hz1 hk1 hS => ?_)
      obtain ⟨z55_v_saved, z55_v_savedMany⟩ := u9
      obtain ⟨hP1, -, hD1⟩ := hB
      rw [ht] at hP1
      have hP : va_P (dC, dI) vwCl (cX7 cy a (X7_s v) (X7_aside v) (X7_kept v) (X7_isKept v) z55_v_saved z55_v_savedMany (X7_text v) (X7_length v) z46_v_thrown (X7_joint v) (X7_position v) (X7_isWrong v) (X7_isHollow v) (X7_sure v) (X7_away v) (X7_digested v)) H := hP1
      have hD : va_D A (cX7 cy a (X7_s v) (X7_aside v) (X7_kept v) (X7_isKept v) z55_v_saved z55_v_savedMany (X7_text v) (X7_length v) z46_v_thrown (X7_joint v) (X7_position v) (X7_isWrong v) (X7_isHollow v) (X7_sure v) (X7_away v) (X7_digested v)) := hD1.weaken (fun _ q _ h => hFc q.1 h)
      refine lv_aload_n hx hb dX7_plan_58 rfl (lv_at hl 0 rfl) ?_
      refine lv_iload_n hx hb dX7_plan_59 rfl (lv_at hl 1 rfl) ?_
      refine lv_iload_n hx hb dX7_plan_60 rfl (lv_at hl 2 rfl) ?_
      have hFc := xfree_same hS hAe0 (ws := (cX7 cy a (X7_s v) (X7_aside v) (X7_kept v) (X7_isKept v) z55_v_saved z55_v_savedMany (X7_text v) (X7_length v) z46_v_thrown (X7_joint v) (X7_position v) (X7_isWrong v) (X7_isHollow v) (X7_sure v) (X7_away v) (X7_digested v))) hD
      refine va_calli (va_runV (As := [.int x1, .int x2]) (rest := []) ⟨hx, hb, hml, hown, hts⟩ (c_X7_putsPlan l dC dI cy a _ ((X7_s v), (X7_aside v), (X7_kept v), (X7_isKept v), z55_v_saved, z55_v_savedMany, (X7_text v), (X7_length v), z46_v_thrown, (X7_joint v), (X7_position v), (X7_isWrong v), (X7_isHollow v), (X7_sure v), (X7_away v), (X7_digested v)) x1 x2 _ hq) (cwV 2 hts gX7_plan_X7_putsPlan rfl rfl rfl (by decide +kernel) ⟨Nat.le_of_ble_eq_true rfl, Nat.le_of_ble_eq_true rfl⟩) ⟨xPre_blind, va_recv hK hP (ci := 7) (q0 := 0) rfl rfl, xPre_of hP hK hD⟩ rfl rfl hl.1 rfl (lv_room (Nat.le_of_ble_eq_true rfl)) dX7_plan_61 ⟨Nat.le_of_ble_eq_true rfl, Nat.le_of_ble_eq_true rfl⟩) hS (fun q _ h => hFc q h) hFc (fun r61 z61_v_s t H locs ht hvm hq hB hz1 hk1 hS => ?_)
      obtain ⟨hP1, -, hD1⟩ := hB
      rw [ht] at hP1
      have hP : va_P (dC, dI) vwCl (cX7 cy a z61_v_s (X7_aside v) (X7_kept v) (X7_isKept v) z55_v_saved z55_v_savedMany (X7_text v) (X7_length v) z46_v_thrown (X7_joint v) (X7_position v) (X7_isWrong v) (X7_isHollow v) (X7_sure v) (X7_away v) (X7_digested v)) H := hP1
      have hD : va_D A (cX7 cy a z61_v_s (X7_aside v) (X7_kept v) (X7_isKept v) z55_v_saved z55_v_savedMany (X7_text v) (X7_length v) z46_v_thrown (X7_joint v) (X7_position v) (X7_isWrong v) (X7_isHollow v) (X7_sure v) (X7_away v) (X7_digested v)) := hD1.weaken (fun _ q _ h => hFc q.1 h)
      refine lv_istore_n (lv' := [(3, .int r61), (0, .ref (a 0)), (1, .int x1), (2, .int x2)]) hx hb dX7_plan_64 rfl hl (by decide) rfl (fun ls hl => ?_)
      refine lv_aload_n hx hb dX7_plan_65 rfl (lv_at hl 1 rfl) ?_
      refine va_get (D := (dC, dI)) (ci := 7) (v := .ref (a 1)) (C := RX7) (T := TX7) (N := 16) hx hb hts iK7 hown hK hP 0 rfl rfl 0 (by decide) lk0 (fun _ h9 => h9) rfl dX7_plan_66 ?_
      refine lv_iload_n hx hb dX7_plan_69 rfl (lv_at hl 2 rfl) ?_
      refine lv_iconst (v := 2) hx hb dX7_plan_70 (by decide) ?_
      have hFc := xfree_none hS hAe0
      refine va_calli (va_runS (As := [.int x1, .int 2]) (rest := [.ref (a 1)]) ⟨hx, hb, hml, hown, hts⟩ (c_X7_of l dC dI cy  _ x1 2 _ hq) (va_cwS 2 hts gX7_plan_X7_of rfl rfl rfl (by decide +kernel) ⟨Nat.le_of_ble_eq_true rfl, Nat.le_of_ble_eq_true rfl⟩) ⟨xPre_blind, xPre_of xP_nil hK (xD_nil (A := A))⟩ rfl rfl hl.1 rfl (lv_room (Nat.le_of_ble_eq_true rfl)) dX7_plan_71 ⟨Nat.le_of_ble_eq_true rfl, Nat.le_of_ble_eq_true rfl⟩) hS (fun q _ h => hFc q h) hFc (fun r71 u9 t H locs ht hvm hq hB hz1 hk1 hS => ?_)
      have hP := xj_none hP hk1
      obtain ⟨g1, hq⟩ := hq
      refine va_iald hx hb hK hP 1 0 rfl rfl g1 dX7_plan_74 ?_
      exact W.iret (v := (z61_v_s r71.toNatClampNeg)) hx hb hr (fun t ht hW => ⟨⟨(z61_v_s r71.toNatClampNeg), (z61_v_s, z55_v_saved, z55_v_savedMany, z46_v_thrown), rfl, hq, (xAt_of hP hK hD ht hW)⟩, hS.F ht⟩) hS.2.2 dX7_plan_75
    · have hq := hqA c2
      refine lv_iconst (v := 0) hx hb dX7_plan_52 (by decide) ?_
      exact W.iret (v := 0) hx hb hr (fun t ht hW => ⟨⟨0, ((X7_s v), (X7_saved v), (X7_savedMany v), z46_v_thrown), rfl, hq, (xAt_of hP hK hD ht hW)⟩, hS.F ht⟩) hS.2.2 dX7_plan_53
  refine lv_aload_n hx hb dX7_plan_0 rfl (lv_at hl 0 rfl) ?_
  refine lv_aload_n hx hb dX7_plan_1 rfl (lv_at hl 0 rfl) ?_
  refine lv_iload_n hx hb dX7_plan_2 rfl (lv_at hl 1 rfl) ?_
  have hFc := xfree_same hS hAe0 (ws := (wX7 cy a v)) hD
  refine va_calli (va_runV (As := [.int x1]) (rest := [.ref (a 0)]) ⟨hx, hb, hml, hown, hts⟩ (c_X7_isMole l dC dI cy a _ v x1 _ hq) (cwV 1 hts gX7_plan_X7_isMole rfl rfl rfl (by decide +kernel) ⟨Nat.le_of_ble_eq_true rfl, Nat.le_of_ble_eq_true rfl⟩) ⟨xPre_blind, va_recv hK hP (ci := 7) (q0 := 0) rfl rfl, xPre_of hP hK hD⟩ rfl rfl hl.1 rfl (lv_room (Nat.le_of_ble_eq_true rfl)) dX7_plan_3 ⟨Nat.le_of_ble_eq_true rfl, Nat.le_of_ble_eq_true rfl⟩) hS (fun q _ h => hFc q h) hFc (fun r3 u9 t H locs ht hvm hq hB hz1 hk1 hS => ?_)
  obtain ⟨hP1, -, hD1⟩ := hB
  rw [ht] at hP1
  have hP : va_P (dC, dI) vwCl (wX7 cy a v) H := hP1
  have hD : va_D A (wX7 cy a v) := hD1.weaken (fun _ q _ h => hFc q.1 h)
  obtain ⟨hqA, hqB⟩ := hq
  refine lv_if_ne (tgt := 13) hx hb dX7_plan_6 (by decide) (fun c6 => ?_) (fun c6 => ?_)
  · have hq := hqB c6
    refine lv_iload_n hx hb dX7_plan_13 rfl (lv_at hl 2 rfl) ?_
    refine lv_iconst (v := 0) hx hb dX7_plan_14 (by decide) ?_
    refine lv_iconst (v := 3) hx hb dX7_plan_15 (by decide) ?_
    have hFc := xfree_none hS hAe0
    refine va_calli (va_runS (As := [.int x2, .int 0, .int 3]) (rest := [.ref (a 0)]) ⟨hx, hb, hml, hown, hts⟩ (c_X7_in l dC dI cy  _ x2 0 3 _ hq) (va_cwS 3 hts gX7_plan_X7_in rfl rfl rfl (by decide +kernel) ⟨Nat.le_of_ble_eq_true rfl, Nat.le_of_ble_eq_true rfl⟩) ⟨xPre_blind, xPre_of xP_nil hK (xD_nil (A := A))⟩ rfl rfl hl.1 rfl (lv_room (Nat.le_of_ble_eq_true rfl)) dX7_plan_16 ⟨Nat.le_of_ble_eq_true rfl, Nat.le_of_ble_eq_true rfl⟩) hS (fun q _ h => hFc q h) hFc (fun r16 u9 t H locs ht hvm hq hB hz1 hk1 hS => ?_)
    have hP := xj_none hP hk1
    obtain ⟨hqA, hqB⟩ := hq
    refine lv_if_ne (tgt := 26) hx hb dX7_plan_19 (by decide) (fun c5 => ?_) (fun c5 => ?_)
    · have hq := hqB c5
      refine lv_aload_n hx hb dX7_plan_26 rfl (lv_at hl 0 rfl) ?_
      refine va_get (D := (dC, dI)) (ci := 7) (v := .ref (a 1)) (C := RX7) (T := TX7) (N := 16) hx hb hts iK7 hown hK hP 0 rfl rfl 0 (by decide) lk0 (fun _ h9 => h9) rfl dX7_plan_27 ?_
      refine lv_iload_n hx hb dX7_plan_30 rfl (lv_at hl 1 rfl) ?_
      refine lv_iconst (v := 2) hx hb dX7_plan_31 (by decide) ?_
      have hFc := xfree_none hS hAe0
      refine va_calli (va_runS (As := [.int x1, .int 2]) (rest := [.ref (a 1), .ref (a 0)]) ⟨hx, hb, hml, hown, hts⟩ (c_X7_of l dC dI cy  _ x1 2 _ hq) (va_cwS 2 hts gX7_plan_X7_of rfl rfl rfl (by decide +kernel) ⟨Nat.le_of_ble_eq_true rfl, Nat.le_of_ble_eq_true rfl⟩) ⟨xPre_blind, xPre_of xP_nil hK (xD_nil (A := A))⟩ rfl rfl hl.1 rfl (lv_room (Nat.le_of_ble_eq_true rfl)) dX7_plan_32 ⟨Nat.le_of_ble_eq_true rfl, Nat.le_of_ble_eq_true rfl⟩) hS (fun q _ h => hFc q h) hFc (fun r32 u9 t H locs ht hvm hq hB hz1 hk1 hS => ?_)
      have hP := xj_none hP hk1
      obtain ⟨g3, hq⟩ := hq
      refine va_iald hx hb hK hP 1 0 rfl rfl g3 dX7_plan_35 ?_
      refine lv_bipush (v := 20) hx hb dX7_plan_36 (by decide) ?_
      obtain ⟨hqA, hqB⟩ := hq
      refine lv_icmp_ne (tgt := 45) hx hb dX7_plan_38 (by decide) (fun c4 => ?_) (fun c4 => ?_)
      · have hq := hqB c4
        refine lv_iconst (v := 0) hx hb dX7_plan_45 (by decide) ?_
        exact J46 0  _ _ _ hq hP hD hS (lv_sub hl [0, 1, 2] rfl)
      · have hq := hqA c4
        refine lv_iconst (v := 3) hx hb dX7_plan_41 (by decide) ?_
        refine lv_goto (tgt := 46) hx hb dX7_plan_42 (by decide) ?_
        exact J46 3  _ _ _ hq hP hD hS (lv_sub hl [0, 1, 2] rfl)
    · have hq := hqA c5
      refine lv_iconst (v := 2) hx hb dX7_plan_22 (by decide) ?_
      refine lv_goto (tgt := 46) hx hb dX7_plan_23 (by decide) ?_
      exact J46 2  _ _ _ hq hP hD hS (lv_sub hl [0, 1, 2] rfl)
  · have hq := hqA c6
    refine lv_iconst (v := 1) hx hb dX7_plan_9 (by decide) ?_
    refine lv_goto (tgt := 46) hx hb dX7_plan_10 (by decide) ?_
    exact J46 1  _ _ _ hq hP hD hS (lv_sub hl [0, 1, 2] rfl)
def wb_X7_rest_39 (v : V_X7) (x1 : Int32) (y39_2 : Int32) (z39_v_saved : (Nat → Int32)) (z39_v_savedMany : Int32) (z39_v_thrown : Int32) (y39_3 : Int32) (z39_v_s : (Nat → Int32)) (B39 : Int32 → (Nat → Int32) → Prop) (Q : Int32 → (Nat → Int32) → (Nat → Int32) → Int32 → Int32 → Prop) : Prop :=
  ((y39_2 ≤ y39_3 → Q y39_2 z39_v_s z39_v_saved z39_v_savedMany z39_v_thrown) ∧
  (¬ y39_2 ≤ y39_3 → wp_X7_takesOff (z39_v_s, (X7_aside v), (X7_kept v), (X7_isKept v), z39_v_saved, z39_v_savedMany, (X7_text v), (X7_length v), z39_v_thrown, (X7_joint v), (X7_position v), (X7_isWrong v), (X7_isHollow v), (X7_sure v), (X7_away v), (X7_digested v)) x1 (fun z46_v_s =>
  B39 (y39_3 + 1) z46_v_s)))
def wp_X7_rest_39 (v : V_X7) (x1 : Int32) (y39_2 : Int32) (z39_v_saved : (Nat → Int32)) (z39_v_savedMany : Int32) (z39_v_thrown : Int32) (y39_3 : Int32) (z39_v_s : (Nat → Int32)) (Q : Int32 → (Nat → Int32) → (Nat → Int32) → Int32 → Int32 → Prop) : Prop :=
  ∃ (I : Int32 → (Nat → Int32) → Prop) (μ : Int32 → (Nat → Int32) → Nat), I y39_3 z39_v_s ∧ ∀ (s0 : Int32) (s1 : (Nat → Int32)), I s0 s1 → wb_X7_rest_39 v x1 y39_2 z39_v_saved z39_v_savedMany z39_v_thrown s0 s1 (fun t0 t1 => I t0 t1 ∧ μ t0 t1 < μ s0 s1) Q
def wp_X7_rest_14 (v : V_X7) (x1 : Int32) (k14_0 : Int32) (Q : Int32 → (Nat → Int32) → (Nat → Int32) → Int32 → Int32 → Prop) : Prop :=
  wp_X7_holds v k14_0 (fun r14 z14_v_thrown =>
  ((r14 = 0 → Q 0 (X7_s v) (X7_saved v) (X7_savedMany v) z14_v_thrown) ∧
  (¬ r14 = 0 → wp_X7_save (X7_s8 v z14_v_thrown) (fun z23_v_saved z23_v_savedMany =>
  wp_X7_of x1 2 (fun r32 =>
  vp_in r32 1472 ∧ wp_X7_rest_39 v x1 ((X7_s v) r32.toNatClampNeg) z23_v_saved z23_v_savedMany z14_v_thrown 0 (X7_s v) Q)))))
def wp_X7_rest (v : V_X7) (x1 : Int32) (Q : Int32 → (Nat → Int32) → (Nat → Int32) → Int32 → Int32 → Prop) : Prop :=
  wp_X7_isMole v x1 (fun r3 =>
  ((r3 = 0 → wp_X7_rest_14 v x1 1  Q) ∧
  (¬ r3 = 0 → wp_X7_rest_14 v x1 0  Q)))
def q_X7_rest (dC : Nat → ClassId) (dI : Nat → Nat → Nat) (cy : Nat → ClassId) (a : Nat → Nat) (v : V_X7) (x1 : Int32) (Q : Int32 → (Nat → Int32) → (Nat → Int32) → Int32 → Int32 → Prop) (A : Nat → Prop) : Array Value → State → Outcome → State → Prop := va_Qi (fun (r : Int32) (u : (Nat → Int32) × (Nat → Int32) × Int32 × Int32) => Q r u.1 u.2.1 u.2.2.1 u.2.2.2) (fun (u : (Nat → Int32) × (Nat → Int32) × Int32 × Int32) t => xAt dC dI cy A (cX7 cy a u.1 (X7_aside v) (X7_kept v) (X7_isKept v) u.2.1 u.2.2.1 (X7_text v) (X7_length v) u.2.2.2 (X7_joint v) (X7_position v) (X7_isWrong v) (X7_isHollow v) (X7_sure v) (X7_away v) (X7_digested v)) t) A
set_option maxHeartbeats 4000000 in
set_option maxRecDepth 100000 in
theorem c_X7_rest (l : Launch) (dC : Nat → ClassId) (dI : Nat → Nat → Nat) (cy : Nat → ClassId) (a : Nat → Nat) (sz : Nat) (v : V_X7) (x1 : Int32) (Q : Int32 → (Nat → Int32) → (Nat → Int32) → Int32 → Int32 → Prop) (hq : wp_X7_rest v x1 Q) : Met l yX7_rest wsX7_rest ({ frames := 2, cells := 0, slots := 0, locals := 43 } : Room) (va_Pc [.ref (a 0), .int x1] (xPre dC dI cy (wX7 cy a v) sz)) (q_X7_rest dC dI cy a v x1 Q (va_A (wX7 cy a v) sz)) 0 0 (va_A (wX7 cy a v) sz) := by
  refine Met.ofW (cc := cX7_rest) (maxL := 4) (ret := (some .int)) (by decide) rfl ?_
  intro p e s m args below meth c s₁ B hml hv
  obtain ⟨rfl, hsz, hP, hK, hD0⟩ := hv
  have hx := B.exec
  have hb := B.bytes
  have hr := B.returns
  have hts := atoms_spec (ws := wsX7_rest) B.pre
  have hown : s.vm.findClass RX7 = some m.cls := findClass_of_methodNamed B.named
  have hlocks := B.notSynchronized
  subst hsz
  have hD := hD0.self (sz := s.heap.size)
  generalize hAe : va_A (wX7 cy a v) s.heap.size = A at hD ⊢
  have hAe0 : ∀ q : Nat, s.heap.size ≤ q → A q := fun q h => by rw [← hAe]; exact Or.inr h
  have hS : va_S A s.heap s.heap [] := va_S.rf
  have hl := lv_entry ([.ref (a 0), .int x1]) (n := 4) (Nat.le_of_ble_eq_true rfl)
  rw [lg_entry_eq]
  generalize (lg_sl ([.ref (a 0), .int x1]) ++ List.replicate (4 - (lg_sl ([.ref (a 0), .int x1])).length) Slot.unset).toArray = ls at hl ⊢
  have hl : lv_has ls 4 [(0, .ref (a 0)), (1, .int x1)] := hl
  have lk0 := hts (Cond.fieldLink RX7 7 "MolesLawnModel" "s" "[I") (List.mem_cons_of_mem _ (List.mem_append_left _ (List.mem_append_left _ (List.mem_of_getElem? (i := 0) rfl))))
  have iK7 : ∀ w ∈ wsX70, w ∈ wsX7_rest := fun _ h => (List.mem_cons_of_mem _ (List.mem_append_right _ h))
  unfold wp_X7_rest at hq
  have J39 : ∀ (y39_2 : Int32) (z39_v_saved : (Nat → Int32)) (z39_v_savedMany : Int32) (z39_v_thrown : Int32) (y39_3 : Int32) (z39_v_s : (Nat → Int32)) (H : Heap) (locs : List Loc) (ls : Array Slot), wp_X7_rest_39 v x1 y39_2 z39_v_saved z39_v_savedMany z39_v_thrown y39_3 z39_v_s Q → va_P (dC, dI) vwCl (cX7 cy a z39_v_s (X7_aside v) (X7_kept v) (X7_isKept v) z39_v_saved z39_v_savedMany (X7_text v) (X7_length v) z39_v_thrown (X7_joint v) (X7_position v) (X7_isWrong v) (X7_isHollow v) (X7_sure v) (X7_away v) (X7_digested v)) H → va_D A (cX7 cy a z39_v_s (X7_aside v) (X7_kept v) (X7_isKept v) z39_v_saved z39_v_savedMany (X7_text v) (X7_length v) z39_v_thrown (X7_joint v) (X7_position v) (X7_isWrong v) (X7_isHollow v) (X7_sure v) (X7_away v) (X7_digested v)) → va_S A s.heap H locs → lv_has ls 4 [(0, .ref (a 0)), (1, .int x1), (2, .int y39_2), (3, .int y39_3)] → W p l e (headSpec wsX7_rest ({ frames := 2, cells := 0, slots := 0, locals := 43 } : Room)).room s m ([.ref (a 0), .int x1] : List Value).toArray below meth c H locs 0 0 (MQ below (q_X7_rest dC dI cy a v x1 Q A) ([.ref (a 0), .int x1] : List Value).toArray s 0 0 A) (F0 m 39 ls []) := by
    intro y39_2 z39_v_saved z39_v_savedMany z39_v_thrown y39_3 z39_v_s H locs ls hq hP hD hS hl
    obtain ⟨I39, μ39, h0, hs39⟩ := hq
    have key : ∀ (n : Nat) (y39_3 : Int32) (z39_v_s : (Nat → Int32)) (H : Heap) (locs : List Loc) (ls : Array Slot), I39 y39_3 z39_v_s → μ39 y39_3 z39_v_s < n → va_P (dC, dI) vwCl (cX7 cy a z39_v_s (X7_aside v) (X7_kept v) (X7_isKept v) z39_v_saved z39_v_savedMany (X7_text v) (X7_length v) z39_v_thrown (X7_joint v) (X7_position v) (X7_isWrong v) (X7_isHollow v) (X7_sure v) (X7_away v) (X7_digested v)) H → va_D A (cX7 cy a z39_v_s (X7_aside v) (X7_kept v) (X7_isKept v) z39_v_saved z39_v_savedMany (X7_text v) (X7_length v) z39_v_thrown (X7_joint v) (X7_position v) (X7_isWrong v) (X7_isHollow v) (X7_sure v) (X7_away v) (X7_digested v)) → va_S A s.heap H locs → lv_has ls 4 [(0, .ref (a 0)), (1, .int x1), (2, .int y39_2), (3, .int y39_3)] → W p l e (headSpec wsX7_rest ({ frames := 2, cells := 0, slots := 0, locals := 43 } : Room)).room s m ([.ref (a 0), .int x1] : List Value).toArray below meth c H locs 0 0 (MQ below (q_X7_rest dC dI cy a v x1 Q A) ([.ref (a 0), .int x1] : List Value).toArray s 0 0 A) (F0 m 39 ls []) := by
      intro n
      induction n with
      | zero => intro y39_3 z39_v_s H locs ls _ hm; exact absurd hm (Nat.not_lt_zero _)
      | succ n ih =>
        intro y39_3 z39_v_s H locs ls hI hm hP hD hS hl
        have hq := hs39 y39_3 z39_v_s hI
        generalize hB39 : (fun (t0 : Int32) (t1 : (Nat → Int32)) => I39 t0 t1 ∧ μ39 t0 t1 < μ39 y39_3 z39_v_s) = B39 at hq
        have bk39 : ∀ (y39_3 : Int32) (z39_v_s : (Nat → Int32)) (H : Heap) (locs : List Loc) (ls : Array Slot), B39 y39_3 z39_v_s → va_P (dC, dI) vwCl (cX7 cy a z39_v_s (X7_aside v) (X7_kept v) (X7_isKept v) z39_v_saved z39_v_savedMany (X7_text v) (X7_length v) z39_v_thrown (X7_joint v) (X7_position v) (X7_isWrong v) (X7_isHollow v) (X7_sure v) (X7_away v) (X7_digested v)) H → va_D A (cX7 cy a z39_v_s (X7_aside v) (X7_kept v) (X7_isKept v) z39_v_saved z39_v_savedMany (X7_text v) (X7_length v) z39_v_thrown (X7_joint v) (X7_position v) (X7_isWrong v) (X7_isHollow v) (X7_sure v) (X7_away v) (X7_digested v)) → va_S A s.heap H locs → lv_has ls 4 [(0, .ref (a 0)), (1, .int x1), (2, .int y39_2), (3, .int y39_3)] → W p l e (headSpec wsX7_rest ({ frames := 2, cells := 0, slots := 0, locals := 43 } : Room)).room s m ([.ref (a 0), .int x1] : List Value).toArray below meth c H locs 0 0 (MQ below (q_X7_rest dC dI cy a v x1 Q A) ([.ref (a 0), .int x1] : List Value).toArray s 0 0 A) (F0 m 39 ls []) := by
          intro y39_3 z39_v_s H locs ls h
          rw [← hB39] at h
          exact ih y39_3 z39_v_s H locs ls h.1 (Nat.lt_of_lt_of_le h.2 (Nat.le_of_lt_succ hm))
        unfold wb_X7_rest_39 at hq
        refine lv_iload_n hx hb dX7_rest_39 rfl (lv_at hl 3 rfl) ?_
        refine lv_iload_n hx hb dX7_rest_40 rfl (lv_at hl 2 rfl) ?_
        obtain ⟨hqA, hqB⟩ := hq
        refine lv_icmp_ge (tgt := 55) hx hb dX7_rest_41 (by decide) (fun c1 => ?_) (fun c1 => ?_)
        · have hq := hqA c1
          refine lv_iload_n hx hb dX7_rest_55 rfl (lv_at hl 2 rfl) ?_
          exact W.iret (v := y39_2) hx hb hr (fun t ht hW => ⟨⟨y39_2, (z39_v_s, z39_v_saved, z39_v_savedMany, z39_v_thrown), rfl, hq, (xAt_of hP hK hD ht hW)⟩, hS.F ht⟩) hS.2.2 dX7_rest_56
        · have hq := hqB c1
          refine lv_aload_n hx hb dX7_rest_44 rfl (lv_at hl 0 rfl) ?_
          refine lv_iload_n hx hb dX7_rest_45 rfl (lv_at hl 1 rfl) ?_
          have hFc := xfree_same hS hAe0 (ws := (cX7 cy a z39_v_s (X7_aside v) (X7_kept v) (X7_isKept v) z39_v_saved z39_v_savedMany (X7_text v) (X7_length v) z39_v_thrown (X7_joint v) (X7_position v) (X7_isWrong v) (X7_isHollow v) (X7_sure v) (X7_away v) (X7_digested v))) hD
          refine va_callv (va_runV (As := [.int x1]) (rest := []) ⟨hx, hb, hml, hown, hts⟩ (c_X7_takesOff l dC dI cy a _ (z39_v_s, (X7_aside v), (X7_kept v), (X7_isKept v), z39_v_saved, z39_v_savedMany, (X7_text v), (X7_length v), z39_v_thrown, (X7_joint v), (X7_position v), (X7_isWrong v), (X7_isHollow v), (X7_sure v), (X7_away v), (X7_digested v)) x1 _ hq) (cwV 1 hts gX7_rest_X7_takesOff rfl rfl rfl (by decide +kernel) ⟨Nat.le_of_ble_eq_true rfl, Nat.le_of_ble_eq_true rfl⟩) ⟨xPre_blind, va_recv hK hP (ci := 7) (q0 := 0) rfl rfl, xPre_of hP hK hD⟩ rfl rfl hl.1 rfl (lv_room (Nat.le_of_ble_eq_true rfl)) dX7_rest_46 ⟨Nat.le_of_ble_eq_true rfl, Nat.le_of_ble_eq_true rfl⟩) hS (fun q _ h => hFc q h) hFc (fun z46_v_s t H locs ht hvm hq hB hz1 hk1 hS => ?_)
          obtain ⟨hP1, -, hD1⟩ := hB
          rw [ht] at hP1
          have hP : va_P (dC, dI) vwCl (cX7 cy a z46_v_s (X7_aside v) (X7_kept v) (X7_isKept v) z39_v_saved z39_v_savedMany (X7_text v) (X7_length v) z39_v_thrown (X7_joint v) (X7_position v) (X7_isWrong v) (X7_isHollow v) (X7_sure v) (X7_away v) (X7_digested v)) H := hP1
          have hD : va_D A (cX7 cy a z46_v_s (X7_aside v) (X7_kept v) (X7_isKept v) z39_v_saved z39_v_savedMany (X7_text v) (X7_length v) z39_v_thrown (X7_joint v) (X7_position v) (X7_isWrong v) (X7_isHollow v) (X7_sure v) (X7_away v) (X7_digested v)) := hD1.weaken (fun _ q _ h => hFc q.1 h)
          refine lv_iinc (v := (y39_3 + 1)) (lv' := [(3, .int (y39_3 + 1)), (0, .ref (a 0)), (1, .int x1), (2, .int y39_2)]) hx hb dX7_rest_49 hl (k := 3) rfl rfl (by decide) rfl (fun ls hl => ?_)
          refine lv_goto (tgt := 39) hx hb dX7_rest_52 (by decide) ?_
          exact bk39 (y39_3 + 1) z46_v_s _ _ _ hq hP hD hS (lv_sub hl [1, 2, 3, 0] rfl)
    exact key _ y39_3 z39_v_s H locs ls h0 (Nat.lt_succ_self _) hP hD hS hl
  have J14 : ∀ (k14_0 : Int32) (H : Heap) (locs : List Loc) (ls : Array Slot), wp_X7_rest_14 v x1 k14_0 Q → va_P (dC, dI) vwCl (wX7 cy a v) H → va_D A (wX7 cy a v) → va_S A s.heap H locs → lv_has ls 4 [(0, .ref (a 0)), (1, .int x1)] → W p l e (headSpec wsX7_rest ({ frames := 2, cells := 0, slots := 0, locals := 43 } : Room)).room s m ([.ref (a 0), .int x1] : List Value).toArray below meth c H locs 0 0 (MQ below (q_X7_rest dC dI cy a v x1 Q A) ([.ref (a 0), .int x1] : List Value).toArray s 0 0 A) (F0 m 14 ls [.int k14_0, .ref (a 0)]) := by
    intro k14_0 H locs ls hq hP hD hS hl
    unfold wp_X7_rest_14 at hq
    have hFc := xfree_same hS hAe0 (ws := (wX7 cy a v)) hD
    refine va_calli (va_runV (As := [.int k14_0]) (rest := []) ⟨hx, hb, hml, hown, hts⟩ (c_X7_holds l dC dI cy a _ v k14_0 _ hq) (cwV 1 hts gX7_rest_X7_holds rfl rfl rfl (by decide +kernel) ⟨Nat.le_of_ble_eq_true rfl, Nat.le_of_ble_eq_true rfl⟩) ⟨xPre_blind, va_recv hK hP (ci := 7) (q0 := 0) rfl rfl, xPre_of hP hK hD⟩ rfl rfl hl.1 rfl (lv_room (Nat.le_of_ble_eq_true rfl)) dX7_rest_14 ⟨Nat.le_of_ble_eq_true rfl, Nat.le_of_ble_eq_true rfl⟩) hS (fun q _ h => hFc q h) hFc (fun r14 z14_v_thrown t H locs ht hvm hq hB hz1 hk1 hS => ?_)
    obtain ⟨hP1, -, hD1⟩ := hB
    rw [ht] at hP1
    have hP : va_P (dC, dI) vwCl (cX7 cy a (X7_s v) (X7_aside v) (X7_kept v) (X7_isKept v) (X7_saved v) (X7_savedMany v) (X7_text v) (X7_length v) z14_v_thrown (X7_joint v) (X7_position v) (X7_isWrong v) (X7_isHollow v) (X7_sure v) (X7_away v) (X7_digested v)) H := hP1
    have hD : va_D A (cX7 cy a (X7_s v) (X7_aside v) (X7_kept v) (X7_isKept v) (X7_saved v) (X7_savedMany v) (X7_text v) (X7_length v) z14_v_thrown (X7_joint v) (X7_position v) (X7_isWrong v) (X7_isHollow v) (X7_sure v) (X7_away v) (X7_digested v)) := hD1.weaken (fun _ q _ h => hFc q.1 h)
    obtain ⟨hqA, hqB⟩ := hq
    refine lv_if_ne (tgt := 22) hx hb dX7_rest_17 (by decide) (fun c3 => ?_) (fun c3 => ?_)
    · have hq := hqB c3
      refine lv_aload_n hx hb dX7_rest_22 rfl (lv_at hl 0 rfl) ?_
      have hFc := xfree_same hS hAe0 (ws := (cX7 cy a (X7_s v) (X7_aside v) (X7_kept v) (X7_isKept v) (X7_saved v) (X7_savedMany v) (X7_text v) (X7_length v) z14_v_thrown (X7_joint v) (X7_position v) (X7_isWrong v) (X7_isHollow v) (X7_sure v) (X7_away v) (X7_digested v))) hD
      refine va_callv (va_runV (As := []) (rest := []) ⟨hx, hb, hml, hown, hts⟩ (c_X7_save l dC dI cy a _ (X7_s8 v z14_v_thrown) _ hq) (cwV 0 hts gX7_rest_X7_save rfl rfl rfl (by decide +kernel) ⟨Nat.le_of_ble_eq_true rfl, Nat.le_of_ble_eq_true rfl⟩) ⟨xPre_blind, va_recv hK hP (ci := 7) (q0 := 0) rfl rfl, xPre_of hP hK hD⟩ rfl rfl hl.1 rfl (lv_room (Nat.le_of_ble_eq_true rfl)) dX7_rest_23 ⟨Nat.le_of_ble_eq_true rfl, Nat.le_of_ble_eq_true rfl⟩) hS (fun q _ h => hFc q h) hFc (fun u9 t H locs ht hvm hq hB hz1 hk1 hS => ?_)
      obtain ⟨z23_v_saved, z23_v_savedMany⟩ := u9
      obtain ⟨hP1, -, hD1⟩ := hB
      rw [ht] at hP1
      have hP : va_P (dC, dI) vwCl (cX7 cy a (X7_s v) (X7_aside v) (X7_kept v) (X7_isKept v) z23_v_saved z23_v_savedMany (X7_text v) (X7_length v) z14_v_thrown (X7_joint v) (X7_position v) (X7_isWrong v) (X7_isHollow v) (X7_sure v) (X7_away v) (X7_digested v)) H := hP1
      have hD : va_D A (cX7 cy a (X7_s v) (X7_aside v) (X7_kept v) (X7_isKept v) z23_v_saved z23_v_savedMany (X7_text v) (X7_length v) z14_v_thrown (X7_joint v) (X7_position v) (X7_isWrong v) (X7_isHollow v) (X7_sure v) (X7_away v) (X7_digested v)) := hD1.weaken (fun _ q _ h => hFc q.1 h)
      refine lv_aload_n hx hb dX7_rest_26 rfl (lv_at hl 0 rfl) ?_
      refine va_get (D := (dC, dI)) (ci := 7) (v := .ref (a 1)) (C := RX7) (T := TX7) (N := 16) hx hb hts iK7 hown hK hP 0 rfl rfl 0 (by decide) lk0 (fun _ h9 => h9) rfl dX7_rest_27 ?_
      refine lv_iload_n hx hb dX7_rest_30 rfl (lv_at hl 1 rfl) ?_
      refine lv_iconst (v := 2) hx hb dX7_rest_31 (by decide) ?_
      have hFc := xfree_none hS hAe0
      refine va_calli (va_runS (As := [.int x1, .int 2]) (rest := [.ref (a 1)]) ⟨hx, hb, hml, hown, hts⟩ (c_X7_of l dC dI cy  _ x1 2 _ hq) (va_cwS 2 hts gX7_rest_X7_of rfl rfl rfl (by decide +kernel) ⟨Nat.le_of_ble_eq_true rfl, Nat.le_of_ble_eq_true rfl⟩) ⟨xPre_blind, xPre_of xP_nil hK (xD_nil (A := A))⟩ rfl rfl hl.1 rfl (lv_room (Nat.le_of_ble_eq_true rfl)) dX7_rest_32 ⟨Nat.le_of_ble_eq_true rfl, Nat.le_of_ble_eq_true rfl⟩) hS (fun q _ h => hFc q h) hFc (fun r32 u9 t H locs ht hvm hq hB hz1 hk1 hS => ?_)
      have hP := xj_none hP hk1
      obtain ⟨g2, hq⟩ := hq
      refine va_iald hx hb hK hP 1 0 rfl rfl g2 dX7_rest_35 ?_
      refine lv_istore_n (lv' := [(2, .int ((X7_s v) r32.toNatClampNeg)), (0, .ref (a 0)), (1, .int x1)]) hx hb dX7_rest_36 rfl hl (by decide) rfl (fun ls hl => ?_)
      refine lv_iconst (v := 0) hx hb dX7_rest_37 (by decide) ?_
      refine lv_istore_n (lv' := [(3, .int 0), (2, .int ((X7_s v) r32.toNatClampNeg)), (0, .ref (a 0)), (1, .int x1)]) hx hb dX7_rest_38 rfl hl (by decide) rfl (fun ls hl => ?_)
      exact J39 ((X7_s v) r32.toNatClampNeg) z23_v_saved z23_v_savedMany z14_v_thrown 0 (X7_s v) _ _ _ hq hP hD hS (lv_sub hl [2, 3, 1, 0] rfl)
    · have hq := hqA c3
      refine lv_iconst (v := 0) hx hb dX7_rest_20 (by decide) ?_
      exact W.iret (v := 0) hx hb hr (fun t ht hW => ⟨⟨0, ((X7_s v), (X7_saved v), (X7_savedMany v), z14_v_thrown), rfl, hq, (xAt_of hP hK hD ht hW)⟩, hS.F ht⟩) hS.2.2 dX7_rest_21
  refine lv_aload_n hx hb dX7_rest_0 rfl (lv_at hl 0 rfl) ?_
  refine lv_aload_n hx hb dX7_rest_1 rfl (lv_at hl 0 rfl) ?_
  refine lv_iload_n hx hb dX7_rest_2 rfl (lv_at hl 1 rfl) ?_
  have hFc := xfree_same hS hAe0 (ws := (wX7 cy a v)) hD
  refine va_calli (va_runV (As := [.int x1]) (rest := [.ref (a 0)]) ⟨hx, hb, hml, hown, hts⟩ (c_X7_isMole l dC dI cy a _ v x1 _ hq) (cwV 1 hts gX7_rest_X7_isMole rfl rfl rfl (by decide +kernel) ⟨Nat.le_of_ble_eq_true rfl, Nat.le_of_ble_eq_true rfl⟩) ⟨xPre_blind, va_recv hK hP (ci := 7) (q0 := 0) rfl rfl, xPre_of hP hK hD⟩ rfl rfl hl.1 rfl (lv_room (Nat.le_of_ble_eq_true rfl)) dX7_rest_3 ⟨Nat.le_of_ble_eq_true rfl, Nat.le_of_ble_eq_true rfl⟩) hS (fun q _ h => hFc q h) hFc (fun r3 u9 t H locs ht hvm hq hB hz1 hk1 hS => ?_)
  obtain ⟨hP1, -, hD1⟩ := hB
  rw [ht] at hP1
  have hP : va_P (dC, dI) vwCl (wX7 cy a v) H := hP1
  have hD : va_D A (wX7 cy a v) := hD1.weaken (fun _ q _ h => hFc q.1 h)
  obtain ⟨hqA, hqB⟩ := hq
  refine lv_if_eq (tgt := 13) hx hb dX7_rest_6 (by decide) (fun c4 => ?_) (fun c4 => ?_)
  · have hq := hqA c4
    refine lv_iconst (v := 1) hx hb dX7_rest_13 (by decide) ?_
    exact J14 1  _ _ _ hq hP hD hS (lv_sub hl [0, 1] rfl)
  · have hq := hqB c4
    refine lv_iconst (v := 0) hx hb dX7_rest_9 (by decide) ?_
    refine lv_goto (tgt := 14) hx hb dX7_rest_10 (by decide) ?_
    exact J14 0  _ _ _ hq hP hD hS (lv_sub hl [0, 1] rfl)
