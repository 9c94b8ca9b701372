def wb_X7_beginsTrailAt_4 (v : V_X7) (x1 : Int32)  (y4_2 : Int32) (y4_3 : Int32) (B4 : Int32 → Int32 → Prop) (Q : Int32 → Prop) : Prop :=
  vp_in 1 1472 ∧ ((((X7_s v) (1 : Int32).toNatClampNeg) ≤ y4_3 → bz y4_2 ∧ Q y4_2) ∧
  (¬ ((X7_s v) (1 : Int32).toNatClampNeg) ≤ y4_3 → ((y4_2 = 0 → wp_X7_of y4_3 24 (fun r25 =>
  vp_in r25 1472 ∧ ((((X7_s v) r25.toNatClampNeg) = x1 → B4 1 (y4_3 + 1)) ∧
  (¬ ((X7_s v) r25.toNatClampNeg) = x1 → B4 0 (y4_3 + 1))))) ∧
  (¬ y4_2 = 0 → B4 1 (y4_3 + 1)))))
def wp_X7_beginsTrailAt_4 (v : V_X7) (x1 : Int32)  (y4_2 : Int32) (y4_3 : Int32) (Q : Int32 → Prop) : Prop :=
  ∃ (I : Int32 → Int32 → Prop) (μ : Int32 → Int32 → Nat), I y4_2 y4_3 ∧ ∀ (s0 : Int32) (s1 : Int32), I s0 s1 → wb_X7_beginsTrailAt_4 v x1  s0 s1 (fun t0 t1 => I t0 t1 ∧ μ t0 t1 < μ s0 s1) Q
def wp_X7_beginsTrailAt (v : V_X7) (x1 : Int32) (Q : Int32 → Prop) : Prop :=
  wp_X7_beginsTrailAt_4 v x1  0 0 Q
def q_X7_beginsTrailAt (dC : Nat → ClassId) (dI : Nat → Nat → Nat) (cy : Nat → ClassId) (a : Nat → Nat) (v : V_X7) (x1 : Int32) (Q : Int32 → Prop) (A : Nat → Prop) : Array Value → State → Outcome → State → Prop := va_Qi (fun (r : Int32) (u : Unit) => Q r ) (fun (u : Unit) t => xAt dC dI cy A (wX7 cy a v) t) A
set_option maxHeartbeats 4000000 in
set_option maxRecDepth 100000 in
theorem c_X7_beginsTrailAt (l : Launch) (dC : Nat → ClassId) (dI : Nat → Nat → Nat) (cy : Nat → ClassId) (a : Nat → Nat) (sz : Nat) (v : V_X7) (x1 : Int32) (Q : Int32 → Prop) (hq : wp_X7_beginsTrailAt v x1 Q) : Met l yX7_beginsTrailAt wsX7_beginsTrailAt ({ frames := 1, cells := 0, slots := 0, locals := 21 } : Room) (va_Pc [.ref (a 0), .int x1] (xPre dC dI cy (wX7 cy a v) sz)) (q_X7_beginsTrailAt dC dI cy a v x1 Q (va_A (wX7 cy a v) sz)) 0 0 (va_A (wX7 cy a v) sz) := by
  refine Met.ofW (cc := cX7_beginsTrailAt) (maxL := 4) (ret := (some .boolean)) (by decide) rfl ?_
  intro p e s m args below meth c s₁ B hml hv
  obtain ⟨rfl, hsz, hP, hK, hD0⟩ := hv
  have hx := B.exec
  have hb := B.bytes
  have hr := B.returns
  have hts := atoms_spec (ws := wsX7_beginsTrailAt) B.pre
  have hown : s.vm.findClass RX7 = some m.cls := findClass_of_methodNamed B.named
  have hlocks := B.notSynchronized
  subst hsz
  have hD := hD0.self (sz := s.heap.size)
  generalize hAe : va_A (wX7 cy a v) s.heap.size = A at hD ⊢
  have hAe0 : ∀ q : Nat, s.heap.size ≤ q → A q := fun q h => by rw [← hAe]; exact Or.inr h
  have hS : va_S A s.heap s.heap [] := va_S.rf
  have hl := lv_entry ([.ref (a 0), .int x1]) (n := 4) (Nat.le_of_ble_eq_true rfl)
  rw [lg_entry_eq]
  generalize (lg_sl ([.ref (a 0), .int x1]) ++ List.replicate (4 - (lg_sl ([.ref (a 0), .int x1])).length) Slot.unset).toArray = ls at hl ⊢
  have hl : lv_has ls 4 [(0, .ref (a 0)), (1, .int x1)] := hl
  have lk0 := hts (Cond.fieldLink RX7 7 "MolesLawnModel" "s" "[I") (List.mem_cons_of_mem _ (List.mem_append_left _ (List.mem_of_getElem? (i := 0) rfl)))
  have iK7 : ∀ w ∈ wsX70, w ∈ wsX7_beginsTrailAt := fun _ h => (List.mem_cons_of_mem _ (List.mem_append_right _ h))
  unfold wp_X7_beginsTrailAt at hq
  have J4 : ∀  (y4_2 : Int32) (y4_3 : Int32) (H : Heap) (locs : List Loc) (ls : Array Slot), wp_X7_beginsTrailAt_4 v x1  y4_2 y4_3 Q → va_P (dC, dI) vwCl (wX7 cy a v) H → va_D A (wX7 cy a v) → va_S A s.heap H locs → lv_has ls 4 [(0, .ref (a 0)), (1, .int x1), (2, .int y4_2), (3, .int y4_3)] → W p l e (headSpec wsX7_beginsTrailAt ({ frames := 1, cells := 0, slots := 0, locals := 21 } : Room)).room s m ([.ref (a 0), .int x1] : List Value).toArray below meth c H locs 0 0 (MQ below (q_X7_beginsTrailAt dC dI cy a v x1 Q A) ([.ref (a 0), .int x1] : List Value).toArray s 0 0 A) (F0 m 4 ls []) := by
    intro  y4_2 y4_3 H locs ls hq hP hD hS hl
    obtain ⟨I4, μ4, h0, hs4⟩ := hq
    have key : ∀ (n : Nat) (y4_2 : Int32) (y4_3 : Int32) (H : Heap) (locs : List Loc) (ls : Array Slot), I4 y4_2 y4_3 → μ4 y4_2 y4_3 < n → va_P (dC, dI) vwCl (wX7 cy a v) H → va_D A (wX7 cy a v) → va_S A s.heap H locs → lv_has ls 4 [(0, .ref (a 0)), (1, .int x1), (2, .int y4_2), (3, .int y4_3)] → W p l e (headSpec wsX7_beginsTrailAt ({ frames := 1, cells := 0, slots := 0, locals := 21 } : Room)).room s m ([.ref (a 0), .int x1] : List Value).toArray below meth c H locs 0 0 (MQ below (q_X7_beginsTrailAt dC dI cy a v x1 Q A) ([.ref (a 0), .int x1] : List Value).toArray s 0 0 A) (F0 m 4 ls []) := by
      intro n
      induction n with
      | zero => intro y4_2 y4_3 H locs ls _ hm; exact absurd hm (Nat.not_lt_zero _)
      | succ n ih =>
        intro y4_2 y4_3 H locs ls hI hm hP hD hS hl
        have hq := hs4 y4_2 y4_3 hI
        generalize hB4 : (fun (t0 : Int32) (t1 : Int32) => I4 t0 t1 ∧ μ4 t0 t1 < μ4 y4_2 y4_3) = B4 at hq
        have bk4 : ∀ (y4_2 : Int32) (y4_3 : Int32) (H : Heap) (locs : List Loc) (ls : Array Slot), B4 y4_2 y4_3 → va_P (dC, dI) vwCl (wX7 cy a v) H → va_D A (wX7 cy a v) → va_S A s.heap H locs → lv_has ls 4 [(0, .ref (a 0)), (1, .int x1), (2, .int y4_2), (3, .int y4_3)] → W p l e (headSpec wsX7_beginsTrailAt ({ frames := 1, cells := 0, slots := 0, locals := 21 } : Room)).room s m ([.ref (a 0), .int x1] : List Value).toArray below meth c H locs 0 0 (MQ below (q_X7_beginsTrailAt dC dI cy a v x1 Q A) ([.ref (a 0), .int x1] : List Value).toArray s 0 0 A) (F0 m 4 ls []) := by
          intro y4_2 y4_3 H locs ls h
          rw [← hB4] at h
          exact ih y4_2 y4_3 H locs ls h.1 (Nat.lt_of_lt_of_le h.2 (Nat.le_of_lt_succ hm))
        unfold wb_X7_beginsTrailAt_4 at hq
        refine lv_iload_n hx hb dX7_beginsTrailAt_4 rfl (lv_at hl 3 rfl) ?_
        refine lv_aload_n hx hb dX7_beginsTrailAt_5 rfl (lv_at hl 0 rfl) ?_
        refine va_get (D := (dC, dI)) (ci := 7) (v := .ref (a 1)) (C := RX7) (T := TX7) (N := 16) hx hb hts iK7 hown hK hP 0 rfl rfl 0 (by decide) lk0 (fun _ h9 => h9) rfl dX7_beginsTrailAt_6 ?_
        refine lv_iconst (v := 1) hx hb dX7_beginsTrailAt_9 (by decide) ?_
        obtain ⟨g1, hq⟩ := hq
        refine va_iald hx hb hK hP 1 0 rfl rfl g1 dX7_beginsTrailAt_10 ?_
        obtain ⟨hqA, hqB⟩ := hq
        refine lv_icmp_ge (tgt := 45) hx hb dX7_beginsTrailAt_11 (by decide) (fun c6 => ?_) (fun c6 => ?_)
        · have hq := hqA c6
          refine lv_iload_n hx hb dX7_beginsTrailAt_45 rfl (lv_at hl 2 rfl) ?_
          obtain ⟨g2, hq⟩ := hq
          exact W.zret (v := y4_2) hx hb hr (bz_nar g2) (fun t ht hW => ⟨⟨y4_2, (), rfl, hq, (xAt_of hP hK hD ht hW)⟩, hS.F ht⟩) hS.2.2 dX7_beginsTrailAt_46
        · have hq := hqB c6
          refine lv_iload_n hx hb dX7_beginsTrailAt_14 rfl (lv_at hl 2 rfl) ?_
          obtain ⟨hqA, hqB⟩ := hq
          refine lv_if_ne (tgt := 33) hx hb dX7_beginsTrailAt_15 (by decide) (fun c5 => ?_) (fun c5 => ?_)
          · have hq := hqB c5
            refine lv_iconst (v := 1) hx hb dX7_beginsTrailAt_33 (by decide) ?_
            refine lv_goto (tgt := 38) hx hb dX7_beginsTrailAt_34 (by decide) ?_
            refine lv_istore_n (lv' := [(2, .int 1), (0, .ref (a 0)), (1, .int x1), (3, .int y4_3)]) hx hb dX7_beginsTrailAt_38 rfl hl (by decide) rfl (fun ls hl => ?_)
            refine lv_iinc (v := (y4_3 + 1)) (lv' := [(3, .int (y4_3 + 1)), (2, .int 1), (0, .ref (a 0)), (1, .int x1)]) hx hb dX7_beginsTrailAt_39 hl (k := 3) rfl rfl (by decide) rfl (fun ls hl => ?_)
            refine lv_goto (tgt := 4) hx hb dX7_beginsTrailAt_42 (by decide) ?_
            exact bk4 1 (y4_3 + 1) _ _ _ hq hP hD hS (lv_sub hl [2, 3, 1, 0] rfl)
          · have hq := hqA c5
            refine lv_aload_n hx hb dX7_beginsTrailAt_18 rfl (lv_at hl 0 rfl) ?_
            refine va_get (D := (dC, dI)) (ci := 7) (v := .ref (a 1)) (C := RX7) (T := TX7) (N := 16) hx hb hts iK7 hown hK hP 0 rfl rfl 0 (by decide) lk0 (fun _ h9 => h9) rfl dX7_beginsTrailAt_19 ?_
            refine lv_iload_n hx hb dX7_beginsTrailAt_22 rfl (lv_at hl 3 rfl) ?_
            refine lv_bipush (v := 24) hx hb dX7_beginsTrailAt_23 (by decide) ?_
            have hFc := xfree_none hS hAe0
            refine va_calli (va_runS (As := [.int y4_3, .int 24]) (rest := [.ref (a 1)]) ⟨hx, hb, hml, hown, hts⟩ (c_X7_of l dC dI cy  _ y4_3 24 _ hq) (va_cwS 2 hts gX7_beginsTrailAt_X7_of rfl rfl rfl (by decide +kernel) ⟨Nat.le_of_ble_eq_true rfl, Nat.le_of_ble_eq_true rfl⟩) ⟨xPre_blind, xPre_of xP_nil hK (xD_nil (A := A))⟩ rfl rfl hl.1 rfl (lv_room (Nat.le_of_ble_eq_true rfl)) dX7_beginsTrailAt_25 ⟨Nat.le_of_ble_eq_true rfl, Nat.le_of_ble_eq_true rfl⟩) hS (fun q _ h => hFc q h) hFc (fun r25 u9 t H locs ht hvm hq hB hz1 hk1 hS => ?_)
            have hP := xj_none hP hk1
            obtain ⟨g3, hq⟩ := hq
            refine va_iald hx hb hK hP 1 0 rfl rfl g3 dX7_beginsTrailAt_28 ?_
            refine lv_iload_n hx hb dX7_beginsTrailAt_29 rfl (lv_at hl 1 rfl) ?_
            obtain ⟨hqA, hqB⟩ := hq
            refine lv_icmp_ne (tgt := 37) hx hb dX7_beginsTrailAt_30 (by decide) (fun c4 => ?_) (fun c4 => ?_)
            · have hq := hqB c4
              refine lv_iconst (v := 0) hx hb dX7_beginsTrailAt_37 (by decide) ?_
              refine lv_istore_n (lv' := [(2, .int 0), (0, .ref (a 0)), (1, .int x1), (3, .int y4_3)]) hx hb dX7_beginsTrailAt_38 rfl hl (by decide) rfl (fun ls hl => ?_)
              refine lv_iinc (v := (y4_3 + 1)) (lv' := [(3, .int (y4_3 + 1)), (2, .int 0), (0, .ref (a 0)), (1, .int x1)]) hx hb dX7_beginsTrailAt_39 hl (k := 3) rfl rfl (by decide) rfl (fun ls hl => ?_)
              refine lv_goto (tgt := 4) hx hb dX7_beginsTrailAt_42 (by decide) ?_
              exact bk4 0 (y4_3 + 1) _ _ _ hq hP hD hS (lv_sub hl [2, 3, 1, 0] rfl)
            · have hq := hqA c4
              refine lv_iconst (v := 1) hx hb dX7_beginsTrailAt_33 (by decide) ?_
              refine lv_goto (tgt := 38) hx hb dX7_beginsTrailAt_34 (by decide) ?_
              refine lv_istore_n (lv' := [(2, .int 1), (0, .ref (a 0)), (1, .int x1), (3, .int y4_3)]) hx hb dX7_beginsTrailAt_38 rfl hl (by decide) rfl (fun ls hl => ?_)
              refine lv_iinc (v := (y4_3 + 1)) (lv' := [(3, .int (y4_3 + 1)), (2, .int 1), (0, .ref (a 0)), (1, .int x1)]) hx hb dX7_beginsTrailAt_39 hl (k := 3) rfl rfl (by decide) rfl (fun ls hl => ?_)
              refine lv_goto (tgt := 4) hx hb dX7_beginsTrailAt_42 (by decide) ?_
              exact bk4 1 (y4_3 + 1) _ _ _ hq hP hD hS (lv_sub hl [2, 3, 1, 0] rfl)
    exact key _ y4_2 y4_3 H locs ls h0 (Nat.lt_succ_self _) hP hD hS hl
  refine lv_iconst (v := 0) hx hb dX7_beginsTrailAt_0 (by decide) ?_
  refine lv_istore_n (lv' := [(2, .int 0), (0, .ref (a 0)), (1, .int x1)]) hx hb dX7_beginsTrailAt_1 rfl hl (by decide) rfl (fun ls hl => ?_)
  refine lv_iconst (v := 0) hx hb dX7_beginsTrailAt_2 (by decide) ?_
  refine lv_istore_n (lv' := [(3, .int 0), (2, .int 0), (0, .ref (a 0)), (1, .int x1)]) hx hb dX7_beginsTrailAt_3 rfl hl (by decide) rfl (fun ls hl => ?_)
  exact J4  0 0 _ _ _ hq hP hD hS (lv_sub hl [2, 3, 1, 0] rfl)
def wp_X7_rake_117 (v : V_X7) (x1 : Int32) (z117_v_joint : (Nat → Int32)) (z117_v_s : (Nat → Int32)) (z117_v_saved : (Nat → Int32)) (z117_v_savedMany : Int32) (z117_v_thrown : Int32) (Q : Int32 → (Nat → Int32) → (Nat → Int32) → (Nat → Int32) → Int32 → Int32 → Prop) : Prop :=
  wp_X7_fallsIn (z117_v_s, (X7_aside v), (X7_kept v), (X7_isKept v), z117_v_saved, z117_v_savedMany, (X7_text v), (X7_length v), z117_v_thrown, z117_v_joint, (X7_position v), (X7_isWrong v), (X7_isHollow v), (X7_sure v), (X7_away v), (X7_digested v)) x1 (fun r119 z119_v_s =>
  Q r119 z117_v_joint z119_v_s z117_v_saved z117_v_savedMany z117_v_thrown)
def wp_X7_rake_83 (v : V_X7) (x1 : Int32) (y83_2 : Int32) (z83_v_s : (Nat → Int32)) (z83_v_saved : (Nat → Int32)) (z83_v_savedMany : Int32) (z83_v_thrown : Int32) (k83_0 : Int32) (Q : Int32 → (Nat → Int32) → (Nat → Int32) → (Nat → Int32) → Int32 → Int32 → Prop) : Prop :=
  wp_X7_endingAt (z83_v_s, (X7_aside v), (X7_kept v), (X7_isKept v), z83_v_saved, z83_v_savedMany, (X7_text v), (X7_length v), z83_v_thrown, (X7_joint v), (X7_position v), (X7_isWrong v), (X7_isHollow v), (X7_sure v), (X7_away v), (X7_digested v)) x1 (fun r86 =>
  ((r86 = 2 → wp_X7_otherEnd (z83_v_s, (X7_aside v), (X7_kept v), (X7_isKept v), z83_v_saved, z83_v_savedMany, (X7_text v), (X7_length v), z83_v_thrown, (X7_joint v), (X7_position v), (X7_isWrong v), (X7_isHollow v), (X7_sure v), (X7_away v), (X7_digested v)) y83_2 x1 (fun r96 =>
  wp_X7_otherEnd (z83_v_s, (X7_aside v), (X7_kept v), (X7_isKept v), z83_v_saved, z83_v_savedMany, (X7_text v), (X7_length v), z83_v_thrown, (X7_joint v), (X7_position v), (X7_isWrong v), (X7_isHollow v), (X7_sure v), (X7_away v), (X7_digested v)) k83_0 x1 (fun r102 =>
  ((r96 = r102 → wp_X7_rake_117 v x1 (X7_joint v) z83_v_s z83_v_saved z83_v_savedMany z83_v_thrown  Q) ∧
  (¬ r96 = r102 → wp_X7_joins (z83_v_s, (X7_aside v), (X7_kept v), (X7_isKept v), z83_v_saved, z83_v_savedMany, (X7_text v), (X7_length v), z83_v_thrown, (X7_joint v), (X7_position v), (X7_isWrong v), (X7_isHollow v), (X7_sure v), (X7_away v), (X7_digested v)) y83_2 k83_0 x1 (fun z112_v_joint z112_v_s =>
  Q 1 z112_v_joint z112_v_s z83_v_saved z83_v_savedMany z83_v_thrown)))))) ∧
  (¬ r86 = 2 → wp_X7_rake_117 v x1 (X7_joint v) z83_v_s z83_v_saved z83_v_savedMany z83_v_thrown  Q)))
def wp_X7_rake_33 (v : V_X7) (x1 : Int32) (k33_0 : Int32) (Q : Int32 → (Nat → Int32) → (Nat → Int32) → (Nat → Int32) → Int32 → Int32 → Prop) : Prop :=
  wp_X7_holds v k33_0 (fun r33 z33_v_thrown =>
  ((r33 = 0 → Q 0 (X7_joint v) (X7_s v) (X7_saved v) (X7_savedMany v) z33_v_thrown) ∧
  (¬ r33 = 0 → wp_X7_save (X7_s8 v z33_v_thrown) (fun z42_v_saved z42_v_savedMany =>
  vp_in (8 + x1) 1472 ∧ wp_X7_nextEnding ((upd (X7_s v) (8 + x1).toNatClampNeg 0), (X7_aside v), (X7_kept v), (X7_isKept v), z42_v_saved, z42_v_savedMany, (X7_text v), (X7_length v), z33_v_thrown, (X7_joint v), (X7_position v), (X7_isWrong v), (X7_isHollow v), (X7_sure v), (X7_away v), (X7_digested v)) 0 x1 (fun r58 =>
  ((r58 = (-1) → wp_X7_rake_83 v x1 r58 (upd (X7_s v) (8 + x1).toNatClampNeg 0) z42_v_saved z42_v_savedMany z33_v_thrown (-1)  Q) ∧
  (¬ r58 = (-1) → wp_X7_endFrom ((upd (X7_s v) (8 + x1).toNatClampNeg 0), (X7_aside v), (X7_kept v), (X7_isKept v), z42_v_saved, z42_v_savedMany, (X7_text v), (X7_length v), z33_v_thrown, (X7_joint v), (X7_position v), (X7_isWrong v), (X7_isHollow v), (X7_sure v), (X7_away v), (X7_digested v)) r58 (fun r74 =>
  wp_X7_nextEnding ((upd (X7_s v) (8 + x1).toNatClampNeg 0), (X7_aside v), (X7_kept v), (X7_isKept v), z42_v_saved, z42_v_savedMany, (X7_text v), (X7_length v), z33_v_thrown, (X7_joint v), (X7_position v), (X7_isWrong v), (X7_isHollow v), (X7_sure v), (X7_away v), (X7_digested v)) (r74 + 1) x1 (fun r80 =>
  wp_X7_rake_83 v x1 r58 (upd (X7_s v) (8 + x1).toNatClampNeg 0) z42_v_saved z42_v_savedMany z33_v_thrown r80  Q)))))))))
def wp_X7_rake_28 (v : V_X7) (x1 : Int32)  (Q : Int32 → (Nat → Int32) → (Nat → Int32) → (Nat → Int32) → Int32 → Int32 → Prop) : Prop :=
  wp_X7_rake_33 v x1 2  Q
def wp_X7_rake (v : V_X7) (x1 : Int32) (Q : Int32 → (Nat → Int32) → (Nat → Int32) → (Nat → Int32) → Int32 → Int32 → Prop) : Prop :=
  wp_X7_isTuft x1 (fun r2 =>
  ((r2 = 0 → wp_X7_rake_33 v x1 1  Q) ∧
  (¬ r2 = 0 → wp_X7_hasMound v x1 (fun r14 =>
  ((r14 = 0 → wp_X7_rake_28 v x1   Q) ∧
  (¬ r14 = 0 → wp_X7_beginsTrailAt v x1 (fun r22 =>
  ((r22 = 0 → wp_X7_rake_33 v x1 0  Q) ∧
  (¬ r22 = 0 → wp_X7_rake_28 v x1   Q)))))))))
def q_X7_rake (dC : Nat → ClassId) (dI : Nat → Nat → Nat) (cy : Nat → ClassId) (a : Nat → Nat) (v : V_X7) (x1 : Int32) (Q : Int32 → (Nat → Int32) → (Nat → Int32) → (Nat → Int32) → Int32 → Int32 → Prop) (A : Nat → Prop) : Array Value → State → Outcome → State → Prop := va_Qi (fun (r : Int32) (u : (Nat → Int32) × (Nat → Int32) × (Nat → Int32) × Int32 × Int32) => Q r u.1 u.2.1 u.2.2.1 u.2.2.2.1 u.2.2.2.2) (fun (u : (Nat → Int32) × (Nat → Int32) × (Nat → Int32) × Int32 × Int32) t => xAt dC dI cy A (cX7 cy a u.2.1 (X7_aside v) (X7_kept v) (X7_isKept v) u.2.2.1 u.2.2.2.1 (X7_text v) (X7_length v) u.2.2.2.2 u.1 (X7_position v) (X7_isWrong v) (X7_isHollow v) (X7_sure v) (X7_away v) (X7_digested v)) t) A
set_option maxHeartbeats 4000000 in
set_option maxRecDepth 100000 in
theorem c_X7_rake (l : Launch) (dC : Nat → ClassId) (dI : Nat → Nat → Nat) (cy : Nat → ClassId) (a : Nat → Nat) (sz : Nat) (v : V_X7) (x1 : Int32) (Q : Int32 → (Nat → Int32) → (Nat → Int32) → (Nat → Int32) → Int32 → Int32 → Prop) (hq : wp_X7_rake v x1 Q) : Met l yX7_rake wsX7_rake ({ frames := 4, cells := 0, slots := 0, locals := 90 } : Room) (va_Pc [.ref (a 0), .int x1] (xPre dC dI cy (wX7 cy a v) sz)) (q_X7_rake dC dI cy a v x1 Q (va_A (wX7 cy a v) sz)) 0 0 (va_A (wX7 cy a v) sz) := by
  refine Met.ofW (cc := cX7_rake) (maxL := 4) (ret := (some .int)) (by decide) rfl ?_
  intro p e s m args below meth c s₁ B hml hv
  obtain ⟨rfl, hsz, hP, hK, hD0⟩ := hv
  have hx := B.exec
  have hb := B.bytes
  have hr := B.returns
  have hts := atoms_spec (ws := wsX7_rake) B.pre
  have hown : s.vm.findClass RX7 = some m.cls := findClass_of_methodNamed B.named
  have hlocks := B.notSynchronized
  subst hsz
  have hD := hD0.self (sz := s.heap.size)
  generalize hAe : va_A (wX7 cy a v) s.heap.size = A at hD ⊢
  have hAe0 : ∀ q : Nat, s.heap.size ≤ q → A q := fun q h => by rw [← hAe]; exact Or.inr h
  have hS : va_S A s.heap s.heap [] := va_S.rf
  have hl := lv_entry ([.ref (a 0), .int x1]) (n := 4) (Nat.le_of_ble_eq_true rfl)
  rw [lg_entry_eq]
  generalize (lg_sl ([.ref (a 0), .int x1]) ++ List.replicate (4 - (lg_sl ([.ref (a 0), .int x1])).length) Slot.unset).toArray = ls at hl ⊢
  have hl : lv_has ls 4 [(0, .ref (a 0)), (1, .int x1)] := hl
  have lk0 := hts (Cond.fieldLink RX7 7 "MolesLawnModel" "s" "[I") (List.mem_cons_of_mem _ (List.mem_append_left _ (List.mem_append_left _ (List.mem_of_getElem? (i := 0) rfl))))
  have iK7 : ∀ w ∈ wsX70, w ∈ wsX7_rake := fun _ h => (List.mem_cons_of_mem _ (List.mem_append_right _ h))
  unfold wp_X7_rake at hq
  have J117 : ∀ (z117_v_joint : (Nat → Int32)) (z117_v_s : (Nat → Int32)) (z117_v_saved : (Nat → Int32)) (z117_v_savedMany : Int32) (z117_v_thrown : Int32) (H : Heap) (locs : List Loc) (ls : Array Slot), wp_X7_rake_117 v x1 z117_v_joint z117_v_s z117_v_saved z117_v_savedMany z117_v_thrown Q → va_P (dC, dI) vwCl (cX7 cy a z117_v_s (X7_aside v) (X7_kept v) (X7_isKept v) z117_v_saved z117_v_savedMany (X7_text v) (X7_length v) z117_v_thrown z117_v_joint (X7_position v) (X7_isWrong v) (X7_isHollow v) (X7_sure v) (X7_away v) (X7_digested v)) H → va_D A (cX7 cy a z117_v_s (X7_aside v) (X7_kept v) (X7_isKept v) z117_v_saved z117_v_savedMany (X7_text v) (X7_length v) z117_v_thrown z117_v_joint (X7_position v) (X7_isWrong v) (X7_isHollow v) (X7_sure v) (X7_away v) (X7_digested v)) → va_S A s.heap H locs → lv_has ls 4 [(0, .ref (a 0)), (1, .int x1)] → W p l e (headSpec wsX7_rake ({ frames := 4, cells := 0, slots := 0, locals := 90 } : Room)).room s m ([.ref (a 0), .int x1] : List Value).toArray below meth c H locs 0 0 (MQ below (q_X7_rake dC dI cy a v x1 Q A) ([.ref (a 0), .int x1] : List Value).toArray s 0 0 A) (F0 m 117 ls []) := by
    intro z117_v_joint z117_v_s z117_v_saved z117_v_savedMany z117_v_thrown H locs ls hq hP hD hS hl
    unfold wp_X7_rake_117 at hq
    refine lv_aload_n hx hb dX7_rake_117 rfl (lv_at hl 0 rfl) ?_
    refine lv_iload_n hx hb dX7_rake_118 rfl (lv_at hl 1 rfl) ?_
    have hFc := xfree_same hS hAe0 (ws := (cX7 cy a z117_v_s (X7_aside v) (X7_kept v) (X7_isKept v) z117_v_saved z117_v_savedMany (X7_text v) (X7_length v) z117_v_thrown z117_v_joint (X7_position v) (X7_isWrong v) (X7_isHollow v) (X7_sure v) (X7_away v) (X7_digested v))) hD
    refine va_calli (va_runV (As := [.int x1]) (rest := []) ⟨hx, hb, hml, hown, hts⟩ (c_X7_fallsIn l dC dI cy a _ (z117_v_s, (X7_aside v), (X7_kept v), (X7_isKept v), z117_v_saved, z117_v_savedMany, (X7_text v), (X7_length v), z117_v_thrown, z117_v_joint, (X7_position v), (X7_isWrong v), (X7_isHollow v), (X7_sure v), (X7_away v), (X7_digested v)) x1 _ hq) (cwV 1 hts gX7_rake_X7_fallsIn rfl rfl rfl (by decide +kernel) ⟨Nat.le_of_ble_eq_true rfl, Nat.le_of_ble_eq_true rfl⟩) ⟨xPre_blind, va_recv hK hP (ci := 7) (q0 := 0) rfl rfl, xPre_of hP hK hD⟩ rfl rfl hl.1 rfl (lv_room (Nat.le_of_ble_eq_true rfl)) dX7_rake_119 ⟨Nat.le_of_ble_eq_true rfl, Nat.le_of_ble_eq_true rfl⟩) hS (fun q _ h => hFc q h) hFc (fun r119 z119_v_s t H locs ht hvm hq hB hz1 hk1 hS => ?_)
    obtain ⟨hP1, -, hD1⟩ := hB
    rw [ht] at hP1
    have hP : va_P (dC, dI) vwCl (cX7 cy a z119_v_s (X7_aside v) (X7_kept v) (X7_isKept v) z117_v_saved z117_v_savedMany (X7_text v) (X7_length v) z117_v_thrown z117_v_joint (X7_position v) (X7_isWrong v) (X7_isHollow v) (X7_sure v) (X7_away v) (X7_digested v)) H := hP1
    have hD : va_D A (cX7 cy a z119_v_s (X7_aside v) (X7_kept v) (X7_isKept v) z117_v_saved z117_v_savedMany (X7_text v) (X7_length v) z117_v_thrown z117_v_joint (X7_position v) (X7_isWrong v) (X7_isHollow v) (X7_sure v) (X7_away v) (X7_digested v)) := hD1.weaken (fun _ q _ h => hFc q.1 h)
    exact W.iret (v := r119) hx hb hr (fun t ht hW => ⟨⟨r119, (z117_v_joint, z119_v_s, z117_v_saved, z117_v_savedMany, z117_v_thrown), rfl, hq, (xAt_of hP hK hD ht hW)⟩, hS.F ht⟩) hS.2.2 dX7_rake_122
  have J83 : ∀ (y83_2 : Int32) (z83_v_s : (Nat → Int32)) (z83_v_saved : (Nat → Int32)) (z83_v_savedMany : Int32) (z83_v_thrown : Int32) (k83_0 : Int32) (H : Heap) (locs : List Loc) (ls : Array Slot), wp_X7_rake_83 v x1 y83_2 z83_v_s z83_v_saved z83_v_savedMany z83_v_thrown k83_0 Q → va_P (dC, dI) vwCl (cX7 cy a z83_v_s (X7_aside v) (X7_kept v) (X7_isKept v) z83_v_saved z83_v_savedMany (X7_text v) (X7_length v) z83_v_thrown (X7_joint v) (X7_position v) (X7_isWrong v) (X7_isHollow v) (X7_sure v) (X7_away v) (X7_digested v)) H → va_D A (cX7 cy a z83_v_s (X7_aside v) (X7_kept v) (X7_isKept v) z83_v_saved z83_v_savedMany (X7_text v) (X7_length v) z83_v_thrown (X7_joint v) (X7_position v) (X7_isWrong v) (X7_isHollow v) (X7_sure v) (X7_away v) (X7_digested v)) → va_S A s.heap H locs → lv_has ls 4 [(0, .ref (a 0)), (1, .int x1), (2, .int y83_2)] → W p l e (headSpec wsX7_rake ({ frames := 4, cells := 0, slots := 0, locals := 90 } : Room)).room s m ([.ref (a 0), .int x1] : List Value).toArray below meth c H locs 0 0 (MQ below (q_X7_rake dC dI cy a v x1 Q A) ([.ref (a 0), .int x1] : List Value).toArray s 0 0 A) (F0 m 83 ls [.int k83_0]) := by
    intro y83_2 z83_v_s z83_v_saved z83_v_savedMany z83_v_thrown k83_0 H locs ls hq hP hD hS hl
    unfold wp_X7_rake_83 at hq
    refine lv_istore_n (lv' := [(3, .int k83_0), (0, .ref (a 0)), (1, .int x1), (2, .int y83_2)]) hx hb dX7_rake_83 rfl hl (by decide) rfl (fun ls hl => ?_)
    refine lv_aload_n hx hb dX7_rake_84 rfl (lv_at hl 1 rfl) ?_
    refine lv_iload_n hx hb dX7_rake_85 rfl (lv_at hl 2 rfl) ?_
    have hFc := xfree_same hS hAe0 (ws := (cX7 cy a z83_v_s (X7_aside v) (X7_kept v) (X7_isKept v) z83_v_saved z83_v_savedMany (X7_text v) (X7_length v) z83_v_thrown (X7_joint v) (X7_position v) (X7_isWrong v) (X7_isHollow v) (X7_sure v) (X7_away v) (X7_digested v))) hD
    refine va_calli (va_runV (As := [.int x1]) (rest := []) ⟨hx, hb, hml, hown, hts⟩ (c_X7_endingAt l dC dI cy a _ (z83_v_s, (X7_aside v), (X7_kept v), (X7_isKept v), z83_v_saved, z83_v_savedMany, (X7_text v), (X7_length v), z83_v_thrown, (X7_joint v), (X7_position v), (X7_isWrong v), (X7_isHollow v), (X7_sure v), (X7_away v), (X7_digested v)) x1 _ hq) (cwV 1 hts gX7_rake_X7_endingAt rfl rfl rfl (by decide +kernel) ⟨Nat.le_of_ble_eq_true rfl, Nat.le_of_ble_eq_true rfl⟩) ⟨xPre_blind, va_recv hK hP (ci := 7) (q0 := 0) rfl rfl, xPre_of hP hK hD⟩ rfl rfl hl.1 rfl (lv_room (Nat.le_of_ble_eq_true rfl)) dX7_rake_86 ⟨Nat.le_of_ble_eq_true rfl, Nat.le_of_ble_eq_true rfl⟩) hS (fun q _ h => hFc q h) hFc (fun r86 u9 t H locs ht hvm hq hB hz1 hk1 hS => ?_)
    obtain ⟨hP1, -, hD1⟩ := hB
    rw [ht] at hP1
    have hP : va_P (dC, dI) vwCl (cX7 cy a z83_v_s (X7_aside v) (X7_kept v) (X7_isKept v) z83_v_saved z83_v_savedMany (X7_text v) (X7_length v) z83_v_thrown (X7_joint v) (X7_position v) (X7_isWrong v) (X7_isHollow v) (X7_sure v) (X7_away v) (X7_digested v)) H := hP1
    have hD : va_D A (cX7 cy a z83_v_s (X7_aside v) (X7_kept v) (X7_isKept v) z83_v_saved z83_v_savedMany (X7_text v) (X7_length v) z83_v_thrown (X7_joint v) (X7_position v) (X7_isWrong v) (X7_isHollow v) (X7_sure v) (X7_away v) (X7_digested v)) := hD1.weaken (fun _ q _ h => hFc q.1 h)
    refine lv_iconst (v := 2) hx hb dX7_rake_89 (by decide) ?_
    obtain ⟨hqA, hqB⟩ := hq
    refine lv_icmp_ne (tgt := 117) hx hb dX7_rake_90 (by decide) (fun c2 => ?_) (fun c2 => ?_)
    · have hq := hqB c2
      exact J117 (X7_joint v) z83_v_s z83_v_saved z83_v_savedMany z83_v_thrown  _ _ _ hq hP hD hS (lv_sub hl [1, 2] rfl)
    · have hq := hqA c2
      refine lv_aload_n hx hb dX7_rake_93 rfl (lv_at hl 1 rfl) ?_
      refine lv_iload_n hx hb dX7_rake_94 rfl (lv_at hl 3 rfl) ?_
      refine lv_iload_n hx hb dX7_rake_95 rfl (lv_at hl 2 rfl) ?_
      have hFc := xfree_same hS hAe0 (ws := (cX7 cy a z83_v_s (X7_aside v) (X7_kept v) (X7_isKept v) z83_v_saved z83_v_savedMany (X7_text v) (X7_length v) z83_v_thrown (X7_joint v) (X7_position v) (X7_isWrong v) (X7_isHollow v) (X7_sure v) (X7_away v) (X7_digested v))) hD
      refine va_calli (va_runV (As := [.int y83_2, .int x1]) (rest := []) ⟨hx, hb, hml, hown, hts⟩ (c_X7_otherEnd l dC dI cy a _ (z83_v_s, (X7_aside v), (X7_kept v), (X7_isKept v), z83_v_saved, z83_v_savedMany, (X7_text v), (X7_length v), z83_v_thrown, (X7_joint v), (X7_position v), (X7_isWrong v), (X7_isHollow v), (X7_sure v), (X7_away v), (X7_digested v)) y83_2 x1 _ hq) (cwV 2 hts gX7_rake_X7_otherEnd rfl rfl rfl (by decide +kernel) ⟨Nat.le_of_ble_eq_true rfl, Nat.le_of_ble_eq_true rfl⟩) ⟨xPre_blind, va_recv hK hP (ci := 7) (q0 := 0) rfl rfl, xPre_of hP hK hD⟩ rfl rfl hl.1 rfl (lv_room (Nat.le_of_ble_eq_true rfl)) dX7_rake_96 ⟨Nat.le_of_ble_eq_true rfl, Nat.le_of_ble_eq_true rfl⟩) hS (fun q _ h => hFc q h) hFc (fun r96 u9 t H locs ht hvm hq hB hz1 hk1 hS => ?_)
      obtain ⟨hP1, -, hD1⟩ := hB
      rw [ht] at hP1
      have hP : va_P (dC, dI) vwCl (cX7 cy a z83_v_s (X7_aside v) (X7_kept v) (X7_isKept v) z83_v_saved z83_v_savedMany (X7_text v) (X7_length v) z83_v_thrown (X7_joint v) (X7_position v) (X7_isWrong v) (X7_isHollow v) (X7_sure v) (X7_away v) (X7_digested v)) H := hP1
      have hD : va_D A (cX7 cy a z83_v_s (X7_aside v) (X7_kept v) (X7_isKept v) z83_v_saved z83_v_savedMany (X7_text v) (X7_length v) z83_v_thrown (X7_joint v) (X7_position v) (X7_isWrong v) (X7_isHollow v) (X7_sure v) (X7_away v) (X7_digested v)) := hD1.weaken (fun _ q _ h => hFc q.1 h)
      refine lv_aload_n hx hb dX7_rake_99 rfl (lv_at hl 1 rfl) ?_
      refine lv_iload_n hx hb dX7_rake_100 rfl (lv_at hl 0 rfl) ?_
      refine lv_iload_n hx hb dX7_rake_101 rfl (lv_at hl 2 rfl) ?_
      have hFc := xfree_same hS hAe0 (ws := (cX7 cy a z83_v_s (X7_aside v) (X7_kept v) (X7_isKept v) z83_v_saved z83_v_savedMany (X7_text v) (X7_length v) z83_v_thrown (X7_joint v) (X7_position v) (X7_isWrong v) (X7_isHollow v) (X7_sure v) (X7_away v) (X7_digested v))) hD
      refine va_calli (va_runV (As := [.int k83_0, .int x1]) (rest := [.int r96]) ⟨hx, hb, hml, hown, hts⟩ (c_X7_otherEnd l dC dI cy a _ (z83_v_s, (X7_aside v), (X7_kept v), (X7_isKept v), z83_v_saved, z83_v_savedMany, (X7_text v), (X7_length v), z83_v_thrown, (X7_joint v), (X7_position v), (X7_isWrong v), (X7_isHollow v), (X7_sure v), (X7_away v), (X7_digested v)) k83_0 x1 _ hq) (cwV 2 hts gX7_rake_X7_otherEnd rfl rfl rfl (by decide +kernel) ⟨Nat.le_of_ble_eq_true rfl, Nat.le_of_ble_eq_true rfl⟩) ⟨xPre_blind, va_recv hK hP (ci := 7) (q0 := 0) rfl rfl, xPre_of hP hK hD⟩ rfl rfl hl.1 rfl (lv_room (Nat.le_of_ble_eq_true rfl)) dX7_rake_102 ⟨Nat.le_of_ble_eq_true rfl, Nat.le_of_ble_eq_true rfl⟩) hS (fun q _ h => hFc q h) hFc (fun r102 u9 t H locs ht hvm hq hB hz1 hk1 hS => ?_)
      obtain ⟨hP1, -, hD1⟩ := hB
      rw [ht] at hP1
      have hP : va_P (dC, dI) vwCl (cX7 cy a z83_v_s (X7_aside v) (X7_kept v) (X7_isKept v) z83_v_saved z83_v_savedMany (X7_text v) (X7_length v) z83_v_thrown (X7_joint v) (X7_position v) (X7_isWrong v) (X7_isHollow v) (X7_sure v) (X7_away v) (X7_digested v)) H := hP1
      have hD : va_D A (cX7 cy a z83_v_s (X7_aside v) (X7_kept v) (X7_isKept v) z83_v_saved z83_v_savedMany (X7_text v) (X7_length v) z83_v_thrown (X7_joint v) (X7_position v) (X7_isWrong v) (X7_isHollow v) (X7_sure v) (X7_away v) (X7_digested v)) := hD1.weaken (fun _ q _ h => hFc q.1 h)
      obtain ⟨hqA, hqB⟩ := hq
      refine lv_icmp_eq (tgt := 117) hx hb dX7_rake_105 (by decide) (fun c1 => ?_) (fun c1 => ?_)
      · have hq := hqA c1
        exact J117 (X7_joint v) z83_v_s z83_v_saved z83_v_savedMany z83_v_thrown  _ _ _ hq hP hD hS (lv_sub hl [1, 2] rfl)
      · have hq := hqB c1
        refine lv_aload_n hx hb dX7_rake_108 rfl (lv_at hl 1 rfl) ?_
        refine lv_iload_n hx hb dX7_rake_109 rfl (lv_at hl 3 rfl) ?_
        refine lv_iload_n hx hb dX7_rake_110 rfl (lv_at hl 0 rfl) ?_
        refine lv_iload_n hx hb dX7_rake_111 rfl (lv_at hl 2 rfl) ?_
        have hFc := xfree_same hS hAe0 (ws := (cX7 cy a z83_v_s (X7_aside v) (X7_kept v) (X7_isKept v) z83_v_saved z83_v_savedMany (X7_text v) (X7_length v) z83_v_thrown (X7_joint v) (X7_position v) (X7_isWrong v) (X7_isHollow v) (X7_sure v) (X7_away v) (X7_digested v))) hD
        refine va_callv (va_runV (As := [.int y83_2, .int k83_0, .int x1]) (rest := []) ⟨hx, hb, hml, hown, hts⟩ (c_X7_joins l dC dI cy a _ (z83_v_s, (X7_aside v), (X7_kept v), (X7_isKept v), z83_v_saved, z83_v_savedMany, (X7_text v), (X7_length v), z83_v_thrown, (X7_joint v), (X7_position v), (X7_isWrong v), (X7_isHollow v), (X7_sure v), (X7_away v), (X7_digested v)) y83_2 k83_0 x1 _ hq) (cwV 3 hts gX7_rake_X7_joins rfl rfl rfl (by decide +kernel) ⟨Nat.le_of_ble_eq_true rfl, Nat.le_of_ble_eq_true rfl⟩) ⟨xPre_blind, va_recv hK hP (ci := 7) (q0 := 0) rfl rfl, xPre_of hP hK hD⟩ rfl rfl hl.1 rfl (lv_room (Nat.le_of_ble_eq_true rfl)) dX7_rake_112 ⟨Nat.le_of_ble_eq_true rfl, Nat.le_of_ble_eq_true rfl⟩) hS (fun q _ h => hFc q h) hFc (fun u9 t H locs ht hvm hq hB hz1 hk1 hS => ?_)
        obtain ⟨z112_v_joint, z112_v_s⟩ := u9
        obtain ⟨hP1, -, hD1⟩ := hB
        rw [ht] at hP1
        have hP : va_P (dC, dI) vwCl (cX7 cy a z112_v_s (X7_aside v) (X7_kept v) (X7_isKept v) z83_v_saved z83_v_savedMany (X7_text v) (X7_length v) z83_v_thrown z112_v_joint (X7_position v) (X7_isWrong v) (X7_isHollow v) (X7_sure v) (X7_away v) (X7_digested v)) H := hP1
        have hD : va_D A (cX7 cy a z112_v_s (X7_aside v) (X7_kept v) (X7_isKept v) z83_v_saved z83_v_savedMany (X7_text v) (X7_length v) z83_v_thrown z112_v_joint (X7_position v) (X7_isWrong v) (X7_isHollow v) (X7_sure v) (X7_away v) (X7_digested v)) := hD1.weaken (fun _ q _ h => hFc q.1 h)
        refine lv_iconst (v := 1) hx hb dX7_rake_115 (by decide) ?_
        exact W.iret (v := 1) hx hb hr (fun t ht hW => ⟨⟨1, (z112_v_joint, z112_v_s, z83_v_saved, z83_v_savedMany, z83_v_thrown), rfl, hq, (xAt_of hP hK hD ht hW)⟩, hS.F ht⟩) hS.2.2 dX7_rake_116
  have J33 : ∀ (k33_0 : Int32) (H : Heap) (locs : List Loc) (ls : Array Slot), wp_X7_rake_33 v x1 k33_0 Q → va_P (dC, dI) vwCl (wX7 cy a v) H → va_D A (wX7 cy a v) → va_S A s.heap H locs → lv_has ls 4 [(0, .ref (a 0)), (1, .int x1)] → W p l e (headSpec wsX7_rake ({ frames := 4, cells := 0, slots := 0, locals := 90 } : Room)).room s m ([.ref (a 0), .int x1] : List Value).toArray below meth c H locs 0 0 (MQ below (q_X7_rake dC dI cy a v x1 Q A) ([.ref (a 0), .int x1] : List Value).toArray s 0 0 A) (F0 m 33 ls [.int k33_0, .ref (a 0)]) := by
    intro k33_0 H locs ls hq hP hD hS hl
    unfold wp_X7_rake_33 at hq
    have hFc := xfree_same hS hAe0 (ws := (wX7 cy a v)) hD
    refine va_calli (va_runV (As := [.int k33_0]) (rest := []) ⟨hx, hb, hml, hown, hts⟩ (c_X7_holds l dC dI cy a _ v k33_0 _ hq) (cwV 1 hts gX7_rake_X7_holds rfl rfl rfl (by decide +kernel) ⟨Nat.le_of_ble_eq_true rfl, Nat.le_of_ble_eq_true rfl⟩) ⟨xPre_blind, va_recv hK hP (ci := 7) (q0 := 0) rfl rfl, xPre_of hP hK hD⟩ rfl rfl hl.1 rfl (lv_room (Nat.le_of_ble_eq_true rfl)) dX7_rake_33 ⟨Nat.le_of_ble_eq_true rfl, Nat.le_of_ble_eq_true rfl⟩) hS (fun q _ h => hFc q h) hFc (fun r33 z33_v_thrown t H locs ht hvm hq hB hz1 hk1 hS => ?_)
    obtain ⟨hP1, -, hD1⟩ := hB
    rw [ht] at hP1
    have hP : va_P (dC, dI) vwCl (cX7 cy a (X7_s v) (X7_aside v) (X7_kept v) (X7_isKept v) (X7_saved v) (X7_savedMany v) (X7_text v) (X7_length v) z33_v_thrown (X7_joint v) (X7_position v) (X7_isWrong v) (X7_isHollow v) (X7_sure v) (X7_away v) (X7_digested v)) H := hP1
    have hD : va_D A (cX7 cy a (X7_s v) (X7_aside v) (X7_kept v) (X7_isKept v) (X7_saved v) (X7_savedMany v) (X7_text v) (X7_length v) z33_v_thrown (X7_joint v) (X7_position v) (X7_isWrong v) (X7_isHollow v) (X7_sure v) (X7_away v) (X7_digested v)) := hD1.weaken (fun _ q _ h => hFc q.1 h)
    obtain ⟨hqA, hqB⟩ := hq
    refine lv_if_ne (tgt := 41) hx hb dX7_rake_36 (by decide) (fun c5 => ?_) (fun c5 => ?_)
    · have hq := hqB c5
      refine lv_aload_n hx hb dX7_rake_41 rfl (lv_at hl 0 rfl) ?_
      have hFc := xfree_same hS hAe0 (ws := (cX7 cy a (X7_s v) (X7_aside v) (X7_kept v) (X7_isKept v) (X7_saved v) (X7_savedMany v) (X7_text v) (X7_length v) z33_v_thrown (X7_joint v) (X7_position v) (X7_isWrong v) (X7_isHollow v) (X7_sure v) (X7_away v) (X7_digested v))) hD
      refine va_callv (va_runV (As := []) (rest := []) ⟨hx, hb, hml, hown, hts⟩ (c_X7_save l dC dI cy a _ (X7_s8 v z33_v_thrown) _ hq) (cwV 0 hts gX7_rake_X7_save rfl rfl rfl (by decide +kernel) ⟨Nat.le_of_ble_eq_true rfl, Nat.le_of_ble_eq_true rfl⟩) ⟨xPre_blind, va_recv hK hP (ci := 7) (q0 := 0) rfl rfl, xPre_of hP hK hD⟩ rfl rfl hl.1 rfl (lv_room (Nat.le_of_ble_eq_true rfl)) dX7_rake_42 ⟨Nat.le_of_ble_eq_true rfl, Nat.le_of_ble_eq_true rfl⟩) hS (fun q _ h => hFc q h) hFc (fun u9 t H locs ht hvm hq hB hz1 hk1 hS => ?_)
      obtain ⟨z42_v_saved, z42_v_savedMany⟩ := u9
      obtain ⟨hP1, -, hD1⟩ := hB
      rw [ht] at hP1
      have hP : va_P (dC, dI) vwCl (cX7 cy a (X7_s v) (X7_aside v) (X7_kept v) (X7_isKept v) z42_v_saved z42_v_savedMany (X7_text v) (X7_length v) z33_v_thrown (X7_joint v) (X7_position v) (X7_isWrong v) (X7_isHollow v) (X7_sure v) (X7_away v) (X7_digested v)) H := hP1
      have hD : va_D A (cX7 cy a (X7_s v) (X7_aside v) (X7_kept v) (X7_isKept v) z42_v_saved z42_v_savedMany (X7_text v) (X7_length v) z33_v_thrown (X7_joint v) (X7_position v) (X7_isWrong v) (X7_isHollow v) (X7_sure v) (X7_away v) (X7_digested v)) := hD1.weaken (fun _ q _ h => hFc q.1 h)
      refine lv_aload_n hx hb dX7_rake_45 rfl (lv_at hl 0 rfl) ?_
      refine va_get (D := (dC, dI)) (ci := 7) (v := .ref (a 1)) (C := RX7) (T := TX7) (N := 16) hx hb hts iK7 hown hK hP 0 rfl rfl 0 (by decide) lk0 (fun _ h9 => h9) rfl dX7_rake_46 ?_
      refine lv_bipush (v := 8) hx hb dX7_rake_49 (by decide) ?_
      refine lv_iload_n hx hb dX7_rake_51 rfl (lv_at hl 1 rfl) ?_
      refine lv_iadd hx hb dX7_rake_52 ?_
      refine lv_iconst (v := 0) hx hb dX7_rake_53 (by decide) ?_
      obtain ⟨g3, hq⟩ := hq
      refine va_iast hx hb hK hP hD hS 1 0 rfl rfl g3 dX7_rake_54 (fun H locs hP hD hS => ?_)
      have hP : va_P (dC, dI) vwCl (cX7 cy a (upd (X7_s v) (8 + x1).toNatClampNeg 0) (X7_aside v) (X7_kept v) (X7_isKept v) z42_v_saved z42_v_savedMany (X7_text v) (X7_length v) z33_v_thrown (X7_joint v) (X7_position v) (X7_isWrong v) (X7_isHollow v) (X7_sure v) (X7_away v) (X7_digested v)) H := hP
      have hD : va_D A (cX7 cy a (upd (X7_s v) (8 + x1).toNatClampNeg 0) (X7_aside v) (X7_kept v) (X7_isKept v) z42_v_saved z42_v_savedMany (X7_text v) (X7_length v) z33_v_thrown (X7_joint v) (X7_position v) (X7_isWrong v) (X7_isHollow v) (X7_sure v) (X7_away v) (X7_digested v)) := hD
      refine lv_aload_n hx hb dX7_rake_55 rfl (lv_at hl 0 rfl) ?_
      refine lv_iconst (v := 0) hx hb dX7_rake_56 (by decide) ?_
      refine lv_iload_n hx hb dX7_rake_57 rfl (lv_at hl 1 rfl) ?_
      have hFc := xfree_same hS hAe0 (ws := (cX7 cy a (upd (X7_s v) (8 + x1).toNatClampNeg 0) (X7_aside v) (X7_kept v) (X7_isKept v) z42_v_saved z42_v_savedMany (X7_text v) (X7_length v) z33_v_thrown (X7_joint v) (X7_position v) (X7_isWrong v) (X7_isHollow v) (X7_sure v) (X7_away v) (X7_digested v))) hD
      refine va_calli (va_runV (As := [.int 0, .int x1]) (rest := []) ⟨hx, hb, hml, hown, hts⟩ (c_X7_nextEnding l dC dI cy a _ ((upd (X7_s v) (8 + x1).toNatClampNeg 0), (X7_aside v), (X7_kept v), (X7_isKept v), z42_v_saved, z42_v_savedMany, (X7_text v), (X7_length v), z33_v_thrown, (X7_joint v), (X7_position v), (X7_isWrong v), (X7_isHollow v), (X7_sure v), (X7_away v), (X7_digested v)) 0 x1 _ hq) (cwV 2 hts gX7_rake_X7_nextEnding rfl rfl rfl (by decide +kernel) ⟨Nat.le_of_ble_eq_true rfl, Nat.le_of_ble_eq_true rfl⟩) ⟨xPre_blind, va_recv hK hP (ci := 7) (q0 := 0) rfl rfl, xPre_of hP hK hD⟩ rfl rfl hl.1 rfl (lv_room (Nat.le_of_ble_eq_true rfl)) dX7_rake_58 ⟨Nat.le_of_ble_eq_true rfl, Nat.le_of_ble_eq_true rfl⟩) hS (fun q _ h => hFc q h) hFc (fun r58 u9 t H locs ht hvm hq hB hz1 hk1 hS => ?_)
      obtain ⟨hP1, -, hD1⟩ := hB
      rw [ht] at hP1
      have hP : va_P (dC, dI) vwCl (cX7 cy a (upd (X7_s v) (8 + x1).toNatClampNeg 0) (X7_aside v) (X7_kept v) (X7_isKept v) z42_v_saved z42_v_savedMany (X7_text v) (X7_length v) z33_v_thrown (X7_joint v) (X7_position v) (X7_isWrong v) (X7_isHollow v) (X7_sure v) (X7_away v) (X7_digested v)) H := hP1
      have hD : va_D A (cX7 cy a (upd (X7_s v) (8 + x1).toNatClampNeg 0) (X7_aside v) (X7_kept v) (X7_isKept v) z42_v_saved z42_v_savedMany (X7_text v) (X7_length v) z33_v_thrown (X7_joint v) (X7_position v) (X7_isWrong v) (X7_isHollow v) (X7_sure v) (X7_away v) (X7_digested v)) := hD1.weaken (fun _ q _ h => hFc q.1 h)
      refine lv_istore_n (lv' := [(2, .int r58), (0, .ref (a 0)), (1, .int x1)]) hx hb dX7_rake_61 rfl hl (by decide) rfl (fun ls hl => ?_)
      refine lv_iload_n hx hb dX7_rake_62 rfl (lv_at hl 0 rfl) ?_
      refine lv_iconst (v := (-1)) hx hb dX7_rake_63 (by decide) ?_
      obtain ⟨hqA, hqB⟩ := hq
      refine lv_icmp_ne (tgt := 71) hx hb dX7_rake_64 (by decide) (fun c4 => ?_) (fun c4 => ?_)
      · have hq := hqB c4
        refine lv_aload_n hx hb dX7_rake_71 rfl (lv_at hl 1 rfl) ?_
        refine lv_aload_n hx hb dX7_rake_72 rfl (lv_at hl 1 rfl) ?_
        refine lv_iload_n hx hb dX7_rake_73 rfl (lv_at hl 0 rfl) ?_
        have hFc := xfree_same hS hAe0 (ws := (cX7 cy a (upd (X7_s v) (8 + x1).toNatClampNeg 0) (X7_aside v) (X7_kept v) (X7_isKept v) z42_v_saved z42_v_savedMany (X7_text v) (X7_length v) z33_v_thrown (X7_joint v) (X7_position v) (X7_isWrong v) (X7_isHollow v) (X7_sure v) (X7_away v) (X7_digested v))) hD
        refine va_calli (va_runV (As := [.int r58]) (rest := [.ref (a 0)]) ⟨hx, hb, hml, hown, hts⟩ (c_X7_endFrom l dC dI cy a _ ((upd (X7_s v) (8 + x1).toNatClampNeg 0), (X7_aside v), (X7_kept v), (X7_isKept v), z42_v_saved, z42_v_savedMany, (X7_text v), (X7_length v), z33_v_thrown, (X7_joint v), (X7_position v), (X7_isWrong v), (X7_isHollow v), (X7_sure v), (X7_away v), (X7_digested v)) r58 _ hq) (cwV 1 hts gX7_rake_X7_endFrom rfl rfl rfl (by decide +kernel) ⟨Nat.le_of_ble_eq_true rfl, Nat.le_of_ble_eq_true rfl⟩) ⟨xPre_blind, va_recv hK hP (ci := 7) (q0 := 0) rfl rfl, xPre_of hP hK hD⟩ rfl rfl hl.1 rfl (lv_room (Nat.le_of_ble_eq_true rfl)) dX7_rake_74 ⟨Nat.le_of_ble_eq_true rfl, Nat.le_of_ble_eq_true rfl⟩) hS (fun q _ h => hFc q h) hFc (fun r74 u9 t H locs ht hvm hq hB hz1 hk1 hS => ?_)
        obtain ⟨hP1, -, hD1⟩ := hB
        rw [ht] at hP1
        have hP : va_P (dC, dI) vwCl (cX7 cy a (upd (X7_s v) (8 + x1).toNatClampNeg 0) (X7_aside v) (X7_kept v) (X7_isKept v) z42_v_saved z42_v_savedMany (X7_text v) (X7_length v) z33_v_thrown (X7_joint v) (X7_position v) (X7_isWrong v) (X7_isHollow v) (X7_sure v) (X7_away v) (X7_digested v)) H := hP1
        have hD : va_D A (cX7 cy a (upd (X7_s v) (8 + x1).toNatClampNeg 0) (X7_aside v) (X7_kept v) (X7_isKept v) z42_v_saved z42_v_savedMany (X7_text v) (X7_length v) z33_v_thrown (X7_joint v) (X7_position v) (X7_isWrong v) (X7_isHollow v) (X7_sure v) (X7_away v) (X7_digested v)) := hD1.weaken (fun _ q _ h => hFc q.1 h)
        refine lv_iconst (v := 1) hx hb dX7_rake_77 (by decide) ?_
        refine lv_iadd hx hb dX7_rake_78 ?_
        refine lv_iload_n hx hb dX7_rake_79 rfl (lv_at hl 2 rfl) ?_
        have hFc := xfree_same hS hAe0 (ws := (cX7 cy a (upd (X7_s v) (8 + x1).toNatClampNeg 0) (X7_aside v) (X7_kept v) (X7_isKept v) z42_v_saved z42_v_savedMany (X7_text v) (X7_length v) z33_v_thrown (X7_joint v) (X7_position v) (X7_isWrong v) (X7_isHollow v) (X7_sure v) (X7_away v) (X7_digested v))) hD
        refine va_calli (va_runV (As := [.int (r74 + 1), .int x1]) (rest := []) ⟨hx, hb, hml, hown, hts⟩ (c_X7_nextEnding l dC dI cy a _ ((upd (X7_s v) (8 + x1).toNatClampNeg 0), (X7_aside v), (X7_kept v), (X7_isKept v), z42_v_saved, z42_v_savedMany, (X7_text v), (X7_length v), z33_v_thrown, (X7_joint v), (X7_position v), (X7_isWrong v), (X7_isHollow v), (X7_sure v), (X7_away v), (X7_digested v)) (r74 + 1) x1 _ hq) (cwV 2 hts gX7_rake_X7_nextEnding rfl rfl rfl (by decide +kernel) ⟨Nat.le_of_ble_eq_true rfl, Nat.le_of_ble_eq_true rfl⟩) ⟨xPre_blind, va_recv hK hP (ci := 7) (q0 := 0) rfl rfl, xPre_of hP hK hD⟩ rfl rfl hl.1 rfl (lv_room (Nat.le_of_ble_eq_true rfl)) dX7_rake_80 ⟨Nat.le_of_ble_eq_true rfl, Nat.le_of_ble_eq_true rfl⟩) hS (fun q _ h => hFc q h) hFc (fun r80 u9 t H locs ht hvm hq hB hz1 hk1 hS => ?_)
        obtain ⟨hP1, -, hD1⟩ := hB
        rw [ht] at hP1
        have hP : va_P (dC, dI) vwCl (cX7 cy a (upd (X7_s v) (8 + x1).toNatClampNeg 0) (X7_aside v) (X7_kept v) (X7_isKept v) z42_v_saved z42_v_savedMany (X7_text v) (X7_length v) z33_v_thrown (X7_joint v) (X7_position v) (X7_isWrong v) (X7_isHollow v) (X7_sure v) (X7_away v) (X7_digested v)) H := hP1
        have hD : va_D A (cX7 cy a (upd (X7_s v) (8 + x1).toNatClampNeg 0) (X7_aside v) (X7_kept v) (X7_isKept v) z42_v_saved z42_v_savedMany (X7_text v) (X7_length v) z33_v_thrown (X7_joint v) (X7_position v) (X7_isWrong v) (X7_isHollow v) (X7_sure v) (X7_away v) (X7_digested v)) := hD1.weaken (fun _ q _ h => hFc q.1 h)
        exact J83 r58 (upd (X7_s v) (8 + x1).toNatClampNeg 0) z42_v_saved z42_v_savedMany z33_v_thrown r80  _ _ _ hq hP hD hS (lv_sub hl [1, 2, 0] rfl)
      · have hq := hqA c4
        refine lv_iconst (v := (-1)) hx hb dX7_rake_67 (by decide) ?_
        refine lv_goto (tgt := 83) hx hb dX7_rake_68 (by decide) ?_
        exact J83 r58 (upd (X7_s v) (8 + x1).toNatClampNeg 0) z42_v_saved z42_v_savedMany z33_v_thrown (-1)  _ _ _ hq hP hD hS (lv_sub hl [1, 2, 0] rfl)
    · have hq := hqA c5
      refine lv_iconst (v := 0) hx hb dX7_rake_39 (by decide) ?_
      exact W.iret (v := 0) hx hb hr (fun t ht hW => ⟨⟨0, ((X7_joint v), (X7_s v), (X7_saved v), (X7_savedMany v), z33_v_thrown), rfl, hq, (xAt_of hP hK hD ht hW)⟩, hS.F ht⟩) hS.2.2 dX7_rake_40
  have J28 : ∀  (H : Heap) (locs : List Loc) (ls : Array Slot), wp_X7_rake_28 v x1  Q → va_P (dC, dI) vwCl (wX7 cy a v) H → va_D A (wX7 cy a v) → va_S A s.heap H locs → lv_has ls 4 [(0, .ref (a 0)), (1, .int x1)] → W p l e (headSpec wsX7_rake ({ frames := 4, cells := 0, slots := 0, locals := 90 } : Room)).room s m ([.ref (a 0), .int x1] : List Value).toArray below meth c H locs 0 0 (MQ below (q_X7_rake dC dI cy a v x1 Q A) ([.ref (a 0), .int x1] : List Value).toArray s 0 0 A) (F0 m 28 ls [.ref (a 0)]) := by
    intro  H locs ls hq hP hD hS hl
    unfold wp_X7_rake_28 at hq
    refine lv_iconst (v := 2) hx hb dX7_rake_28 (by decide) ?_
    refine lv_goto (tgt := 33) hx hb dX7_rake_29 (by decide) ?_
    exact J33 2  _ _ _ hq hP hD hS (lv_sub hl [0, 1] rfl)
  refine lv_aload_n hx hb dX7_rake_0 rfl (lv_at hl 0 rfl) ?_
  refine lv_iload_n hx hb dX7_rake_1 rfl (lv_at hl 1 rfl) ?_
  have hFc := xfree_none hS hAe0
  refine va_calli (va_runS (As := [.int x1]) (rest := [.ref (a 0)]) ⟨hx, hb, hml, hown, hts⟩ (c_X7_isTuft l dC dI cy  _ x1 _ hq) (va_cwS 1 hts gX7_rake_X7_isTuft rfl rfl rfl (by decide +kernel) ⟨Nat.le_of_ble_eq_true rfl, Nat.le_of_ble_eq_true rfl⟩) ⟨xPre_blind, xPre_of xP_nil hK (xD_nil (A := A))⟩ rfl rfl hl.1 rfl (lv_room (Nat.le_of_ble_eq_true rfl)) dX7_rake_2 ⟨Nat.le_of_ble_eq_true rfl, Nat.le_of_ble_eq_true rfl⟩) hS (fun q _ h => hFc q h) hFc (fun r2 u9 t H locs ht hvm hq hB hz1 hk1 hS => ?_)
  have hP := xj_none hP hk1
  obtain ⟨hqA, hqB⟩ := hq
  refine lv_if_ne (tgt := 12) hx hb dX7_rake_5 (by decide) (fun c8 => ?_) (fun c8 => ?_)
  · have hq := hqB c8
    refine lv_aload_n hx hb dX7_rake_12 rfl (lv_at hl 0 rfl) ?_
    refine lv_iload_n hx hb dX7_rake_13 rfl (lv_at hl 1 rfl) ?_
    have hFc := xfree_same hS hAe0 (ws := (wX7 cy a v)) hD
    refine va_calli (va_runV (As := [.int x1]) (rest := [.ref (a 0)]) ⟨hx, hb, hml, hown, hts⟩ (c_X7_hasMound l dC dI cy a _ v x1 _ hq) (cwV 1 hts gX7_rake_X7_hasMound rfl rfl rfl (by decide +kernel) ⟨Nat.le_of_ble_eq_true rfl, Nat.le_of_ble_eq_true rfl⟩) ⟨xPre_blind, va_recv hK hP (ci := 7) (q0 := 0) rfl rfl, xPre_of hP hK hD⟩ rfl rfl hl.1 rfl (lv_room (Nat.le_of_ble_eq_true rfl)) dX7_rake_14 ⟨Nat.le_of_ble_eq_true rfl, Nat.le_of_ble_eq_true rfl⟩) hS (fun q _ h => hFc q h) hFc (fun r14 u9 t H locs ht hvm hq hB hz1 hk1 hS => ?_)
    obtain ⟨hP1, -, hD1⟩ := hB
    rw [ht] at hP1
    have hP : va_P (dC, dI) vwCl (wX7 cy a v) H := hP1
    have hD : va_D A (wX7 cy a v) := hD1.weaken (fun _ q _ h => hFc q.1 h)
    obtain ⟨hqA, hqB⟩ := hq
    refine lv_if_eq (tgt := 28) hx hb dX7_rake_17 (by decide) (fun c7 => ?_) (fun c7 => ?_)
    · have hq := hqA c7
      exact J28   _ _ _ hq hP hD hS (lv_sub hl [0, 1] rfl)
    · have hq := hqB c7
      refine lv_aload_n hx hb dX7_rake_20 rfl (lv_at hl 0 rfl) ?_
      refine lv_iload_n hx hb dX7_rake_21 rfl (lv_at hl 1 rfl) ?_
      have hFc := xfree_same hS hAe0 (ws := (wX7 cy a v)) hD
      refine va_calli (va_runV (As := [.int x1]) (rest := [.ref (a 0)]) ⟨hx, hb, hml, hown, hts⟩ (c_X7_beginsTrailAt l dC dI cy a _ v x1 _ hq) (cwV 1 hts gX7_rake_X7_beginsTrailAt rfl rfl rfl (by decide +kernel) ⟨Nat.le_of_ble_eq_true rfl, Nat.le_of_ble_eq_true rfl⟩) ⟨xPre_blind, va_recv hK hP (ci := 7) (q0 := 0) rfl rfl, xPre_of hP hK hD⟩ rfl rfl hl.1 rfl (lv_room (Nat.le_of_ble_eq_true rfl)) dX7_rake_22 ⟨Nat.le_of_ble_eq_true rfl, Nat.le_of_ble_eq_true rfl⟩) hS (fun q _ h => hFc q h) hFc (fun r22 u9 t H locs ht hvm hq hB hz1 hk1 hS => ?_)
      obtain ⟨hP1, -, hD1⟩ := hB
      rw [ht] at hP1
      have hP : va_P (dC, dI) vwCl (wX7 cy a v) H := hP1
      have hD : va_D A (wX7 cy a v) := hD1.weaken (fun _ q _ h => hFc q.1 h)
      obtain ⟨hqA, hqB⟩ := hq
      refine lv_if_eq (tgt := 32) hx hb dX7_rake_25 (by decide) (fun c6 => ?_) (fun c6 => ?_)
      · have hq := hqA c6
        refine lv_iconst (v := 0) hx hb dX7_rake_32 (by decide) ?_
        exact J33 0  _ _ _ hq hP hD hS (lv_sub hl [0, 1] rfl)
      · have hq := hqB c6
        exact J28   _ _ _ hq hP hD hS (lv_sub hl [0, 1] rfl)
  · have hq := hqA c8
    refine lv_iconst (v := 1) hx hb dX7_rake_8 (by decide) ?_
    refine lv_goto (tgt := 33) hx hb dX7_rake_9 (by decide) ?_
    exact J33 1  _ _ _ hq hP hD hS (lv_sub hl [0, 1] rfl)
def wb_X7_set_34 (v : V_X7) (x1 : Int32) (y34_2 : Int32) (z34_v_saved : (Nat → Int32)) (z34_v_savedMany : Int32) (z34_v_thrown : Int32) (y34_3 : Int32) (z34_v_s : (Nat → Int32)) (B34 : Int32 → (Nat → Int32) → Prop) (Q : Int32 → (Nat → Int32) → (Nat → Int32) → Int32 → Int32 → Prop) : Prop :=
  vp_in 1 1472 ∧ (((z34_v_s (1 : Int32).toNatClampNeg) ≤ y34_3 → Q y34_2 z34_v_s z34_v_saved z34_v_savedMany z34_v_thrown) ∧
  (¬ (z34_v_s (1 : Int32).toNatClampNeg) ≤ y34_3 → wp_X7_of y34_3 1 (fun r50 =>
  wp_X7_of y34_3 1 (fun r59 =>
  vp_in r59 1472 ∧ (((z34_v_s r59.toNatClampNeg) ≤ x1 → wp_X7_of y34_3 1 (fun r77 =>
  vp_in r77 1472 ∧ vp_in r50 1472 ∧ B34 (y34_3 + 1) (upd z34_v_s r50.toNatClampNeg (z34_v_s r77.toNatClampNeg)))) ∧
  (¬ (z34_v_s r59.toNatClampNeg) ≤ x1 → vp_in r50 1472 ∧ B34 (y34_3 + 1) (upd z34_v_s r50.toNatClampNeg x1)))))))
def wp_X7_set_34 (v : V_X7) (x1 : Int32) (y34_2 : Int32) (z34_v_saved : (Nat → Int32)) (z34_v_savedMany : Int32) (z34_v_thrown : Int32) (y34_3 : Int32) (z34_v_s : (Nat → Int32)) (Q : Int32 → (Nat → Int32) → (Nat → Int32) → Int32 → Int32 → Prop) : Prop :=
  ∃ (I : Int32 → (Nat → Int32) → Prop) (μ : Int32 → (Nat → Int32) → Nat), I y34_3 z34_v_s ∧ ∀ (s0 : Int32) (s1 : (Nat → Int32)), I s0 s1 → wb_X7_set_34 v x1 y34_2 z34_v_saved z34_v_savedMany z34_v_thrown s0 s1 (fun t0 t1 => I t0 t1 ∧ μ t0 t1 < μ s0 s1) Q
def wp_X7_set_16 (v : V_X7) (x1 : Int32) (k16_0 : Int32) (Q : Int32 → (Nat → Int32) → (Nat → Int32) → Int32 → Int32 → Prop) : Prop :=
  wp_X7_holds v k16_0 (fun r16 z16_v_thrown =>
  ((r16 = 0 → Q 0 (X7_s v) (X7_saved v) (X7_savedMany v) z16_v_thrown) ∧
  (¬ r16 = 0 → wp_X7_lays (X7_s8 v z16_v_thrown) 6 x1 (fun r28 z28_v_s z28_v_saved z28_v_savedMany =>
  wp_X7_set_34 v x1 r28 z28_v_saved z28_v_savedMany z16_v_thrown 0 z28_v_s Q))))
def wp_X7_set (v : V_X7) (x1 : Int32) (Q : Int32 → (Nat → Int32) → (Nat → Int32) → Int32 → Int32 → Prop) : Prop :=
  wp_X7_in x1 2 20 (fun r5 =>
  ((r5 = 0 → wp_X7_set_16 v x1 1  Q) ∧
  (¬ r5 = 0 → wp_X7_set_16 v x1 0  Q)))
def q_X7_set (dC : Nat → ClassId) (dI : Nat → Nat → Nat) (cy : Nat → ClassId) (a : Nat → Nat) (v : V_X7) (x1 : Int32) (Q : Int32 → (Nat → Int32) → (Nat → Int32) → Int32 → Int32 → Prop) (A : Nat → Prop) : Array Value → State → Outcome → State → Prop := va_Qi (fun (r : Int32) (u : (Nat → Int32) × (Nat → Int32) × Int32 × Int32) => Q r u.1 u.2.1 u.2.2.1 u.2.2.2) (fun (u : (Nat → Int32) × (Nat → Int32) × Int32 × Int32) t => xAt dC dI cy A (cX7 cy a u.1 (X7_aside v) (X7_kept v) (X7_isKept v) u.2.1 u.2.2.1 (X7_text v) (X7_length v) u.2.2.2 (X7_joint v) (X7_position v) (X7_isWrong v) (X7_isHollow v) (X7_sure v) (X7_away v) (X7_digested v)) t) A
set_option maxHeartbeats 4000000 in
set_option maxRecDepth 100000 in
theorem c_X7_set (l : Launch) (dC : Nat → ClassId) (dI : Nat → Nat → Nat) (cy : Nat → ClassId) (a : Nat → Nat) (sz : Nat) (v : V_X7) (x1 : Int32) (Q : Int32 → (Nat → Int32) → (Nat → Int32) → Int32 → Int32 → Prop) (hq : wp_X7_set v x1 Q) : Met l yX7_set wsX7_set ({ frames := 2, cells := 0, slots := 0, locals := 44 } : Room) (va_Pc [.ref (a 0), .int x1] (xPre dC dI cy (wX7 cy a v) sz)) (q_X7_set dC dI cy a v x1 Q (va_A (wX7 cy a v) sz)) 0 0 (va_A (wX7 cy a v) sz) := by
  refine Met.ofW (cc := cX7_set) (maxL := 4) (ret := (some .int)) (by decide) rfl ?_
  intro p e s m args below meth c s₁ B hml hv
  obtain ⟨rfl, hsz, hP, hK, hD0⟩ := hv
  have hx := B.exec
  have hb := B.bytes
  have hr := B.returns
  have hts := atoms_spec (ws := wsX7_set) B.pre
  have hown : s.vm.findClass RX7 = some m.cls := findClass_of_methodNamed B.named
  have hlocks := B.notSynchronized
  subst hsz
  have hD := hD0.self (sz := s.heap.size)
  generalize hAe : va_A (wX7 cy a v) s.heap.size = A at hD ⊢
  have hAe0 : ∀ q : Nat, s.heap.size ≤ q → A q := fun q h => by rw [← hAe]; exact Or.inr h
  have hS : va_S A s.heap s.heap [] := va_S.rf
  have hl := lv_entry ([.ref (a 0), .int x1]) (n := 4) (Nat.le_of_ble_eq_true rfl)
  rw [lg_entry_eq]
  generalize (lg_sl ([.ref (a 0), .int x1]) ++ List.replicate (4 - (lg_sl ([.ref (a 0), .int x1])).length) Slot.unset).toArray = ls at hl ⊢
  have hl : lv_has ls 4 [(0, .ref (a 0)), (1, .int x1)] := hl
  have lk0 := hts (Cond.fieldLink RX7 7 "MolesLawnModel" "s" "[I") (List.mem_cons_of_mem _ (List.mem_append_left _ (List.mem_of_getElem? (i := 0) rfl)))
  have iK7 : ∀ w ∈ wsX70, w ∈ wsX7_set := fun _ h => (List.mem_cons_of_mem _ (List.mem_append_right _ h))
  unfold wp_X7_set at hq
  have J34 : ∀ (y34_2 : Int32) (z34_v_saved : (Nat → Int32)) (z34_v_savedMany : Int32) (z34_v_thrown : Int32) (y34_3 : Int32) (z34_v_s : (Nat → Int32)) (H : Heap) (locs : List Loc) (ls : Array Slot), wp_X7_set_34 v x1 y34_2 z34_v_saved z34_v_savedMany z34_v_thrown y34_3 z34_v_s Q → va_P (dC, dI) vwCl (cX7 cy a z34_v_s (X7_aside v) (X7_kept v) (X7_isKept v) z34_v_saved z34_v_savedMany (X7_text v) (X7_length v) z34_v_thrown (X7_joint v) (X7_position v) (X7_isWrong v) (X7_isHollow v) (X7_sure v) (X7_away v) (X7_digested v)) H → va_D A (cX7 cy a z34_v_s (X7_aside v) (X7_kept v) (X7_isKept v) z34_v_saved z34_v_savedMany (X7_text v) (X7_length v) z34_v_thrown (X7_joint v) (X7_position v) (X7_isWrong v) (X7_isHollow v) (X7_sure v) (X7_away v) (X7_digested v)) → va_S A s.heap H locs → lv_has ls 4 [(0, .ref (a 0)), (1, .int x1), (2, .int y34_2), (3, .int y34_3)] → W p l e (headSpec wsX7_set ({ frames := 2, cells := 0, slots := 0, locals := 44 } : Room)).room s m ([.ref (a 0), .int x1] : List Value).toArray below meth c H locs 0 0 (MQ below (q_X7_set dC dI cy a v x1 Q A) ([.ref (a 0), .int x1] : List Value).toArray s 0 0 A) (F0 m 34 ls []) := by
    intro y34_2 z34_v_saved z34_v_savedMany z34_v_thrown y34_3 z34_v_s H locs ls hq hP hD hS hl
    obtain ⟨I34, μ34, h0, hs34⟩ := hq
    have key : ∀ (n : Nat) (y34_3 : Int32) (z34_v_s : (Nat → Int32)) (H : Heap) (locs : List Loc) (ls : Array Slot), I34 y34_3 z34_v_s → μ34 y34_3 z34_v_s < n → va_P (dC, dI) vwCl (cX7 cy a z34_v_s (X7_aside v) (X7_kept v) (X7_isKept v) z34_v_saved z34_v_savedMany (X7_text v) (X7_length v) z34_v_thrown (X7_joint v) (X7_position v) (X7_isWrong v) (X7_isHollow v) (X7_sure v) (X7_away v) (X7_digested v)) H → va_D A (cX7 cy a z34_v_s (X7_aside v) (X7_kept v) (X7_isKept v) z34_v_saved z34_v_savedMany (X7_text v) (X7_length v) z34_v_thrown (X7_joint v) (X7_position v) (X7_isWrong v) (X7_isHollow v) (X7_sure v) (X7_away v) (X7_digested v)) → va_S A s.heap H locs → lv_has ls 4 [(0, .ref (a 0)), (1, .int x1), (2, .int y34_2), (3, .int y34_3)] → W p l e (headSpec wsX7_set ({ frames := 2, cells := 0, slots := 0, locals := 44 } : Room)).room s m ([.ref (a 0), .int x1] : List Value).toArray below meth c H locs 0 0 (MQ below (q_X7_set dC dI cy a v x1 Q A) ([.ref (a 0), .int x1] : List Value).toArray s 0 0 A) (F0 m 34 ls []) := by
      intro n
      induction n with
      | zero => intro y34_3 z34_v_s H locs ls _ hm; exact absurd hm (Nat.not_lt_zero _)
      | succ n ih =>
        intro y34_3 z34_v_s H locs ls hI hm hP hD hS hl
        have hq := hs34 y34_3 z34_v_s hI
        generalize hB34 : (fun (t0 : Int32) (t1 : (Nat → Int32)) => I34 t0 t1 ∧ μ34 t0 t1 < μ34 y34_3 z34_v_s) = B34 at hq
        have bk34 : ∀ (y34_3 : Int32) (z34_v_s : (Nat → Int32)) (H : Heap) (locs : List Loc) (ls : Array Slot), B34 y34_3 z34_v_s → va_P (dC, dI) vwCl (cX7 cy a z34_v_s (X7_aside v) (X7_kept v) (X7_isKept v) z34_v_saved z34_v_savedMany (X7_text v) (X7_length v) z34_v_thrown (X7_joint v) (X7_position v) (X7_isWrong v) (X7_isHollow v) (X7_sure v) (X7_away v) (X7_digested v)) H → va_D A (cX7 cy a z34_v_s (X7_aside v) (X7_kept v) (X7_isKept v) z34_v_saved z34_v_savedMany (X7_text v) (X7_length v) z34_v_thrown (X7_joint v) (X7_position v) (X7_isWrong v) (X7_isHollow v) (X7_sure v) (X7_away v) (X7_digested v)) → va_S A s.heap H locs → lv_has ls 4 [(0, .ref (a 0)), (1, .int x1), (2, .int y34_2), (3, .int y34_3)] → W p l e (headSpec wsX7_set ({ frames := 2, cells := 0, slots := 0, locals := 44 } : Room)).room s m ([.ref (a 0), .int x1] : List Value).toArray below meth c H locs 0 0 (MQ below (q_X7_set dC dI cy a v x1 Q A) ([.ref (a 0), .int x1] : List Value).toArray s 0 0 A) (F0 m 34 ls []) := by
          intro y34_3 z34_v_s H locs ls h
          rw [← hB34] at h
          exact ih y34_3 z34_v_s H locs ls h.1 (Nat.lt_of_lt_of_le h.2 (Nat.le_of_lt_succ hm))
        unfold wb_X7_set_34 at hq
        refine lv_iload_n hx hb dX7_set_34 rfl (lv_at hl 3 rfl) ?_
        refine lv_aload_n hx hb dX7_set_35 rfl (lv_at hl 0 rfl) ?_
        refine va_get (D := (dC, dI)) (ci := 7) (v := .ref (a 1)) (C := RX7) (T := TX7) (N := 16) hx hb hts iK7 hown hK hP 0 rfl rfl 0 (by decide) lk0 (fun _ h9 => h9) rfl dX7_set_36 ?_
        refine lv_iconst (v := 1) hx hb dX7_set_39 (by decide) ?_
        obtain ⟨g1, hq⟩ := hq
        refine va_iald hx hb hK hP 1 0 rfl rfl g1 dX7_set_40 ?_
        obtain ⟨hqA, hqB⟩ := hq
        refine lv_icmp_ge (tgt := 88) hx hb dX7_set_41 (by decide) (fun c7 => ?_) (fun c7 => ?_)
        · have hq := hqA c7
          refine lv_iload_n hx hb dX7_set_88 rfl (lv_at hl 2 rfl) ?_
          exact W.iret (v := y34_2) hx hb hr (fun t ht hW => ⟨⟨y34_2, (z34_v_s, z34_v_saved, z34_v_savedMany, z34_v_thrown), rfl, hq, (xAt_of hP hK hD ht hW)⟩, hS.F ht⟩) hS.2.2 dX7_set_89
        · have hq := hqB c7
          refine lv_aload_n hx hb dX7_set_44 rfl (lv_at hl 0 rfl) ?_
          refine va_get (D := (dC, dI)) (ci := 7) (v := .ref (a 1)) (C := RX7) (T := TX7) (N := 16) hx hb hts iK7 hown hK hP 0 rfl rfl 0 (by decide) lk0 (fun _ h9 => h9) rfl dX7_set_45 ?_
          refine lv_iload_n hx hb dX7_set_48 rfl (lv_at hl 3 rfl) ?_
          refine lv_iconst (v := 1) hx hb dX7_set_49 (by decide) ?_
          have hFc := xfree_none hS hAe0
          refine va_calli (va_runS (As := [.int y34_3, .int 1]) (rest := [.ref (a 1)]) ⟨hx, hb, hml, hown, hts⟩ (c_X7_of l dC dI cy  _ y34_3 1 _ hq) (va_cwS 2 hts gX7_set_X7_of rfl rfl rfl (by decide +kernel) ⟨Nat.le_of_ble_eq_true rfl, Nat.le_of_ble_eq_true rfl⟩) ⟨xPre_blind, xPre_of xP_nil hK (xD_nil (A := A))⟩ rfl rfl hl.1 rfl (lv_room (Nat.le_of_ble_eq_true rfl)) dX7_set_50 ⟨Nat.le_of_ble_eq_true rfl, Nat.le_of_ble_eq_true rfl⟩) hS (fun q _ h => hFc q h) hFc (fun r50 u9 t H locs ht hvm hq hB hz1 hk1 hS => ?_)
          have hP := xj_none hP hk1
          refine lv_aload_n hx hb dX7_set_53 rfl (lv_at hl 0 rfl) ?_
          refine va_get (D := (dC, dI)) (ci := 7) (v := .ref (a 1)) (C := RX7) (T := TX7) (N := 16) hx hb hts iK7 hown hK hP 0 rfl rfl 0 (by decide) lk0 (fun _ h9 => h9) rfl dX7_set_54 ?_
          refine lv_iload_n hx hb dX7_set_57 rfl (lv_at hl 3 rfl) ?_
          refine lv_iconst (v := 1) hx hb dX7_set_58 (by decide) ?_
          have hFc := xfree_none hS hAe0
          refine va_calli (va_runS (As := [.int y34_3, .int 1]) (rest := [.ref (a 1), .int r50, .ref (a 1)]) ⟨hx, hb, hml, hown, hts⟩ (c_X7_of l dC dI cy  _ y34_3 1 _ hq) (va_cwS 2 hts gX7_set_X7_of rfl rfl rfl (by decide +kernel) ⟨Nat.le_of_ble_eq_true rfl, Nat.le_of_ble_eq_true rfl⟩) ⟨xPre_blind, xPre_of xP_nil hK (xD_nil (A := A))⟩ rfl rfl hl.1 rfl (lv_room (Nat.le_of_ble_eq_true rfl)) dX7_set_59 ⟨Nat.le_of_ble_eq_true rfl, Nat.le_of_ble_eq_true rfl⟩) hS (fun q _ h => hFc q h) hFc (fun r59 u9 t H locs ht hvm hq hB hz1 hk1 hS => ?_)
          have hP := xj_none hP hk1
          obtain ⟨g2, hq⟩ := hq
          refine va_iald hx hb hK hP 1 0 rfl rfl g2 dX7_set_62 ?_
          refine lv_iload_n hx hb dX7_set_63 rfl (lv_at hl 1 rfl) ?_
          obtain ⟨hqA, hqB⟩ := hq
          refine lv_icmp_le (tgt := 71) hx hb dX7_set_64 (by decide) (fun c6 => ?_) (fun c6 => ?_)
          · have hq := hqA c6
            refine lv_aload_n hx hb dX7_set_71 rfl (lv_at hl 0 rfl) ?_
            refine va_get (D := (dC, dI)) (ci := 7) (v := .ref (a 1)) (C := RX7) (T := TX7) (N := 16) hx hb hts iK7 hown hK hP 0 rfl rfl 0 (by decide) lk0 (fun _ h9 => h9) rfl dX7_set_72 ?_
            refine lv_iload_n hx hb dX7_set_75 rfl (lv_at hl 3 rfl) ?_
            refine lv_iconst (v := 1) hx hb dX7_set_76 (by decide) ?_
            have hFc := xfree_none hS hAe0
            refine va_calli (va_runS (As := [.int y34_3, .int 1]) (rest := [.ref (a 1), .int r50, .ref (a 1)]) ⟨hx, hb, hml, hown, hts⟩ (c_X7_of l dC dI cy  _ y34_3 1 _ hq) (va_cwS 2 hts gX7_set_X7_of rfl rfl rfl (by decide +kernel) ⟨Nat.le_of_ble_eq_true rfl, Nat.le_of_ble_eq_true rfl⟩) ⟨xPre_blind, xPre_of xP_nil hK (xD_nil (A := A))⟩ rfl rfl hl.1 rfl (lv_room (Nat.le_of_ble_eq_true rfl)) dX7_set_77 ⟨Nat.le_of_ble_eq_true rfl, Nat.le_of_ble_eq_true rfl⟩) hS (fun q _ h => hFc q h) hFc (fun r77 u9 t H locs ht hvm hq hB hz1 hk1 hS => ?_)
            have hP := xj_none hP hk1
            obtain ⟨g3, hq⟩ := hq
            refine va_iald hx hb hK hP 1 0 rfl rfl g3 dX7_set_80 ?_
            obtain ⟨g4, hq⟩ := hq
            refine va_iast hx hb hK hP hD hS 1 0 rfl rfl g4 dX7_set_81 (fun H locs hP hD hS => ?_)
            have hP : va_P (dC, dI) vwCl (cX7 cy a (upd z34_v_s r50.toNatClampNeg (z34_v_s r77.toNatClampNeg)) (X7_aside v) (X7_kept v) (X7_isKept v) z34_v_saved z34_v_savedMany (X7_text v) (X7_length v) z34_v_thrown (X7_joint v) (X7_position v) (X7_isWrong v) (X7_isHollow v) (X7_sure v) (X7_away v) (X7_digested v)) H := hP
            have hD : va_D A (cX7 cy a (upd z34_v_s r50.toNatClampNeg (z34_v_s r77.toNatClampNeg)) (X7_aside v) (X7_kept v) (X7_isKept v) z34_v_saved z34_v_savedMany (X7_text v) (X7_length v) z34_v_thrown (X7_joint v) (X7_position v) (X7_isWrong v) (X7_isHollow v) (X7_sure v) (X7_away v) (X7_digested v)) := hD
            refine lv_iinc (v := (y34_3 + 1)) (lv' := [(3, .int (y34_3 + 1)), (0, .ref (a 0)), (1, .int x1), (2, .int y34_2)]) hx hb dX7_set_82 hl (k := 3) rfl rfl (by decide) rfl (fun ls hl => ?_)
            refine lv_goto (tgt := 34) hx hb dX7_set_85 (by decide) ?_
            exact bk34 (y34_3 + 1) (upd z34_v_s r50.toNatClampNeg (z34_v_s r77.toNatClampNeg)) _ _ _ hq hP hD hS (lv_sub hl [1, 2, 3, 0] rfl)
          · have hq := hqB c6
            refine lv_iload_n hx hb dX7_set_67 rfl (lv_at hl 1 rfl) ?_
            refine lv_goto (tgt := 81) hx hb dX7_set_68 (by decide) ?_
            obtain ⟨g5, hq⟩ := hq
            refine va_iast hx hb hK hP hD hS 1 0 rfl rfl g5 dX7_set_81 (fun H locs hP hD hS => ?_)
            have hP : va_P (dC, dI) vwCl (cX7 cy a (upd z34_v_s r50.toNatClampNeg x1) (X7_aside v) (X7_kept v) (X7_isKept v) z34_v_saved z34_v_savedMany (X7_text v) (X7_length v) z34_v_thrown (X7_joint v) (X7_position v) (X7_isWrong v) (X7_isHollow v) (X7_sure v) (X7_away v) (X7_digested v)) H := hP
            have hD : va_D A (cX7 cy a (upd z34_v_s r50.toNatClampNeg x1) (X7_aside v) (X7_kept v) (X7_isKept v) z34_v_saved z34_v_savedMany (X7_text v) (X7_length v) z34_v_thrown (X7_joint v) (X7_position v) (X7_isWrong v) (X7_isHollow v) (X7_sure v) (X7_away v) (X7_digested v)) := hD
            refine lv_iinc (v := (y34_3 + 1)) (lv' := [(3, .int (y34_3 + 1)), (0, .ref (a 0)), (1, .int x1), (2, .int y34_2)]) hx hb dX7_set_82 hl (k := 3) rfl rfl (by decide) rfl (fun ls hl => ?_)
            refine lv_goto (tgt := 34) hx hb dX7_set_85 (by decide) ?_
            exact bk34 (y34_3 + 1) (upd z34_v_s r50.toNatClampNeg x1) _ _ _ hq hP hD hS (lv_sub hl [1, 2, 3, 0] rfl)
    exact key _ y34_3 z34_v_s H locs ls h0 (Nat.lt_succ_self _) hP hD hS hl
  have J16 : ∀ (k16_0 : Int32) (H : Heap) (locs : List Loc) (ls : Array Slot), wp_X7_set_16 v x1 k16_0 Q → va_P (dC, dI) vwCl (wX7 cy a v) H → va_D A (wX7 cy a v) → va_S A s.heap H locs → lv_has ls 4 [(0, .ref (a 0)), (1, .int x1)] → W p l e (headSpec wsX7_set ({ frames := 2, cells := 0, slots := 0, locals := 44 } : Room)).room s m ([.ref (a 0), .int x1] : List Value).toArray below meth c H locs 0 0 (MQ below (q_X7_set dC dI cy a v x1 Q A) ([.ref (a 0), .int x1] : List Value).toArray s 0 0 A) (F0 m 16 ls [.int k16_0, .ref (a 0)]) := by
    intro k16_0 H locs ls hq hP hD hS hl
    unfold wp_X7_set_16 at hq
    have hFc := xfree_same hS hAe0 (ws := (wX7 cy a v)) hD
    refine va_calli (va_runV (As := [.int k16_0]) (rest := []) ⟨hx, hb, hml, hown, hts⟩ (c_X7_holds l dC dI cy a _ v k16_0 _ hq) (cwV 1 hts gX7_set_X7_holds rfl rfl rfl (by decide +kernel) ⟨Nat.le_of_ble_eq_true rfl, Nat.le_of_ble_eq_true rfl⟩) ⟨xPre_blind, va_recv hK hP (ci := 7) (q0 := 0) rfl rfl, xPre_of hP hK hD⟩ rfl rfl hl.1 rfl (lv_room (Nat.le_of_ble_eq_true rfl)) dX7_set_16 ⟨Nat.le_of_ble_eq_true rfl, Nat.le_of_ble_eq_true rfl⟩) hS (fun q _ h => hFc q h) hFc (fun r16 z16_v_thrown t H locs ht hvm hq hB hz1 hk1 hS => ?_)
    obtain ⟨hP1, -, hD1⟩ := hB
    rw [ht] at hP1
    have hP : va_P (dC, dI) vwCl (cX7 cy a (X7_s v) (X7_aside v) (X7_kept v) (X7_isKept v) (X7_saved v) (X7_savedMany v) (X7_text v) (X7_length v) z16_v_thrown (X7_joint v) (X7_position v) (X7_isWrong v) (X7_isHollow v) (X7_sure v) (X7_away v) (X7_digested v)) H := hP1
    have hD : va_D A (cX7 cy a (X7_s v) (X7_aside v) (X7_kept v) (X7_isKept v) (X7_saved v) (X7_savedMany v) (X7_text v) (X7_length v) z16_v_thrown (X7_joint v) (X7_position v) (X7_isWrong v) (X7_isHollow v) (X7_sure v) (X7_away v) (X7_digested v)) := hD1.weaken (fun _ q _ h => hFc q.1 h)
    obtain ⟨hqA, hqB⟩ := hq
    refine lv_if_ne (tgt := 24) hx hb dX7_set_19 (by decide) (fun c8 => ?_) (fun c8 => ?_)
    · have hq := hqB c8
      refine lv_aload_n hx hb dX7_set_24 rfl (lv_at hl 0 rfl) ?_
      refine lv_bipush (v := 6) hx hb dX7_set_25 (by decide) ?_
      refine lv_iload_n hx hb dX7_set_27 rfl (lv_at hl 1 rfl) ?_
      have hFc := xfree_same hS hAe0 (ws := (cX7 cy a (X7_s v) (X7_aside v) (X7_kept v) (X7_isKept v) (X7_saved v) (X7_savedMany v) (X7_text v) (X7_length v) z16_v_thrown (X7_joint v) (X7_position v) (X7_isWrong v) (X7_isHollow v) (X7_sure v) (X7_away v) (X7_digested v))) hD
      refine va_calli (va_runV (As := [.int 6, .int x1]) (rest := []) ⟨hx, hb, hml, hown, hts⟩ (c_X7_lays l dC dI cy a _ (X7_s8 v z16_v_thrown) 6 x1 _ hq) (cwV 2 hts gX7_set_X7_lays rfl rfl rfl (by decide +kernel) ⟨Nat.le_of_ble_eq_true rfl, Nat.le_of_ble_eq_true rfl⟩) ⟨xPre_blind, va_recv hK hP (ci := 7) (q0 := 0) rfl rfl, xPre_of hP hK hD⟩ rfl rfl hl.1 rfl (lv_room (Nat.le_of_ble_eq_true rfl)) dX7_set_28 ⟨Nat.le_of_ble_eq_true rfl, Nat.le_of_ble_eq_true rfl⟩) hS (fun q _ h => hFc q h) hFc (fun r28 u9 t H locs ht hvm hq hB hz1 hk1 hS => ?_)
      obtain ⟨z28_v_s, z28_v_saved, z28_v_savedMany⟩ := u9
      obtain ⟨hP1, -, hD1⟩ := hB
      rw [ht] at hP1
      have hP : va_P (dC, dI) vwCl (cX7 cy a z28_v_s (X7_aside v) (X7_kept v) (X7_isKept v) z28_v_saved z28_v_savedMany (X7_text v) (X7_length v) z16_v_thrown (X7_joint v) (X7_position v) (X7_isWrong v) (X7_isHollow v) (X7_sure v) (X7_away v) (X7_digested v)) H := hP1
      have hD : va_D A (cX7 cy a z28_v_s (X7_aside v) (X7_kept v) (X7_isKept v) z28_v_saved z28_v_savedMany (X7_text v) (X7_length v) z16_v_thrown (X7_joint v) (X7_position v) (X7_isWrong v) (X7_isHollow v) (X7_sure v) (X7_away v) (X7_digested v)) := hD1.weaken (fun _ q _ h => hFc q.1 h)
      refine lv_istore_n (lv' := [(2, .int r28), (0, .ref (a 0)), (1, .int x1)]) hx hb dX7_set_31 rfl hl (by decide) rfl (fun ls hl => ?_)
      refine lv_iconst (v := 0) hx hb dX7_set_32 (by decide) ?_
      refine lv_istore_n (lv' := [(3, .int 0), (2, .int r28), (0, .ref (a 0)), (1, .int x1)]) hx hb dX7_set_33 rfl hl (by decide) rfl (fun ls hl => ?_)
      exact J34 r28 z28_v_saved z28_v_savedMany z16_v_thrown 0 z28_v_s _ _ _ hq hP hD hS (lv_sub hl [2, 3, 1, 0] rfl)
    · have hq := hqA c8
      refine lv_iconst (v := 0) hx hb dX7_set_22 (by decide) ?_
      exact W.iret (v := 0) hx hb hr (fun t ht hW => ⟨⟨0, ((X7_s v), (X7_saved v), (X7_savedMany v), z16_v_thrown), rfl, hq, (xAt_of hP hK hD ht hW)⟩, hS.F ht⟩) hS.2.2 dX7_set_23
  refine lv_aload_n hx hb dX7_set_0 rfl (lv_at hl 0 rfl) ?_
  refine lv_iload_n hx hb dX7_set_1 rfl (lv_at hl 1 rfl) ?_
  refine lv_iconst (v := 2) hx hb dX7_set_2 (by decide) ?_
  refine lv_bipush (v := 20) hx hb dX7_set_3 (by decide) ?_
  have hFc := xfree_none hS hAe0
  refine va_calli (va_runS (As := [.int x1, .int 2, .int 20]) (rest := [.ref (a 0)]) ⟨hx, hb, hml, hown, hts⟩ (c_X7_in l dC dI cy  _ x1 2 20 _ hq) (va_cwS 3 hts gX7_set_X7_in rfl rfl rfl (by decide +kernel) ⟨Nat.le_of_ble_eq_true rfl, Nat.le_of_ble_eq_true rfl⟩) ⟨xPre_blind, xPre_of xP_nil hK (xD_nil (A := A))⟩ rfl rfl hl.1 rfl (lv_room (Nat.le_of_ble_eq_true rfl)) dX7_set_5 ⟨Nat.le_of_ble_eq_true rfl, Nat.le_of_ble_eq_true rfl⟩) hS (fun q _ h => hFc q h) hFc (fun r5 u9 t H locs ht hvm hq hB hz1 hk1 hS => ?_)
  have hP := xj_none hP hk1
  obtain ⟨hqA, hqB⟩ := hq
  refine lv_if_eq (tgt := 15) hx hb dX7_set_8 (by decide) (fun c9 => ?_) (fun c9 => ?_)
  · have hq := hqA c9
    refine lv_iconst (v := 1) hx hb dX7_set_15 (by decide) ?_
    exact J16 1  _ _ _ hq hP hD hS (lv_sub hl [0, 1] rfl)
  · have hq := hqB c9
    refine lv_iconst (v := 0) hx hb dX7_set_11 (by decide) ?_
    refine lv_goto (tgt := 16) hx hb dX7_set_12 (by decide) ?_
    exact J16 0  _ _ _ hq hP hD hS (lv_sub hl [0, 1] rfl)
def wp_X7_append_30 (v : V_X7) (x1 : Int32) (k30_0 : Int32) (Q : Int32 → Int32 → (Nat → Int32) → Int32 → Prop) : Prop :=
  wp_X7_holds v k30_0 (fun r30 z30_v_thrown =>
  ((r30 = 0 → Q 0 (X7_length v) (X7_text v) z30_v_thrown) ∧
  (¬ r30 = 0 → vp_in (X7_length v) 60 ∧ Q ((X7_length v) + 1) ((X7_length v) + 1) (upd (X7_text v) (X7_length v).toNatClampNeg x1) z30_v_thrown)))
def wp_X7_append (v : V_X7) (x1 : Int32) (Q : Int32 → Int32 → (Nat → Int32) → Int32 → Prop) : Prop :=
  wp_X7_in x1 33 126 (fun r6 =>
  ((r6 = 0 → wp_X7_append_30 v x1 1  Q) ∧
  (¬ r6 = 0 → (((X7_length v) = 60 → wp_X7_append_30 v x1 2  Q) ∧
  (¬ (X7_length v) = 60 → wp_X7_append_30 v x1 0  Q)))))
def q_X7_append (dC : Nat → ClassId) (dI : Nat → Nat → Nat) (cy : Nat → ClassId) (a : Nat → Nat) (v : V_X7) (x1 : Int32) (Q : Int32 → Int32 → (Nat → Int32) → Int32 → Prop) (A : Nat → Prop) : Array Value → State → Outcome → State → Prop := va_Qi (fun (r : Int32) (u : Int32 × (Nat → Int32) × Int32) => Q r u.1 u.2.1 u.2.2) (fun (u : Int32 × (Nat → Int32) × Int32) t => xAt dC dI cy A (cX7 cy a (X7_s v) (X7_aside v) (X7_kept v) (X7_isKept v) (X7_saved v) (X7_savedMany v) u.2.1 u.1 u.2.2 (X7_joint v) (X7_position v) (X7_isWrong v) (X7_isHollow v) (X7_sure v) (X7_away v) (X7_digested v)) t) A
set_option maxHeartbeats 4000000 in
set_option maxRecDepth 100000 in
theorem c_X7_append (l : Launch) (dC : Nat → ClassId) (dI : Nat → Nat → Nat) (cy : Nat → ClassId) (a : Nat → Nat) (sz : Nat) (v : V_X7) (x1 : Int32) (Q : Int32 → Int32 → (Nat → Int32) → Int32 → Prop) (hq : wp_X7_append v x1 Q) : Met l yX7_append wsX7_append ({ frames := 1, cells := 0, slots := 0, locals := 22 } : Room) (va_Pc [.ref (a 0), .int x1] (xPre dC dI cy (wX7 cy a v) sz)) (q_X7_append dC dI cy a v x1 Q (va_A (wX7 cy a v) sz)) 0 0 (va_A (wX7 cy a v) sz) := by
  refine Met.ofW (cc := cX7_append) (maxL := 2) (ret := (some .int)) (by decide) rfl ?_
  intro p e s m args below meth c s₁ B hml hv
  obtain ⟨rfl, hsz, hP, hK, hD0⟩ := hv
  have hx := B.exec
  have hb := B.bytes
  have hr := B.returns
  have hts := atoms_spec (ws := wsX7_append) B.pre
  have hown : s.vm.findClass RX7 = some m.cls := findClass_of_methodNamed B.named
  have hlocks := B.notSynchronized
  subst hsz
  have hD := hD0.self (sz := s.heap.size)
  generalize hAe : va_A (wX7 cy a v) s.heap.size = A at hD ⊢
  have hAe0 : ∀ q : Nat, s.heap.size ≤ q → A q := fun q h => by rw [← hAe]; exact Or.inr h
  have hS : va_S A s.heap s.heap [] := va_S.rf
  have hl := lv_entry ([.ref (a 0), .int x1]) (n := 2) (Nat.le_of_ble_eq_true rfl)
  rw [lg_entry_eq]
  generalize (lg_sl ([.ref (a 0), .int x1]) ++ List.replicate (2 - (lg_sl ([.ref (a 0), .int x1])).length) Slot.unset).toArray = ls at hl ⊢
  have hl : lv_has ls 2 [(0, .ref (a 0)), (1, .int x1)] := hl
  have lk0 := hts (Cond.fieldLink RX7 22 "MolesLawnModel" "text" "[I") (List.mem_cons_of_mem _ (List.mem_append_left _ (List.mem_of_getElem? (i := 1) rfl)))
  have lk1 := hts (Cond.fieldLink RX7 167 "MolesLawnModel" "length" "I") (List.mem_cons_of_mem _ (List.mem_append_left _ (List.mem_of_getElem? (i := 0) rfl)))
  have iK7 : ∀ w ∈ wsX70, w ∈ wsX7_append := fun _ h => (List.mem_cons_of_mem _ (List.mem_append_right _ h))
  unfold wp_X7_append at hq
  have J30 : ∀ (k30_0 : Int32) (H : Heap) (locs : List Loc) (ls : Array Slot), wp_X7_append_30 v x1 k30_0 Q → va_P (dC, dI) vwCl (wX7 cy a v) H → va_D A (wX7 cy a v) → va_S A s.heap H locs → lv_has ls 2 [(0, .ref (a 0)), (1, .int x1)] → W p l e (headSpec wsX7_append ({ frames := 1, cells := 0, slots := 0, locals := 22 } : Room)).room s m ([.ref (a 0), .int x1] : List Value).toArray below meth c H locs 0 0 (MQ below (q_X7_append dC dI cy a v x1 Q A) ([.ref (a 0), .int x1] : List Value).toArray s 0 0 A) (F0 m 30 ls [.int k30_0, .ref (a 0)]) := by
    intro k30_0 H locs ls hq hP hD hS hl
    unfold wp_X7_append_30 at hq
    have hFc := xfree_same hS hAe0 (ws := (wX7 cy a v)) hD
    refine va_calli (va_runV (As := [.int k30_0]) (rest := []) ⟨hx, hb, hml, hown, hts⟩ (c_X7_holds l dC dI cy a _ v k30_0 _ hq) (cwV 1 hts gX7_append_X7_holds rfl rfl rfl (by decide +kernel) ⟨Nat.le_of_ble_eq_true rfl, Nat.le_of_ble_eq_true rfl⟩) ⟨xPre_blind, va_recv hK hP (ci := 7) (q0 := 0) rfl rfl, xPre_of hP hK hD⟩ rfl rfl hl.1 rfl (lv_room (Nat.le_of_ble_eq_true rfl)) dX7_append_30 ⟨Nat.le_of_ble_eq_true rfl, Nat.le_of_ble_eq_true rfl⟩) hS (fun q _ h => hFc q h) hFc (fun r30 z30_v_thrown t H locs ht hvm hq hB hz1 hk1 hS => ?_)
    obtain ⟨hP1, -, hD1⟩ := hB
    rw [ht] at hP1
    have hP : va_P (dC, dI) vwCl (cX7 cy a (X7_s v) (X7_aside v) (X7_kept v) (X7_isKept v) (X7_saved v) (X7_savedMany v) (X7_text v) (X7_length v) z30_v_thrown (X7_joint v) (X7_position v) (X7_isWrong v) (X7_isHollow v) (X7_sure v) (X7_away v) (X7_digested v)) H := hP1
    have hD : va_D A (cX7 cy a (X7_s v) (X7_aside v) (X7_kept v) (X7_isKept v) (X7_saved v) (X7_savedMany v) (X7_text v) (X7_length v) z30_v_thrown (X7_joint v) (X7_position v) (X7_isWrong v) (X7_isHollow v) (X7_sure v) (X7_away v) (X7_digested v)) := hD1.weaken (fun _ q _ h => hFc q.1 h)
    obtain ⟨hqA, hqB⟩ := hq
    refine lv_if_ne (tgt := 38) hx hb dX7_append_33 (by decide) (fun c2 => ?_) (fun c2 => ?_)
    · have hq := hqB c2
      refine lv_aload_n hx hb dX7_append_38 rfl (lv_at hl 0 rfl) ?_
      refine va_get (D := (dC, dI)) (ci := 7) (v := .ref (a 5)) (C := RX7) (T := TX7) (N := 16) hx hb hts iK7 hown hK hP 0 rfl rfl 6 (by decide) lk0 (fun _ h9 => h9) rfl dX7_append_39 ?_
      refine lv_aload_n hx hb dX7_append_42 rfl (lv_at hl 0 rfl) ?_
      refine va_get (D := (dC, dI)) (ci := 7) (v := .int (X7_length v)) (C := RX7) (T := TX7) (N := 16) hx hb hts iK7 hown hK hP 0 rfl rfl 7 (by decide) lk1 (fun _ h9 => h9) rfl dX7_append_43 ?_
      refine lv_iload_n hx hb dX7_append_46 rfl (lv_at hl 1 rfl) ?_
      obtain ⟨g1, hq⟩ := hq
      refine va_iast hx hb hK hP hD hS 5 0 rfl rfl g1 dX7_append_47 (fun H locs hP hD hS => ?_)
      have hP : va_P (dC, dI) vwCl (cX7 cy a (X7_s v) (X7_aside v) (X7_kept v) (X7_isKept v) (X7_saved v) (X7_savedMany v) (upd (X7_text v) (X7_length v).toNatClampNeg x1) (X7_length v) z30_v_thrown (X7_joint v) (X7_position v) (X7_isWrong v) (X7_isHollow v) (X7_sure v) (X7_away v) (X7_digested v)) H := hP
      have hD : va_D A (cX7 cy a (X7_s v) (X7_aside v) (X7_kept v) (X7_isKept v) (X7_saved v) (X7_savedMany v) (upd (X7_text v) (X7_length v).toNatClampNeg x1) (X7_length v) z30_v_thrown (X7_joint v) (X7_position v) (X7_isWrong v) (X7_isHollow v) (X7_sure v) (X7_away v) (X7_digested v)) := hD
      refine lv_aload_n hx hb dX7_append_48 rfl (lv_at hl 0 rfl) ?_
      refine lv_dup hx hb dX7_append_49 rfl ?_
      refine va_get (D := (dC, dI)) (ci := 7) (v := .int (X7_length v)) (C := RX7) (T := TX7) (N := 16) hx hb hts iK7 hown hK hP 0 rfl rfl 7 (by decide) lk1 (fun _ h9 => h9) rfl dX7_append_50 ?_
      refine lv_iconst (v := 1) hx hb dX7_append_53 (by decide) ?_
      refine lv_iadd hx hb dX7_append_54 ?_
      refine va_put (D := (dC, dI)) (ci := 7) (v := .int ((X7_length v) + 1)) (ty := .int) (C := RX7) (T := TX7) (N := 16) hx hb hts iK7 tyX7 tyX7_ok nmX7 hown hK hP hD hS 0 rfl rfl 7 (by decide) lk1 (fun _ h9 => h9) rfl (by decide +kernel) rfl rfl (Nat.le_of_ble_eq_true rfl) dX7_append_55 (fun H locs hP hD hS => ?_)
      have hP : va_P (dC, dI) vwCl (cX7 cy a (X7_s v) (X7_aside v) (X7_kept v) (X7_isKept v) (X7_saved v) (X7_savedMany v) (upd (X7_text v) (X7_length v).toNatClampNeg x1) ((X7_length v) + 1) z30_v_thrown (X7_joint v) (X7_position v) (X7_isWrong v) (X7_isHollow v) (X7_sure v) (X7_away v) (X7_digested v)) H := hP
      have hD : va_D A (cX7 cy a (X7_s v) (X7_aside v) (X7_kept v) (X7_isKept v) (X7_saved v) (X7_savedMany v) (upd (X7_text v) (X7_length v).toNatClampNeg x1) ((X7_length v) + 1) z30_v_thrown (X7_joint v) (X7_position v) (X7_isWrong v) (X7_isHollow v) (X7_sure v) (X7_away v) (X7_digested v)) := hD
      refine lv_aload_n hx hb dX7_append_58 rfl (lv_at hl 0 rfl) ?_
      refine va_get (D := (dC, dI)) (ci := 7) (v := .int ((X7_length v) + 1)) (C := RX7) (T := TX7) (N := 16) hx hb hts iK7 hown hK hP 0 rfl rfl 7 (by decide) lk1 (fun _ h9 => h9) rfl dX7_append_59 ?_
      exact W.iret (v := ((X7_length v) + 1)) hx hb hr (fun t ht hW => ⟨⟨((X7_length v) + 1), (((X7_length v) + 1), (upd (X7_text v) (X7_length v).toNatClampNeg x1), z30_v_thrown), rfl, hq, (xAt_of hP hK hD ht hW)⟩, hS.F ht⟩) hS.2.2 dX7_append_62
    · have hq := hqA c2
      refine lv_iconst (v := 0) hx hb dX7_append_36 (by decide) ?_
      exact W.iret (v := 0) hx hb hr (fun t ht hW => ⟨⟨0, ((X7_length v), (X7_text v), z30_v_thrown), rfl, hq, (xAt_of hP hK hD ht hW)⟩, hS.F ht⟩) hS.2.2 dX7_append_37
  refine lv_aload_n hx hb dX7_append_0 rfl (lv_at hl 0 rfl) ?_
  refine lv_iload_n hx hb dX7_append_1 rfl (lv_at hl 1 rfl) ?_
  refine lv_bipush (v := 33) hx hb dX7_append_2 (by decide) ?_
  refine lv_bipush (v := 126) hx hb dX7_append_4 (by decide) ?_
  have hFc := xfree_none hS hAe0
  refine va_calli (va_runS (As := [.int x1, .int 33, .int 126]) (rest := [.ref (a 0)]) ⟨hx, hb, hml, hown, hts⟩ (c_X7_in l dC dI cy  _ x1 33 126 _ hq) (va_cwS 3 hts gX7_append_X7_in rfl rfl rfl (by decide +kernel) ⟨Nat.le_of_ble_eq_true rfl, Nat.le_of_ble_eq_true rfl⟩) ⟨xPre_blind, xPre_of xP_nil hK (xD_nil (A := A))⟩ rfl rfl hl.1 rfl (lv_room (Nat.le_of_ble_eq_true rfl)) dX7_append_6 ⟨Nat.le_of_ble_eq_true rfl, Nat.le_of_ble_eq_true rfl⟩) hS (fun q _ h => hFc q h) hFc (fun r6 u9 t H locs ht hvm hq hB hz1 hk1 hS => ?_)
  have hP := xj_none hP hk1
  obtain ⟨hqA, hqB⟩ := hq
  refine lv_if_ne (tgt := 16) hx hb dX7_append_9 (by decide) (fun c4 => ?_) (fun c4 => ?_)
  · have hq := hqB c4
    refine lv_aload_n hx hb dX7_append_16 rfl (lv_at hl 0 rfl) ?_
    refine va_get (D := (dC, dI)) (ci := 7) (v := .int (X7_length v)) (C := RX7) (T := TX7) (N := 16) hx hb hts iK7 hown hK hP 0 rfl rfl 7 (by decide) lk1 (fun _ h9 => h9) rfl dX7_append_17 ?_
    refine lv_bipush (v := 60) hx hb dX7_append_20 (by decide) ?_
    obtain ⟨hqA, hqB⟩ := hq
    refine lv_icmp_ne (tgt := 29) hx hb dX7_append_22 (by decide) (fun c3 => ?_) (fun c3 => ?_)
    · have hq := hqB c3
      refine lv_iconst (v := 0) hx hb dX7_append_29 (by decide) ?_
      exact J30 0  _ _ _ hq hP hD hS (lv_sub hl [0, 1] rfl)
    · have hq := hqA c3
      refine lv_iconst (v := 2) hx hb dX7_append_25 (by decide) ?_
      refine lv_goto (tgt := 30) hx hb dX7_append_26 (by decide) ?_
      exact J30 2  _ _ _ hq hP hD hS (lv_sub hl [0, 1] rfl)
  · have hq := hqA c4
    refine lv_iconst (v := 1) hx hb dX7_append_12 (by decide) ?_
    refine lv_goto (tgt := 30) hx hb dX7_append_13 (by decide) ?_
    exact J30 1  _ _ _ hq hP hD hS (lv_sub hl [0, 1] rfl)
def wp_X7_clearBuffer (v : V_X7) (Q : Int32 → Int32 → Int32 → Prop) : Prop :=
  Q (X7_length v) 0 0
def q_X7_clearBuffer (dC : Nat → ClassId) (dI : Nat → Nat → Nat) (cy : Nat → ClassId) (a : Nat → Nat) (v : V_X7) (Q : Int32 → Int32 → Int32 → Prop) (A : Nat → Prop) : Array Value → State → Outcome → State → Prop := va_Qi (fun (r : Int32) (u : Int32 × Int32) => Q r u.1 u.2) (fun (u : Int32 × Int32) t => xAt dC dI cy A (cX7 cy a (X7_s v) (X7_aside v) (X7_kept v) (X7_isKept v) (X7_saved v) (X7_savedMany v) (X7_text v) u.1 u.2 (X7_joint v) (X7_position v) (X7_isWrong v) (X7_isHollow v) (X7_sure v) (X7_away v) (X7_digested v)) t) A
set_option maxHeartbeats 4000000 in
set_option maxRecDepth 100000 in
theorem c_X7_clearBuffer (l : Launch) (dC : Nat → ClassId) (dI : Nat → Nat → Nat) (cy : Nat → ClassId) (a : Nat → Nat) (sz : Nat) (v : V_X7) (Q : Int32 → Int32 → Int32 → Prop) (hq : wp_X7_clearBuffer v Q) : Met l yX7_clearBuffer wsX7_clearBuffer ({ frames := 0, cells := 0, slots := 0, locals := 0 } : Room) (va_Pc [.ref (a 0)] (xPre dC dI cy (wX7 cy a v) sz)) (q_X7_clearBuffer dC dI cy a v Q (va_A (wX7 cy a v) sz)) 0 0 (va_A (wX7 cy a v) sz) := by
  refine Met.ofW (cc := cX7_clearBuffer) (maxL := 2) (ret := (some .int)) (by decide) rfl ?_
  intro p e s m args below meth c s₁ B hml hv
  obtain ⟨rfl, hsz, hP, hK, hD0⟩ := hv
  have hx := B.exec
  have hb := B.bytes
  have hr := B.returns
  have hts := atoms_spec (ws := wsX7_clearBuffer) B.pre
  have hown : s.vm.findClass RX7 = some m.cls := findClass_of_methodNamed B.named
  have hlocks := B.notSynchronized
  subst hsz
  have hD := hD0.self (sz := s.heap.size)
  generalize hAe : va_A (wX7 cy a v) s.heap.size = A at hD ⊢
  have hAe0 : ∀ q : Nat, s.heap.size ≤ q → A q := fun q h => by rw [← hAe]; exact Or.inr h
  have hS : va_S A s.heap s.heap [] := va_S.rf
  have hl := lv_entry ([.ref (a 0)]) (n := 2) (Nat.le_of_ble_eq_true rfl)
  rw [lg_entry_eq]
  generalize (lg_sl ([.ref (a 0)]) ++ List.replicate (2 - (lg_sl ([.ref (a 0)])).length) Slot.unset).toArray = ls at hl ⊢
  have hl : lv_has ls 2 [(0, .ref (a 0))] := hl
  have lk0 := hts (Cond.fieldLink RX7 38 "MolesLawnModel" "thrown" "I") (List.mem_cons_of_mem _ (List.mem_append_left _ (List.mem_of_getElem? (i := 0) rfl)))
  have lk1 := hts (Cond.fieldLink RX7 167 "MolesLawnModel" "length" "I") (List.mem_cons_of_mem _ (List.mem_append_left _ (List.mem_of_getElem? (i := 1) rfl)))
  have iK7 : ∀ w ∈ wsX70, w ∈ wsX7_clearBuffer := fun _ h => (List.mem_cons_of_mem _ (List.mem_append_right _ h))
  unfold wp_X7_clearBuffer at hq
  refine lv_aload_n hx hb dX7_clearBuffer_0 rfl (lv_at hl 0 rfl) ?_
  refine lv_iconst (v := 0) hx hb dX7_clearBuffer_1 (by decide) ?_
  refine va_put (D := (dC, dI)) (ci := 7) (v := .int 0) (ty := .int) (C := RX7) (T := TX7) (N := 16) hx hb hts iK7 tyX7 tyX7_ok nmX7 hown hK hP hD hS 0 rfl rfl 8 (by decide) lk0 (fun _ h9 => h9) rfl (by decide +kernel) rfl rfl (Nat.le_of_ble_eq_true rfl) dX7_clearBuffer_2 (fun H locs hP hD hS => ?_)
  have hP : va_P (dC, dI) vwCl (cX7 cy a (X7_s v) (X7_aside v) (X7_kept v) (X7_isKept v) (X7_saved v) (X7_savedMany v) (X7_text v) (X7_length v) 0 (X7_joint v) (X7_position v) (X7_isWrong v) (X7_isHollow v) (X7_sure v) (X7_away v) (X7_digested v)) H := hP
  have hD : va_D A (cX7 cy a (X7_s v) (X7_aside v) (X7_kept v) (X7_isKept v) (X7_saved v) (X7_savedMany v) (X7_text v) (X7_length v) 0 (X7_joint v) (X7_position v) (X7_isWrong v) (X7_isHollow v) (X7_sure v) (X7_away v) (X7_digested v)) := hD
  refine lv_aload_n hx hb dX7_clearBuffer_5 rfl (lv_at hl 0 rfl) ?_
  refine va_get (D := (dC, dI)) (ci := 7) (v := .int (X7_length v)) (C := RX7) (T := TX7) (N := 16) hx hb hts iK7 hown hK hP 0 rfl rfl 7 (by decide) lk1 (fun _ h9 => h9) rfl dX7_clearBuffer_6 ?_
  refine lv_istore_n (lv' := [(1, .int (X7_length v)), (0, .ref (a 0))]) hx hb dX7_clearBuffer_9 rfl hl (by decide) rfl (fun ls hl => ?_)
  refine lv_aload_n hx hb dX7_clearBuffer_10 rfl (lv_at hl 1 rfl) ?_
  refine lv_iconst (v := 0) hx hb dX7_clearBuffer_11 (by decide) ?_
  refine va_put (D := (dC, dI)) (ci := 7) (v := .int 0) (ty := .int) (C := RX7) (T := TX7) (N := 16) hx hb hts iK7 tyX7 tyX7_ok nmX7 hown hK hP hD hS 0 rfl rfl 7 (by decide) lk1 (fun _ h9 => h9) rfl (by decide +kernel) rfl rfl (Nat.le_of_ble_eq_true rfl) dX7_clearBuffer_12 (fun H locs hP hD hS => ?_)
  have hP : va_P (dC, dI) vwCl (cX7 cy a (X7_s v) (X7_aside v) (X7_kept v) (X7_isKept v) (X7_saved v) (X7_savedMany v) (X7_text v) 0 0 (X7_joint v) (X7_position v) (X7_isWrong v) (X7_isHollow v) (X7_sure v) (X7_away v) (X7_digested v)) H := hP
  have hD : va_D A (cX7 cy a (X7_s v) (X7_aside v) (X7_kept v) (X7_isKept v) (X7_saved v) (X7_savedMany v) (X7_text v) 0 0 (X7_joint v) (X7_position v) (X7_isWrong v) (X7_isHollow v) (X7_sure v) (X7_away v) (X7_digested v)) := hD
  refine lv_iload_n hx hb dX7_clearBuffer_15 rfl (lv_at hl 0 rfl) ?_
  exact W.iret (v := (X7_length v)) hx hb hr (fun t ht hW => ⟨⟨(X7_length v), (0, 0), rfl, hq, (xAt_of hP hK hD ht hW)⟩, hS.F ht⟩) hS.2.2 dX7_clearBuffer_16
def wp_X7_directionOf (x0 : Int32) (Q : Int32 → Prop) : Prop :=
  ((x0 = 110 → Q 0) ∧
  (¬ x0 = 110 → ((x0 = 101 → Q 1) ∧
  (¬ x0 = 101 → ((x0 = 115 → Q 2) ∧
  (¬ x0 = 115 → ((x0 = 119 → Q 3) ∧
  (¬ x0 = 119 → Q (-1)))))))))
def q_X7_directionOf (dC : Nat → ClassId) (dI : Nat → Nat → Nat) (cy : Nat → ClassId)  (x0 : Int32) (Q : Int32 → Prop) (A : Nat → Prop) : Array Value → State → Outcome → State → Prop := va_Qi (fun (r : Int32) (u : Unit) => Q r ) (fun (u : Unit) t => xAt dC dI cy A ([] : va_W) t) A
set_option maxHeartbeats 4000000 in
set_option maxRecDepth 100000 in
theorem c_X7_directionOf (l : Launch) (dC : Nat → ClassId) (dI : Nat → Nat → Nat) (cy : Nat → ClassId)  (sz : Nat) (x0 : Int32) (Q : Int32 → Prop) (hq : wp_X7_directionOf x0 Q) : Met l yX7_directionOf wsX7_directionOf ({ frames := 0, cells := 0, slots := 0, locals := 0 } : Room) (va_Pc [.int x0] (xPre dC dI cy ([] : va_W) sz)) (q_X7_directionOf dC dI cy  x0 Q (va_A ([] : va_W) sz)) 0 0 (va_A ([] : va_W) sz) := by
  refine Met.ofW (cc := cX7_directionOf) (maxL := 1) (ret := (some .int)) (by decide) rfl ?_
  intro p e s m args below meth c s₁ B hml hv
  obtain ⟨rfl, hsz, hP, hK, hD0⟩ := hv
  have hx := B.exec
  have hb := B.bytes
  have hr := B.returns
  have hts := atoms_spec (ws := wsX7_directionOf) B.pre
  have hown : s.vm.findClass RX7 = some m.cls := findClass_of_methodNamed B.named
  have hlocks := B.notSynchronized
  subst hsz
  have hD := hD0.self (sz := s.heap.size)
  generalize hAe : va_A ([] : va_W) s.heap.size = A at hD ⊢
  have hAe0 : ∀ q : Nat, s.heap.size ≤ q → A q := fun q h => by rw [← hAe]; exact Or.inr h
  have hS : va_S A s.heap s.heap [] := va_S.rf
  have hl := lv_entry ([.int x0]) (n := 1) (Nat.le_of_ble_eq_true rfl)
  rw [lg_entry_eq]
  generalize (lg_sl ([.int x0]) ++ List.replicate (1 - (lg_sl ([.int x0])).length) Slot.unset).toArray = ls at hl ⊢
  have hl : lv_has ls 1 [(0, .int x0)] := hl
  unfold wp_X7_directionOf at hq
  refine lv_iload_n hx hb dX7_directionOf_0 rfl (lv_at hl 0 rfl) ?_
  refine lv_bipush (v := 110) hx hb dX7_directionOf_1 (by decide) ?_
  obtain ⟨hqA, hqB⟩ := hq
  refine lv_icmp_ne (tgt := 10) hx hb dX7_directionOf_3 (by decide) (fun c4 => ?_) (fun c4 => ?_)
  · have hq := hqB c4
    refine lv_iload_n hx hb dX7_directionOf_10 rfl (lv_at hl 0 rfl) ?_
    refine lv_bipush (v := 101) hx hb dX7_directionOf_11 (by decide) ?_
    obtain ⟨hqA, hqB⟩ := hq
    refine lv_icmp_ne (tgt := 20) hx hb dX7_directionOf_13 (by decide) (fun c3 => ?_) (fun c3 => ?_)
    · have hq := hqB c3
      refine lv_iload_n hx hb dX7_directionOf_20 rfl (lv_at hl 0 rfl) ?_
      refine lv_bipush (v := 115) hx hb dX7_directionOf_21 (by decide) ?_
      obtain ⟨hqA, hqB⟩ := hq
      refine lv_icmp_ne (tgt := 30) hx hb dX7_directionOf_23 (by decide) (fun c2 => ?_) (fun c2 => ?_)
      · have hq := hqB c2
        refine lv_iload_n hx hb dX7_directionOf_30 rfl (lv_at hl 0 rfl) ?_
        refine lv_bipush (v := 119) hx hb dX7_directionOf_31 (by decide) ?_
        obtain ⟨hqA, hqB⟩ := hq
        refine lv_icmp_ne (tgt := 40) hx hb dX7_directionOf_33 (by decide) (fun c1 => ?_) (fun c1 => ?_)
        · have hq := hqB c1
          refine lv_iconst (v := (-1)) hx hb dX7_directionOf_40 (by decide) ?_
          exact W.iret (v := (-1)) hx hb hr (fun t ht hW => ⟨⟨(-1), (), rfl, hq, (xAt_of hP hK hD ht hW)⟩, hS.F ht⟩) hS.2.2 dX7_directionOf_41
        · have hq := hqA c1
          refine lv_iconst (v := 3) hx hb dX7_directionOf_36 (by decide) ?_
          refine lv_goto (tgt := 41) hx hb dX7_directionOf_37 (by decide) ?_
          exact W.iret (v := 3) hx hb hr (fun t ht hW => ⟨⟨3, (), rfl, hq, (xAt_of hP hK hD ht hW)⟩, hS.F ht⟩) hS.2.2 dX7_directionOf_41
      · have hq := hqA c2
        refine lv_iconst (v := 2) hx hb dX7_directionOf_26 (by decide) ?_
        refine lv_goto (tgt := 41) hx hb dX7_directionOf_27 (by decide) ?_
        exact W.iret (v := 2) hx hb hr (fun t ht hW => ⟨⟨2, (), rfl, hq, (xAt_of hP hK hD ht hW)⟩, hS.F ht⟩) hS.2.2 dX7_directionOf_41
    · have hq := hqA c3
      refine lv_iconst (v := 1) hx hb dX7_directionOf_16 (by decide) ?_
      refine lv_goto (tgt := 41) hx hb dX7_directionOf_17 (by decide) ?_
      exact W.iret (v := 1) hx hb hr (fun t ht hW => ⟨⟨1, (), rfl, hq, (xAt_of hP hK hD ht hW)⟩, hS.F ht⟩) hS.2.2 dX7_directionOf_41
  · have hq := hqA c4
    refine lv_iconst (v := 0) hx hb dX7_directionOf_6 (by decide) ?_
    refine lv_goto (tgt := 41) hx hb dX7_directionOf_7 (by decide) ?_
    exact W.iret (v := 0) hx hb hr (fun t ht hW => ⟨⟨0, (), rfl, hq, (xAt_of hP hK hD ht hW)⟩, hS.F ht⟩) hS.2.2 dX7_directionOf_41
