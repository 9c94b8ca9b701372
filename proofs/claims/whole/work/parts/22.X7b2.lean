def wp_X7_dig_13 (v : V_X7) (x1 : Int32) (k13_0 : Int32) (Q : Int32 → (Nat → Int32) → (Nat → Int32) → Int32 → Int32 → Prop) : Prop :=
  wp_X7_holds v k13_0 (fun r13 z13_v_thrown =>
  ((r13 = 0 → Q 0 (X7_s v) (X7_saved v) (X7_savedMany v) z13_v_thrown) ∧
  (¬ r13 = 0 → wp_X7_save (X7_s8 v z13_v_thrown) (fun z22_v_saved z22_v_savedMany =>
  wp_X7_dug ((X7_s v), (X7_aside v), (X7_kept v), (X7_isKept v), z22_v_saved, z22_v_savedMany, (X7_text v), (X7_length v), z13_v_thrown, (X7_joint v), (X7_position v), (X7_isWrong v), (X7_isHollow v), (X7_sure v), (X7_away v), (X7_digested v)) x1 (fun r27 z27_v_s =>
  Q r27 z27_v_s z22_v_saved z22_v_savedMany z13_v_thrown)))))
def wp_X7_dig (v : V_X7) (x1 : Int32) (Q : Int32 → (Nat → Int32) → (Nat → Int32) → Int32 → Int32 → Prop) : Prop :=
  wp_X7_isTuft x1 (fun r2 =>
  ((r2 = 0 → wp_X7_dig_13 v x1 1  Q) ∧
  (¬ r2 = 0 → wp_X7_dig_13 v x1 0  Q)))
def q_X7_dig (dC : Nat → ClassId) (dI : Nat → Nat → Nat) (cy : Nat → ClassId) (a : Nat → Nat) (v : V_X7) (x1 : Int32) (Q : Int32 → (Nat → Int32) → (Nat → Int32) → Int32 → Int32 → Prop) (A : Nat → Prop) : Array Value → State → Outcome → State → Prop := va_Qi (fun (r : Int32) (u : (Nat → Int32) × (Nat → Int32) × Int32 × Int32) => Q r u.1 u.2.1 u.2.2.1 u.2.2.2) (fun (u : (Nat → Int32) × (Nat → Int32) × Int32 × Int32) t => xAt dC dI cy A (cX7 cy a u.1 (X7_aside v) (X7_kept v) (X7_isKept v) u.2.1 u.2.2.1 (X7_text v) (X7_length v) u.2.2.2 (X7_joint v) (X7_position v) (X7_isWrong v) (X7_isHollow v) (X7_sure v) (X7_away v) (X7_digested v)) t) A
set_option maxHeartbeats 4000000 in
set_option maxRecDepth 100000 in
theorem c_X7_dig (l : Launch) (dC : Nat → ClassId) (dI : Nat → Nat → Nat) (cy : Nat → ClassId) (a : Nat → Nat) (sz : Nat) (v : V_X7) (x1 : Int32) (Q : Int32 → (Nat → Int32) → (Nat → Int32) → Int32 → Int32 → Prop) (hq : wp_X7_dig v x1 Q) : Met l yX7_dig wsX7_dig ({ frames := 5, cells := 0, slots := 0, locals := 121 } : Room) (va_Pc [.ref (a 0), .int x1] (xPre dC dI cy (wX7 cy a v) sz)) (q_X7_dig dC dI cy a v x1 Q (va_A (wX7 cy a v) sz)) 0 0 (va_A (wX7 cy a v) sz) := by
  refine Met.ofW (cc := cX7_dig) (maxL := 2) (ret := (some .int)) (by decide) rfl ?_
  intro p e s m args below meth c s₁ B hml hv
  obtain ⟨rfl, hsz, hP, hK, hD0⟩ := hv
  have hx := B.exec
  have hb := B.bytes
  have hr := B.returns
  have hts := atoms_spec (ws := wsX7_dig) B.pre
  have hown : s.vm.findClass RX7 = some m.cls := findClass_of_methodNamed B.named
  have hlocks := B.notSynchronized
  subst hsz
  have hD := hD0.self (sz := s.heap.size)
  generalize hAe : va_A (wX7 cy a v) s.heap.size = A at hD ⊢
  have hAe0 : ∀ q : Nat, s.heap.size ≤ q → A q := fun q h => by rw [← hAe]; exact Or.inr h
  have hS : va_S A s.heap s.heap [] := va_S.rf
  have hl := lv_entry ([.ref (a 0), .int x1]) (n := 2) (Nat.le_of_ble_eq_true rfl)
  rw [lg_entry_eq]
  generalize (lg_sl ([.ref (a 0), .int x1]) ++ List.replicate (2 - (lg_sl ([.ref (a 0), .int x1])).length) Slot.unset).toArray = ls at hl ⊢
  have hl : lv_has ls 2 [(0, .ref (a 0)), (1, .int x1)] := hl
  unfold wp_X7_dig at hq
  have J13 : ∀ (k13_0 : Int32) (H : Heap) (locs : List Loc) (ls : Array Slot), wp_X7_dig_13 v x1 k13_0 Q → va_P (dC, dI) vwCl (wX7 cy a v) H → va_D A (wX7 cy a v) → va_S A s.heap H locs → lv_has ls 2 [(0, .ref (a 0)), (1, .int x1)] → W p l e (headSpec wsX7_dig ({ frames := 5, cells := 0, slots := 0, locals := 121 } : Room)).room s m ([.ref (a 0), .int x1] : List Value).toArray below meth c H locs 0 0 (MQ below (q_X7_dig dC dI cy a v x1 Q A) ([.ref (a 0), .int x1] : List Value).toArray s 0 0 A) (F0 m 13 ls [.int k13_0, .ref (a 0)]) := by
    intro k13_0 H locs ls hq hP hD hS hl
    unfold wp_X7_dig_13 at hq
    have hFc := xfree_same hS hAe0 (ws := (wX7 cy a v)) hD
    refine va_calli (va_runV (As := [.int k13_0]) (rest := []) ⟨hx, hb, hml, hown, hts⟩ (c_X7_holds l dC dI cy a _ v k13_0 _ hq) (cwV 1 hts gX7_dig_X7_holds rfl rfl rfl (by decide +kernel) ⟨Nat.le_of_ble_eq_true rfl, Nat.le_of_ble_eq_true rfl⟩) ⟨xPre_blind, va_recv hK hP (ci := 7) (q0 := 0) rfl rfl, xPre_of hP hK hD⟩ rfl rfl hl.1 rfl (lv_room (Nat.le_of_ble_eq_true rfl)) dX7_dig_13 ⟨Nat.le_of_ble_eq_true rfl, Nat.le_of_ble_eq_true rfl⟩) hS (fun q _ h => hFc q h) hFc (fun r13 z13_v_thrown t H locs ht hvm hq hB hz1 hk1 hS => ?_)
    obtain ⟨hP1, -, hD1⟩ := hB
    rw [ht] at hP1
    have hP : va_P (dC, dI) vwCl (cX7 cy a (X7_s v) (X7_aside v) (X7_kept v) (X7_isKept v) (X7_saved v) (X7_savedMany v) (X7_text v) (X7_length v) z13_v_thrown (X7_joint v) (X7_position v) (X7_isWrong v) (X7_isHollow v) (X7_sure v) (X7_away v) (X7_digested v)) H := hP1
    have hD : va_D A (cX7 cy a (X7_s v) (X7_aside v) (X7_kept v) (X7_isKept v) (X7_saved v) (X7_savedMany v) (X7_text v) (X7_length v) z13_v_thrown (X7_joint v) (X7_position v) (X7_isWrong v) (X7_isHollow v) (X7_sure v) (X7_away v) (X7_digested v)) := hD1.weaken (fun _ q _ h => hFc q.1 h)
    obtain ⟨hqA, hqB⟩ := hq
    refine lv_if_ne (tgt := 21) hx hb dX7_dig_16 (by decide) (fun c1 => ?_) (fun c1 => ?_)
    · have hq := hqB c1
      refine lv_aload_n hx hb dX7_dig_21 rfl (lv_at hl 0 rfl) ?_
      have hFc := xfree_same hS hAe0 (ws := (cX7 cy a (X7_s v) (X7_aside v) (X7_kept v) (X7_isKept v) (X7_saved v) (X7_savedMany v) (X7_text v) (X7_length v) z13_v_thrown (X7_joint v) (X7_position v) (X7_isWrong v) (X7_isHollow v) (X7_sure v) (X7_away v) (X7_digested v))) hD
      refine va_callv (va_runV (As := []) (rest := []) ⟨hx, hb, hml, hown, hts⟩ (c_X7_save l dC dI cy a _ (X7_s8 v z13_v_thrown) _ hq) (cwV 0 hts gX7_dig_X7_save rfl rfl rfl (by decide +kernel) ⟨Nat.le_of_ble_eq_true rfl, Nat.le_of_ble_eq_true rfl⟩) ⟨xPre_blind, va_recv hK hP (ci := 7) (q0 := 0) rfl rfl, xPre_of hP hK hD⟩ rfl rfl hl.1 rfl (lv_room (Nat.le_of_ble_eq_true rfl)) dX7_dig_22 ⟨Nat.le_of_ble_eq_true rfl, Nat.le_of_ble_eq_true rfl⟩) hS (fun q _ h => hFc q h) hFc (fun u9 t H locs ht hvm hq hB hz1 hk1 hS => ?_)
      obtain ⟨z22_v_saved, z22_v_savedMany⟩ := u9
      obtain ⟨hP1, -, hD1⟩ := hB
      rw [ht] at hP1
      have hP : va_P (dC, dI) vwCl (cX7 cy a (X7_s v) (X7_aside v) (X7_kept v) (X7_isKept v) z22_v_saved z22_v_savedMany (X7_text v) (X7_length v) z13_v_thrown (X7_joint v) (X7_position v) (X7_isWrong v) (X7_isHollow v) (X7_sure v) (X7_away v) (X7_digested v)) H := hP1
      have hD : va_D A (cX7 cy a (X7_s v) (X7_aside v) (X7_kept v) (X7_isKept v) z22_v_saved z22_v_savedMany (X7_text v) (X7_length v) z13_v_thrown (X7_joint v) (X7_position v) (X7_isWrong v) (X7_isHollow v) (X7_sure v) (X7_away v) (X7_digested v)) := hD1.weaken (fun _ q _ h => hFc q.1 h)
      refine lv_aload_n hx hb dX7_dig_25 rfl (lv_at hl 0 rfl) ?_
      refine lv_iload_n hx hb dX7_dig_26 rfl (lv_at hl 1 rfl) ?_
      have hFc := xfree_same hS hAe0 (ws := (cX7 cy a (X7_s v) (X7_aside v) (X7_kept v) (X7_isKept v) z22_v_saved z22_v_savedMany (X7_text v) (X7_length v) z13_v_thrown (X7_joint v) (X7_position v) (X7_isWrong v) (X7_isHollow v) (X7_sure v) (X7_away v) (X7_digested v))) hD
      refine va_calli (va_runV (As := [.int x1]) (rest := []) ⟨hx, hb, hml, hown, hts⟩ (c_X7_dug l dC dI cy a _ ((X7_s v), (X7_aside v), (X7_kept v), (X7_isKept v), z22_v_saved, z22_v_savedMany, (X7_text v), (X7_length v), z13_v_thrown, (X7_joint v), (X7_position v), (X7_isWrong v), (X7_isHollow v), (X7_sure v), (X7_away v), (X7_digested v)) x1 _ hq) (cwV 1 hts gX7_dig_X7_dug rfl rfl rfl (by decide +kernel) ⟨Nat.le_of_ble_eq_true rfl, Nat.le_of_ble_eq_true rfl⟩) ⟨xPre_blind, va_recv hK hP (ci := 7) (q0 := 0) rfl rfl, xPre_of hP hK hD⟩ rfl rfl hl.1 rfl (lv_room (Nat.le_of_ble_eq_true rfl)) dX7_dig_27 ⟨Nat.le_of_ble_eq_true rfl, Nat.le_of_ble_eq_true rfl⟩) hS (fun q _ h => hFc q h) hFc (fun r27 z27_v_s t H locs ht hvm hq hB hz1 hk1 hS => ?_)
      obtain ⟨hP1, -, hD1⟩ := hB
      rw [ht] at hP1
      have hP : va_P (dC, dI) vwCl (cX7 cy a z27_v_s (X7_aside v) (X7_kept v) (X7_isKept v) z22_v_saved z22_v_savedMany (X7_text v) (X7_length v) z13_v_thrown (X7_joint v) (X7_position v) (X7_isWrong v) (X7_isHollow v) (X7_sure v) (X7_away v) (X7_digested v)) H := hP1
      have hD : va_D A (cX7 cy a z27_v_s (X7_aside v) (X7_kept v) (X7_isKept v) z22_v_saved z22_v_savedMany (X7_text v) (X7_length v) z13_v_thrown (X7_joint v) (X7_position v) (X7_isWrong v) (X7_isHollow v) (X7_sure v) (X7_away v) (X7_digested v)) := hD1.weaken (fun _ q _ h => hFc q.1 h)
      exact W.iret (v := r27) hx hb hr (fun t ht hW => ⟨⟨r27, (z27_v_s, z22_v_saved, z22_v_savedMany, z13_v_thrown), rfl, hq, (xAt_of hP hK hD ht hW)⟩, hS.F ht⟩) hS.2.2 dX7_dig_30
    · have hq := hqA c1
      refine lv_iconst (v := 0) hx hb dX7_dig_19 (by decide) ?_
      exact W.iret (v := 0) hx hb hr (fun t ht hW => ⟨⟨0, ((X7_s v), (X7_saved v), (X7_savedMany v), z13_v_thrown), rfl, hq, (xAt_of hP hK hD ht hW)⟩, hS.F ht⟩) hS.2.2 dX7_dig_20
  refine lv_aload_n hx hb dX7_dig_0 rfl (lv_at hl 0 rfl) ?_
  refine lv_iload_n hx hb dX7_dig_1 rfl (lv_at hl 1 rfl) ?_
  have hFc := xfree_none hS hAe0
  refine va_calli (va_runS (As := [.int x1]) (rest := [.ref (a 0)]) ⟨hx, hb, hml, hown, hts⟩ (c_X7_isTuft l dC dI cy  _ x1 _ hq) (va_cwS 1 hts gX7_dig_X7_isTuft rfl rfl rfl (by decide +kernel) ⟨Nat.le_of_ble_eq_true rfl, Nat.le_of_ble_eq_true rfl⟩) ⟨xPre_blind, xPre_of xP_nil hK (xD_nil (A := A))⟩ rfl rfl hl.1 rfl (lv_room (Nat.le_of_ble_eq_true rfl)) dX7_dig_2 ⟨Nat.le_of_ble_eq_true rfl, Nat.le_of_ble_eq_true rfl⟩) hS (fun q _ h => hFc q h) hFc (fun r2 u9 t H locs ht hvm hq hB hz1 hk1 hS => ?_)
  have hP := xj_none hP hk1
  obtain ⟨hqA, hqB⟩ := hq
  refine lv_if_eq (tgt := 12) hx hb dX7_dig_5 (by decide) (fun c2 => ?_) (fun c2 => ?_)
  · have hq := hqA c2
    refine lv_iconst (v := 1) hx hb dX7_dig_12 (by decide) ?_
    exact J13 1  _ _ _ hq hP hD hS (lv_sub hl [0, 1] rfl)
  · have hq := hqB c2
    refine lv_iconst (v := 0) hx hb dX7_dig_8 (by decide) ?_
    refine lv_goto (tgt := 13) hx hb dX7_dig_9 (by decide) ?_
    exact J13 0  _ _ _ hq hP hD hS (lv_sub hl [0, 1] rfl)
def wp_X7_endsAt (v : V_X7) (x1 : Int32) (x2 : Int32) (Q : Int32 → Prop) : Prop :=
  wp_X7_tuftAt v x1 (fun r2 =>
  ((r2 = x2 → Q 1) ∧
  (¬ r2 = x2 → wp_X7_endFrom v x1 (fun r12 =>
  wp_X7_tuftAt v r12 (fun r15 =>
  ((r15 = x2 → Q 1) ∧
  (¬ r15 = x2 → Q 0)))))))
def q_X7_endsAt (dC : Nat → ClassId) (dI : Nat → Nat → Nat) (cy : Nat → ClassId) (a : Nat → Nat) (v : V_X7) (x1 : Int32) (x2 : Int32) (Q : Int32 → Prop) (A : Nat → Prop) : Array Value → State → Outcome → State → Prop := va_Qi (fun (r : Int32) (u : Unit) => Q r ) (fun (u : Unit) t => xAt dC dI cy A (wX7 cy a v) t) A
set_option maxHeartbeats 4000000 in
set_option maxRecDepth 100000 in
theorem c_X7_endsAt (l : Launch) (dC : Nat → ClassId) (dI : Nat → Nat → Nat) (cy : Nat → ClassId) (a : Nat → Nat) (sz : Nat) (v : V_X7) (x1 : Int32) (x2 : Int32) (Q : Int32 → Prop) (hq : wp_X7_endsAt v x1 x2 Q) : Met l yX7_endsAt wsX7_endsAt ({ frames := 1, cells := 0, slots := 0, locals := 22 } : Room) (va_Pc [.ref (a 0), .int x1, .int x2] (xPre dC dI cy (wX7 cy a v) sz)) (q_X7_endsAt dC dI cy a v x1 x2 Q (va_A (wX7 cy a v) sz)) 0 0 (va_A (wX7 cy a v) sz) := by
  refine Met.ofW (cc := cX7_endsAt) (maxL := 3) (ret := (some .boolean)) (by decide) rfl ?_
  intro p e s m args below meth c s₁ B hml hv
  obtain ⟨rfl, hsz, hP, hK, hD0⟩ := hv
  have hx := B.exec
  have hb := B.bytes
  have hr := B.returns
  have hts := atoms_spec (ws := wsX7_endsAt) B.pre
  have hown : s.vm.findClass RX7 = some m.cls := findClass_of_methodNamed B.named
  have hlocks := B.notSynchronized
  subst hsz
  have hD := hD0.self (sz := s.heap.size)
  generalize hAe : va_A (wX7 cy a v) s.heap.size = A at hD ⊢
  have hAe0 : ∀ q : Nat, s.heap.size ≤ q → A q := fun q h => by rw [← hAe]; exact Or.inr h
  have hS : va_S A s.heap s.heap [] := va_S.rf
  have hl := lv_entry ([.ref (a 0), .int x1, .int x2]) (n := 3) (Nat.le_of_ble_eq_true rfl)
  rw [lg_entry_eq]
  generalize (lg_sl ([.ref (a 0), .int x1, .int x2]) ++ List.replicate (3 - (lg_sl ([.ref (a 0), .int x1, .int x2])).length) Slot.unset).toArray = ls at hl ⊢
  have hl : lv_has ls 3 [(0, .ref (a 0)), (1, .int x1), (2, .int x2)] := hl
  unfold wp_X7_endsAt at hq
  refine lv_aload_n hx hb dX7_endsAt_0 rfl (lv_at hl 0 rfl) ?_
  refine lv_iload_n hx hb dX7_endsAt_1 rfl (lv_at hl 1 rfl) ?_
  have hFc := xfree_same hS hAe0 (ws := (wX7 cy a v)) hD
  refine va_calli (va_runV (As := [.int x1]) (rest := []) ⟨hx, hb, hml, hown, hts⟩ (c_X7_tuftAt l dC dI cy a _ v x1 _ hq) (cwV 1 hts gX7_endsAt_X7_tuftAt rfl rfl rfl (by decide +kernel) ⟨Nat.le_of_ble_eq_true rfl, Nat.le_of_ble_eq_true rfl⟩) ⟨xPre_blind, va_recv hK hP (ci := 7) (q0 := 0) rfl rfl, xPre_of hP hK hD⟩ rfl rfl hl.1 rfl (lv_room (Nat.le_of_ble_eq_true rfl)) dX7_endsAt_2 ⟨Nat.le_of_ble_eq_true rfl, Nat.le_of_ble_eq_true rfl⟩) hS (fun q _ h => hFc q h) hFc (fun r2 u9 t H locs ht hvm hq hB hz1 hk1 hS => ?_)
  obtain ⟨hP1, -, hD1⟩ := hB
  rw [ht] at hP1
  have hP : va_P (dC, dI) vwCl (wX7 cy a v) H := hP1
  have hD : va_D A (wX7 cy a v) := hD1.weaken (fun _ q _ h => hFc q.1 h)
  refine lv_iload_n hx hb dX7_endsAt_5 rfl (lv_at hl 2 rfl) ?_
  obtain ⟨hqA, hqB⟩ := hq
  refine lv_icmp_eq (tgt := 22) hx hb dX7_endsAt_6 (by decide) (fun c2 => ?_) (fun c2 => ?_)
  · have hq := hqA c2
    refine lv_iconst (v := 1) hx hb dX7_endsAt_22 (by decide) ?_
    refine lv_goto (tgt := 27) hx hb dX7_endsAt_23 (by decide) ?_
    exact W.zret (v := 1) hx hb hr rfl (fun t ht hW => ⟨⟨1, (), rfl, hq, (xAt_of hP hK hD ht hW)⟩, hS.F ht⟩) hS.2.2 dX7_endsAt_27
  · have hq := hqB c2
    refine lv_aload_n hx hb dX7_endsAt_9 rfl (lv_at hl 0 rfl) ?_
    refine lv_aload_n hx hb dX7_endsAt_10 rfl (lv_at hl 0 rfl) ?_
    refine lv_iload_n hx hb dX7_endsAt_11 rfl (lv_at hl 1 rfl) ?_
    have hFc := xfree_same hS hAe0 (ws := (wX7 cy a v)) hD
    refine va_calli (va_runV (As := [.int x1]) (rest := [.ref (a 0)]) ⟨hx, hb, hml, hown, hts⟩ (c_X7_endFrom l dC dI cy a _ v x1 _ hq) (cwV 1 hts gX7_endsAt_X7_endFrom rfl rfl rfl (by decide +kernel) ⟨Nat.le_of_ble_eq_true rfl, Nat.le_of_ble_eq_true rfl⟩) ⟨xPre_blind, va_recv hK hP (ci := 7) (q0 := 0) rfl rfl, xPre_of hP hK hD⟩ rfl rfl hl.1 rfl (lv_room (Nat.le_of_ble_eq_true rfl)) dX7_endsAt_12 ⟨Nat.le_of_ble_eq_true rfl, Nat.le_of_ble_eq_true rfl⟩) hS (fun q _ h => hFc q h) hFc (fun r12 u9 t H locs ht hvm hq hB hz1 hk1 hS => ?_)
    obtain ⟨hP1, -, hD1⟩ := hB
    rw [ht] at hP1
    have hP : va_P (dC, dI) vwCl (wX7 cy a v) H := hP1
    have hD : va_D A (wX7 cy a v) := hD1.weaken (fun _ q _ h => hFc q.1 h)
    have hFc := xfree_same hS hAe0 (ws := (wX7 cy a v)) hD
    refine va_calli (va_runV (As := [.int r12]) (rest := []) ⟨hx, hb, hml, hown, hts⟩ (c_X7_tuftAt l dC dI cy a _ v r12 _ hq) (cwV 1 hts gX7_endsAt_X7_tuftAt rfl rfl rfl (by decide +kernel) ⟨Nat.le_of_ble_eq_true rfl, Nat.le_of_ble_eq_true rfl⟩) ⟨xPre_blind, va_recv hK hP (ci := 7) (q0 := 0) rfl rfl, xPre_of hP hK hD⟩ rfl rfl hl.1 rfl (lv_room (Nat.le_of_ble_eq_true rfl)) dX7_endsAt_15 ⟨Nat.le_of_ble_eq_true rfl, Nat.le_of_ble_eq_true rfl⟩) hS (fun q _ h => hFc q h) hFc (fun r15 u9 t H locs ht hvm hq hB hz1 hk1 hS => ?_)
    obtain ⟨hP1, -, hD1⟩ := hB
    rw [ht] at hP1
    have hP : va_P (dC, dI) vwCl (wX7 cy a v) H := hP1
    have hD : va_D A (wX7 cy a v) := hD1.weaken (fun _ q _ h => hFc q.1 h)
    refine lv_iload_n hx hb dX7_endsAt_18 rfl (lv_at hl 2 rfl) ?_
    obtain ⟨hqA, hqB⟩ := hq
    refine lv_icmp_ne (tgt := 26) hx hb dX7_endsAt_19 (by decide) (fun c1 => ?_) (fun c1 => ?_)
    · have hq := hqB c1
      refine lv_iconst (v := 0) hx hb dX7_endsAt_26 (by decide) ?_
      exact W.zret (v := 0) hx hb hr rfl (fun t ht hW => ⟨⟨0, (), rfl, hq, (xAt_of hP hK hD ht hW)⟩, hS.F ht⟩) hS.2.2 dX7_endsAt_27
    · have hq := hqA c1
      refine lv_iconst (v := 1) hx hb dX7_endsAt_22 (by decide) ?_
      refine lv_goto (tgt := 27) hx hb dX7_endsAt_23 (by decide) ?_
      exact W.zret (v := 1) hx hb hr rfl (fun t ht hW => ⟨⟨1, (), rfl, hq, (xAt_of hP hK hD ht hW)⟩, hS.F ht⟩) hS.2.2 dX7_endsAt_27
def wp_X7_otherEnd (v : V_X7) (x1 : Int32) (x2 : Int32) (Q : Int32 → Prop) : Prop :=
  wp_X7_tuftAt v x1 (fun r2 =>
  ((r2 = x2 → wp_X7_endFrom v x1 (fun r12 =>
  wp_X7_tuftAt v r12 (fun r15 =>
  Q r15))) ∧
  (¬ r2 = x2 → wp_X7_tuftAt v x1 (fun r23 =>
  Q r23))))
def q_X7_otherEnd (dC : Nat → ClassId) (dI : Nat → Nat → Nat) (cy : Nat → ClassId) (a : Nat → Nat) (v : V_X7) (x1 : Int32) (x2 : Int32) (Q : Int32 → Prop) (A : Nat → Prop) : Array Value → State → Outcome → State → Prop := va_Qi (fun (r : Int32) (u : Unit) => Q r ) (fun (u : Unit) t => xAt dC dI cy A (wX7 cy a v) t) A
set_option maxHeartbeats 4000000 in
set_option maxRecDepth 100000 in
theorem c_X7_otherEnd (l : Launch) (dC : Nat → ClassId) (dI : Nat → Nat → Nat) (cy : Nat → ClassId) (a : Nat → Nat) (sz : Nat) (v : V_X7) (x1 : Int32) (x2 : Int32) (Q : Int32 → Prop) (hq : wp_X7_otherEnd v x1 x2 Q) : Met l yX7_otherEnd wsX7_otherEnd ({ frames := 1, cells := 0, slots := 0, locals := 22 } : Room) (va_Pc [.ref (a 0), .int x1, .int x2] (xPre dC dI cy (wX7 cy a v) sz)) (q_X7_otherEnd dC dI cy a v x1 x2 Q (va_A (wX7 cy a v) sz)) 0 0 (va_A (wX7 cy a v) sz) := by
  refine Met.ofW (cc := cX7_otherEnd) (maxL := 3) (ret := (some .int)) (by decide) rfl ?_
  intro p e s m args below meth c s₁ B hml hv
  obtain ⟨rfl, hsz, hP, hK, hD0⟩ := hv
  have hx := B.exec
  have hb := B.bytes
  have hr := B.returns
  have hts := atoms_spec (ws := wsX7_otherEnd) B.pre
  have hown : s.vm.findClass RX7 = some m.cls := findClass_of_methodNamed B.named
  have hlocks := B.notSynchronized
  subst hsz
  have hD := hD0.self (sz := s.heap.size)
  generalize hAe : va_A (wX7 cy a v) s.heap.size = A at hD ⊢
  have hAe0 : ∀ q : Nat, s.heap.size ≤ q → A q := fun q h => by rw [← hAe]; exact Or.inr h
  have hS : va_S A s.heap s.heap [] := va_S.rf
  have hl := lv_entry ([.ref (a 0), .int x1, .int x2]) (n := 3) (Nat.le_of_ble_eq_true rfl)
  rw [lg_entry_eq]
  generalize (lg_sl ([.ref (a 0), .int x1, .int x2]) ++ List.replicate (3 - (lg_sl ([.ref (a 0), .int x1, .int x2])).length) Slot.unset).toArray = ls at hl ⊢
  have hl : lv_has ls 3 [(0, .ref (a 0)), (1, .int x1), (2, .int x2)] := hl
  unfold wp_X7_otherEnd at hq
  refine lv_aload_n hx hb dX7_otherEnd_0 rfl (lv_at hl 0 rfl) ?_
  refine lv_iload_n hx hb dX7_otherEnd_1 rfl (lv_at hl 1 rfl) ?_
  have hFc := xfree_same hS hAe0 (ws := (wX7 cy a v)) hD
  refine va_calli (va_runV (As := [.int x1]) (rest := []) ⟨hx, hb, hml, hown, hts⟩ (c_X7_tuftAt l dC dI cy a _ v x1 _ hq) (cwV 1 hts gX7_otherEnd_X7_tuftAt rfl rfl rfl (by decide +kernel) ⟨Nat.le_of_ble_eq_true rfl, Nat.le_of_ble_eq_true rfl⟩) ⟨xPre_blind, va_recv hK hP (ci := 7) (q0 := 0) rfl rfl, xPre_of hP hK hD⟩ rfl rfl hl.1 rfl (lv_room (Nat.le_of_ble_eq_true rfl)) dX7_otherEnd_2 ⟨Nat.le_of_ble_eq_true rfl, Nat.le_of_ble_eq_true rfl⟩) hS (fun q _ h => hFc q h) hFc (fun r2 u9 t H locs ht hvm hq hB hz1 hk1 hS => ?_)
  obtain ⟨hP1, -, hD1⟩ := hB
  rw [ht] at hP1
  have hP : va_P (dC, dI) vwCl (wX7 cy a v) H := hP1
  have hD : va_D A (wX7 cy a v) := hD1.weaken (fun _ q _ h => hFc q.1 h)
  refine lv_iload_n hx hb dX7_otherEnd_5 rfl (lv_at hl 2 rfl) ?_
  obtain ⟨hqA, hqB⟩ := hq
  refine lv_icmp_ne (tgt := 21) hx hb dX7_otherEnd_6 (by decide) (fun c1 => ?_) (fun c1 => ?_)
  · have hq := hqB c1
    refine lv_aload_n hx hb dX7_otherEnd_21 rfl (lv_at hl 0 rfl) ?_
    refine lv_iload_n hx hb dX7_otherEnd_22 rfl (lv_at hl 1 rfl) ?_
    have hFc := xfree_same hS hAe0 (ws := (wX7 cy a v)) hD
    refine va_calli (va_runV (As := [.int x1]) (rest := []) ⟨hx, hb, hml, hown, hts⟩ (c_X7_tuftAt l dC dI cy a _ v x1 _ hq) (cwV 1 hts gX7_otherEnd_X7_tuftAt rfl rfl rfl (by decide +kernel) ⟨Nat.le_of_ble_eq_true rfl, Nat.le_of_ble_eq_true rfl⟩) ⟨xPre_blind, va_recv hK hP (ci := 7) (q0 := 0) rfl rfl, xPre_of hP hK hD⟩ rfl rfl hl.1 rfl (lv_room (Nat.le_of_ble_eq_true rfl)) dX7_otherEnd_23 ⟨Nat.le_of_ble_eq_true rfl, Nat.le_of_ble_eq_true rfl⟩) hS (fun q _ h => hFc q h) hFc (fun r23 u9 t H locs ht hvm hq hB hz1 hk1 hS => ?_)
    obtain ⟨hP1, -, hD1⟩ := hB
    rw [ht] at hP1
    have hP : va_P (dC, dI) vwCl (wX7 cy a v) H := hP1
    have hD : va_D A (wX7 cy a v) := hD1.weaken (fun _ q _ h => hFc q.1 h)
    exact W.iret (v := r23) hx hb hr (fun t ht hW => ⟨⟨r23, (), rfl, hq, (xAt_of hP hK hD ht hW)⟩, hS.F ht⟩) hS.2.2 dX7_otherEnd_26
  · have hq := hqA c1
    refine lv_aload_n hx hb dX7_otherEnd_9 rfl (lv_at hl 0 rfl) ?_
    refine lv_aload_n hx hb dX7_otherEnd_10 rfl (lv_at hl 0 rfl) ?_
    refine lv_iload_n hx hb dX7_otherEnd_11 rfl (lv_at hl 1 rfl) ?_
    have hFc := xfree_same hS hAe0 (ws := (wX7 cy a v)) hD
    refine va_calli (va_runV (As := [.int x1]) (rest := [.ref (a 0)]) ⟨hx, hb, hml, hown, hts⟩ (c_X7_endFrom l dC dI cy a _ v x1 _ hq) (cwV 1 hts gX7_otherEnd_X7_endFrom rfl rfl rfl (by decide +kernel) ⟨Nat.le_of_ble_eq_true rfl, Nat.le_of_ble_eq_true rfl⟩) ⟨xPre_blind, va_recv hK hP (ci := 7) (q0 := 0) rfl rfl, xPre_of hP hK hD⟩ rfl rfl hl.1 rfl (lv_room (Nat.le_of_ble_eq_true rfl)) dX7_otherEnd_12 ⟨Nat.le_of_ble_eq_true rfl, Nat.le_of_ble_eq_true rfl⟩) hS (fun q _ h => hFc q h) hFc (fun r12 u9 t H locs ht hvm hq hB hz1 hk1 hS => ?_)
    obtain ⟨hP1, -, hD1⟩ := hB
    rw [ht] at hP1
    have hP : va_P (dC, dI) vwCl (wX7 cy a v) H := hP1
    have hD : va_D A (wX7 cy a v) := hD1.weaken (fun _ q _ h => hFc q.1 h)
    have hFc := xfree_same hS hAe0 (ws := (wX7 cy a v)) hD
    refine va_calli (va_runV (As := [.int r12]) (rest := []) ⟨hx, hb, hml, hown, hts⟩ (c_X7_tuftAt l dC dI cy a _ v r12 _ hq) (cwV 1 hts gX7_otherEnd_X7_tuftAt rfl rfl rfl (by decide +kernel) ⟨Nat.le_of_ble_eq_true rfl, Nat.le_of_ble_eq_true rfl⟩) ⟨xPre_blind, va_recv hK hP (ci := 7) (q0 := 0) rfl rfl, xPre_of hP hK hD⟩ rfl rfl hl.1 rfl (lv_room (Nat.le_of_ble_eq_true rfl)) dX7_otherEnd_15 ⟨Nat.le_of_ble_eq_true rfl, Nat.le_of_ble_eq_true rfl⟩) hS (fun q _ h => hFc q h) hFc (fun r15 u9 t H locs ht hvm hq hB hz1 hk1 hS => ?_)
    obtain ⟨hP1, -, hD1⟩ := hB
    rw [ht] at hP1
    have hP : va_P (dC, dI) vwCl (wX7 cy a v) H := hP1
    have hD : va_D A (wX7 cy a v) := hD1.weaken (fun _ q _ h => hFc q.1 h)
    refine lv_goto (tgt := 26) hx hb dX7_otherEnd_18 (by decide) ?_
    exact W.iret (v := r15) hx hb hr (fun t ht hW => ⟨⟨r15, (), rfl, hq, (xAt_of hP hK hD ht hW)⟩, hS.F ht⟩) hS.2.2 dX7_otherEnd_26
def wp_X7_nextEnding_33 (v : V_X7) (x1 : Int32) (x2 : Int32) (y33_3 : Int32) (Q : Int32 → Prop) : Prop :=
  vp_in 7 1472 ∧ ((((X7_s v) (7 : Int32).toNatClampNeg) ≤ y33_3 → Q (-1)) ∧
  (¬ ((X7_s v) (7 : Int32).toNatClampNeg) ≤ y33_3 → Q y33_3))
def wb_X7_nextEnding_2 (v : V_X7) (x1 : Int32) (x2 : Int32)  (y2_3 : Int32) (B2 : Int32 → Prop) (Q : Int32 → Prop) : Prop :=
  vp_in 7 1472 ∧ ((((X7_s v) (7 : Int32).toNatClampNeg) ≤ y2_3 → wp_X7_nextEnding_33 v x1 x2 y2_3  Q) ∧
  (¬ ((X7_s v) (7 : Int32).toNatClampNeg) ≤ y2_3 → wp_X7_endsAt v y2_3 x2 (fun r16 =>
  ((r16 = 0 → wp_X7_endFrom v y2_3 (fun r24 =>
  B2 (r24 + 1))) ∧
  (¬ r16 = 0 → wp_X7_nextEnding_33 v x1 x2 y2_3  Q)))))
def wp_X7_nextEnding_2 (v : V_X7) (x1 : Int32) (x2 : Int32)  (y2_3 : Int32) (Q : Int32 → Prop) : Prop :=
  ∃ (I : Int32 → Prop) (μ : Int32 → Nat), I y2_3 ∧ ∀ (s0 : Int32), I s0 → wb_X7_nextEnding_2 v x1 x2  s0 (fun t0 => I t0 ∧ μ t0 < μ s0) Q
def wp_X7_nextEnding (v : V_X7) (x1 : Int32) (x2 : Int32) (Q : Int32 → Prop) : Prop :=
  wp_X7_nextEnding_2 v x1 x2  x1 Q
def q_X7_nextEnding (dC : Nat → ClassId) (dI : Nat → Nat → Nat) (cy : Nat → ClassId) (a : Nat → Nat) (v : V_X7) (x1 : Int32) (x2 : Int32) (Q : Int32 → Prop) (A : Nat → Prop) : Array Value → State → Outcome → State → Prop := va_Qi (fun (r : Int32) (u : Unit) => Q r ) (fun (u : Unit) t => xAt dC dI cy A (wX7 cy a v) t) A
set_option maxHeartbeats 4000000 in
set_option maxRecDepth 100000 in
theorem c_X7_nextEnding (l : Launch) (dC : Nat → ClassId) (dI : Nat → Nat → Nat) (cy : Nat → ClassId) (a : Nat → Nat) (sz : Nat) (v : V_X7) (x1 : Int32) (x2 : Int32) (Q : Int32 → Prop) (hq : wp_X7_nextEnding v x1 x2 Q) : Met l yX7_nextEnding wsX7_nextEnding ({ frames := 2, cells := 0, slots := 0, locals := 44 } : Room) (va_Pc [.ref (a 0), .int x1, .int x2] (xPre dC dI cy (wX7 cy a v) sz)) (q_X7_nextEnding dC dI cy a v x1 x2 Q (va_A (wX7 cy a v) sz)) 0 0 (va_A (wX7 cy a v) sz) := by
  refine Met.ofW (cc := cX7_nextEnding) (maxL := 4) (ret := (some .int)) (by decide) rfl ?_
  intro p e s m args below meth c s₁ B hml hv
  obtain ⟨rfl, hsz, hP, hK, hD0⟩ := hv
  have hx := B.exec
  have hb := B.bytes
  have hr := B.returns
  have hts := atoms_spec (ws := wsX7_nextEnding) B.pre
  have hown : s.vm.findClass RX7 = some m.cls := findClass_of_methodNamed B.named
  have hlocks := B.notSynchronized
  subst hsz
  have hD := hD0.self (sz := s.heap.size)
  generalize hAe : va_A (wX7 cy a v) s.heap.size = A at hD ⊢
  have hAe0 : ∀ q : Nat, s.heap.size ≤ q → A q := fun q h => by rw [← hAe]; exact Or.inr h
  have hS : va_S A s.heap s.heap [] := va_S.rf
  have hl := lv_entry ([.ref (a 0), .int x1, .int x2]) (n := 4) (Nat.le_of_ble_eq_true rfl)
  rw [lg_entry_eq]
  generalize (lg_sl ([.ref (a 0), .int x1, .int x2]) ++ List.replicate (4 - (lg_sl ([.ref (a 0), .int x1, .int x2])).length) Slot.unset).toArray = ls at hl ⊢
  have hl : lv_has ls 4 [(0, .ref (a 0)), (1, .int x1), (2, .int x2)] := hl
  have lk0 := hts (Cond.fieldLink RX7 7 "MolesLawnModel" "s" "[I") (List.mem_cons_of_mem _ (List.mem_append_left _ (List.mem_of_getElem? (i := 0) rfl)))
  have iK7 : ∀ w ∈ wsX70, w ∈ wsX7_nextEnding := fun _ h => (List.mem_cons_of_mem _ (List.mem_append_right _ h))
  unfold wp_X7_nextEnding at hq
  have J33 : ∀ (y33_3 : Int32) (H : Heap) (locs : List Loc) (ls : Array Slot), wp_X7_nextEnding_33 v x1 x2 y33_3 Q → va_P (dC, dI) vwCl (wX7 cy a v) H → va_D A (wX7 cy a v) → va_S A s.heap H locs → lv_has ls 4 [(0, .ref (a 0)), (3, .int y33_3)] → W p l e (headSpec wsX7_nextEnding ({ frames := 2, cells := 0, slots := 0, locals := 44 } : Room)).room s m ([.ref (a 0), .int x1, .int x2] : List Value).toArray below meth c H locs 0 0 (MQ below (q_X7_nextEnding dC dI cy a v x1 x2 Q A) ([.ref (a 0), .int x1, .int x2] : List Value).toArray s 0 0 A) (F0 m 33 ls []) := by
    intro y33_3 H locs ls hq hP hD hS hl
    unfold wp_X7_nextEnding_33 at hq
    refine lv_iload_n hx hb dX7_nextEnding_33 rfl (lv_at hl 1 rfl) ?_
    refine lv_aload_n hx hb dX7_nextEnding_34 rfl (lv_at hl 0 rfl) ?_
    refine va_get (D := (dC, dI)) (ci := 7) (v := .ref (a 1)) (C := RX7) (T := TX7) (N := 16) hx hb hts iK7 hown hK hP 0 rfl rfl 0 (by decide) lk0 (fun _ h9 => h9) rfl dX7_nextEnding_35 ?_
    refine lv_bipush (v := 7) hx hb dX7_nextEnding_38 (by decide) ?_
    obtain ⟨g1, hq⟩ := hq
    refine va_iald hx hb hK hP 1 0 rfl rfl g1 dX7_nextEnding_40 ?_
    obtain ⟨hqA, hqB⟩ := hq
    refine lv_icmp_ge (tgt := 48) hx hb dX7_nextEnding_41 (by decide) (fun c2 => ?_) (fun c2 => ?_)
    · have hq := hqA c2
      refine lv_iconst (v := (-1)) hx hb dX7_nextEnding_48 (by decide) ?_
      exact W.iret (v := (-1)) hx hb hr (fun t ht hW => ⟨⟨(-1), (), rfl, hq, (xAt_of hP hK hD ht hW)⟩, hS.F ht⟩) hS.2.2 dX7_nextEnding_49
    · have hq := hqB c2
      refine lv_iload_n hx hb dX7_nextEnding_44 rfl (lv_at hl 1 rfl) ?_
      refine lv_goto (tgt := 49) hx hb dX7_nextEnding_45 (by decide) ?_
      exact W.iret (v := y33_3) hx hb hr (fun t ht hW => ⟨⟨y33_3, (), rfl, hq, (xAt_of hP hK hD ht hW)⟩, hS.F ht⟩) hS.2.2 dX7_nextEnding_49
  have J2 : ∀  (y2_3 : Int32) (H : Heap) (locs : List Loc) (ls : Array Slot), wp_X7_nextEnding_2 v x1 x2  y2_3 Q → va_P (dC, dI) vwCl (wX7 cy a v) H → va_D A (wX7 cy a v) → va_S A s.heap H locs → lv_has ls 4 [(0, .ref (a 0)), (2, .int x2), (3, .int y2_3)] → W p l e (headSpec wsX7_nextEnding ({ frames := 2, cells := 0, slots := 0, locals := 44 } : Room)).room s m ([.ref (a 0), .int x1, .int x2] : List Value).toArray below meth c H locs 0 0 (MQ below (q_X7_nextEnding dC dI cy a v x1 x2 Q A) ([.ref (a 0), .int x1, .int x2] : List Value).toArray s 0 0 A) (F0 m 2 ls []) := by
    intro  y2_3 H locs ls hq hP hD hS hl
    obtain ⟨I2, μ2, h0, hs2⟩ := hq
    have key : ∀ (n : Nat) (y2_3 : Int32) (H : Heap) (locs : List Loc) (ls : Array Slot), I2 y2_3 → μ2 y2_3 < n → va_P (dC, dI) vwCl (wX7 cy a v) H → va_D A (wX7 cy a v) → va_S A s.heap H locs → lv_has ls 4 [(0, .ref (a 0)), (2, .int x2), (3, .int y2_3)] → W p l e (headSpec wsX7_nextEnding ({ frames := 2, cells := 0, slots := 0, locals := 44 } : Room)).room s m ([.ref (a 0), .int x1, .int x2] : List Value).toArray below meth c H locs 0 0 (MQ below (q_X7_nextEnding dC dI cy a v x1 x2 Q A) ([.ref (a 0), .int x1, .int x2] : List Value).toArray s 0 0 A) (F0 m 2 ls []) := by
      intro n
      induction n with
      | zero => intro y2_3 H locs ls _ hm; exact absurd hm (Nat.not_lt_zero _)
      | succ n ih =>
        intro y2_3 H locs ls hI hm hP hD hS hl
        have hq := hs2 y2_3 hI
        generalize hB2 : (fun (t0 : Int32) => I2 t0 ∧ μ2 t0 < μ2 y2_3) = B2 at hq
        have bk2 : ∀ (y2_3 : Int32) (H : Heap) (locs : List Loc) (ls : Array Slot), B2 y2_3 → va_P (dC, dI) vwCl (wX7 cy a v) H → va_D A (wX7 cy a v) → va_S A s.heap H locs → lv_has ls 4 [(0, .ref (a 0)), (2, .int x2), (3, .int y2_3)] → W p l e (headSpec wsX7_nextEnding ({ frames := 2, cells := 0, slots := 0, locals := 44 } : Room)).room s m ([.ref (a 0), .int x1, .int x2] : List Value).toArray below meth c H locs 0 0 (MQ below (q_X7_nextEnding dC dI cy a v x1 x2 Q A) ([.ref (a 0), .int x1, .int x2] : List Value).toArray s 0 0 A) (F0 m 2 ls []) := by
          intro y2_3 H locs ls h
          rw [← hB2] at h
          exact ih y2_3 H locs ls h.1 (Nat.lt_of_lt_of_le h.2 (Nat.le_of_lt_succ hm))
        unfold wb_X7_nextEnding_2 at hq
        refine lv_iload_n hx hb dX7_nextEnding_2 rfl (lv_at hl 2 rfl) ?_
        refine lv_aload_n hx hb dX7_nextEnding_3 rfl (lv_at hl 0 rfl) ?_
        refine va_get (D := (dC, dI)) (ci := 7) (v := .ref (a 1)) (C := RX7) (T := TX7) (N := 16) hx hb hts iK7 hown hK hP 0 rfl rfl 0 (by decide) lk0 (fun _ h9 => h9) rfl dX7_nextEnding_4 ?_
        refine lv_bipush (v := 7) hx hb dX7_nextEnding_7 (by decide) ?_
        obtain ⟨g3, hq⟩ := hq
        refine va_iald hx hb hK hP 1 0 rfl rfl g3 dX7_nextEnding_9 ?_
        obtain ⟨hqA, hqB⟩ := hq
        refine lv_icmp_ge (tgt := 33) hx hb dX7_nextEnding_10 (by decide) (fun c5 => ?_) (fun c5 => ?_)
        · have hq := hqA c5
          exact J33 y2_3  _ _ _ hq hP hD hS (lv_sub hl [0, 2] rfl)
        · have hq := hqB c5
          refine lv_aload_n hx hb dX7_nextEnding_13 rfl (lv_at hl 0 rfl) ?_
          refine lv_iload_n hx hb dX7_nextEnding_14 rfl (lv_at hl 2 rfl) ?_
          refine lv_iload_n hx hb dX7_nextEnding_15 rfl (lv_at hl 1 rfl) ?_
          have hFc := xfree_same hS hAe0 (ws := (wX7 cy a v)) hD
          refine va_calli (va_runV (As := [.int y2_3, .int x2]) (rest := []) ⟨hx, hb, hml, hown, hts⟩ (c_X7_endsAt l dC dI cy a _ v y2_3 x2 _ hq) (cwV 2 hts gX7_nextEnding_X7_endsAt rfl rfl rfl (by decide +kernel) ⟨Nat.le_of_ble_eq_true rfl, Nat.le_of_ble_eq_true rfl⟩) ⟨xPre_blind, va_recv hK hP (ci := 7) (q0 := 0) rfl rfl, xPre_of hP hK hD⟩ rfl rfl hl.1 rfl (lv_room (Nat.le_of_ble_eq_true rfl)) dX7_nextEnding_16 ⟨Nat.le_of_ble_eq_true rfl, Nat.le_of_ble_eq_true rfl⟩) hS (fun q _ h => hFc q h) hFc (fun r16 u9 t H locs ht hvm hq hB hz1 hk1 hS => ?_)
          obtain ⟨hP1, -, hD1⟩ := hB
          rw [ht] at hP1
          have hP : va_P (dC, dI) vwCl (wX7 cy a v) H := hP1
          have hD : va_D A (wX7 cy a v) := hD1.weaken (fun _ q _ h => hFc q.1 h)
          obtain ⟨hqA, hqB⟩ := hq
          refine lv_if_ne (tgt := 33) hx hb dX7_nextEnding_19 (by decide) (fun c4 => ?_) (fun c4 => ?_)
          · have hq := hqB c4
            exact J33 y2_3  _ _ _ hq hP hD hS (lv_sub hl [0, 2] rfl)
          · have hq := hqA c4
            refine lv_aload_n hx hb dX7_nextEnding_22 rfl (lv_at hl 0 rfl) ?_
            refine lv_iload_n hx hb dX7_nextEnding_23 rfl (lv_at hl 2 rfl) ?_
            have hFc := xfree_same hS hAe0 (ws := (wX7 cy a v)) hD
            refine va_calli (va_runV (As := [.int y2_3]) (rest := []) ⟨hx, hb, hml, hown, hts⟩ (c_X7_endFrom l dC dI cy a _ v y2_3 _ hq) (cwV 1 hts gX7_nextEnding_X7_endFrom rfl rfl rfl (by decide +kernel) ⟨Nat.le_of_ble_eq_true rfl, Nat.le_of_ble_eq_true rfl⟩) ⟨xPre_blind, va_recv hK hP (ci := 7) (q0 := 0) rfl rfl, xPre_of hP hK hD⟩ rfl rfl hl.1 rfl (lv_room (Nat.le_of_ble_eq_true rfl)) dX7_nextEnding_24 ⟨Nat.le_of_ble_eq_true rfl, Nat.le_of_ble_eq_true rfl⟩) hS (fun q _ h => hFc q h) hFc (fun r24 u9 t H locs ht hvm hq hB hz1 hk1 hS => ?_)
            obtain ⟨hP1, -, hD1⟩ := hB
            rw [ht] at hP1
            have hP : va_P (dC, dI) vwCl (wX7 cy a v) H := hP1
            have hD : va_D A (wX7 cy a v) := hD1.weaken (fun _ q _ h => hFc q.1 h)
            refine lv_iconst (v := 1) hx hb dX7_nextEnding_27 (by decide) ?_
            refine lv_iadd hx hb dX7_nextEnding_28 ?_
            refine lv_istore_n (lv' := [(3, .int (r24 + 1)), (0, .ref (a 0)), (2, .int x2)]) hx hb dX7_nextEnding_29 rfl hl (by decide) rfl (fun ls hl => ?_)
            refine lv_goto (tgt := 2) hx hb dX7_nextEnding_30 (by decide) ?_
            exact bk2 (r24 + 1) _ _ _ hq hP hD hS (lv_sub hl [1, 2, 0] rfl)
    exact key _ y2_3 H locs ls h0 (Nat.lt_succ_self _) hP hD hS hl
  refine lv_iload_n hx hb dX7_nextEnding_0 rfl (lv_at hl 1 rfl) ?_
  refine lv_istore_n (lv' := [(3, .int x1), (0, .ref (a 0)), (1, .int x1), (2, .int x2)]) hx hb dX7_nextEnding_1 rfl hl (by decide) rfl (fun ls hl => ?_)
  exact J2  x1 _ _ _ hq hP hD hS (lv_sub hl [1, 3, 0] rfl)
def wb_X7_endingAt_9 (v : V_X7) (x1 : Int32)  (y9_2 : Int32) (y9_3 : Int32) (B9 : Int32 → Int32 → Prop) (Q : Int32 → Prop) : Prop :=
  ((y9_3 = (-1) → Q y9_2) ∧
  (¬ y9_3 = (-1) → wp_X7_endFrom v y9_3 (fun r20 =>
  wp_X7_nextEnding v (r20 + 1) x1 (fun r26 =>
  B9 (y9_2 + 1) r26))))
def wp_X7_endingAt_9 (v : V_X7) (x1 : Int32)  (y9_2 : Int32) (y9_3 : Int32) (Q : Int32 → Prop) : Prop :=
  ∃ (I : Int32 → Int32 → Prop) (μ : Int32 → Int32 → Nat), I y9_2 y9_3 ∧ ∀ (s0 : Int32) (s1 : Int32), I s0 s1 → wb_X7_endingAt_9 v x1  s0 s1 (fun t0 t1 => I t0 t1 ∧ μ t0 t1 < μ s0 s1) Q
def wp_X7_endingAt (v : V_X7) (x1 : Int32) (Q : Int32 → Prop) : Prop :=
  wp_X7_nextEnding v 0 x1 (fun r5 =>
  wp_X7_endingAt_9 v x1  0 r5 Q)
def q_X7_endingAt (dC : Nat → ClassId) (dI : Nat → Nat → Nat) (cy : Nat → ClassId) (a : Nat → Nat) (v : V_X7) (x1 : Int32) (Q : Int32 → Prop) (A : Nat → Prop) : Array Value → State → Outcome → State → Prop := va_Qi (fun (r : Int32) (u : Unit) => Q r ) (fun (u : Unit) t => xAt dC dI cy A (wX7 cy a v) t) A
set_option maxHeartbeats 4000000 in
set_option maxRecDepth 100000 in
theorem c_X7_endingAt (l : Launch) (dC : Nat → ClassId) (dI : Nat → Nat → Nat) (cy : Nat → ClassId) (a : Nat → Nat) (sz : Nat) (v : V_X7) (x1 : Int32) (Q : Int32 → Prop) (hq : wp_X7_endingAt v x1 Q) : Met l yX7_endingAt wsX7_endingAt ({ frames := 3, cells := 0, slots := 0, locals := 67 } : Room) (va_Pc [.ref (a 0), .int x1] (xPre dC dI cy (wX7 cy a v) sz)) (q_X7_endingAt dC dI cy a v x1 Q (va_A (wX7 cy a v) sz)) 0 0 (va_A (wX7 cy a v) sz) := by
  refine Met.ofW (cc := cX7_endingAt) (maxL := 4) (ret := (some .int)) (by decide) rfl ?_
  intro p e s m args below meth c s₁ B hml hv
  obtain ⟨rfl, hsz, hP, hK, hD0⟩ := hv
  have hx := B.exec
  have hb := B.bytes
  have hr := B.returns
  have hts := atoms_spec (ws := wsX7_endingAt) B.pre
  have hown : s.vm.findClass RX7 = some m.cls := findClass_of_methodNamed B.named
  have hlocks := B.notSynchronized
  subst hsz
  have hD := hD0.self (sz := s.heap.size)
  generalize hAe : va_A (wX7 cy a v) s.heap.size = A at hD ⊢
  have hAe0 : ∀ q : Nat, s.heap.size ≤ q → A q := fun q h => by rw [← hAe]; exact Or.inr h
  have hS : va_S A s.heap s.heap [] := va_S.rf
  have hl := lv_entry ([.ref (a 0), .int x1]) (n := 4) (Nat.le_of_ble_eq_true rfl)
  rw [lg_entry_eq]
  generalize (lg_sl ([.ref (a 0), .int x1]) ++ List.replicate (4 - (lg_sl ([.ref (a 0), .int x1])).length) Slot.unset).toArray = ls at hl ⊢
  have hl : lv_has ls 4 [(0, .ref (a 0)), (1, .int x1)] := hl
  unfold wp_X7_endingAt at hq
  have J9 : ∀  (y9_2 : Int32) (y9_3 : Int32) (H : Heap) (locs : List Loc) (ls : Array Slot), wp_X7_endingAt_9 v x1  y9_2 y9_3 Q → va_P (dC, dI) vwCl (wX7 cy a v) H → va_D A (wX7 cy a v) → va_S A s.heap H locs → lv_has ls 4 [(0, .ref (a 0)), (1, .int x1), (2, .int y9_2), (3, .int y9_3)] → W p l e (headSpec wsX7_endingAt ({ frames := 3, cells := 0, slots := 0, locals := 67 } : Room)).room s m ([.ref (a 0), .int x1] : List Value).toArray below meth c H locs 0 0 (MQ below (q_X7_endingAt dC dI cy a v x1 Q A) ([.ref (a 0), .int x1] : List Value).toArray s 0 0 A) (F0 m 9 ls []) := by
    intro  y9_2 y9_3 H locs ls hq hP hD hS hl
    obtain ⟨I9, μ9, h0, hs9⟩ := hq
    have key : ∀ (n : Nat) (y9_2 : Int32) (y9_3 : Int32) (H : Heap) (locs : List Loc) (ls : Array Slot), I9 y9_2 y9_3 → μ9 y9_2 y9_3 < n → va_P (dC, dI) vwCl (wX7 cy a v) H → va_D A (wX7 cy a v) → va_S A s.heap H locs → lv_has ls 4 [(0, .ref (a 0)), (1, .int x1), (2, .int y9_2), (3, .int y9_3)] → W p l e (headSpec wsX7_endingAt ({ frames := 3, cells := 0, slots := 0, locals := 67 } : Room)).room s m ([.ref (a 0), .int x1] : List Value).toArray below meth c H locs 0 0 (MQ below (q_X7_endingAt dC dI cy a v x1 Q A) ([.ref (a 0), .int x1] : List Value).toArray s 0 0 A) (F0 m 9 ls []) := by
      intro n
      induction n with
      | zero => intro y9_2 y9_3 H locs ls _ hm; exact absurd hm (Nat.not_lt_zero _)
      | succ n ih =>
        intro y9_2 y9_3 H locs ls hI hm hP hD hS hl
        have hq := hs9 y9_2 y9_3 hI
        generalize hB9 : (fun (t0 : Int32) (t1 : Int32) => I9 t0 t1 ∧ μ9 t0 t1 < μ9 y9_2 y9_3) = B9 at hq
        have bk9 : ∀ (y9_2 : Int32) (y9_3 : Int32) (H : Heap) (locs : List Loc) (ls : Array Slot), B9 y9_2 y9_3 → va_P (dC, dI) vwCl (wX7 cy a v) H → va_D A (wX7 cy a v) → va_S A s.heap H locs → lv_has ls 4 [(0, .ref (a 0)), (1, .int x1), (2, .int y9_2), (3, .int y9_3)] → W p l e (headSpec wsX7_endingAt ({ frames := 3, cells := 0, slots := 0, locals := 67 } : Room)).room s m ([.ref (a 0), .int x1] : List Value).toArray below meth c H locs 0 0 (MQ below (q_X7_endingAt dC dI cy a v x1 Q A) ([.ref (a 0), .int x1] : List Value).toArray s 0 0 A) (F0 m 9 ls []) := by
          intro y9_2 y9_3 H locs ls h
          rw [← hB9] at h
          exact ih y9_2 y9_3 H locs ls h.1 (Nat.lt_of_lt_of_le h.2 (Nat.le_of_lt_succ hm))
        unfold wb_X7_endingAt_9 at hq
        refine lv_iload_n hx hb dX7_endingAt_9 rfl (lv_at hl 3 rfl) ?_
        refine lv_iconst (v := (-1)) hx hb dX7_endingAt_10 (by decide) ?_
        obtain ⟨hqA, hqB⟩ := hq
        refine lv_icmp_eq (tgt := 33) hx hb dX7_endingAt_11 (by decide) (fun c1 => ?_) (fun c1 => ?_)
        · have hq := hqA c1
          refine lv_iload_n hx hb dX7_endingAt_33 rfl (lv_at hl 2 rfl) ?_
          exact W.iret (v := y9_2) hx hb hr (fun t ht hW => ⟨⟨y9_2, (), rfl, hq, (xAt_of hP hK hD ht hW)⟩, hS.F ht⟩) hS.2.2 dX7_endingAt_34
        · have hq := hqB c1
          refine lv_iinc (v := (y9_2 + 1)) (lv' := [(2, .int (y9_2 + 1)), (0, .ref (a 0)), (1, .int x1), (3, .int y9_3)]) hx hb dX7_endingAt_14 hl (k := 2) rfl rfl (by decide) rfl (fun ls hl => ?_)
          refine lv_aload_n hx hb dX7_endingAt_17 rfl (lv_at hl 1 rfl) ?_
          refine lv_aload_n hx hb dX7_endingAt_18 rfl (lv_at hl 1 rfl) ?_
          refine lv_iload_n hx hb dX7_endingAt_19 rfl (lv_at hl 3 rfl) ?_
          have hFc := xfree_same hS hAe0 (ws := (wX7 cy a v)) hD
          refine va_calli (va_runV (As := [.int y9_3]) (rest := [.ref (a 0)]) ⟨hx, hb, hml, hown, hts⟩ (c_X7_endFrom l dC dI cy a _ v y9_3 _ hq) (cwV 1 hts gX7_endingAt_X7_endFrom rfl rfl rfl (by decide +kernel) ⟨Nat.le_of_ble_eq_true rfl, Nat.le_of_ble_eq_true rfl⟩) ⟨xPre_blind, va_recv hK hP (ci := 7) (q0 := 0) rfl rfl, xPre_of hP hK hD⟩ rfl rfl hl.1 rfl (lv_room (Nat.le_of_ble_eq_true rfl)) dX7_endingAt_20 ⟨Nat.le_of_ble_eq_true rfl, Nat.le_of_ble_eq_true rfl⟩) hS (fun q _ h => hFc q h) hFc (fun r20 u9 t H locs ht hvm hq hB hz1 hk1 hS => ?_)
          obtain ⟨hP1, -, hD1⟩ := hB
          rw [ht] at hP1
          have hP : va_P (dC, dI) vwCl (wX7 cy a v) H := hP1
          have hD : va_D A (wX7 cy a v) := hD1.weaken (fun _ q _ h => hFc q.1 h)
          refine lv_iconst (v := 1) hx hb dX7_endingAt_23 (by decide) ?_
          refine lv_iadd hx hb dX7_endingAt_24 ?_
          refine lv_iload_n hx hb dX7_endingAt_25 rfl (lv_at hl 2 rfl) ?_
          have hFc := xfree_same hS hAe0 (ws := (wX7 cy a v)) hD
          refine va_calli (va_runV (As := [.int (r20 + 1), .int x1]) (rest := []) ⟨hx, hb, hml, hown, hts⟩ (c_X7_nextEnding l dC dI cy a _ v (r20 + 1) x1 _ hq) (cwV 2 hts gX7_endingAt_X7_nextEnding rfl rfl rfl (by decide +kernel) ⟨Nat.le_of_ble_eq_true rfl, Nat.le_of_ble_eq_true rfl⟩) ⟨xPre_blind, va_recv hK hP (ci := 7) (q0 := 0) rfl rfl, xPre_of hP hK hD⟩ rfl rfl hl.1 rfl (lv_room (Nat.le_of_ble_eq_true rfl)) dX7_endingAt_26 ⟨Nat.le_of_ble_eq_true rfl, Nat.le_of_ble_eq_true rfl⟩) hS (fun q _ h => hFc q h) hFc (fun r26 u9 t H locs ht hvm hq hB hz1 hk1 hS => ?_)
          obtain ⟨hP1, -, hD1⟩ := hB
          rw [ht] at hP1
          have hP : va_P (dC, dI) vwCl (wX7 cy a v) H := hP1
          have hD : va_D A (wX7 cy a v) := hD1.weaken (fun _ q _ h => hFc q.1 h)
          refine lv_istore_n (lv' := [(3, .int r26), (2, .int (y9_2 + 1)), (0, .ref (a 0)), (1, .int x1)]) hx hb dX7_endingAt_29 rfl hl (by decide) rfl (fun ls hl => ?_)
          refine lv_goto (tgt := 9) hx hb dX7_endingAt_30 (by decide) ?_
          exact bk9 (y9_2 + 1) r26 _ _ _ hq hP hD hS (lv_sub hl [2, 3, 1, 0] rfl)
    exact key _ y9_2 y9_3 H locs ls h0 (Nat.lt_succ_self _) hP hD hS hl
  refine lv_iconst (v := 0) hx hb dX7_endingAt_0 (by decide) ?_
  refine lv_istore_n (lv' := [(2, .int 0), (0, .ref (a 0)), (1, .int x1)]) hx hb dX7_endingAt_1 rfl hl (by decide) rfl (fun ls hl => ?_)
  refine lv_aload_n hx hb dX7_endingAt_2 rfl (lv_at hl 1 rfl) ?_
  refine lv_iconst (v := 0) hx hb dX7_endingAt_3 (by decide) ?_
  refine lv_iload_n hx hb dX7_endingAt_4 rfl (lv_at hl 2 rfl) ?_
  have hFc := xfree_same hS hAe0 (ws := (wX7 cy a v)) hD
  refine va_calli (va_runV (As := [.int 0, .int x1]) (rest := []) ⟨hx, hb, hml, hown, hts⟩ (c_X7_nextEnding l dC dI cy a _ v 0 x1 _ hq) (cwV 2 hts gX7_endingAt_X7_nextEnding rfl rfl rfl (by decide +kernel) ⟨Nat.le_of_ble_eq_true rfl, Nat.le_of_ble_eq_true rfl⟩) ⟨xPre_blind, va_recv hK hP (ci := 7) (q0 := 0) rfl rfl, xPre_of hP hK hD⟩ rfl rfl hl.1 rfl (lv_room (Nat.le_of_ble_eq_true rfl)) dX7_endingAt_5 ⟨Nat.le_of_ble_eq_true rfl, Nat.le_of_ble_eq_true rfl⟩) hS (fun q _ h => hFc q h) hFc (fun r5 u9 t H locs ht hvm hq hB hz1 hk1 hS => ?_)
  obtain ⟨hP1, -, hD1⟩ := hB
  rw [ht] at hP1
  have hP : va_P (dC, dI) vwCl (wX7 cy a v) H := hP1
  have hD : va_D A (wX7 cy a v) := hD1.weaken (fun _ q _ h => hFc q.1 h)
  refine lv_istore_n (lv' := [(3, .int r5), (2, .int 0), (0, .ref (a 0)), (1, .int x1)]) hx hb dX7_endingAt_8 rfl hl (by decide) rfl (fun ls hl => ?_)
  exact J9  0 r5 _ _ _ hq hP hD hS (lv_sub hl [2, 3, 1, 0] rfl)
def wb_X7_joins_182 (v : V_X7) (x1 : Int32) (x2 : Int32) (x3 : Int32) (y182_6 : Int32) (z182_v_joint : (Nat → Int32)) (y182_8 : Int32) (z182_v_s : (Nat → Int32)) (B182 : Int32 → (Nat → Int32) → Prop) (Q : (Nat → Int32) → (Nat → Int32) → Prop) : Prop :=
  ((y182_6 ≤ y182_8 → Q z182_v_joint z182_v_s) ∧
  (¬ y182_6 ≤ y182_8 → vp_in y182_8 1024 ∧ ((y182_8 = (y182_6 - 1) → vp_in ((448 + x1) + y182_8) 1472 ∧ B182 (y182_8 + 1) (upd z182_v_s ((448 + x1) + y182_8).toNatClampNeg ((z182_v_joint y182_8.toNatClampNeg) + 64))) ∧
  (¬ y182_8 = (y182_6 - 1) → vp_in ((448 + x1) + y182_8) 1472 ∧ B182 (y182_8 + 1) (upd z182_v_s ((448 + x1) + y182_8).toNatClampNeg ((z182_v_joint y182_8.toNatClampNeg) + 0))))))
def wp_X7_joins_182 (v : V_X7) (x1 : Int32) (x2 : Int32) (x3 : Int32) (y182_6 : Int32) (z182_v_joint : (Nat → Int32)) (y182_8 : Int32) (z182_v_s : (Nat → Int32)) (Q : (Nat → Int32) → (Nat → Int32) → Prop) : Prop :=
  ∃ (I : Int32 → (Nat → Int32) → Prop) (μ : Int32 → (Nat → Int32) → Nat), I y182_8 z182_v_s ∧ ∀ (s0 : Int32) (s1 : (Nat → Int32)), I s0 s1 → wb_X7_joins_182 v x1 x2 x3 y182_6 z182_v_joint s0 s1 (fun t0 t1 => I t0 t1 ∧ μ t0 t1 < μ s0 s1) Q
def wp_X7_joins_135 (v : V_X7) (x1 : Int32) (x2 : Int32) (x3 : Int32) (y102_4 : Int32) (y102_5 : Int32) (y102_7 : Int32) (y102_6 : Int32) (y102_8 : Int32) (z102_v_joint : (Nat → Int32)) (B102 : Int32 → Int32 → (Nat → Int32) → Prop) (k135_0 : Int32) (k135_2 : Int32) (Q : (Nat → Int32) → (Nat → Int32) → Prop) : Prop :=
  wp_X7_tuftAt (X7_s9 v z102_v_joint) k135_0 (fun r135 =>
  vp_in k135_2 1024 ∧ B102 (y102_6 + 1) (y102_8 + 1) (upd z102_v_joint k135_2.toNatClampNeg r135))
def wb_X7_joins_102 (v : V_X7) (x1 : Int32) (x2 : Int32) (x3 : Int32) (y102_4 : Int32) (y102_5 : Int32) (y102_7 : Int32) (y102_6 : Int32) (y102_8 : Int32) (z102_v_joint : (Nat → Int32)) (B102 : Int32 → Int32 → (Nat → Int32) → Prop) (Q : (Nat → Int32) → (Nat → Int32) → Prop) : Prop :=
  (((y102_5 - x2) < y102_8 → wp_X7_shifts (X7_s9 v z102_v_joint) (y102_5 + 1) ((x2 - y102_5) - 1) (fun z159_v_s =>
  wp_X7_shifts (X7_s9 (X7_s0 v z159_v_s) z102_v_joint) (y102_4 + 1) (y102_6 - ((y102_4 - x1) + 1)) (fun z176_v_s =>
  wp_X7_joins_182 v x1 x2 x3 y102_6 z102_v_joint 0 z176_v_s Q))) ∧
  (¬ (y102_5 - x2) < y102_8 → ((y102_7 = 0 → wp_X7_joins_135 v x1 x2 x3 y102_4 y102_5 y102_7 y102_6 y102_8 z102_v_joint B102 (y102_5 - y102_8) y102_6  Q) ∧
  (¬ y102_7 = 0 → wp_X7_joins_135 v x1 x2 x3 y102_4 y102_5 y102_7 y102_6 y102_8 z102_v_joint B102 (x2 + y102_8) y102_6  Q))))
def wp_X7_joins_102 (v : V_X7) (x1 : Int32) (x2 : Int32) (x3 : Int32) (y102_4 : Int32) (y102_5 : Int32) (y102_7 : Int32) (y102_6 : Int32) (y102_8 : Int32) (z102_v_joint : (Nat → Int32)) (Q : (Nat → Int32) → (Nat → Int32) → Prop) : Prop :=
  ∃ (I : Int32 → Int32 → (Nat → Int32) → Prop) (μ : Int32 → Int32 → (Nat → Int32) → Nat), I y102_6 y102_8 z102_v_joint ∧ ∀ (s0 : Int32) (s1 : Int32) (s2 : (Nat → Int32)), I s0 s1 s2 → wb_X7_joins_102 v x1 x2 x3 y102_4 y102_5 y102_7 s0 s1 s2 (fun t0 t1 t2 => I t0 t1 t2 ∧ μ t0 t1 t2 < μ s0 s1 s2) Q
def wp_X7_joins_70 (v : V_X7) (x1 : Int32) (x2 : Int32) (x3 : Int32) (y37_4 : Int32) (y37_5 : Int32) (y37_7 : Int32) (y37_6 : Int32) (y37_8 : Int32) (z37_v_joint : (Nat → Int32)) (B37 : Int32 → Int32 → (Nat → Int32) → Prop) (k70_0 : Int32) (k70_2 : Int32) (Q : (Nat → Int32) → (Nat → Int32) → Prop) : Prop :=
  wp_X7_tuftAt (X7_s9 v z37_v_joint) k70_0 (fun r70 =>
  vp_in k70_2 1024 ∧ B37 (y37_6 + 1) (y37_8 + 1) (upd z37_v_joint k70_2.toNatClampNeg r70))
def wb_X7_joins_37 (v : V_X7) (x1 : Int32) (x2 : Int32) (x3 : Int32) (y37_4 : Int32) (y37_5 : Int32) (y37_7 : Int32) (y37_6 : Int32) (y37_8 : Int32) (z37_v_joint : (Nat → Int32)) (B37 : Int32 → Int32 → (Nat → Int32) → Prop) (Q : (Nat → Int32) → (Nat → Int32) → Prop) : Prop :=
  (((y37_4 - x1) < y37_8 → wp_X7_tuftAt (X7_s9 v z37_v_joint) x2 (fun r85 =>
  ((r85 = x3 → wp_X7_joins_102 v x1 x2 x3 y37_4 y37_5 1 y37_6 1 z37_v_joint Q) ∧
  (¬ r85 = x3 → wp_X7_joins_102 v x1 x2 x3 y37_4 y37_5 0 y37_6 1 z37_v_joint Q)))) ∧
  (¬ (y37_4 - x1) < y37_8 → ((y37_7 = 0 → wp_X7_joins_70 v x1 x2 x3 y37_4 y37_5 y37_7 y37_6 y37_8 z37_v_joint B37 (y37_4 - y37_8) y37_6  Q) ∧
  (¬ y37_7 = 0 → wp_X7_joins_70 v x1 x2 x3 y37_4 y37_5 y37_7 y37_6 y37_8 z37_v_joint B37 (x1 + y37_8) y37_6  Q))))
def wp_X7_joins_37 (v : V_X7) (x1 : Int32) (x2 : Int32) (x3 : Int32) (y37_4 : Int32) (y37_5 : Int32) (y37_7 : Int32) (y37_6 : Int32) (y37_8 : Int32) (z37_v_joint : (Nat → Int32)) (Q : (Nat → Int32) → (Nat → Int32) → Prop) : Prop :=
  ∃ (I : Int32 → Int32 → (Nat → Int32) → Prop) (μ : Int32 → Int32 → (Nat → Int32) → Nat), I y37_6 y37_8 z37_v_joint ∧ ∀ (s0 : Int32) (s1 : Int32) (s2 : (Nat → Int32)), I s0 s1 s2 → wb_X7_joins_37 v x1 x2 x3 y37_4 y37_5 y37_7 s0 s1 s2 (fun t0 t1 t2 => I t0 t1 t2 ∧ μ t0 t1 t2 < μ s0 s1 s2) Q
def wp_X7_joins (v : V_X7) (x1 : Int32) (x2 : Int32) (x3 : Int32) (Q : (Nat → Int32) → (Nat → Int32) → Prop) : Prop :=
  wp_X7_endFrom v x1 (fun r2 =>
  wp_X7_endFrom v x2 (fun r9 =>
  wp_X7_tuftAt v r2 (fun r20 =>
  ((r20 = x3 → wp_X7_joins_37 v x1 x2 x3 r2 r9 1 0 0 (X7_joint v) Q) ∧
  (¬ r20 = x3 → wp_X7_joins_37 v x1 x2 x3 r2 r9 0 0 0 (X7_joint v) Q)))))
def q_X7_joins (dC : Nat → ClassId) (dI : Nat → Nat → Nat) (cy : Nat → ClassId) (a : Nat → Nat) (v : V_X7) (x1 : Int32) (x2 : Int32) (x3 : Int32) (Q : (Nat → Int32) → (Nat → Int32) → Prop) (A : Nat → Prop) : Array Value → State → Outcome → State → Prop := va_Qv (fun (u : (Nat → Int32) × (Nat → Int32)) => Q u.1 u.2) (fun (u : (Nat → Int32) × (Nat → Int32)) t => xAt dC dI cy A (cX7 cy a u.2 (X7_aside v) (X7_kept v) (X7_isKept v) (X7_saved v) (X7_savedMany v) (X7_text v) (X7_length v) (X7_thrown v) u.1 (X7_position v) (X7_isWrong v) (X7_isHollow v) (X7_sure v) (X7_away v) (X7_digested v)) t) A
set_option maxHeartbeats 4000000 in
set_option maxRecDepth 100000 in
theorem c_X7_joins (l : Launch) (dC : Nat → ClassId) (dI : Nat → Nat → Nat) (cy : Nat → ClassId) (a : Nat → Nat) (sz : Nat) (v : V_X7) (x1 : Int32) (x2 : Int32) (x3 : Int32) (Q : (Nat → Int32) → (Nat → Int32) → Prop) (hq : wp_X7_joins v x1 x2 x3 Q) : Met l yX7_joins wsX7_joins ({ frames := 1, cells := 0, slots := 0, locals := 23 } : Room) (va_Pc [.ref (a 0), .int x1, .int x2, .int x3] (xPre dC dI cy (wX7 cy a v) sz)) (q_X7_joins dC dI cy a v x1 x2 x3 Q (va_A (wX7 cy a v) sz)) 0 0 (va_A (wX7 cy a v) sz) := by
  refine Met.ofW (cc := cX7_joins) (maxL := 9) (ret := none) (by decide) rfl ?_
  intro p e s m args below meth c s₁ B hml hv
  obtain ⟨rfl, hsz, hP, hK, hD0⟩ := hv
  have hx := B.exec
  have hb := B.bytes
  have hr := B.returns
  have hts := atoms_spec (ws := wsX7_joins) B.pre
  have hown : s.vm.findClass RX7 = some m.cls := findClass_of_methodNamed B.named
  have hlocks := B.notSynchronized
  subst hsz
  have hD := hD0.self (sz := s.heap.size)
  generalize hAe : va_A (wX7 cy a v) s.heap.size = A at hD ⊢
  have hAe0 : ∀ q : Nat, s.heap.size ≤ q → A q := fun q h => by rw [← hAe]; exact Or.inr h
  have hS : va_S A s.heap s.heap [] := va_S.rf
  have hl := lv_entry ([.ref (a 0), .int x1, .int x2, .int x3]) (n := 9) (Nat.le_of_ble_eq_true rfl)
  rw [lg_entry_eq]
  generalize (lg_sl ([.ref (a 0), .int x1, .int x2, .int x3]) ++ List.replicate (9 - (lg_sl ([.ref (a 0), .int x1, .int x2, .int x3])).length) Slot.unset).toArray = ls at hl ⊢
  have hl : lv_has ls 9 [(0, .ref (a 0)), (1, .int x1), (2, .int x2), (3, .int x3)] := hl
  have lk0 := hts (Cond.fieldLink RX7 7 "MolesLawnModel" "s" "[I") (List.mem_cons_of_mem _ (List.mem_append_left _ (List.mem_of_getElem? (i := 1) rfl)))
  have lk1 := hts (Cond.fieldLink RX7 25 "MolesLawnModel" "joint" "[I") (List.mem_cons_of_mem _ (List.mem_append_left _ (List.mem_of_getElem? (i := 0) rfl)))
  have iK7 : ∀ w ∈ wsX70, w ∈ wsX7_joins := fun _ h => (List.mem_cons_of_mem _ (List.mem_append_right _ h))
  unfold wp_X7_joins at hq
  have J182 : ∀ (y182_6 : Int32) (z182_v_joint : (Nat → Int32)) (y182_8 : Int32) (z182_v_s : (Nat → Int32)) (H : Heap) (locs : List Loc) (ls : Array Slot), wp_X7_joins_182 v x1 x2 x3 y182_6 z182_v_joint y182_8 z182_v_s Q → va_P (dC, dI) vwCl (cX7 cy a z182_v_s (X7_aside v) (X7_kept v) (X7_isKept v) (X7_saved v) (X7_savedMany v) (X7_text v) (X7_length v) (X7_thrown v) z182_v_joint (X7_position v) (X7_isWrong v) (X7_isHollow v) (X7_sure v) (X7_away v) (X7_digested v)) H → va_D A (cX7 cy a z182_v_s (X7_aside v) (X7_kept v) (X7_isKept v) (X7_saved v) (X7_savedMany v) (X7_text v) (X7_length v) (X7_thrown v) z182_v_joint (X7_position v) (X7_isWrong v) (X7_isHollow v) (X7_sure v) (X7_away v) (X7_digested v)) → va_S A s.heap H locs → lv_has ls 9 [(0, .ref (a 0)), (1, .int x1), (6, .int y182_6), (8, .int y182_8)] → W p l e (headSpec wsX7_joins ({ frames := 1, cells := 0, slots := 0, locals := 23 } : Room)).room s m ([.ref (a 0), .int x1, .int x2, .int x3] : List Value).toArray below meth c H locs 0 0 (MQ below (q_X7_joins dC dI cy a v x1 x2 x3 Q A) ([.ref (a 0), .int x1, .int x2, .int x3] : List Value).toArray s 0 0 A) (F0 m 182 ls []) := by
    intro y182_6 z182_v_joint y182_8 z182_v_s H locs ls hq hP hD hS hl
    obtain ⟨I182, μ182, h0, hs182⟩ := hq
    have key : ∀ (n : Nat) (y182_8 : Int32) (z182_v_s : (Nat → Int32)) (H : Heap) (locs : List Loc) (ls : Array Slot), I182 y182_8 z182_v_s → μ182 y182_8 z182_v_s < n → va_P (dC, dI) vwCl (cX7 cy a z182_v_s (X7_aside v) (X7_kept v) (X7_isKept v) (X7_saved v) (X7_savedMany v) (X7_text v) (X7_length v) (X7_thrown v) z182_v_joint (X7_position v) (X7_isWrong v) (X7_isHollow v) (X7_sure v) (X7_away v) (X7_digested v)) H → va_D A (cX7 cy a z182_v_s (X7_aside v) (X7_kept v) (X7_isKept v) (X7_saved v) (X7_savedMany v) (X7_text v) (X7_length v) (X7_thrown v) z182_v_joint (X7_position v) (X7_isWrong v) (X7_isHollow v) (X7_sure v) (X7_away v) (X7_digested v)) → va_S A s.heap H locs → lv_has ls 9 [(0, .ref (a 0)), (1, .int x1), (6, .int y182_6), (8, .int y182_8)] → W p l e (headSpec wsX7_joins ({ frames := 1, cells := 0, slots := 0, locals := 23 } : Room)).room s m ([.ref (a 0), .int x1, .int x2, .int x3] : List Value).toArray below meth c H locs 0 0 (MQ below (q_X7_joins dC dI cy a v x1 x2 x3 Q A) ([.ref (a 0), .int x1, .int x2, .int x3] : List Value).toArray s 0 0 A) (F0 m 182 ls []) := by
      intro n
      induction n with
      | zero => intro y182_8 z182_v_s H locs ls _ hm; exact absurd hm (Nat.not_lt_zero _)
      | succ n ih =>
        intro y182_8 z182_v_s H locs ls hI hm hP hD hS hl
        have hq := hs182 y182_8 z182_v_s hI
        generalize hB182 : (fun (t0 : Int32) (t1 : (Nat → Int32)) => I182 t0 t1 ∧ μ182 t0 t1 < μ182 y182_8 z182_v_s) = B182 at hq
        have bk182 : ∀ (y182_8 : Int32) (z182_v_s : (Nat → Int32)) (H : Heap) (locs : List Loc) (ls : Array Slot), B182 y182_8 z182_v_s → va_P (dC, dI) vwCl (cX7 cy a z182_v_s (X7_aside v) (X7_kept v) (X7_isKept v) (X7_saved v) (X7_savedMany v) (X7_text v) (X7_length v) (X7_thrown v) z182_v_joint (X7_position v) (X7_isWrong v) (X7_isHollow v) (X7_sure v) (X7_away v) (X7_digested v)) H → va_D A (cX7 cy a z182_v_s (X7_aside v) (X7_kept v) (X7_isKept v) (X7_saved v) (X7_savedMany v) (X7_text v) (X7_length v) (X7_thrown v) z182_v_joint (X7_position v) (X7_isWrong v) (X7_isHollow v) (X7_sure v) (X7_away v) (X7_digested v)) → va_S A s.heap H locs → lv_has ls 9 [(0, .ref (a 0)), (1, .int x1), (6, .int y182_6), (8, .int y182_8)] → W p l e (headSpec wsX7_joins ({ frames := 1, cells := 0, slots := 0, locals := 23 } : Room)).room s m ([.ref (a 0), .int x1, .int x2, .int x3] : List Value).toArray below meth c H locs 0 0 (MQ below (q_X7_joins dC dI cy a v x1 x2 x3 Q A) ([.ref (a 0), .int x1, .int x2, .int x3] : List Value).toArray s 0 0 A) (F0 m 182 ls []) := by
          intro y182_8 z182_v_s H locs ls h
          rw [← hB182] at h
          exact ih y182_8 z182_v_s H locs ls h.1 (Nat.lt_of_lt_of_le h.2 (Nat.le_of_lt_succ hm))
        unfold wb_X7_joins_182 at hq
        refine lv_iload hx hb dX7_joins_182 (lv_at hl 3 rfl) ?_
        refine lv_iload hx hb dX7_joins_184 (lv_at hl 2 rfl) ?_
        obtain ⟨hqA, hqB⟩ := hq
        refine lv_icmp_ge (tgt := 231) hx hb dX7_joins_186 (by decide) (fun c5 => ?_) (fun c5 => ?_)
        · have hq := hqA c5
          exact W.vret hx hb hr (fun t ht hW => ⟨⟨(z182_v_joint, z182_v_s), rfl, hq, (xAt_of hP hK hD ht hW)⟩, hS.F ht⟩) hS.2.2 dX7_joins_231
        · have hq := hqB c5
          refine lv_aload_n hx hb dX7_joins_189 rfl (lv_at hl 0 rfl) ?_
          refine va_get (D := (dC, dI)) (ci := 7) (v := .ref (a 1)) (C := RX7) (T := TX7) (N := 16) hx hb hts iK7 hown hK hP 0 rfl rfl 0 (by decide) lk0 (fun _ h9 => h9) rfl dX7_joins_190 ?_
          refine lv_sipush (v := 448) hx hb dX7_joins_193 (by decide) ?_
          refine lv_iload_n hx hb dX7_joins_196 rfl (lv_at hl 1 rfl) ?_
          refine lv_iadd hx hb dX7_joins_197 ?_
          refine lv_iload hx hb dX7_joins_198 (lv_at hl 3 rfl) ?_
          refine lv_iadd hx hb dX7_joins_200 ?_
          refine lv_aload_n hx hb dX7_joins_201 rfl (lv_at hl 0 rfl) ?_
          refine va_get (D := (dC, dI)) (ci := 7) (v := .ref (a 6)) (C := RX7) (T := TX7) (N := 16) hx hb hts iK7 hown hK hP 0 rfl rfl 9 (by decide) lk1 (fun _ h9 => h9) rfl dX7_joins_202 ?_
          refine lv_iload hx hb dX7_joins_205 (lv_at hl 3 rfl) ?_
          obtain ⟨g1, hq⟩ := hq
          refine va_iald hx hb hK hP 6 0 rfl rfl g1 dX7_joins_207 ?_
          refine lv_iload hx hb dX7_joins_208 (lv_at hl 3 rfl) ?_
          refine lv_iload hx hb dX7_joins_210 (lv_at hl 2 rfl) ?_
          refine lv_iconst (v := 1) hx hb dX7_joins_212 (by decide) ?_
          refine lv_isub hx hb dX7_joins_213 ?_
          obtain ⟨hqA, hqB⟩ := hq
          refine lv_icmp_ne (tgt := 222) hx hb dX7_joins_214 (by decide) (fun c4 => ?_) (fun c4 => ?_)
          · have hq := hqB c4
            refine lv_iconst (v := 0) hx hb dX7_joins_222 (by decide) ?_
            refine lv_iadd hx hb dX7_joins_223 ?_
            obtain ⟨g2, hq⟩ := hq
            refine va_iast hx hb hK hP hD hS 1 0 rfl rfl g2 dX7_joins_224 (fun H locs hP hD hS => ?_)
            have hP : va_P (dC, dI) vwCl (cX7 cy a (upd z182_v_s ((448 + x1) + y182_8).toNatClampNeg ((z182_v_joint y182_8.toNatClampNeg) + 0)) (X7_aside v) (X7_kept v) (X7_isKept v) (X7_saved v) (X7_savedMany v) (X7_text v) (X7_length v) (X7_thrown v) z182_v_joint (X7_position v) (X7_isWrong v) (X7_isHollow v) (X7_sure v) (X7_away v) (X7_digested v)) H := hP
            have hD : va_D A (cX7 cy a (upd z182_v_s ((448 + x1) + y182_8).toNatClampNeg ((z182_v_joint y182_8.toNatClampNeg) + 0)) (X7_aside v) (X7_kept v) (X7_isKept v) (X7_saved v) (X7_savedMany v) (X7_text v) (X7_length v) (X7_thrown v) z182_v_joint (X7_position v) (X7_isWrong v) (X7_isHollow v) (X7_sure v) (X7_away v) (X7_digested v)) := hD
            refine lv_iinc (v := (y182_8 + 1)) (lv' := [(8, .int (y182_8 + 1)), (0, .ref (a 0)), (1, .int x1), (6, .int y182_6)]) hx hb dX7_joins_225 hl (k := 3) rfl rfl (by decide) rfl (fun ls hl => ?_)
            refine lv_goto (tgt := 182) hx hb dX7_joins_228 (by decide) ?_
            exact bk182 (y182_8 + 1) (upd z182_v_s ((448 + x1) + y182_8).toNatClampNeg ((z182_v_joint y182_8.toNatClampNeg) + 0)) _ _ _ hq hP hD hS (lv_sub hl [1, 2, 3, 0] rfl)
          · have hq := hqA c4
            refine lv_bipush (v := 64) hx hb dX7_joins_217 (by decide) ?_
            refine lv_goto (tgt := 223) hx hb dX7_joins_219 (by decide) ?_
            refine lv_iadd hx hb dX7_joins_223 ?_
            obtain ⟨g3, hq⟩ := hq
            refine va_iast hx hb hK hP hD hS 1 0 rfl rfl g3 dX7_joins_224 (fun H locs hP hD hS => ?_)
            have hP : va_P (dC, dI) vwCl (cX7 cy a (upd z182_v_s ((448 + x1) + y182_8).toNatClampNeg ((z182_v_joint y182_8.toNatClampNeg) + 64)) (X7_aside v) (X7_kept v) (X7_isKept v) (X7_saved v) (X7_savedMany v) (X7_text v) (X7_length v) (X7_thrown v) z182_v_joint (X7_position v) (X7_isWrong v) (X7_isHollow v) (X7_sure v) (X7_away v) (X7_digested v)) H := hP
            have hD : va_D A (cX7 cy a (upd z182_v_s ((448 + x1) + y182_8).toNatClampNeg ((z182_v_joint y182_8.toNatClampNeg) + 64)) (X7_aside v) (X7_kept v) (X7_isKept v) (X7_saved v) (X7_savedMany v) (X7_text v) (X7_length v) (X7_thrown v) z182_v_joint (X7_position v) (X7_isWrong v) (X7_isHollow v) (X7_sure v) (X7_away v) (X7_digested v)) := hD
            refine lv_iinc (v := (y182_8 + 1)) (lv' := [(8, .int (y182_8 + 1)), (0, .ref (a 0)), (1, .int x1), (6, .int y182_6)]) hx hb dX7_joins_225 hl (k := 3) rfl rfl (by decide) rfl (fun ls hl => ?_)
            refine lv_goto (tgt := 182) hx hb dX7_joins_228 (by decide) ?_
            exact bk182 (y182_8 + 1) (upd z182_v_s ((448 + x1) + y182_8).toNatClampNeg ((z182_v_joint y182_8.toNatClampNeg) + 64)) _ _ _ hq hP hD hS (lv_sub hl [1, 2, 3, 0] rfl)
    exact key _ y182_8 z182_v_s H locs ls h0 (Nat.lt_succ_self _) hP hD hS hl
  have J102 : ∀ (y102_4 : Int32) (y102_5 : Int32) (y102_7 : Int32) (y102_6 : Int32) (y102_8 : Int32) (z102_v_joint : (Nat → Int32)) (H : Heap) (locs : List Loc) (ls : Array Slot), wp_X7_joins_102 v x1 x2 x3 y102_4 y102_5 y102_7 y102_6 y102_8 z102_v_joint Q → va_P (dC, dI) vwCl (cX7 cy a (X7_s v) (X7_aside v) (X7_kept v) (X7_isKept v) (X7_saved v) (X7_savedMany v) (X7_text v) (X7_length v) (X7_thrown v) z102_v_joint (X7_position v) (X7_isWrong v) (X7_isHollow v) (X7_sure v) (X7_away v) (X7_digested v)) H → va_D A (cX7 cy a (X7_s v) (X7_aside v) (X7_kept v) (X7_isKept v) (X7_saved v) (X7_savedMany v) (X7_text v) (X7_length v) (X7_thrown v) z102_v_joint (X7_position v) (X7_isWrong v) (X7_isHollow v) (X7_sure v) (X7_away v) (X7_digested v)) → va_S A s.heap H locs → lv_has ls 9 [(0, .ref (a 0)), (1, .int x1), (2, .int x2), (4, .int y102_4), (5, .int y102_5), (6, .int y102_6), (7, .int y102_7), (8, .int y102_8)] → W p l e (headSpec wsX7_joins ({ frames := 1, cells := 0, slots := 0, locals := 23 } : Room)).room s m ([.ref (a 0), .int x1, .int x2, .int x3] : List Value).toArray below meth c H locs 0 0 (MQ below (q_X7_joins dC dI cy a v x1 x2 x3 Q A) ([.ref (a 0), .int x1, .int x2, .int x3] : List Value).toArray s 0 0 A) (F0 m 102 ls []) := by
    intro y102_4 y102_5 y102_7 y102_6 y102_8 z102_v_joint H locs ls hq hP hD hS hl
    obtain ⟨I102, μ102, h0, hs102⟩ := hq
    have key : ∀ (n : Nat) (y102_6 : Int32) (y102_8 : Int32) (z102_v_joint : (Nat → Int32)) (H : Heap) (locs : List Loc) (ls : Array Slot), I102 y102_6 y102_8 z102_v_joint → μ102 y102_6 y102_8 z102_v_joint < n → va_P (dC, dI) vwCl (cX7 cy a (X7_s v) (X7_aside v) (X7_kept v) (X7_isKept v) (X7_saved v) (X7_savedMany v) (X7_text v) (X7_length v) (X7_thrown v) z102_v_joint (X7_position v) (X7_isWrong v) (X7_isHollow v) (X7_sure v) (X7_away v) (X7_digested v)) H → va_D A (cX7 cy a (X7_s v) (X7_aside v) (X7_kept v) (X7_isKept v) (X7_saved v) (X7_savedMany v) (X7_text v) (X7_length v) (X7_thrown v) z102_v_joint (X7_position v) (X7_isWrong v) (X7_isHollow v) (X7_sure v) (X7_away v) (X7_digested v)) → va_S A s.heap H locs → lv_has ls 9 [(0, .ref (a 0)), (1, .int x1), (2, .int x2), (4, .int y102_4), (5, .int y102_5), (6, .int y102_6), (7, .int y102_7), (8, .int y102_8)] → W p l e (headSpec wsX7_joins ({ frames := 1, cells := 0, slots := 0, locals := 23 } : Room)).room s m ([.ref (a 0), .int x1, .int x2, .int x3] : List Value).toArray below meth c H locs 0 0 (MQ below (q_X7_joins dC dI cy a v x1 x2 x3 Q A) ([.ref (a 0), .int x1, .int x2, .int x3] : List Value).toArray s 0 0 A) (F0 m 102 ls []) := by
      intro n
      induction n with
      | zero => intro y102_6 y102_8 z102_v_joint H locs ls _ hm; exact absurd hm (Nat.not_lt_zero _)
      | succ n ih =>
        intro y102_6 y102_8 z102_v_joint H locs ls hI hm hP hD hS hl
        have hq := hs102 y102_6 y102_8 z102_v_joint hI
        generalize hB102 : (fun (t0 : Int32) (t1 : Int32) (t2 : (Nat → Int32)) => I102 t0 t1 t2 ∧ μ102 t0 t1 t2 < μ102 y102_6 y102_8 z102_v_joint) = B102 at hq
        have bk102 : ∀ (y102_6 : Int32) (y102_8 : Int32) (z102_v_joint : (Nat → Int32)) (H : Heap) (locs : List Loc) (ls : Array Slot), B102 y102_6 y102_8 z102_v_joint → va_P (dC, dI) vwCl (cX7 cy a (X7_s v) (X7_aside v) (X7_kept v) (X7_isKept v) (X7_saved v) (X7_savedMany v) (X7_text v) (X7_length v) (X7_thrown v) z102_v_joint (X7_position v) (X7_isWrong v) (X7_isHollow v) (X7_sure v) (X7_away v) (X7_digested v)) H → va_D A (cX7 cy a (X7_s v) (X7_aside v) (X7_kept v) (X7_isKept v) (X7_saved v) (X7_savedMany v) (X7_text v) (X7_length v) (X7_thrown v) z102_v_joint (X7_position v) (X7_isWrong v) (X7_isHollow v) (X7_sure v) (X7_away v) (X7_digested v)) → va_S A s.heap H locs → lv_has ls 9 [(0, .ref (a 0)), (1, .int x1), (2, .int x2), (4, .int y102_4), (5, .int y102_5), (6, .int y102_6), (7, .int y102_7), (8, .int y102_8)] → W p l e (headSpec wsX7_joins ({ frames := 1, cells := 0, slots := 0, locals := 23 } : Room)).room s m ([.ref (a 0), .int x1, .int x2, .int x3] : List Value).toArray below meth c H locs 0 0 (MQ below (q_X7_joins dC dI cy a v x1 x2 x3 Q A) ([.ref (a 0), .int x1, .int x2, .int x3] : List Value).toArray s 0 0 A) (F0 m 102 ls []) := by
          intro y102_6 y102_8 z102_v_joint H locs ls h
          rw [← hB102] at h
          exact ih y102_6 y102_8 z102_v_joint H locs ls h.1 (Nat.lt_of_lt_of_le h.2 (Nat.le_of_lt_succ hm))
        unfold wb_X7_joins_102 at hq
        have J135 : ∀ (k135_0 : Int32) (k135_2 : Int32) (H : Heap) (locs : List Loc) (ls : Array Slot), wp_X7_joins_135 v x1 x2 x3 y102_4 y102_5 y102_7 y102_6 y102_8 z102_v_joint B102 k135_0 k135_2 Q → va_P (dC, dI) vwCl (cX7 cy a (X7_s v) (X7_aside v) (X7_kept v) (X7_isKept v) (X7_saved v) (X7_savedMany v) (X7_text v) (X7_length v) (X7_thrown v) z102_v_joint (X7_position v) (X7_isWrong v) (X7_isHollow v) (X7_sure v) (X7_away v) (X7_digested v)) H → va_D A (cX7 cy a (X7_s v) (X7_aside v) (X7_kept v) (X7_isKept v) (X7_saved v) (X7_savedMany v) (X7_text v) (X7_length v) (X7_thrown v) z102_v_joint (X7_position v) (X7_isWrong v) (X7_isHollow v) (X7_sure v) (X7_away v) (X7_digested v)) → va_S A s.heap H locs → lv_has ls 9 [(0, .ref (a 0)), (1, .int x1), (2, .int x2), (4, .int y102_4), (5, .int y102_5), (6, .int y102_6), (7, .int y102_7), (8, .int y102_8)] → W p l e (headSpec wsX7_joins ({ frames := 1, cells := 0, slots := 0, locals := 23 } : Room)).room s m ([.ref (a 0), .int x1, .int x2, .int x3] : List Value).toArray below meth c H locs 0 0 (MQ below (q_X7_joins dC dI cy a v x1 x2 x3 Q A) ([.ref (a 0), .int x1, .int x2, .int x3] : List Value).toArray s 0 0 A) (F0 m 135 ls [.int k135_0, .ref (a 0), .int k135_2, .ref (a 6)]) := by
          intro k135_0 k135_2 H locs ls hq hP hD hS hl
          unfold wp_X7_joins_135 at hq
          have hFc := xfree_same hS hAe0 (ws := (cX7 cy a (X7_s v) (X7_aside v) (X7_kept v) (X7_isKept v) (X7_saved v) (X7_savedMany v) (X7_text v) (X7_length v) (X7_thrown v) z102_v_joint (X7_position v) (X7_isWrong v) (X7_isHollow v) (X7_sure v) (X7_away v) (X7_digested v))) hD
          refine va_calli (va_runV (As := [.int k135_0]) (rest := [.int k135_2, .ref (a 6)]) ⟨hx, hb, hml, hown, hts⟩ (c_X7_tuftAt l dC dI cy a _ (X7_s9 v z102_v_joint) k135_0 _ hq) (cwV 1 hts gX7_joins_X7_tuftAt rfl rfl rfl (by decide +kernel) ⟨Nat.le_of_ble_eq_true rfl, Nat.le_of_ble_eq_true rfl⟩) ⟨xPre_blind, va_recv hK hP (ci := 7) (q0 := 0) rfl rfl, xPre_of hP hK hD⟩ rfl rfl hl.1 rfl (lv_room (Nat.le_of_ble_eq_true rfl)) dX7_joins_135 ⟨Nat.le_of_ble_eq_true rfl, Nat.le_of_ble_eq_true rfl⟩) hS (fun q _ h => hFc q h) hFc (fun r135 u9 t H locs ht hvm hq hB hz1 hk1 hS => ?_)
          obtain ⟨hP1, -, hD1⟩ := hB
          rw [ht] at hP1
          have hP : va_P (dC, dI) vwCl (cX7 cy a (X7_s v) (X7_aside v) (X7_kept v) (X7_isKept v) (X7_saved v) (X7_savedMany v) (X7_text v) (X7_length v) (X7_thrown v) z102_v_joint (X7_position v) (X7_isWrong v) (X7_isHollow v) (X7_sure v) (X7_away v) (X7_digested v)) H := hP1
          have hD : va_D A (cX7 cy a (X7_s v) (X7_aside v) (X7_kept v) (X7_isKept v) (X7_saved v) (X7_savedMany v) (X7_text v) (X7_length v) (X7_thrown v) z102_v_joint (X7_position v) (X7_isWrong v) (X7_isHollow v) (X7_sure v) (X7_away v) (X7_digested v)) := hD1.weaken (fun _ q _ h => hFc q.1 h)
          obtain ⟨g6, hq⟩ := hq
          refine va_iast hx hb hK hP hD hS 6 0 rfl rfl g6 dX7_joins_138 (fun H locs hP hD hS => ?_)
          have hP : va_P (dC, dI) vwCl (cX7 cy a (X7_s v) (X7_aside v) (X7_kept v) (X7_isKept v) (X7_saved v) (X7_savedMany v) (X7_text v) (X7_length v) (X7_thrown v) (upd z102_v_joint k135_2.toNatClampNeg r135) (X7_position v) (X7_isWrong v) (X7_isHollow v) (X7_sure v) (X7_away v) (X7_digested v)) H := hP
          have hD : va_D A (cX7 cy a (X7_s v) (X7_aside v) (X7_kept v) (X7_isKept v) (X7_saved v) (X7_savedMany v) (X7_text v) (X7_length v) (X7_thrown v) (upd z102_v_joint k135_2.toNatClampNeg r135) (X7_position v) (X7_isWrong v) (X7_isHollow v) (X7_sure v) (X7_away v) (X7_digested v)) := hD
          refine lv_iinc (v := (y102_6 + 1)) (lv' := [(6, .int (y102_6 + 1)), (0, .ref (a 0)), (1, .int x1), (2, .int x2), (4, .int y102_4), (5, .int y102_5), (7, .int y102_7), (8, .int y102_8)]) hx hb dX7_joins_139 hl (k := 5) rfl rfl (by decide) rfl (fun ls hl => ?_)
          refine lv_iinc (v := (y102_8 + 1)) (lv' := [(8, .int (y102_8 + 1)), (6, .int (y102_6 + 1)), (0, .ref (a 0)), (1, .int x1), (2, .int x2), (4, .int y102_4), (5, .int y102_5), (7, .int y102_7)]) hx hb dX7_joins_142 hl (k := 7) rfl rfl (by decide) rfl (fun ls hl => ?_)
          refine lv_goto (tgt := 102) hx hb dX7_joins_145 (by decide) ?_
          exact bk102 (y102_6 + 1) (y102_8 + 1) (upd z102_v_joint k135_2.toNatClampNeg r135) _ _ _ hq hP hD hS (lv_sub hl [2, 3, 4, 5, 6, 1, 7, 0] rfl)
        refine lv_iload hx hb dX7_joins_102 (lv_at hl 7 rfl) ?_
        refine lv_iload hx hb dX7_joins_104 (lv_at hl 4 rfl) ?_
        refine lv_iload_n hx hb dX7_joins_106 rfl (lv_at hl 2 rfl) ?_
        refine lv_isub hx hb dX7_joins_107 ?_
        obtain ⟨hqA, hqB⟩ := hq
        refine lv_icmp_gt (tgt := 148) hx hb dX7_joins_108 (by decide) (fun c8 => ?_) (fun c8 => ?_)
        · have hq := hqA c8
          refine lv_aload_n hx hb dX7_joins_148 rfl (lv_at hl 0 rfl) ?_
          refine lv_iload hx hb dX7_joins_149 (lv_at hl 4 rfl) ?_
          refine lv_iconst (v := 1) hx hb dX7_joins_151 (by decide) ?_
          refine lv_iadd hx hb dX7_joins_152 ?_
          refine lv_iload_n hx hb dX7_joins_153 rfl (lv_at hl 2 rfl) ?_
          refine lv_iload hx hb dX7_joins_154 (lv_at hl 4 rfl) ?_
          refine lv_isub hx hb dX7_joins_156 ?_
          refine lv_iconst (v := 1) hx hb dX7_joins_157 (by decide) ?_
          refine lv_isub hx hb dX7_joins_158 ?_
          have hFc := xfree_same hS hAe0 (ws := (cX7 cy a (X7_s v) (X7_aside v) (X7_kept v) (X7_isKept v) (X7_saved v) (X7_savedMany v) (X7_text v) (X7_length v) (X7_thrown v) z102_v_joint (X7_position v) (X7_isWrong v) (X7_isHollow v) (X7_sure v) (X7_away v) (X7_digested v))) hD
          refine va_callv (va_runV (As := [.int (y102_5 + 1), .int ((x2 - y102_5) - 1)]) (rest := []) ⟨hx, hb, hml, hown, hts⟩ (c_X7_shifts l dC dI cy a _ (X7_s9 v z102_v_joint) (y102_5 + 1) ((x2 - y102_5) - 1) _ hq) (cwV 2 hts gX7_joins_X7_shifts rfl rfl rfl (by decide +kernel) ⟨Nat.le_of_ble_eq_true rfl, Nat.le_of_ble_eq_true rfl⟩) ⟨xPre_blind, va_recv hK hP (ci := 7) (q0 := 0) rfl rfl, xPre_of hP hK hD⟩ rfl rfl hl.1 rfl (lv_room (Nat.le_of_ble_eq_true rfl)) dX7_joins_159 ⟨Nat.le_of_ble_eq_true rfl, Nat.le_of_ble_eq_true rfl⟩) hS (fun q _ h => hFc q h) hFc (fun z159_v_s t H locs ht hvm hq hB hz1 hk1 hS => ?_)
          obtain ⟨hP1, -, hD1⟩ := hB
          rw [ht] at hP1
          have hP : va_P (dC, dI) vwCl (cX7 cy a z159_v_s (X7_aside v) (X7_kept v) (X7_isKept v) (X7_saved v) (X7_savedMany v) (X7_text v) (X7_length v) (X7_thrown v) z102_v_joint (X7_position v) (X7_isWrong v) (X7_isHollow v) (X7_sure v) (X7_away v) (X7_digested v)) H := hP1
          have hD : va_D A (cX7 cy a z159_v_s (X7_aside v) (X7_kept v) (X7_isKept v) (X7_saved v) (X7_savedMany v) (X7_text v) (X7_length v) (X7_thrown v) z102_v_joint (X7_position v) (X7_isWrong v) (X7_isHollow v) (X7_sure v) (X7_away v) (X7_digested v)) := hD1.weaken (fun _ q _ h => hFc q.1 h)
          refine lv_aload_n hx hb dX7_joins_162 rfl (lv_at hl 0 rfl) ?_
          refine lv_iload hx hb dX7_joins_163 (lv_at hl 3 rfl) ?_
          refine lv_iconst (v := 1) hx hb dX7_joins_165 (by decide) ?_
          refine lv_iadd hx hb dX7_joins_166 ?_
          refine lv_iload hx hb dX7_joins_167 (lv_at hl 5 rfl) ?_
          refine lv_iload hx hb dX7_joins_169 (lv_at hl 3 rfl) ?_
          refine lv_iload_n hx hb dX7_joins_171 rfl (lv_at hl 1 rfl) ?_
          refine lv_isub hx hb dX7_joins_172 ?_
          refine lv_iconst (v := 1) hx hb dX7_joins_173 (by decide) ?_
          refine lv_iadd hx hb dX7_joins_174 ?_
          refine lv_isub hx hb dX7_joins_175 ?_
          have hFc := xfree_same hS hAe0 (ws := (cX7 cy a z159_v_s (X7_aside v) (X7_kept v) (X7_isKept v) (X7_saved v) (X7_savedMany v) (X7_text v) (X7_length v) (X7_thrown v) z102_v_joint (X7_position v) (X7_isWrong v) (X7_isHollow v) (X7_sure v) (X7_away v) (X7_digested v))) hD
          refine va_callv (va_runV (As := [.int (y102_4 + 1), .int (y102_6 - ((y102_4 - x1) + 1))]) (rest := []) ⟨hx, hb, hml, hown, hts⟩ (c_X7_shifts l dC dI cy a _ (X7_s9 (X7_s0 v z159_v_s) z102_v_joint) (y102_4 + 1) (y102_6 - ((y102_4 - x1) + 1)) _ hq) (cwV 2 hts gX7_joins_X7_shifts rfl rfl rfl (by decide +kernel) ⟨Nat.le_of_ble_eq_true rfl, Nat.le_of_ble_eq_true rfl⟩) ⟨xPre_blind, va_recv hK hP (ci := 7) (q0 := 0) rfl rfl, xPre_of hP hK hD⟩ rfl rfl hl.1 rfl (lv_room (Nat.le_of_ble_eq_true rfl)) dX7_joins_176 ⟨Nat.le_of_ble_eq_true rfl, Nat.le_of_ble_eq_true rfl⟩) hS (fun q _ h => hFc q h) hFc (fun z176_v_s t H locs ht hvm hq hB hz1 hk1 hS => ?_)
          obtain ⟨hP1, -, hD1⟩ := hB
          rw [ht] at hP1
          have hP : va_P (dC, dI) vwCl (cX7 cy a z176_v_s (X7_aside v) (X7_kept v) (X7_isKept v) (X7_saved v) (X7_savedMany v) (X7_text v) (X7_length v) (X7_thrown v) z102_v_joint (X7_position v) (X7_isWrong v) (X7_isHollow v) (X7_sure v) (X7_away v) (X7_digested v)) H := hP1
          have hD : va_D A (cX7 cy a z176_v_s (X7_aside v) (X7_kept v) (X7_isKept v) (X7_saved v) (X7_savedMany v) (X7_text v) (X7_length v) (X7_thrown v) z102_v_joint (X7_position v) (X7_isWrong v) (X7_isHollow v) (X7_sure v) (X7_away v) (X7_digested v)) := hD1.weaken (fun _ q _ h => hFc q.1 h)
          refine lv_iconst (v := 0) hx hb dX7_joins_179 (by decide) ?_
          refine lv_istore (lv' := [(8, .int 0), (0, .ref (a 0)), (1, .int x1), (2, .int x2), (4, .int y102_4), (5, .int y102_5), (6, .int y102_6), (7, .int y102_7)]) hx hb dX7_joins_180 hl (by decide) rfl (fun ls hl => ?_)
          exact J182 y102_6 z102_v_joint 0 z176_v_s _ _ _ hq hP hD hS (lv_sub hl [1, 2, 6, 0] rfl)
        · have hq := hqB c8
          refine lv_aload_n hx hb dX7_joins_111 rfl (lv_at hl 0 rfl) ?_
          refine va_get (D := (dC, dI)) (ci := 7) (v := .ref (a 6)) (C := RX7) (T := TX7) (N := 16) hx hb hts iK7 hown hK hP 0 rfl rfl 9 (by decide) lk1 (fun _ h9 => h9) rfl dX7_joins_112 ?_
          refine lv_iload hx hb dX7_joins_115 (lv_at hl 5 rfl) ?_
          refine lv_aload_n hx hb dX7_joins_117 rfl (lv_at hl 0 rfl) ?_
          refine lv_iload hx hb dX7_joins_118 (lv_at hl 6 rfl) ?_
          obtain ⟨hqA, hqB⟩ := hq
          refine lv_if_eq (tgt := 130) hx hb dX7_joins_120 (by decide) (fun c7 => ?_) (fun c7 => ?_)
          · have hq := hqA c7
            refine lv_iload hx hb dX7_joins_130 (lv_at hl 4 rfl) ?_
            refine lv_iload hx hb dX7_joins_132 (lv_at hl 7 rfl) ?_
            refine lv_isub hx hb dX7_joins_134 ?_
            exact J135 (y102_5 - y102_8) y102_6  _ _ _ hq hP hD hS (lv_sub hl [0, 1, 2, 3, 4, 5, 6, 7] rfl)
          · have hq := hqB c7
            refine lv_iload_n hx hb dX7_joins_123 rfl (lv_at hl 2 rfl) ?_
            refine lv_iload hx hb dX7_joins_124 (lv_at hl 7 rfl) ?_
            refine lv_iadd hx hb dX7_joins_126 ?_
            refine lv_goto (tgt := 135) hx hb dX7_joins_127 (by decide) ?_
            exact J135 (x2 + y102_8) y102_6  _ _ _ hq hP hD hS (lv_sub hl [0, 1, 2, 3, 4, 5, 6, 7] rfl)
    exact key _ y102_6 y102_8 z102_v_joint H locs ls h0 (Nat.lt_succ_self _) hP hD hS hl
  have J37 : ∀ (y37_4 : Int32) (y37_5 : Int32) (y37_7 : Int32) (y37_6 : Int32) (y37_8 : Int32) (z37_v_joint : (Nat → Int32)) (H : Heap) (locs : List Loc) (ls : Array Slot), wp_X7_joins_37 v x1 x2 x3 y37_4 y37_5 y37_7 y37_6 y37_8 z37_v_joint Q → va_P (dC, dI) vwCl (cX7 cy a (X7_s v) (X7_aside v) (X7_kept v) (X7_isKept v) (X7_saved v) (X7_savedMany v) (X7_text v) (X7_length v) (X7_thrown v) z37_v_joint (X7_position v) (X7_isWrong v) (X7_isHollow v) (X7_sure v) (X7_away v) (X7_digested v)) H → va_D A (cX7 cy a (X7_s v) (X7_aside v) (X7_kept v) (X7_isKept v) (X7_saved v) (X7_savedMany v) (X7_text v) (X7_length v) (X7_thrown v) z37_v_joint (X7_position v) (X7_isWrong v) (X7_isHollow v) (X7_sure v) (X7_away v) (X7_digested v)) → va_S A s.heap H locs → lv_has ls 9 [(0, .ref (a 0)), (1, .int x1), (2, .int x2), (3, .int x3), (4, .int y37_4), (5, .int y37_5), (6, .int y37_6), (7, .int y37_7), (8, .int y37_8)] → W p l e (headSpec wsX7_joins ({ frames := 1, cells := 0, slots := 0, locals := 23 } : Room)).room s m ([.ref (a 0), .int x1, .int x2, .int x3] : List Value).toArray below meth c H locs 0 0 (MQ below (q_X7_joins dC dI cy a v x1 x2 x3 Q A) ([.ref (a 0), .int x1, .int x2, .int x3] : List Value).toArray s 0 0 A) (F0 m 37 ls []) := by
    intro y37_4 y37_5 y37_7 y37_6 y37_8 z37_v_joint H locs ls hq hP hD hS hl
    obtain ⟨I37, μ37, h0, hs37⟩ := hq
    have key : ∀ (n : Nat) (y37_6 : Int32) (y37_8 : Int32) (z37_v_joint : (Nat → Int32)) (H : Heap) (locs : List Loc) (ls : Array Slot), I37 y37_6 y37_8 z37_v_joint → μ37 y37_6 y37_8 z37_v_joint < n → va_P (dC, dI) vwCl (cX7 cy a (X7_s v) (X7_aside v) (X7_kept v) (X7_isKept v) (X7_saved v) (X7_savedMany v) (X7_text v) (X7_length v) (X7_thrown v) z37_v_joint (X7_position v) (X7_isWrong v) (X7_isHollow v) (X7_sure v) (X7_away v) (X7_digested v)) H → va_D A (cX7 cy a (X7_s v) (X7_aside v) (X7_kept v) (X7_isKept v) (X7_saved v) (X7_savedMany v) (X7_text v) (X7_length v) (X7_thrown v) z37_v_joint (X7_position v) (X7_isWrong v) (X7_isHollow v) (X7_sure v) (X7_away v) (X7_digested v)) → va_S A s.heap H locs → lv_has ls 9 [(0, .ref (a 0)), (1, .int x1), (2, .int x2), (3, .int x3), (4, .int y37_4), (5, .int y37_5), (6, .int y37_6), (7, .int y37_7), (8, .int y37_8)] → W p l e (headSpec wsX7_joins ({ frames := 1, cells := 0, slots := 0, locals := 23 } : Room)).room s m ([.ref (a 0), .int x1, .int x2, .int x3] : List Value).toArray below meth c H locs 0 0 (MQ below (q_X7_joins dC dI cy a v x1 x2 x3 Q A) ([.ref (a 0), .int x1, .int x2, .int x3] : List Value).toArray s 0 0 A) (F0 m 37 ls []) := by
      intro n
      induction n with
      | zero => intro y37_6 y37_8 z37_v_joint H locs ls _ hm; exact absurd hm (Nat.not_lt_zero _)
      | succ n ih =>
        intro y37_6 y37_8 z37_v_joint H locs ls hI hm hP hD hS hl
        have hq := hs37 y37_6 y37_8 z37_v_joint hI
        generalize hB37 : (fun (t0 : Int32) (t1 : Int32) (t2 : (Nat → Int32)) => I37 t0 t1 t2 ∧ μ37 t0 t1 t2 < μ37 y37_6 y37_8 z37_v_joint) = B37 at hq
        have bk37 : ∀ (y37_6 : Int32) (y37_8 : Int32) (z37_v_joint : (Nat → Int32)) (H : Heap) (locs : List Loc) (ls : Array Slot), B37 y37_6 y37_8 z37_v_joint → va_P (dC, dI) vwCl (cX7 cy a (X7_s v) (X7_aside v) (X7_kept v) (X7_isKept v) (X7_saved v) (X7_savedMany v) (X7_text v) (X7_length v) (X7_thrown v) z37_v_joint (X7_position v) (X7_isWrong v) (X7_isHollow v) (X7_sure v) (X7_away v) (X7_digested v)) H → va_D A (cX7 cy a (X7_s v) (X7_aside v) (X7_kept v) (X7_isKept v) (X7_saved v) (X7_savedMany v) (X7_text v) (X7_length v) (X7_thrown v) z37_v_joint (X7_position v) (X7_isWrong v) (X7_isHollow v) (X7_sure v) (X7_away v) (X7_digested v)) → va_S A s.heap H locs → lv_has ls 9 [(0, .ref (a 0)), (1, .int x1), (2, .int x2), (3, .int x3), (4, .int y37_4), (5, .int y37_5), (6, .int y37_6), (7, .int y37_7), (8, .int y37_8)] → W p l e (headSpec wsX7_joins ({ frames := 1, cells := 0, slots := 0, locals := 23 } : Room)).room s m ([.ref (a 0), .int x1, .int x2, .int x3] : List Value).toArray below meth c H locs 0 0 (MQ below (q_X7_joins dC dI cy a v x1 x2 x3 Q A) ([.ref (a 0), .int x1, .int x2, .int x3] : List Value).toArray s 0 0 A) (F0 m 37 ls []) := by
          intro y37_6 y37_8 z37_v_joint H locs ls h
          rw [← hB37] at h
          exact ih y37_6 y37_8 z37_v_joint H locs ls h.1 (Nat.lt_of_lt_of_le h.2 (Nat.le_of_lt_succ hm))
        unfold wb_X7_joins_37 at hq
        have J70 : ∀ (k70_0 : Int32) (k70_2 : Int32) (H : Heap) (locs : List Loc) (ls : Array Slot), wp_X7_joins_70 v x1 x2 x3 y37_4 y37_5 y37_7 y37_6 y37_8 z37_v_joint B37 k70_0 k70_2 Q → va_P (dC, dI) vwCl (cX7 cy a (X7_s v) (X7_aside v) (X7_kept v) (X7_isKept v) (X7_saved v) (X7_savedMany v) (X7_text v) (X7_length v) (X7_thrown v) z37_v_joint (X7_position v) (X7_isWrong v) (X7_isHollow v) (X7_sure v) (X7_away v) (X7_digested v)) H → va_D A (cX7 cy a (X7_s v) (X7_aside v) (X7_kept v) (X7_isKept v) (X7_saved v) (X7_savedMany v) (X7_text v) (X7_length v) (X7_thrown v) z37_v_joint (X7_position v) (X7_isWrong v) (X7_isHollow v) (X7_sure v) (X7_away v) (X7_digested v)) → va_S A s.heap H locs → lv_has ls 9 [(0, .ref (a 0)), (1, .int x1), (2, .int x2), (3, .int x3), (4, .int y37_4), (5, .int y37_5), (6, .int y37_6), (7, .int y37_7), (8, .int y37_8)] → W p l e (headSpec wsX7_joins ({ frames := 1, cells := 0, slots := 0, locals := 23 } : Room)).room s m ([.ref (a 0), .int x1, .int x2, .int x3] : List Value).toArray below meth c H locs 0 0 (MQ below (q_X7_joins dC dI cy a v x1 x2 x3 Q A) ([.ref (a 0), .int x1, .int x2, .int x3] : List Value).toArray s 0 0 A) (F0 m 70 ls [.int k70_0, .ref (a 0), .int k70_2, .ref (a 6)]) := by
          intro k70_0 k70_2 H locs ls hq hP hD hS hl
          unfold wp_X7_joins_70 at hq
          have hFc := xfree_same hS hAe0 (ws := (cX7 cy a (X7_s v) (X7_aside v) (X7_kept v) (X7_isKept v) (X7_saved v) (X7_savedMany v) (X7_text v) (X7_length v) (X7_thrown v) z37_v_joint (X7_position v) (X7_isWrong v) (X7_isHollow v) (X7_sure v) (X7_away v) (X7_digested v))) hD
          refine va_calli (va_runV (As := [.int k70_0]) (rest := [.int k70_2, .ref (a 6)]) ⟨hx, hb, hml, hown, hts⟩ (c_X7_tuftAt l dC dI cy a _ (X7_s9 v z37_v_joint) k70_0 _ hq) (cwV 1 hts gX7_joins_X7_tuftAt rfl rfl rfl (by decide +kernel) ⟨Nat.le_of_ble_eq_true rfl, Nat.le_of_ble_eq_true rfl⟩) ⟨xPre_blind, va_recv hK hP (ci := 7) (q0 := 0) rfl rfl, xPre_of hP hK hD⟩ rfl rfl hl.1 rfl (lv_room (Nat.le_of_ble_eq_true rfl)) dX7_joins_70 ⟨Nat.le_of_ble_eq_true rfl, Nat.le_of_ble_eq_true rfl⟩) hS (fun q _ h => hFc q h) hFc (fun r70 u9 t H locs ht hvm hq hB hz1 hk1 hS => ?_)
          obtain ⟨hP1, -, hD1⟩ := hB
          rw [ht] at hP1
          have hP : va_P (dC, dI) vwCl (cX7 cy a (X7_s v) (X7_aside v) (X7_kept v) (X7_isKept v) (X7_saved v) (X7_savedMany v) (X7_text v) (X7_length v) (X7_thrown v) z37_v_joint (X7_position v) (X7_isWrong v) (X7_isHollow v) (X7_sure v) (X7_away v) (X7_digested v)) H := hP1
          have hD : va_D A (cX7 cy a (X7_s v) (X7_aside v) (X7_kept v) (X7_isKept v) (X7_saved v) (X7_savedMany v) (X7_text v) (X7_length v) (X7_thrown v) z37_v_joint (X7_position v) (X7_isWrong v) (X7_isHollow v) (X7_sure v) (X7_away v) (X7_digested v)) := hD1.weaken (fun _ q _ h => hFc q.1 h)
          obtain ⟨g9, hq⟩ := hq
          refine va_iast hx hb hK hP hD hS 6 0 rfl rfl g9 dX7_joins_73 (fun H locs hP hD hS => ?_)
          have hP : va_P (dC, dI) vwCl (cX7 cy a (X7_s v) (X7_aside v) (X7_kept v) (X7_isKept v) (X7_saved v) (X7_savedMany v) (X7_text v) (X7_length v) (X7_thrown v) (upd z37_v_joint k70_2.toNatClampNeg r70) (X7_position v) (X7_isWrong v) (X7_isHollow v) (X7_sure v) (X7_away v) (X7_digested v)) H := hP
          have hD : va_D A (cX7 cy a (X7_s v) (X7_aside v) (X7_kept v) (X7_isKept v) (X7_saved v) (X7_savedMany v) (X7_text v) (X7_length v) (X7_thrown v) (upd z37_v_joint k70_2.toNatClampNeg r70) (X7_position v) (X7_isWrong v) (X7_isHollow v) (X7_sure v) (X7_away v) (X7_digested v)) := hD
          refine lv_iinc (v := (y37_6 + 1)) (lv' := [(6, .int (y37_6 + 1)), (0, .ref (a 0)), (1, .int x1), (2, .int x2), (3, .int x3), (4, .int y37_4), (5, .int y37_5), (7, .int y37_7), (8, .int y37_8)]) hx hb dX7_joins_74 hl (k := 6) rfl rfl (by decide) rfl (fun ls hl => ?_)
          refine lv_iinc (v := (y37_8 + 1)) (lv' := [(8, .int (y37_8 + 1)), (6, .int (y37_6 + 1)), (0, .ref (a 0)), (1, .int x1), (2, .int x2), (3, .int x3), (4, .int y37_4), (5, .int y37_5), (7, .int y37_7)]) hx hb dX7_joins_77 hl (k := 8) rfl rfl (by decide) rfl (fun ls hl => ?_)
          refine lv_goto (tgt := 37) hx hb dX7_joins_80 (by decide) ?_
          exact bk37 (y37_6 + 1) (y37_8 + 1) (upd z37_v_joint k70_2.toNatClampNeg r70) _ _ _ hq hP hD hS (lv_sub hl [2, 3, 4, 5, 6, 7, 1, 8, 0] rfl)
        refine lv_iload hx hb dX7_joins_37 (lv_at hl 8 rfl) ?_
        refine lv_iload hx hb dX7_joins_39 (lv_at hl 4 rfl) ?_
        refine lv_iload_n hx hb dX7_joins_41 rfl (lv_at hl 1 rfl) ?_
        refine lv_isub hx hb dX7_joins_42 ?_
        obtain ⟨hqA, hqB⟩ := hq
        refine lv_icmp_gt (tgt := 83) hx hb dX7_joins_43 (by decide) (fun c12 => ?_) (fun c12 => ?_)
        · have hq := hqA c12
          refine lv_aload_n hx hb dX7_joins_83 rfl (lv_at hl 0 rfl) ?_
          refine lv_iload_n hx hb dX7_joins_84 rfl (lv_at hl 2 rfl) ?_
          have hFc := xfree_same hS hAe0 (ws := (cX7 cy a (X7_s v) (X7_aside v) (X7_kept v) (X7_isKept v) (X7_saved v) (X7_savedMany v) (X7_text v) (X7_length v) (X7_thrown v) z37_v_joint (X7_position v) (X7_isWrong v) (X7_isHollow v) (X7_sure v) (X7_away v) (X7_digested v))) hD
          refine va_calli (va_runV (As := [.int x2]) (rest := []) ⟨hx, hb, hml, hown, hts⟩ (c_X7_tuftAt l dC dI cy a _ (X7_s9 v z37_v_joint) x2 _ hq) (cwV 1 hts gX7_joins_X7_tuftAt rfl rfl rfl (by decide +kernel) ⟨Nat.le_of_ble_eq_true rfl, Nat.le_of_ble_eq_true rfl⟩) ⟨xPre_blind, va_recv hK hP (ci := 7) (q0 := 0) rfl rfl, xPre_of hP hK hD⟩ rfl rfl hl.1 rfl (lv_room (Nat.le_of_ble_eq_true rfl)) dX7_joins_85 ⟨Nat.le_of_ble_eq_true rfl, Nat.le_of_ble_eq_true rfl⟩) hS (fun q _ h => hFc q h) hFc (fun r85 u9 t H locs ht hvm hq hB hz1 hk1 hS => ?_)
          obtain ⟨hP1, -, hD1⟩ := hB
          rw [ht] at hP1
          have hP : va_P (dC, dI) vwCl (cX7 cy a (X7_s v) (X7_aside v) (X7_kept v) (X7_isKept v) (X7_saved v) (X7_savedMany v) (X7_text v) (X7_length v) (X7_thrown v) z37_v_joint (X7_position v) (X7_isWrong v) (X7_isHollow v) (X7_sure v) (X7_away v) (X7_digested v)) H := hP1
          have hD : va_D A (cX7 cy a (X7_s v) (X7_aside v) (X7_kept v) (X7_isKept v) (X7_saved v) (X7_savedMany v) (X7_text v) (X7_length v) (X7_thrown v) z37_v_joint (X7_position v) (X7_isWrong v) (X7_isHollow v) (X7_sure v) (X7_away v) (X7_digested v)) := hD1.weaken (fun _ q _ h => hFc q.1 h)
          refine lv_iload_n hx hb dX7_joins_88 rfl (lv_at hl 3 rfl) ?_
          obtain ⟨hqA, hqB⟩ := hq
          refine lv_icmp_ne (tgt := 96) hx hb dX7_joins_89 (by decide) (fun c10 => ?_) (fun c10 => ?_)
          · have hq := hqB c10
            refine lv_iconst (v := 0) hx hb dX7_joins_96 (by decide) ?_
            refine lv_istore (lv' := [(7, .int 0), (0, .ref (a 0)), (1, .int x1), (2, .int x2), (3, .int x3), (4, .int y37_4), (5, .int y37_5), (6, .int y37_6), (8, .int y37_8)]) hx hb dX7_joins_97 hl (by decide) rfl (fun ls hl => ?_)
            refine lv_iconst (v := 1) hx hb dX7_joins_99 (by decide) ?_
            refine lv_istore (lv' := [(8, .int 1), (7, .int 0), (0, .ref (a 0)), (1, .int x1), (2, .int x2), (3, .int x3), (4, .int y37_4), (5, .int y37_5), (6, .int y37_6)]) hx hb dX7_joins_100 hl (by decide) rfl (fun ls hl => ?_)
            exact J102 y37_4 y37_5 0 y37_6 1 z37_v_joint _ _ _ hq hP hD hS (lv_sub hl [2, 3, 4, 6, 7, 8, 1, 0] rfl)
          · have hq := hqA c10
            refine lv_iconst (v := 1) hx hb dX7_joins_92 (by decide) ?_
            refine lv_goto (tgt := 97) hx hb dX7_joins_93 (by decide) ?_
            refine lv_istore (lv' := [(7, .int 1), (0, .ref (a 0)), (1, .int x1), (2, .int x2), (3, .int x3), (4, .int y37_4), (5, .int y37_5), (6, .int y37_6), (8, .int y37_8)]) hx hb dX7_joins_97 hl (by decide) rfl (fun ls hl => ?_)
            refine lv_iconst (v := 1) hx hb dX7_joins_99 (by decide) ?_
            refine lv_istore (lv' := [(8, .int 1), (7, .int 1), (0, .ref (a 0)), (1, .int x1), (2, .int x2), (3, .int x3), (4, .int y37_4), (5, .int y37_5), (6, .int y37_6)]) hx hb dX7_joins_100 hl (by decide) rfl (fun ls hl => ?_)
            exact J102 y37_4 y37_5 1 y37_6 1 z37_v_joint _ _ _ hq hP hD hS (lv_sub hl [2, 3, 4, 6, 7, 8, 1, 0] rfl)
        · have hq := hqB c12
          refine lv_aload_n hx hb dX7_joins_46 rfl (lv_at hl 0 rfl) ?_
          refine va_get (D := (dC, dI)) (ci := 7) (v := .ref (a 6)) (C := RX7) (T := TX7) (N := 16) hx hb hts iK7 hown hK hP 0 rfl rfl 9 (by decide) lk1 (fun _ h9 => h9) rfl dX7_joins_47 ?_
          refine lv_iload hx hb dX7_joins_50 (lv_at hl 6 rfl) ?_
          refine lv_aload_n hx hb dX7_joins_52 rfl (lv_at hl 0 rfl) ?_
          refine lv_iload hx hb dX7_joins_53 (lv_at hl 7 rfl) ?_
          obtain ⟨hqA, hqB⟩ := hq
          refine lv_if_eq (tgt := 65) hx hb dX7_joins_55 (by decide) (fun c11 => ?_) (fun c11 => ?_)
          · have hq := hqA c11
            refine lv_iload hx hb dX7_joins_65 (lv_at hl 4 rfl) ?_
            refine lv_iload hx hb dX7_joins_67 (lv_at hl 8 rfl) ?_
            refine lv_isub hx hb dX7_joins_69 ?_
            exact J70 (y37_4 - y37_8) y37_6  _ _ _ hq hP hD hS (lv_sub hl [0, 1, 2, 3, 4, 5, 6, 7, 8] rfl)
          · have hq := hqB c11
            refine lv_iload_n hx hb dX7_joins_58 rfl (lv_at hl 1 rfl) ?_
            refine lv_iload hx hb dX7_joins_59 (lv_at hl 8 rfl) ?_
            refine lv_iadd hx hb dX7_joins_61 ?_
            refine lv_goto (tgt := 70) hx hb dX7_joins_62 (by decide) ?_
            exact J70 (x1 + y37_8) y37_6  _ _ _ hq hP hD hS (lv_sub hl [0, 1, 2, 3, 4, 5, 6, 7, 8] rfl)
    exact key _ y37_6 y37_8 z37_v_joint H locs ls h0 (Nat.lt_succ_self _) hP hD hS hl
  refine lv_aload_n hx hb dX7_joins_0 rfl (lv_at hl 0 rfl) ?_
  refine lv_iload_n hx hb dX7_joins_1 rfl (lv_at hl 1 rfl) ?_
  have hFc := xfree_same hS hAe0 (ws := (wX7 cy a v)) hD
  refine va_calli (va_runV (As := [.int x1]) (rest := []) ⟨hx, hb, hml, hown, hts⟩ (c_X7_endFrom l dC dI cy a _ v x1 _ hq) (cwV 1 hts gX7_joins_X7_endFrom rfl rfl rfl (by decide +kernel) ⟨Nat.le_of_ble_eq_true rfl, Nat.le_of_ble_eq_true rfl⟩) ⟨xPre_blind, va_recv hK hP (ci := 7) (q0 := 0) rfl rfl, xPre_of hP hK hD⟩ rfl rfl hl.1 rfl (lv_room (Nat.le_of_ble_eq_true rfl)) dX7_joins_2 ⟨Nat.le_of_ble_eq_true rfl, Nat.le_of_ble_eq_true rfl⟩) hS (fun q _ h => hFc q h) hFc (fun r2 u9 t H locs ht hvm hq hB hz1 hk1 hS => ?_)
  obtain ⟨hP1, -, hD1⟩ := hB
  rw [ht] at hP1
  have hP : va_P (dC, dI) vwCl (wX7 cy a v) H := hP1
  have hD : va_D A (wX7 cy a v) := hD1.weaken (fun _ q _ h => hFc q.1 h)
  refine lv_istore (lv' := [(4, .int r2), (0, .ref (a 0)), (1, .int x1), (2, .int x2), (3, .int x3)]) hx hb dX7_joins_5 hl (by decide) rfl (fun ls hl => ?_)
  refine lv_aload_n hx hb dX7_joins_7 rfl (lv_at hl 1 rfl) ?_
  refine lv_iload_n hx hb dX7_joins_8 rfl (lv_at hl 3 rfl) ?_
  have hFc := xfree_same hS hAe0 (ws := (wX7 cy a v)) hD
  refine va_calli (va_runV (As := [.int x2]) (rest := []) ⟨hx, hb, hml, hown, hts⟩ (c_X7_endFrom l dC dI cy a _ v x2 _ hq) (cwV 1 hts gX7_joins_X7_endFrom rfl rfl rfl (by decide +kernel) ⟨Nat.le_of_ble_eq_true rfl, Nat.le_of_ble_eq_true rfl⟩) ⟨xPre_blind, va_recv hK hP (ci := 7) (q0 := 0) rfl rfl, xPre_of hP hK hD⟩ rfl rfl hl.1 rfl (lv_room (Nat.le_of_ble_eq_true rfl)) dX7_joins_9 ⟨Nat.le_of_ble_eq_true rfl, Nat.le_of_ble_eq_true rfl⟩) hS (fun q _ h => hFc q h) hFc (fun r9 u9 t H locs ht hvm hq hB hz1 hk1 hS => ?_)
  obtain ⟨hP1, -, hD1⟩ := hB
  rw [ht] at hP1
  have hP : va_P (dC, dI) vwCl (wX7 cy a v) H := hP1
  have hD : va_D A (wX7 cy a v) := hD1.weaken (fun _ q _ h => hFc q.1 h)
  refine lv_istore (lv' := [(5, .int r9), (4, .int r2), (0, .ref (a 0)), (1, .int x1), (2, .int x2), (3, .int x3)]) hx hb dX7_joins_12 hl (by decide) rfl (fun ls hl => ?_)
  refine lv_iconst (v := 0) hx hb dX7_joins_14 (by decide) ?_
  refine lv_istore (lv' := [(6, .int 0), (5, .int r9), (4, .int r2), (0, .ref (a 0)), (1, .int x1), (2, .int x2), (3, .int x3)]) hx hb dX7_joins_15 hl (by decide) rfl (fun ls hl => ?_)
  refine lv_aload_n hx hb dX7_joins_17 rfl (lv_at hl 3 rfl) ?_
  refine lv_iload hx hb dX7_joins_18 (lv_at hl 2 rfl) ?_
  have hFc := xfree_same hS hAe0 (ws := (wX7 cy a v)) hD
  refine va_calli (va_runV (As := [.int r2]) (rest := []) ⟨hx, hb, hml, hown, hts⟩ (c_X7_tuftAt l dC dI cy a _ v r2 _ hq) (cwV 1 hts gX7_joins_X7_tuftAt rfl rfl rfl (by decide +kernel) ⟨Nat.le_of_ble_eq_true rfl, Nat.le_of_ble_eq_true rfl⟩) ⟨xPre_blind, va_recv hK hP (ci := 7) (q0 := 0) rfl rfl, xPre_of hP hK hD⟩ rfl rfl hl.1 rfl (lv_room (Nat.le_of_ble_eq_true rfl)) dX7_joins_20 ⟨Nat.le_of_ble_eq_true rfl, Nat.le_of_ble_eq_true rfl⟩) hS (fun q _ h => hFc q h) hFc (fun r20 u9 t H locs ht hvm hq hB hz1 hk1 hS => ?_)
  obtain ⟨hP1, -, hD1⟩ := hB
  rw [ht] at hP1
  have hP : va_P (dC, dI) vwCl (wX7 cy a v) H := hP1
  have hD : va_D A (wX7 cy a v) := hD1.weaken (fun _ q _ h => hFc q.1 h)
  refine lv_iload_n hx hb dX7_joins_23 rfl (lv_at hl 6 rfl) ?_
  obtain ⟨hqA, hqB⟩ := hq
  refine lv_icmp_ne (tgt := 31) hx hb dX7_joins_24 (by decide) (fun c13 => ?_) (fun c13 => ?_)
  · have hq := hqB c13
    refine lv_iconst (v := 0) hx hb dX7_joins_31 (by decide) ?_
    refine lv_istore (lv' := [(7, .int 0), (6, .int 0), (5, .int r9), (4, .int r2), (0, .ref (a 0)), (1, .int x1), (2, .int x2), (3, .int x3)]) hx hb dX7_joins_32 hl (by decide) rfl (fun ls hl => ?_)
    refine lv_iconst (v := 0) hx hb dX7_joins_34 (by decide) ?_
    refine lv_istore (lv' := [(8, .int 0), (7, .int 0), (6, .int 0), (5, .int r9), (4, .int r2), (0, .ref (a 0)), (1, .int x1), (2, .int x2), (3, .int x3)]) hx hb dX7_joins_35 hl (by decide) rfl (fun ls hl => ?_)
    exact J37 r2 r9 0 0 0 (X7_joint v) _ _ _ hq hP hD hS (lv_sub hl [5, 6, 7, 8, 4, 3, 2, 1, 0] rfl)
  · have hq := hqA c13
    refine lv_iconst (v := 1) hx hb dX7_joins_27 (by decide) ?_
    refine lv_goto (tgt := 32) hx hb dX7_joins_28 (by decide) ?_
    refine lv_istore (lv' := [(7, .int 1), (6, .int 0), (5, .int r9), (4, .int r2), (0, .ref (a 0)), (1, .int x1), (2, .int x2), (3, .int x3)]) hx hb dX7_joins_32 hl (by decide) rfl (fun ls hl => ?_)
    refine lv_iconst (v := 0) hx hb dX7_joins_34 (by decide) ?_
    refine lv_istore (lv' := [(8, .int 0), (7, .int 1), (6, .int 0), (5, .int r9), (4, .int r2), (0, .ref (a 0)), (1, .int x1), (2, .int x2), (3, .int x3)]) hx hb dX7_joins_35 hl (by decide) rfl (fun ls hl => ?_)
    exact J37 r2 r9 1 0 0 (X7_joint v) _ _ _ hq hP hD hS (lv_sub hl [5, 6, 7, 8, 4, 3, 2, 1, 0] rfl)
