def wp_X7_pass_16 (v : V_X7) (x1 : Int32) (k16_0 : Int32) (Q : Int32 → (Nat → Int32) → (Nat → Int32) → Int32 → Int32 → Prop) : Prop :=
  wp_X7_holds v k16_0 (fun r16 z16_v_thrown =>
  ((r16 = 0 → Q 0 (X7_s v) (X7_saved v) (X7_savedMany v) z16_v_thrown) ∧
  (¬ r16 = 0 → wp_X7_save (X7_s8 v z16_v_thrown) (fun z25_v_saved z25_v_savedMany =>
  wp_X7_beats ((X7_s v), (X7_aside v), (X7_kept v), (X7_isKept v), z25_v_saved, z25_v_savedMany, (X7_text v), (X7_length v), z16_v_thrown, (X7_joint v), (X7_position v), (X7_isWrong v), (X7_isHollow v), (X7_sure v), (X7_away v), (X7_digested v)) x1 (fun r30 z30_v_s =>
  Q r30 z30_v_s z25_v_saved z25_v_savedMany z16_v_thrown)))))
def wp_X7_pass (v : V_X7) (x1 : Int32) (Q : Int32 → (Nat → Int32) → (Nat → Int32) → Int32 → Int32 → Prop) : Prop :=
  wp_X7_in x1 1 30 (fun r5 =>
  ((r5 = 0 → wp_X7_pass_16 v x1 1  Q) ∧
  (¬ r5 = 0 → wp_X7_pass_16 v x1 0  Q)))
def q_X7_pass (dC : Nat → ClassId) (dI : Nat → Nat → Nat) (cy : Nat → ClassId) (a : Nat → Nat) (v : V_X7) (x1 : Int32) (Q : Int32 → (Nat → Int32) → (Nat → Int32) → Int32 → Int32 → Prop) (A : Nat → Prop) : Array Value → State → Outcome → State → Prop := va_Qi (fun (r : Int32) (u : (Nat → Int32) × (Nat → Int32) × Int32 × Int32) => Q r u.1 u.2.1 u.2.2.1 u.2.2.2) (fun (u : (Nat → Int32) × (Nat → Int32) × Int32 × Int32) t => xAt dC dI cy A (cX7 cy a u.1 (X7_aside v) (X7_kept v) (X7_isKept v) u.2.1 u.2.2.1 (X7_text v) (X7_length v) u.2.2.2 (X7_joint v) (X7_position v) (X7_isWrong v) (X7_isHollow v) (X7_sure v) (X7_away v) (X7_digested v)) t) A
set_option maxHeartbeats 4000000 in
set_option maxRecDepth 100000 in
theorem c_X7_pass (l : Launch) (dC : Nat → ClassId) (dI : Nat → Nat → Nat) (cy : Nat → ClassId) (a : Nat → Nat) (sz : Nat) (v : V_X7) (x1 : Int32) (Q : Int32 → (Nat → Int32) → (Nat → Int32) → Int32 → Int32 → Prop) (hq : wp_X7_pass v x1 Q) : Met l yX7_pass wsX7_pass ({ frames := 8, cells := 0, slots := 0, locals := 189 } : Room) (va_Pc [.ref (a 0), .int x1] (xPre dC dI cy (wX7 cy a v) sz)) (q_X7_pass dC dI cy a v x1 Q (va_A (wX7 cy a v) sz)) 0 0 (va_A (wX7 cy a v) sz) := by
  refine Met.ofW (cc := cX7_pass) (maxL := 2) (ret := (some .int)) (by decide) rfl ?_
  intro p e s m args below meth c s₁ B hml hv
  obtain ⟨rfl, hsz, hP, hK, hD0⟩ := hv
  have hx := B.exec
  have hb := B.bytes
  have hr := B.returns
  have hts := atoms_spec (ws := wsX7_pass) B.pre
  have hown : s.vm.findClass RX7 = some m.cls := findClass_of_methodNamed B.named
  have hlocks := B.notSynchronized
  subst hsz
  have hD := hD0.self (sz := s.heap.size)
  generalize hAe : va_A (wX7 cy a v) s.heap.size = A at hD ⊢
  have hAe0 : ∀ q : Nat, s.heap.size ≤ q → A q := fun q h => by rw [← hAe]; exact Or.inr h
  have hS : va_S A s.heap s.heap [] := va_S.rf
  have hl := lv_entry ([.ref (a 0), .int x1]) (n := 2) (Nat.le_of_ble_eq_true rfl)
  rw [lg_entry_eq]
  generalize (lg_sl ([.ref (a 0), .int x1]) ++ List.replicate (2 - (lg_sl ([.ref (a 0), .int x1])).length) Slot.unset).toArray = ls at hl ⊢
  have hl : lv_has ls 2 [(0, .ref (a 0)), (1, .int x1)] := hl
  unfold wp_X7_pass at hq
  have J16 : ∀ (k16_0 : Int32) (H : Heap) (locs : List Loc) (ls : Array Slot), wp_X7_pass_16 v x1 k16_0 Q → va_P (dC, dI) vwCl (wX7 cy a v) H → va_D A (wX7 cy a v) → va_S A s.heap H locs → lv_has ls 2 [(0, .ref (a 0)), (1, .int x1)] → W p l e (headSpec wsX7_pass ({ frames := 8, cells := 0, slots := 0, locals := 189 } : Room)).room s m ([.ref (a 0), .int x1] : List Value).toArray below meth c H locs 0 0 (MQ below (q_X7_pass dC dI cy a v x1 Q A) ([.ref (a 0), .int x1] : List Value).toArray s 0 0 A) (F0 m 16 ls [.int k16_0, .ref (a 0)]) := by
    intro k16_0 H locs ls hq hP hD hS hl
    unfold wp_X7_pass_16 at hq
    have hFc := xfree_same hS hAe0 (ws := (wX7 cy a v)) hD
    refine va_calli (va_runV (As := [.int k16_0]) (rest := []) ⟨hx, hb, hml, hown, hts⟩ (c_X7_holds l dC dI cy a _ v k16_0 _ hq) (cwV 1 hts gX7_pass_X7_holds rfl rfl rfl (by decide +kernel) ⟨Nat.le_of_ble_eq_true rfl, Nat.le_of_ble_eq_true rfl⟩) ⟨xPre_blind, va_recv hK hP (ci := 7) (q0 := 0) rfl rfl, xPre_of hP hK hD⟩ rfl rfl hl.1 rfl (lv_room (Nat.le_of_ble_eq_true rfl)) dX7_pass_16 ⟨Nat.le_of_ble_eq_true rfl, Nat.le_of_ble_eq_true rfl⟩) hS (fun q _ h => hFc q h) hFc (fun r16 z16_v_thrown t H locs ht hvm hq hB hz1 hk1 hS => ?_)
    obtain ⟨hP1, -, hD1⟩ := hB
    rw [ht] at hP1
    have hP : va_P (dC, dI) vwCl (cX7 cy a (X7_s v) (X7_aside v) (X7_kept v) (X7_isKept v) (X7_saved v) (X7_savedMany v) (X7_text v) (X7_length v) z16_v_thrown (X7_joint v) (X7_position v) (X7_isWrong v) (X7_isHollow v) (X7_sure v) (X7_away v) (X7_digested v)) H := hP1
    have hD : va_D A (cX7 cy a (X7_s v) (X7_aside v) (X7_kept v) (X7_isKept v) (X7_saved v) (X7_savedMany v) (X7_text v) (X7_length v) z16_v_thrown (X7_joint v) (X7_position v) (X7_isWrong v) (X7_isHollow v) (X7_sure v) (X7_away v) (X7_digested v)) := hD1.weaken (fun _ q _ h => hFc q.1 h)
    obtain ⟨hqA, hqB⟩ := hq
    refine lv_if_ne (tgt := 24) hx hb dX7_pass_19 (by decide) (fun c1 => ?_) (fun c1 => ?_)
    · have hq := hqB c1
      refine lv_aload_n hx hb dX7_pass_24 rfl (lv_at hl 0 rfl) ?_
      have hFc := xfree_same hS hAe0 (ws := (cX7 cy a (X7_s v) (X7_aside v) (X7_kept v) (X7_isKept v) (X7_saved v) (X7_savedMany v) (X7_text v) (X7_length v) z16_v_thrown (X7_joint v) (X7_position v) (X7_isWrong v) (X7_isHollow v) (X7_sure v) (X7_away v) (X7_digested v))) hD
      refine va_callv (va_runV (As := []) (rest := []) ⟨hx, hb, hml, hown, hts⟩ (c_X7_save l dC dI cy a _ (X7_s8 v z16_v_thrown) _ hq) (cwV 0 hts gX7_pass_X7_save rfl rfl rfl (by decide +kernel) ⟨Nat.le_of_ble_eq_true rfl, Nat.le_of_ble_eq_true rfl⟩) ⟨xPre_blind, va_recv hK hP (ci := 7) (q0 := 0) rfl rfl, xPre_of hP hK hD⟩ rfl rfl hl.1 rfl (lv_room (Nat.le_of_ble_eq_true rfl)) dX7_pass_25 ⟨Nat.le_of_ble_eq_true rfl, Nat.le_of_ble_eq_true rfl⟩) hS (fun q _ h => hFc q h) hFc (fun u9 t H locs ht hvm hq hB hz1 hk1 hS => ?_)
      obtain ⟨z25_v_saved, z25_v_savedMany⟩ := u9
      obtain ⟨hP1, -, hD1⟩ := hB
      rw [ht] at hP1
      have hP : va_P (dC, dI) vwCl (cX7 cy a (X7_s v) (X7_aside v) (X7_kept v) (X7_isKept v) z25_v_saved z25_v_savedMany (X7_text v) (X7_length v) z16_v_thrown (X7_joint v) (X7_position v) (X7_isWrong v) (X7_isHollow v) (X7_sure v) (X7_away v) (X7_digested v)) H := hP1
      have hD : va_D A (cX7 cy a (X7_s v) (X7_aside v) (X7_kept v) (X7_isKept v) z25_v_saved z25_v_savedMany (X7_text v) (X7_length v) z16_v_thrown (X7_joint v) (X7_position v) (X7_isWrong v) (X7_isHollow v) (X7_sure v) (X7_away v) (X7_digested v)) := hD1.weaken (fun _ q _ h => hFc q.1 h)
      refine lv_aload_n hx hb dX7_pass_28 rfl (lv_at hl 0 rfl) ?_
      refine lv_iload_n hx hb dX7_pass_29 rfl (lv_at hl 1 rfl) ?_
      have hFc := xfree_same hS hAe0 (ws := (cX7 cy a (X7_s v) (X7_aside v) (X7_kept v) (X7_isKept v) z25_v_saved z25_v_savedMany (X7_text v) (X7_length v) z16_v_thrown (X7_joint v) (X7_position v) (X7_isWrong v) (X7_isHollow v) (X7_sure v) (X7_away v) (X7_digested v))) hD
      refine va_calli (va_runV (As := [.int x1]) (rest := []) ⟨hx, hb, hml, hown, hts⟩ (c_X7_beats l dC dI cy a _ ((X7_s v), (X7_aside v), (X7_kept v), (X7_isKept v), z25_v_saved, z25_v_savedMany, (X7_text v), (X7_length v), z16_v_thrown, (X7_joint v), (X7_position v), (X7_isWrong v), (X7_isHollow v), (X7_sure v), (X7_away v), (X7_digested v)) x1 _ hq) (cwV 1 hts gX7_pass_X7_beats rfl rfl rfl (by decide +kernel) ⟨Nat.le_of_ble_eq_true rfl, Nat.le_of_ble_eq_true rfl⟩) ⟨xPre_blind, va_recv hK hP (ci := 7) (q0 := 0) rfl rfl, xPre_of hP hK hD⟩ rfl rfl hl.1 rfl (lv_room (Nat.le_of_ble_eq_true rfl)) dX7_pass_30 ⟨Nat.le_of_ble_eq_true rfl, Nat.le_of_ble_eq_true rfl⟩) hS (fun q _ h => hFc q h) hFc (fun r30 z30_v_s t H locs ht hvm hq hB hz1 hk1 hS => ?_)
      obtain ⟨hP1, -, hD1⟩ := hB
      rw [ht] at hP1
      have hP : va_P (dC, dI) vwCl (cX7 cy a z30_v_s (X7_aside v) (X7_kept v) (X7_isKept v) z25_v_saved z25_v_savedMany (X7_text v) (X7_length v) z16_v_thrown (X7_joint v) (X7_position v) (X7_isWrong v) (X7_isHollow v) (X7_sure v) (X7_away v) (X7_digested v)) H := hP1
      have hD : va_D A (cX7 cy a z30_v_s (X7_aside v) (X7_kept v) (X7_isKept v) z25_v_saved z25_v_savedMany (X7_text v) (X7_length v) z16_v_thrown (X7_joint v) (X7_position v) (X7_isWrong v) (X7_isHollow v) (X7_sure v) (X7_away v) (X7_digested v)) := hD1.weaken (fun _ q _ h => hFc q.1 h)
      exact W.iret (v := r30) hx hb hr (fun t ht hW => ⟨⟨r30, (z30_v_s, z25_v_saved, z25_v_savedMany, z16_v_thrown), rfl, hq, (xAt_of hP hK hD ht hW)⟩, hS.F ht⟩) hS.2.2 dX7_pass_33
    · have hq := hqA c1
      refine lv_iconst (v := 0) hx hb dX7_pass_22 (by decide) ?_
      exact W.iret (v := 0) hx hb hr (fun t ht hW => ⟨⟨0, ((X7_s v), (X7_saved v), (X7_savedMany v), z16_v_thrown), rfl, hq, (xAt_of hP hK hD ht hW)⟩, hS.F ht⟩) hS.2.2 dX7_pass_23
  refine lv_aload_n hx hb dX7_pass_0 rfl (lv_at hl 0 rfl) ?_
  refine lv_iload_n hx hb dX7_pass_1 rfl (lv_at hl 1 rfl) ?_
  refine lv_iconst (v := 1) hx hb dX7_pass_2 (by decide) ?_
  refine lv_bipush (v := 30) hx hb dX7_pass_3 (by decide) ?_
  have hFc := xfree_none hS hAe0
  refine va_calli (va_runS (As := [.int x1, .int 1, .int 30]) (rest := [.ref (a 0)]) ⟨hx, hb, hml, hown, hts⟩ (c_X7_in l dC dI cy  _ x1 1 30 _ hq) (va_cwS 3 hts gX7_pass_X7_in rfl rfl rfl (by decide +kernel) ⟨Nat.le_of_ble_eq_true rfl, Nat.le_of_ble_eq_true rfl⟩) ⟨xPre_blind, xPre_of xP_nil hK (xD_nil (A := A))⟩ rfl rfl hl.1 rfl (lv_room (Nat.le_of_ble_eq_true rfl)) dX7_pass_5 ⟨Nat.le_of_ble_eq_true rfl, Nat.le_of_ble_eq_true rfl⟩) hS (fun q _ h => hFc q h) hFc (fun r5 u9 t H locs ht hvm hq hB hz1 hk1 hS => ?_)
  have hP := xj_none hP hk1
  obtain ⟨hqA, hqB⟩ := hq
  refine lv_if_eq (tgt := 15) hx hb dX7_pass_8 (by decide) (fun c2 => ?_) (fun c2 => ?_)
  · have hq := hqA c2
    refine lv_iconst (v := 1) hx hb dX7_pass_15 (by decide) ?_
    exact J16 1  _ _ _ hq hP hD hS (lv_sub hl [0, 1] rfl)
  · have hq := hqB c2
    refine lv_iconst (v := 0) hx hb dX7_pass_11 (by decide) ?_
    refine lv_goto (tgt := 16) hx hb dX7_pass_12 (by decide) ?_
    exact J16 0  _ _ _ hq hP hD hS (lv_sub hl [0, 1] rfl)
def wp_X7_root_27 (v : V_X7) (x1 : Int32) (x2 : Int32) (k27_0 : Int32) (Q : Int32 → (Nat → Int32) → (Nat → Int32) → Int32 → Int32 → Prop) : Prop :=
  wp_X7_holds v k27_0 (fun r27 z27_v_thrown =>
  ((r27 = 0 → Q 0 (X7_s v) (X7_saved v) (X7_savedMany v) z27_v_thrown) ∧
  (¬ r27 = 0 → wp_X7_lays (X7_s8 v z27_v_thrown) (72 + x1) x2 (fun r39 z39_v_s z39_v_saved z39_v_savedMany =>
  Q r39 z39_v_s z39_v_saved z39_v_savedMany z27_v_thrown))))
def wp_X7_root (v : V_X7) (x1 : Int32) (x2 : Int32) (Q : Int32 → (Nat → Int32) → (Nat → Int32) → Int32 → Int32 → Prop) : Prop :=
  wp_X7_isTuft x1 (fun r2 =>
  ((r2 = 0 → wp_X7_root_27 v x1 x2 1  Q) ∧
  (¬ r2 = 0 → wp_X7_in x2 0 9 (fun r16 =>
  ((r16 = 0 → wp_X7_root_27 v x1 x2 2  Q) ∧
  (¬ r16 = 0 → wp_X7_root_27 v x1 x2 0  Q))))))
def q_X7_root (dC : Nat → ClassId) (dI : Nat → Nat → Nat) (cy : Nat → ClassId) (a : Nat → Nat) (v : V_X7) (x1 : Int32) (x2 : Int32) (Q : Int32 → (Nat → Int32) → (Nat → Int32) → Int32 → Int32 → Prop) (A : Nat → Prop) : Array Value → State → Outcome → State → Prop := va_Qi (fun (r : Int32) (u : (Nat → Int32) × (Nat → Int32) × Int32 × Int32) => Q r u.1 u.2.1 u.2.2.1 u.2.2.2) (fun (u : (Nat → Int32) × (Nat → Int32) × Int32 × Int32) t => xAt dC dI cy A (cX7 cy a u.1 (X7_aside v) (X7_kept v) (X7_isKept v) u.2.1 u.2.2.1 (X7_text v) (X7_length v) u.2.2.2 (X7_joint v) (X7_position v) (X7_isWrong v) (X7_isHollow v) (X7_sure v) (X7_away v) (X7_digested v)) t) A
set_option maxHeartbeats 4000000 in
set_option maxRecDepth 100000 in
theorem c_X7_root (l : Launch) (dC : Nat → ClassId) (dI : Nat → Nat → Nat) (cy : Nat → ClassId) (a : Nat → Nat) (sz : Nat) (v : V_X7) (x1 : Int32) (x2 : Int32) (Q : Int32 → (Nat → Int32) → (Nat → Int32) → Int32 → Int32 → Prop) (hq : wp_X7_root v x1 x2 Q) : Met l yX7_root wsX7_root ({ frames := 2, cells := 0, slots := 0, locals := 44 } : Room) (va_Pc [.ref (a 0), .int x1, .int x2] (xPre dC dI cy (wX7 cy a v) sz)) (q_X7_root dC dI cy a v x1 x2 Q (va_A (wX7 cy a v) sz)) 0 0 (va_A (wX7 cy a v) sz) := by
  refine Met.ofW (cc := cX7_root) (maxL := 3) (ret := (some .int)) (by decide) rfl ?_
  intro p e s m args below meth c s₁ B hml hv
  obtain ⟨rfl, hsz, hP, hK, hD0⟩ := hv
  have hx := B.exec
  have hb := B.bytes
  have hr := B.returns
  have hts := atoms_spec (ws := wsX7_root) B.pre
  have hown : s.vm.findClass RX7 = some m.cls := findClass_of_methodNamed B.named
  have hlocks := B.notSynchronized
  subst hsz
  have hD := hD0.self (sz := s.heap.size)
  generalize hAe : va_A (wX7 cy a v) s.heap.size = A at hD ⊢
  have hAe0 : ∀ q : Nat, s.heap.size ≤ q → A q := fun q h => by rw [← hAe]; exact Or.inr h
  have hS : va_S A s.heap s.heap [] := va_S.rf
  have hl := lv_entry ([.ref (a 0), .int x1, .int x2]) (n := 3) (Nat.le_of_ble_eq_true rfl)
  rw [lg_entry_eq]
  generalize (lg_sl ([.ref (a 0), .int x1, .int x2]) ++ List.replicate (3 - (lg_sl ([.ref (a 0), .int x1, .int x2])).length) Slot.unset).toArray = ls at hl ⊢
  have hl : lv_has ls 3 [(0, .ref (a 0)), (1, .int x1), (2, .int x2)] := hl
  unfold wp_X7_root at hq
  have J27 : ∀ (k27_0 : Int32) (H : Heap) (locs : List Loc) (ls : Array Slot), wp_X7_root_27 v x1 x2 k27_0 Q → va_P (dC, dI) vwCl (wX7 cy a v) H → va_D A (wX7 cy a v) → va_S A s.heap H locs → lv_has ls 3 [(0, .ref (a 0)), (1, .int x1), (2, .int x2)] → W p l e (headSpec wsX7_root ({ frames := 2, cells := 0, slots := 0, locals := 44 } : Room)).room s m ([.ref (a 0), .int x1, .int x2] : List Value).toArray below meth c H locs 0 0 (MQ below (q_X7_root dC dI cy a v x1 x2 Q A) ([.ref (a 0), .int x1, .int x2] : List Value).toArray s 0 0 A) (F0 m 27 ls [.int k27_0, .ref (a 0)]) := by
    intro k27_0 H locs ls hq hP hD hS hl
    unfold wp_X7_root_27 at hq
    have hFc := xfree_same hS hAe0 (ws := (wX7 cy a v)) hD
    refine va_calli (va_runV (As := [.int k27_0]) (rest := []) ⟨hx, hb, hml, hown, hts⟩ (c_X7_holds l dC dI cy a _ v k27_0 _ hq) (cwV 1 hts gX7_root_X7_holds rfl rfl rfl (by decide +kernel) ⟨Nat.le_of_ble_eq_true rfl, Nat.le_of_ble_eq_true rfl⟩) ⟨xPre_blind, va_recv hK hP (ci := 7) (q0 := 0) rfl rfl, xPre_of hP hK hD⟩ rfl rfl hl.1 rfl (lv_room (Nat.le_of_ble_eq_true rfl)) dX7_root_27 ⟨Nat.le_of_ble_eq_true rfl, Nat.le_of_ble_eq_true rfl⟩) hS (fun q _ h => hFc q h) hFc (fun r27 z27_v_thrown t H locs ht hvm hq hB hz1 hk1 hS => ?_)
    obtain ⟨hP1, -, hD1⟩ := hB
    rw [ht] at hP1
    have hP : va_P (dC, dI) vwCl (cX7 cy a (X7_s v) (X7_aside v) (X7_kept v) (X7_isKept v) (X7_saved v) (X7_savedMany v) (X7_text v) (X7_length v) z27_v_thrown (X7_joint v) (X7_position v) (X7_isWrong v) (X7_isHollow v) (X7_sure v) (X7_away v) (X7_digested v)) H := hP1
    have hD : va_D A (cX7 cy a (X7_s v) (X7_aside v) (X7_kept v) (X7_isKept v) (X7_saved v) (X7_savedMany v) (X7_text v) (X7_length v) z27_v_thrown (X7_joint v) (X7_position v) (X7_isWrong v) (X7_isHollow v) (X7_sure v) (X7_away v) (X7_digested v)) := hD1.weaken (fun _ q _ h => hFc q.1 h)
    obtain ⟨hqA, hqB⟩ := hq
    refine lv_if_eq (tgt := 45) hx hb dX7_root_30 (by decide) (fun c1 => ?_) (fun c1 => ?_)
    · have hq := hqA c1
      refine lv_iconst (v := 0) hx hb dX7_root_45 (by decide) ?_
      exact W.iret (v := 0) hx hb hr (fun t ht hW => ⟨⟨0, ((X7_s v), (X7_saved v), (X7_savedMany v), z27_v_thrown), rfl, hq, (xAt_of hP hK hD ht hW)⟩, hS.F ht⟩) hS.2.2 dX7_root_46
    · have hq := hqB c1
      refine lv_aload_n hx hb dX7_root_33 rfl (lv_at hl 0 rfl) ?_
      refine lv_bipush (v := 72) hx hb dX7_root_34 (by decide) ?_
      refine lv_iload_n hx hb dX7_root_36 rfl (lv_at hl 1 rfl) ?_
      refine lv_iadd hx hb dX7_root_37 ?_
      refine lv_iload_n hx hb dX7_root_38 rfl (lv_at hl 2 rfl) ?_
      have hFc := xfree_same hS hAe0 (ws := (cX7 cy a (X7_s v) (X7_aside v) (X7_kept v) (X7_isKept v) (X7_saved v) (X7_savedMany v) (X7_text v) (X7_length v) z27_v_thrown (X7_joint v) (X7_position v) (X7_isWrong v) (X7_isHollow v) (X7_sure v) (X7_away v) (X7_digested v))) hD
      refine va_calli (va_runV (As := [.int (72 + x1), .int x2]) (rest := []) ⟨hx, hb, hml, hown, hts⟩ (c_X7_lays l dC dI cy a _ (X7_s8 v z27_v_thrown) (72 + x1) x2 _ hq) (cwV 2 hts gX7_root_X7_lays rfl rfl rfl (by decide +kernel) ⟨Nat.le_of_ble_eq_true rfl, Nat.le_of_ble_eq_true rfl⟩) ⟨xPre_blind, va_recv hK hP (ci := 7) (q0 := 0) rfl rfl, xPre_of hP hK hD⟩ rfl rfl hl.1 rfl (lv_room (Nat.le_of_ble_eq_true rfl)) dX7_root_39 ⟨Nat.le_of_ble_eq_true rfl, Nat.le_of_ble_eq_true rfl⟩) hS (fun q _ h => hFc q h) hFc (fun r39 u9 t H locs ht hvm hq hB hz1 hk1 hS => ?_)
      obtain ⟨z39_v_s, z39_v_saved, z39_v_savedMany⟩ := u9
      obtain ⟨hP1, -, hD1⟩ := hB
      rw [ht] at hP1
      have hP : va_P (dC, dI) vwCl (cX7 cy a z39_v_s (X7_aside v) (X7_kept v) (X7_isKept v) z39_v_saved z39_v_savedMany (X7_text v) (X7_length v) z27_v_thrown (X7_joint v) (X7_position v) (X7_isWrong v) (X7_isHollow v) (X7_sure v) (X7_away v) (X7_digested v)) H := hP1
      have hD : va_D A (cX7 cy a z39_v_s (X7_aside v) (X7_kept v) (X7_isKept v) z39_v_saved z39_v_savedMany (X7_text v) (X7_length v) z27_v_thrown (X7_joint v) (X7_position v) (X7_isWrong v) (X7_isHollow v) (X7_sure v) (X7_away v) (X7_digested v)) := hD1.weaken (fun _ q _ h => hFc q.1 h)
      refine lv_goto (tgt := 46) hx hb dX7_root_42 (by decide) ?_
      exact W.iret (v := r39) hx hb hr (fun t ht hW => ⟨⟨r39, (z39_v_s, z39_v_saved, z39_v_savedMany, z27_v_thrown), rfl, hq, (xAt_of hP hK hD ht hW)⟩, hS.F ht⟩) hS.2.2 dX7_root_46
  refine lv_aload_n hx hb dX7_root_0 rfl (lv_at hl 0 rfl) ?_
  refine lv_iload_n hx hb dX7_root_1 rfl (lv_at hl 1 rfl) ?_
  have hFc := xfree_none hS hAe0
  refine va_calli (va_runS (As := [.int x1]) (rest := [.ref (a 0)]) ⟨hx, hb, hml, hown, hts⟩ (c_X7_isTuft l dC dI cy  _ x1 _ hq) (va_cwS 1 hts gX7_root_X7_isTuft rfl rfl rfl (by decide +kernel) ⟨Nat.le_of_ble_eq_true rfl, Nat.le_of_ble_eq_true rfl⟩) ⟨xPre_blind, xPre_of xP_nil hK (xD_nil (A := A))⟩ rfl rfl hl.1 rfl (lv_room (Nat.le_of_ble_eq_true rfl)) dX7_root_2 ⟨Nat.le_of_ble_eq_true rfl, Nat.le_of_ble_eq_true rfl⟩) hS (fun q _ h => hFc q h) hFc (fun r2 u9 t H locs ht hvm hq hB hz1 hk1 hS => ?_)
  have hP := xj_none hP hk1
  obtain ⟨hqA, hqB⟩ := hq
  refine lv_if_ne (tgt := 12) hx hb dX7_root_5 (by decide) (fun c3 => ?_) (fun c3 => ?_)
  · have hq := hqB c3
    refine lv_iload_n hx hb dX7_root_12 rfl (lv_at hl 2 rfl) ?_
    refine lv_iconst (v := 0) hx hb dX7_root_13 (by decide) ?_
    refine lv_bipush (v := 9) hx hb dX7_root_14 (by decide) ?_
    have hFc := xfree_none hS hAe0
    refine va_calli (va_runS (As := [.int x2, .int 0, .int 9]) (rest := [.ref (a 0)]) ⟨hx, hb, hml, hown, hts⟩ (c_X7_in l dC dI cy  _ x2 0 9 _ hq) (va_cwS 3 hts gX7_root_X7_in rfl rfl rfl (by decide +kernel) ⟨Nat.le_of_ble_eq_true rfl, Nat.le_of_ble_eq_true rfl⟩) ⟨xPre_blind, xPre_of xP_nil hK (xD_nil (A := A))⟩ rfl rfl hl.1 rfl (lv_room (Nat.le_of_ble_eq_true rfl)) dX7_root_16 ⟨Nat.le_of_ble_eq_true rfl, Nat.le_of_ble_eq_true rfl⟩) hS (fun q _ h => hFc q h) hFc (fun r16 u9 t H locs ht hvm hq hB hz1 hk1 hS => ?_)
    have hP := xj_none hP hk1
    obtain ⟨hqA, hqB⟩ := hq
    refine lv_if_ne (tgt := 26) hx hb dX7_root_19 (by decide) (fun c2 => ?_) (fun c2 => ?_)
    · have hq := hqB c2
      refine lv_iconst (v := 0) hx hb dX7_root_26 (by decide) ?_
      exact J27 0  _ _ _ hq hP hD hS (lv_sub hl [0, 1, 2] rfl)
    · have hq := hqA c2
      refine lv_iconst (v := 2) hx hb dX7_root_22 (by decide) ?_
      refine lv_goto (tgt := 27) hx hb dX7_root_23 (by decide) ?_
      exact J27 2  _ _ _ hq hP hD hS (lv_sub hl [0, 1, 2] rfl)
  · have hq := hqA c3
    refine lv_iconst (v := 1) hx hb dX7_root_8 (by decide) ?_
    refine lv_goto (tgt := 27) hx hb dX7_root_9 (by decide) ?_
    exact J27 1  _ _ _ hq hP hD hS (lv_sub hl [0, 1, 2] rfl)
def wb_X7_traps_4 (v : V_X7)  (y4_1 : Int32) (y4_2 : Int32) (B4 : Int32 → Int32 → Prop) (Q : Int32 → Prop) : Prop :=
  ((64 ≤ y4_2 → Q y4_1) ∧
  (¬ 64 ≤ y4_2 → vp_in (136 + y4_2) 1472 ∧ ((((X7_s v) (136 + y4_2).toNatClampNeg) = (-1) → B4 (y4_1 + 0) (y4_2 + 1)) ∧
  (¬ ((X7_s v) (136 + y4_2).toNatClampNeg) = (-1) → B4 (y4_1 + 1) (y4_2 + 1)))))
def wp_X7_traps_4 (v : V_X7)  (y4_1 : Int32) (y4_2 : Int32) (Q : Int32 → Prop) : Prop :=
  ∃ (I : Int32 → Int32 → Prop) (μ : Int32 → Int32 → Nat), I y4_1 y4_2 ∧ ∀ (s0 : Int32) (s1 : Int32), I s0 s1 → wb_X7_traps_4 v  s0 s1 (fun t0 t1 => I t0 t1 ∧ μ t0 t1 < μ s0 s1) Q
def wp_X7_traps (v : V_X7) (Q : Int32 → Prop) : Prop :=
  wp_X7_traps_4 v  0 0 Q
def q_X7_traps (dC : Nat → ClassId) (dI : Nat → Nat → Nat) (cy : Nat → ClassId) (a : Nat → Nat) (v : V_X7) (Q : Int32 → Prop) (A : Nat → Prop) : Array Value → State → Outcome → State → Prop := va_Qi (fun (r : Int32) (u : Unit) => Q r ) (fun (u : Unit) t => xAt dC dI cy A (wX7 cy a v) t) A
set_option maxHeartbeats 4000000 in
set_option maxRecDepth 100000 in
theorem c_X7_traps (l : Launch) (dC : Nat → ClassId) (dI : Nat → Nat → Nat) (cy : Nat → ClassId) (a : Nat → Nat) (sz : Nat) (v : V_X7) (Q : Int32 → Prop) (hq : wp_X7_traps v Q) : Met l yX7_traps wsX7_traps ({ frames := 0, cells := 0, slots := 0, locals := 0 } : Room) (va_Pc [.ref (a 0)] (xPre dC dI cy (wX7 cy a v) sz)) (q_X7_traps dC dI cy a v Q (va_A (wX7 cy a v) sz)) 0 0 (va_A (wX7 cy a v) sz) := by
  refine Met.ofW (cc := cX7_traps) (maxL := 3) (ret := (some .int)) (by decide) rfl ?_
  intro p e s m args below meth c s₁ B hml hv
  obtain ⟨rfl, hsz, hP, hK, hD0⟩ := hv
  have hx := B.exec
  have hb := B.bytes
  have hr := B.returns
  have hts := atoms_spec (ws := wsX7_traps) B.pre
  have hown : s.vm.findClass RX7 = some m.cls := findClass_of_methodNamed B.named
  have hlocks := B.notSynchronized
  subst hsz
  have hD := hD0.self (sz := s.heap.size)
  generalize hAe : va_A (wX7 cy a v) s.heap.size = A at hD ⊢
  have hAe0 : ∀ q : Nat, s.heap.size ≤ q → A q := fun q h => by rw [← hAe]; exact Or.inr h
  have hS : va_S A s.heap s.heap [] := va_S.rf
  have hl := lv_entry ([.ref (a 0)]) (n := 3) (Nat.le_of_ble_eq_true rfl)
  rw [lg_entry_eq]
  generalize (lg_sl ([.ref (a 0)]) ++ List.replicate (3 - (lg_sl ([.ref (a 0)])).length) Slot.unset).toArray = ls at hl ⊢
  have hl : lv_has ls 3 [(0, .ref (a 0))] := hl
  have lk0 := hts (Cond.fieldLink RX7 7 "MolesLawnModel" "s" "[I") (List.mem_cons_of_mem _ (List.mem_append_left _ (List.mem_of_getElem? (i := 0) rfl)))
  have iK7 : ∀ w ∈ wsX70, w ∈ wsX7_traps := fun _ h => (List.mem_cons_of_mem _ (List.mem_append_right _ h))
  unfold wp_X7_traps at hq
  have J4 : ∀  (y4_1 : Int32) (y4_2 : Int32) (H : Heap) (locs : List Loc) (ls : Array Slot), wp_X7_traps_4 v  y4_1 y4_2 Q → va_P (dC, dI) vwCl (wX7 cy a v) H → va_D A (wX7 cy a v) → va_S A s.heap H locs → lv_has ls 3 [(0, .ref (a 0)), (1, .int y4_1), (2, .int y4_2)] → W p l e (headSpec wsX7_traps ({ frames := 0, cells := 0, slots := 0, locals := 0 } : Room)).room s m ([.ref (a 0)] : List Value).toArray below meth c H locs 0 0 (MQ below (q_X7_traps dC dI cy a v Q A) ([.ref (a 0)] : List Value).toArray s 0 0 A) (F0 m 4 ls []) := by
    intro  y4_1 y4_2 H locs ls hq hP hD hS hl
    obtain ⟨I4, μ4, h0, hs4⟩ := hq
    have key : ∀ (n : Nat) (y4_1 : Int32) (y4_2 : Int32) (H : Heap) (locs : List Loc) (ls : Array Slot), I4 y4_1 y4_2 → μ4 y4_1 y4_2 < n → va_P (dC, dI) vwCl (wX7 cy a v) H → va_D A (wX7 cy a v) → va_S A s.heap H locs → lv_has ls 3 [(0, .ref (a 0)), (1, .int y4_1), (2, .int y4_2)] → W p l e (headSpec wsX7_traps ({ frames := 0, cells := 0, slots := 0, locals := 0 } : Room)).room s m ([.ref (a 0)] : List Value).toArray below meth c H locs 0 0 (MQ below (q_X7_traps dC dI cy a v Q A) ([.ref (a 0)] : List Value).toArray s 0 0 A) (F0 m 4 ls []) := by
      intro n
      induction n with
      | zero => intro y4_1 y4_2 H locs ls _ hm; exact absurd hm (Nat.not_lt_zero _)
      | succ n ih =>
        intro y4_1 y4_2 H locs ls hI hm hP hD hS hl
        have hq := hs4 y4_1 y4_2 hI
        generalize hB4 : (fun (t0 : Int32) (t1 : Int32) => I4 t0 t1 ∧ μ4 t0 t1 < μ4 y4_1 y4_2) = B4 at hq
        have bk4 : ∀ (y4_1 : Int32) (y4_2 : Int32) (H : Heap) (locs : List Loc) (ls : Array Slot), B4 y4_1 y4_2 → va_P (dC, dI) vwCl (wX7 cy a v) H → va_D A (wX7 cy a v) → va_S A s.heap H locs → lv_has ls 3 [(0, .ref (a 0)), (1, .int y4_1), (2, .int y4_2)] → W p l e (headSpec wsX7_traps ({ frames := 0, cells := 0, slots := 0, locals := 0 } : Room)).room s m ([.ref (a 0)] : List Value).toArray below meth c H locs 0 0 (MQ below (q_X7_traps dC dI cy a v Q A) ([.ref (a 0)] : List Value).toArray s 0 0 A) (F0 m 4 ls []) := by
          intro y4_1 y4_2 H locs ls h
          rw [← hB4] at h
          exact ih y4_1 y4_2 H locs ls h.1 (Nat.lt_of_lt_of_le h.2 (Nat.le_of_lt_succ hm))
        unfold wb_X7_traps_4 at hq
        refine lv_iload_n hx hb dX7_traps_4 rfl (lv_at hl 2 rfl) ?_
        refine lv_bipush (v := 64) hx hb dX7_traps_5 (by decide) ?_
        obtain ⟨hqA, hqB⟩ := hq
        refine lv_icmp_ge (tgt := 38) hx hb dX7_traps_7 (by decide) (fun c3 => ?_) (fun c3 => ?_)
        · have hq := hqA c3
          refine lv_iload_n hx hb dX7_traps_38 rfl (lv_at hl 1 rfl) ?_
          exact W.iret (v := y4_1) hx hb hr (fun t ht hW => ⟨⟨y4_1, (), rfl, hq, (xAt_of hP hK hD ht hW)⟩, hS.F ht⟩) hS.2.2 dX7_traps_39
        · have hq := hqB c3
          refine lv_iload_n hx hb dX7_traps_10 rfl (lv_at hl 1 rfl) ?_
          refine lv_aload_n hx hb dX7_traps_11 rfl (lv_at hl 0 rfl) ?_
          refine va_get (D := (dC, dI)) (ci := 7) (v := .ref (a 1)) (C := RX7) (T := TX7) (N := 16) hx hb hts iK7 hown hK hP 0 rfl rfl 0 (by decide) lk0 (fun _ h9 => h9) rfl dX7_traps_12 ?_
          refine lv_sipush (v := 136) hx hb dX7_traps_15 (by decide) ?_
          refine lv_iload_n hx hb dX7_traps_18 rfl (lv_at hl 2 rfl) ?_
          refine lv_iadd hx hb dX7_traps_19 ?_
          obtain ⟨g1, hq⟩ := hq
          refine va_iald hx hb hK hP 1 0 rfl rfl g1 dX7_traps_20 ?_
          refine lv_iconst (v := (-1)) hx hb dX7_traps_21 (by decide) ?_
          obtain ⟨hqA, hqB⟩ := hq
          refine lv_icmp_ne (tgt := 29) hx hb dX7_traps_22 (by decide) (fun c2 => ?_) (fun c2 => ?_)
          · have hq := hqB c2
            refine lv_iconst (v := 1) hx hb dX7_traps_29 (by decide) ?_
            refine lv_iadd hx hb dX7_traps_30 ?_
            refine lv_istore_n (lv' := [(1, .int (y4_1 + 1)), (0, .ref (a 0)), (2, .int y4_2)]) hx hb dX7_traps_31 rfl hl (by decide) rfl (fun ls hl => ?_)
            refine lv_iinc (v := (y4_2 + 1)) (lv' := [(2, .int (y4_2 + 1)), (1, .int (y4_1 + 1)), (0, .ref (a 0))]) hx hb dX7_traps_32 hl (k := 2) rfl rfl (by decide) rfl (fun ls hl => ?_)
            refine lv_goto (tgt := 4) hx hb dX7_traps_35 (by decide) ?_
            exact bk4 (y4_1 + 1) (y4_2 + 1) _ _ _ hq hP hD hS (lv_sub hl [2, 1, 0] rfl)
          · have hq := hqA c2
            refine lv_iconst (v := 0) hx hb dX7_traps_25 (by decide) ?_
            refine lv_goto (tgt := 30) hx hb dX7_traps_26 (by decide) ?_
            refine lv_iadd hx hb dX7_traps_30 ?_
            refine lv_istore_n (lv' := [(1, .int (y4_1 + 0)), (0, .ref (a 0)), (2, .int y4_2)]) hx hb dX7_traps_31 rfl hl (by decide) rfl (fun ls hl => ?_)
            refine lv_iinc (v := (y4_2 + 1)) (lv' := [(2, .int (y4_2 + 1)), (1, .int (y4_1 + 0)), (0, .ref (a 0))]) hx hb dX7_traps_32 hl (k := 2) rfl rfl (by decide) rfl (fun ls hl => ?_)
            refine lv_goto (tgt := 4) hx hb dX7_traps_35 (by decide) ?_
            exact bk4 (y4_1 + 0) (y4_2 + 1) _ _ _ hq hP hD hS (lv_sub hl [2, 1, 0] rfl)
    exact key _ y4_1 y4_2 H locs ls h0 (Nat.lt_succ_self _) hP hD hS hl
  refine lv_iconst (v := 0) hx hb dX7_traps_0 (by decide) ?_
  refine lv_istore_n (lv' := [(1, .int 0), (0, .ref (a 0))]) hx hb dX7_traps_1 rfl hl (by decide) rfl (fun ls hl => ?_)
  refine lv_iconst (v := 0) hx hb dX7_traps_2 (by decide) ?_
  refine lv_istore_n (lv' := [(2, .int 0), (1, .int 0), (0, .ref (a 0))]) hx hb dX7_traps_3 rfl hl (by decide) rfl (fun ls hl => ?_)
  exact J4  0 0 _ _ _ hq hP hD hS (lv_sub hl [2, 1, 0] rfl)
def wp_X7_trap_45 (v : V_X7) (x1 : Int32) (x2 : Int32) (k45_0 : Int32) (Q : Int32 → (Nat → Int32) → (Nat → Int32) → Int32 → Int32 → Prop) : Prop :=
  wp_X7_holds v k45_0 (fun r45 z45_v_thrown =>
  ((r45 = 0 → Q 0 (X7_s v) (X7_saved v) (X7_savedMany v) z45_v_thrown) ∧
  (¬ r45 = 0 → wp_X7_lays (X7_s8 v z45_v_thrown) (136 + x1) x2 (fun r60 z60_v_s z60_v_saved z60_v_savedMany =>
  wp_X7_traps (z60_v_s, (X7_aside v), (X7_kept v), (X7_isKept v), z60_v_saved, z60_v_savedMany, (X7_text v), (X7_length v), z45_v_thrown, (X7_joint v), (X7_position v), (X7_isWrong v), (X7_isHollow v), (X7_sure v), (X7_away v), (X7_digested v)) (fun r65 =>
  Q r65 z60_v_s z60_v_saved z60_v_savedMany z45_v_thrown)))))
def wp_X7_trap (v : V_X7) (x1 : Int32) (x2 : Int32) (Q : Int32 → (Nat → Int32) → (Nat → Int32) → Int32 → Int32 → Prop) : Prop :=
  wp_X7_isTuft x1 (fun r2 =>
  ((r2 = 0 → wp_X7_trap_45 v x1 x2 1  Q) ∧
  (¬ r2 = 0 → wp_X7_in x2 0 20 (fun r16 =>
  ((r16 = 0 → wp_X7_trap_45 v x1 x2 2  Q) ∧
  (¬ r16 = 0 → vp_in (136 + x1) 1472 ∧ ((((X7_s v) (136 + x1).toNatClampNeg) = (-1) → wp_X7_trap_45 v x1 x2 0  Q) ∧
  (¬ ((X7_s v) (136 + x1).toNatClampNeg) = (-1) → wp_X7_trap_45 v x1 x2 3  Q))))))))
def q_X7_trap (dC : Nat → ClassId) (dI : Nat → Nat → Nat) (cy : Nat → ClassId) (a : Nat → Nat) (v : V_X7) (x1 : Int32) (x2 : Int32) (Q : Int32 → (Nat → Int32) → (Nat → Int32) → Int32 → Int32 → Prop) (A : Nat → Prop) : Array Value → State → Outcome → State → Prop := va_Qi (fun (r : Int32) (u : (Nat → Int32) × (Nat → Int32) × Int32 × Int32) => Q r u.1 u.2.1 u.2.2.1 u.2.2.2) (fun (u : (Nat → Int32) × (Nat → Int32) × Int32 × Int32) t => xAt dC dI cy A (cX7 cy a u.1 (X7_aside v) (X7_kept v) (X7_isKept v) u.2.1 u.2.2.1 (X7_text v) (X7_length v) u.2.2.2 (X7_joint v) (X7_position v) (X7_isWrong v) (X7_isHollow v) (X7_sure v) (X7_away v) (X7_digested v)) t) A
set_option maxHeartbeats 4000000 in
set_option maxRecDepth 100000 in
theorem c_X7_trap (l : Launch) (dC : Nat → ClassId) (dI : Nat → Nat → Nat) (cy : Nat → ClassId) (a : Nat → Nat) (sz : Nat) (v : V_X7) (x1 : Int32) (x2 : Int32) (Q : Int32 → (Nat → Int32) → (Nat → Int32) → Int32 → Int32 → Prop) (hq : wp_X7_trap v x1 x2 Q) : Met l yX7_trap wsX7_trap ({ frames := 2, cells := 0, slots := 0, locals := 44 } : Room) (va_Pc [.ref (a 0), .int x1, .int x2] (xPre dC dI cy (wX7 cy a v) sz)) (q_X7_trap dC dI cy a v x1 x2 Q (va_A (wX7 cy a v) sz)) 0 0 (va_A (wX7 cy a v) sz) := by
  refine Met.ofW (cc := cX7_trap) (maxL := 4) (ret := (some .int)) (by decide) rfl ?_
  intro p e s m args below meth c s₁ B hml hv
  obtain ⟨rfl, hsz, hP, hK, hD0⟩ := hv
  have hx := B.exec
  have hb := B.bytes
  have hr := B.returns
  have hts := atoms_spec (ws := wsX7_trap) B.pre
  have hown : s.vm.findClass RX7 = some m.cls := findClass_of_methodNamed B.named
  have hlocks := B.notSynchronized
  subst hsz
  have hD := hD0.self (sz := s.heap.size)
  generalize hAe : va_A (wX7 cy a v) s.heap.size = A at hD ⊢
  have hAe0 : ∀ q : Nat, s.heap.size ≤ q → A q := fun q h => by rw [← hAe]; exact Or.inr h
  have hS : va_S A s.heap s.heap [] := va_S.rf
  have hl := lv_entry ([.ref (a 0), .int x1, .int x2]) (n := 4) (Nat.le_of_ble_eq_true rfl)
  rw [lg_entry_eq]
  generalize (lg_sl ([.ref (a 0), .int x1, .int x2]) ++ List.replicate (4 - (lg_sl ([.ref (a 0), .int x1, .int x2])).length) Slot.unset).toArray = ls at hl ⊢
  have hl : lv_has ls 4 [(0, .ref (a 0)), (1, .int x1), (2, .int x2)] := hl
  have lk0 := hts (Cond.fieldLink RX7 7 "MolesLawnModel" "s" "[I") (List.mem_cons_of_mem _ (List.mem_append_left _ (List.mem_append_left _ (List.mem_of_getElem? (i := 0) rfl))))
  have iK7 : ∀ w ∈ wsX70, w ∈ wsX7_trap := fun _ h => (List.mem_cons_of_mem _ (List.mem_append_right _ h))
  unfold wp_X7_trap at hq
  have J45 : ∀ (k45_0 : Int32) (H : Heap) (locs : List Loc) (ls : Array Slot), wp_X7_trap_45 v x1 x2 k45_0 Q → va_P (dC, dI) vwCl (wX7 cy a v) H → va_D A (wX7 cy a v) → va_S A s.heap H locs → lv_has ls 4 [(0, .ref (a 0)), (1, .int x1), (2, .int x2)] → W p l e (headSpec wsX7_trap ({ frames := 2, cells := 0, slots := 0, locals := 44 } : Room)).room s m ([.ref (a 0), .int x1, .int x2] : List Value).toArray below meth c H locs 0 0 (MQ below (q_X7_trap dC dI cy a v x1 x2 Q A) ([.ref (a 0), .int x1, .int x2] : List Value).toArray s 0 0 A) (F0 m 45 ls [.int k45_0, .ref (a 0)]) := by
    intro k45_0 H locs ls hq hP hD hS hl
    unfold wp_X7_trap_45 at hq
    have hFc := xfree_same hS hAe0 (ws := (wX7 cy a v)) hD
    refine va_calli (va_runV (As := [.int k45_0]) (rest := []) ⟨hx, hb, hml, hown, hts⟩ (c_X7_holds l dC dI cy a _ v k45_0 _ hq) (cwV 1 hts gX7_trap_X7_holds rfl rfl rfl (by decide +kernel) ⟨Nat.le_of_ble_eq_true rfl, Nat.le_of_ble_eq_true rfl⟩) ⟨xPre_blind, va_recv hK hP (ci := 7) (q0 := 0) rfl rfl, xPre_of hP hK hD⟩ rfl rfl hl.1 rfl (lv_room (Nat.le_of_ble_eq_true rfl)) dX7_trap_45 ⟨Nat.le_of_ble_eq_true rfl, Nat.le_of_ble_eq_true rfl⟩) hS (fun q _ h => hFc q h) hFc (fun r45 z45_v_thrown t H locs ht hvm hq hB hz1 hk1 hS => ?_)
    obtain ⟨hP1, -, hD1⟩ := hB
    rw [ht] at hP1
    have hP : va_P (dC, dI) vwCl (cX7 cy a (X7_s v) (X7_aside v) (X7_kept v) (X7_isKept v) (X7_saved v) (X7_savedMany v) (X7_text v) (X7_length v) z45_v_thrown (X7_joint v) (X7_position v) (X7_isWrong v) (X7_isHollow v) (X7_sure v) (X7_away v) (X7_digested v)) H := hP1
    have hD : va_D A (cX7 cy a (X7_s v) (X7_aside v) (X7_kept v) (X7_isKept v) (X7_saved v) (X7_savedMany v) (X7_text v) (X7_length v) z45_v_thrown (X7_joint v) (X7_position v) (X7_isWrong v) (X7_isHollow v) (X7_sure v) (X7_away v) (X7_digested v)) := hD1.weaken (fun _ q _ h => hFc q.1 h)
    obtain ⟨hqA, hqB⟩ := hq
    refine lv_if_ne (tgt := 53) hx hb dX7_trap_48 (by decide) (fun c1 => ?_) (fun c1 => ?_)
    · have hq := hqB c1
      refine lv_aload_n hx hb dX7_trap_53 rfl (lv_at hl 0 rfl) ?_
      refine lv_sipush (v := 136) hx hb dX7_trap_54 (by decide) ?_
      refine lv_iload_n hx hb dX7_trap_57 rfl (lv_at hl 1 rfl) ?_
      refine lv_iadd hx hb dX7_trap_58 ?_
      refine lv_iload_n hx hb dX7_trap_59 rfl (lv_at hl 2 rfl) ?_
      have hFc := xfree_same hS hAe0 (ws := (cX7 cy a (X7_s v) (X7_aside v) (X7_kept v) (X7_isKept v) (X7_saved v) (X7_savedMany v) (X7_text v) (X7_length v) z45_v_thrown (X7_joint v) (X7_position v) (X7_isWrong v) (X7_isHollow v) (X7_sure v) (X7_away v) (X7_digested v))) hD
      refine va_calli (va_runV (As := [.int (136 + x1), .int x2]) (rest := []) ⟨hx, hb, hml, hown, hts⟩ (c_X7_lays l dC dI cy a _ (X7_s8 v z45_v_thrown) (136 + x1) x2 _ hq) (cwV 2 hts gX7_trap_X7_lays rfl rfl rfl (by decide +kernel) ⟨Nat.le_of_ble_eq_true rfl, Nat.le_of_ble_eq_true rfl⟩) ⟨xPre_blind, va_recv hK hP (ci := 7) (q0 := 0) rfl rfl, xPre_of hP hK hD⟩ rfl rfl hl.1 rfl (lv_room (Nat.le_of_ble_eq_true rfl)) dX7_trap_60 ⟨Nat.le_of_ble_eq_true rfl, Nat.le_of_ble_eq_true rfl⟩) hS (fun q _ h => hFc q h) hFc (fun r60 u9 t H locs ht hvm hq hB hz1 hk1 hS => ?_)
      obtain ⟨z60_v_s, z60_v_saved, z60_v_savedMany⟩ := u9
      obtain ⟨hP1, -, hD1⟩ := hB
      rw [ht] at hP1
      have hP : va_P (dC, dI) vwCl (cX7 cy a z60_v_s (X7_aside v) (X7_kept v) (X7_isKept v) z60_v_saved z60_v_savedMany (X7_text v) (X7_length v) z45_v_thrown (X7_joint v) (X7_position v) (X7_isWrong v) (X7_isHollow v) (X7_sure v) (X7_away v) (X7_digested v)) H := hP1
      have hD : va_D A (cX7 cy a z60_v_s (X7_aside v) (X7_kept v) (X7_isKept v) z60_v_saved z60_v_savedMany (X7_text v) (X7_length v) z45_v_thrown (X7_joint v) (X7_position v) (X7_isWrong v) (X7_isHollow v) (X7_sure v) (X7_away v) (X7_digested v)) := hD1.weaken (fun _ q _ h => hFc q.1 h)
      refine lv_istore_n (lv' := [(3, .int r60), (0, .ref (a 0)), (1, .int x1), (2, .int x2)]) hx hb dX7_trap_63 rfl hl (by decide) rfl (fun ls hl => ?_)
      refine lv_aload_n hx hb dX7_trap_64 rfl (lv_at hl 1 rfl) ?_
      have hFc := xfree_same hS hAe0 (ws := (cX7 cy a z60_v_s (X7_aside v) (X7_kept v) (X7_isKept v) z60_v_saved z60_v_savedMany (X7_text v) (X7_length v) z45_v_thrown (X7_joint v) (X7_position v) (X7_isWrong v) (X7_isHollow v) (X7_sure v) (X7_away v) (X7_digested v))) hD
      refine va_calli (va_runV (As := []) (rest := []) ⟨hx, hb, hml, hown, hts⟩ (c_X7_traps l dC dI cy a _ (z60_v_s, (X7_aside v), (X7_kept v), (X7_isKept v), z60_v_saved, z60_v_savedMany, (X7_text v), (X7_length v), z45_v_thrown, (X7_joint v), (X7_position v), (X7_isWrong v), (X7_isHollow v), (X7_sure v), (X7_away v), (X7_digested v)) _ hq) (cwV 0 hts gX7_trap_X7_traps rfl rfl rfl (by decide +kernel) ⟨Nat.le_of_ble_eq_true rfl, Nat.le_of_ble_eq_true rfl⟩) ⟨xPre_blind, va_recv hK hP (ci := 7) (q0 := 0) rfl rfl, xPre_of hP hK hD⟩ rfl rfl hl.1 rfl (lv_room (Nat.le_of_ble_eq_true rfl)) dX7_trap_65 ⟨Nat.le_of_ble_eq_true rfl, Nat.le_of_ble_eq_true rfl⟩) hS (fun q _ h => hFc q h) hFc (fun r65 u9 t H locs ht hvm hq hB hz1 hk1 hS => ?_)
      obtain ⟨hP1, -, hD1⟩ := hB
      rw [ht] at hP1
      have hP : va_P (dC, dI) vwCl (cX7 cy a z60_v_s (X7_aside v) (X7_kept v) (X7_isKept v) z60_v_saved z60_v_savedMany (X7_text v) (X7_length v) z45_v_thrown (X7_joint v) (X7_position v) (X7_isWrong v) (X7_isHollow v) (X7_sure v) (X7_away v) (X7_digested v)) H := hP1
      have hD : va_D A (cX7 cy a z60_v_s (X7_aside v) (X7_kept v) (X7_isKept v) z60_v_saved z60_v_savedMany (X7_text v) (X7_length v) z45_v_thrown (X7_joint v) (X7_position v) (X7_isWrong v) (X7_isHollow v) (X7_sure v) (X7_away v) (X7_digested v)) := hD1.weaken (fun _ q _ h => hFc q.1 h)
      exact W.iret (v := r65) hx hb hr (fun t ht hW => ⟨⟨r65, (z60_v_s, z60_v_saved, z60_v_savedMany, z45_v_thrown), rfl, hq, (xAt_of hP hK hD ht hW)⟩, hS.F ht⟩) hS.2.2 dX7_trap_68
    · have hq := hqA c1
      refine lv_iconst (v := 0) hx hb dX7_trap_51 (by decide) ?_
      exact W.iret (v := 0) hx hb hr (fun t ht hW => ⟨⟨0, ((X7_s v), (X7_saved v), (X7_savedMany v), z45_v_thrown), rfl, hq, (xAt_of hP hK hD ht hW)⟩, hS.F ht⟩) hS.2.2 dX7_trap_52
  refine lv_aload_n hx hb dX7_trap_0 rfl (lv_at hl 0 rfl) ?_
  refine lv_iload_n hx hb dX7_trap_1 rfl (lv_at hl 1 rfl) ?_
  have hFc := xfree_none hS hAe0
  refine va_calli (va_runS (As := [.int x1]) (rest := [.ref (a 0)]) ⟨hx, hb, hml, hown, hts⟩ (c_X7_isTuft l dC dI cy  _ x1 _ hq) (va_cwS 1 hts gX7_trap_X7_isTuft rfl rfl rfl (by decide +kernel) ⟨Nat.le_of_ble_eq_true rfl, Nat.le_of_ble_eq_true rfl⟩) ⟨xPre_blind, xPre_of xP_nil hK (xD_nil (A := A))⟩ rfl rfl hl.1 rfl (lv_room (Nat.le_of_ble_eq_true rfl)) dX7_trap_2 ⟨Nat.le_of_ble_eq_true rfl, Nat.le_of_ble_eq_true rfl⟩) hS (fun q _ h => hFc q h) hFc (fun r2 u9 t H locs ht hvm hq hB hz1 hk1 hS => ?_)
  have hP := xj_none hP hk1
  obtain ⟨hqA, hqB⟩ := hq
  refine lv_if_ne (tgt := 12) hx hb dX7_trap_5 (by decide) (fun c5 => ?_) (fun c5 => ?_)
  · have hq := hqB c5
    refine lv_iload_n hx hb dX7_trap_12 rfl (lv_at hl 2 rfl) ?_
    refine lv_iconst (v := 0) hx hb dX7_trap_13 (by decide) ?_
    refine lv_bipush (v := 20) hx hb dX7_trap_14 (by decide) ?_
    have hFc := xfree_none hS hAe0
    refine va_calli (va_runS (As := [.int x2, .int 0, .int 20]) (rest := [.ref (a 0)]) ⟨hx, hb, hml, hown, hts⟩ (c_X7_in l dC dI cy  _ x2 0 20 _ hq) (va_cwS 3 hts gX7_trap_X7_in rfl rfl rfl (by decide +kernel) ⟨Nat.le_of_ble_eq_true rfl, Nat.le_of_ble_eq_true rfl⟩) ⟨xPre_blind, xPre_of xP_nil hK (xD_nil (A := A))⟩ rfl rfl hl.1 rfl (lv_room (Nat.le_of_ble_eq_true rfl)) dX7_trap_16 ⟨Nat.le_of_ble_eq_true rfl, Nat.le_of_ble_eq_true rfl⟩) hS (fun q _ h => hFc q h) hFc (fun r16 u9 t H locs ht hvm hq hB hz1 hk1 hS => ?_)
    have hP := xj_none hP hk1
    obtain ⟨hqA, hqB⟩ := hq
    refine lv_if_ne (tgt := 26) hx hb dX7_trap_19 (by decide) (fun c4 => ?_) (fun c4 => ?_)
    · have hq := hqB c4
      refine lv_aload_n hx hb dX7_trap_26 rfl (lv_at hl 0 rfl) ?_
      refine va_get (D := (dC, dI)) (ci := 7) (v := .ref (a 1)) (C := RX7) (T := TX7) (N := 16) hx hb hts iK7 hown hK hP 0 rfl rfl 0 (by decide) lk0 (fun _ h9 => h9) rfl dX7_trap_27 ?_
      refine lv_sipush (v := 136) hx hb dX7_trap_30 (by decide) ?_
      refine lv_iload_n hx hb dX7_trap_33 rfl (lv_at hl 1 rfl) ?_
      refine lv_iadd hx hb dX7_trap_34 ?_
      obtain ⟨g2, hq⟩ := hq
      refine va_iald hx hb hK hP 1 0 rfl rfl g2 dX7_trap_35 ?_
      refine lv_iconst (v := (-1)) hx hb dX7_trap_36 (by decide) ?_
      obtain ⟨hqA, hqB⟩ := hq
      refine lv_icmp_eq (tgt := 44) hx hb dX7_trap_37 (by decide) (fun c3 => ?_) (fun c3 => ?_)
      · have hq := hqA c3
        refine lv_iconst (v := 0) hx hb dX7_trap_44 (by decide) ?_
        exact J45 0  _ _ _ hq hP hD hS (lv_sub hl [0, 1, 2] rfl)
      · have hq := hqB c3
        refine lv_iconst (v := 3) hx hb dX7_trap_40 (by decide) ?_
        refine lv_goto (tgt := 45) hx hb dX7_trap_41 (by decide) ?_
        exact J45 3  _ _ _ hq hP hD hS (lv_sub hl [0, 1, 2] rfl)
    · have hq := hqA c4
      refine lv_iconst (v := 2) hx hb dX7_trap_22 (by decide) ?_
      refine lv_goto (tgt := 45) hx hb dX7_trap_23 (by decide) ?_
      exact J45 2  _ _ _ hq hP hD hS (lv_sub hl [0, 1, 2] rfl)
  · have hq := hqA c5
    refine lv_iconst (v := 1) hx hb dX7_trap_8 (by decide) ?_
    refine lv_goto (tgt := 45) hx hb dX7_trap_9 (by decide) ?_
    exact J45 1  _ _ _ hq hP hD hS (lv_sub hl [0, 1, 2] rfl)
def wp_X7_dug_215 (v : V_X7) (x1 : Int32) (y156_2 : Int32) (y156_4 : Int32) (z156_v_s : (Nat → Int32)) (B156 : Int32 → (Nat → Int32) → Prop) (z215_v_s : (Nat → Int32)) (Q : Int32 → (Nat → Int32) → Prop) : Prop :=
  wp_X7_beginsTrail (X7_s0 v z215_v_s) y156_4 (fun z218_v_s =>
  B156 (y156_4 + 1) z218_v_s)
def wb_X7_dug_156 (v : V_X7) (x1 : Int32) (y156_2 : Int32) (y156_4 : Int32) (z156_v_s : (Nat → Int32)) (B156 : Int32 → (Nat → Int32) → Prop) (Q : Int32 → (Nat → Int32) → Prop) : Prop :=
  vp_in 1 1472 ∧ (((z156_v_s (1 : Int32).toNatClampNeg) ≤ y156_4 → vp_in 2 1472 ∧ Q ((z156_v_s (2 : Int32).toNatClampNeg) - y156_2) z156_v_s) ∧
  (¬ (z156_v_s (1 : Int32).toNatClampNeg) ≤ y156_4 → wp_X7_of y156_4 23 (fun r175 =>
  vp_in r175 1472 ∧ (((z156_v_s r175.toNatClampNeg) = 0 → wp_X7_of y156_4 0 (fun r190 =>
  vp_in r190 1472 ∧ wp_X7_hasMound (X7_s0 v z156_v_s) (z156_v_s r190.toNatClampNeg) (fun r194 =>
  ((r194 = 0 → wp_X7_of y156_4 0 (fun r208 =>
  vp_in r208 1472 ∧ wp_X7_comesUp (X7_s0 v z156_v_s) (z156_v_s r208.toNatClampNeg) (fun z212_v_s =>
  wp_X7_dug_215 v x1 y156_2 y156_4 z156_v_s B156 z212_v_s  Q))) ∧
  (¬ r194 = 0 → wp_X7_dug_215 v x1 y156_2 y156_4 z156_v_s B156 z156_v_s  Q))))) ∧
  (¬ (z156_v_s r175.toNatClampNeg) = 0 → B156 (y156_4 + 1) z156_v_s)))))
def wp_X7_dug_156 (v : V_X7) (x1 : Int32) (y156_2 : Int32) (y156_4 : Int32) (z156_v_s : (Nat → Int32)) (Q : Int32 → (Nat → Int32) → Prop) : Prop :=
  ∃ (I : Int32 → (Nat → Int32) → Prop) (μ : Int32 → (Nat → Int32) → Nat), I y156_4 z156_v_s ∧ ∀ (s0 : Int32) (s1 : (Nat → Int32)), I s0 s1 → wb_X7_dug_156 v x1 y156_2 s0 s1 (fun t0 t1 => I t0 t1 ∧ μ t0 t1 < μ s0 s1) Q
def wb_X7_dug_96 (v : V_X7) (x1 : Int32) (y96_2 : Int32) (y96_4 : Int32) (z96_v_s : (Nat → Int32)) (B96 : Int32 → (Nat → Int32) → Prop) (Q : Int32 → (Nat → Int32) → Prop) : Prop :=
  vp_in 1 1472 ∧ (((z96_v_s (1 : Int32).toNatClampNeg) ≤ y96_4 → wp_X7_dug_156 v x1 y96_2 0 z96_v_s Q) ∧
  (¬ (z96_v_s (1 : Int32).toNatClampNeg) ≤ y96_4 → wp_X7_of y96_4 23 (fun r115 =>
  wp_X7_inTrail (X7_s0 v z96_v_s) y96_4 x1 0 (fun r123 =>
  ((r123 = (-1) → wp_X7_of y96_4 23 (fun r138 =>
  vp_in r138 1472 ∧ vp_in r115 1472 ∧ B96 (y96_4 + 1) (upd z96_v_s r115.toNatClampNeg (z96_v_s r138.toNatClampNeg)))) ∧
  (¬ r123 = (-1) → vp_in r115 1472 ∧ B96 (y96_4 + 1) (upd z96_v_s r115.toNatClampNeg 0)))))))
def wp_X7_dug_96 (v : V_X7) (x1 : Int32) (y96_2 : Int32) (y96_4 : Int32) (z96_v_s : (Nat → Int32)) (Q : Int32 → (Nat → Int32) → Prop) : Prop :=
  ∃ (I : Int32 → (Nat → Int32) → Prop) (μ : Int32 → (Nat → Int32) → Nat), I y96_4 z96_v_s ∧ ∀ (s0 : Int32) (s1 : (Nat → Int32)), I s0 s1 → wb_X7_dug_96 v x1 y96_2 s0 s1 (fun t0 t1 => I t0 t1 ∧ μ t0 t1 < μ s0 s1) Q
def wb_X7_dug_48 (v : V_X7) (x1 : Int32) (y48_2 : Int32) (y48_3 : Int32) (z48_v_s : (Nat → Int32)) (B48 : Int32 → (Nat → Int32) → Prop) (Q : Int32 → (Nat → Int32) → Prop) : Prop :=
  ((y48_3 < 0 → vp_in (8 + x1) 1472 ∧ wp_X7_fallsIn (X7_s0 v (upd z48_v_s (8 + x1).toNatClampNeg 0)) x1 (fun r89 z89_v_s =>
  wp_X7_dug_96 v x1 y48_2 0 z89_v_s Q)) ∧
  (¬ y48_3 < 0 → wp_X7_of y48_3 0 (fun r58 =>
  vp_in r58 1472 ∧ (((z48_v_s r58.toNatClampNeg) = x1 → wp_X7_isCaught (X7_s0 v z48_v_s) y48_3 (fun z68_v_s =>
  B48 (y48_3 + (-1)) z68_v_s)) ∧
  (¬ (z48_v_s r58.toNatClampNeg) = x1 → B48 (y48_3 + (-1)) z48_v_s)))))
def wp_X7_dug_48 (v : V_X7) (x1 : Int32) (y48_2 : Int32) (y48_3 : Int32) (z48_v_s : (Nat → Int32)) (Q : Int32 → (Nat → Int32) → Prop) : Prop :=
  ∃ (I : Int32 → (Nat → Int32) → Prop) (μ : Int32 → (Nat → Int32) → Nat), I y48_3 z48_v_s ∧ ∀ (s0 : Int32) (s1 : (Nat → Int32)), I s0 s1 → wb_X7_dug_48 v x1 y48_2 s0 s1 (fun t0 t1 => I t0 t1 ∧ μ t0 t1 < μ s0 s1) Q
def wp_X7_dug (v : V_X7) (x1 : Int32) (Q : Int32 → (Nat → Int32) → Prop) : Prop :=
  vp_in (200 + x1) 1472 ∧ vp_in (72 + x1) 1472 ∧ vp_in (136 + x1) 1472 ∧ vp_in 2 1472 ∧ vp_in 1 1472 ∧ wp_X7_dug_48 v x1 ((upd (upd (upd (X7_s v) (200 + x1).toNatClampNeg 1) (72 + x1).toNatClampNeg 0) (136 + x1).toNatClampNeg (-1)) (2 : Int32).toNatClampNeg) (((upd (upd (upd (X7_s v) (200 + x1).toNatClampNeg 1) (72 + x1).toNatClampNeg 0) (136 + x1).toNatClampNeg (-1)) (1 : Int32).toNatClampNeg) - 1) (upd (upd (upd (X7_s v) (200 + x1).toNatClampNeg 1) (72 + x1).toNatClampNeg 0) (136 + x1).toNatClampNeg (-1)) Q
def q_X7_dug (dC : Nat → ClassId) (dI : Nat → Nat → Nat) (cy : Nat → ClassId) (a : Nat → Nat) (v : V_X7) (x1 : Int32) (Q : Int32 → (Nat → Int32) → Prop) (A : Nat → Prop) : Array Value → State → Outcome → State → Prop := va_Qi (fun (r : Int32) (u : (Nat → Int32)) => Q r u) (fun (u : (Nat → Int32)) t => xAt dC dI cy A (cX7 cy a u (X7_aside v) (X7_kept v) (X7_isKept v) (X7_saved v) (X7_savedMany v) (X7_text v) (X7_length v) (X7_thrown v) (X7_joint v) (X7_position v) (X7_isWrong v) (X7_isHollow v) (X7_sure v) (X7_away v) (X7_digested v)) t) A
set_option maxHeartbeats 4000000 in
set_option maxRecDepth 100000 in
theorem c_X7_dug (l : Launch) (dC : Nat → ClassId) (dI : Nat → Nat → Nat) (cy : Nat → ClassId) (a : Nat → Nat) (sz : Nat) (v : V_X7) (x1 : Int32) (Q : Int32 → (Nat → Int32) → Prop) (hq : wp_X7_dug v x1 Q) : Met l yX7_dug wsX7_dug ({ frames := 4, cells := 0, slots := 0, locals := 97 } : Room) (va_Pc [.ref (a 0), .int x1] (xPre dC dI cy (wX7 cy a v) sz)) (q_X7_dug dC dI cy a v x1 Q (va_A (wX7 cy a v) sz)) 0 0 (va_A (wX7 cy a v) sz) := by
  refine Met.ofW (cc := cX7_dug) (maxL := 5) (ret := (some .int)) (by decide) rfl ?_
  intro p e s m args below meth c s₁ B hml hv
  obtain ⟨rfl, hsz, hP, hK, hD0⟩ := hv
  have hx := B.exec
  have hb := B.bytes
  have hr := B.returns
  have hts := atoms_spec (ws := wsX7_dug) B.pre
  have hown : s.vm.findClass RX7 = some m.cls := findClass_of_methodNamed B.named
  have hlocks := B.notSynchronized
  subst hsz
  have hD := hD0.self (sz := s.heap.size)
  generalize hAe : va_A (wX7 cy a v) s.heap.size = A at hD ⊢
  have hAe0 : ∀ q : Nat, s.heap.size ≤ q → A q := fun q h => by rw [← hAe]; exact Or.inr h
  have hS : va_S A s.heap s.heap [] := va_S.rf
  have hl := lv_entry ([.ref (a 0), .int x1]) (n := 5) (Nat.le_of_ble_eq_true rfl)
  rw [lg_entry_eq]
  generalize (lg_sl ([.ref (a 0), .int x1]) ++ List.replicate (5 - (lg_sl ([.ref (a 0), .int x1])).length) Slot.unset).toArray = ls at hl ⊢
  have hl : lv_has ls 5 [(0, .ref (a 0)), (1, .int x1)] := hl
  have lk0 := hts (Cond.fieldLink RX7 7 "MolesLawnModel" "s" "[I") (List.mem_cons_of_mem _ (List.mem_append_left _ (List.mem_append_left _ (List.mem_of_getElem? (i := 0) rfl))))
  have iK7 : ∀ w ∈ wsX70, w ∈ wsX7_dug := fun _ h => (List.mem_cons_of_mem _ (List.mem_append_right _ h))
  unfold wp_X7_dug at hq
  have J156 : ∀ (y156_2 : Int32) (y156_4 : Int32) (z156_v_s : (Nat → Int32)) (H : Heap) (locs : List Loc) (ls : Array Slot), wp_X7_dug_156 v x1 y156_2 y156_4 z156_v_s Q → va_P (dC, dI) vwCl (cX7 cy a z156_v_s (X7_aside v) (X7_kept v) (X7_isKept v) (X7_saved v) (X7_savedMany v) (X7_text v) (X7_length v) (X7_thrown v) (X7_joint v) (X7_position v) (X7_isWrong v) (X7_isHollow v) (X7_sure v) (X7_away v) (X7_digested v)) H → va_D A (cX7 cy a z156_v_s (X7_aside v) (X7_kept v) (X7_isKept v) (X7_saved v) (X7_savedMany v) (X7_text v) (X7_length v) (X7_thrown v) (X7_joint v) (X7_position v) (X7_isWrong v) (X7_isHollow v) (X7_sure v) (X7_away v) (X7_digested v)) → va_S A s.heap H locs → lv_has ls 5 [(0, .ref (a 0)), (2, .int y156_2), (4, .int y156_4)] → W p l e (headSpec wsX7_dug ({ frames := 4, cells := 0, slots := 0, locals := 97 } : Room)).room s m ([.ref (a 0), .int x1] : List Value).toArray below meth c H locs 0 0 (MQ below (q_X7_dug dC dI cy a v x1 Q A) ([.ref (a 0), .int x1] : List Value).toArray s 0 0 A) (F0 m 156 ls []) := by
    intro y156_2 y156_4 z156_v_s H locs ls hq hP hD hS hl
    obtain ⟨I156, μ156, h0, hs156⟩ := hq
    have key : ∀ (n : Nat) (y156_4 : Int32) (z156_v_s : (Nat → Int32)) (H : Heap) (locs : List Loc) (ls : Array Slot), I156 y156_4 z156_v_s → μ156 y156_4 z156_v_s < n → va_P (dC, dI) vwCl (cX7 cy a z156_v_s (X7_aside v) (X7_kept v) (X7_isKept v) (X7_saved v) (X7_savedMany v) (X7_text v) (X7_length v) (X7_thrown v) (X7_joint v) (X7_position v) (X7_isWrong v) (X7_isHollow v) (X7_sure v) (X7_away v) (X7_digested v)) H → va_D A (cX7 cy a z156_v_s (X7_aside v) (X7_kept v) (X7_isKept v) (X7_saved v) (X7_savedMany v) (X7_text v) (X7_length v) (X7_thrown v) (X7_joint v) (X7_position v) (X7_isWrong v) (X7_isHollow v) (X7_sure v) (X7_away v) (X7_digested v)) → va_S A s.heap H locs → lv_has ls 5 [(0, .ref (a 0)), (2, .int y156_2), (4, .int y156_4)] → W p l e (headSpec wsX7_dug ({ frames := 4, cells := 0, slots := 0, locals := 97 } : Room)).room s m ([.ref (a 0), .int x1] : List Value).toArray below meth c H locs 0 0 (MQ below (q_X7_dug dC dI cy a v x1 Q A) ([.ref (a 0), .int x1] : List Value).toArray s 0 0 A) (F0 m 156 ls []) := by
      intro n
      induction n with
      | zero => intro y156_4 z156_v_s H locs ls _ hm; exact absurd hm (Nat.not_lt_zero _)
      | succ n ih =>
        intro y156_4 z156_v_s H locs ls hI hm hP hD hS hl
        have hq := hs156 y156_4 z156_v_s hI
        generalize hB156 : (fun (t0 : Int32) (t1 : (Nat → Int32)) => I156 t0 t1 ∧ μ156 t0 t1 < μ156 y156_4 z156_v_s) = B156 at hq
        have bk156 : ∀ (y156_4 : Int32) (z156_v_s : (Nat → Int32)) (H : Heap) (locs : List Loc) (ls : Array Slot), B156 y156_4 z156_v_s → va_P (dC, dI) vwCl (cX7 cy a z156_v_s (X7_aside v) (X7_kept v) (X7_isKept v) (X7_saved v) (X7_savedMany v) (X7_text v) (X7_length v) (X7_thrown v) (X7_joint v) (X7_position v) (X7_isWrong v) (X7_isHollow v) (X7_sure v) (X7_away v) (X7_digested v)) H → va_D A (cX7 cy a z156_v_s (X7_aside v) (X7_kept v) (X7_isKept v) (X7_saved v) (X7_savedMany v) (X7_text v) (X7_length v) (X7_thrown v) (X7_joint v) (X7_position v) (X7_isWrong v) (X7_isHollow v) (X7_sure v) (X7_away v) (X7_digested v)) → va_S A s.heap H locs → lv_has ls 5 [(0, .ref (a 0)), (2, .int y156_2), (4, .int y156_4)] → W p l e (headSpec wsX7_dug ({ frames := 4, cells := 0, slots := 0, locals := 97 } : Room)).room s m ([.ref (a 0), .int x1] : List Value).toArray below meth c H locs 0 0 (MQ below (q_X7_dug dC dI cy a v x1 Q A) ([.ref (a 0), .int x1] : List Value).toArray s 0 0 A) (F0 m 156 ls []) := by
          intro y156_4 z156_v_s H locs ls h
          rw [← hB156] at h
          exact ih y156_4 z156_v_s H locs ls h.1 (Nat.lt_of_lt_of_le h.2 (Nat.le_of_lt_succ hm))
        unfold wb_X7_dug_156 at hq
        have J215 : ∀ (z215_v_s : (Nat → Int32)) (H : Heap) (locs : List Loc) (ls : Array Slot), wp_X7_dug_215 v x1 y156_2 y156_4 z156_v_s B156 z215_v_s Q → va_P (dC, dI) vwCl (cX7 cy a z215_v_s (X7_aside v) (X7_kept v) (X7_isKept v) (X7_saved v) (X7_savedMany v) (X7_text v) (X7_length v) (X7_thrown v) (X7_joint v) (X7_position v) (X7_isWrong v) (X7_isHollow v) (X7_sure v) (X7_away v) (X7_digested v)) H → va_D A (cX7 cy a z215_v_s (X7_aside v) (X7_kept v) (X7_isKept v) (X7_saved v) (X7_savedMany v) (X7_text v) (X7_length v) (X7_thrown v) (X7_joint v) (X7_position v) (X7_isWrong v) (X7_isHollow v) (X7_sure v) (X7_away v) (X7_digested v)) → va_S A s.heap H locs → lv_has ls 5 [(0, .ref (a 0)), (2, .int y156_2), (4, .int y156_4)] → W p l e (headSpec wsX7_dug ({ frames := 4, cells := 0, slots := 0, locals := 97 } : Room)).room s m ([.ref (a 0), .int x1] : List Value).toArray below meth c H locs 0 0 (MQ below (q_X7_dug dC dI cy a v x1 Q A) ([.ref (a 0), .int x1] : List Value).toArray s 0 0 A) (F0 m 215 ls []) := by
          intro z215_v_s H locs ls hq hP hD hS hl
          unfold wp_X7_dug_215 at hq
          refine lv_aload_n hx hb dX7_dug_215 rfl (lv_at hl 0 rfl) ?_
          refine lv_iload hx hb dX7_dug_216 (lv_at hl 2 rfl) ?_
          have hFc := xfree_same hS hAe0 (ws := (cX7 cy a z215_v_s (X7_aside v) (X7_kept v) (X7_isKept v) (X7_saved v) (X7_savedMany v) (X7_text v) (X7_length v) (X7_thrown v) (X7_joint v) (X7_position v) (X7_isWrong v) (X7_isHollow v) (X7_sure v) (X7_away v) (X7_digested v))) hD
          refine va_callv (va_runV (As := [.int y156_4]) (rest := []) ⟨hx, hb, hml, hown, hts⟩ (c_X7_beginsTrail l dC dI cy a _ (X7_s0 v z215_v_s) y156_4 _ hq) (cwV 1 hts gX7_dug_X7_beginsTrail rfl rfl rfl (by decide +kernel) ⟨Nat.le_of_ble_eq_true rfl, Nat.le_of_ble_eq_true rfl⟩) ⟨xPre_blind, va_recv hK hP (ci := 7) (q0 := 0) rfl rfl, xPre_of hP hK hD⟩ rfl rfl hl.1 rfl (lv_room (Nat.le_of_ble_eq_true rfl)) dX7_dug_218 ⟨Nat.le_of_ble_eq_true rfl, Nat.le_of_ble_eq_true rfl⟩) hS (fun q _ h => hFc q h) hFc (fun z218_v_s t H locs ht hvm hq hB hz1 hk1 hS => ?_)
          obtain ⟨hP1, -, hD1⟩ := hB
          rw [ht] at hP1
          have hP : va_P (dC, dI) vwCl (cX7 cy a z218_v_s (X7_aside v) (X7_kept v) (X7_isKept v) (X7_saved v) (X7_savedMany v) (X7_text v) (X7_length v) (X7_thrown v) (X7_joint v) (X7_position v) (X7_isWrong v) (X7_isHollow v) (X7_sure v) (X7_away v) (X7_digested v)) H := hP1
          have hD : va_D A (cX7 cy a z218_v_s (X7_aside v) (X7_kept v) (X7_isKept v) (X7_saved v) (X7_savedMany v) (X7_text v) (X7_length v) (X7_thrown v) (X7_joint v) (X7_position v) (X7_isWrong v) (X7_isHollow v) (X7_sure v) (X7_away v) (X7_digested v)) := hD1.weaken (fun _ q _ h => hFc q.1 h)
          refine lv_iinc (v := (y156_4 + 1)) (lv' := [(4, .int (y156_4 + 1)), (0, .ref (a 0)), (2, .int y156_2)]) hx hb dX7_dug_221 hl (k := 2) rfl rfl (by decide) rfl (fun ls hl => ?_)
          refine lv_goto (tgt := 156) hx hb dX7_dug_224 (by decide) ?_
          exact bk156 (y156_4 + 1) z218_v_s _ _ _ hq hP hD hS (lv_sub hl [1, 2, 0] rfl)
        refine lv_iload hx hb dX7_dug_156 (lv_at hl 2 rfl) ?_
        refine lv_aload_n hx hb dX7_dug_158 rfl (lv_at hl 0 rfl) ?_
        refine va_get (D := (dC, dI)) (ci := 7) (v := .ref (a 1)) (C := RX7) (T := TX7) (N := 16) hx hb hts iK7 hown hK hP 0 rfl rfl 0 (by decide) lk0 (fun _ h9 => h9) rfl dX7_dug_159 ?_
        refine lv_iconst (v := 1) hx hb dX7_dug_162 (by decide) ?_
        obtain ⟨g1, hq⟩ := hq
        refine va_iald hx hb hK hP 1 0 rfl rfl g1 dX7_dug_163 ?_
        obtain ⟨hqA, hqB⟩ := hq
        refine lv_icmp_ge (tgt := 227) hx hb dX7_dug_164 (by decide) (fun c8 => ?_) (fun c8 => ?_)
        · have hq := hqA c8
          refine lv_aload_n hx hb dX7_dug_227 rfl (lv_at hl 0 rfl) ?_
          refine va_get (D := (dC, dI)) (ci := 7) (v := .ref (a 1)) (C := RX7) (T := TX7) (N := 16) hx hb hts iK7 hown hK hP 0 rfl rfl 0 (by decide) lk0 (fun _ h9 => h9) rfl dX7_dug_228 ?_
          refine lv_iconst (v := 2) hx hb dX7_dug_231 (by decide) ?_
          obtain ⟨g2, hq⟩ := hq
          refine va_iald hx hb hK hP 1 0 rfl rfl g2 dX7_dug_232 ?_
          refine lv_iload_n hx hb dX7_dug_233 rfl (lv_at hl 1 rfl) ?_
          refine lv_isub hx hb dX7_dug_234 ?_
          exact W.iret (v := ((z156_v_s (2 : Int32).toNatClampNeg) - y156_2)) hx hb hr (fun t ht hW => ⟨⟨((z156_v_s (2 : Int32).toNatClampNeg) - y156_2), z156_v_s, rfl, hq, (xAt_of hP hK hD ht hW)⟩, hS.F ht⟩) hS.2.2 dX7_dug_235
        · have hq := hqB c8
          refine lv_aload_n hx hb dX7_dug_167 rfl (lv_at hl 0 rfl) ?_
          refine va_get (D := (dC, dI)) (ci := 7) (v := .ref (a 1)) (C := RX7) (T := TX7) (N := 16) hx hb hts iK7 hown hK hP 0 rfl rfl 0 (by decide) lk0 (fun _ h9 => h9) rfl dX7_dug_168 ?_
          refine lv_iload hx hb dX7_dug_171 (lv_at hl 2 rfl) ?_
          refine lv_bipush (v := 23) hx hb dX7_dug_173 (by decide) ?_
          have hFc := xfree_none hS hAe0
          refine va_calli (va_runS (As := [.int y156_4, .int 23]) (rest := [.ref (a 1)]) ⟨hx, hb, hml, hown, hts⟩ (c_X7_of l dC dI cy  _ y156_4 23 _ hq) (va_cwS 2 hts gX7_dug_X7_of rfl rfl rfl (by decide +kernel) ⟨Nat.le_of_ble_eq_true rfl, Nat.le_of_ble_eq_true rfl⟩) ⟨xPre_blind, xPre_of xP_nil hK (xD_nil (A := A))⟩ rfl rfl hl.1 rfl (lv_room (Nat.le_of_ble_eq_true rfl)) dX7_dug_175 ⟨Nat.le_of_ble_eq_true rfl, Nat.le_of_ble_eq_true rfl⟩) hS (fun q _ h => hFc q h) hFc (fun r175 u9 t H locs ht hvm hq hB hz1 hk1 hS => ?_)
          have hP := xj_none hP hk1
          obtain ⟨g3, hq⟩ := hq
          refine va_iald hx hb hK hP 1 0 rfl rfl g3 dX7_dug_178 ?_
          obtain ⟨hqA, hqB⟩ := hq
          refine lv_if_ne (tgt := 221) hx hb dX7_dug_179 (by decide) (fun c7 => ?_) (fun c7 => ?_)
          · have hq := hqB c7
            refine lv_iinc (v := (y156_4 + 1)) (lv' := [(4, .int (y156_4 + 1)), (0, .ref (a 0)), (2, .int y156_2)]) hx hb dX7_dug_221 hl (k := 2) rfl rfl (by decide) rfl (fun ls hl => ?_)
            refine lv_goto (tgt := 156) hx hb dX7_dug_224 (by decide) ?_
            exact bk156 (y156_4 + 1) z156_v_s _ _ _ hq hP hD hS (lv_sub hl [1, 2, 0] rfl)
          · have hq := hqA c7
            refine lv_aload_n hx hb dX7_dug_182 rfl (lv_at hl 0 rfl) ?_
            refine lv_aload_n hx hb dX7_dug_183 rfl (lv_at hl 0 rfl) ?_
            refine va_get (D := (dC, dI)) (ci := 7) (v := .ref (a 1)) (C := RX7) (T := TX7) (N := 16) hx hb hts iK7 hown hK hP 0 rfl rfl 0 (by decide) lk0 (fun _ h9 => h9) rfl dX7_dug_184 ?_
            refine lv_iload hx hb dX7_dug_187 (lv_at hl 2 rfl) ?_
            refine lv_iconst (v := 0) hx hb dX7_dug_189 (by decide) ?_
            have hFc := xfree_none hS hAe0
            refine va_calli (va_runS (As := [.int y156_4, .int 0]) (rest := [.ref (a 1), .ref (a 0)]) ⟨hx, hb, hml, hown, hts⟩ (c_X7_of l dC dI cy  _ y156_4 0 _ hq) (va_cwS 2 hts gX7_dug_X7_of rfl rfl rfl (by decide +kernel) ⟨Nat.le_of_ble_eq_true rfl, Nat.le_of_ble_eq_true rfl⟩) ⟨xPre_blind, xPre_of xP_nil hK (xD_nil (A := A))⟩ rfl rfl hl.1 rfl (lv_room (Nat.le_of_ble_eq_true rfl)) dX7_dug_190 ⟨Nat.le_of_ble_eq_true rfl, Nat.le_of_ble_eq_true rfl⟩) hS (fun q _ h => hFc q h) hFc (fun r190 u9 t H locs ht hvm hq hB hz1 hk1 hS => ?_)
            have hP := xj_none hP hk1
            obtain ⟨g4, hq⟩ := hq
            refine va_iald hx hb hK hP 1 0 rfl rfl g4 dX7_dug_193 ?_
            have hFc := xfree_same hS hAe0 (ws := (cX7 cy a z156_v_s (X7_aside v) (X7_kept v) (X7_isKept v) (X7_saved v) (X7_savedMany v) (X7_text v) (X7_length v) (X7_thrown v) (X7_joint v) (X7_position v) (X7_isWrong v) (X7_isHollow v) (X7_sure v) (X7_away v) (X7_digested v))) hD
            refine va_calli (va_runV (As := [.int (z156_v_s r190.toNatClampNeg)]) (rest := []) ⟨hx, hb, hml, hown, hts⟩ (c_X7_hasMound l dC dI cy a _ (X7_s0 v z156_v_s) (z156_v_s r190.toNatClampNeg) _ hq) (cwV 1 hts gX7_dug_X7_hasMound rfl rfl rfl (by decide +kernel) ⟨Nat.le_of_ble_eq_true rfl, Nat.le_of_ble_eq_true rfl⟩) ⟨xPre_blind, va_recv hK hP (ci := 7) (q0 := 0) rfl rfl, xPre_of hP hK hD⟩ rfl rfl hl.1 rfl (lv_room (Nat.le_of_ble_eq_true rfl)) dX7_dug_194 ⟨Nat.le_of_ble_eq_true rfl, Nat.le_of_ble_eq_true rfl⟩) hS (fun q _ h => hFc q h) hFc (fun r194 u9 t H locs ht hvm hq hB hz1 hk1 hS => ?_)
            obtain ⟨hP1, -, hD1⟩ := hB
            rw [ht] at hP1
            have hP : va_P (dC, dI) vwCl (cX7 cy a z156_v_s (X7_aside v) (X7_kept v) (X7_isKept v) (X7_saved v) (X7_savedMany v) (X7_text v) (X7_length v) (X7_thrown v) (X7_joint v) (X7_position v) (X7_isWrong v) (X7_isHollow v) (X7_sure v) (X7_away v) (X7_digested v)) H := hP1
            have hD : va_D A (cX7 cy a z156_v_s (X7_aside v) (X7_kept v) (X7_isKept v) (X7_saved v) (X7_savedMany v) (X7_text v) (X7_length v) (X7_thrown v) (X7_joint v) (X7_position v) (X7_isWrong v) (X7_isHollow v) (X7_sure v) (X7_away v) (X7_digested v)) := hD1.weaken (fun _ q _ h => hFc q.1 h)
            obtain ⟨hqA, hqB⟩ := hq
            refine lv_if_ne (tgt := 215) hx hb dX7_dug_197 (by decide) (fun c6 => ?_) (fun c6 => ?_)
            · have hq := hqB c6
              exact J215 z156_v_s  _ _ _ hq hP hD hS (lv_sub hl [0, 1, 2] rfl)
            · have hq := hqA c6
              refine lv_aload_n hx hb dX7_dug_200 rfl (lv_at hl 0 rfl) ?_
              refine lv_aload_n hx hb dX7_dug_201 rfl (lv_at hl 0 rfl) ?_
              refine va_get (D := (dC, dI)) (ci := 7) (v := .ref (a 1)) (C := RX7) (T := TX7) (N := 16) hx hb hts iK7 hown hK hP 0 rfl rfl 0 (by decide) lk0 (fun _ h9 => h9) rfl dX7_dug_202 ?_
              refine lv_iload hx hb dX7_dug_205 (lv_at hl 2 rfl) ?_
              refine lv_iconst (v := 0) hx hb dX7_dug_207 (by decide) ?_
              have hFc := xfree_none hS hAe0
              refine va_calli (va_runS (As := [.int y156_4, .int 0]) (rest := [.ref (a 1), .ref (a 0)]) ⟨hx, hb, hml, hown, hts⟩ (c_X7_of l dC dI cy  _ y156_4 0 _ hq) (va_cwS 2 hts gX7_dug_X7_of rfl rfl rfl (by decide +kernel) ⟨Nat.le_of_ble_eq_true rfl, Nat.le_of_ble_eq_true rfl⟩) ⟨xPre_blind, xPre_of xP_nil hK (xD_nil (A := A))⟩ rfl rfl hl.1 rfl (lv_room (Nat.le_of_ble_eq_true rfl)) dX7_dug_208 ⟨Nat.le_of_ble_eq_true rfl, Nat.le_of_ble_eq_true rfl⟩) hS (fun q _ h => hFc q h) hFc (fun r208 u9 t H locs ht hvm hq hB hz1 hk1 hS => ?_)
              have hP := xj_none hP hk1
              obtain ⟨g5, hq⟩ := hq
              refine va_iald hx hb hK hP 1 0 rfl rfl g5 dX7_dug_211 ?_
              have hFc := xfree_same hS hAe0 (ws := (cX7 cy a z156_v_s (X7_aside v) (X7_kept v) (X7_isKept v) (X7_saved v) (X7_savedMany v) (X7_text v) (X7_length v) (X7_thrown v) (X7_joint v) (X7_position v) (X7_isWrong v) (X7_isHollow v) (X7_sure v) (X7_away v) (X7_digested v))) hD
              refine va_callv (va_runV (As := [.int (z156_v_s r208.toNatClampNeg)]) (rest := []) ⟨hx, hb, hml, hown, hts⟩ (c_X7_comesUp l dC dI cy a _ (X7_s0 v z156_v_s) (z156_v_s r208.toNatClampNeg) _ hq) (cwV 1 hts gX7_dug_X7_comesUp rfl rfl rfl (by decide +kernel) ⟨Nat.le_of_ble_eq_true rfl, Nat.le_of_ble_eq_true rfl⟩) ⟨xPre_blind, va_recv hK hP (ci := 7) (q0 := 0) rfl rfl, xPre_of hP hK hD⟩ rfl rfl hl.1 rfl (lv_room (Nat.le_of_ble_eq_true rfl)) dX7_dug_212 ⟨Nat.le_of_ble_eq_true rfl, Nat.le_of_ble_eq_true rfl⟩) hS (fun q _ h => hFc q h) hFc (fun z212_v_s t H locs ht hvm hq hB hz1 hk1 hS => ?_)
              obtain ⟨hP1, -, hD1⟩ := hB
              rw [ht] at hP1
              have hP : va_P (dC, dI) vwCl (cX7 cy a z212_v_s (X7_aside v) (X7_kept v) (X7_isKept v) (X7_saved v) (X7_savedMany v) (X7_text v) (X7_length v) (X7_thrown v) (X7_joint v) (X7_position v) (X7_isWrong v) (X7_isHollow v) (X7_sure v) (X7_away v) (X7_digested v)) H := hP1
              have hD : va_D A (cX7 cy a z212_v_s (X7_aside v) (X7_kept v) (X7_isKept v) (X7_saved v) (X7_savedMany v) (X7_text v) (X7_length v) (X7_thrown v) (X7_joint v) (X7_position v) (X7_isWrong v) (X7_isHollow v) (X7_sure v) (X7_away v) (X7_digested v)) := hD1.weaken (fun _ q _ h => hFc q.1 h)
              exact J215 z212_v_s  _ _ _ hq hP hD hS (lv_sub hl [0, 1, 2] rfl)
    exact key _ y156_4 z156_v_s H locs ls h0 (Nat.lt_succ_self _) hP hD hS hl
  have J96 : ∀ (y96_2 : Int32) (y96_4 : Int32) (z96_v_s : (Nat → Int32)) (H : Heap) (locs : List Loc) (ls : Array Slot), wp_X7_dug_96 v x1 y96_2 y96_4 z96_v_s Q → va_P (dC, dI) vwCl (cX7 cy a z96_v_s (X7_aside v) (X7_kept v) (X7_isKept v) (X7_saved v) (X7_savedMany v) (X7_text v) (X7_length v) (X7_thrown v) (X7_joint v) (X7_position v) (X7_isWrong v) (X7_isHollow v) (X7_sure v) (X7_away v) (X7_digested v)) H → va_D A (cX7 cy a z96_v_s (X7_aside v) (X7_kept v) (X7_isKept v) (X7_saved v) (X7_savedMany v) (X7_text v) (X7_length v) (X7_thrown v) (X7_joint v) (X7_position v) (X7_isWrong v) (X7_isHollow v) (X7_sure v) (X7_away v) (X7_digested v)) → va_S A s.heap H locs → lv_has ls 5 [(0, .ref (a 0)), (1, .int x1), (2, .int y96_2), (4, .int y96_4)] → W p l e (headSpec wsX7_dug ({ frames := 4, cells := 0, slots := 0, locals := 97 } : Room)).room s m ([.ref (a 0), .int x1] : List Value).toArray below meth c H locs 0 0 (MQ below (q_X7_dug dC dI cy a v x1 Q A) ([.ref (a 0), .int x1] : List Value).toArray s 0 0 A) (F0 m 96 ls []) := by
    intro y96_2 y96_4 z96_v_s H locs ls hq hP hD hS hl
    obtain ⟨I96, μ96, h0, hs96⟩ := hq
    have key : ∀ (n : Nat) (y96_4 : Int32) (z96_v_s : (Nat → Int32)) (H : Heap) (locs : List Loc) (ls : Array Slot), I96 y96_4 z96_v_s → μ96 y96_4 z96_v_s < n → va_P (dC, dI) vwCl (cX7 cy a z96_v_s (X7_aside v) (X7_kept v) (X7_isKept v) (X7_saved v) (X7_savedMany v) (X7_text v) (X7_length v) (X7_thrown v) (X7_joint v) (X7_position v) (X7_isWrong v) (X7_isHollow v) (X7_sure v) (X7_away v) (X7_digested v)) H → va_D A (cX7 cy a z96_v_s (X7_aside v) (X7_kept v) (X7_isKept v) (X7_saved v) (X7_savedMany v) (X7_text v) (X7_length v) (X7_thrown v) (X7_joint v) (X7_position v) (X7_isWrong v) (X7_isHollow v) (X7_sure v) (X7_away v) (X7_digested v)) → va_S A s.heap H locs → lv_has ls 5 [(0, .ref (a 0)), (1, .int x1), (2, .int y96_2), (4, .int y96_4)] → W p l e (headSpec wsX7_dug ({ frames := 4, cells := 0, slots := 0, locals := 97 } : Room)).room s m ([.ref (a 0), .int x1] : List Value).toArray below meth c H locs 0 0 (MQ below (q_X7_dug dC dI cy a v x1 Q A) ([.ref (a 0), .int x1] : List Value).toArray s 0 0 A) (F0 m 96 ls []) := by
      intro n
      induction n with
      | zero => intro y96_4 z96_v_s H locs ls _ hm; exact absurd hm (Nat.not_lt_zero _)
      | succ n ih =>
        intro y96_4 z96_v_s H locs ls hI hm hP hD hS hl
        have hq := hs96 y96_4 z96_v_s hI
        generalize hB96 : (fun (t0 : Int32) (t1 : (Nat → Int32)) => I96 t0 t1 ∧ μ96 t0 t1 < μ96 y96_4 z96_v_s) = B96 at hq
        have bk96 : ∀ (y96_4 : Int32) (z96_v_s : (Nat → Int32)) (H : Heap) (locs : List Loc) (ls : Array Slot), B96 y96_4 z96_v_s → va_P (dC, dI) vwCl (cX7 cy a z96_v_s (X7_aside v) (X7_kept v) (X7_isKept v) (X7_saved v) (X7_savedMany v) (X7_text v) (X7_length v) (X7_thrown v) (X7_joint v) (X7_position v) (X7_isWrong v) (X7_isHollow v) (X7_sure v) (X7_away v) (X7_digested v)) H → va_D A (cX7 cy a z96_v_s (X7_aside v) (X7_kept v) (X7_isKept v) (X7_saved v) (X7_savedMany v) (X7_text v) (X7_length v) (X7_thrown v) (X7_joint v) (X7_position v) (X7_isWrong v) (X7_isHollow v) (X7_sure v) (X7_away v) (X7_digested v)) → va_S A s.heap H locs → lv_has ls 5 [(0, .ref (a 0)), (1, .int x1), (2, .int y96_2), (4, .int y96_4)] → W p l e (headSpec wsX7_dug ({ frames := 4, cells := 0, slots := 0, locals := 97 } : Room)).room s m ([.ref (a 0), .int x1] : List Value).toArray below meth c H locs 0 0 (MQ below (q_X7_dug dC dI cy a v x1 Q A) ([.ref (a 0), .int x1] : List Value).toArray s 0 0 A) (F0 m 96 ls []) := by
          intro y96_4 z96_v_s H locs ls h
          rw [← hB96] at h
          exact ih y96_4 z96_v_s H locs ls h.1 (Nat.lt_of_lt_of_le h.2 (Nat.le_of_lt_succ hm))
        unfold wb_X7_dug_96 at hq
        refine lv_iload hx hb dX7_dug_96 (lv_at hl 3 rfl) ?_
        refine lv_aload_n hx hb dX7_dug_98 rfl (lv_at hl 0 rfl) ?_
        refine va_get (D := (dC, dI)) (ci := 7) (v := .ref (a 1)) (C := RX7) (T := TX7) (N := 16) hx hb hts iK7 hown hK hP 0 rfl rfl 0 (by decide) lk0 (fun _ h9 => h9) rfl dX7_dug_99 ?_
        refine lv_iconst (v := 1) hx hb dX7_dug_102 (by decide) ?_
        obtain ⟨g9, hq⟩ := hq
        refine va_iald hx hb hK hP 1 0 rfl rfl g9 dX7_dug_103 ?_
        obtain ⟨hqA, hqB⟩ := hq
        refine lv_icmp_ge (tgt := 153) hx hb dX7_dug_104 (by decide) (fun c14 => ?_) (fun c14 => ?_)
        · have hq := hqA c14
          refine lv_iconst (v := 0) hx hb dX7_dug_153 (by decide) ?_
          refine lv_istore (lv' := [(4, .int 0), (0, .ref (a 0)), (1, .int x1), (2, .int y96_2)]) hx hb dX7_dug_154 hl (by decide) rfl (fun ls hl => ?_)
          exact J156 y96_2 0 z96_v_s _ _ _ hq hP hD hS (lv_sub hl [1, 3, 0] rfl)
        · have hq := hqB c14
          refine lv_aload_n hx hb dX7_dug_107 rfl (lv_at hl 0 rfl) ?_
          refine va_get (D := (dC, dI)) (ci := 7) (v := .ref (a 1)) (C := RX7) (T := TX7) (N := 16) hx hb hts iK7 hown hK hP 0 rfl rfl 0 (by decide) lk0 (fun _ h9 => h9) rfl dX7_dug_108 ?_
          refine lv_iload hx hb dX7_dug_111 (lv_at hl 3 rfl) ?_
          refine lv_bipush (v := 23) hx hb dX7_dug_113 (by decide) ?_
          have hFc := xfree_none hS hAe0
          refine va_calli (va_runS (As := [.int y96_4, .int 23]) (rest := [.ref (a 1)]) ⟨hx, hb, hml, hown, hts⟩ (c_X7_of l dC dI cy  _ y96_4 23 _ hq) (va_cwS 2 hts gX7_dug_X7_of rfl rfl rfl (by decide +kernel) ⟨Nat.le_of_ble_eq_true rfl, Nat.le_of_ble_eq_true rfl⟩) ⟨xPre_blind, xPre_of xP_nil hK (xD_nil (A := A))⟩ rfl rfl hl.1 rfl (lv_room (Nat.le_of_ble_eq_true rfl)) dX7_dug_115 ⟨Nat.le_of_ble_eq_true rfl, Nat.le_of_ble_eq_true rfl⟩) hS (fun q _ h => hFc q h) hFc (fun r115 u9 t H locs ht hvm hq hB hz1 hk1 hS => ?_)
          have hP := xj_none hP hk1
          refine lv_aload_n hx hb dX7_dug_118 rfl (lv_at hl 0 rfl) ?_
          refine lv_iload hx hb dX7_dug_119 (lv_at hl 3 rfl) ?_
          refine lv_iload_n hx hb dX7_dug_121 rfl (lv_at hl 1 rfl) ?_
          refine lv_iconst (v := 0) hx hb dX7_dug_122 (by decide) ?_
          have hFc := xfree_same hS hAe0 (ws := (cX7 cy a z96_v_s (X7_aside v) (X7_kept v) (X7_isKept v) (X7_saved v) (X7_savedMany v) (X7_text v) (X7_length v) (X7_thrown v) (X7_joint v) (X7_position v) (X7_isWrong v) (X7_isHollow v) (X7_sure v) (X7_away v) (X7_digested v))) hD
          refine va_calli (va_runV (As := [.int y96_4, .int x1, .int 0]) (rest := [.int r115, .ref (a 1)]) ⟨hx, hb, hml, hown, hts⟩ (c_X7_inTrail l dC dI cy a _ (X7_s0 v z96_v_s) y96_4 x1 0 _ hq) (cwV 3 hts gX7_dug_X7_inTrail rfl rfl rfl (by decide +kernel) ⟨Nat.le_of_ble_eq_true rfl, Nat.le_of_ble_eq_true rfl⟩) ⟨xPre_blind, va_recv hK hP (ci := 7) (q0 := 0) rfl rfl, xPre_of hP hK hD⟩ rfl rfl hl.1 rfl (lv_room (Nat.le_of_ble_eq_true rfl)) dX7_dug_123 ⟨Nat.le_of_ble_eq_true rfl, Nat.le_of_ble_eq_true rfl⟩) hS (fun q _ h => hFc q h) hFc (fun r123 u9 t H locs ht hvm hq hB hz1 hk1 hS => ?_)
          obtain ⟨hP1, -, hD1⟩ := hB
          rw [ht] at hP1
          have hP : va_P (dC, dI) vwCl (cX7 cy a z96_v_s (X7_aside v) (X7_kept v) (X7_isKept v) (X7_saved v) (X7_savedMany v) (X7_text v) (X7_length v) (X7_thrown v) (X7_joint v) (X7_position v) (X7_isWrong v) (X7_isHollow v) (X7_sure v) (X7_away v) (X7_digested v)) H := hP1
          have hD : va_D A (cX7 cy a z96_v_s (X7_aside v) (X7_kept v) (X7_isKept v) (X7_saved v) (X7_savedMany v) (X7_text v) (X7_length v) (X7_thrown v) (X7_joint v) (X7_position v) (X7_isWrong v) (X7_isHollow v) (X7_sure v) (X7_away v) (X7_digested v)) := hD1.weaken (fun _ q _ h => hFc q.1 h)
          refine lv_iconst (v := (-1)) hx hb dX7_dug_126 (by decide) ?_
          obtain ⟨hqA, hqB⟩ := hq
          refine lv_icmp_ne (tgt := 145) hx hb dX7_dug_127 (by decide) (fun c13 => ?_) (fun c13 => ?_)
          · have hq := hqB c13
            refine lv_iconst (v := 0) hx hb dX7_dug_145 (by decide) ?_
            obtain ⟨g10, hq⟩ := hq
            refine va_iast hx hb hK hP hD hS 1 0 rfl rfl g10 dX7_dug_146 (fun H locs hP hD hS => ?_)
            have hP : va_P (dC, dI) vwCl (cX7 cy a (upd z96_v_s r115.toNatClampNeg 0) (X7_aside v) (X7_kept v) (X7_isKept v) (X7_saved v) (X7_savedMany v) (X7_text v) (X7_length v) (X7_thrown v) (X7_joint v) (X7_position v) (X7_isWrong v) (X7_isHollow v) (X7_sure v) (X7_away v) (X7_digested v)) H := hP
            have hD : va_D A (cX7 cy a (upd z96_v_s r115.toNatClampNeg 0) (X7_aside v) (X7_kept v) (X7_isKept v) (X7_saved v) (X7_savedMany v) (X7_text v) (X7_length v) (X7_thrown v) (X7_joint v) (X7_position v) (X7_isWrong v) (X7_isHollow v) (X7_sure v) (X7_away v) (X7_digested v)) := hD
            refine lv_iinc (v := (y96_4 + 1)) (lv' := [(4, .int (y96_4 + 1)), (0, .ref (a 0)), (1, .int x1), (2, .int y96_2)]) hx hb dX7_dug_147 hl (k := 3) rfl rfl (by decide) rfl (fun ls hl => ?_)
            refine lv_goto (tgt := 96) hx hb dX7_dug_150 (by decide) ?_
            exact bk96 (y96_4 + 1) (upd z96_v_s r115.toNatClampNeg 0) _ _ _ hq hP hD hS (lv_sub hl [1, 2, 3, 0] rfl)
          · have hq := hqA c13
            refine lv_aload_n hx hb dX7_dug_130 rfl (lv_at hl 0 rfl) ?_
            refine va_get (D := (dC, dI)) (ci := 7) (v := .ref (a 1)) (C := RX7) (T := TX7) (N := 16) hx hb hts iK7 hown hK hP 0 rfl rfl 0 (by decide) lk0 (fun _ h9 => h9) rfl dX7_dug_131 ?_
            refine lv_iload hx hb dX7_dug_134 (lv_at hl 3 rfl) ?_
            refine lv_bipush (v := 23) hx hb dX7_dug_136 (by decide) ?_
            have hFc := xfree_none hS hAe0
            refine va_calli (va_runS (As := [.int y96_4, .int 23]) (rest := [.ref (a 1), .int r115, .ref (a 1)]) ⟨hx, hb, hml, hown, hts⟩ (c_X7_of l dC dI cy  _ y96_4 23 _ hq) (va_cwS 2 hts gX7_dug_X7_of rfl rfl rfl (by decide +kernel) ⟨Nat.le_of_ble_eq_true rfl, Nat.le_of_ble_eq_true rfl⟩) ⟨xPre_blind, xPre_of xP_nil hK (xD_nil (A := A))⟩ rfl rfl hl.1 rfl (lv_room (Nat.le_of_ble_eq_true rfl)) dX7_dug_138 ⟨Nat.le_of_ble_eq_true rfl, Nat.le_of_ble_eq_true rfl⟩) hS (fun q _ h => hFc q h) hFc (fun r138 u9 t H locs ht hvm hq hB hz1 hk1 hS => ?_)
            have hP := xj_none hP hk1
            obtain ⟨g11, hq⟩ := hq
            refine va_iald hx hb hK hP 1 0 rfl rfl g11 dX7_dug_141 ?_
            refine lv_goto (tgt := 146) hx hb dX7_dug_142 (by decide) ?_
            obtain ⟨g12, hq⟩ := hq
            refine va_iast hx hb hK hP hD hS 1 0 rfl rfl g12 dX7_dug_146 (fun H locs hP hD hS => ?_)
            have hP : va_P (dC, dI) vwCl (cX7 cy a (upd z96_v_s r115.toNatClampNeg (z96_v_s r138.toNatClampNeg)) (X7_aside v) (X7_kept v) (X7_isKept v) (X7_saved v) (X7_savedMany v) (X7_text v) (X7_length v) (X7_thrown v) (X7_joint v) (X7_position v) (X7_isWrong v) (X7_isHollow v) (X7_sure v) (X7_away v) (X7_digested v)) H := hP
            have hD : va_D A (cX7 cy a (upd z96_v_s r115.toNatClampNeg (z96_v_s r138.toNatClampNeg)) (X7_aside v) (X7_kept v) (X7_isKept v) (X7_saved v) (X7_savedMany v) (X7_text v) (X7_length v) (X7_thrown v) (X7_joint v) (X7_position v) (X7_isWrong v) (X7_isHollow v) (X7_sure v) (X7_away v) (X7_digested v)) := hD
            refine lv_iinc (v := (y96_4 + 1)) (lv' := [(4, .int (y96_4 + 1)), (0, .ref (a 0)), (1, .int x1), (2, .int y96_2)]) hx hb dX7_dug_147 hl (k := 3) rfl rfl (by decide) rfl (fun ls hl => ?_)
            refine lv_goto (tgt := 96) hx hb dX7_dug_150 (by decide) ?_
            exact bk96 (y96_4 + 1) (upd z96_v_s r115.toNatClampNeg (z96_v_s r138.toNatClampNeg)) _ _ _ hq hP hD hS (lv_sub hl [1, 2, 3, 0] rfl)
    exact key _ y96_4 z96_v_s H locs ls h0 (Nat.lt_succ_self _) hP hD hS hl
  have J48 : ∀ (y48_2 : Int32) (y48_3 : Int32) (z48_v_s : (Nat → Int32)) (H : Heap) (locs : List Loc) (ls : Array Slot), wp_X7_dug_48 v x1 y48_2 y48_3 z48_v_s Q → va_P (dC, dI) vwCl (cX7 cy a z48_v_s (X7_aside v) (X7_kept v) (X7_isKept v) (X7_saved v) (X7_savedMany v) (X7_text v) (X7_length v) (X7_thrown v) (X7_joint v) (X7_position v) (X7_isWrong v) (X7_isHollow v) (X7_sure v) (X7_away v) (X7_digested v)) H → va_D A (cX7 cy a z48_v_s (X7_aside v) (X7_kept v) (X7_isKept v) (X7_saved v) (X7_savedMany v) (X7_text v) (X7_length v) (X7_thrown v) (X7_joint v) (X7_position v) (X7_isWrong v) (X7_isHollow v) (X7_sure v) (X7_away v) (X7_digested v)) → va_S A s.heap H locs → lv_has ls 5 [(0, .ref (a 0)), (1, .int x1), (2, .int y48_2), (3, .int y48_3)] → W p l e (headSpec wsX7_dug ({ frames := 4, cells := 0, slots := 0, locals := 97 } : Room)).room s m ([.ref (a 0), .int x1] : List Value).toArray below meth c H locs 0 0 (MQ below (q_X7_dug dC dI cy a v x1 Q A) ([.ref (a 0), .int x1] : List Value).toArray s 0 0 A) (F0 m 48 ls []) := by
    intro y48_2 y48_3 z48_v_s H locs ls hq hP hD hS hl
    obtain ⟨I48, μ48, h0, hs48⟩ := hq
    have key : ∀ (n : Nat) (y48_3 : Int32) (z48_v_s : (Nat → Int32)) (H : Heap) (locs : List Loc) (ls : Array Slot), I48 y48_3 z48_v_s → μ48 y48_3 z48_v_s < n → va_P (dC, dI) vwCl (cX7 cy a z48_v_s (X7_aside v) (X7_kept v) (X7_isKept v) (X7_saved v) (X7_savedMany v) (X7_text v) (X7_length v) (X7_thrown v) (X7_joint v) (X7_position v) (X7_isWrong v) (X7_isHollow v) (X7_sure v) (X7_away v) (X7_digested v)) H → va_D A (cX7 cy a z48_v_s (X7_aside v) (X7_kept v) (X7_isKept v) (X7_saved v) (X7_savedMany v) (X7_text v) (X7_length v) (X7_thrown v) (X7_joint v) (X7_position v) (X7_isWrong v) (X7_isHollow v) (X7_sure v) (X7_away v) (X7_digested v)) → va_S A s.heap H locs → lv_has ls 5 [(0, .ref (a 0)), (1, .int x1), (2, .int y48_2), (3, .int y48_3)] → W p l e (headSpec wsX7_dug ({ frames := 4, cells := 0, slots := 0, locals := 97 } : Room)).room s m ([.ref (a 0), .int x1] : List Value).toArray below meth c H locs 0 0 (MQ below (q_X7_dug dC dI cy a v x1 Q A) ([.ref (a 0), .int x1] : List Value).toArray s 0 0 A) (F0 m 48 ls []) := by
      intro n
      induction n with
      | zero => intro y48_3 z48_v_s H locs ls _ hm; exact absurd hm (Nat.not_lt_zero _)
      | succ n ih =>
        intro y48_3 z48_v_s H locs ls hI hm hP hD hS hl
        have hq := hs48 y48_3 z48_v_s hI
        generalize hB48 : (fun (t0 : Int32) (t1 : (Nat → Int32)) => I48 t0 t1 ∧ μ48 t0 t1 < μ48 y48_3 z48_v_s) = B48 at hq
        have bk48 : ∀ (y48_3 : Int32) (z48_v_s : (Nat → Int32)) (H : Heap) (locs : List Loc) (ls : Array Slot), B48 y48_3 z48_v_s → va_P (dC, dI) vwCl (cX7 cy a z48_v_s (X7_aside v) (X7_kept v) (X7_isKept v) (X7_saved v) (X7_savedMany v) (X7_text v) (X7_length v) (X7_thrown v) (X7_joint v) (X7_position v) (X7_isWrong v) (X7_isHollow v) (X7_sure v) (X7_away v) (X7_digested v)) H → va_D A (cX7 cy a z48_v_s (X7_aside v) (X7_kept v) (X7_isKept v) (X7_saved v) (X7_savedMany v) (X7_text v) (X7_length v) (X7_thrown v) (X7_joint v) (X7_position v) (X7_isWrong v) (X7_isHollow v) (X7_sure v) (X7_away v) (X7_digested v)) → va_S A s.heap H locs → lv_has ls 5 [(0, .ref (a 0)), (1, .int x1), (2, .int y48_2), (3, .int y48_3)] → W p l e (headSpec wsX7_dug ({ frames := 4, cells := 0, slots := 0, locals := 97 } : Room)).room s m ([.ref (a 0), .int x1] : List Value).toArray below meth c H locs 0 0 (MQ below (q_X7_dug dC dI cy a v x1 Q A) ([.ref (a 0), .int x1] : List Value).toArray s 0 0 A) (F0 m 48 ls []) := by
          intro y48_3 z48_v_s H locs ls h
          rw [← hB48] at h
          exact ih y48_3 z48_v_s H locs ls h.1 (Nat.lt_of_lt_of_le h.2 (Nat.le_of_lt_succ hm))
        unfold wb_X7_dug_48 at hq
        refine lv_iload_n hx hb dX7_dug_48 rfl (lv_at hl 3 rfl) ?_
        obtain ⟨hqA, hqB⟩ := hq
        refine lv_if_lt (tgt := 77) hx hb dX7_dug_49 (by decide) (fun c18 => ?_) (fun c18 => ?_)
        · have hq := hqA c18
          refine lv_aload_n hx hb dX7_dug_77 rfl (lv_at hl 0 rfl) ?_
          refine va_get (D := (dC, dI)) (ci := 7) (v := .ref (a 1)) (C := RX7) (T := TX7) (N := 16) hx hb hts iK7 hown hK hP 0 rfl rfl 0 (by decide) lk0 (fun _ h9 => h9) rfl dX7_dug_78 ?_
          refine lv_bipush (v := 8) hx hb dX7_dug_81 (by decide) ?_
          refine lv_iload_n hx hb dX7_dug_83 rfl (lv_at hl 1 rfl) ?_
          refine lv_iadd hx hb dX7_dug_84 ?_
          refine lv_iconst (v := 0) hx hb dX7_dug_85 (by decide) ?_
          obtain ⟨g15, hq⟩ := hq
          refine va_iast hx hb hK hP hD hS 1 0 rfl rfl g15 dX7_dug_86 (fun H locs hP hD hS => ?_)
          have hP : va_P (dC, dI) vwCl (cX7 cy a (upd z48_v_s (8 + x1).toNatClampNeg 0) (X7_aside v) (X7_kept v) (X7_isKept v) (X7_saved v) (X7_savedMany v) (X7_text v) (X7_length v) (X7_thrown v) (X7_joint v) (X7_position v) (X7_isWrong v) (X7_isHollow v) (X7_sure v) (X7_away v) (X7_digested v)) H := hP
          have hD : va_D A (cX7 cy a (upd z48_v_s (8 + x1).toNatClampNeg 0) (X7_aside v) (X7_kept v) (X7_isKept v) (X7_saved v) (X7_savedMany v) (X7_text v) (X7_length v) (X7_thrown v) (X7_joint v) (X7_position v) (X7_isWrong v) (X7_isHollow v) (X7_sure v) (X7_away v) (X7_digested v)) := hD
          refine lv_aload_n hx hb dX7_dug_87 rfl (lv_at hl 0 rfl) ?_
          refine lv_iload_n hx hb dX7_dug_88 rfl (lv_at hl 1 rfl) ?_
          have hFc := xfree_same hS hAe0 (ws := (cX7 cy a (upd z48_v_s (8 + x1).toNatClampNeg 0) (X7_aside v) (X7_kept v) (X7_isKept v) (X7_saved v) (X7_savedMany v) (X7_text v) (X7_length v) (X7_thrown v) (X7_joint v) (X7_position v) (X7_isWrong v) (X7_isHollow v) (X7_sure v) (X7_away v) (X7_digested v))) hD
          refine va_calli (va_runV (As := [.int x1]) (rest := []) ⟨hx, hb, hml, hown, hts⟩ (c_X7_fallsIn l dC dI cy a _ (X7_s0 v (upd z48_v_s (8 + x1).toNatClampNeg 0)) x1 _ hq) (cwV 1 hts gX7_dug_X7_fallsIn rfl rfl rfl (by decide +kernel) ⟨Nat.le_of_ble_eq_true rfl, Nat.le_of_ble_eq_true rfl⟩) ⟨xPre_blind, va_recv hK hP (ci := 7) (q0 := 0) rfl rfl, xPre_of hP hK hD⟩ rfl rfl hl.1 rfl (lv_room (Nat.le_of_ble_eq_true rfl)) dX7_dug_89 ⟨Nat.le_of_ble_eq_true rfl, Nat.le_of_ble_eq_true rfl⟩) hS (fun q _ h => hFc q h) hFc (fun r89 z89_v_s t H locs ht hvm hq hB hz1 hk1 hS => ?_)
          obtain ⟨hP1, -, hD1⟩ := hB
          rw [ht] at hP1
          have hP : va_P (dC, dI) vwCl (cX7 cy a z89_v_s (X7_aside v) (X7_kept v) (X7_isKept v) (X7_saved v) (X7_savedMany v) (X7_text v) (X7_length v) (X7_thrown v) (X7_joint v) (X7_position v) (X7_isWrong v) (X7_isHollow v) (X7_sure v) (X7_away v) (X7_digested v)) H := hP1
          have hD : va_D A (cX7 cy a z89_v_s (X7_aside v) (X7_kept v) (X7_isKept v) (X7_saved v) (X7_savedMany v) (X7_text v) (X7_length v) (X7_thrown v) (X7_joint v) (X7_position v) (X7_isWrong v) (X7_isHollow v) (X7_sure v) (X7_away v) (X7_digested v)) := hD1.weaken (fun _ q _ h => hFc q.1 h)
          refine lv_istore_n (lv' := [(3, .int r89), (0, .ref (a 0)), (1, .int x1), (2, .int y48_2)]) hx hb dX7_dug_92 rfl hl (by decide) rfl (fun ls hl => ?_)
          refine lv_iconst (v := 0) hx hb dX7_dug_93 (by decide) ?_
          refine lv_istore (lv' := [(4, .int 0), (3, .int r89), (0, .ref (a 0)), (1, .int x1), (2, .int y48_2)]) hx hb dX7_dug_94 hl (by decide) rfl (fun ls hl => ?_)
          exact J96 y48_2 0 z89_v_s _ _ _ hq hP hD hS (lv_sub hl [2, 3, 4, 0] rfl)
        · have hq := hqB c18
          refine lv_aload_n hx hb dX7_dug_52 rfl (lv_at hl 0 rfl) ?_
          refine va_get (D := (dC, dI)) (ci := 7) (v := .ref (a 1)) (C := RX7) (T := TX7) (N := 16) hx hb hts iK7 hown hK hP 0 rfl rfl 0 (by decide) lk0 (fun _ h9 => h9) rfl dX7_dug_53 ?_
          refine lv_iload_n hx hb dX7_dug_56 rfl (lv_at hl 3 rfl) ?_
          refine lv_iconst (v := 0) hx hb dX7_dug_57 (by decide) ?_
          have hFc := xfree_none hS hAe0
          refine va_calli (va_runS (As := [.int y48_3, .int 0]) (rest := [.ref (a 1)]) ⟨hx, hb, hml, hown, hts⟩ (c_X7_of l dC dI cy  _ y48_3 0 _ hq) (va_cwS 2 hts gX7_dug_X7_of rfl rfl rfl (by decide +kernel) ⟨Nat.le_of_ble_eq_true rfl, Nat.le_of_ble_eq_true rfl⟩) ⟨xPre_blind, xPre_of xP_nil hK (xD_nil (A := A))⟩ rfl rfl hl.1 rfl (lv_room (Nat.le_of_ble_eq_true rfl)) dX7_dug_58 ⟨Nat.le_of_ble_eq_true rfl, Nat.le_of_ble_eq_true rfl⟩) hS (fun q _ h => hFc q h) hFc (fun r58 u9 t H locs ht hvm hq hB hz1 hk1 hS => ?_)
          have hP := xj_none hP hk1
          obtain ⟨g16, hq⟩ := hq
          refine va_iald hx hb hK hP 1 0 rfl rfl g16 dX7_dug_61 ?_
          refine lv_iload_n hx hb dX7_dug_62 rfl (lv_at hl 1 rfl) ?_
          obtain ⟨hqA, hqB⟩ := hq
          refine lv_icmp_ne (tgt := 71) hx hb dX7_dug_63 (by decide) (fun c17 => ?_) (fun c17 => ?_)
          · have hq := hqB c17
            refine lv_iinc (v := (y48_3 + (-1))) (lv' := [(3, .int (y48_3 + (-1))), (0, .ref (a 0)), (1, .int x1), (2, .int y48_2)]) hx hb dX7_dug_71 hl (k := 3) rfl rfl (by decide) rfl (fun ls hl => ?_)
            refine lv_goto (tgt := 48) hx hb dX7_dug_74 (by decide) ?_
            exact bk48 (y48_3 + (-1)) z48_v_s _ _ _ hq hP hD hS (lv_sub hl [1, 2, 3, 0] rfl)
          · have hq := hqA c17
            refine lv_aload_n hx hb dX7_dug_66 rfl (lv_at hl 0 rfl) ?_
            refine lv_iload_n hx hb dX7_dug_67 rfl (lv_at hl 3 rfl) ?_
            have hFc := xfree_same hS hAe0 (ws := (cX7 cy a z48_v_s (X7_aside v) (X7_kept v) (X7_isKept v) (X7_saved v) (X7_savedMany v) (X7_text v) (X7_length v) (X7_thrown v) (X7_joint v) (X7_position v) (X7_isWrong v) (X7_isHollow v) (X7_sure v) (X7_away v) (X7_digested v))) hD
            refine va_callv (va_runV (As := [.int y48_3]) (rest := []) ⟨hx, hb, hml, hown, hts⟩ (c_X7_isCaught l dC dI cy a _ (X7_s0 v z48_v_s) y48_3 _ hq) (cwV 1 hts gX7_dug_X7_isCaught rfl rfl rfl (by decide +kernel) ⟨Nat.le_of_ble_eq_true rfl, Nat.le_of_ble_eq_true rfl⟩) ⟨xPre_blind, va_recv hK hP (ci := 7) (q0 := 0) rfl rfl, xPre_of hP hK hD⟩ rfl rfl hl.1 rfl (lv_room (Nat.le_of_ble_eq_true rfl)) dX7_dug_68 ⟨Nat.le_of_ble_eq_true rfl, Nat.le_of_ble_eq_true rfl⟩) hS (fun q _ h => hFc q h) hFc (fun z68_v_s t H locs ht hvm hq hB hz1 hk1 hS => ?_)
            obtain ⟨hP1, -, hD1⟩ := hB
            rw [ht] at hP1
            have hP : va_P (dC, dI) vwCl (cX7 cy a z68_v_s (X7_aside v) (X7_kept v) (X7_isKept v) (X7_saved v) (X7_savedMany v) (X7_text v) (X7_length v) (X7_thrown v) (X7_joint v) (X7_position v) (X7_isWrong v) (X7_isHollow v) (X7_sure v) (X7_away v) (X7_digested v)) H := hP1
            have hD : va_D A (cX7 cy a z68_v_s (X7_aside v) (X7_kept v) (X7_isKept v) (X7_saved v) (X7_savedMany v) (X7_text v) (X7_length v) (X7_thrown v) (X7_joint v) (X7_position v) (X7_isWrong v) (X7_isHollow v) (X7_sure v) (X7_away v) (X7_digested v)) := hD1.weaken (fun _ q _ h => hFc q.1 h)
            refine lv_iinc (v := (y48_3 + (-1))) (lv' := [(3, .int (y48_3 + (-1))), (0, .ref (a 0)), (1, .int x1), (2, .int y48_2)]) hx hb dX7_dug_71 hl (k := 3) rfl rfl (by decide) rfl (fun ls hl => ?_)
            refine lv_goto (tgt := 48) hx hb dX7_dug_74 (by decide) ?_
            exact bk48 (y48_3 + (-1)) z68_v_s _ _ _ hq hP hD hS (lv_sub hl [1, 2, 3, 0] rfl)
    exact key _ y48_3 z48_v_s H locs ls h0 (Nat.lt_succ_self _) hP hD hS hl
  refine lv_aload_n hx hb dX7_dug_0 rfl (lv_at hl 0 rfl) ?_
  refine va_get (D := (dC, dI)) (ci := 7) (v := .ref (a 1)) (C := RX7) (T := TX7) (N := 16) hx hb hts iK7 hown hK hP 0 rfl rfl 0 (by decide) lk0 (fun _ h9 => h9) rfl dX7_dug_1 ?_
  refine lv_sipush (v := 200) hx hb dX7_dug_4 (by decide) ?_
  refine lv_iload_n hx hb dX7_dug_7 rfl (lv_at hl 1 rfl) ?_
  refine lv_iadd hx hb dX7_dug_8 ?_
  refine lv_iconst (v := 1) hx hb dX7_dug_9 (by decide) ?_
  obtain ⟨g19, hq⟩ := hq
  refine va_iast hx hb hK hP hD hS 1 0 rfl rfl g19 dX7_dug_10 (fun H locs hP hD hS => ?_)
  have hP : va_P (dC, dI) vwCl (cX7 cy a (upd (X7_s v) (200 + x1).toNatClampNeg 1) (X7_aside v) (X7_kept v) (X7_isKept v) (X7_saved v) (X7_savedMany v) (X7_text v) (X7_length v) (X7_thrown v) (X7_joint v) (X7_position v) (X7_isWrong v) (X7_isHollow v) (X7_sure v) (X7_away v) (X7_digested v)) H := hP
  have hD : va_D A (cX7 cy a (upd (X7_s v) (200 + x1).toNatClampNeg 1) (X7_aside v) (X7_kept v) (X7_isKept v) (X7_saved v) (X7_savedMany v) (X7_text v) (X7_length v) (X7_thrown v) (X7_joint v) (X7_position v) (X7_isWrong v) (X7_isHollow v) (X7_sure v) (X7_away v) (X7_digested v)) := hD
  refine lv_aload_n hx hb dX7_dug_11 rfl (lv_at hl 0 rfl) ?_
  refine va_get (D := (dC, dI)) (ci := 7) (v := .ref (a 1)) (C := RX7) (T := TX7) (N := 16) hx hb hts iK7 hown hK hP 0 rfl rfl 0 (by decide) lk0 (fun _ h9 => h9) rfl dX7_dug_12 ?_
  refine lv_bipush (v := 72) hx hb dX7_dug_15 (by decide) ?_
  refine lv_iload_n hx hb dX7_dug_17 rfl (lv_at hl 1 rfl) ?_
  refine lv_iadd hx hb dX7_dug_18 ?_
  refine lv_iconst (v := 0) hx hb dX7_dug_19 (by decide) ?_
  obtain ⟨g20, hq⟩ := hq
  refine va_iast hx hb hK hP hD hS 1 0 rfl rfl g20 dX7_dug_20 (fun H locs hP hD hS => ?_)
  have hP : va_P (dC, dI) vwCl (cX7 cy a (upd (upd (X7_s v) (200 + x1).toNatClampNeg 1) (72 + x1).toNatClampNeg 0) (X7_aside v) (X7_kept v) (X7_isKept v) (X7_saved v) (X7_savedMany v) (X7_text v) (X7_length v) (X7_thrown v) (X7_joint v) (X7_position v) (X7_isWrong v) (X7_isHollow v) (X7_sure v) (X7_away v) (X7_digested v)) H := hP
  have hD : va_D A (cX7 cy a (upd (upd (X7_s v) (200 + x1).toNatClampNeg 1) (72 + x1).toNatClampNeg 0) (X7_aside v) (X7_kept v) (X7_isKept v) (X7_saved v) (X7_savedMany v) (X7_text v) (X7_length v) (X7_thrown v) (X7_joint v) (X7_position v) (X7_isWrong v) (X7_isHollow v) (X7_sure v) (X7_away v) (X7_digested v)) := hD
  refine lv_aload_n hx hb dX7_dug_21 rfl (lv_at hl 0 rfl) ?_
  refine va_get (D := (dC, dI)) (ci := 7) (v := .ref (a 1)) (C := RX7) (T := TX7) (N := 16) hx hb hts iK7 hown hK hP 0 rfl rfl 0 (by decide) lk0 (fun _ h9 => h9) rfl dX7_dug_22 ?_
  refine lv_sipush (v := 136) hx hb dX7_dug_25 (by decide) ?_
  refine lv_iload_n hx hb dX7_dug_28 rfl (lv_at hl 1 rfl) ?_
  refine lv_iadd hx hb dX7_dug_29 ?_
  refine lv_iconst (v := (-1)) hx hb dX7_dug_30 (by decide) ?_
  obtain ⟨g21, hq⟩ := hq
  refine va_iast hx hb hK hP hD hS 1 0 rfl rfl g21 dX7_dug_31 (fun H locs hP hD hS => ?_)
  have hP : va_P (dC, dI) vwCl (cX7 cy a (upd (upd (upd (X7_s v) (200 + x1).toNatClampNeg 1) (72 + x1).toNatClampNeg 0) (136 + x1).toNatClampNeg (-1)) (X7_aside v) (X7_kept v) (X7_isKept v) (X7_saved v) (X7_savedMany v) (X7_text v) (X7_length v) (X7_thrown v) (X7_joint v) (X7_position v) (X7_isWrong v) (X7_isHollow v) (X7_sure v) (X7_away v) (X7_digested v)) H := hP
  have hD : va_D A (cX7 cy a (upd (upd (upd (X7_s v) (200 + x1).toNatClampNeg 1) (72 + x1).toNatClampNeg 0) (136 + x1).toNatClampNeg (-1)) (X7_aside v) (X7_kept v) (X7_isKept v) (X7_saved v) (X7_savedMany v) (X7_text v) (X7_length v) (X7_thrown v) (X7_joint v) (X7_position v) (X7_isWrong v) (X7_isHollow v) (X7_sure v) (X7_away v) (X7_digested v)) := hD
  refine lv_aload_n hx hb dX7_dug_32 rfl (lv_at hl 0 rfl) ?_
  refine va_get (D := (dC, dI)) (ci := 7) (v := .ref (a 1)) (C := RX7) (T := TX7) (N := 16) hx hb hts iK7 hown hK hP 0 rfl rfl 0 (by decide) lk0 (fun _ h9 => h9) rfl dX7_dug_33 ?_
  refine lv_iconst (v := 2) hx hb dX7_dug_36 (by decide) ?_
  obtain ⟨g22, hq⟩ := hq
  refine va_iald hx hb hK hP 1 0 rfl rfl g22 dX7_dug_37 ?_
  refine lv_istore_n (lv' := [(2, .int ((upd (upd (upd (X7_s v) (200 + x1).toNatClampNeg 1) (72 + x1).toNatClampNeg 0) (136 + x1).toNatClampNeg (-1)) (2 : Int32).toNatClampNeg)), (0, .ref (a 0)), (1, .int x1)]) hx hb dX7_dug_38 rfl hl (by decide) rfl (fun ls hl => ?_)
  refine lv_aload_n hx hb dX7_dug_39 rfl (lv_at hl 1 rfl) ?_
  refine va_get (D := (dC, dI)) (ci := 7) (v := .ref (a 1)) (C := RX7) (T := TX7) (N := 16) hx hb hts iK7 hown hK hP 0 rfl rfl 0 (by decide) lk0 (fun _ h9 => h9) rfl dX7_dug_40 ?_
  refine lv_iconst (v := 1) hx hb dX7_dug_43 (by decide) ?_
  obtain ⟨g23, hq⟩ := hq
  refine va_iald hx hb hK hP 1 0 rfl rfl g23 dX7_dug_44 ?_
  refine lv_iconst (v := 1) hx hb dX7_dug_45 (by decide) ?_
  refine lv_isub hx hb dX7_dug_46 ?_
  refine lv_istore_n (lv' := [(3, .int (((upd (upd (upd (X7_s v) (200 + x1).toNatClampNeg 1) (72 + x1).toNatClampNeg 0) (136 + x1).toNatClampNeg (-1)) (1 : Int32).toNatClampNeg) - 1)), (2, .int ((upd (upd (upd (X7_s v) (200 + x1).toNatClampNeg 1) (72 + x1).toNatClampNeg 0) (136 + x1).toNatClampNeg (-1)) (2 : Int32).toNatClampNeg)), (0, .ref (a 0)), (1, .int x1)]) hx hb dX7_dug_47 rfl hl (by decide) rfl (fun ls hl => ?_)
  exact J48 ((upd (upd (upd (X7_s v) (200 + x1).toNatClampNeg 1) (72 + x1).toNatClampNeg 0) (136 + x1).toNatClampNeg (-1)) (2 : Int32).toNatClampNeg) (((upd (upd (upd (X7_s v) (200 + x1).toNatClampNeg 1) (72 + x1).toNatClampNeg 0) (136 + x1).toNatClampNeg (-1)) (1 : Int32).toNatClampNeg) - 1) (upd (upd (upd (X7_s v) (200 + x1).toNatClampNeg 1) (72 + x1).toNatClampNeg 0) (136 + x1).toNatClampNeg (-1)) _ _ _ hq hP hD hS (lv_sub hl [2, 3, 1, 0] rfl)
