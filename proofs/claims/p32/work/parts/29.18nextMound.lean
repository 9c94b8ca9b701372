def wp_X6_nextMound (v : V_X6) (Q : Int32 → V_X3 → V_X0 → Prop) : Prop :=
  wp_X6_beatsToMound v (fun r1 z1_v_spareR z1_v_trial =>
  Q r1 z1_v_spareR z1_v_trial)
def q_X6_nextMound (dC : Nat → ClassId) (dI : Nat → Nat → Nat) (cy : Nat → ClassId) (a : Nat → Nat) (v : V_X6) (Q : Int32 → V_X3 → V_X0 → Prop) (A : Nat → Prop) : Array Value → State → Outcome → State → Prop := va_Qi (fun (r : Int32) (u : V_X3 × V_X0) => Q r u.1 u.2) (fun (u : V_X3 × V_X0) t => xAt dC dI cy A (cX6 cy a (X6_lawn v) (X6_snapshot v) u.2 (X6_savedR v) (X6_saved v) (X6_text v) (X6_survey v) (X6_paths v) (X6_snapshotTaken v) (X6_savedCount v) u.1) t) A
set_option maxHeartbeats 4000000 in
set_option maxRecDepth 100000 in
theorem c_X6_nextMound (l : Launch) (dC : Nat → ClassId) (dI : Nat → Nat → Nat) (cy : Nat → ClassId) (a : Nat → Nat) (sz : Nat) (v : V_X6) (Q : Int32 → V_X3 → V_X0 → Prop) (hq : wp_X6_nextMound v Q) : Met l yX6_nextMound wsX6_nextMound ({ frames := 7, cells := 0, slots := 0, locals := 164 } : Room) (va_Pc [.ref (a 0)] (xPreE dC dI cy (wX6 cy a v) sz)) (q_X6_nextMound dC dI cy a v Q (va_A (wX6 cy a v) sz)) 0 0 (va_A (wX6 cy a v) sz) := by
  refine Met.ofW (cc := cX6_nextMound) (maxL := 1) (ret := (some .int)) (by decide) rfl ?_
  intro p e s m args below meth c s₁ B hml hv
  obtain ⟨rfl, hsz, hP, hK, hD0, hE⟩ := hv
  have hx := B.exec
  have hb := B.bytes
  have hr := B.returns
  have hts := atoms_spec (ws := wsX6_nextMound) B.pre
  have hown : s.vm.findClass RX6 = some m.cls := findClass_of_methodNamed B.named
  have hlocks := B.notSynchronized
  subst hsz
  have hD := hD0.self (sz := s.heap.size)
  generalize hAe : va_A (wX6 cy a v) s.heap.size = A at hD hE ⊢
  have hAe0 : ∀ q : Nat, s.heap.size ≤ q → A q := fun q h => by rw [← hAe]; exact Or.inr h
  have hS : va_S A s.heap s.heap [] := va_S.rf
  have hl := lv_entry ([.ref (a 0)]) (n := 1) (Nat.le_of_ble_eq_true rfl)
  rw [lg_entry_eq]
  generalize (lg_sl ([.ref (a 0)]) ++ List.replicate (1 - (lg_sl ([.ref (a 0)])).length) Slot.unset).toArray = ls at hl ⊢
  have hl : lv_has ls 1 [(0, .ref (a 0))] := hl
  unfold wp_X6_nextMound at hq
  refine lv_aload_n hx hb dX6_nextMound_0 rfl (lv_at hl 0 rfl) ?_
  have hFc := xfree_same hS hAe0 (ws := (wX6 cy a v)) hD
  refine va_calli (va_runV (As := []) (rest := []) ⟨hx, hb, hml, hown, hts⟩ (c_X6_beatsToMound l dC dI cy a _ v _ hq) (cwV 0 hts gX6_nextMound_X6_beatsToMound rfl rfl rfl (by decide +kernel) ⟨Nat.le_of_ble_eq_true rfl, Nat.le_of_ble_eq_true rfl⟩) ⟨xPre_blindE, va_recv hK hP (ci := 6) (q0 := 0) rfl rfl, xPre_ofE hP hK hD hE hS hFc⟩ rfl rfl hl.1 rfl (lv_room (Nat.le_of_ble_eq_true rfl)) dX6_nextMound_1 ⟨Nat.le_of_ble_eq_true rfl, Nat.le_of_ble_eq_true rfl⟩) hS (fun q _ h => hFc q h) hFc (fun r1 u9 t H locs ht hvm hq hB hz1 hk1 hS => ?_)
  obtain ⟨z1_v_spareR, z1_v_trial⟩ := u9
  obtain ⟨hP1, -, hD1⟩ := hB
  rw [ht] at hP1
  have hP : va_P (dC, dI) vwCl (cX6 cy a (X6_lawn v) (X6_snapshot v) z1_v_trial (X6_savedR v) (X6_saved v) (X6_text v) (X6_survey v) (X6_paths v) (X6_snapshotTaken v) (X6_savedCount v) z1_v_spareR) H := hP1
  have hD : va_D A (cX6 cy a (X6_lawn v) (X6_snapshot v) z1_v_trial (X6_savedR v) (X6_saved v) (X6_text v) (X6_survey v) (X6_paths v) (X6_snapshotTaken v) (X6_savedCount v) z1_v_spareR) := hD1.weaken (fun _ q _ h => hFc q.1 h)
  exact W.iret (v := r1) hx hb hr (fun t ht hW => ⟨⟨r1, (z1_v_spareR, z1_v_trial), rfl, hq, (xAt_of hP hK hD ht hW)⟩, hS.F ht⟩) hS.2.2 dX6_nextMound_4
