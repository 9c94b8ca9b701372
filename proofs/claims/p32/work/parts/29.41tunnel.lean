def wp_X6_tunnel (v : V_X6) (x1 : Int32) (x2 : Int32) (Q : Int32 → Prop) (QX : String → Prop) : Prop :=
  wp_X6_checkTunnel v x1 (wp_X6_checkWhat v x2 2 (wp_X3_number (X0_tunnels (X6_lawn v)) x1 x2 (fun r20 =>
  Q r20)) QX) QX
def q_X6_tunnel (dC : Nat → ClassId) (dI : Nat → Nat → Nat) (cy : Nat → ClassId) (a : Nat → Nat) (v : V_X6) (x1 : Int32) (x2 : Int32) (Q : Int32 → Prop) (A : Nat → Prop) : Array Value → State → Outcome → State → Prop := va_Qi (fun (r : Int32) (u : Unit) => Q r ) (fun (u : Unit) t => xAt dC dI cy A (wX6 cy a v) t) A
set_option maxHeartbeats 4000000 in
set_option maxRecDepth 100000 in
theorem c_X6_tunnel (l : Launch) (dC : Nat → ClassId) (dI : Nat → Nat → Nat) (cy : Nat → ClassId) (a : Nat → Nat) (sz : Nat) (v : V_X6) (x1 : Int32) (x2 : Int32) (Q : Int32 → Prop) (QX : String → Prop) (hX : ∀ E, ¬ QX E) (hq : wp_X6_tunnel v x1 x2 Q QX) : Met l yX6_tunnel wsX6_tunnel ({ frames := 4, cells := 0, slots := 0, locals := 86 } : Room) (va_Pc [.ref (a 0), .int x1, .int x2] (xPre dC dI cy (wX6 cy a v) sz)) (q_X6_tunnel dC dI cy a v x1 x2 Q (va_A (wX6 cy a v) sz)) 0 0 (va_A (wX6 cy a v) sz) := by
  refine Met.ofW (cc := cX6_tunnel) (maxL := 3) (ret := (some .int)) (by decide) rfl ?_
  intro p e s m args below meth c s₁ B hml hv
  obtain ⟨rfl, hsz, hP, hK, hD0⟩ := hv
  have hx := B.exec
  have hb := B.bytes
  have hr := B.returns
  have hts := atoms_spec (ws := wsX6_tunnel) B.pre
  have hown : s.vm.findClass RX6 = some m.cls := findClass_of_methodNamed B.named
  have hlocks := B.notSynchronized
  subst hsz
  have hD := hD0.self (sz := s.heap.size)
  generalize hAe : va_A (wX6 cy a v) s.heap.size = A at hD ⊢
  have hAe0 : ∀ q : Nat, s.heap.size ≤ q → A q := fun q h => by rw [← hAe]; exact Or.inr h
  have hS : va_S A s.heap s.heap [] := va_S.rf
  have hl := lv_entry ([.ref (a 0), .int x1, .int x2]) (n := 3) (Nat.le_of_ble_eq_true rfl)
  rw [lg_entry_eq]
  generalize (lg_sl ([.ref (a 0), .int x1, .int x2]) ++ List.replicate (3 - (lg_sl ([.ref (a 0), .int x1, .int x2])).length) Slot.unset).toArray = ls at hl ⊢
  have hl : lv_has ls 3 [(0, .ref (a 0)), (1, .int x1), (2, .int x2)] := hl
  have lk0 := hts (Cond.fieldLink RX6 15 "MolesLawn" "lawn" "LMolesLawn$Lawn;") (List.mem_cons_of_mem _ (List.mem_append_left _ (List.mem_append_left _ (List.mem_append_left _ (List.mem_append_left _ (List.mem_append_left _ (List.mem_append_left _ (List.mem_of_getElem? (i := 0) rfl))))))))
  have lk1 := hts (Cond.fieldLink RX6 187 "MolesLawn$Lawn" "tunnels" "LMolesLawn$Rows;") (List.mem_cons_of_mem _ (List.mem_append_left _ (List.mem_append_left _ (List.mem_append_left _ (List.mem_append_left _ (List.mem_append_left _ (List.mem_append_left _ (List.mem_of_getElem? (i := 1) rfl))))))))
  have iK0 : ∀ w ∈ wsX00, w ∈ wsX6_tunnel := fun _ h => (List.mem_cons_of_mem _ (List.mem_append_left _ (List.mem_append_left _ (List.mem_append_left _ (List.mem_append_right _ h)))))
  have iK6 : ∀ w ∈ wsX60, w ∈ wsX6_tunnel := fun _ h => (List.mem_cons_of_mem _ (List.mem_append_left _ (List.mem_append_left _ (List.mem_append_left _ (List.mem_append_left _ (List.mem_append_right _ h))))))
  unfold wp_X6_tunnel at hq
  refine lv_aload_n hx hb dX6_tunnel_0 rfl (lv_at hl 0 rfl) ?_
  refine lv_iload_n hx hb dX6_tunnel_1 rfl (lv_at hl 1 rfl) ?_
  have hFc := xfree_same hS hAe0 (ws := (wX6 cy a v)) hD
  refine va_callv (va_runV (As := [.int x1]) (rest := []) ⟨hx, hb, hml, hown, hts⟩ (c_X6_checkTunnel l dC dI cy a _ v x1 _ _ hX hq) (cwV 1 hts gX6_tunnel_X6_checkTunnel rfl rfl rfl (by decide +kernel) ⟨Nat.le_of_ble_eq_true rfl, Nat.le_of_ble_eq_true rfl⟩) ⟨xPre_blind, va_recv hK hP (ci := 6) (q0 := 0) rfl rfl, xPre_of hP hK hD⟩ rfl rfl hl.1 rfl (lv_room (Nat.le_of_ble_eq_true rfl)) dX6_tunnel_2 ⟨Nat.le_of_ble_eq_true rfl, Nat.le_of_ble_eq_true rfl⟩) hS (fun q _ h => hFc q h) hFc (fun u9 t H locs ht hvm hq hB hz1 hk1 hS => ?_)
  obtain ⟨hP1, -, hD1⟩ := hB
  rw [ht] at hP1
  have hP : va_P (dC, dI) vwCl (wX6 cy a v) H := hP1
  have hD : va_D A (wX6 cy a v) := hD1.weaken (fun _ q _ h => hFc q.1 h)
  refine lv_aload_n hx hb dX6_tunnel_5 rfl (lv_at hl 0 rfl) ?_
  refine lv_iload_n hx hb dX6_tunnel_6 rfl (lv_at hl 2 rfl) ?_
  refine lv_iconst (v := 2) hx hb dX6_tunnel_7 (by decide) ?_
  have hFc := xfree_same hS hAe0 (ws := (wX6 cy a v)) hD
  refine va_callv (va_runV (As := [.int x2, .int 2]) (rest := []) ⟨hx, hb, hml, hown, hts⟩ (c_X6_checkWhat l dC dI cy a _ v x2 2 _ _ hX hq) (cwV 2 hts gX6_tunnel_X6_checkWhat rfl rfl rfl (by decide +kernel) ⟨Nat.le_of_ble_eq_true rfl, Nat.le_of_ble_eq_true rfl⟩) ⟨xPre_blind, va_recv hK hP (ci := 6) (q0 := 0) rfl rfl, xPre_of hP hK hD⟩ rfl rfl hl.1 rfl (lv_room (Nat.le_of_ble_eq_true rfl)) dX6_tunnel_8 ⟨Nat.le_of_ble_eq_true rfl, Nat.le_of_ble_eq_true rfl⟩) hS (fun q _ h => hFc q h) hFc (fun u9 t H locs ht hvm hq hB hz1 hk1 hS => ?_)
  obtain ⟨hP1, -, hD1⟩ := hB
  rw [ht] at hP1
  have hP : va_P (dC, dI) vwCl (wX6 cy a v) H := hP1
  have hD : va_D A (wX6 cy a v) := hD1.weaken (fun _ q _ h => hFc q.1 h)
  refine lv_aload_n hx hb dX6_tunnel_11 rfl (lv_at hl 0 rfl) ?_
  refine va_get (D := (dC, dI)) (ci := 6) (v := .ref (a 4)) (C := RX6) (T := TX6) (N := 9) hx hb hts iK6 hown hK hP 0 rfl rfl 0 (by decide) lk0 (fun _ h9 => h9) rfl dX6_tunnel_12 ?_
  refine va_get (D := (dC, dI)) (ci := 0) (v := .ref (a 9)) (C := RX0) (T := TX0) (N := 14) hx hb hts iK0 hown hK hP 4 rfl rfl 4 (by decide) lk1 (fun _ h9 => h9) rfl dX6_tunnel_15 ?_
  refine lv_iload_n hx hb dX6_tunnel_18 rfl (lv_at hl 1 rfl) ?_
  refine lv_iload_n hx hb dX6_tunnel_19 rfl (lv_at hl 2 rfl) ?_
  have hC : (([9, 10, 11] : List Nat).map (fun i => (wX6 cy a v)[i]?)) = (wX3 cy (sh a 9) (X0_tunnels (X6_lawn v))).map some := rfl
  have hPc := xsubP hP hC
  have hDc := xsubD hD (by decide) hC
  have hFc := va_free (wc := (wX3 cy (sh a 9) (X0_tunnels (X6_lawn v)))) hD hS hAe0 [9, 10, 11] hC
  refine va_calli (va_runV (As := [.int x1, .int x2]) (rest := []) ⟨hx, hb, hml, hown, hts⟩ (c_X3_number l dC dI cy (sh a 9) _ (X0_tunnels (X6_lawn v)) x1 x2 _ hq) (cwV 2 hts gX6_tunnel_X3_number rfl rfl rfl (by decide +kernel) ⟨Nat.le_of_ble_eq_true rfl, Nat.le_of_ble_eq_true rfl⟩) ⟨xPre_blind, va_recv hK hP (ci := 3) (q0 := 9) rfl rfl, xPre_of hPc hK hDc⟩ rfl rfl hl.1 rfl (lv_room (Nat.le_of_ble_eq_true rfl)) dX6_tunnel_20 ⟨Nat.le_of_ble_eq_true rfl, Nat.le_of_ble_eq_true rfl⟩) hS (fun q _ h => hFc q h) hFc (fun r20 u9 t H locs ht hvm hq hB hz1 hk1 hS => ?_)
  obtain ⟨hP1, -, hD1⟩ := hB
  rw [ht] at hP1
  have hP : va_P (dC, dI) vwCl (wX6 cy a v) H := xj_keep hP hD [9, 10, 11] hC hP1 hk1
  exact W.iret (v := r20) hx hb hr (fun t ht hW => ⟨⟨r20, (), rfl, hq, (xAt_of hP hK hD ht hW)⟩, hS.F ht⟩) hS.2.2 dX6_tunnel_23
