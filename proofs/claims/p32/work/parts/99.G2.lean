set_option maxHeartbeats 8000000 in
set_option maxRecDepth 100000 in
/-- THE LAW, from its entry -/
theorem whole_start {p : Program} {e : Env} {s : State} {m : MethodId} {below : List Frame} {meth : Method} {c : Code} (l : Launch) (hflags : l.flags = flags0) {b L : Nat} {xs : Nat → Int32} (hL : L ≤ 260) (C0 : lw_At p s m meth c b L xs) : W p l e room_1 s m #[Value.ref b] below meth c s.heap [] 0 0 (lw_Z below #[Value.ref b] s) (entryFrame m ([Value.ref b] : List Value).toArray 5) := by
  obtain ⟨hx, hb, hr, hml, hown, hts0, hX, hbl, hlocks, hgv⟩ := id C0
  obtain ⟨dC, dI, cy, hK⟩ := env_K hts0
  have hE := env_0 hgv hts0
  have hCE := env_c hts0
  have hts : ∀ w ∈ wsL_law, w.before #[Value.ref b] s = true := fun w h => hts0 w (wsL_law_in w h)
  have hA : ∀ q : Nat, s.heap.size ≤ q → lA s q := fun _ h => h
  have hbA : ¬ lA s b := Nat.not_le.mpr hbl
  have hS : va_S (lA s) s.heap s.heap [] := va_S.rf
  have hP : va_P (dC, dI) vwCl [] s.heap := xP_nil
  have hD : va_D (lA s) [] := xD_nil
  have hl := lv_entry ([.ref b]) (n := 5) (Nat.le_of_ble_eq_true rfl)
  rw [lg_entry_eq]
  generalize (lg_sl ([.ref b]) ++ List.replicate (5 - (lg_sl ([.ref b])).length) Slot.unset).toArray = ls at hl ⊢
  have hl : lv_has ls 5 [(0, .ref b)] := hl
  refine va_new (ci := 6) (fs := [.null, .null, .null, .null, .null, .null, .null, .int 0, .int 0]) (C := RX6) (T := TX6) (N := 9) hx hb hts inlX6 tyX6 tyX6_ok hown (hts0 (.classLink RL 10 RX6) (by decide +kernel)) (hts0 (.instantiable RX6 9) (by decide +kernel)) (hts0 (.initialized RX6) (by decide +kernel)) hK hP hD hS hA rfl (fun j hj => by rcases (show j = 0 ∨ j = 1 ∨ j = 2 ∨ j = 3 ∨ j = 4 ∨ j = 5 ∨ j = 6 ∨ j = 7 ∨ j = 8 by omega) with rfl | rfl | rfl | rfl | rfl | rfl | rfl | rfl | rfl <;> rfl) (Nat.le_of_ble_eq_true rfl) (Nat.le_of_ble_eq_true rfl) dL_law_0 (fun q0 H hP hD hS => ?_)
  refine lv_dup hx hb dL_law_3 rfl ?_
  have hn9 : ([] : va_W).length = 0 := rfl
  have hC : (rng 0 1).map (fun i => (([] : va_W) ++ ([(q0, .inr (6, [.null, .null, .null, .null, .null, .null, .null, .int 0, .int 0]))] : va_W))[i]?) = ([(q0, .inr (6, [.null, .null, .null, .null, .null, .null, .null, .int 0, .int 0]))] : va_W).map some := xC_right hn9 rfl
  have hPc := xsubP hP hC
  have hDc := xsubD hD (rng_nd 1 0) hC
  have hFc := va_free (wc := [(q0, .inr (6, [.null, .null, .null, .null, .null, .null, .null, .int 0, .int 0]))]) hD hS hA (rng 0 1) hC
  refine va_callv (va_runI (As := []) (rest := [.ref q0]) ⟨hx, hb, hml, hown, hts⟩ (c_X6_init l dC dI cy q0 H.size) (cwI 0 hts gL_law_X6_init rfl rfl rfl (hts0 (.initialized RX6) (by decide +kernel)) (hts0 (.methodLink RL 112 yX6_init) (by decide +kernel)) (hts0 (.instanceMethod yX6_init) (by decide +kernel)) rfl (by decide +kernel) ⟨Nat.le_of_ble_eq_true rfl, Nat.le_of_ble_eq_true rfl⟩) ⟨preC_blind, preC_of hPc hK hDc hCE⟩ rfl rfl hl.1 rfl (lv_room (Nat.le_of_ble_eq_true rfl)) dL_law_4 ⟨Nat.le_of_ble_eq_true rfl, Nat.le_of_ble_eq_true rfl⟩) hS (fun q _ h => hFc q h) hFc (fun a t H1 locs ht hvm h9 hB hz1 hk1 hS => ?_)
  obtain ⟨hP1, -, hD1⟩ := hB
  rw [ht] at hP1
  have h9 : a 0 = q0 := h9
  subst h9
  obtain ⟨hP, hD⟩ := xgrow hn9 hP hD hk1 hFc hP1 hD1
  generalize H1 = H at hP hS ⊢
  have hP : va_P (dC, dI) vwCl (wX6 cy a v0_X6) H := hP
  have hD : va_D (lA s) (wX6 cy a v0_X6) := hD
  refine lv_astore_n (lv' := [(1, .ref (a 0)), (0, .ref b)]) hx hb dL_law_7 rfl hl (by decide) rfl (fun ls hl => ?_)
  have hI := C0_W
  refine lv_aload_n hx hb dL_law_8 rfl (lv_at hl 0 rfl) ?_
  have hFc := xfree_same hS hA (ws := wX6 cy a v0_X6) hD
  have hq := s0_holds
  refine va_calli (va_runS (As := [.ref (a 0)]) (rest := []) ⟨hx, hb, hml, hown, hts⟩ (c_L_holds l dC dI cy a _ v0_X6 _ hq) (va_cwS 1 hts gL_law_L_holds rfl rfl rfl (by decide +kernel) ⟨Nat.le_of_ble_eq_true rfl, Nat.le_of_ble_eq_true rfl⟩) ⟨xPre_blindE, xPre_ofE hP hK hD hE hS hFc⟩ rfl rfl hl.1 rfl (lv_room (Nat.le_of_ble_eq_true rfl)) dL_law_9 ⟨by show _ ≤ 600172; omega, by show _ ≤ 7300668; omega⟩) hS (fun q _ h => hFc q h) hFc (fun r9 v9 t H locs ht hvm hq hB hz1 hk1 hS => ?_)
  obtain ⟨hP1, -, hD1⟩ := hB
  rw [ht] at hP1
  have hP : va_P (dC, dI) vwCl (wX6 cy a v9) H := hP1
  have hD : va_D (lA s) (wX6 cy a v9) := hD1.weaken (fun _ q _ h => hFc q.1 h)
  obtain ⟨e9, hI⟩ := (hq : r9 = 1 ∧ _)
  subst e9
  refine lv_if_eq (tgt := 36) hx hb dL_law_12 (by decide) (fun q => absurd q (by decide)) (fun _ => ?_)
  refine lv_aload_n hx hb dL_law_15 rfl (lv_at hl 0 rfl) ?_
  refine lv_bipush (v := 14) hx hb dL_law_16 (by decide) ?_
  have hFc := xfree_same hS hA (ws := wX6 cy a v9) hD
  have hq := s0_count hI
  refine va_calli (va_runV (As := [.int 14]) (rest := []) ⟨hx, hb, hml, hown, hts⟩ (co_X6_count l dC dI cy a _ v9 14 _ hq) (cwV 1 hts gL_law_X6_count rfl rfl rfl (by decide +kernel) ⟨Nat.le_of_ble_eq_true rfl, Nat.le_of_ble_eq_true rfl⟩) ⟨xPre_blindE, va_recv hK hP (ci := 6) (q0 := 0) rfl rfl, xPre_ofE hP hK hD hE hS hFc⟩ rfl rfl hl.1 rfl (lv_room (Nat.le_of_ble_eq_true rfl)) dL_law_18 ⟨by show _ ≤ 600172; omega, by show _ ≤ 7300668; omega⟩) hS (fun q _ h => hFc q h) hFc (fun r18 v18 t H locs ht hvm hq hB hz1 hk1 hS => ?_)
  obtain ⟨hP1, -, hD1⟩ := hB
  rw [ht] at hP1
  have hP : va_P (dC, dI) vwCl (wX6 cy a v18) H := hP1
  have hD : va_D (lA s) (wX6 cy a v18) := hD1.weaken (fun _ q _ h => hFc q.1 h)
  obtain ⟨e18, hI⟩ := (hq : r18 = 0 ∧ _)
  subst e18
  refine lv_if_ne (tgt := 36) hx hb dL_law_21 (by decide) (fun q => absurd rfl q) (fun _ => ?_)
  refine lv_aload_n hx hb dL_law_24 rfl (lv_at hl 0 rfl) ?_
  have hFc := xfree_same hS hA (ws := wX6 cy a v18) hD
  have hq := s0_next hI
  refine va_calli (va_runV (As := []) (rest := []) ⟨hx, hb, hml, hown, hts⟩ (co_X6_nextMound l dC dI cy a _ v18 _ hq) (cwV 0 hts gL_law_X6_nextMound rfl rfl rfl (by decide +kernel) ⟨Nat.le_of_ble_eq_true rfl, Nat.le_of_ble_eq_true rfl⟩) ⟨xPre_blindE, va_recv hK hP (ci := 6) (q0 := 0) rfl rfl, xPre_ofE hP hK hD hE hS hFc⟩ rfl rfl hl.1 rfl (lv_room (Nat.le_of_ble_eq_true rfl)) dL_law_25 ⟨by show _ ≤ 600172; omega, by show _ ≤ 7300668; omega⟩) hS (fun q _ h => hFc q h) hFc (fun r25 v25 t H locs ht hvm hq hB hz1 hk1 hS => ?_)
  obtain ⟨hP1, -, hD1⟩ := hB
  rw [ht] at hP1
  have hP : va_P (dC, dI) vwCl (wX6 cy a v25) H := hP1
  have hD : va_D (lA s) (wX6 cy a v25) := hD1.weaken (fun _ q _ h => hFc q.1 h)
  obtain ⟨e25, hI⟩ := (hq : r25 = (-1) ∧ _)
  subst e25
  refine lv_iconst (v := (-1)) hx hb dL_law_28 (by decide) ?_
  refine lv_icmp_ne (tgt := 36) hx hb dL_law_29 (by decide) (fun q => absurd rfl q) (fun _ => ?_)
  refine lv_iconst (v := 1) hx hb dL_law_32 (by decide) ?_
  refine lv_goto (tgt := 37) hx hb dL_law_33 (by decide) ?_
  refine lv_istore_n (lv' := [(2, .int 1), (1, .ref (a 0)), (0, .ref b)]) hx hb dL_law_37 rfl hl (by decide) rfl (fun ls hl => ?_)
  refine lv_aload_n hx hb dL_law_38 rfl (lv_at hl 2 rfl) ?_
  refine va_slen hx hb hX hbl hbA hS dL_law_39 ?_
  refine lv_iconst (v := 2) hx hb dL_law_40 (by decide) ?_
  refine lv_idiv hx hb dL_law_41 (by decide) ?_
  refine lv_bipush (v := 30) hx hb dL_law_42 (by decide) ?_
  have e2 : (Int32.ofNat L / 2 : Int32) = nI (L / 2) := pk_div (a := L) (d := 2) (by omega) (by omega) (by omega)
  have start : ∀ (T : Nat) (ls : Array Slot), T ≤ 30 → lv_has ls 5 [(2, .int 1), (1, .ref (a 0)), (0, .ref b)] → W p l e room_1 s m #[Value.ref b] below meth c H locs (204 + 2) (20061 + 128) (lw_Z below #[Value.ref b] s) (F0 m 56 ls [.int (nI T)]) := by
    intro T ls hT hl
    refine lv_istore_n (lv' := [(3, .int (nI T)), (2, .int 1), (1, .ref (a 0)), (0, .ref b)]) hx hb dL_law_56 rfl hl (by decide) rfl (fun ls hl => ?_)
    refine lv_iconst (v := 0) hx hb dL_law_57 (by decide) ?_
    refine lv_istore (lv' := [(4, .int 0), (3, .int (nI T)), (2, .int 1), (1, .ref (a 0)), (0, .ref b)]) hx hb dL_law_58 hl (by decide) rfl (fun ls hl => ?_)
    exact law_loop hL C0 hK hE hT (T + 1) 0 v25 H _ ls (by omega) (by omega) hI hP hD hS hl
  refine lv_icmp_le (tgt := 52) hx hb dL_law_44 (by decide) (fun h9 => ?_) (fun h9 => ?_)
  · refine lv_aload_n hx hb dL_law_52 rfl (lv_at hl 2 rfl) ?_
    refine va_slen hx hb hX hbl hbA hS dL_law_53 ?_
    refine lv_iconst (v := 2) hx hb dL_law_54 (by decide) ?_
    refine lv_idiv hx hb dL_law_55 (by decide) ?_
    rw [e2]
    have h9 : nI (L / 2) ≤ nI 30 := by rw [← e2]; exact h9
    rw [nI_leI (by omega) (by omega)] at h9
    exact start (L / 2) ls h9 (lv_sub hl [0, 1, 2] rfl)
  · refine lv_bipush (v := 30) hx hb dL_law_47 (by decide) ?_
    refine lv_goto (tgt := 56) hx hb dL_law_49 (by decide) ?_
    exact start 30 ls (Nat.le_refl _) (lv_sub hl [0, 1, 2] rfl)
