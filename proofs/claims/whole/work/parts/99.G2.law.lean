set_option maxRecDepth 100000 in
theorem whole_perm {cy : Nat → ClassId} {cJ : ClassId} {a d : Nat → Nat} {o : Nat} {v : V_X6} {u : V_X7} {f : Nat → Int64} : (((rng 0 204 ++ rng 214 1) ++ rng 204 10).map (fun i => ((wX6 cy a v ++ wX7 cy d u) ++ cAJ cJ o f)[i]?)) = (wL cy cJ a o v f ++ wX7 cy d u).map some := by
  refine xC_app rfl (xC_app rfl ?_ ?_) ?_
  · rw [List.append_assoc]
    exact xC_left wX6_len
  · exact xC_right (by rw [List.length_append, wX6_len, wX7_len]) rfl
  · exact xC_mid wX6_len wX7_len
theorem perm_nd : va_nd ((rng 0 204 ++ rng 214 1) ++ rng 204 10) = true := by decide +kernel
set_option maxHeartbeats 8000000 in
set_option maxRecDepth 100000 in
/-- THE LAW, from its entry -/
theorem whole_start {p : Program} {e : Env} {s : State} {m : MethodId} {below : List Frame} {meth : Method} {c : Code} (l : Launch) (hflags : l.flags = flags0) {b L : Nat} {xs : Nat → Int32} (hL : L ≤ 1536) (C0 : lw_At p s m meth c b L xs) : W p l e room_1 s m #[Value.ref b] below meth c s.heap [] 0 0 (lw_Z below #[Value.ref b] s) (entryFrame m ([Value.ref b] : List Value).toArray 9) := by
  obtain ⟨hx, hb, hr, hml, hown, hts0, hX, hbl, hlocks, hgv⟩ := id C0
  have hl9 : l.stackTraces = false := by
    unfold Launch.stackTraces
    rw [hflags]
    rfl
  obtain ⟨dC, dI, cy, cJ, hK⟩ := env_K hts0
  have hE := env_0 hgv hts0
  have hCE := env_c hts0
  have hts : ∀ w ∈ wsL_law, w.before #[Value.ref b] s = true := fun w h => hts0 w (wsL_law_in w h)
  have hA : ∀ q : Nat, s.heap.size ≤ q → lA s q := fun _ h => h
  have hKc := tysJ_sub hK
  have hS : va_S (lA s) s.heap s.heap [] := va_S.rf
  have hP : va_P (dC, dI) vwCl [] s.heap := xP_nil
  have hD : va_D (lA s) [] := xD_nil
  have hl := lv_entry ([.ref b]) (n := 9) (Nat.le_of_ble_eq_true rfl)
  rw [lg_entry_eq]
  generalize (lg_sl ([.ref b]) ++ List.replicate (9 - (lg_sl ([.ref b])).length) Slot.unset).toArray = ls at hl ⊢
  have hl : lv_has ls 9 [(0, .ref b)] := hl
  refine va_new (ci := 6) (fs := [.null, .null, .null, .null, .null, .null, .null, .int 0, .int 0]) (C := RX6) (T := TX6) (N := 9) hx hb hts inlX6 tyX6 tyX6_ok hown (hts0 (.classLink RL 8 RX6) (by decide +kernel)) (hts0 (.instantiable RX6 9) (by decide +kernel)) (hts0 (.initialized RX6) (by decide +kernel)) hKc hP hD hS hA rfl (fun j hj => by rcases (show j = 0 ∨ j = 1 ∨ j = 2 ∨ j = 3 ∨ j = 4 ∨ j = 5 ∨ j = 6 ∨ j = 7 ∨ j = 8 by omega) with rfl | rfl | rfl | rfl | rfl | rfl | rfl | rfl | rfl <;> rfl) (Nat.le_of_ble_eq_true rfl) (Nat.le_of_ble_eq_true rfl) dL_law_0 (fun q0 H hP hD hS => ?_)
  refine lv_dup hx hb dL_law_3 rfl ?_
  have hn9 : ([] : va_W).length = 0 := rfl
  have hC : (rng 0 1).map (fun i => (([] : va_W) ++ ([(q0, .inr (6, [.null, .null, .null, .null, .null, .null, .null, .int 0, .int 0]))] : va_W))[i]?) = ([(q0, .inr (6, [.null, .null, .null, .null, .null, .null, .null, .int 0, .int 0]))] : va_W).map some := xC_right hn9 rfl
  have hPc := xsubP hP hC
  have hDc := xsubD hD (rng_nd 1 0) hC
  have hFc := va_free (wc := [(q0, .inr (6, [.null, .null, .null, .null, .null, .null, .null, .int 0, .int 0]))]) hD hS hA (rng 0 1) hC
  refine va_callv (va_runI (As := []) (rest := [.ref q0]) ⟨hx, hb, hml, hown, hts⟩ (c_X6_init l dC dI cy q0 H.size) (cwI 0 hts gL_law_X6_init rfl rfl rfl (hts0 (.initialized RX6) (by decide +kernel)) (hts0 (.methodLink RL 84 yX6_init) (by decide +kernel)) (hts0 (.instanceMethod yX6_init) (by decide +kernel)) rfl (by decide +kernel) ⟨Nat.le_of_ble_eq_true rfl, Nat.le_of_ble_eq_true rfl⟩) ⟨preC_blind, preC_of hPc hKc hDc hCE⟩ rfl rfl hl.1 rfl (lv_room (Nat.le_of_ble_eq_true rfl)) dL_law_4 ⟨Nat.le_of_ble_eq_true rfl, Nat.le_of_ble_eq_true rfl⟩) hS (fun q _ h => hFc q h) hFc (fun a t H1 locs ht hvm h9 hB hz1 hk1 hS => ?_)
  obtain ⟨hP1, -, hD1⟩ := hB
  rw [ht] at hP1
  have h9 : a 0 = q0 := h9
  subst h9
  obtain ⟨hP, hD⟩ := xgrow hn9 hP hD hk1 hFc hP1 hD1
  generalize H1 = H at hP hS ⊢
  have hP : va_P (dC, dI) vwCl (wX6 cy a v0_X6) H := hP
  have hD : va_D (lA s) (wX6 cy a v0_X6) := hD
  refine lv_astore_n (lv' := [(1, .ref (a 0)), (0, .ref b)]) hx hb dL_law_7 rfl hl (by decide) rfl (fun ls hl => ?_)
  refine va_new (ci := 7) (fs := [.null, .null, .null, .int 0, .null, .int 0, .null, .int 0, .int 0, .null, .int 0, .int 0, .null, .null, .null, .long 0]) (C := RX7) (T := TX7) (N := 16) hx hb hts inlX7 tyX7 tyX7_ok hown (hts0 (.classLink RL 85 RX7) (by decide +kernel)) (hts0 (.instantiable RX7 16) (by decide +kernel)) (hts0 (.initialized RX7) (by decide +kernel)) hKc hP hD hS hA rfl (fun j hj => by rcases (show j = 0 ∨ j = 1 ∨ j = 2 ∨ j = 3 ∨ j = 4 ∨ j = 5 ∨ j = 6 ∨ j = 7 ∨ j = 8 ∨ j = 9 ∨ j = 10 ∨ j = 11 ∨ j = 12 ∨ j = 13 ∨ j = 14 ∨ j = 15 by omega) with rfl | rfl | rfl | rfl | rfl | rfl | rfl | rfl | rfl | rfl | rfl | rfl | rfl | rfl | rfl | rfl <;> rfl) (Nat.le_of_ble_eq_true rfl) (Nat.le_of_ble_eq_true rfl) dL_law_8 (fun q1 H hP hD hS => ?_)
  refine lv_dup hx hb dL_law_11 rfl ?_
  have hC : (rng 204 1).map (fun i => (wX6 cy a v0_X6 ++ ([(q1, .inr (7, [.null, .null, .null, .int 0, .null, .int 0, .null, .int 0, .int 0, .null, .int 0, .int 0, .null, .null, .null, .long 0]))] : va_W))[i]?) = ([(q1, .inr (7, [.null, .null, .null, .int 0, .null, .int 0, .null, .int 0, .int 0, .null, .int 0, .int 0, .null, .null, .null, .long 0]))] : va_W).map some := xC_right wX6_len rfl
  have hPc := xsubP hP hC
  have hDc := xsubD hD (rng_nd 1 204) hC
  have hFc := va_free (wc := [(q1, .inr (7, [.null, .null, .null, .int 0, .null, .int 0, .null, .int 0, .int 0, .null, .int 0, .int 0, .null, .null, .null, .long 0]))]) hD hS hA (rng 204 1) hC
  refine va_callv (va_runI (As := []) (rest := [.ref q1]) ⟨hx, hb, hml, hown, hts⟩ (c_X7_init l dC dI cy q1 H.size) (cwI 0 hts gL_law_X7_init rfl rfl rfl (hts0 (.initialized RX7) (by decide +kernel)) (hts0 (.methodLink RL 87 yX7_init) (by decide +kernel)) (hts0 (.instanceMethod yX7_init) (by decide +kernel)) rfl (by decide +kernel) ⟨Nat.le_of_ble_eq_true rfl, Nat.le_of_ble_eq_true rfl⟩) ⟨xPre_blind, xPre_of hPc hKc hDc⟩ rfl rfl hl.1 rfl (lv_room (Nat.le_of_ble_eq_true rfl)) dL_law_12 ⟨Nat.le_of_ble_eq_true rfl, Nat.le_of_ble_eq_true rfl⟩) hS (fun q _ h => hFc q h) hFc (fun d t H1 locs ht hvm h9 hB hz1 hk1 hS => ?_)
  obtain ⟨hP1, -, hD1⟩ := hB
  rw [ht] at hP1
  have h9 : d 0 = q1 := h9
  subst h9
  obtain ⟨hP, hD⟩ := xgrow wX6_len hP hD hk1 hFc hP1 hD1
  generalize H1 = H at hP hS ⊢
  refine lv_astore_n (lv' := [(2, .ref (d 0)), (1, .ref (a 0)), (0, .ref b)]) hx hb dL_law_15 rfl hl (by decide) rfl (fun ls hl => ?_)
  refine lv_iconst (v := 1) hx hb dL_law_16 (by decide) ?_
  refine va_newa (atype := .long) (ty := .long) (a0 := (1, .inr (.inl (fun _ => 0)))) hx hb (hts0 (.arrayClass .long) (by decide +kernel)) rfl hK hP hD hS hA (fun _ => rfl) (by decide) (by decide) (Nat.le_of_ble_eq_true rfl) (Nat.le_of_ble_eq_true rfl) (Nat.le_of_ble_eq_true rfl) dL_law_17 (fun o cA H hK9 hP hD hS => ?_)
  have ec : cA = cJ := xcy (i := 5) (j := 4) hK9 rfl rfl
  rw [ec] at hP hD
  have hC := whole_perm (cy := cy) (cJ := cJ) (a := a) (d := d) (o := o) (v := v0_X6) (u := v0_X7) (f := fun _ => 0)
  have hP2 := xsubP hP hC
  have hD2 := xsubD hD perm_nd hC
  refine lv_astore_n (lv' := [(3, .ref o), (2, .ref (d 0)), (1, .ref (a 0)), (0, .ref b)]) hx hb dL_law_19 rfl hl (by decide) rfl (fun ls hl => ?_)
  refine lv_iconst (v := 0) hx hb dL_law_20 (by decide) ?_
  refine lv_istore (lv' := [(4, .int 0), (3, .ref o), (2, .ref (d 0)), (1, .ref (a 0)), (0, .ref b)]) hx hb dL_law_21 hl (by decide) rfl (fun ls hl => ?_)
  refine W.widen (k := 215 + 2 * 0) (n := 34602 + 12 * 0) (Nat.le_of_ble_eq_true rfl) (Nat.le_of_ble_eq_true rfl) ?_
  exact law_loop hL C0 hl9 hK hE (by omega) (by omega) 513 0 v0_X6 v0_X7 (fun _ => 0) H _ ls (by omega) (by omega) inv0 hP2 hD2 hS (lv_sub hl [4, 3, 2, 1, 0] rfl)
