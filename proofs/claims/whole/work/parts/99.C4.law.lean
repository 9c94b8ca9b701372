def wK_ifDug (u : V_X7) (x1 x2 : Int32) (I : V_X6 → V_X7 → (Nat → Int64) → Prop) (k : Int32) (v : V_X6) (f : Nat → Int64) : Prop := wp_X7_ifDug u x1 x2 (fun b y_aside y_isHollow y_s y_thrown => wp_X7_thrown (y_s, y_aside, (X7_kept u), (X7_isKept u), (X7_saved u), (X7_savedMany u), (X7_text u), (X7_length u), y_thrown, (X7_joint u), (X7_position u), (X7_isWrong u), y_isHollow, (X7_sure u), (X7_away u), (X7_digested u)) (fun th => th = k ∧ (k = 0 → f (0 : Int32).toNatClampNeg = b.toInt64) ∧ I v (y_s, y_aside, (X7_kept u), (X7_isKept u), (X7_saved u), (X7_savedMany u), (X7_text u), (X7_length u), y_thrown, (X7_joint u), (X7_position u), (X7_isWrong u), y_isHollow, (X7_sure u), (X7_away u), (X7_digested u)) f))
def wk_ifDug (v : V_X6) (u : V_X7) (f : Nat → Int64) (x1 x2 : Int32) (I : V_X6 → V_X7 → (Nat → Int64) → Prop) : Prop := wp_X6_ifDug v x1 x2 (fun r z_spareR z_survey z_trial => wK_ifDug u x1 x2 I 0 ((X6_lawn v), (X6_snapshot v), z_trial, (X6_savedR v), (X6_saved v), (X6_text v), z_survey, (X6_paths v), (X6_snapshotTaken v), (X6_savedCount v), z_spareR) (vp_updL f (0 : Int32).toNatClampNeg r.toInt64)) (fun E => (E = eI ∧ wK_ifDug u x1 x2 I 1 v f) ∨ (E = eA ∧ wK_ifDug u x1 x2 I 2 v f))
set_option maxHeartbeats 4000000 in
set_option maxRecDepth 100000 in
theorem k_ifDug {p : Program} {l : Launch} {e : Env} {s : State} {m : MethodId} {below : List Frame} {meth : Method} {c : Code} {b L : Nat} {xs : Nat → Int32} (C0 : lw_At p s m meth c b L xs) (hl9 : l.stackTraces = false) {dC : Nat → ClassId} {dI : Nat → Nat → Nat} {cy : Nat → ClassId} {cJ : ClassId} (hK : va_K (dC, dI) vwCl (tysJ cy cJ) s) (hE : xEnvL (lA s) s s.heap) {a d : Nat → Nat} {o : Nat} {i : Int32} (h1 : vp_in (i + 1) L) (h2 : vp_in (i + 2) L) {cells slots : Nat} (hc : cells + 2 ≤ 601024) (hs : slots + 12 ≤ 7293034) {v : V_X6} {u : V_X7} {f : Nat → Int64} {H : Heap} {locs : List Loc} {ls : Array Slot} (hP : va_P (dC, dI) vwCl (wL cy cJ a o v f ++ wX7 cy d u) H) (hD : va_D (lA s) (wL cy cJ a o v f ++ wX7 cy d u)) (hS : va_S (lA s) s.heap H locs) (hl : lv_has ls 9 [(0, .ref b), (1, .ref (a 0)), (2, .ref (d 0)), (3, .ref o), (4, .int i)]) {I : V_X6 → V_X7 → (Nat → Int64) → Prop} (hq : wk_ifDug v u f (xs (i + 1).toNatClampNeg) (xs (i + 2).toNatClampNeg) I) (bk : BK p l e s m below meth c b dC dI cy cJ a d o i (cells + 2) (slots + 12) I) : W p l e room_1 s m #[Value.ref b] below meth c H locs cells slots (lw_Z below #[Value.ref b] s) (F0 m 1399 ls []) := by
  obtain ⟨hx, hb, hr, hml, hown, hts, hX, hbl, hlocks, hgv⟩ := C0
  have hts : ∀ w ∈ wsL_law, w.before #[Value.ref b] s = true := fun w h => hts w (wsL_law_in w h)
  have hA : ∀ q : Nat, s.heap.size ≤ q → lA s q := fun _ h => h
  have hbA : ¬ lA s b := Nat.not_le.mpr hbl
  have hKc := tysJ_sub hK
  unfold wk_ifDug at hq
  refine lv_aload_n hx hb dL_law_1399 rfl (lv_at hl 1 rfl) ?_
  refine lv_aload_n hx hb dL_law_1400 rfl (lv_at hl 0 rfl) ?_
  refine lv_iload hx hb dL_law_1401 (lv_at hl 4 rfl) ?_
  refine lv_iconst (v := 1) hx hb dL_law_1403 (by decide) ?_
  refine lv_iadd hx hb dL_law_1404 ?_
  refine va_sld hx hb hX hbl hbA hS h1 dL_law_1405 ?_
  refine lv_aload_n hx hb dL_law_1406 rfl (lv_at hl 0 rfl) ?_
  refine lv_iload hx hb dL_law_1407 (lv_at hl 4 rfl) ?_
  refine lv_iconst (v := 2) hx hb dL_law_1409 (by decide) ?_
  refine lv_iadd hx hb dL_law_1410 ?_
  refine va_sld hx hb hX hbl hbA hS h2 dL_law_1411 ?_
  refine lv_aload_n hx hb dL_law_1412 rfl (lv_at hl 3 rfl) ?_
  have hC : (rng 0 205).map (fun i => (wL cy cJ a o v f ++ wX7 cy d u)[i]?) = (wL cy cJ a o v f).map some := xC_left wL_len
  have hPc := xsubP hP hC
  have hDc := xsubD hD (rng_nd 205 0) hC
  have hFc := va_free (wc := wL cy cJ a o v f) hD hS hA (rng 0 205) hC
  refine vx_calli (vx_runSX (As := [.ref (a 0), .int (xs (i + 1).toNatClampNeg), .int (xs (i + 2).toNatClampNeg), .ref o]) (rest := []) ⟨hx, hb, hml, hown, hts⟩ (c_L_ifDug l dC dI cy cJ a o _ v f (xs (i + 1).toNatClampNeg) (xs (i + 2).toNatClampNeg) (wK_ifDug u (xs (i + 1).toNatClampNeg) (xs (i + 2).toNatClampNeg) I) hl9 hq) (vx_cwSW 4 hts gL_law_L_ifDug rfl rfl rfl (by decide +kernel) ⟨Nat.le_of_ble_eq_true rfl, Nat.le_of_ble_eq_true rfl⟩) ⟨preL_blind, preL_of hPc hK hDc hE hS hFc⟩ rfl rfl hl.1 rfl (lv_room (Nat.le_of_ble_eq_true rfl)) dL_law_1413 ⟨by show _ ≤ 601024; omega, by show _ ≤ 7293034; omega⟩) hS (fun q _ h => hFc q h) hFc (fun q _ h => hFc q h) (fun E ce q9 _ t H locs ht hvm _ hB hz1 hk1 hS hce hcv hcl => False.elim hB) (fun k5 u9 t H locs ht hvm hq hB hz1 hk1 hS => ?_)
  obtain ⟨v1, f1⟩ := u9
  obtain ⟨hP1, hD1⟩ := hB
  rw [ht] at hP1
  obtain ⟨hP, hD⟩ := xj hP hD (rng 0 205) (wL cy cJ a o v1 f1) (ws' := wL cy cJ a o v1 f1 ++ wX7 cy d u) hC wL_fst (xS_left wL_len wL_len) hk1 hFc hP1
  have hq : wK_ifDug u (xs (i + 1).toNatClampNeg) (xs (i + 2).toNatClampNeg) I k5 v1 f1 := hq
  unfold wK_ifDug at hq
  refine lv_istore (lv' := [(5, .int k5), (0, .ref b), (1, .ref (a 0)), (2, .ref (d 0)), (3, .ref o), (4, .int i)]) hx hb dL_law_1416 hl (by decide) rfl (fun ls hl => ?_)
  refine lv_aload_n hx hb dL_law_1418 rfl (lv_at hl 3 rfl) ?_
  refine lv_aload_n hx hb dL_law_1419 rfl (lv_at hl 1 rfl) ?_
  refine lv_iload hx hb dL_law_1420 (lv_at hl 5 rfl) ?_
  refine lv_iconst (v := 1) hx hb dL_law_1422 (by decide) ?_
  refine lv_iadd hx hb dL_law_1423 ?_
  refine va_sld hx hb hX hbl hbA hS h1 dL_law_1424 ?_
  refine lv_aload_n hx hb dL_law_1425 rfl (lv_at hl 1 rfl) ?_
  refine lv_iload hx hb dL_law_1426 (lv_at hl 5 rfl) ?_
  refine lv_iconst (v := 2) hx hb dL_law_1428 (by decide) ?_
  refine lv_iadd hx hb dL_law_1429 ?_
  refine va_sld hx hb hX hbl hbA hS h2 dL_law_1430 ?_
  have hC : (rng 205 10).map (fun i => (wL cy cJ a o v1 f1 ++ wX7 cy d u)[i]?) = (wX7 cy d u).map some := xC_right wL_len wX7_len
  have hPc := xsubP hP hC
  have hDc := xsubD hD (rng_nd 10 205) hC
  have hFc := va_free (wc := wX7 cy d u) hD hS hA (rng 205 10) hC
  refine va_calli (va_runV (As := [.int (xs (i + 1).toNatClampNeg), .int (xs (i + 2).toNatClampNeg)]) (rest := []) ⟨hx, hb, hml, hown, hts⟩ (c_X7_ifDug l dC dI cy d _ u (xs (i + 1).toNatClampNeg) (xs (i + 2).toNatClampNeg) _ hq) (cwV 2 hts gL_law_X7_ifDug rfl rfl rfl (by decide +kernel) ⟨Nat.le_of_ble_eq_true rfl, Nat.le_of_ble_eq_true rfl⟩) ⟨xPre_blind, va_recv hKc hPc (ci := 7) (q0 := 0) rfl rfl, xPre_of hPc hKc hDc⟩ rfl rfl hl.1 rfl (lv_room (Nat.le_of_ble_eq_true rfl)) dL_law_1431 ⟨by show _ ≤ 601024; omega, by show _ ≤ 7293034; omega⟩) hS (fun q _ h => hFc q h) hFc (fun r1431 u9 t H locs ht hvm hq hB hz1 hk1 hS => ?_)
  obtain ⟨hP1, -, hD1⟩ := hB
  obtain ⟨y1431_aside, y1431_isHollow, y1431_s, y1431_thrown⟩ := u9
  rw [ht] at hP1
  obtain ⟨hP, hD⟩ := xj hP hD (rng 205 10) (wX7 cy d (y1431_s, y1431_aside, (X7_kept u), (X7_isKept u), (X7_saved u), (X7_savedMany u), (X7_text u), (X7_length u), y1431_thrown, (X7_joint u), (X7_position u), (X7_isWrong u), y1431_isHollow, (X7_sure u), (X7_away u), (X7_digested u))) (ws' := wL cy cJ a o v1 f1 ++ wX7 cy d (y1431_s, y1431_aside, (X7_kept u), (X7_isKept u), (X7_saved u), (X7_savedMany u), (X7_text u), (X7_length u), y1431_thrown, (X7_joint u), (X7_position u), (X7_isWrong u), y1431_isHollow, (X7_sure u), (X7_away u), (X7_digested u))) hC wX7_fst (xS_right wL_len wX7_len wX7_len) hk1 hFc hP1
  have hq : wp_X7_thrown (y1431_s, y1431_aside, (X7_kept u), (X7_isKept u), (X7_saved u), (X7_savedMany u), (X7_text u), (X7_length u), y1431_thrown, (X7_joint u), (X7_position u), (X7_isWrong u), y1431_isHollow, (X7_sure u), (X7_away u), (X7_digested u)) (fun th => th = k5 ∧ (k5 = 0 → f1 (0 : Int32).toNatClampNeg = r1431.toInt64) ∧ I v1 (y1431_s, y1431_aside, (X7_kept u), (X7_isKept u), (X7_saved u), (X7_savedMany u), (X7_text u), (X7_length u), y1431_thrown, (X7_joint u), (X7_position u), (X7_isWrong u), y1431_isHollow, (X7_sure u), (X7_away u), (X7_digested u)) f1) := hq
  generalize (y1431_s, y1431_aside, (X7_kept u), (X7_isKept u), (X7_saved u), (X7_savedMany u), (X7_text u), (X7_length u), y1431_thrown, (X7_joint u), (X7_position u), (X7_isWrong u), y1431_isHollow, (X7_sure u), (X7_away u), (X7_digested u)) = u1431 at hP hD hq
  refine lv_istore (lv' := [(6, .int r1431), (5, .int k5), (0, .ref b), (1, .ref (a 0)), (2, .ref (d 0)), (3, .ref o), (4, .int i)]) hx hb dL_law_1434 hl (by decide) rfl (fun ls hl => ?_)
  refine lv_aload_n hx hb dL_law_1436 rfl (lv_at hl 4 rfl) ?_
  have hC : (rng 205 10).map (fun i => (wL cy cJ a o v1 f1 ++ wX7 cy d u1431)[i]?) = (wX7 cy d u1431).map some := xC_right wL_len wX7_len
  have hPc := xsubP hP hC
  have hDc := xsubD hD (rng_nd 10 205) hC
  have hFc := va_free (wc := wX7 cy d u1431) hD hS hA (rng 205 10) hC
  refine va_calli (va_runV (As := []) (rest := []) ⟨hx, hb, hml, hown, hts⟩ (c_X7_thrown l dC dI cy d _ u1431 _ hq) (cwV 0 hts gL_law_X7_thrown rfl rfl rfl (by decide +kernel) ⟨Nat.le_of_ble_eq_true rfl, Nat.le_of_ble_eq_true rfl⟩) ⟨xPre_blind, va_recv hKc hPc (ci := 7) (q0 := 0) rfl rfl, xPre_of hPc hKc hDc⟩ rfl rfl hl.1 rfl (lv_room (Nat.le_of_ble_eq_true rfl)) dL_law_1437 ⟨by show _ ≤ 601024; omega, by show _ ≤ 7293034; omega⟩) hS (fun q _ h => hFc q h) hFc (fun r1437 u9 t H locs ht hvm hq hB hz1 hk1 hS => ?_)
  obtain ⟨hP1, -, hD1⟩ := hB
  rw [ht] at hP1
  have hP : va_P (dC, dI) vwCl (wL cy cJ a o v1 f1 ++ wX7 cy d u1431) H := xj_keep hP hD (rng 205 10) hC hP1 hk1
  refine lv_iload hx hb dL_law_1440 (lv_at hl 1 rfl) ?_
  obtain ⟨e1, e2, e3⟩ := hq
  refine lv_icmp_eq (tgt := 1447) hx hb dL_law_1442 (by decide) (fun c1 => ?_) (fun c1 => absurd e1 c1)
  refine lv_iload hx hb dL_law_1447 (lv_at hl 1 rfl) ?_
  refine lv_if_ne (tgt := 1464) hx hb dL_law_1449 (by decide) (fun c2 => ?_) (fun c2 => ?_)
  · refine lv_goto (tgt := 1616) hx hb dL_law_1464 (by decide) ?_
    refine W.widen (k := cells + 2) (n := slots + 12) (by omega) (by omega) ?_
    exact bk _ _ _ _ _ ls e3 hP hD hS (lv_sub hl [2, 3, 4, 5, 6] rfl)
  · refine lv_aload_n hx hb dL_law_1452 rfl (lv_at hl 5 rfl) ?_
    refine lv_iconst (v := 0) hx hb dL_law_1453 (by decide) ?_
    refine va_lald hx hb hK hP 204 4 wL_J rfl vin01 dL_law_1454 ?_
    refine lv_iload hx hb dL_law_1455 (lv_at hl 0 rfl) ?_
    refine lv_i2l hx hb dL_law_1457 rfl ?_
    refine W.lcmp hx hb dL_law_1458 ?_
    refine lv_if_eq (tgt := 1464) hx hb dL_law_1459 (by decide) (fun c3 => ?_) (fun c3 => absurd (by rw [e2 c2]; exact lg_same _) c3)
    refine lv_goto (tgt := 1616) hx hb dL_law_1464 (by decide) ?_
    refine W.widen (k := cells + 2) (n := slots + 12) (by omega) (by omega) ?_
    exact bk _ _ _ _ _ ls e3 hP hD hS (lv_sub hl [2, 3, 4, 5, 6] rfl)
def wk_bestDig (v : V_X6) (u : V_X7) (f : Nat → Int64) (x1 x2 : Int32) (I : V_X6 → V_X7 → (Nat → Int64) → Prop) : Prop := wp_X6_bestDig v (fun r z_survey => wp_X7_bestDig u (fun b y_thrown => r = b ∧ I ((X6_lawn v), (X6_snapshot v), (X6_trial v), (X6_savedR v), (X6_saved v), (X6_text v), z_survey, (X6_paths v), (X6_snapshotTaken v), (X6_savedCount v), (X6_spareR v)) ((X7_s u), (X7_aside u), (X7_kept u), (X7_isKept u), (X7_saved u), (X7_savedMany u), (X7_text u), (X7_length u), y_thrown, (X7_joint u), (X7_position u), (X7_isWrong u), (X7_isHollow u), (X7_sure u), (X7_away u), (X7_digested u)) f))
set_option maxHeartbeats 4000000 in
set_option maxRecDepth 100000 in
theorem k_bestDig {p : Program} {l : Launch} {e : Env} {s : State} {m : MethodId} {below : List Frame} {meth : Method} {c : Code} {b L : Nat} {xs : Nat → Int32} (C0 : lw_At p s m meth c b L xs) (hl9 : l.stackTraces = false) {dC : Nat → ClassId} {dI : Nat → Nat → Nat} {cy : Nat → ClassId} {cJ : ClassId} (hK : va_K (dC, dI) vwCl (tysJ cy cJ) s) (hE : xEnvL (lA s) s s.heap) {a d : Nat → Nat} {o : Nat} {i : Int32} (h1 : vp_in (i + 1) L) (h2 : vp_in (i + 2) L) {cells slots : Nat} (hc : cells + 2 ≤ 601024) (hs : slots + 12 ≤ 7293034) {v : V_X6} {u : V_X7} {f : Nat → Int64} {H : Heap} {locs : List Loc} {ls : Array Slot} (hP : va_P (dC, dI) vwCl (wL cy cJ a o v f ++ wX7 cy d u) H) (hD : va_D (lA s) (wL cy cJ a o v f ++ wX7 cy d u)) (hS : va_S (lA s) s.heap H locs) (hl : lv_has ls 9 [(0, .ref b), (1, .ref (a 0)), (2, .ref (d 0)), (3, .ref o), (4, .int i)]) {I : V_X6 → V_X7 → (Nat → Int64) → Prop} (hq : wk_bestDig v u f (xs (i + 1).toNatClampNeg) (xs (i + 2).toNatClampNeg) I) (bk : BK p l e s m below meth c b dC dI cy cJ a d o i (cells + 2) (slots + 12) I) : W p l e room_1 s m #[Value.ref b] below meth c H locs cells slots (lw_Z below #[Value.ref b] s) (F0 m 1467 ls []) := by
  obtain ⟨hx, hb, hr, hml, hown, hts, hX, hbl, hlocks, hgv⟩ := C0
  have hts : ∀ w ∈ wsL_law, w.before #[Value.ref b] s = true := fun w h => hts w (wsL_law_in w h)
  have hA : ∀ q : Nat, s.heap.size ≤ q → lA s q := fun _ h => h
  have hbA : ¬ lA s b := Nat.not_le.mpr hbl
  have hKc := tysJ_sub hK
  unfold wk_bestDig at hq
  refine lv_aload_n hx hb dL_law_1467 rfl (lv_at hl 1 rfl) ?_
  have hC : (rng 0 204).map (fun i => (wL cy cJ a o v f ++ wX7 cy d u)[i]?) = (wX6 cy a v).map some := xC_X6
  have hPc := xsubP hP hC
  have hDc := xsubD hD (rng_nd 204 0) hC
  have hFc := va_free (wc := wX6 cy a v) hD hS hA (rng 0 204) hC
  refine va_calli (va_runV (As := []) (rest := []) ⟨hx, hb, hml, hown, hts⟩ (c_X6_bestDig l dC dI cy a _ v _ hq) (cwV 0 hts gL_law_X6_bestDig rfl rfl rfl (by decide +kernel) ⟨Nat.le_of_ble_eq_true rfl, Nat.le_of_ble_eq_true rfl⟩) ⟨xPre_blindE, va_recv hKc hPc (ci := 6) (q0 := 0) rfl rfl, xPre_ofE hPc hKc hDc hE.1.1 hS hFc⟩ rfl rfl hl.1 rfl (lv_room (Nat.le_of_ble_eq_true rfl)) dL_law_1468 ⟨by show _ ≤ 601024; omega, by show _ ≤ 7293034; omega⟩) hS (fun q _ h => hFc q h) hFc (fun r1468 u9 t H locs ht hvm hq hB hz1 hk1 hS => ?_)
  obtain ⟨hP1, -, hD1⟩ := hB
  obtain ⟨z_survey, rfl⟩ : ∃ z, z = u9 := ⟨_, rfl⟩
  rw [ht] at hP1
  obtain ⟨hP, hD⟩ := xj hP hD (rng 0 204) (wX6 cy a ((X6_lawn v), (X6_snapshot v), (X6_trial v), (X6_savedR v), (X6_saved v), (X6_text v), z_survey, (X6_paths v), (X6_snapshotTaken v), (X6_savedCount v), (X6_spareR v))) (ws' := wL cy cJ a o ((X6_lawn v), (X6_snapshot v), (X6_trial v), (X6_savedR v), (X6_saved v), (X6_text v), z_survey, (X6_paths v), (X6_snapshotTaken v), (X6_savedCount v), (X6_spareR v)) f ++ wX7 cy d u) hC wX6_fst xS_X6 hk1 hFc hP1
  have hq : wp_X7_bestDig u (fun b z_thrown => r1468 = b ∧ I ((X6_lawn v), (X6_snapshot v), (X6_trial v), (X6_savedR v), (X6_saved v), (X6_text v), z_survey, (X6_paths v), (X6_snapshotTaken v), (X6_savedCount v), (X6_spareR v)) ((X7_s u), (X7_aside u), (X7_kept u), (X7_isKept u), (X7_saved u), (X7_savedMany u), (X7_text u), (X7_length u), z_thrown, (X7_joint u), (X7_position u), (X7_isWrong u), (X7_isHollow u), (X7_sure u), (X7_away u), (X7_digested u)) f) := hq
  generalize ((X6_lawn v), (X6_snapshot v), (X6_trial v), (X6_savedR v), (X6_saved v), (X6_text v), z_survey, (X6_paths v), (X6_snapshotTaken v), (X6_savedCount v), (X6_spareR v)) = v1 at hP hD hq
  refine lv_aload_n hx hb dL_law_1471 rfl (lv_at hl 2 rfl) ?_
  have hC : (rng 205 10).map (fun i => (wL cy cJ a o v1 f ++ wX7 cy d u)[i]?) = (wX7 cy d u).map some := xC_right wL_len wX7_len
  have hPc := xsubP hP hC
  have hDc := xsubD hD (rng_nd 10 205) hC
  have hFc := va_free (wc := wX7 cy d u) hD hS hA (rng 205 10) hC
  refine va_calli (va_runV (As := []) (rest := [.int r1468]) ⟨hx, hb, hml, hown, hts⟩ (c_X7_bestDig l dC dI cy d _ u _ hq) (cwV 0 hts gL_law_X7_bestDig rfl rfl rfl (by decide +kernel) ⟨Nat.le_of_ble_eq_true rfl, Nat.le_of_ble_eq_true rfl⟩) ⟨xPre_blind, va_recv hKc hPc (ci := 7) (q0 := 0) rfl rfl, xPre_of hPc hKc hDc⟩ rfl rfl hl.1 rfl (lv_room (Nat.le_of_ble_eq_true rfl)) dL_law_1472 ⟨by show _ ≤ 601024; omega, by show _ ≤ 7293034; omega⟩) hS (fun q _ h => hFc q h) hFc (fun r1472 u9 t H locs ht hvm hq hB hz1 hk1 hS => ?_)
  obtain ⟨hP1, -, hD1⟩ := hB
  obtain ⟨y1472_thrown, rfl⟩ : ∃ z, z = u9 := ⟨_, rfl⟩
  rw [ht] at hP1
  obtain ⟨hP, hD⟩ := xj hP hD (rng 205 10) (wX7 cy d ((X7_s u), (X7_aside u), (X7_kept u), (X7_isKept u), (X7_saved u), (X7_savedMany u), (X7_text u), (X7_length u), y1472_thrown, (X7_joint u), (X7_position u), (X7_isWrong u), (X7_isHollow u), (X7_sure u), (X7_away u), (X7_digested u))) (ws' := wL cy cJ a o v1 f ++ wX7 cy d ((X7_s u), (X7_aside u), (X7_kept u), (X7_isKept u), (X7_saved u), (X7_savedMany u), (X7_text u), (X7_length u), y1472_thrown, (X7_joint u), (X7_position u), (X7_isWrong u), (X7_isHollow u), (X7_sure u), (X7_away u), (X7_digested u))) hC wX7_fst (xS_right wL_len wX7_len wX7_len) hk1 hFc hP1
  have hq : r1468 = r1472 ∧ I v1 ((X7_s u), (X7_aside u), (X7_kept u), (X7_isKept u), (X7_saved u), (X7_savedMany u), (X7_text u), (X7_length u), y1472_thrown, (X7_joint u), (X7_position u), (X7_isWrong u), (X7_isHollow u), (X7_sure u), (X7_away u), (X7_digested u)) f := hq
  generalize ((X7_s u), (X7_aside u), (X7_kept u), (X7_isKept u), (X7_saved u), (X7_savedMany u), (X7_text u), (X7_length u), y1472_thrown, (X7_joint u), (X7_position u), (X7_isWrong u), (X7_isHollow u), (X7_sure u), (X7_away u), (X7_digested u)) = u1472 at hP hD hq
  obtain ⟨e1, e3⟩ := hq
  refine lv_icmp_eq (tgt := 1616) hx hb dL_law_1475 (by decide) (fun c1 => ?_) (fun c1 => absurd e1 c1)
  refine W.widen (k := cells + 2) (n := slots + 12) (by omega) (by omega) ?_
  exact bk _ _ _ _ _ ls e3 hP hD hS (lv_sub hl [0, 1, 2, 3, 4] rfl)
def wK_ifPassed (u : V_X7) (x1 x2 : Int32) (I : V_X6 → V_X7 → (Nat → Int64) → Prop) (k : Int32) (v : V_X6) (f : Nat → Int64) : Prop := wp_X7_ifPassed u x1 x2 (fun b y_aside y_s y_thrown => wp_X7_thrown (y_s, y_aside, (X7_kept u), (X7_isKept u), (X7_saved u), (X7_savedMany u), (X7_text u), (X7_length u), y_thrown, (X7_joint u), (X7_position u), (X7_isWrong u), (X7_isHollow u), (X7_sure u), (X7_away u), (X7_digested u)) (fun th => th = k ∧ (k = 0 → f (0 : Int32).toNatClampNeg = b.toInt64) ∧ I v (y_s, y_aside, (X7_kept u), (X7_isKept u), (X7_saved u), (X7_savedMany u), (X7_text u), (X7_length u), y_thrown, (X7_joint u), (X7_position u), (X7_isWrong u), (X7_isHollow u), (X7_sure u), (X7_away u), (X7_digested u)) f))
def wk_ifPassed (v : V_X6) (u : V_X7) (f : Nat → Int64) (x1 x2 : Int32) (I : V_X6 → V_X7 → (Nat → Int64) → Prop) : Prop := wp_X6_ifPassed v x1 x2 (fun r z_spareR z_trial => wK_ifPassed u x1 x2 I 0 ((X6_lawn v), (X6_snapshot v), z_trial, (X6_savedR v), (X6_saved v), (X6_text v), (X6_survey v), (X6_paths v), (X6_snapshotTaken v), (X6_savedCount v), z_spareR) (vp_updL f (0 : Int32).toNatClampNeg r.toInt64)) (fun E => (E = eA ∧ wK_ifPassed u x1 x2 I 1 v f))
set_option maxHeartbeats 4000000 in
set_option maxRecDepth 100000 in
theorem k_ifPassed {p : Program} {l : Launch} {e : Env} {s : State} {m : MethodId} {below : List Frame} {meth : Method} {c : Code} {b L : Nat} {xs : Nat → Int32} (C0 : lw_At p s m meth c b L xs) (hl9 : l.stackTraces = false) {dC : Nat → ClassId} {dI : Nat → Nat → Nat} {cy : Nat → ClassId} {cJ : ClassId} (hK : va_K (dC, dI) vwCl (tysJ cy cJ) s) (hE : xEnvL (lA s) s s.heap) {a d : Nat → Nat} {o : Nat} {i : Int32} (h1 : vp_in (i + 1) L) (h2 : vp_in (i + 2) L) {cells slots : Nat} (hc : cells + 2 ≤ 601024) (hs : slots + 12 ≤ 7293034) {v : V_X6} {u : V_X7} {f : Nat → Int64} {H : Heap} {locs : List Loc} {ls : Array Slot} (hP : va_P (dC, dI) vwCl (wL cy cJ a o v f ++ wX7 cy d u) H) (hD : va_D (lA s) (wL cy cJ a o v f ++ wX7 cy d u)) (hS : va_S (lA s) s.heap H locs) (hl : lv_has ls 9 [(0, .ref b), (1, .ref (a 0)), (2, .ref (d 0)), (3, .ref o), (4, .int i)]) {I : V_X6 → V_X7 → (Nat → Int64) → Prop} (hq : wk_ifPassed v u f (xs (i + 1).toNatClampNeg) (xs (i + 2).toNatClampNeg) I) (bk : BK p l e s m below meth c b dC dI cy cJ a d o i (cells + 2) (slots + 12) I) : W p l e room_1 s m #[Value.ref b] below meth c H locs cells slots (lw_Z below #[Value.ref b] s) (F0 m 1480 ls []) := by
  obtain ⟨hx, hb, hr, hml, hown, hts, hX, hbl, hlocks, hgv⟩ := C0
  have hts : ∀ w ∈ wsL_law, w.before #[Value.ref b] s = true := fun w h => hts w (wsL_law_in w h)
  have hA : ∀ q : Nat, s.heap.size ≤ q → lA s q := fun _ h => h
  have hbA : ¬ lA s b := Nat.not_le.mpr hbl
  have hKc := tysJ_sub hK
  unfold wk_ifPassed at hq
  refine lv_aload_n hx hb dL_law_1480 rfl (lv_at hl 1 rfl) ?_
  refine lv_aload_n hx hb dL_law_1481 rfl (lv_at hl 0 rfl) ?_
  refine lv_iload hx hb dL_law_1482 (lv_at hl 4 rfl) ?_
  refine lv_iconst (v := 1) hx hb dL_law_1484 (by decide) ?_
  refine lv_iadd hx hb dL_law_1485 ?_
  refine va_sld hx hb hX hbl hbA hS h1 dL_law_1486 ?_
  refine lv_aload_n hx hb dL_law_1487 rfl (lv_at hl 0 rfl) ?_
  refine lv_iload hx hb dL_law_1488 (lv_at hl 4 rfl) ?_
  refine lv_iconst (v := 2) hx hb dL_law_1490 (by decide) ?_
  refine lv_iadd hx hb dL_law_1491 ?_
  refine va_sld hx hb hX hbl hbA hS h2 dL_law_1492 ?_
  refine lv_aload_n hx hb dL_law_1493 rfl (lv_at hl 3 rfl) ?_
  have hC : (rng 0 205).map (fun i => (wL cy cJ a o v f ++ wX7 cy d u)[i]?) = (wL cy cJ a o v f).map some := xC_left wL_len
  have hPc := xsubP hP hC
  have hDc := xsubD hD (rng_nd 205 0) hC
  have hFc := va_free (wc := wL cy cJ a o v f) hD hS hA (rng 0 205) hC
  refine vx_calli (vx_runSX (As := [.ref (a 0), .int (xs (i + 1).toNatClampNeg), .int (xs (i + 2).toNatClampNeg), .ref o]) (rest := []) ⟨hx, hb, hml, hown, hts⟩ (c_L_ifPassed l dC dI cy cJ a o _ v f (xs (i + 1).toNatClampNeg) (xs (i + 2).toNatClampNeg) (wK_ifPassed u (xs (i + 1).toNatClampNeg) (xs (i + 2).toNatClampNeg) I) hl9 hq) (vx_cwSW 4 hts gL_law_L_ifPassed rfl rfl rfl (by decide +kernel) ⟨Nat.le_of_ble_eq_true rfl, Nat.le_of_ble_eq_true rfl⟩) ⟨preL_blind, preL_of hPc hK hDc hE hS hFc⟩ rfl rfl hl.1 rfl (lv_room (Nat.le_of_ble_eq_true rfl)) dL_law_1494 ⟨by show _ ≤ 601024; omega, by show _ ≤ 7293034; omega⟩) hS (fun q _ h => hFc q h) hFc (fun q _ h => hFc q h) (fun E ce q9 _ t H locs ht hvm _ hB hz1 hk1 hS hce hcv hcl => False.elim hB) (fun k5 u9 t H locs ht hvm hq hB hz1 hk1 hS => ?_)
  obtain ⟨v1, f1⟩ := u9
  obtain ⟨hP1, hD1⟩ := hB
  rw [ht] at hP1
  obtain ⟨hP, hD⟩ := xj hP hD (rng 0 205) (wL cy cJ a o v1 f1) (ws' := wL cy cJ a o v1 f1 ++ wX7 cy d u) hC wL_fst (xS_left wL_len wL_len) hk1 hFc hP1
  have hq : wK_ifPassed u (xs (i + 1).toNatClampNeg) (xs (i + 2).toNatClampNeg) I k5 v1 f1 := hq
  unfold wK_ifPassed at hq
  refine lv_istore (lv' := [(5, .int k5), (0, .ref b), (1, .ref (a 0)), (2, .ref (d 0)), (3, .ref o), (4, .int i)]) hx hb dL_law_1497 hl (by decide) rfl (fun ls hl => ?_)
  refine lv_aload_n hx hb dL_law_1499 rfl (lv_at hl 3 rfl) ?_
  refine lv_aload_n hx hb dL_law_1500 rfl (lv_at hl 1 rfl) ?_
  refine lv_iload hx hb dL_law_1501 (lv_at hl 5 rfl) ?_
  refine lv_iconst (v := 1) hx hb dL_law_1503 (by decide) ?_
  refine lv_iadd hx hb dL_law_1504 ?_
  refine va_sld hx hb hX hbl hbA hS h1 dL_law_1505 ?_
  refine lv_aload_n hx hb dL_law_1506 rfl (lv_at hl 1 rfl) ?_
  refine lv_iload hx hb dL_law_1507 (lv_at hl 5 rfl) ?_
  refine lv_iconst (v := 2) hx hb dL_law_1509 (by decide) ?_
  refine lv_iadd hx hb dL_law_1510 ?_
  refine va_sld hx hb hX hbl hbA hS h2 dL_law_1511 ?_
  have hC : (rng 205 10).map (fun i => (wL cy cJ a o v1 f1 ++ wX7 cy d u)[i]?) = (wX7 cy d u).map some := xC_right wL_len wX7_len
  have hPc := xsubP hP hC
  have hDc := xsubD hD (rng_nd 10 205) hC
  have hFc := va_free (wc := wX7 cy d u) hD hS hA (rng 205 10) hC
  refine va_calli (va_runV (As := [.int (xs (i + 1).toNatClampNeg), .int (xs (i + 2).toNatClampNeg)]) (rest := []) ⟨hx, hb, hml, hown, hts⟩ (c_X7_ifPassed l dC dI cy d _ u (xs (i + 1).toNatClampNeg) (xs (i + 2).toNatClampNeg) _ hq) (cwV 2 hts gL_law_X7_ifPassed rfl rfl rfl (by decide +kernel) ⟨Nat.le_of_ble_eq_true rfl, Nat.le_of_ble_eq_true rfl⟩) ⟨xPre_blind, va_recv hKc hPc (ci := 7) (q0 := 0) rfl rfl, xPre_of hPc hKc hDc⟩ rfl rfl hl.1 rfl (lv_room (Nat.le_of_ble_eq_true rfl)) dL_law_1512 ⟨by show _ ≤ 601024; omega, by show _ ≤ 7293034; omega⟩) hS (fun q _ h => hFc q h) hFc (fun r1512 u9 t H locs ht hvm hq hB hz1 hk1 hS => ?_)
  obtain ⟨hP1, -, hD1⟩ := hB
  obtain ⟨y1512_aside, y1512_s, y1512_thrown⟩ := u9
  rw [ht] at hP1
  obtain ⟨hP, hD⟩ := xj hP hD (rng 205 10) (wX7 cy d (y1512_s, y1512_aside, (X7_kept u), (X7_isKept u), (X7_saved u), (X7_savedMany u), (X7_text u), (X7_length u), y1512_thrown, (X7_joint u), (X7_position u), (X7_isWrong u), (X7_isHollow u), (X7_sure u), (X7_away u), (X7_digested u))) (ws' := wL cy cJ a o v1 f1 ++ wX7 cy d (y1512_s, y1512_aside, (X7_kept u), (X7_isKept u), (X7_saved u), (X7_savedMany u), (X7_text u), (X7_length u), y1512_thrown, (X7_joint u), (X7_position u), (X7_isWrong u), (X7_isHollow u), (X7_sure u), (X7_away u), (X7_digested u))) hC wX7_fst (xS_right wL_len wX7_len wX7_len) hk1 hFc hP1
  have hq : wp_X7_thrown (y1512_s, y1512_aside, (X7_kept u), (X7_isKept u), (X7_saved u), (X7_savedMany u), (X7_text u), (X7_length u), y1512_thrown, (X7_joint u), (X7_position u), (X7_isWrong u), (X7_isHollow u), (X7_sure u), (X7_away u), (X7_digested u)) (fun th => th = k5 ∧ (k5 = 0 → f1 (0 : Int32).toNatClampNeg = r1512.toInt64) ∧ I v1 (y1512_s, y1512_aside, (X7_kept u), (X7_isKept u), (X7_saved u), (X7_savedMany u), (X7_text u), (X7_length u), y1512_thrown, (X7_joint u), (X7_position u), (X7_isWrong u), (X7_isHollow u), (X7_sure u), (X7_away u), (X7_digested u)) f1) := hq
  generalize (y1512_s, y1512_aside, (X7_kept u), (X7_isKept u), (X7_saved u), (X7_savedMany u), (X7_text u), (X7_length u), y1512_thrown, (X7_joint u), (X7_position u), (X7_isWrong u), (X7_isHollow u), (X7_sure u), (X7_away u), (X7_digested u)) = u1512 at hP hD hq
  refine lv_istore (lv' := [(6, .int r1512), (5, .int k5), (0, .ref b), (1, .ref (a 0)), (2, .ref (d 0)), (3, .ref o), (4, .int i)]) hx hb dL_law_1515 hl (by decide) rfl (fun ls hl => ?_)
  refine lv_aload_n hx hb dL_law_1517 rfl (lv_at hl 4 rfl) ?_
  have hC : (rng 205 10).map (fun i => (wL cy cJ a o v1 f1 ++ wX7 cy d u1512)[i]?) = (wX7 cy d u1512).map some := xC_right wL_len wX7_len
  have hPc := xsubP hP hC
  have hDc := xsubD hD (rng_nd 10 205) hC
  have hFc := va_free (wc := wX7 cy d u1512) hD hS hA (rng 205 10) hC
  refine va_calli (va_runV (As := []) (rest := []) ⟨hx, hb, hml, hown, hts⟩ (c_X7_thrown l dC dI cy d _ u1512 _ hq) (cwV 0 hts gL_law_X7_thrown rfl rfl rfl (by decide +kernel) ⟨Nat.le_of_ble_eq_true rfl, Nat.le_of_ble_eq_true rfl⟩) ⟨xPre_blind, va_recv hKc hPc (ci := 7) (q0 := 0) rfl rfl, xPre_of hPc hKc hDc⟩ rfl rfl hl.1 rfl (lv_room (Nat.le_of_ble_eq_true rfl)) dL_law_1518 ⟨by show _ ≤ 601024; omega, by show _ ≤ 7293034; omega⟩) hS (fun q _ h => hFc q h) hFc (fun r1518 u9 t H locs ht hvm hq hB hz1 hk1 hS => ?_)
  obtain ⟨hP1, -, hD1⟩ := hB
  rw [ht] at hP1
  have hP : va_P (dC, dI) vwCl (wL cy cJ a o v1 f1 ++ wX7 cy d u1512) H := xj_keep hP hD (rng 205 10) hC hP1 hk1
  refine lv_iload hx hb dL_law_1521 (lv_at hl 1 rfl) ?_
  obtain ⟨e1, e2, e3⟩ := hq
  refine lv_icmp_eq (tgt := 1528) hx hb dL_law_1523 (by decide) (fun c1 => ?_) (fun c1 => absurd e1 c1)
  refine lv_iload hx hb dL_law_1528 (lv_at hl 1 rfl) ?_
  refine lv_if_ne (tgt := 1545) hx hb dL_law_1530 (by decide) (fun c2 => ?_) (fun c2 => ?_)
  · refine lv_goto (tgt := 1616) hx hb dL_law_1545 (by decide) ?_
    refine W.widen (k := cells + 2) (n := slots + 12) (by omega) (by omega) ?_
    exact bk _ _ _ _ _ ls e3 hP hD hS (lv_sub hl [2, 3, 4, 5, 6] rfl)
  · refine lv_aload_n hx hb dL_law_1533 rfl (lv_at hl 5 rfl) ?_
    refine lv_iconst (v := 0) hx hb dL_law_1534 (by decide) ?_
    refine va_lald hx hb hK hP 204 4 wL_J rfl vin01 dL_law_1535 ?_
    refine lv_iload hx hb dL_law_1536 (lv_at hl 0 rfl) ?_
    refine lv_i2l hx hb dL_law_1538 rfl ?_
    refine W.lcmp hx hb dL_law_1539 ?_
    refine lv_if_eq (tgt := 1545) hx hb dL_law_1540 (by decide) (fun c3 => ?_) (fun c3 => absurd (by rw [e2 c2]; exact lg_same _) c3)
    refine lv_goto (tgt := 1616) hx hb dL_law_1545 (by decide) ?_
    refine W.widen (k := cells + 2) (n := slots + 12) (by omega) (by omega) ?_
    exact bk _ _ _ _ _ ls e3 hP hD hS (lv_sub hl [2, 3, 4, 5, 6] rfl)
def wk_nextMound (v : V_X6) (u : V_X7) (f : Nat → Int64) (x1 x2 : Int32) (I : V_X6 → V_X7 → (Nat → Int64) → Prop) : Prop := wp_X6_nextMound v (fun r z_spareR z_trial => wp_X7_nextMound u (fun b y_aside y_s y_thrown => r = b ∧ I ((X6_lawn v), (X6_snapshot v), z_trial, (X6_savedR v), (X6_saved v), (X6_text v), (X6_survey v), (X6_paths v), (X6_snapshotTaken v), (X6_savedCount v), z_spareR) (y_s, y_aside, (X7_kept u), (X7_isKept u), (X7_saved u), (X7_savedMany u), (X7_text u), (X7_length u), y_thrown, (X7_joint u), (X7_position u), (X7_isWrong u), (X7_isHollow u), (X7_sure u), (X7_away u), (X7_digested u)) f))
set_option maxHeartbeats 4000000 in
set_option maxRecDepth 100000 in
theorem k_nextMound {p : Program} {l : Launch} {e : Env} {s : State} {m : MethodId} {below : List Frame} {meth : Method} {c : Code} {b L : Nat} {xs : Nat → Int32} (C0 : lw_At p s m meth c b L xs) (hl9 : l.stackTraces = false) {dC : Nat → ClassId} {dI : Nat → Nat → Nat} {cy : Nat → ClassId} {cJ : ClassId} (hK : va_K (dC, dI) vwCl (tysJ cy cJ) s) (hE : xEnvL (lA s) s s.heap) {a d : Nat → Nat} {o : Nat} {i : Int32} (h1 : vp_in (i + 1) L) (h2 : vp_in (i + 2) L) {cells slots : Nat} (hc : cells + 2 ≤ 601024) (hs : slots + 12 ≤ 7293034) {v : V_X6} {u : V_X7} {f : Nat → Int64} {H : Heap} {locs : List Loc} {ls : Array Slot} (hP : va_P (dC, dI) vwCl (wL cy cJ a o v f ++ wX7 cy d u) H) (hD : va_D (lA s) (wL cy cJ a o v f ++ wX7 cy d u)) (hS : va_S (lA s) s.heap H locs) (hl : lv_has ls 9 [(0, .ref b), (1, .ref (a 0)), (2, .ref (d 0)), (3, .ref o), (4, .int i)]) {I : V_X6 → V_X7 → (Nat → Int64) → Prop} (hq : wk_nextMound v u f (xs (i + 1).toNatClampNeg) (xs (i + 2).toNatClampNeg) I) (bk : BK p l e s m below meth c b dC dI cy cJ a d o i (cells + 2) (slots + 12) I) : W p l e room_1 s m #[Value.ref b] below meth c H locs cells slots (lw_Z below #[Value.ref b] s) (F0 m 1548 ls []) := by
  obtain ⟨hx, hb, hr, hml, hown, hts, hX, hbl, hlocks, hgv⟩ := C0
  have hts : ∀ w ∈ wsL_law, w.before #[Value.ref b] s = true := fun w h => hts w (wsL_law_in w h)
  have hA : ∀ q : Nat, s.heap.size ≤ q → lA s q := fun _ h => h
  have hbA : ¬ lA s b := Nat.not_le.mpr hbl
  have hKc := tysJ_sub hK
  unfold wk_nextMound at hq
  refine lv_aload_n hx hb dL_law_1548 rfl (lv_at hl 1 rfl) ?_
  have hC : (rng 0 204).map (fun i => (wL cy cJ a o v f ++ wX7 cy d u)[i]?) = (wX6 cy a v).map some := xC_X6
  have hPc := xsubP hP hC
  have hDc := xsubD hD (rng_nd 204 0) hC
  have hFc := va_free (wc := wX6 cy a v) hD hS hA (rng 0 204) hC
  refine va_calli (va_runV (As := []) (rest := []) ⟨hx, hb, hml, hown, hts⟩ (c_X6_nextMound l dC dI cy a _ v _ hq) (cwV 0 hts gL_law_X6_nextMound rfl rfl rfl (by decide +kernel) ⟨Nat.le_of_ble_eq_true rfl, Nat.le_of_ble_eq_true rfl⟩) ⟨xPre_blindE, va_recv hKc hPc (ci := 6) (q0 := 0) rfl rfl, xPre_ofE hPc hKc hDc hE.1.1 hS hFc⟩ rfl rfl hl.1 rfl (lv_room (Nat.le_of_ble_eq_true rfl)) dL_law_1549 ⟨by show _ ≤ 601024; omega, by show _ ≤ 7293034; omega⟩) hS (fun q _ h => hFc q h) hFc (fun r1549 u9 t H locs ht hvm hq hB hz1 hk1 hS => ?_)
  obtain ⟨hP1, -, hD1⟩ := hB
  obtain ⟨z_spareR, z_trial⟩ := u9
  rw [ht] at hP1
  obtain ⟨hP, hD⟩ := xj hP hD (rng 0 204) (wX6 cy a ((X6_lawn v), (X6_snapshot v), z_trial, (X6_savedR v), (X6_saved v), (X6_text v), (X6_survey v), (X6_paths v), (X6_snapshotTaken v), (X6_savedCount v), z_spareR)) (ws' := wL cy cJ a o ((X6_lawn v), (X6_snapshot v), z_trial, (X6_savedR v), (X6_saved v), (X6_text v), (X6_survey v), (X6_paths v), (X6_snapshotTaken v), (X6_savedCount v), z_spareR) f ++ wX7 cy d u) hC wX6_fst xS_X6 hk1 hFc hP1
  have hq : wp_X7_nextMound u (fun b z_aside z_s z_thrown => r1549 = b ∧ I ((X6_lawn v), (X6_snapshot v), z_trial, (X6_savedR v), (X6_saved v), (X6_text v), (X6_survey v), (X6_paths v), (X6_snapshotTaken v), (X6_savedCount v), z_spareR) (z_s, z_aside, (X7_kept u), (X7_isKept u), (X7_saved u), (X7_savedMany u), (X7_text u), (X7_length u), z_thrown, (X7_joint u), (X7_position u), (X7_isWrong u), (X7_isHollow u), (X7_sure u), (X7_away u), (X7_digested u)) f) := hq
  generalize ((X6_lawn v), (X6_snapshot v), z_trial, (X6_savedR v), (X6_saved v), (X6_text v), (X6_survey v), (X6_paths v), (X6_snapshotTaken v), (X6_savedCount v), z_spareR) = v1 at hP hD hq
  refine lv_aload_n hx hb dL_law_1552 rfl (lv_at hl 2 rfl) ?_
  have hC : (rng 205 10).map (fun i => (wL cy cJ a o v1 f ++ wX7 cy d u)[i]?) = (wX7 cy d u).map some := xC_right wL_len wX7_len
  have hPc := xsubP hP hC
  have hDc := xsubD hD (rng_nd 10 205) hC
  have hFc := va_free (wc := wX7 cy d u) hD hS hA (rng 205 10) hC
  refine va_calli (va_runV (As := []) (rest := [.int r1549]) ⟨hx, hb, hml, hown, hts⟩ (c_X7_nextMound l dC dI cy d _ u _ hq) (cwV 0 hts gL_law_X7_nextMound rfl rfl rfl (by decide +kernel) ⟨Nat.le_of_ble_eq_true rfl, Nat.le_of_ble_eq_true rfl⟩) ⟨xPre_blind, va_recv hKc hPc (ci := 7) (q0 := 0) rfl rfl, xPre_of hPc hKc hDc⟩ rfl rfl hl.1 rfl (lv_room (Nat.le_of_ble_eq_true rfl)) dL_law_1553 ⟨by show _ ≤ 601024; omega, by show _ ≤ 7293034; omega⟩) hS (fun q _ h => hFc q h) hFc (fun r1553 u9 t H locs ht hvm hq hB hz1 hk1 hS => ?_)
  obtain ⟨hP1, -, hD1⟩ := hB
  obtain ⟨y1553_aside, y1553_s, y1553_thrown⟩ := u9
  rw [ht] at hP1
  obtain ⟨hP, hD⟩ := xj hP hD (rng 205 10) (wX7 cy d (y1553_s, y1553_aside, (X7_kept u), (X7_isKept u), (X7_saved u), (X7_savedMany u), (X7_text u), (X7_length u), y1553_thrown, (X7_joint u), (X7_position u), (X7_isWrong u), (X7_isHollow u), (X7_sure u), (X7_away u), (X7_digested u))) (ws' := wL cy cJ a o v1 f ++ wX7 cy d (y1553_s, y1553_aside, (X7_kept u), (X7_isKept u), (X7_saved u), (X7_savedMany u), (X7_text u), (X7_length u), y1553_thrown, (X7_joint u), (X7_position u), (X7_isWrong u), (X7_isHollow u), (X7_sure u), (X7_away u), (X7_digested u))) hC wX7_fst (xS_right wL_len wX7_len wX7_len) hk1 hFc hP1
  have hq : r1549 = r1553 ∧ I v1 (y1553_s, y1553_aside, (X7_kept u), (X7_isKept u), (X7_saved u), (X7_savedMany u), (X7_text u), (X7_length u), y1553_thrown, (X7_joint u), (X7_position u), (X7_isWrong u), (X7_isHollow u), (X7_sure u), (X7_away u), (X7_digested u)) f := hq
  generalize (y1553_s, y1553_aside, (X7_kept u), (X7_isKept u), (X7_saved u), (X7_savedMany u), (X7_text u), (X7_length u), y1553_thrown, (X7_joint u), (X7_position u), (X7_isWrong u), (X7_isHollow u), (X7_sure u), (X7_away u), (X7_digested u)) = u1553 at hP hD hq
  obtain ⟨e1, e3⟩ := hq
  refine lv_icmp_eq (tgt := 1616) hx hb dL_law_1556 (by decide) (fun c1 => ?_) (fun c1 => absurd e1 c1)
  refine W.widen (k := cells + 2) (n := slots + 12) (by omega) (by omega) ?_
  exact bk _ _ _ _ _ ls e3 hP hD hS (lv_sub hl [0, 1, 2, 3, 4] rfl)
def wk_hollowShare (v : V_X6) (u : V_X7) (f : Nat → Int64) (x1 x2 : Int32) (I : V_X6 → V_X7 → (Nat → Int64) → Prop) : Prop := wp_X6_hollowShare v (fun r z_survey => wp_X7_hollowShare u (fun b y_isHollow y_thrown => r = b ∧ I ((X6_lawn v), (X6_snapshot v), (X6_trial v), (X6_savedR v), (X6_saved v), (X6_text v), z_survey, (X6_paths v), (X6_snapshotTaken v), (X6_savedCount v), (X6_spareR v)) ((X7_s u), (X7_aside u), (X7_kept u), (X7_isKept u), (X7_saved u), (X7_savedMany u), (X7_text u), (X7_length u), y_thrown, (X7_joint u), (X7_position u), (X7_isWrong u), y_isHollow, (X7_sure u), (X7_away u), (X7_digested u)) f))
set_option maxHeartbeats 4000000 in
set_option maxRecDepth 100000 in
theorem k_hollowShare {p : Program} {l : Launch} {e : Env} {s : State} {m : MethodId} {below : List Frame} {meth : Method} {c : Code} {b L : Nat} {xs : Nat → Int32} (C0 : lw_At p s m meth c b L xs) (hl9 : l.stackTraces = false) {dC : Nat → ClassId} {dI : Nat → Nat → Nat} {cy : Nat → ClassId} {cJ : ClassId} (hK : va_K (dC, dI) vwCl (tysJ cy cJ) s) (hE : xEnvL (lA s) s s.heap) {a d : Nat → Nat} {o : Nat} {i : Int32} (h1 : vp_in (i + 1) L) (h2 : vp_in (i + 2) L) {cells slots : Nat} (hc : cells + 2 ≤ 601024) (hs : slots + 12 ≤ 7293034) {v : V_X6} {u : V_X7} {f : Nat → Int64} {H : Heap} {locs : List Loc} {ls : Array Slot} (hP : va_P (dC, dI) vwCl (wL cy cJ a o v f ++ wX7 cy d u) H) (hD : va_D (lA s) (wL cy cJ a o v f ++ wX7 cy d u)) (hS : va_S (lA s) s.heap H locs) (hl : lv_has ls 9 [(0, .ref b), (1, .ref (a 0)), (2, .ref (d 0)), (3, .ref o), (4, .int i)]) {I : V_X6 → V_X7 → (Nat → Int64) → Prop} (hq : wk_hollowShare v u f (xs (i + 1).toNatClampNeg) (xs (i + 2).toNatClampNeg) I) (bk : BK p l e s m below meth c b dC dI cy cJ a d o i (cells + 2) (slots + 12) I) : W p l e room_1 s m #[Value.ref b] below meth c H locs cells slots (lw_Z below #[Value.ref b] s) (F0 m 1561 ls []) := by
  obtain ⟨hx, hb, hr, hml, hown, hts, hX, hbl, hlocks, hgv⟩ := C0
  have hts : ∀ w ∈ wsL_law, w.before #[Value.ref b] s = true := fun w h => hts w (wsL_law_in w h)
  have hA : ∀ q : Nat, s.heap.size ≤ q → lA s q := fun _ h => h
  have hbA : ¬ lA s b := Nat.not_le.mpr hbl
  have hKc := tysJ_sub hK
  unfold wk_hollowShare at hq
  refine lv_aload_n hx hb dL_law_1561 rfl (lv_at hl 1 rfl) ?_
  have hC : (rng 0 204).map (fun i => (wL cy cJ a o v f ++ wX7 cy d u)[i]?) = (wX6 cy a v).map some := xC_X6
  have hPc := xsubP hP hC
  have hDc := xsubD hD (rng_nd 204 0) hC
  have hFc := va_free (wc := wX6 cy a v) hD hS hA (rng 0 204) hC
  refine va_calld (va_runV (As := []) (rest := []) ⟨hx, hb, hml, hown, hts⟩ (c_X6_hollowShare l dC dI cy a _ v _ hq) (cwV 0 hts gL_law_X6_hollowShare rfl rfl rfl (by decide +kernel) ⟨Nat.le_of_ble_eq_true rfl, Nat.le_of_ble_eq_true rfl⟩) ⟨xPre_blindE, va_recv hKc hPc (ci := 6) (q0 := 0) rfl rfl, xPre_ofE hPc hKc hDc hE.1.1 hS hFc⟩ rfl rfl hl.1 rfl (lv_room (Nat.le_of_ble_eq_true rfl)) dL_law_1562 ⟨by show _ ≤ 601024; omega, by show _ ≤ 7293034; omega⟩) hS (fun q _ h => hFc q h) hFc (fun r1562 u9 t H locs ht hvm hq hB hz1 hk1 hS => ?_)
  obtain ⟨hP1, -, hD1⟩ := hB
  obtain ⟨z_survey, rfl⟩ : ∃ z, z = u9 := ⟨_, rfl⟩
  rw [ht] at hP1
  obtain ⟨hP, hD⟩ := xj hP hD (rng 0 204) (wX6 cy a ((X6_lawn v), (X6_snapshot v), (X6_trial v), (X6_savedR v), (X6_saved v), (X6_text v), z_survey, (X6_paths v), (X6_snapshotTaken v), (X6_savedCount v), (X6_spareR v))) (ws' := wL cy cJ a o ((X6_lawn v), (X6_snapshot v), (X6_trial v), (X6_savedR v), (X6_saved v), (X6_text v), z_survey, (X6_paths v), (X6_snapshotTaken v), (X6_savedCount v), (X6_spareR v)) f ++ wX7 cy d u) hC wX6_fst xS_X6 hk1 hFc hP1
  have hq : wp_X7_hollowShare u (fun b z_isHollow z_thrown => r1562 = b ∧ I ((X6_lawn v), (X6_snapshot v), (X6_trial v), (X6_savedR v), (X6_saved v), (X6_text v), z_survey, (X6_paths v), (X6_snapshotTaken v), (X6_savedCount v), (X6_spareR v)) ((X7_s u), (X7_aside u), (X7_kept u), (X7_isKept u), (X7_saved u), (X7_savedMany u), (X7_text u), (X7_length u), z_thrown, (X7_joint u), (X7_position u), (X7_isWrong u), z_isHollow, (X7_sure u), (X7_away u), (X7_digested u)) f) := hq
  generalize ((X6_lawn v), (X6_snapshot v), (X6_trial v), (X6_savedR v), (X6_saved v), (X6_text v), z_survey, (X6_paths v), (X6_snapshotTaken v), (X6_savedCount v), (X6_spareR v)) = v1 at hP hD hq
  refine lv_dstore (lv' := [(5, .double r1562), (0, .ref b), (1, .ref (a 0)), (2, .ref (d 0)), (3, .ref o), (4, .int i)]) hx hb dL_law_1565 hl (by decide) rfl (fun ls hl => ?_)
  refine lv_aload_n hx hb dL_law_1567 rfl (lv_at hl 3 rfl) ?_
  have hC : (rng 205 10).map (fun i => (wL cy cJ a o v1 f ++ wX7 cy d u)[i]?) = (wX7 cy d u).map some := xC_right wL_len wX7_len
  have hPc := xsubP hP hC
  have hDc := xsubD hD (rng_nd 10 205) hC
  have hFc := va_free (wc := wX7 cy d u) hD hS hA (rng 205 10) hC
  refine va_calld (va_runV (As := []) (rest := []) ⟨hx, hb, hml, hown, hts⟩ (c_X7_hollowShare l dC dI cy d _ u _ hq) (cwV 0 hts gL_law_X7_hollowShare rfl rfl rfl (by decide +kernel) ⟨Nat.le_of_ble_eq_true rfl, Nat.le_of_ble_eq_true rfl⟩) ⟨xPre_blind, va_recv hKc hPc (ci := 7) (q0 := 0) rfl rfl, xPre_of hPc hKc hDc⟩ rfl rfl hl.1 rfl (lv_room (Nat.le_of_ble_eq_true rfl)) dL_law_1568 ⟨by show _ ≤ 601024; omega, by show _ ≤ 7293034; omega⟩) hS (fun q _ h => hFc q h) hFc (fun r1568 u9 t H locs ht hvm hq hB hz1 hk1 hS => ?_)
  obtain ⟨hP1, -, hD1⟩ := hB
  obtain ⟨y1568_isHollow, y1568_thrown⟩ := u9
  rw [ht] at hP1
  obtain ⟨hP, hD⟩ := xj hP hD (rng 205 10) (wX7 cy d ((X7_s u), (X7_aside u), (X7_kept u), (X7_isKept u), (X7_saved u), (X7_savedMany u), (X7_text u), (X7_length u), y1568_thrown, (X7_joint u), (X7_position u), (X7_isWrong u), y1568_isHollow, (X7_sure u), (X7_away u), (X7_digested u))) (ws' := wL cy cJ a o v1 f ++ wX7 cy d ((X7_s u), (X7_aside u), (X7_kept u), (X7_isKept u), (X7_saved u), (X7_savedMany u), (X7_text u), (X7_length u), y1568_thrown, (X7_joint u), (X7_position u), (X7_isWrong u), y1568_isHollow, (X7_sure u), (X7_away u), (X7_digested u))) hC wX7_fst (xS_right wL_len wX7_len wX7_len) hk1 hFc hP1
  have hq : r1562 = r1568 ∧ I v1 ((X7_s u), (X7_aside u), (X7_kept u), (X7_isKept u), (X7_saved u), (X7_savedMany u), (X7_text u), (X7_length u), y1568_thrown, (X7_joint u), (X7_position u), (X7_isWrong u), y1568_isHollow, (X7_sure u), (X7_away u), (X7_digested u)) f := hq
  generalize ((X7_s u), (X7_aside u), (X7_kept u), (X7_isKept u), (X7_saved u), (X7_savedMany u), (X7_text u), (X7_length u), y1568_thrown, (X7_joint u), (X7_position u), (X7_isWrong u), y1568_isHollow, (X7_sure u), (X7_away u), (X7_digested u)) = u1568 at hP hD hq
  refine lv_dstore (lv' := [(7, .double r1568), (5, .double r1562), (0, .ref b), (1, .ref (a 0)), (2, .ref (d 0)), (3, .ref o), (4, .int i)]) hx hb dL_law_1571 hl (by decide) rfl (fun ls hl => ?_)
  refine lv_dload hx hb dL_law_1573 (lv_at hl 1 rfl) ?_
  refine lv_dload hx hb dL_law_1575 (lv_at hl 0 rfl) ?_
  obtain ⟨e1, e3⟩ := hq
  subst e1
  refine lv_dcmp hx hb dL_law_1577 ?_
  refine lv_if_eq (tgt := 1599) hx hb dL_law_1578 (by decide) (fun c1 => ?_) (fun c1 => ?_)
  · refine lv_goto (tgt := 1616) hx hb dL_law_1599 (by decide) ?_
    refine W.widen (k := cells + 2) (n := slots + 12) (by omega) (by omega) ?_
    exact bk _ _ _ _ _ ls e3 hP hD hS (lv_sub hl [2, 3, 4, 5, 6] rfl)
  · refine lv_dload hx hb dL_law_1581 (lv_at hl 1 rfl) ?_
    refine lv_dload hx hb dL_law_1583 (lv_at hl 1 rfl) ?_
    refine lv_dcmp hx hb dL_law_1585 ?_
    refine lv_if_eq (tgt := 1597) hx hb dL_law_1586 (by decide) (fun c2 => absurd c2 c1) (fun _ => ?_)
    refine lv_dload hx hb dL_law_1589 (lv_at hl 0 rfl) ?_
    refine lv_dload hx hb dL_law_1591 (lv_at hl 0 rfl) ?_
    refine lv_dcmp hx hb dL_law_1593 ?_
    refine lv_if_ne (tgt := 1599) hx hb dL_law_1594 (by decide) (fun _ => ?_) (fun c2 => absurd c2 c1)
    refine lv_goto (tgt := 1616) hx hb dL_law_1599 (by decide) ?_
    refine W.widen (k := cells + 2) (n := slots + 12) (by omega) (by omega) ?_
    exact bk _ _ _ _ _ ls e3 hP hD hS (lv_sub hl [2, 3, 4, 5, 6] rfl)
def wk_digest (v : V_X6) (u : V_X7) (f : Nat → Int64) (x1 x2 : Int32) (I : V_X6 → V_X7 → (Nat → Int64) → Prop) : Prop := wp_X6_digest v (fun r z_paths z_spareR z_survey z_trial => wp_X7_digest u (fun b y_aside y_away y_digested y_isHollow y_s y_sure y_thrown => r = b ∧ I ((X6_lawn v), (X6_snapshot v), z_trial, (X6_savedR v), (X6_saved v), (X6_text v), z_survey, z_paths, (X6_snapshotTaken v), (X6_savedCount v), z_spareR) (y_s, y_aside, (X7_kept u), (X7_isKept u), (X7_saved u), (X7_savedMany u), (X7_text u), (X7_length u), y_thrown, (X7_joint u), (X7_position u), (X7_isWrong u), y_isHollow, y_sure, y_away, y_digested) f))
set_option maxHeartbeats 4000000 in
set_option maxRecDepth 100000 in
theorem k_digest {p : Program} {l : Launch} {e : Env} {s : State} {m : MethodId} {below : List Frame} {meth : Method} {c : Code} {b L : Nat} {xs : Nat → Int32} (C0 : lw_At p s m meth c b L xs) (hl9 : l.stackTraces = false) {dC : Nat → ClassId} {dI : Nat → Nat → Nat} {cy : Nat → ClassId} {cJ : ClassId} (hK : va_K (dC, dI) vwCl (tysJ cy cJ) s) (hE : xEnvL (lA s) s s.heap) {a d : Nat → Nat} {o : Nat} {i : Int32} (h1 : vp_in (i + 1) L) (h2 : vp_in (i + 2) L) {cells slots : Nat} (hc : cells + 2 ≤ 601024) (hs : slots + 12 ≤ 7293034) {v : V_X6} {u : V_X7} {f : Nat → Int64} {H : Heap} {locs : List Loc} {ls : Array Slot} (hP : va_P (dC, dI) vwCl (wL cy cJ a o v f ++ wX7 cy d u) H) (hD : va_D (lA s) (wL cy cJ a o v f ++ wX7 cy d u)) (hS : va_S (lA s) s.heap H locs) (hl : lv_has ls 9 [(0, .ref b), (1, .ref (a 0)), (2, .ref (d 0)), (3, .ref o), (4, .int i)]) {I : V_X6 → V_X7 → (Nat → Int64) → Prop} (hq : wk_digest v u f (xs (i + 1).toNatClampNeg) (xs (i + 2).toNatClampNeg) I) (bk : BK p l e s m below meth c b dC dI cy cJ a d o i (cells + 2) (slots + 12) I) : W p l e room_1 s m #[Value.ref b] below meth c H locs cells slots (lw_Z below #[Value.ref b] s) (F0 m 1602 ls []) := by
  obtain ⟨hx, hb, hr, hml, hown, hts, hX, hbl, hlocks, hgv⟩ := C0
  have hts : ∀ w ∈ wsL_law, w.before #[Value.ref b] s = true := fun w h => hts w (wsL_law_in w h)
  have hA : ∀ q : Nat, s.heap.size ≤ q → lA s q := fun _ h => h
  have hbA : ¬ lA s b := Nat.not_le.mpr hbl
  have hKc := tysJ_sub hK
  unfold wk_digest at hq
  refine lv_aload_n hx hb dL_law_1602 rfl (lv_at hl 1 rfl) ?_
  have hC : (rng 0 204).map (fun i => (wL cy cJ a o v f ++ wX7 cy d u)[i]?) = (wX6 cy a v).map some := xC_X6
  have hPc := xsubP hP hC
  have hDc := xsubD hD (rng_nd 204 0) hC
  have hFc := va_free (wc := wX6 cy a v) hD hS hA (rng 0 204) hC
  refine va_calll (va_runV (As := []) (rest := []) ⟨hx, hb, hml, hown, hts⟩ (c_X6_digest l dC dI cy a _ v _ hq) (cwV 0 hts gL_law_X6_digest rfl rfl rfl (by decide +kernel) ⟨Nat.le_of_ble_eq_true rfl, Nat.le_of_ble_eq_true rfl⟩) ⟨xPre_blindE, va_recv hKc hPc (ci := 6) (q0 := 0) rfl rfl, xPre_ofE hPc hKc hDc hE.1.1 hS hFc⟩ rfl rfl hl.1 rfl (lv_room (Nat.le_of_ble_eq_true rfl)) dL_law_1603 ⟨by show _ ≤ 601024; omega, by show _ ≤ 7293034; omega⟩) hS (fun q _ h => hFc q h) hFc (fun r1603 u9 t H locs ht hvm hq hB hz1 hk1 hS => ?_)
  obtain ⟨hP1, -, hD1⟩ := hB
  obtain ⟨z_paths, z_spareR, z_survey, z_trial⟩ := u9
  rw [ht] at hP1
  obtain ⟨hP, hD⟩ := xj hP hD (rng 0 204) (wX6 cy a ((X6_lawn v), (X6_snapshot v), z_trial, (X6_savedR v), (X6_saved v), (X6_text v), z_survey, z_paths, (X6_snapshotTaken v), (X6_savedCount v), z_spareR)) (ws' := wL cy cJ a o ((X6_lawn v), (X6_snapshot v), z_trial, (X6_savedR v), (X6_saved v), (X6_text v), z_survey, z_paths, (X6_snapshotTaken v), (X6_savedCount v), z_spareR) f ++ wX7 cy d u) hC wX6_fst xS_X6 hk1 hFc hP1
  have hq : wp_X7_digest u (fun b z_aside z_away z_digested z_isHollow z_s z_sure z_thrown => r1603 = b ∧ I ((X6_lawn v), (X6_snapshot v), z_trial, (X6_savedR v), (X6_saved v), (X6_text v), z_survey, z_paths, (X6_snapshotTaken v), (X6_savedCount v), z_spareR) (z_s, z_aside, (X7_kept u), (X7_isKept u), (X7_saved u), (X7_savedMany u), (X7_text u), (X7_length u), z_thrown, (X7_joint u), (X7_position u), (X7_isWrong u), z_isHollow, z_sure, z_away, z_digested) f) := hq
  generalize ((X6_lawn v), (X6_snapshot v), z_trial, (X6_savedR v), (X6_saved v), (X6_text v), z_survey, z_paths, (X6_snapshotTaken v), (X6_savedCount v), z_spareR) = v1 at hP hD hq
  refine lv_aload_n hx hb dL_law_1606 rfl (lv_at hl 2 rfl) ?_
  have hC : (rng 205 10).map (fun i => (wL cy cJ a o v1 f ++ wX7 cy d u)[i]?) = (wX7 cy d u).map some := xC_right wL_len wX7_len
  have hPc := xsubP hP hC
  have hDc := xsubD hD (rng_nd 10 205) hC
  have hFc := va_free (wc := wX7 cy d u) hD hS hA (rng 205 10) hC
  refine va_calll (va_runV (As := []) (rest := [.long r1603]) ⟨hx, hb, hml, hown, hts⟩ (c_X7_digest l dC dI cy d _ u _ hq) (cwV 0 hts gL_law_X7_digest rfl rfl rfl (by decide +kernel) ⟨Nat.le_of_ble_eq_true rfl, Nat.le_of_ble_eq_true rfl⟩) ⟨xPre_blind, va_recv hKc hPc (ci := 7) (q0 := 0) rfl rfl, xPre_of hPc hKc hDc⟩ rfl rfl hl.1 rfl (lv_room (Nat.le_of_ble_eq_true rfl)) dL_law_1607 ⟨by show _ ≤ 601024; omega, by show _ ≤ 7293034; omega⟩) hS (fun q _ h => hFc q h) hFc (fun r1607 u9 t H locs ht hvm hq hB hz1 hk1 hS => ?_)
  obtain ⟨hP1, -, hD1⟩ := hB
  obtain ⟨y1607_aside, y1607_away, y1607_digested, y1607_isHollow, y1607_s, y1607_sure, y1607_thrown⟩ := u9
  rw [ht] at hP1
  obtain ⟨hP, hD⟩ := xj hP hD (rng 205 10) (wX7 cy d (y1607_s, y1607_aside, (X7_kept u), (X7_isKept u), (X7_saved u), (X7_savedMany u), (X7_text u), (X7_length u), y1607_thrown, (X7_joint u), (X7_position u), (X7_isWrong u), y1607_isHollow, y1607_sure, y1607_away, y1607_digested)) (ws' := wL cy cJ a o v1 f ++ wX7 cy d (y1607_s, y1607_aside, (X7_kept u), (X7_isKept u), (X7_saved u), (X7_savedMany u), (X7_text u), (X7_length u), y1607_thrown, (X7_joint u), (X7_position u), (X7_isWrong u), y1607_isHollow, y1607_sure, y1607_away, y1607_digested)) hC wX7_fst (xS_right wL_len wX7_len wX7_len) hk1 hFc hP1
  have hq : r1603 = r1607 ∧ I v1 (y1607_s, y1607_aside, (X7_kept u), (X7_isKept u), (X7_saved u), (X7_savedMany u), (X7_text u), (X7_length u), y1607_thrown, (X7_joint u), (X7_position u), (X7_isWrong u), y1607_isHollow, y1607_sure, y1607_away, y1607_digested) f := hq
  generalize (y1607_s, y1607_aside, (X7_kept u), (X7_isKept u), (X7_saved u), (X7_savedMany u), (X7_text u), (X7_length u), y1607_thrown, (X7_joint u), (X7_position u), (X7_isWrong u), y1607_isHollow, y1607_sure, y1607_away, y1607_digested) = u1607 at hP hD hq
  obtain ⟨e1, e3⟩ := hq
  refine W.lcmp hx hb dL_law_1610 ?_
  refine lv_if_eq (tgt := 1616) hx hb dL_law_1611 (by decide) (fun c3 => ?_) (fun c3 => absurd (by rw [e1]; exact lg_same _) c3)
  refine W.widen (k := cells + 2) (n := slots + 12) (by omega) (by omega) ?_
  exact bk _ _ _ _ _ ls e3 hP hD hS (lv_sub hl [0, 1, 2, 3, 4] rfl)
