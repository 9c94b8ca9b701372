def wK_set (u : V_X7) (x1 x2 : Int32) (I : V_X6 → V_X7 → (Nat → Int64) → Prop) (k : Int32) (v : V_X6) (f : Nat → Int64) : Prop := wp_X7_set u x1 (fun b y_s y_saved y_savedMany y_thrown => wp_X7_thrown (y_s, (X7_aside u), (X7_kept u), (X7_isKept u), y_saved, y_savedMany, (X7_text u), (X7_length u), y_thrown, (X7_joint u), (X7_position u), (X7_isWrong u), (X7_isHollow u), (X7_sure u), (X7_away u), (X7_digested u)) (fun th => th = k ∧ (k = 0 → f (0 : Int32).toNatClampNeg = b.toInt64) ∧ I v (y_s, (X7_aside u), (X7_kept u), (X7_isKept u), y_saved, y_savedMany, (X7_text u), (X7_length u), y_thrown, (X7_joint u), (X7_position u), (X7_isWrong u), (X7_isHollow u), (X7_sure u), (X7_away u), (X7_digested u)) f))
def wk_set (v : V_X6) (u : V_X7) (f : Nat → Int64) (x1 x2 : Int32) (I : V_X6 → V_X7 → (Nat → Int64) → Prop) : Prop := wp_X6_set v x1 (fun r z_lawn z_saved z_savedCount z_savedR => wK_set u x1 x2 I 0 (z_lawn, (X6_snapshot v), (X6_trial v), z_savedR, z_saved, (X6_text v), (X6_survey v), (X6_paths v), (X6_snapshotTaken v), z_savedCount, (X6_spareR v)) (vp_updL f (0 : Int32).toNatClampNeg r.toInt64)) (fun E => (E = eA ∧ wK_set u x1 x2 I 1 v f))
set_option maxHeartbeats 4000000 in
set_option maxRecDepth 100000 in
theorem k_set {p : Program} {l : Launch} {e : Env} {s : State} {m : MethodId} {below : List Frame} {meth : Method} {c : Code} {b L : Nat} {xs : Nat → Int32} (C0 : lw_At p s m meth c b L xs) (hl9 : l.stackTraces = false) {dC : Nat → ClassId} {dI : Nat → Nat → Nat} {cy : Nat → ClassId} {cJ : ClassId} (hK : va_K (dC, dI) vwCl (tysJ cy cJ) s) (hE : xEnvL (lA s) s s.heap) {a d : Nat → Nat} {o : Nat} {i : Int32} (h1 : vp_in (i + 1) L) (h2 : vp_in (i + 2) L) {cells slots : Nat} (hc : cells + 2 ≤ 601024) (hs : slots + 12 ≤ 7293034) {v : V_X6} {u : V_X7} {f : Nat → Int64} {H : Heap} {locs : List Loc} {ls : Array Slot} (hP : va_P (dC, dI) vwCl (wL cy cJ a o v f ++ wX7 cy d u) H) (hD : va_D (lA s) (wL cy cJ a o v f ++ wX7 cy d u)) (hS : va_S (lA s) s.heap H locs) (hl : lv_has ls 9 [(0, .ref b), (1, .ref (a 0)), (2, .ref (d 0)), (3, .ref o), (4, .int i)]) {I : V_X6 → V_X7 → (Nat → Int64) → Prop} (hq : wk_set v u f (xs (i + 1).toNatClampNeg) (xs (i + 2).toNatClampNeg) I) (bk : BK p l e s m below meth c b dC dI cy cJ a d o i (cells + 2) (slots + 12) I) : W p l e room_1 s m #[Value.ref b] below meth c H locs cells slots (lw_Z below #[Value.ref b] s) (F0 m 652 ls []) := by
  obtain ⟨hx, hb, hr, hml, hown, hts, hX, hbl, hlocks, hgv⟩ := C0
  have hts : ∀ w ∈ wsL_law, w.before #[Value.ref b] s = true := fun w h => hts w (wsL_law_in w h)
  have hA : ∀ q : Nat, s.heap.size ≤ q → lA s q := fun _ h => h
  have hbA : ¬ lA s b := Nat.not_le.mpr hbl
  have hKc := tysJ_sub hK
  unfold wk_set at hq
  refine lv_aload_n hx hb dL_law_652 rfl (lv_at hl 1 rfl) ?_
  refine lv_aload_n hx hb dL_law_653 rfl (lv_at hl 0 rfl) ?_
  refine lv_iload hx hb dL_law_654 (lv_at hl 4 rfl) ?_
  refine lv_iconst (v := 1) hx hb dL_law_656 (by decide) ?_
  refine lv_iadd hx hb dL_law_657 ?_
  refine va_sld hx hb hX hbl hbA hS h1 dL_law_658 ?_
  refine lv_aload_n hx hb dL_law_659 rfl (lv_at hl 3 rfl) ?_
  have hC : (rng 0 205).map (fun i => (wL cy cJ a o v f ++ wX7 cy d u)[i]?) = (wL cy cJ a o v f).map some := xC_left wL_len
  have hPc := xsubP hP hC
  have hDc := xsubD hD (rng_nd 205 0) hC
  have hFc := va_free (wc := wL cy cJ a o v f) hD hS hA (rng 0 205) hC
  refine vx_calli (vx_runSX (As := [.ref (a 0), .int (xs (i + 1).toNatClampNeg), .ref o]) (rest := []) ⟨hx, hb, hml, hown, hts⟩ (c_L_set l dC dI cy cJ a o _ v f (xs (i + 1).toNatClampNeg) (wK_set u (xs (i + 1).toNatClampNeg) (xs (i + 2).toNatClampNeg) I) hl9 hq) (vx_cwSW 3 hts gL_law_L_set rfl rfl rfl (by decide +kernel) ⟨Nat.le_of_ble_eq_true rfl, Nat.le_of_ble_eq_true rfl⟩) ⟨preL_blind, preL_of hPc hK hDc hE hS hFc⟩ rfl rfl hl.1 rfl (lv_room (Nat.le_of_ble_eq_true rfl)) dL_law_660 ⟨by show _ ≤ 601024; omega, by show _ ≤ 7293034; omega⟩) hS (fun q _ h => hFc q h) hFc (fun q _ h => hFc q h) (fun E ce q9 _ t H locs ht hvm _ hB hz1 hk1 hS hce hcv hcl => False.elim hB) (fun k5 u9 t H locs ht hvm hq hB hz1 hk1 hS => ?_)
  obtain ⟨v1, f1⟩ := u9
  obtain ⟨hP1, hD1⟩ := hB
  rw [ht] at hP1
  obtain ⟨hP, hD⟩ := xj hP hD (rng 0 205) (wL cy cJ a o v1 f1) (ws' := wL cy cJ a o v1 f1 ++ wX7 cy d u) hC wL_fst (xS_left wL_len wL_len) hk1 hFc hP1
  have hq : wK_set u (xs (i + 1).toNatClampNeg) (xs (i + 2).toNatClampNeg) I k5 v1 f1 := hq
  unfold wK_set at hq
  refine lv_istore (lv' := [(5, .int k5), (0, .ref b), (1, .ref (a 0)), (2, .ref (d 0)), (3, .ref o), (4, .int i)]) hx hb dL_law_663 hl (by decide) rfl (fun ls hl => ?_)
  refine lv_aload_n hx hb dL_law_665 rfl (lv_at hl 3 rfl) ?_
  refine lv_aload_n hx hb dL_law_666 rfl (lv_at hl 1 rfl) ?_
  refine lv_iload hx hb dL_law_667 (lv_at hl 5 rfl) ?_
  refine lv_iconst (v := 1) hx hb dL_law_669 (by decide) ?_
  refine lv_iadd hx hb dL_law_670 ?_
  refine va_sld hx hb hX hbl hbA hS h1 dL_law_671 ?_
  have hC : (rng 205 10).map (fun i => (wL cy cJ a o v1 f1 ++ wX7 cy d u)[i]?) = (wX7 cy d u).map some := xC_right wL_len wX7_len
  have hPc := xsubP hP hC
  have hDc := xsubD hD (rng_nd 10 205) hC
  have hFc := va_free (wc := wX7 cy d u) hD hS hA (rng 205 10) hC
  refine va_calli (va_runV (As := [.int (xs (i + 1).toNatClampNeg)]) (rest := []) ⟨hx, hb, hml, hown, hts⟩ (c_X7_set l dC dI cy d _ u (xs (i + 1).toNatClampNeg) _ hq) (cwV 1 hts gL_law_X7_set rfl rfl rfl (by decide +kernel) ⟨Nat.le_of_ble_eq_true rfl, Nat.le_of_ble_eq_true rfl⟩) ⟨xPre_blind, va_recv hKc hPc (ci := 7) (q0 := 0) rfl rfl, xPre_of hPc hKc hDc⟩ rfl rfl hl.1 rfl (lv_room (Nat.le_of_ble_eq_true rfl)) dL_law_672 ⟨by show _ ≤ 601024; omega, by show _ ≤ 7293034; omega⟩) hS (fun q _ h => hFc q h) hFc (fun r672 u9 t H locs ht hvm hq hB hz1 hk1 hS => ?_)
  obtain ⟨hP1, -, hD1⟩ := hB
  obtain ⟨y672_s, y672_saved, y672_savedMany, y672_thrown⟩ := u9
  rw [ht] at hP1
  obtain ⟨hP, hD⟩ := xj hP hD (rng 205 10) (wX7 cy d (y672_s, (X7_aside u), (X7_kept u), (X7_isKept u), y672_saved, y672_savedMany, (X7_text u), (X7_length u), y672_thrown, (X7_joint u), (X7_position u), (X7_isWrong u), (X7_isHollow u), (X7_sure u), (X7_away u), (X7_digested u))) (ws' := wL cy cJ a o v1 f1 ++ wX7 cy d (y672_s, (X7_aside u), (X7_kept u), (X7_isKept u), y672_saved, y672_savedMany, (X7_text u), (X7_length u), y672_thrown, (X7_joint u), (X7_position u), (X7_isWrong u), (X7_isHollow u), (X7_sure u), (X7_away u), (X7_digested u))) hC wX7_fst (xS_right wL_len wX7_len wX7_len) hk1 hFc hP1
  have hq : wp_X7_thrown (y672_s, (X7_aside u), (X7_kept u), (X7_isKept u), y672_saved, y672_savedMany, (X7_text u), (X7_length u), y672_thrown, (X7_joint u), (X7_position u), (X7_isWrong u), (X7_isHollow u), (X7_sure u), (X7_away u), (X7_digested u)) (fun th => th = k5 ∧ (k5 = 0 → f1 (0 : Int32).toNatClampNeg = r672.toInt64) ∧ I v1 (y672_s, (X7_aside u), (X7_kept u), (X7_isKept u), y672_saved, y672_savedMany, (X7_text u), (X7_length u), y672_thrown, (X7_joint u), (X7_position u), (X7_isWrong u), (X7_isHollow u), (X7_sure u), (X7_away u), (X7_digested u)) f1) := hq
  generalize (y672_s, (X7_aside u), (X7_kept u), (X7_isKept u), y672_saved, y672_savedMany, (X7_text u), (X7_length u), y672_thrown, (X7_joint u), (X7_position u), (X7_isWrong u), (X7_isHollow u), (X7_sure u), (X7_away u), (X7_digested u)) = u672 at hP hD hq
  refine lv_istore (lv' := [(6, .int r672), (5, .int k5), (0, .ref b), (1, .ref (a 0)), (2, .ref (d 0)), (3, .ref o), (4, .int i)]) hx hb dL_law_675 hl (by decide) rfl (fun ls hl => ?_)
  refine lv_aload_n hx hb dL_law_677 rfl (lv_at hl 4 rfl) ?_
  have hC : (rng 205 10).map (fun i => (wL cy cJ a o v1 f1 ++ wX7 cy d u672)[i]?) = (wX7 cy d u672).map some := xC_right wL_len wX7_len
  have hPc := xsubP hP hC
  have hDc := xsubD hD (rng_nd 10 205) hC
  have hFc := va_free (wc := wX7 cy d u672) hD hS hA (rng 205 10) hC
  refine va_calli (va_runV (As := []) (rest := []) ⟨hx, hb, hml, hown, hts⟩ (c_X7_thrown l dC dI cy d _ u672 _ hq) (cwV 0 hts gL_law_X7_thrown rfl rfl rfl (by decide +kernel) ⟨Nat.le_of_ble_eq_true rfl, Nat.le_of_ble_eq_true rfl⟩) ⟨xPre_blind, va_recv hKc hPc (ci := 7) (q0 := 0) rfl rfl, xPre_of hPc hKc hDc⟩ rfl rfl hl.1 rfl (lv_room (Nat.le_of_ble_eq_true rfl)) dL_law_678 ⟨by show _ ≤ 601024; omega, by show _ ≤ 7293034; omega⟩) hS (fun q _ h => hFc q h) hFc (fun r678 u9 t H locs ht hvm hq hB hz1 hk1 hS => ?_)
  obtain ⟨hP1, -, hD1⟩ := hB
  rw [ht] at hP1
  have hP : va_P (dC, dI) vwCl (wL cy cJ a o v1 f1 ++ wX7 cy d u672) H := xj_keep hP hD (rng 205 10) hC hP1 hk1
  refine lv_iload hx hb dL_law_681 (lv_at hl 1 rfl) ?_
  obtain ⟨e1, e2, e3⟩ := hq
  refine lv_icmp_eq (tgt := 688) hx hb dL_law_683 (by decide) (fun c1 => ?_) (fun c1 => absurd e1 c1)
  refine lv_iload hx hb dL_law_688 (lv_at hl 1 rfl) ?_
  refine lv_if_ne (tgt := 705) hx hb dL_law_690 (by decide) (fun c2 => ?_) (fun c2 => ?_)
  · refine lv_goto (tgt := 1616) hx hb dL_law_705 (by decide) ?_
    refine W.widen (k := cells + 2) (n := slots + 12) (by omega) (by omega) ?_
    exact bk _ _ _ _ _ ls e3 hP hD hS (lv_sub hl [2, 3, 4, 5, 6] rfl)
  · refine lv_aload_n hx hb dL_law_693 rfl (lv_at hl 5 rfl) ?_
    refine lv_iconst (v := 0) hx hb dL_law_694 (by decide) ?_
    refine va_lald hx hb hK hP 204 4 wL_J rfl vin01 dL_law_695 ?_
    refine lv_iload hx hb dL_law_696 (lv_at hl 0 rfl) ?_
    refine lv_i2l hx hb dL_law_698 rfl ?_
    refine W.lcmp hx hb dL_law_699 ?_
    refine lv_if_eq (tgt := 705) hx hb dL_law_700 (by decide) (fun c3 => ?_) (fun c3 => absurd (by rw [e2 c2]; exact lg_same _) c3)
    refine lv_goto (tgt := 1616) hx hb dL_law_705 (by decide) ?_
    refine W.widen (k := cells + 2) (n := slots + 12) (by omega) (by omega) ?_
    exact bk _ _ _ _ _ ls e3 hP hD hS (lv_sub hl [2, 3, 4, 5, 6] rfl)
def wK_append (u : V_X7) (x1 x2 : Int32) (I : V_X6 → V_X7 → (Nat → Int64) → Prop) (k : Int32) (v : V_X6) (f : Nat → Int64) : Prop := wp_X7_append u x1 (fun b y_length y_text y_thrown => wp_X7_thrown ((X7_s u), (X7_aside u), (X7_kept u), (X7_isKept u), (X7_saved u), (X7_savedMany u), y_text, y_length, y_thrown, (X7_joint u), (X7_position u), (X7_isWrong u), (X7_isHollow u), (X7_sure u), (X7_away u), (X7_digested u)) (fun th => th = k ∧ (k = 0 → f (0 : Int32).toNatClampNeg = b.toInt64) ∧ I v ((X7_s u), (X7_aside u), (X7_kept u), (X7_isKept u), (X7_saved u), (X7_savedMany u), y_text, y_length, y_thrown, (X7_joint u), (X7_position u), (X7_isWrong u), (X7_isHollow u), (X7_sure u), (X7_away u), (X7_digested u)) f))
def wk_append (v : V_X6) (u : V_X7) (f : Nat → Int64) (x1 x2 : Int32) (I : V_X6 → V_X7 → (Nat → Int64) → Prop) : Prop := wp_X6_append v x1 (fun r z_text => wK_append u x1 x2 I 0 ((X6_lawn v), (X6_snapshot v), (X6_trial v), (X6_savedR v), (X6_saved v), z_text, (X6_survey v), (X6_paths v), (X6_snapshotTaken v), (X6_savedCount v), (X6_spareR v)) (vp_updL f (0 : Int32).toNatClampNeg r.toInt64)) (fun E => (E = eA ∧ wK_append u x1 x2 I 1 v f) ∨ (E = eS ∧ wK_append u x1 x2 I 2 v f))
set_option maxHeartbeats 4000000 in
set_option maxRecDepth 100000 in
theorem k_append {p : Program} {l : Launch} {e : Env} {s : State} {m : MethodId} {below : List Frame} {meth : Method} {c : Code} {b L : Nat} {xs : Nat → Int32} (C0 : lw_At p s m meth c b L xs) (hl9 : l.stackTraces = false) {dC : Nat → ClassId} {dI : Nat → Nat → Nat} {cy : Nat → ClassId} {cJ : ClassId} (hK : va_K (dC, dI) vwCl (tysJ cy cJ) s) (hE : xEnvL (lA s) s s.heap) {a d : Nat → Nat} {o : Nat} {i : Int32} (h1 : vp_in (i + 1) L) (h2 : vp_in (i + 2) L) {cells slots : Nat} (hc : cells + 2 ≤ 601024) (hs : slots + 12 ≤ 7293034) {v : V_X6} {u : V_X7} {f : Nat → Int64} {H : Heap} {locs : List Loc} {ls : Array Slot} (hP : va_P (dC, dI) vwCl (wL cy cJ a o v f ++ wX7 cy d u) H) (hD : va_D (lA s) (wL cy cJ a o v f ++ wX7 cy d u)) (hS : va_S (lA s) s.heap H locs) (hl : lv_has ls 9 [(0, .ref b), (1, .ref (a 0)), (2, .ref (d 0)), (3, .ref o), (4, .int i)]) {I : V_X6 → V_X7 → (Nat → Int64) → Prop} (hq : wk_append v u f (xs (i + 1).toNatClampNeg) (xs (i + 2).toNatClampNeg) I) (bk : BK p l e s m below meth c b dC dI cy cJ a d o i (cells + 2) (slots + 12) I) : W p l e room_1 s m #[Value.ref b] below meth c H locs cells slots (lw_Z below #[Value.ref b] s) (F0 m 708 ls []) := by
  obtain ⟨hx, hb, hr, hml, hown, hts, hX, hbl, hlocks, hgv⟩ := C0
  have hts : ∀ w ∈ wsL_law, w.before #[Value.ref b] s = true := fun w h => hts w (wsL_law_in w h)
  have hA : ∀ q : Nat, s.heap.size ≤ q → lA s q := fun _ h => h
  have hbA : ¬ lA s b := Nat.not_le.mpr hbl
  have hKc := tysJ_sub hK
  unfold wk_append at hq
  refine lv_aload_n hx hb dL_law_708 rfl (lv_at hl 1 rfl) ?_
  refine lv_aload_n hx hb dL_law_709 rfl (lv_at hl 0 rfl) ?_
  refine lv_iload hx hb dL_law_710 (lv_at hl 4 rfl) ?_
  refine lv_iconst (v := 1) hx hb dL_law_712 (by decide) ?_
  refine lv_iadd hx hb dL_law_713 ?_
  refine va_sld hx hb hX hbl hbA hS h1 dL_law_714 ?_
  refine lv_aload_n hx hb dL_law_715 rfl (lv_at hl 3 rfl) ?_
  have hC : (rng 0 205).map (fun i => (wL cy cJ a o v f ++ wX7 cy d u)[i]?) = (wL cy cJ a o v f).map some := xC_left wL_len
  have hPc := xsubP hP hC
  have hDc := xsubD hD (rng_nd 205 0) hC
  have hFc := va_free (wc := wL cy cJ a o v f) hD hS hA (rng 0 205) hC
  refine vx_calli (vx_runSX (As := [.ref (a 0), .int (xs (i + 1).toNatClampNeg), .ref o]) (rest := []) ⟨hx, hb, hml, hown, hts⟩ (c_L_append l dC dI cy cJ a o _ v f (xs (i + 1).toNatClampNeg) (wK_append u (xs (i + 1).toNatClampNeg) (xs (i + 2).toNatClampNeg) I) hl9 hq) (vx_cwSW 3 hts gL_law_L_append rfl rfl rfl (by decide +kernel) ⟨Nat.le_of_ble_eq_true rfl, Nat.le_of_ble_eq_true rfl⟩) ⟨preL_blind, preL_of hPc hK hDc hE hS hFc⟩ rfl rfl hl.1 rfl (lv_room (Nat.le_of_ble_eq_true rfl)) dL_law_716 ⟨by show _ ≤ 601024; omega, by show _ ≤ 7293034; omega⟩) hS (fun q _ h => hFc q h) hFc (fun q _ h => hFc q h) (fun E ce q9 _ t H locs ht hvm _ hB hz1 hk1 hS hce hcv hcl => False.elim hB) (fun k5 u9 t H locs ht hvm hq hB hz1 hk1 hS => ?_)
  obtain ⟨v1, f1⟩ := u9
  obtain ⟨hP1, hD1⟩ := hB
  rw [ht] at hP1
  obtain ⟨hP, hD⟩ := xj hP hD (rng 0 205) (wL cy cJ a o v1 f1) (ws' := wL cy cJ a o v1 f1 ++ wX7 cy d u) hC wL_fst (xS_left wL_len wL_len) hk1 hFc hP1
  have hq : wK_append u (xs (i + 1).toNatClampNeg) (xs (i + 2).toNatClampNeg) I k5 v1 f1 := hq
  unfold wK_append at hq
  refine lv_istore (lv' := [(5, .int k5), (0, .ref b), (1, .ref (a 0)), (2, .ref (d 0)), (3, .ref o), (4, .int i)]) hx hb dL_law_719 hl (by decide) rfl (fun ls hl => ?_)
  refine lv_aload_n hx hb dL_law_721 rfl (lv_at hl 3 rfl) ?_
  refine lv_aload_n hx hb dL_law_722 rfl (lv_at hl 1 rfl) ?_
  refine lv_iload hx hb dL_law_723 (lv_at hl 5 rfl) ?_
  refine lv_iconst (v := 1) hx hb dL_law_725 (by decide) ?_
  refine lv_iadd hx hb dL_law_726 ?_
  refine va_sld hx hb hX hbl hbA hS h1 dL_law_727 ?_
  have hC : (rng 205 10).map (fun i => (wL cy cJ a o v1 f1 ++ wX7 cy d u)[i]?) = (wX7 cy d u).map some := xC_right wL_len wX7_len
  have hPc := xsubP hP hC
  have hDc := xsubD hD (rng_nd 10 205) hC
  have hFc := va_free (wc := wX7 cy d u) hD hS hA (rng 205 10) hC
  refine va_calli (va_runV (As := [.int (xs (i + 1).toNatClampNeg)]) (rest := []) ⟨hx, hb, hml, hown, hts⟩ (c_X7_append l dC dI cy d _ u (xs (i + 1).toNatClampNeg) _ hq) (cwV 1 hts gL_law_X7_append rfl rfl rfl (by decide +kernel) ⟨Nat.le_of_ble_eq_true rfl, Nat.le_of_ble_eq_true rfl⟩) ⟨xPre_blind, va_recv hKc hPc (ci := 7) (q0 := 0) rfl rfl, xPre_of hPc hKc hDc⟩ rfl rfl hl.1 rfl (lv_room (Nat.le_of_ble_eq_true rfl)) dL_law_728 ⟨by show _ ≤ 601024; omega, by show _ ≤ 7293034; omega⟩) hS (fun q _ h => hFc q h) hFc (fun r728 u9 t H locs ht hvm hq hB hz1 hk1 hS => ?_)
  obtain ⟨hP1, -, hD1⟩ := hB
  obtain ⟨y728_length, y728_text, y728_thrown⟩ := u9
  rw [ht] at hP1
  obtain ⟨hP, hD⟩ := xj hP hD (rng 205 10) (wX7 cy d ((X7_s u), (X7_aside u), (X7_kept u), (X7_isKept u), (X7_saved u), (X7_savedMany u), y728_text, y728_length, y728_thrown, (X7_joint u), (X7_position u), (X7_isWrong u), (X7_isHollow u), (X7_sure u), (X7_away u), (X7_digested u))) (ws' := wL cy cJ a o v1 f1 ++ wX7 cy d ((X7_s u), (X7_aside u), (X7_kept u), (X7_isKept u), (X7_saved u), (X7_savedMany u), y728_text, y728_length, y728_thrown, (X7_joint u), (X7_position u), (X7_isWrong u), (X7_isHollow u), (X7_sure u), (X7_away u), (X7_digested u))) hC wX7_fst (xS_right wL_len wX7_len wX7_len) hk1 hFc hP1
  have hq : wp_X7_thrown ((X7_s u), (X7_aside u), (X7_kept u), (X7_isKept u), (X7_saved u), (X7_savedMany u), y728_text, y728_length, y728_thrown, (X7_joint u), (X7_position u), (X7_isWrong u), (X7_isHollow u), (X7_sure u), (X7_away u), (X7_digested u)) (fun th => th = k5 ∧ (k5 = 0 → f1 (0 : Int32).toNatClampNeg = r728.toInt64) ∧ I v1 ((X7_s u), (X7_aside u), (X7_kept u), (X7_isKept u), (X7_saved u), (X7_savedMany u), y728_text, y728_length, y728_thrown, (X7_joint u), (X7_position u), (X7_isWrong u), (X7_isHollow u), (X7_sure u), (X7_away u), (X7_digested u)) f1) := hq
  generalize ((X7_s u), (X7_aside u), (X7_kept u), (X7_isKept u), (X7_saved u), (X7_savedMany u), y728_text, y728_length, y728_thrown, (X7_joint u), (X7_position u), (X7_isWrong u), (X7_isHollow u), (X7_sure u), (X7_away u), (X7_digested u)) = u728 at hP hD hq
  refine lv_istore (lv' := [(6, .int r728), (5, .int k5), (0, .ref b), (1, .ref (a 0)), (2, .ref (d 0)), (3, .ref o), (4, .int i)]) hx hb dL_law_731 hl (by decide) rfl (fun ls hl => ?_)
  refine lv_aload_n hx hb dL_law_733 rfl (lv_at hl 4 rfl) ?_
  have hC : (rng 205 10).map (fun i => (wL cy cJ a o v1 f1 ++ wX7 cy d u728)[i]?) = (wX7 cy d u728).map some := xC_right wL_len wX7_len
  have hPc := xsubP hP hC
  have hDc := xsubD hD (rng_nd 10 205) hC
  have hFc := va_free (wc := wX7 cy d u728) hD hS hA (rng 205 10) hC
  refine va_calli (va_runV (As := []) (rest := []) ⟨hx, hb, hml, hown, hts⟩ (c_X7_thrown l dC dI cy d _ u728 _ hq) (cwV 0 hts gL_law_X7_thrown rfl rfl rfl (by decide +kernel) ⟨Nat.le_of_ble_eq_true rfl, Nat.le_of_ble_eq_true rfl⟩) ⟨xPre_blind, va_recv hKc hPc (ci := 7) (q0 := 0) rfl rfl, xPre_of hPc hKc hDc⟩ rfl rfl hl.1 rfl (lv_room (Nat.le_of_ble_eq_true rfl)) dL_law_734 ⟨by show _ ≤ 601024; omega, by show _ ≤ 7293034; omega⟩) hS (fun q _ h => hFc q h) hFc (fun r734 u9 t H locs ht hvm hq hB hz1 hk1 hS => ?_)
  obtain ⟨hP1, -, hD1⟩ := hB
  rw [ht] at hP1
  have hP : va_P (dC, dI) vwCl (wL cy cJ a o v1 f1 ++ wX7 cy d u728) H := xj_keep hP hD (rng 205 10) hC hP1 hk1
  refine lv_iload hx hb dL_law_737 (lv_at hl 1 rfl) ?_
  obtain ⟨e1, e2, e3⟩ := hq
  refine lv_icmp_eq (tgt := 744) hx hb dL_law_739 (by decide) (fun c1 => ?_) (fun c1 => absurd e1 c1)
  refine lv_iload hx hb dL_law_744 (lv_at hl 1 rfl) ?_
  refine lv_if_ne (tgt := 761) hx hb dL_law_746 (by decide) (fun c2 => ?_) (fun c2 => ?_)
  · refine lv_goto (tgt := 1616) hx hb dL_law_761 (by decide) ?_
    refine W.widen (k := cells + 2) (n := slots + 12) (by omega) (by omega) ?_
    exact bk _ _ _ _ _ ls e3 hP hD hS (lv_sub hl [2, 3, 4, 5, 6] rfl)
  · refine lv_aload_n hx hb dL_law_749 rfl (lv_at hl 5 rfl) ?_
    refine lv_iconst (v := 0) hx hb dL_law_750 (by decide) ?_
    refine va_lald hx hb hK hP 204 4 wL_J rfl vin01 dL_law_751 ?_
    refine lv_iload hx hb dL_law_752 (lv_at hl 0 rfl) ?_
    refine lv_i2l hx hb dL_law_754 rfl ?_
    refine W.lcmp hx hb dL_law_755 ?_
    refine lv_if_eq (tgt := 761) hx hb dL_law_756 (by decide) (fun c3 => ?_) (fun c3 => absurd (by rw [e2 c2]; exact lg_same _) c3)
    refine lv_goto (tgt := 1616) hx hb dL_law_761 (by decide) ?_
    refine W.widen (k := cells + 2) (n := slots + 12) (by omega) (by omega) ?_
    exact bk _ _ _ _ _ ls e3 hP hD hS (lv_sub hl [2, 3, 4, 5, 6] rfl)
def wk_clearBuffer (v : V_X6) (u : V_X7) (f : Nat → Int64) (x1 x2 : Int32) (I : V_X6 → V_X7 → (Nat → Int64) → Prop) : Prop := wp_X6_clearBuffer v (fun r z_text => wp_X7_clearBuffer u (fun b y_length y_thrown => r = b ∧ I ((X6_lawn v), (X6_snapshot v), (X6_trial v), (X6_savedR v), (X6_saved v), z_text, (X6_survey v), (X6_paths v), (X6_snapshotTaken v), (X6_savedCount v), (X6_spareR v)) ((X7_s u), (X7_aside u), (X7_kept u), (X7_isKept u), (X7_saved u), (X7_savedMany u), (X7_text u), y_length, y_thrown, (X7_joint u), (X7_position u), (X7_isWrong u), (X7_isHollow u), (X7_sure u), (X7_away u), (X7_digested u)) f))
set_option maxHeartbeats 4000000 in
set_option maxRecDepth 100000 in
theorem k_clearBuffer {p : Program} {l : Launch} {e : Env} {s : State} {m : MethodId} {below : List Frame} {meth : Method} {c : Code} {b L : Nat} {xs : Nat → Int32} (C0 : lw_At p s m meth c b L xs) (hl9 : l.stackTraces = false) {dC : Nat → ClassId} {dI : Nat → Nat → Nat} {cy : Nat → ClassId} {cJ : ClassId} (hK : va_K (dC, dI) vwCl (tysJ cy cJ) s) (hE : xEnvL (lA s) s s.heap) {a d : Nat → Nat} {o : Nat} {i : Int32} (h1 : vp_in (i + 1) L) (h2 : vp_in (i + 2) L) {cells slots : Nat} (hc : cells + 2 ≤ 601024) (hs : slots + 12 ≤ 7293034) {v : V_X6} {u : V_X7} {f : Nat → Int64} {H : Heap} {locs : List Loc} {ls : Array Slot} (hP : va_P (dC, dI) vwCl (wL cy cJ a o v f ++ wX7 cy d u) H) (hD : va_D (lA s) (wL cy cJ a o v f ++ wX7 cy d u)) (hS : va_S (lA s) s.heap H locs) (hl : lv_has ls 9 [(0, .ref b), (1, .ref (a 0)), (2, .ref (d 0)), (3, .ref o), (4, .int i)]) {I : V_X6 → V_X7 → (Nat → Int64) → Prop} (hq : wk_clearBuffer v u f (xs (i + 1).toNatClampNeg) (xs (i + 2).toNatClampNeg) I) (bk : BK p l e s m below meth c b dC dI cy cJ a d o i (cells + 2) (slots + 12) I) : W p l e room_1 s m #[Value.ref b] below meth c H locs cells slots (lw_Z below #[Value.ref b] s) (F0 m 764 ls []) := by
  obtain ⟨hx, hb, hr, hml, hown, hts, hX, hbl, hlocks, hgv⟩ := C0
  have hts : ∀ w ∈ wsL_law, w.before #[Value.ref b] s = true := fun w h => hts w (wsL_law_in w h)
  have hA : ∀ q : Nat, s.heap.size ≤ q → lA s q := fun _ h => h
  have hbA : ¬ lA s b := Nat.not_le.mpr hbl
  have hKc := tysJ_sub hK
  unfold wk_clearBuffer at hq
  refine lv_aload_n hx hb dL_law_764 rfl (lv_at hl 1 rfl) ?_
  have hC : (rng 0 204).map (fun i => (wL cy cJ a o v f ++ wX7 cy d u)[i]?) = (wX6 cy a v).map some := xC_X6
  have hPc := xsubP hP hC
  have hDc := xsubD hD (rng_nd 204 0) hC
  have hFc := va_free (wc := wX6 cy a v) hD hS hA (rng 0 204) hC
  refine va_calli (va_runV (As := []) (rest := []) ⟨hx, hb, hml, hown, hts⟩ (c_X6_clearBuffer l dC dI cy a _ v _ hq) (cwV 0 hts gL_law_X6_clearBuffer rfl rfl rfl (by decide +kernel) ⟨Nat.le_of_ble_eq_true rfl, Nat.le_of_ble_eq_true rfl⟩) ⟨xPre_blind, va_recv hKc hPc (ci := 6) (q0 := 0) rfl rfl, xPre_of hPc hKc hDc⟩ rfl rfl hl.1 rfl (lv_room (Nat.le_of_ble_eq_true rfl)) dL_law_765 ⟨by show _ ≤ 601024; omega, by show _ ≤ 7293034; omega⟩) hS (fun q _ h => hFc q h) hFc (fun r765 u9 t H locs ht hvm hq hB hz1 hk1 hS => ?_)
  obtain ⟨hP1, -, hD1⟩ := hB
  obtain ⟨z_text, rfl⟩ : ∃ z, z = u9 := ⟨_, rfl⟩
  rw [ht] at hP1
  obtain ⟨hP, hD⟩ := xj hP hD (rng 0 204) (wX6 cy a ((X6_lawn v), (X6_snapshot v), (X6_trial v), (X6_savedR v), (X6_saved v), z_text, (X6_survey v), (X6_paths v), (X6_snapshotTaken v), (X6_savedCount v), (X6_spareR v))) (ws' := wL cy cJ a o ((X6_lawn v), (X6_snapshot v), (X6_trial v), (X6_savedR v), (X6_saved v), z_text, (X6_survey v), (X6_paths v), (X6_snapshotTaken v), (X6_savedCount v), (X6_spareR v)) f ++ wX7 cy d u) hC wX6_fst xS_X6 hk1 hFc hP1
  have hq : wp_X7_clearBuffer u (fun b z_length z_thrown => r765 = b ∧ I ((X6_lawn v), (X6_snapshot v), (X6_trial v), (X6_savedR v), (X6_saved v), z_text, (X6_survey v), (X6_paths v), (X6_snapshotTaken v), (X6_savedCount v), (X6_spareR v)) ((X7_s u), (X7_aside u), (X7_kept u), (X7_isKept u), (X7_saved u), (X7_savedMany u), (X7_text u), z_length, z_thrown, (X7_joint u), (X7_position u), (X7_isWrong u), (X7_isHollow u), (X7_sure u), (X7_away u), (X7_digested u)) f) := hq
  generalize ((X6_lawn v), (X6_snapshot v), (X6_trial v), (X6_savedR v), (X6_saved v), z_text, (X6_survey v), (X6_paths v), (X6_snapshotTaken v), (X6_savedCount v), (X6_spareR v)) = v1 at hP hD hq
  refine lv_aload_n hx hb dL_law_768 rfl (lv_at hl 2 rfl) ?_
  have hC : (rng 205 10).map (fun i => (wL cy cJ a o v1 f ++ wX7 cy d u)[i]?) = (wX7 cy d u).map some := xC_right wL_len wX7_len
  have hPc := xsubP hP hC
  have hDc := xsubD hD (rng_nd 10 205) hC
  have hFc := va_free (wc := wX7 cy d u) hD hS hA (rng 205 10) hC
  refine va_calli (va_runV (As := []) (rest := [.int r765]) ⟨hx, hb, hml, hown, hts⟩ (c_X7_clearBuffer l dC dI cy d _ u _ hq) (cwV 0 hts gL_law_X7_clearBuffer rfl rfl rfl (by decide +kernel) ⟨Nat.le_of_ble_eq_true rfl, Nat.le_of_ble_eq_true rfl⟩) ⟨xPre_blind, va_recv hKc hPc (ci := 7) (q0 := 0) rfl rfl, xPre_of hPc hKc hDc⟩ rfl rfl hl.1 rfl (lv_room (Nat.le_of_ble_eq_true rfl)) dL_law_769 ⟨by show _ ≤ 601024; omega, by show _ ≤ 7293034; omega⟩) hS (fun q _ h => hFc q h) hFc (fun r769 u9 t H locs ht hvm hq hB hz1 hk1 hS => ?_)
  obtain ⟨hP1, -, hD1⟩ := hB
  obtain ⟨y769_length, y769_thrown⟩ := u9
  rw [ht] at hP1
  obtain ⟨hP, hD⟩ := xj hP hD (rng 205 10) (wX7 cy d ((X7_s u), (X7_aside u), (X7_kept u), (X7_isKept u), (X7_saved u), (X7_savedMany u), (X7_text u), y769_length, y769_thrown, (X7_joint u), (X7_position u), (X7_isWrong u), (X7_isHollow u), (X7_sure u), (X7_away u), (X7_digested u))) (ws' := wL cy cJ a o v1 f ++ wX7 cy d ((X7_s u), (X7_aside u), (X7_kept u), (X7_isKept u), (X7_saved u), (X7_savedMany u), (X7_text u), y769_length, y769_thrown, (X7_joint u), (X7_position u), (X7_isWrong u), (X7_isHollow u), (X7_sure u), (X7_away u), (X7_digested u))) hC wX7_fst (xS_right wL_len wX7_len wX7_len) hk1 hFc hP1
  have hq : r765 = r769 ∧ I v1 ((X7_s u), (X7_aside u), (X7_kept u), (X7_isKept u), (X7_saved u), (X7_savedMany u), (X7_text u), y769_length, y769_thrown, (X7_joint u), (X7_position u), (X7_isWrong u), (X7_isHollow u), (X7_sure u), (X7_away u), (X7_digested u)) f := hq
  generalize ((X7_s u), (X7_aside u), (X7_kept u), (X7_isKept u), (X7_saved u), (X7_savedMany u), (X7_text u), y769_length, y769_thrown, (X7_joint u), (X7_position u), (X7_isWrong u), (X7_isHollow u), (X7_sure u), (X7_away u), (X7_digested u)) = u769 at hP hD hq
  obtain ⟨e1, e3⟩ := hq
  refine lv_icmp_eq (tgt := 1616) hx hb dL_law_772 (by decide) (fun c1 => ?_) (fun c1 => absurd e1 c1)
  refine W.widen (k := cells + 2) (n := slots + 12) (by omega) (by omega) ?_
  exact bk _ _ _ _ _ ls e3 hP hD hS (lv_sub hl [0, 1, 2, 3, 4] rfl)
def wk_firstError (v : V_X6) (u : V_X7) (f : Nat → Int64) (x1 x2 : Int32) (I : V_X6 → V_X7 → (Nat → Int64) → Prop) : Prop := wp_X6_firstError v (fun r => wp_X7_firstError u (fun b y_isWrong y_position y_s y_thrown => r = b ∧ I v (y_s, (X7_aside u), (X7_kept u), (X7_isKept u), (X7_saved u), (X7_savedMany u), (X7_text u), (X7_length u), y_thrown, (X7_joint u), y_position, y_isWrong, (X7_isHollow u), (X7_sure u), (X7_away u), (X7_digested u)) f))
set_option maxHeartbeats 4000000 in
set_option maxRecDepth 100000 in
theorem k_firstError {p : Program} {l : Launch} {e : Env} {s : State} {m : MethodId} {below : List Frame} {meth : Method} {c : Code} {b L : Nat} {xs : Nat → Int32} (C0 : lw_At p s m meth c b L xs) (hl9 : l.stackTraces = false) {dC : Nat → ClassId} {dI : Nat → Nat → Nat} {cy : Nat → ClassId} {cJ : ClassId} (hK : va_K (dC, dI) vwCl (tysJ cy cJ) s) (hE : xEnvL (lA s) s s.heap) {a d : Nat → Nat} {o : Nat} {i : Int32} (h1 : vp_in (i + 1) L) (h2 : vp_in (i + 2) L) {cells slots : Nat} (hc : cells + 2 ≤ 601024) (hs : slots + 12 ≤ 7293034) {v : V_X6} {u : V_X7} {f : Nat → Int64} {H : Heap} {locs : List Loc} {ls : Array Slot} (hP : va_P (dC, dI) vwCl (wL cy cJ a o v f ++ wX7 cy d u) H) (hD : va_D (lA s) (wL cy cJ a o v f ++ wX7 cy d u)) (hS : va_S (lA s) s.heap H locs) (hl : lv_has ls 9 [(0, .ref b), (1, .ref (a 0)), (2, .ref (d 0)), (3, .ref o), (4, .int i)]) {I : V_X6 → V_X7 → (Nat → Int64) → Prop} (hq : wk_firstError v u f (xs (i + 1).toNatClampNeg) (xs (i + 2).toNatClampNeg) I) (bk : BK p l e s m below meth c b dC dI cy cJ a d o i (cells + 2) (slots + 12) I) : W p l e room_1 s m #[Value.ref b] below meth c H locs cells slots (lw_Z below #[Value.ref b] s) (F0 m 777 ls []) := by
  obtain ⟨hx, hb, hr, hml, hown, hts, hX, hbl, hlocks, hgv⟩ := C0
  have hts : ∀ w ∈ wsL_law, w.before #[Value.ref b] s = true := fun w h => hts w (wsL_law_in w h)
  have hA : ∀ q : Nat, s.heap.size ≤ q → lA s q := fun _ h => h
  have hbA : ¬ lA s b := Nat.not_le.mpr hbl
  have hKc := tysJ_sub hK
  unfold wk_firstError at hq
  refine lv_aload_n hx hb dL_law_777 rfl (lv_at hl 1 rfl) ?_
  have hC : (rng 0 204).map (fun i => (wL cy cJ a o v f ++ wX7 cy d u)[i]?) = (wX6 cy a v).map some := xC_X6
  have hPc := xsubP hP hC
  have hDc := xsubD hD (rng_nd 204 0) hC
  have hFc := va_free (wc := wX6 cy a v) hD hS hA (rng 0 204) hC
  refine va_calli (va_runV (As := []) (rest := []) ⟨hx, hb, hml, hown, hts⟩ (c_X6_firstError l dC dI cy a _ v _ hq) (cwV 0 hts gL_law_X6_firstError rfl rfl rfl (by decide +kernel) ⟨Nat.le_of_ble_eq_true rfl, Nat.le_of_ble_eq_true rfl⟩) ⟨xPre_blind, va_recv hKc hPc (ci := 6) (q0 := 0) rfl rfl, xPre_of hPc hKc hDc⟩ rfl rfl hl.1 rfl (lv_room (Nat.le_of_ble_eq_true rfl)) dL_law_778 ⟨by show _ ≤ 601024; omega, by show _ ≤ 7293034; omega⟩) hS (fun q _ h => hFc q h) hFc (fun r778 u9 t H locs ht hvm hq hB hz1 hk1 hS => ?_)
  obtain ⟨hP1, -, hD1⟩ := hB
  rw [ht] at hP1
  have hq : wp_X7_firstError u (fun b z_isWrong z_position z_s z_thrown => r778 = b ∧ I v (z_s, (X7_aside u), (X7_kept u), (X7_isKept u), (X7_saved u), (X7_savedMany u), (X7_text u), (X7_length u), z_thrown, (X7_joint u), z_position, z_isWrong, (X7_isHollow u), (X7_sure u), (X7_away u), (X7_digested u)) f) := hq
  have hP : va_P (dC, dI) vwCl (wL cy cJ a o v f ++ wX7 cy d u) H := xj_keep hP hD (rng 0 204) hC hP1 hk1
  refine lv_aload_n hx hb dL_law_781 rfl (lv_at hl 2 rfl) ?_
  have hC : (rng 205 10).map (fun i => (wL cy cJ a o v f ++ wX7 cy d u)[i]?) = (wX7 cy d u).map some := xC_right wL_len wX7_len
  have hPc := xsubP hP hC
  have hDc := xsubD hD (rng_nd 10 205) hC
  have hFc := va_free (wc := wX7 cy d u) hD hS hA (rng 205 10) hC
  refine va_calli (va_runV (As := []) (rest := [.int r778]) ⟨hx, hb, hml, hown, hts⟩ (c_X7_firstError l dC dI cy d _ u _ hq) (cwV 0 hts gL_law_X7_firstError rfl rfl rfl (by decide +kernel) ⟨Nat.le_of_ble_eq_true rfl, Nat.le_of_ble_eq_true rfl⟩) ⟨xPre_blind, va_recv hKc hPc (ci := 7) (q0 := 0) rfl rfl, xPre_of hPc hKc hDc⟩ rfl rfl hl.1 rfl (lv_room (Nat.le_of_ble_eq_true rfl)) dL_law_782 ⟨by show _ ≤ 601024; omega, by show _ ≤ 7293034; omega⟩) hS (fun q _ h => hFc q h) hFc (fun r782 u9 t H locs ht hvm hq hB hz1 hk1 hS => ?_)
  obtain ⟨hP1, -, hD1⟩ := hB
  obtain ⟨y782_isWrong, y782_position, y782_s, y782_thrown⟩ := u9
  rw [ht] at hP1
  obtain ⟨hP, hD⟩ := xj hP hD (rng 205 10) (wX7 cy d (y782_s, (X7_aside u), (X7_kept u), (X7_isKept u), (X7_saved u), (X7_savedMany u), (X7_text u), (X7_length u), y782_thrown, (X7_joint u), y782_position, y782_isWrong, (X7_isHollow u), (X7_sure u), (X7_away u), (X7_digested u))) (ws' := wL cy cJ a o v f ++ wX7 cy d (y782_s, (X7_aside u), (X7_kept u), (X7_isKept u), (X7_saved u), (X7_savedMany u), (X7_text u), (X7_length u), y782_thrown, (X7_joint u), y782_position, y782_isWrong, (X7_isHollow u), (X7_sure u), (X7_away u), (X7_digested u))) hC wX7_fst (xS_right wL_len wX7_len wX7_len) hk1 hFc hP1
  have hq : r778 = r782 ∧ I v (y782_s, (X7_aside u), (X7_kept u), (X7_isKept u), (X7_saved u), (X7_savedMany u), (X7_text u), (X7_length u), y782_thrown, (X7_joint u), y782_position, y782_isWrong, (X7_isHollow u), (X7_sure u), (X7_away u), (X7_digested u)) f := hq
  generalize (y782_s, (X7_aside u), (X7_kept u), (X7_isKept u), (X7_saved u), (X7_savedMany u), (X7_text u), (X7_length u), y782_thrown, (X7_joint u), y782_position, y782_isWrong, (X7_isHollow u), (X7_sure u), (X7_away u), (X7_digested u)) = u782 at hP hD hq
  obtain ⟨e1, e3⟩ := hq
  refine lv_icmp_eq (tgt := 1616) hx hb dL_law_785 (by decide) (fun c1 => ?_) (fun c1 => absurd e1 c1)
  refine W.widen (k := cells + 2) (n := slots + 12) (by omega) (by omega) ?_
  exact bk _ _ _ _ _ ls e3 hP hD hS (lv_sub hl [0, 1, 2, 3, 4] rfl)
def wK_plans (u : V_X7) (x1 x2 : Int32) (I : V_X6 → V_X7 → (Nat → Int64) → Prop) (k : Int32) (v : V_X6) (f : Nat → Int64) : Prop := wp_X7_plans u (fun b y_isWrong y_length y_position y_s y_saved y_savedMany y_thrown => wp_X7_thrown (y_s, (X7_aside u), (X7_kept u), (X7_isKept u), y_saved, y_savedMany, (X7_text u), y_length, y_thrown, (X7_joint u), y_position, y_isWrong, (X7_isHollow u), (X7_sure u), (X7_away u), (X7_digested u)) (fun th => th = k ∧ (k = 0 → f (0 : Int32).toNatClampNeg = b.toInt64) ∧ I v (y_s, (X7_aside u), (X7_kept u), (X7_isKept u), y_saved, y_savedMany, (X7_text u), y_length, y_thrown, (X7_joint u), y_position, y_isWrong, (X7_isHollow u), (X7_sure u), (X7_away u), (X7_digested u)) f))
def wk_plans (v : V_X6) (u : V_X7) (f : Nat → Int64) (x1 x2 : Int32) (I : V_X6 → V_X7 → (Nat → Int64) → Prop) : Prop := wp_X6_plans v (fun r z_lawn z_saved z_savedCount z_savedR z_text => wK_plans u x1 x2 I 0 (z_lawn, (X6_snapshot v), (X6_trial v), z_savedR, z_saved, z_text, (X6_survey v), (X6_paths v), (X6_snapshotTaken v), z_savedCount, (X6_spareR v)) (vp_updL f (0 : Int32).toNatClampNeg r.toInt64)) (fun E => (E = eA ∧ wK_plans u x1 x2 I 1 v f))
set_option maxHeartbeats 4000000 in
set_option maxRecDepth 100000 in
theorem k_plans {p : Program} {l : Launch} {e : Env} {s : State} {m : MethodId} {below : List Frame} {meth : Method} {c : Code} {b L : Nat} {xs : Nat → Int32} (C0 : lw_At p s m meth c b L xs) (hl9 : l.stackTraces = false) {dC : Nat → ClassId} {dI : Nat → Nat → Nat} {cy : Nat → ClassId} {cJ : ClassId} (hK : va_K (dC, dI) vwCl (tysJ cy cJ) s) (hE : xEnvL (lA s) s s.heap) {a d : Nat → Nat} {o : Nat} {i : Int32} (h1 : vp_in (i + 1) L) (h2 : vp_in (i + 2) L) {cells slots : Nat} (hc : cells + 2 ≤ 601024) (hs : slots + 12 ≤ 7293034) {v : V_X6} {u : V_X7} {f : Nat → Int64} {H : Heap} {locs : List Loc} {ls : Array Slot} (hP : va_P (dC, dI) vwCl (wL cy cJ a o v f ++ wX7 cy d u) H) (hD : va_D (lA s) (wL cy cJ a o v f ++ wX7 cy d u)) (hS : va_S (lA s) s.heap H locs) (hl : lv_has ls 9 [(0, .ref b), (1, .ref (a 0)), (2, .ref (d 0)), (3, .ref o), (4, .int i)]) {I : V_X6 → V_X7 → (Nat → Int64) → Prop} (hq : wk_plans v u f (xs (i + 1).toNatClampNeg) (xs (i + 2).toNatClampNeg) I) (bk : BK p l e s m below meth c b dC dI cy cJ a d o i (cells + 2) (slots + 12) I) : W p l e room_1 s m #[Value.ref b] below meth c H locs cells slots (lw_Z below #[Value.ref b] s) (F0 m 790 ls []) := by
  obtain ⟨hx, hb, hr, hml, hown, hts, hX, hbl, hlocks, hgv⟩ := C0
  have hts : ∀ w ∈ wsL_law, w.before #[Value.ref b] s = true := fun w h => hts w (wsL_law_in w h)
  have hA : ∀ q : Nat, s.heap.size ≤ q → lA s q := fun _ h => h
  have hbA : ¬ lA s b := Nat.not_le.mpr hbl
  have hKc := tysJ_sub hK
  unfold wk_plans at hq
  refine lv_aload_n hx hb dL_law_790 rfl (lv_at hl 1 rfl) ?_
  refine lv_aload_n hx hb dL_law_791 rfl (lv_at hl 3 rfl) ?_
  have hC : (rng 0 205).map (fun i => (wL cy cJ a o v f ++ wX7 cy d u)[i]?) = (wL cy cJ a o v f).map some := xC_left wL_len
  have hPc := xsubP hP hC
  have hDc := xsubD hD (rng_nd 205 0) hC
  have hFc := va_free (wc := wL cy cJ a o v f) hD hS hA (rng 0 205) hC
  refine vx_calli (vx_runSX (As := [.ref (a 0), .ref o]) (rest := []) ⟨hx, hb, hml, hown, hts⟩ (c_L_plans l dC dI cy cJ a o _ v f (wK_plans u (xs (i + 1).toNatClampNeg) (xs (i + 2).toNatClampNeg) I) hl9 hq) (vx_cwSW 2 hts gL_law_L_plans rfl rfl rfl (by decide +kernel) ⟨Nat.le_of_ble_eq_true rfl, Nat.le_of_ble_eq_true rfl⟩) ⟨preL_blind, preL_of hPc hK hDc hE hS hFc⟩ rfl rfl hl.1 rfl (lv_room (Nat.le_of_ble_eq_true rfl)) dL_law_792 ⟨by show _ ≤ 601024; omega, by show _ ≤ 7293034; omega⟩) hS (fun q _ h => hFc q h) hFc (fun q _ h => hFc q h) (fun E ce q9 _ t H locs ht hvm _ hB hz1 hk1 hS hce hcv hcl => False.elim hB) (fun k5 u9 t H locs ht hvm hq hB hz1 hk1 hS => ?_)
  obtain ⟨v1, f1⟩ := u9
  obtain ⟨hP1, hD1⟩ := hB
  rw [ht] at hP1
  obtain ⟨hP, hD⟩ := xj hP hD (rng 0 205) (wL cy cJ a o v1 f1) (ws' := wL cy cJ a o v1 f1 ++ wX7 cy d u) hC wL_fst (xS_left wL_len wL_len) hk1 hFc hP1
  have hq : wK_plans u (xs (i + 1).toNatClampNeg) (xs (i + 2).toNatClampNeg) I k5 v1 f1 := hq
  unfold wK_plans at hq
  refine lv_istore (lv' := [(5, .int k5), (0, .ref b), (1, .ref (a 0)), (2, .ref (d 0)), (3, .ref o), (4, .int i)]) hx hb dL_law_795 hl (by decide) rfl (fun ls hl => ?_)
  refine lv_aload_n hx hb dL_law_797 rfl (lv_at hl 3 rfl) ?_
  have hC : (rng 205 10).map (fun i => (wL cy cJ a o v1 f1 ++ wX7 cy d u)[i]?) = (wX7 cy d u).map some := xC_right wL_len wX7_len
  have hPc := xsubP hP hC
  have hDc := xsubD hD (rng_nd 10 205) hC
  have hFc := va_free (wc := wX7 cy d u) hD hS hA (rng 205 10) hC
  refine va_calli (va_runV (As := []) (rest := []) ⟨hx, hb, hml, hown, hts⟩ (c_X7_plans l dC dI cy d _ u _ hq) (cwV 0 hts gL_law_X7_plans rfl rfl rfl (by decide +kernel) ⟨Nat.le_of_ble_eq_true rfl, Nat.le_of_ble_eq_true rfl⟩) ⟨xPre_blind, va_recv hKc hPc (ci := 7) (q0 := 0) rfl rfl, xPre_of hPc hKc hDc⟩ rfl rfl hl.1 rfl (lv_room (Nat.le_of_ble_eq_true rfl)) dL_law_798 ⟨by show _ ≤ 601024; omega, by show _ ≤ 7293034; omega⟩) hS (fun q _ h => hFc q h) hFc (fun r798 u9 t H locs ht hvm hq hB hz1 hk1 hS => ?_)
  obtain ⟨hP1, -, hD1⟩ := hB
  obtain ⟨y798_isWrong, y798_length, y798_position, y798_s, y798_saved, y798_savedMany, y798_thrown⟩ := u9
  rw [ht] at hP1
  obtain ⟨hP, hD⟩ := xj hP hD (rng 205 10) (wX7 cy d (y798_s, (X7_aside u), (X7_kept u), (X7_isKept u), y798_saved, y798_savedMany, (X7_text u), y798_length, y798_thrown, (X7_joint u), y798_position, y798_isWrong, (X7_isHollow u), (X7_sure u), (X7_away u), (X7_digested u))) (ws' := wL cy cJ a o v1 f1 ++ wX7 cy d (y798_s, (X7_aside u), (X7_kept u), (X7_isKept u), y798_saved, y798_savedMany, (X7_text u), y798_length, y798_thrown, (X7_joint u), y798_position, y798_isWrong, (X7_isHollow u), (X7_sure u), (X7_away u), (X7_digested u))) hC wX7_fst (xS_right wL_len wX7_len wX7_len) hk1 hFc hP1
  have hq : wp_X7_thrown (y798_s, (X7_aside u), (X7_kept u), (X7_isKept u), y798_saved, y798_savedMany, (X7_text u), y798_length, y798_thrown, (X7_joint u), y798_position, y798_isWrong, (X7_isHollow u), (X7_sure u), (X7_away u), (X7_digested u)) (fun th => th = k5 ∧ (k5 = 0 → f1 (0 : Int32).toNatClampNeg = r798.toInt64) ∧ I v1 (y798_s, (X7_aside u), (X7_kept u), (X7_isKept u), y798_saved, y798_savedMany, (X7_text u), y798_length, y798_thrown, (X7_joint u), y798_position, y798_isWrong, (X7_isHollow u), (X7_sure u), (X7_away u), (X7_digested u)) f1) := hq
  generalize (y798_s, (X7_aside u), (X7_kept u), (X7_isKept u), y798_saved, y798_savedMany, (X7_text u), y798_length, y798_thrown, (X7_joint u), y798_position, y798_isWrong, (X7_isHollow u), (X7_sure u), (X7_away u), (X7_digested u)) = u798 at hP hD hq
  refine lv_istore (lv' := [(6, .int r798), (5, .int k5), (0, .ref b), (1, .ref (a 0)), (2, .ref (d 0)), (3, .ref o), (4, .int i)]) hx hb dL_law_801 hl (by decide) rfl (fun ls hl => ?_)
  refine lv_aload_n hx hb dL_law_803 rfl (lv_at hl 4 rfl) ?_
  have hC : (rng 205 10).map (fun i => (wL cy cJ a o v1 f1 ++ wX7 cy d u798)[i]?) = (wX7 cy d u798).map some := xC_right wL_len wX7_len
  have hPc := xsubP hP hC
  have hDc := xsubD hD (rng_nd 10 205) hC
  have hFc := va_free (wc := wX7 cy d u798) hD hS hA (rng 205 10) hC
  refine va_calli (va_runV (As := []) (rest := []) ⟨hx, hb, hml, hown, hts⟩ (c_X7_thrown l dC dI cy d _ u798 _ hq) (cwV 0 hts gL_law_X7_thrown rfl rfl rfl (by decide +kernel) ⟨Nat.le_of_ble_eq_true rfl, Nat.le_of_ble_eq_true rfl⟩) ⟨xPre_blind, va_recv hKc hPc (ci := 7) (q0 := 0) rfl rfl, xPre_of hPc hKc hDc⟩ rfl rfl hl.1 rfl (lv_room (Nat.le_of_ble_eq_true rfl)) dL_law_804 ⟨by show _ ≤ 601024; omega, by show _ ≤ 7293034; omega⟩) hS (fun q _ h => hFc q h) hFc (fun r804 u9 t H locs ht hvm hq hB hz1 hk1 hS => ?_)
  obtain ⟨hP1, -, hD1⟩ := hB
  rw [ht] at hP1
  have hP : va_P (dC, dI) vwCl (wL cy cJ a o v1 f1 ++ wX7 cy d u798) H := xj_keep hP hD (rng 205 10) hC hP1 hk1
  refine lv_iload hx hb dL_law_807 (lv_at hl 1 rfl) ?_
  obtain ⟨e1, e2, e3⟩ := hq
  refine lv_icmp_eq (tgt := 814) hx hb dL_law_809 (by decide) (fun c1 => ?_) (fun c1 => absurd e1 c1)
  refine lv_iload hx hb dL_law_814 (lv_at hl 1 rfl) ?_
  refine lv_if_ne (tgt := 831) hx hb dL_law_816 (by decide) (fun c2 => ?_) (fun c2 => ?_)
  · refine lv_goto (tgt := 1616) hx hb dL_law_831 (by decide) ?_
    refine W.widen (k := cells + 2) (n := slots + 12) (by omega) (by omega) ?_
    exact bk _ _ _ _ _ ls e3 hP hD hS (lv_sub hl [2, 3, 4, 5, 6] rfl)
  · refine lv_aload_n hx hb dL_law_819 rfl (lv_at hl 5 rfl) ?_
    refine lv_iconst (v := 0) hx hb dL_law_820 (by decide) ?_
    refine va_lald hx hb hK hP 204 4 wL_J rfl vin01 dL_law_821 ?_
    refine lv_iload hx hb dL_law_822 (lv_at hl 0 rfl) ?_
    refine lv_i2l hx hb dL_law_824 rfl ?_
    refine W.lcmp hx hb dL_law_825 ?_
    refine lv_if_eq (tgt := 831) hx hb dL_law_826 (by decide) (fun c3 => ?_) (fun c3 => absurd (by rw [e2 c2]; exact lg_same _) c3)
    refine lv_goto (tgt := 1616) hx hb dL_law_831 (by decide) ?_
    refine W.widen (k := cells + 2) (n := slots + 12) (by omega) (by omega) ?_
    exact bk _ _ _ _ _ ls e3 hP hD hS (lv_sub hl [2, 3, 4, 5, 6] rfl)
def wK_undo (u : V_X7) (x1 x2 : Int32) (I : V_X6 → V_X7 → (Nat → Int64) → Prop) (k : Int32) (v : V_X6) (f : Nat → Int64) : Prop := wp_X7_undo u (fun b y_s y_savedMany y_thrown => wp_X7_thrown (y_s, (X7_aside u), (X7_kept u), (X7_isKept u), (X7_saved u), y_savedMany, (X7_text u), (X7_length u), y_thrown, (X7_joint u), (X7_position u), (X7_isWrong u), (X7_isHollow u), (X7_sure u), (X7_away u), (X7_digested u)) (fun th => th = k ∧ (k = 0 → f (0 : Int32).toNatClampNeg = b.toInt64) ∧ I v (y_s, (X7_aside u), (X7_kept u), (X7_isKept u), (X7_saved u), y_savedMany, (X7_text u), (X7_length u), y_thrown, (X7_joint u), (X7_position u), (X7_isWrong u), (X7_isHollow u), (X7_sure u), (X7_away u), (X7_digested u)) f))
def wk_undo (v : V_X6) (u : V_X7) (f : Nat → Int64) (x1 x2 : Int32) (I : V_X6 → V_X7 → (Nat → Int64) → Prop) : Prop := wp_X6_undo v (fun r z_lawn z_savedCount => wK_undo u x1 x2 I 0 (z_lawn, (X6_snapshot v), (X6_trial v), (X6_savedR v), (X6_saved v), (X6_text v), (X6_survey v), (X6_paths v), (X6_snapshotTaken v), z_savedCount, (X6_spareR v)) (vp_updL f (0 : Int32).toNatClampNeg r.toInt64)) (fun E => (E = eS ∧ wK_undo u x1 x2 I 1 v f))
set_option maxHeartbeats 4000000 in
set_option maxRecDepth 100000 in
theorem k_undo {p : Program} {l : Launch} {e : Env} {s : State} {m : MethodId} {below : List Frame} {meth : Method} {c : Code} {b L : Nat} {xs : Nat → Int32} (C0 : lw_At p s m meth c b L xs) (hl9 : l.stackTraces = false) {dC : Nat → ClassId} {dI : Nat → Nat → Nat} {cy : Nat → ClassId} {cJ : ClassId} (hK : va_K (dC, dI) vwCl (tysJ cy cJ) s) (hE : xEnvL (lA s) s s.heap) {a d : Nat → Nat} {o : Nat} {i : Int32} (h1 : vp_in (i + 1) L) (h2 : vp_in (i + 2) L) {cells slots : Nat} (hc : cells + 2 ≤ 601024) (hs : slots + 12 ≤ 7293034) {v : V_X6} {u : V_X7} {f : Nat → Int64} {H : Heap} {locs : List Loc} {ls : Array Slot} (hP : va_P (dC, dI) vwCl (wL cy cJ a o v f ++ wX7 cy d u) H) (hD : va_D (lA s) (wL cy cJ a o v f ++ wX7 cy d u)) (hS : va_S (lA s) s.heap H locs) (hl : lv_has ls 9 [(0, .ref b), (1, .ref (a 0)), (2, .ref (d 0)), (3, .ref o), (4, .int i)]) {I : V_X6 → V_X7 → (Nat → Int64) → Prop} (hq : wk_undo v u f (xs (i + 1).toNatClampNeg) (xs (i + 2).toNatClampNeg) I) (bk : BK p l e s m below meth c b dC dI cy cJ a d o i (cells + 2) (slots + 12) I) : W p l e room_1 s m #[Value.ref b] below meth c H locs cells slots (lw_Z below #[Value.ref b] s) (F0 m 834 ls []) := by
  obtain ⟨hx, hb, hr, hml, hown, hts, hX, hbl, hlocks, hgv⟩ := C0
  have hts : ∀ w ∈ wsL_law, w.before #[Value.ref b] s = true := fun w h => hts w (wsL_law_in w h)
  have hA : ∀ q : Nat, s.heap.size ≤ q → lA s q := fun _ h => h
  have hbA : ¬ lA s b := Nat.not_le.mpr hbl
  have hKc := tysJ_sub hK
  unfold wk_undo at hq
  refine lv_aload_n hx hb dL_law_834 rfl (lv_at hl 1 rfl) ?_
  refine lv_aload_n hx hb dL_law_835 rfl (lv_at hl 3 rfl) ?_
  have hC : (rng 0 205).map (fun i => (wL cy cJ a o v f ++ wX7 cy d u)[i]?) = (wL cy cJ a o v f).map some := xC_left wL_len
  have hPc := xsubP hP hC
  have hDc := xsubD hD (rng_nd 205 0) hC
  have hFc := va_free (wc := wL cy cJ a o v f) hD hS hA (rng 0 205) hC
  refine vx_calli (vx_runSX (As := [.ref (a 0), .ref o]) (rest := []) ⟨hx, hb, hml, hown, hts⟩ (c_L_undo l dC dI cy cJ a o _ v f (wK_undo u (xs (i + 1).toNatClampNeg) (xs (i + 2).toNatClampNeg) I) hl9 hq) (vx_cwSW 2 hts gL_law_L_undo rfl rfl rfl (by decide +kernel) ⟨Nat.le_of_ble_eq_true rfl, Nat.le_of_ble_eq_true rfl⟩) ⟨preL_blind, preL_of hPc hK hDc hE hS hFc⟩ rfl rfl hl.1 rfl (lv_room (Nat.le_of_ble_eq_true rfl)) dL_law_836 ⟨by show _ ≤ 601024; omega, by show _ ≤ 7293034; omega⟩) hS (fun q _ h => hFc q h) hFc (fun q _ h => hFc q h) (fun E ce q9 _ t H locs ht hvm _ hB hz1 hk1 hS hce hcv hcl => False.elim hB) (fun k5 u9 t H locs ht hvm hq hB hz1 hk1 hS => ?_)
  obtain ⟨v1, f1⟩ := u9
  obtain ⟨hP1, hD1⟩ := hB
  rw [ht] at hP1
  obtain ⟨hP, hD⟩ := xj hP hD (rng 0 205) (wL cy cJ a o v1 f1) (ws' := wL cy cJ a o v1 f1 ++ wX7 cy d u) hC wL_fst (xS_left wL_len wL_len) hk1 hFc hP1
  have hq : wK_undo u (xs (i + 1).toNatClampNeg) (xs (i + 2).toNatClampNeg) I k5 v1 f1 := hq
  unfold wK_undo at hq
  refine lv_istore (lv' := [(5, .int k5), (0, .ref b), (1, .ref (a 0)), (2, .ref (d 0)), (3, .ref o), (4, .int i)]) hx hb dL_law_839 hl (by decide) rfl (fun ls hl => ?_)
  refine lv_aload_n hx hb dL_law_841 rfl (lv_at hl 3 rfl) ?_
  have hC : (rng 205 10).map (fun i => (wL cy cJ a o v1 f1 ++ wX7 cy d u)[i]?) = (wX7 cy d u).map some := xC_right wL_len wX7_len
  have hPc := xsubP hP hC
  have hDc := xsubD hD (rng_nd 10 205) hC
  have hFc := va_free (wc := wX7 cy d u) hD hS hA (rng 205 10) hC
  refine va_calli (va_runV (As := []) (rest := []) ⟨hx, hb, hml, hown, hts⟩ (c_X7_undo l dC dI cy d _ u _ hq) (cwV 0 hts gL_law_X7_undo rfl rfl rfl (by decide +kernel) ⟨Nat.le_of_ble_eq_true rfl, Nat.le_of_ble_eq_true rfl⟩) ⟨xPre_blind, va_recv hKc hPc (ci := 7) (q0 := 0) rfl rfl, xPre_of hPc hKc hDc⟩ rfl rfl hl.1 rfl (lv_room (Nat.le_of_ble_eq_true rfl)) dL_law_842 ⟨by show _ ≤ 601024; omega, by show _ ≤ 7293034; omega⟩) hS (fun q _ h => hFc q h) hFc (fun r842 u9 t H locs ht hvm hq hB hz1 hk1 hS => ?_)
  obtain ⟨hP1, -, hD1⟩ := hB
  obtain ⟨y842_s, y842_savedMany, y842_thrown⟩ := u9
  rw [ht] at hP1
  obtain ⟨hP, hD⟩ := xj hP hD (rng 205 10) (wX7 cy d (y842_s, (X7_aside u), (X7_kept u), (X7_isKept u), (X7_saved u), y842_savedMany, (X7_text u), (X7_length u), y842_thrown, (X7_joint u), (X7_position u), (X7_isWrong u), (X7_isHollow u), (X7_sure u), (X7_away u), (X7_digested u))) (ws' := wL cy cJ a o v1 f1 ++ wX7 cy d (y842_s, (X7_aside u), (X7_kept u), (X7_isKept u), (X7_saved u), y842_savedMany, (X7_text u), (X7_length u), y842_thrown, (X7_joint u), (X7_position u), (X7_isWrong u), (X7_isHollow u), (X7_sure u), (X7_away u), (X7_digested u))) hC wX7_fst (xS_right wL_len wX7_len wX7_len) hk1 hFc hP1
  have hq : wp_X7_thrown (y842_s, (X7_aside u), (X7_kept u), (X7_isKept u), (X7_saved u), y842_savedMany, (X7_text u), (X7_length u), y842_thrown, (X7_joint u), (X7_position u), (X7_isWrong u), (X7_isHollow u), (X7_sure u), (X7_away u), (X7_digested u)) (fun th => th = k5 ∧ (k5 = 0 → f1 (0 : Int32).toNatClampNeg = r842.toInt64) ∧ I v1 (y842_s, (X7_aside u), (X7_kept u), (X7_isKept u), (X7_saved u), y842_savedMany, (X7_text u), (X7_length u), y842_thrown, (X7_joint u), (X7_position u), (X7_isWrong u), (X7_isHollow u), (X7_sure u), (X7_away u), (X7_digested u)) f1) := hq
  generalize (y842_s, (X7_aside u), (X7_kept u), (X7_isKept u), (X7_saved u), y842_savedMany, (X7_text u), (X7_length u), y842_thrown, (X7_joint u), (X7_position u), (X7_isWrong u), (X7_isHollow u), (X7_sure u), (X7_away u), (X7_digested u)) = u842 at hP hD hq
  refine lv_istore (lv' := [(6, .int r842), (5, .int k5), (0, .ref b), (1, .ref (a 0)), (2, .ref (d 0)), (3, .ref o), (4, .int i)]) hx hb dL_law_845 hl (by decide) rfl (fun ls hl => ?_)
  refine lv_aload_n hx hb dL_law_847 rfl (lv_at hl 4 rfl) ?_
  have hC : (rng 205 10).map (fun i => (wL cy cJ a o v1 f1 ++ wX7 cy d u842)[i]?) = (wX7 cy d u842).map some := xC_right wL_len wX7_len
  have hPc := xsubP hP hC
  have hDc := xsubD hD (rng_nd 10 205) hC
  have hFc := va_free (wc := wX7 cy d u842) hD hS hA (rng 205 10) hC
  refine va_calli (va_runV (As := []) (rest := []) ⟨hx, hb, hml, hown, hts⟩ (c_X7_thrown l dC dI cy d _ u842 _ hq) (cwV 0 hts gL_law_X7_thrown rfl rfl rfl (by decide +kernel) ⟨Nat.le_of_ble_eq_true rfl, Nat.le_of_ble_eq_true rfl⟩) ⟨xPre_blind, va_recv hKc hPc (ci := 7) (q0 := 0) rfl rfl, xPre_of hPc hKc hDc⟩ rfl rfl hl.1 rfl (lv_room (Nat.le_of_ble_eq_true rfl)) dL_law_848 ⟨by show _ ≤ 601024; omega, by show _ ≤ 7293034; omega⟩) hS (fun q _ h => hFc q h) hFc (fun r848 u9 t H locs ht hvm hq hB hz1 hk1 hS => ?_)
  obtain ⟨hP1, -, hD1⟩ := hB
  rw [ht] at hP1
  have hP : va_P (dC, dI) vwCl (wL cy cJ a o v1 f1 ++ wX7 cy d u842) H := xj_keep hP hD (rng 205 10) hC hP1 hk1
  refine lv_iload hx hb dL_law_851 (lv_at hl 1 rfl) ?_
  obtain ⟨e1, e2, e3⟩ := hq
  refine lv_icmp_eq (tgt := 858) hx hb dL_law_853 (by decide) (fun c1 => ?_) (fun c1 => absurd e1 c1)
  refine lv_iload hx hb dL_law_858 (lv_at hl 1 rfl) ?_
  refine lv_if_ne (tgt := 875) hx hb dL_law_860 (by decide) (fun c2 => ?_) (fun c2 => ?_)
  · refine lv_goto (tgt := 1616) hx hb dL_law_875 (by decide) ?_
    refine W.widen (k := cells + 2) (n := slots + 12) (by omega) (by omega) ?_
    exact bk _ _ _ _ _ ls e3 hP hD hS (lv_sub hl [2, 3, 4, 5, 6] rfl)
  · refine lv_aload_n hx hb dL_law_863 rfl (lv_at hl 5 rfl) ?_
    refine lv_iconst (v := 0) hx hb dL_law_864 (by decide) ?_
    refine va_lald hx hb hK hP 204 4 wL_J rfl vin01 dL_law_865 ?_
    refine lv_iload hx hb dL_law_866 (lv_at hl 0 rfl) ?_
    refine lv_i2l hx hb dL_law_868 rfl ?_
    refine W.lcmp hx hb dL_law_869 ?_
    refine lv_if_eq (tgt := 875) hx hb dL_law_870 (by decide) (fun c3 => ?_) (fun c3 => absurd (by rw [e2 c2]; exact lg_same _) c3)
    refine lv_goto (tgt := 1616) hx hb dL_law_875 (by decide) ?_
    refine W.widen (k := cells + 2) (n := slots + 12) (by omega) (by omega) ?_
    exact bk _ _ _ _ _ ls e3 hP hD hS (lv_sub hl [2, 3, 4, 5, 6] rfl)
def wk_keep (v : V_X6) (u : V_X7) (f : Nat → Int64) (x1 x2 : Int32) (I : V_X6 → V_X7 → (Nat → Int64) → Prop) : Prop := wp_X6_keep v (fun r z_snapshot z_snapshotTaken => wp_X7_keep u (fun b y_isKept y_kept y_thrown => r = b ∧ I ((X6_lawn v), z_snapshot, (X6_trial v), (X6_savedR v), (X6_saved v), (X6_text v), (X6_survey v), (X6_paths v), z_snapshotTaken, (X6_savedCount v), (X6_spareR v)) ((X7_s u), (X7_aside u), y_kept, y_isKept, (X7_saved u), (X7_savedMany u), (X7_text u), (X7_length u), y_thrown, (X7_joint u), (X7_position u), (X7_isWrong u), (X7_isHollow u), (X7_sure u), (X7_away u), (X7_digested u)) f))
set_option maxHeartbeats 4000000 in
set_option maxRecDepth 100000 in
theorem k_keep {p : Program} {l : Launch} {e : Env} {s : State} {m : MethodId} {below : List Frame} {meth : Method} {c : Code} {b L : Nat} {xs : Nat → Int32} (C0 : lw_At p s m meth c b L xs) (hl9 : l.stackTraces = false) {dC : Nat → ClassId} {dI : Nat → Nat → Nat} {cy : Nat → ClassId} {cJ : ClassId} (hK : va_K (dC, dI) vwCl (tysJ cy cJ) s) (hE : xEnvL (lA s) s s.heap) {a d : Nat → Nat} {o : Nat} {i : Int32} (h1 : vp_in (i + 1) L) (h2 : vp_in (i + 2) L) {cells slots : Nat} (hc : cells + 2 ≤ 601024) (hs : slots + 12 ≤ 7293034) {v : V_X6} {u : V_X7} {f : Nat → Int64} {H : Heap} {locs : List Loc} {ls : Array Slot} (hP : va_P (dC, dI) vwCl (wL cy cJ a o v f ++ wX7 cy d u) H) (hD : va_D (lA s) (wL cy cJ a o v f ++ wX7 cy d u)) (hS : va_S (lA s) s.heap H locs) (hl : lv_has ls 9 [(0, .ref b), (1, .ref (a 0)), (2, .ref (d 0)), (3, .ref o), (4, .int i)]) {I : V_X6 → V_X7 → (Nat → Int64) → Prop} (hq : wk_keep v u f (xs (i + 1).toNatClampNeg) (xs (i + 2).toNatClampNeg) I) (bk : BK p l e s m below meth c b dC dI cy cJ a d o i (cells + 2) (slots + 12) I) : W p l e room_1 s m #[Value.ref b] below meth c H locs cells slots (lw_Z below #[Value.ref b] s) (F0 m 878 ls []) := by
  obtain ⟨hx, hb, hr, hml, hown, hts, hX, hbl, hlocks, hgv⟩ := C0
  have hts : ∀ w ∈ wsL_law, w.before #[Value.ref b] s = true := fun w h => hts w (wsL_law_in w h)
  have hA : ∀ q : Nat, s.heap.size ≤ q → lA s q := fun _ h => h
  have hbA : ¬ lA s b := Nat.not_le.mpr hbl
  have hKc := tysJ_sub hK
  unfold wk_keep at hq
  refine lv_aload_n hx hb dL_law_878 rfl (lv_at hl 1 rfl) ?_
  have hC : (rng 0 204).map (fun i => (wL cy cJ a o v f ++ wX7 cy d u)[i]?) = (wX6 cy a v).map some := xC_X6
  have hPc := xsubP hP hC
  have hDc := xsubD hD (rng_nd 204 0) hC
  have hFc := va_free (wc := wX6 cy a v) hD hS hA (rng 0 204) hC
  refine va_calli (va_runV (As := []) (rest := []) ⟨hx, hb, hml, hown, hts⟩ (c_X6_keep l dC dI cy a _ v _ hq) (cwV 0 hts gL_law_X6_keep rfl rfl rfl (by decide +kernel) ⟨Nat.le_of_ble_eq_true rfl, Nat.le_of_ble_eq_true rfl⟩) ⟨xPre_blind, va_recv hKc hPc (ci := 6) (q0 := 0) rfl rfl, xPre_of hPc hKc hDc⟩ rfl rfl hl.1 rfl (lv_room (Nat.le_of_ble_eq_true rfl)) dL_law_879 ⟨by show _ ≤ 601024; omega, by show _ ≤ 7293034; omega⟩) hS (fun q _ h => hFc q h) hFc (fun r879 u9 t H locs ht hvm hq hB hz1 hk1 hS => ?_)
  obtain ⟨hP1, -, hD1⟩ := hB
  obtain ⟨z_snapshot, z_snapshotTaken⟩ := u9
  rw [ht] at hP1
  obtain ⟨hP, hD⟩ := xj hP hD (rng 0 204) (wX6 cy a ((X6_lawn v), z_snapshot, (X6_trial v), (X6_savedR v), (X6_saved v), (X6_text v), (X6_survey v), (X6_paths v), z_snapshotTaken, (X6_savedCount v), (X6_spareR v))) (ws' := wL cy cJ a o ((X6_lawn v), z_snapshot, (X6_trial v), (X6_savedR v), (X6_saved v), (X6_text v), (X6_survey v), (X6_paths v), z_snapshotTaken, (X6_savedCount v), (X6_spareR v)) f ++ wX7 cy d u) hC wX6_fst xS_X6 hk1 hFc hP1
  have hq : wp_X7_keep u (fun b z_isKept z_kept z_thrown => r879 = b ∧ I ((X6_lawn v), z_snapshot, (X6_trial v), (X6_savedR v), (X6_saved v), (X6_text v), (X6_survey v), (X6_paths v), z_snapshotTaken, (X6_savedCount v), (X6_spareR v)) ((X7_s u), (X7_aside u), z_kept, z_isKept, (X7_saved u), (X7_savedMany u), (X7_text u), (X7_length u), z_thrown, (X7_joint u), (X7_position u), (X7_isWrong u), (X7_isHollow u), (X7_sure u), (X7_away u), (X7_digested u)) f) := hq
  generalize ((X6_lawn v), z_snapshot, (X6_trial v), (X6_savedR v), (X6_saved v), (X6_text v), (X6_survey v), (X6_paths v), z_snapshotTaken, (X6_savedCount v), (X6_spareR v)) = v1 at hP hD hq
  refine lv_aload_n hx hb dL_law_882 rfl (lv_at hl 2 rfl) ?_
  have hC : (rng 205 10).map (fun i => (wL cy cJ a o v1 f ++ wX7 cy d u)[i]?) = (wX7 cy d u).map some := xC_right wL_len wX7_len
  have hPc := xsubP hP hC
  have hDc := xsubD hD (rng_nd 10 205) hC
  have hFc := va_free (wc := wX7 cy d u) hD hS hA (rng 205 10) hC
  refine va_calli (va_runV (As := []) (rest := [.int r879]) ⟨hx, hb, hml, hown, hts⟩ (c_X7_keep l dC dI cy d _ u _ hq) (cwV 0 hts gL_law_X7_keep rfl rfl rfl (by decide +kernel) ⟨Nat.le_of_ble_eq_true rfl, Nat.le_of_ble_eq_true rfl⟩) ⟨xPre_blind, va_recv hKc hPc (ci := 7) (q0 := 0) rfl rfl, xPre_of hPc hKc hDc⟩ rfl rfl hl.1 rfl (lv_room (Nat.le_of_ble_eq_true rfl)) dL_law_883 ⟨by show _ ≤ 601024; omega, by show _ ≤ 7293034; omega⟩) hS (fun q _ h => hFc q h) hFc (fun r883 u9 t H locs ht hvm hq hB hz1 hk1 hS => ?_)
  obtain ⟨hP1, -, hD1⟩ := hB
  obtain ⟨y883_isKept, y883_kept, y883_thrown⟩ := u9
  rw [ht] at hP1
  obtain ⟨hP, hD⟩ := xj hP hD (rng 205 10) (wX7 cy d ((X7_s u), (X7_aside u), y883_kept, y883_isKept, (X7_saved u), (X7_savedMany u), (X7_text u), (X7_length u), y883_thrown, (X7_joint u), (X7_position u), (X7_isWrong u), (X7_isHollow u), (X7_sure u), (X7_away u), (X7_digested u))) (ws' := wL cy cJ a o v1 f ++ wX7 cy d ((X7_s u), (X7_aside u), y883_kept, y883_isKept, (X7_saved u), (X7_savedMany u), (X7_text u), (X7_length u), y883_thrown, (X7_joint u), (X7_position u), (X7_isWrong u), (X7_isHollow u), (X7_sure u), (X7_away u), (X7_digested u))) hC wX7_fst (xS_right wL_len wX7_len wX7_len) hk1 hFc hP1
  have hq : r879 = r883 ∧ I v1 ((X7_s u), (X7_aside u), y883_kept, y883_isKept, (X7_saved u), (X7_savedMany u), (X7_text u), (X7_length u), y883_thrown, (X7_joint u), (X7_position u), (X7_isWrong u), (X7_isHollow u), (X7_sure u), (X7_away u), (X7_digested u)) f := hq
  generalize ((X7_s u), (X7_aside u), y883_kept, y883_isKept, (X7_saved u), (X7_savedMany u), (X7_text u), (X7_length u), y883_thrown, (X7_joint u), (X7_position u), (X7_isWrong u), (X7_isHollow u), (X7_sure u), (X7_away u), (X7_digested u)) = u883 at hP hD hq
  obtain ⟨e1, e3⟩ := hq
  refine lv_icmp_eq (tgt := 1616) hx hb dL_law_886 (by decide) (fun c1 => ?_) (fun c1 => absurd e1 c1)
  refine W.widen (k := cells + 2) (n := slots + 12) (by omega) (by omega) ?_
  exact bk _ _ _ _ _ ls e3 hP hD hS (lv_sub hl [0, 1, 2, 3, 4] rfl)
def wK_restore (u : V_X7) (x1 x2 : Int32) (I : V_X6 → V_X7 → (Nat → Int64) → Prop) (k : Int32) (v : V_X6) (f : Nat → Int64) : Prop := wp_X7_restore u (fun b y_s y_saved y_savedMany y_thrown => wp_X7_thrown (y_s, (X7_aside u), (X7_kept u), (X7_isKept u), y_saved, y_savedMany, (X7_text u), (X7_length u), y_thrown, (X7_joint u), (X7_position u), (X7_isWrong u), (X7_isHollow u), (X7_sure u), (X7_away u), (X7_digested u)) (fun th => th = k ∧ (k = 0 → f (0 : Int32).toNatClampNeg = b.toInt64) ∧ I v (y_s, (X7_aside u), (X7_kept u), (X7_isKept u), y_saved, y_savedMany, (X7_text u), (X7_length u), y_thrown, (X7_joint u), (X7_position u), (X7_isWrong u), (X7_isHollow u), (X7_sure u), (X7_away u), (X7_digested u)) f))
def wk_restore (v : V_X6) (u : V_X7) (f : Nat → Int64) (x1 x2 : Int32) (I : V_X6 → V_X7 → (Nat → Int64) → Prop) : Prop := wp_X6_restore v (fun r z_lawn z_saved z_savedCount z_savedR => wK_restore u x1 x2 I 0 (z_lawn, (X6_snapshot v), (X6_trial v), z_savedR, z_saved, (X6_text v), (X6_survey v), (X6_paths v), (X6_snapshotTaken v), z_savedCount, (X6_spareR v)) (vp_updL f (0 : Int32).toNatClampNeg r.toInt64)) (fun E => (E = eS ∧ wK_restore u x1 x2 I 1 v f))
set_option maxHeartbeats 4000000 in
set_option maxRecDepth 100000 in
theorem k_restore {p : Program} {l : Launch} {e : Env} {s : State} {m : MethodId} {below : List Frame} {meth : Method} {c : Code} {b L : Nat} {xs : Nat → Int32} (C0 : lw_At p s m meth c b L xs) (hl9 : l.stackTraces = false) {dC : Nat → ClassId} {dI : Nat → Nat → Nat} {cy : Nat → ClassId} {cJ : ClassId} (hK : va_K (dC, dI) vwCl (tysJ cy cJ) s) (hE : xEnvL (lA s) s s.heap) {a d : Nat → Nat} {o : Nat} {i : Int32} (h1 : vp_in (i + 1) L) (h2 : vp_in (i + 2) L) {cells slots : Nat} (hc : cells + 2 ≤ 601024) (hs : slots + 12 ≤ 7293034) {v : V_X6} {u : V_X7} {f : Nat → Int64} {H : Heap} {locs : List Loc} {ls : Array Slot} (hP : va_P (dC, dI) vwCl (wL cy cJ a o v f ++ wX7 cy d u) H) (hD : va_D (lA s) (wL cy cJ a o v f ++ wX7 cy d u)) (hS : va_S (lA s) s.heap H locs) (hl : lv_has ls 9 [(0, .ref b), (1, .ref (a 0)), (2, .ref (d 0)), (3, .ref o), (4, .int i)]) {I : V_X6 → V_X7 → (Nat → Int64) → Prop} (hq : wk_restore v u f (xs (i + 1).toNatClampNeg) (xs (i + 2).toNatClampNeg) I) (bk : BK p l e s m below meth c b dC dI cy cJ a d o i (cells + 2) (slots + 12) I) : W p l e room_1 s m #[Value.ref b] below meth c H locs cells slots (lw_Z below #[Value.ref b] s) (F0 m 891 ls []) := by
  obtain ⟨hx, hb, hr, hml, hown, hts, hX, hbl, hlocks, hgv⟩ := C0
  have hts : ∀ w ∈ wsL_law, w.before #[Value.ref b] s = true := fun w h => hts w (wsL_law_in w h)
  have hA : ∀ q : Nat, s.heap.size ≤ q → lA s q := fun _ h => h
  have hbA : ¬ lA s b := Nat.not_le.mpr hbl
  have hKc := tysJ_sub hK
  unfold wk_restore at hq
  refine lv_aload_n hx hb dL_law_891 rfl (lv_at hl 1 rfl) ?_
  refine lv_aload_n hx hb dL_law_892 rfl (lv_at hl 3 rfl) ?_
  have hC : (rng 0 205).map (fun i => (wL cy cJ a o v f ++ wX7 cy d u)[i]?) = (wL cy cJ a o v f).map some := xC_left wL_len
  have hPc := xsubP hP hC
  have hDc := xsubD hD (rng_nd 205 0) hC
  have hFc := va_free (wc := wL cy cJ a o v f) hD hS hA (rng 0 205) hC
  refine vx_calli (vx_runSX (As := [.ref (a 0), .ref o]) (rest := []) ⟨hx, hb, hml, hown, hts⟩ (c_L_restore l dC dI cy cJ a o _ v f (wK_restore u (xs (i + 1).toNatClampNeg) (xs (i + 2).toNatClampNeg) I) hl9 hq) (vx_cwSW 2 hts gL_law_L_restore rfl rfl rfl (by decide +kernel) ⟨Nat.le_of_ble_eq_true rfl, Nat.le_of_ble_eq_true rfl⟩) ⟨preL_blind, preL_of hPc hK hDc hE hS hFc⟩ rfl rfl hl.1 rfl (lv_room (Nat.le_of_ble_eq_true rfl)) dL_law_893 ⟨by show _ ≤ 601024; omega, by show _ ≤ 7293034; omega⟩) hS (fun q _ h => hFc q h) hFc (fun q _ h => hFc q h) (fun E ce q9 _ t H locs ht hvm _ hB hz1 hk1 hS hce hcv hcl => False.elim hB) (fun k5 u9 t H locs ht hvm hq hB hz1 hk1 hS => ?_)
  obtain ⟨v1, f1⟩ := u9
  obtain ⟨hP1, hD1⟩ := hB
  rw [ht] at hP1
  obtain ⟨hP, hD⟩ := xj hP hD (rng 0 205) (wL cy cJ a o v1 f1) (ws' := wL cy cJ a o v1 f1 ++ wX7 cy d u) hC wL_fst (xS_left wL_len wL_len) hk1 hFc hP1
  have hq : wK_restore u (xs (i + 1).toNatClampNeg) (xs (i + 2).toNatClampNeg) I k5 v1 f1 := hq
  unfold wK_restore at hq
  refine lv_istore (lv' := [(5, .int k5), (0, .ref b), (1, .ref (a 0)), (2, .ref (d 0)), (3, .ref o), (4, .int i)]) hx hb dL_law_896 hl (by decide) rfl (fun ls hl => ?_)
  refine lv_aload_n hx hb dL_law_898 rfl (lv_at hl 3 rfl) ?_
  have hC : (rng 205 10).map (fun i => (wL cy cJ a o v1 f1 ++ wX7 cy d u)[i]?) = (wX7 cy d u).map some := xC_right wL_len wX7_len
  have hPc := xsubP hP hC
  have hDc := xsubD hD (rng_nd 10 205) hC
  have hFc := va_free (wc := wX7 cy d u) hD hS hA (rng 205 10) hC
  refine va_calli (va_runV (As := []) (rest := []) ⟨hx, hb, hml, hown, hts⟩ (c_X7_restore l dC dI cy d _ u _ hq) (cwV 0 hts gL_law_X7_restore rfl rfl rfl (by decide +kernel) ⟨Nat.le_of_ble_eq_true rfl, Nat.le_of_ble_eq_true rfl⟩) ⟨xPre_blind, va_recv hKc hPc (ci := 7) (q0 := 0) rfl rfl, xPre_of hPc hKc hDc⟩ rfl rfl hl.1 rfl (lv_room (Nat.le_of_ble_eq_true rfl)) dL_law_899 ⟨by show _ ≤ 601024; omega, by show _ ≤ 7293034; omega⟩) hS (fun q _ h => hFc q h) hFc (fun r899 u9 t H locs ht hvm hq hB hz1 hk1 hS => ?_)
  obtain ⟨hP1, -, hD1⟩ := hB
  obtain ⟨y899_s, y899_saved, y899_savedMany, y899_thrown⟩ := u9
  rw [ht] at hP1
  obtain ⟨hP, hD⟩ := xj hP hD (rng 205 10) (wX7 cy d (y899_s, (X7_aside u), (X7_kept u), (X7_isKept u), y899_saved, y899_savedMany, (X7_text u), (X7_length u), y899_thrown, (X7_joint u), (X7_position u), (X7_isWrong u), (X7_isHollow u), (X7_sure u), (X7_away u), (X7_digested u))) (ws' := wL cy cJ a o v1 f1 ++ wX7 cy d (y899_s, (X7_aside u), (X7_kept u), (X7_isKept u), y899_saved, y899_savedMany, (X7_text u), (X7_length u), y899_thrown, (X7_joint u), (X7_position u), (X7_isWrong u), (X7_isHollow u), (X7_sure u), (X7_away u), (X7_digested u))) hC wX7_fst (xS_right wL_len wX7_len wX7_len) hk1 hFc hP1
  have hq : wp_X7_thrown (y899_s, (X7_aside u), (X7_kept u), (X7_isKept u), y899_saved, y899_savedMany, (X7_text u), (X7_length u), y899_thrown, (X7_joint u), (X7_position u), (X7_isWrong u), (X7_isHollow u), (X7_sure u), (X7_away u), (X7_digested u)) (fun th => th = k5 ∧ (k5 = 0 → f1 (0 : Int32).toNatClampNeg = r899.toInt64) ∧ I v1 (y899_s, (X7_aside u), (X7_kept u), (X7_isKept u), y899_saved, y899_savedMany, (X7_text u), (X7_length u), y899_thrown, (X7_joint u), (X7_position u), (X7_isWrong u), (X7_isHollow u), (X7_sure u), (X7_away u), (X7_digested u)) f1) := hq
  generalize (y899_s, (X7_aside u), (X7_kept u), (X7_isKept u), y899_saved, y899_savedMany, (X7_text u), (X7_length u), y899_thrown, (X7_joint u), (X7_position u), (X7_isWrong u), (X7_isHollow u), (X7_sure u), (X7_away u), (X7_digested u)) = u899 at hP hD hq
  refine lv_istore (lv' := [(6, .int r899), (5, .int k5), (0, .ref b), (1, .ref (a 0)), (2, .ref (d 0)), (3, .ref o), (4, .int i)]) hx hb dL_law_902 hl (by decide) rfl (fun ls hl => ?_)
  refine lv_aload_n hx hb dL_law_904 rfl (lv_at hl 4 rfl) ?_
  have hC : (rng 205 10).map (fun i => (wL cy cJ a o v1 f1 ++ wX7 cy d u899)[i]?) = (wX7 cy d u899).map some := xC_right wL_len wX7_len
  have hPc := xsubP hP hC
  have hDc := xsubD hD (rng_nd 10 205) hC
  have hFc := va_free (wc := wX7 cy d u899) hD hS hA (rng 205 10) hC
  refine va_calli (va_runV (As := []) (rest := []) ⟨hx, hb, hml, hown, hts⟩ (c_X7_thrown l dC dI cy d _ u899 _ hq) (cwV 0 hts gL_law_X7_thrown rfl rfl rfl (by decide +kernel) ⟨Nat.le_of_ble_eq_true rfl, Nat.le_of_ble_eq_true rfl⟩) ⟨xPre_blind, va_recv hKc hPc (ci := 7) (q0 := 0) rfl rfl, xPre_of hPc hKc hDc⟩ rfl rfl hl.1 rfl (lv_room (Nat.le_of_ble_eq_true rfl)) dL_law_905 ⟨by show _ ≤ 601024; omega, by show _ ≤ 7293034; omega⟩) hS (fun q _ h => hFc q h) hFc (fun r905 u9 t H locs ht hvm hq hB hz1 hk1 hS => ?_)
  obtain ⟨hP1, -, hD1⟩ := hB
  rw [ht] at hP1
  have hP : va_P (dC, dI) vwCl (wL cy cJ a o v1 f1 ++ wX7 cy d u899) H := xj_keep hP hD (rng 205 10) hC hP1 hk1
  refine lv_iload hx hb dL_law_908 (lv_at hl 1 rfl) ?_
  obtain ⟨e1, e2, e3⟩ := hq
  refine lv_icmp_eq (tgt := 915) hx hb dL_law_910 (by decide) (fun c1 => ?_) (fun c1 => absurd e1 c1)
  refine lv_iload hx hb dL_law_915 (lv_at hl 1 rfl) ?_
  refine lv_if_ne (tgt := 932) hx hb dL_law_917 (by decide) (fun c2 => ?_) (fun c2 => ?_)
  · refine lv_goto (tgt := 1616) hx hb dL_law_932 (by decide) ?_
    refine W.widen (k := cells + 2) (n := slots + 12) (by omega) (by omega) ?_
    exact bk _ _ _ _ _ ls e3 hP hD hS (lv_sub hl [2, 3, 4, 5, 6] rfl)
  · refine lv_aload_n hx hb dL_law_920 rfl (lv_at hl 5 rfl) ?_
    refine lv_iconst (v := 0) hx hb dL_law_921 (by decide) ?_
    refine va_lald hx hb hK hP 204 4 wL_J rfl vin01 dL_law_922 ?_
    refine lv_iload hx hb dL_law_923 (lv_at hl 0 rfl) ?_
    refine lv_i2l hx hb dL_law_925 rfl ?_
    refine W.lcmp hx hb dL_law_926 ?_
    refine lv_if_eq (tgt := 932) hx hb dL_law_927 (by decide) (fun c3 => ?_) (fun c3 => absurd (by rw [e2 c2]; exact lg_same _) c3)
    refine lv_goto (tgt := 1616) hx hb dL_law_932 (by decide) ?_
    refine W.widen (k := cells + 2) (n := slots + 12) (by omega) (by omega) ?_
    exact bk _ _ _ _ _ ls e3 hP hD hS (lv_sub hl [2, 3, 4, 5, 6] rfl)
