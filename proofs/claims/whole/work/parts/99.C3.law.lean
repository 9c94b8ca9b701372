def wK_tuft (u : V_X7) (x1 x2 : Int32) (I : V_X6 → V_X7 → (Nat → Int64) → Prop) (k : Int32) (v : V_X6) (f : Nat → Int64) : Prop := wp_X7_tuft u x1 x2 (fun b y_isHollow y_sure y_thrown => wp_X7_thrown ((X7_s u), (X7_aside u), (X7_kept u), (X7_isKept u), (X7_saved u), (X7_savedMany u), (X7_text u), (X7_length u), y_thrown, (X7_joint u), (X7_position u), (X7_isWrong u), y_isHollow, y_sure, (X7_away u), (X7_digested u)) (fun th => th = k ∧ (k = 0 → f (0 : Int32).toNatClampNeg = b.toInt64) ∧ I v ((X7_s u), (X7_aside u), (X7_kept u), (X7_isKept u), (X7_saved u), (X7_savedMany u), (X7_text u), (X7_length u), y_thrown, (X7_joint u), (X7_position u), (X7_isWrong u), y_isHollow, y_sure, (X7_away u), (X7_digested u)) f))
def wk_tuft (v : V_X6) (u : V_X7) (f : Nat → Int64) (x1 x2 : Int32) (I : V_X6 → V_X7 → (Nat → Int64) → Prop) : Prop := wp_X6_tuft v x1 x2 (fun r z_survey => wK_tuft u x1 x2 I 0 ((X6_lawn v), (X6_snapshot v), (X6_trial v), (X6_savedR v), (X6_saved v), (X6_text v), z_survey, (X6_paths v), (X6_snapshotTaken v), (X6_savedCount v), (X6_spareR v)) (vp_updL f (0 : Int32).toNatClampNeg r.toInt64)) (fun E => (E = eI ∧ wK_tuft u x1 x2 I 1 v f) ∨ (E = eA ∧ wK_tuft u x1 x2 I 2 v f))
set_option maxHeartbeats 4000000 in
set_option maxRecDepth 100000 in
theorem k_tuft {p : Program} {l : Launch} {e : Env} {s : State} {m : MethodId} {below : List Frame} {meth : Method} {c : Code} {b L : Nat} {xs : Nat → Int32} (C0 : lw_At p s m meth c b L xs) (hl9 : l.stackTraces = false) {dC : Nat → ClassId} {dI : Nat → Nat → Nat} {cy : Nat → ClassId} {cJ : ClassId} (hK : va_K (dC, dI) vwCl (tysJ cy cJ) s) (hE : xEnvL (lA s) s s.heap) {a d : Nat → Nat} {o : Nat} {i : Int32} (h1 : vp_in (i + 1) L) (h2 : vp_in (i + 2) L) {cells slots : Nat} (hc : cells + 2 ≤ 601024) (hs : slots + 12 ≤ 7293034) {v : V_X6} {u : V_X7} {f : Nat → Int64} {H : Heap} {locs : List Loc} {ls : Array Slot} (hP : va_P (dC, dI) vwCl (wL cy cJ a o v f ++ wX7 cy d u) H) (hD : va_D (lA s) (wL cy cJ a o v f ++ wX7 cy d u)) (hS : va_S (lA s) s.heap H locs) (hl : lv_has ls 9 [(0, .ref b), (1, .ref (a 0)), (2, .ref (d 0)), (3, .ref o), (4, .int i)]) {I : V_X6 → V_X7 → (Nat → Int64) → Prop} (hq : wk_tuft v u f (xs (i + 1).toNatClampNeg) (xs (i + 2).toNatClampNeg) I) (bk : BK p l e s m below meth c b dC dI cy cJ a d o i (cells + 2) (slots + 12) I) : W p l e room_1 s m #[Value.ref b] below meth c H locs cells slots (lw_Z below #[Value.ref b] s) (F0 m 935 ls []) := by
  obtain ⟨hx, hb, hr, hml, hown, hts, hX, hbl, hlocks, hgv⟩ := C0
  have hts : ∀ w ∈ wsL_law, w.before #[Value.ref b] s = true := fun w h => hts w (wsL_law_in w h)
  have hA : ∀ q : Nat, s.heap.size ≤ q → lA s q := fun _ h => h
  have hbA : ¬ lA s b := Nat.not_le.mpr hbl
  have hKc := tysJ_sub hK
  unfold wk_tuft at hq
  refine lv_aload_n hx hb dL_law_935 rfl (lv_at hl 1 rfl) ?_
  refine lv_aload_n hx hb dL_law_936 rfl (lv_at hl 0 rfl) ?_
  refine lv_iload hx hb dL_law_937 (lv_at hl 4 rfl) ?_
  refine lv_iconst (v := 1) hx hb dL_law_939 (by decide) ?_
  refine lv_iadd hx hb dL_law_940 ?_
  refine va_sld hx hb hX hbl hbA hS h1 dL_law_941 ?_
  refine lv_aload_n hx hb dL_law_942 rfl (lv_at hl 0 rfl) ?_
  refine lv_iload hx hb dL_law_943 (lv_at hl 4 rfl) ?_
  refine lv_iconst (v := 2) hx hb dL_law_945 (by decide) ?_
  refine lv_iadd hx hb dL_law_946 ?_
  refine va_sld hx hb hX hbl hbA hS h2 dL_law_947 ?_
  refine lv_aload_n hx hb dL_law_948 rfl (lv_at hl 3 rfl) ?_
  have hC : (rng 0 205).map (fun i => (wL cy cJ a o v f ++ wX7 cy d u)[i]?) = (wL cy cJ a o v f).map some := xC_left wL_len
  have hPc := xsubP hP hC
  have hDc := xsubD hD (rng_nd 205 0) hC
  have hFc := va_free (wc := wL cy cJ a o v f) hD hS hA (rng 0 205) hC
  refine vx_calli (vx_runSX (As := [.ref (a 0), .int (xs (i + 1).toNatClampNeg), .int (xs (i + 2).toNatClampNeg), .ref o]) (rest := []) ⟨hx, hb, hml, hown, hts⟩ (c_L_tuft l dC dI cy cJ a o _ v f (xs (i + 1).toNatClampNeg) (xs (i + 2).toNatClampNeg) (wK_tuft u (xs (i + 1).toNatClampNeg) (xs (i + 2).toNatClampNeg) I) hl9 hq) (vx_cwSW 4 hts gL_law_L_tuft rfl rfl rfl (by decide +kernel) ⟨Nat.le_of_ble_eq_true rfl, Nat.le_of_ble_eq_true rfl⟩) ⟨preL_blind, preL_of hPc hK hDc hE hS hFc⟩ rfl rfl hl.1 rfl (lv_room (Nat.le_of_ble_eq_true rfl)) dL_law_949 ⟨by show _ ≤ 601024; omega, by show _ ≤ 7293034; omega⟩) hS (fun q _ h => hFc q h) hFc (fun q _ h => hFc q h) (fun E ce q9 _ t H locs ht hvm _ hB hz1 hk1 hS hce hcv hcl => False.elim hB) (fun k5 u9 t H locs ht hvm hq hB hz1 hk1 hS => ?_)
  obtain ⟨v1, f1⟩ := u9
  obtain ⟨hP1, hD1⟩ := hB
  rw [ht] at hP1
  obtain ⟨hP, hD⟩ := xj hP hD (rng 0 205) (wL cy cJ a o v1 f1) (ws' := wL cy cJ a o v1 f1 ++ wX7 cy d u) hC wL_fst (xS_left wL_len wL_len) hk1 hFc hP1
  have hq : wK_tuft u (xs (i + 1).toNatClampNeg) (xs (i + 2).toNatClampNeg) I k5 v1 f1 := hq
  unfold wK_tuft at hq
  refine lv_istore (lv' := [(5, .int k5), (0, .ref b), (1, .ref (a 0)), (2, .ref (d 0)), (3, .ref o), (4, .int i)]) hx hb dL_law_952 hl (by decide) rfl (fun ls hl => ?_)
  refine lv_aload_n hx hb dL_law_954 rfl (lv_at hl 3 rfl) ?_
  refine lv_aload_n hx hb dL_law_955 rfl (lv_at hl 1 rfl) ?_
  refine lv_iload hx hb dL_law_956 (lv_at hl 5 rfl) ?_
  refine lv_iconst (v := 1) hx hb dL_law_958 (by decide) ?_
  refine lv_iadd hx hb dL_law_959 ?_
  refine va_sld hx hb hX hbl hbA hS h1 dL_law_960 ?_
  refine lv_aload_n hx hb dL_law_961 rfl (lv_at hl 1 rfl) ?_
  refine lv_iload hx hb dL_law_962 (lv_at hl 5 rfl) ?_
  refine lv_iconst (v := 2) hx hb dL_law_964 (by decide) ?_
  refine lv_iadd hx hb dL_law_965 ?_
  refine va_sld hx hb hX hbl hbA hS h2 dL_law_966 ?_
  have hC : (rng 205 10).map (fun i => (wL cy cJ a o v1 f1 ++ wX7 cy d u)[i]?) = (wX7 cy d u).map some := xC_right wL_len wX7_len
  have hPc := xsubP hP hC
  have hDc := xsubD hD (rng_nd 10 205) hC
  have hFc := va_free (wc := wX7 cy d u) hD hS hA (rng 205 10) hC
  refine va_calli (va_runV (As := [.int (xs (i + 1).toNatClampNeg), .int (xs (i + 2).toNatClampNeg)]) (rest := []) ⟨hx, hb, hml, hown, hts⟩ (c_X7_tuft l dC dI cy d _ u (xs (i + 1).toNatClampNeg) (xs (i + 2).toNatClampNeg) _ hq) (cwV 2 hts gL_law_X7_tuft rfl rfl rfl (by decide +kernel) ⟨Nat.le_of_ble_eq_true rfl, Nat.le_of_ble_eq_true rfl⟩) ⟨xPre_blind, va_recv hKc hPc (ci := 7) (q0 := 0) rfl rfl, xPre_of hPc hKc hDc⟩ rfl rfl hl.1 rfl (lv_room (Nat.le_of_ble_eq_true rfl)) dL_law_967 ⟨by show _ ≤ 601024; omega, by show _ ≤ 7293034; omega⟩) hS (fun q _ h => hFc q h) hFc (fun r967 u9 t H locs ht hvm hq hB hz1 hk1 hS => ?_)
  obtain ⟨hP1, -, hD1⟩ := hB
  obtain ⟨y967_isHollow, y967_sure, y967_thrown⟩ := u9
  rw [ht] at hP1
  obtain ⟨hP, hD⟩ := xj hP hD (rng 205 10) (wX7 cy d ((X7_s u), (X7_aside u), (X7_kept u), (X7_isKept u), (X7_saved u), (X7_savedMany u), (X7_text u), (X7_length u), y967_thrown, (X7_joint u), (X7_position u), (X7_isWrong u), y967_isHollow, y967_sure, (X7_away u), (X7_digested u))) (ws' := wL cy cJ a o v1 f1 ++ wX7 cy d ((X7_s u), (X7_aside u), (X7_kept u), (X7_isKept u), (X7_saved u), (X7_savedMany u), (X7_text u), (X7_length u), y967_thrown, (X7_joint u), (X7_position u), (X7_isWrong u), y967_isHollow, y967_sure, (X7_away u), (X7_digested u))) hC wX7_fst (xS_right wL_len wX7_len wX7_len) hk1 hFc hP1
  have hq : wp_X7_thrown ((X7_s u), (X7_aside u), (X7_kept u), (X7_isKept u), (X7_saved u), (X7_savedMany u), (X7_text u), (X7_length u), y967_thrown, (X7_joint u), (X7_position u), (X7_isWrong u), y967_isHollow, y967_sure, (X7_away u), (X7_digested u)) (fun th => th = k5 ∧ (k5 = 0 → f1 (0 : Int32).toNatClampNeg = r967.toInt64) ∧ I v1 ((X7_s u), (X7_aside u), (X7_kept u), (X7_isKept u), (X7_saved u), (X7_savedMany u), (X7_text u), (X7_length u), y967_thrown, (X7_joint u), (X7_position u), (X7_isWrong u), y967_isHollow, y967_sure, (X7_away u), (X7_digested u)) f1) := hq
  generalize ((X7_s u), (X7_aside u), (X7_kept u), (X7_isKept u), (X7_saved u), (X7_savedMany u), (X7_text u), (X7_length u), y967_thrown, (X7_joint u), (X7_position u), (X7_isWrong u), y967_isHollow, y967_sure, (X7_away u), (X7_digested u)) = u967 at hP hD hq
  refine lv_istore (lv' := [(6, .int r967), (5, .int k5), (0, .ref b), (1, .ref (a 0)), (2, .ref (d 0)), (3, .ref o), (4, .int i)]) hx hb dL_law_970 hl (by decide) rfl (fun ls hl => ?_)
  refine lv_aload_n hx hb dL_law_972 rfl (lv_at hl 4 rfl) ?_
  have hC : (rng 205 10).map (fun i => (wL cy cJ a o v1 f1 ++ wX7 cy d u967)[i]?) = (wX7 cy d u967).map some := xC_right wL_len wX7_len
  have hPc := xsubP hP hC
  have hDc := xsubD hD (rng_nd 10 205) hC
  have hFc := va_free (wc := wX7 cy d u967) hD hS hA (rng 205 10) hC
  refine va_calli (va_runV (As := []) (rest := []) ⟨hx, hb, hml, hown, hts⟩ (c_X7_thrown l dC dI cy d _ u967 _ hq) (cwV 0 hts gL_law_X7_thrown rfl rfl rfl (by decide +kernel) ⟨Nat.le_of_ble_eq_true rfl, Nat.le_of_ble_eq_true rfl⟩) ⟨xPre_blind, va_recv hKc hPc (ci := 7) (q0 := 0) rfl rfl, xPre_of hPc hKc hDc⟩ rfl rfl hl.1 rfl (lv_room (Nat.le_of_ble_eq_true rfl)) dL_law_973 ⟨by show _ ≤ 601024; omega, by show _ ≤ 7293034; omega⟩) hS (fun q _ h => hFc q h) hFc (fun r973 u9 t H locs ht hvm hq hB hz1 hk1 hS => ?_)
  obtain ⟨hP1, -, hD1⟩ := hB
  rw [ht] at hP1
  have hP : va_P (dC, dI) vwCl (wL cy cJ a o v1 f1 ++ wX7 cy d u967) H := xj_keep hP hD (rng 205 10) hC hP1 hk1
  refine lv_iload hx hb dL_law_976 (lv_at hl 1 rfl) ?_
  obtain ⟨e1, e2, e3⟩ := hq
  refine lv_icmp_eq (tgt := 983) hx hb dL_law_978 (by decide) (fun c1 => ?_) (fun c1 => absurd e1 c1)
  refine lv_iload hx hb dL_law_983 (lv_at hl 1 rfl) ?_
  refine lv_if_ne (tgt := 1000) hx hb dL_law_985 (by decide) (fun c2 => ?_) (fun c2 => ?_)
  · refine lv_goto (tgt := 1616) hx hb dL_law_1000 (by decide) ?_
    refine W.widen (k := cells + 2) (n := slots + 12) (by omega) (by omega) ?_
    exact bk _ _ _ _ _ ls e3 hP hD hS (lv_sub hl [2, 3, 4, 5, 6] rfl)
  · refine lv_aload_n hx hb dL_law_988 rfl (lv_at hl 5 rfl) ?_
    refine lv_iconst (v := 0) hx hb dL_law_989 (by decide) ?_
    refine va_lald hx hb hK hP 204 4 wL_J rfl vin01 dL_law_990 ?_
    refine lv_iload hx hb dL_law_991 (lv_at hl 0 rfl) ?_
    refine lv_i2l hx hb dL_law_993 rfl ?_
    refine W.lcmp hx hb dL_law_994 ?_
    refine lv_if_eq (tgt := 1000) hx hb dL_law_995 (by decide) (fun c3 => ?_) (fun c3 => absurd (by rw [e2 c2]; exact lg_same _) c3)
    refine lv_goto (tgt := 1616) hx hb dL_law_1000 (by decide) ?_
    refine W.widen (k := cells + 2) (n := slots + 12) (by omega) (by omega) ?_
    exact bk _ _ _ _ _ ls e3 hP hD hS (lv_sub hl [2, 3, 4, 5, 6] rfl)
def wK_moleOf (u : V_X7) (x1 x2 : Int32) (I : V_X6 → V_X7 → (Nat → Int64) → Prop) (k : Int32) (v : V_X6) (f : Nat → Int64) : Prop := wp_X7_moleOf u x1 x2 (fun b y_thrown => wp_X7_thrown ((X7_s u), (X7_aside u), (X7_kept u), (X7_isKept u), (X7_saved u), (X7_savedMany u), (X7_text u), (X7_length u), y_thrown, (X7_joint u), (X7_position u), (X7_isWrong u), (X7_isHollow u), (X7_sure u), (X7_away u), (X7_digested u)) (fun th => th = k ∧ (k = 0 → f (0 : Int32).toNatClampNeg = b.toInt64) ∧ I v ((X7_s u), (X7_aside u), (X7_kept u), (X7_isKept u), (X7_saved u), (X7_savedMany u), (X7_text u), (X7_length u), y_thrown, (X7_joint u), (X7_position u), (X7_isWrong u), (X7_isHollow u), (X7_sure u), (X7_away u), (X7_digested u)) f))
def wk_moleOf (v : V_X6) (u : V_X7) (f : Nat → Int64) (x1 x2 : Int32) (I : V_X6 → V_X7 → (Nat → Int64) → Prop) : Prop := wp_X6_moleOf v x1 x2 (fun r => wK_moleOf u x1 x2 I 0 v (vp_updL f (0 : Int32).toNatClampNeg r.toInt64)) (fun E => (E = eI ∧ wK_moleOf u x1 x2 I 1 v f) ∨ (E = eA ∧ wK_moleOf u x1 x2 I 2 v f))
set_option maxHeartbeats 4000000 in
set_option maxRecDepth 100000 in
theorem k_moleOf {p : Program} {l : Launch} {e : Env} {s : State} {m : MethodId} {below : List Frame} {meth : Method} {c : Code} {b L : Nat} {xs : Nat → Int32} (C0 : lw_At p s m meth c b L xs) (hl9 : l.stackTraces = false) {dC : Nat → ClassId} {dI : Nat → Nat → Nat} {cy : Nat → ClassId} {cJ : ClassId} (hK : va_K (dC, dI) vwCl (tysJ cy cJ) s) (hE : xEnvL (lA s) s s.heap) {a d : Nat → Nat} {o : Nat} {i : Int32} (h1 : vp_in (i + 1) L) (h2 : vp_in (i + 2) L) {cells slots : Nat} (hc : cells + 2 ≤ 601024) (hs : slots + 12 ≤ 7293034) {v : V_X6} {u : V_X7} {f : Nat → Int64} {H : Heap} {locs : List Loc} {ls : Array Slot} (hP : va_P (dC, dI) vwCl (wL cy cJ a o v f ++ wX7 cy d u) H) (hD : va_D (lA s) (wL cy cJ a o v f ++ wX7 cy d u)) (hS : va_S (lA s) s.heap H locs) (hl : lv_has ls 9 [(0, .ref b), (1, .ref (a 0)), (2, .ref (d 0)), (3, .ref o), (4, .int i)]) {I : V_X6 → V_X7 → (Nat → Int64) → Prop} (hq : wk_moleOf v u f (xs (i + 1).toNatClampNeg) (xs (i + 2).toNatClampNeg) I) (bk : BK p l e s m below meth c b dC dI cy cJ a d o i (cells + 2) (slots + 12) I) : W p l e room_1 s m #[Value.ref b] below meth c H locs cells slots (lw_Z below #[Value.ref b] s) (F0 m 1003 ls []) := by
  obtain ⟨hx, hb, hr, hml, hown, hts, hX, hbl, hlocks, hgv⟩ := C0
  have hts : ∀ w ∈ wsL_law, w.before #[Value.ref b] s = true := fun w h => hts w (wsL_law_in w h)
  have hA : ∀ q : Nat, s.heap.size ≤ q → lA s q := fun _ h => h
  have hbA : ¬ lA s b := Nat.not_le.mpr hbl
  have hKc := tysJ_sub hK
  unfold wk_moleOf at hq
  refine lv_aload_n hx hb dL_law_1003 rfl (lv_at hl 1 rfl) ?_
  refine lv_aload_n hx hb dL_law_1004 rfl (lv_at hl 0 rfl) ?_
  refine lv_iload hx hb dL_law_1005 (lv_at hl 4 rfl) ?_
  refine lv_iconst (v := 1) hx hb dL_law_1007 (by decide) ?_
  refine lv_iadd hx hb dL_law_1008 ?_
  refine va_sld hx hb hX hbl hbA hS h1 dL_law_1009 ?_
  refine lv_aload_n hx hb dL_law_1010 rfl (lv_at hl 0 rfl) ?_
  refine lv_iload hx hb dL_law_1011 (lv_at hl 4 rfl) ?_
  refine lv_iconst (v := 2) hx hb dL_law_1013 (by decide) ?_
  refine lv_iadd hx hb dL_law_1014 ?_
  refine va_sld hx hb hX hbl hbA hS h2 dL_law_1015 ?_
  refine lv_aload_n hx hb dL_law_1016 rfl (lv_at hl 3 rfl) ?_
  have hC : (rng 0 205).map (fun i => (wL cy cJ a o v f ++ wX7 cy d u)[i]?) = (wL cy cJ a o v f).map some := xC_left wL_len
  have hPc := xsubP hP hC
  have hDc := xsubD hD (rng_nd 205 0) hC
  have hFc := va_free (wc := wL cy cJ a o v f) hD hS hA (rng 0 205) hC
  refine vx_calli (vx_runSX (As := [.ref (a 0), .int (xs (i + 1).toNatClampNeg), .int (xs (i + 2).toNatClampNeg), .ref o]) (rest := []) ⟨hx, hb, hml, hown, hts⟩ (c_L_moleOf l dC dI cy cJ a o _ v f (xs (i + 1).toNatClampNeg) (xs (i + 2).toNatClampNeg) (wK_moleOf u (xs (i + 1).toNatClampNeg) (xs (i + 2).toNatClampNeg) I) hl9 hq) (vx_cwSW 4 hts gL_law_L_moleOf rfl rfl rfl (by decide +kernel) ⟨Nat.le_of_ble_eq_true rfl, Nat.le_of_ble_eq_true rfl⟩) ⟨preL_blind, preL_of hPc hK hDc hE hS hFc⟩ rfl rfl hl.1 rfl (lv_room (Nat.le_of_ble_eq_true rfl)) dL_law_1017 ⟨by show _ ≤ 601024; omega, by show _ ≤ 7293034; omega⟩) hS (fun q _ h => hFc q h) hFc (fun q _ h => hFc q h) (fun E ce q9 _ t H locs ht hvm _ hB hz1 hk1 hS hce hcv hcl => False.elim hB) (fun k5 u9 t H locs ht hvm hq hB hz1 hk1 hS => ?_)
  obtain ⟨v1, f1⟩ := u9
  obtain ⟨hP1, hD1⟩ := hB
  rw [ht] at hP1
  obtain ⟨hP, hD⟩ := xj hP hD (rng 0 205) (wL cy cJ a o v1 f1) (ws' := wL cy cJ a o v1 f1 ++ wX7 cy d u) hC wL_fst (xS_left wL_len wL_len) hk1 hFc hP1
  have hq : wK_moleOf u (xs (i + 1).toNatClampNeg) (xs (i + 2).toNatClampNeg) I k5 v1 f1 := hq
  unfold wK_moleOf at hq
  refine lv_istore (lv' := [(5, .int k5), (0, .ref b), (1, .ref (a 0)), (2, .ref (d 0)), (3, .ref o), (4, .int i)]) hx hb dL_law_1020 hl (by decide) rfl (fun ls hl => ?_)
  refine lv_aload_n hx hb dL_law_1022 rfl (lv_at hl 3 rfl) ?_
  refine lv_aload_n hx hb dL_law_1023 rfl (lv_at hl 1 rfl) ?_
  refine lv_iload hx hb dL_law_1024 (lv_at hl 5 rfl) ?_
  refine lv_iconst (v := 1) hx hb dL_law_1026 (by decide) ?_
  refine lv_iadd hx hb dL_law_1027 ?_
  refine va_sld hx hb hX hbl hbA hS h1 dL_law_1028 ?_
  refine lv_aload_n hx hb dL_law_1029 rfl (lv_at hl 1 rfl) ?_
  refine lv_iload hx hb dL_law_1030 (lv_at hl 5 rfl) ?_
  refine lv_iconst (v := 2) hx hb dL_law_1032 (by decide) ?_
  refine lv_iadd hx hb dL_law_1033 ?_
  refine va_sld hx hb hX hbl hbA hS h2 dL_law_1034 ?_
  have hC : (rng 205 10).map (fun i => (wL cy cJ a o v1 f1 ++ wX7 cy d u)[i]?) = (wX7 cy d u).map some := xC_right wL_len wX7_len
  have hPc := xsubP hP hC
  have hDc := xsubD hD (rng_nd 10 205) hC
  have hFc := va_free (wc := wX7 cy d u) hD hS hA (rng 205 10) hC
  refine va_calli (va_runV (As := [.int (xs (i + 1).toNatClampNeg), .int (xs (i + 2).toNatClampNeg)]) (rest := []) ⟨hx, hb, hml, hown, hts⟩ (c_X7_moleOf l dC dI cy d _ u (xs (i + 1).toNatClampNeg) (xs (i + 2).toNatClampNeg) _ hq) (cwV 2 hts gL_law_X7_moleOf rfl rfl rfl (by decide +kernel) ⟨Nat.le_of_ble_eq_true rfl, Nat.le_of_ble_eq_true rfl⟩) ⟨xPre_blind, va_recv hKc hPc (ci := 7) (q0 := 0) rfl rfl, xPre_of hPc hKc hDc⟩ rfl rfl hl.1 rfl (lv_room (Nat.le_of_ble_eq_true rfl)) dL_law_1035 ⟨by show _ ≤ 601024; omega, by show _ ≤ 7293034; omega⟩) hS (fun q _ h => hFc q h) hFc (fun r1035 u9 t H locs ht hvm hq hB hz1 hk1 hS => ?_)
  obtain ⟨hP1, -, hD1⟩ := hB
  obtain ⟨y1035_thrown, rfl⟩ : ∃ z, z = u9 := ⟨_, rfl⟩
  rw [ht] at hP1
  obtain ⟨hP, hD⟩ := xj hP hD (rng 205 10) (wX7 cy d ((X7_s u), (X7_aside u), (X7_kept u), (X7_isKept u), (X7_saved u), (X7_savedMany u), (X7_text u), (X7_length u), y1035_thrown, (X7_joint u), (X7_position u), (X7_isWrong u), (X7_isHollow u), (X7_sure u), (X7_away u), (X7_digested u))) (ws' := wL cy cJ a o v1 f1 ++ wX7 cy d ((X7_s u), (X7_aside u), (X7_kept u), (X7_isKept u), (X7_saved u), (X7_savedMany u), (X7_text u), (X7_length u), y1035_thrown, (X7_joint u), (X7_position u), (X7_isWrong u), (X7_isHollow u), (X7_sure u), (X7_away u), (X7_digested u))) hC wX7_fst (xS_right wL_len wX7_len wX7_len) hk1 hFc hP1
  have hq : wp_X7_thrown ((X7_s u), (X7_aside u), (X7_kept u), (X7_isKept u), (X7_saved u), (X7_savedMany u), (X7_text u), (X7_length u), y1035_thrown, (X7_joint u), (X7_position u), (X7_isWrong u), (X7_isHollow u), (X7_sure u), (X7_away u), (X7_digested u)) (fun th => th = k5 ∧ (k5 = 0 → f1 (0 : Int32).toNatClampNeg = r1035.toInt64) ∧ I v1 ((X7_s u), (X7_aside u), (X7_kept u), (X7_isKept u), (X7_saved u), (X7_savedMany u), (X7_text u), (X7_length u), y1035_thrown, (X7_joint u), (X7_position u), (X7_isWrong u), (X7_isHollow u), (X7_sure u), (X7_away u), (X7_digested u)) f1) := hq
  generalize ((X7_s u), (X7_aside u), (X7_kept u), (X7_isKept u), (X7_saved u), (X7_savedMany u), (X7_text u), (X7_length u), y1035_thrown, (X7_joint u), (X7_position u), (X7_isWrong u), (X7_isHollow u), (X7_sure u), (X7_away u), (X7_digested u)) = u1035 at hP hD hq
  refine lv_istore (lv' := [(6, .int r1035), (5, .int k5), (0, .ref b), (1, .ref (a 0)), (2, .ref (d 0)), (3, .ref o), (4, .int i)]) hx hb dL_law_1038 hl (by decide) rfl (fun ls hl => ?_)
  refine lv_aload_n hx hb dL_law_1040 rfl (lv_at hl 4 rfl) ?_
  have hC : (rng 205 10).map (fun i => (wL cy cJ a o v1 f1 ++ wX7 cy d u1035)[i]?) = (wX7 cy d u1035).map some := xC_right wL_len wX7_len
  have hPc := xsubP hP hC
  have hDc := xsubD hD (rng_nd 10 205) hC
  have hFc := va_free (wc := wX7 cy d u1035) hD hS hA (rng 205 10) hC
  refine va_calli (va_runV (As := []) (rest := []) ⟨hx, hb, hml, hown, hts⟩ (c_X7_thrown l dC dI cy d _ u1035 _ hq) (cwV 0 hts gL_law_X7_thrown rfl rfl rfl (by decide +kernel) ⟨Nat.le_of_ble_eq_true rfl, Nat.le_of_ble_eq_true rfl⟩) ⟨xPre_blind, va_recv hKc hPc (ci := 7) (q0 := 0) rfl rfl, xPre_of hPc hKc hDc⟩ rfl rfl hl.1 rfl (lv_room (Nat.le_of_ble_eq_true rfl)) dL_law_1041 ⟨by show _ ≤ 601024; omega, by show _ ≤ 7293034; omega⟩) hS (fun q _ h => hFc q h) hFc (fun r1041 u9 t H locs ht hvm hq hB hz1 hk1 hS => ?_)
  obtain ⟨hP1, -, hD1⟩ := hB
  rw [ht] at hP1
  have hP : va_P (dC, dI) vwCl (wL cy cJ a o v1 f1 ++ wX7 cy d u1035) H := xj_keep hP hD (rng 205 10) hC hP1 hk1
  refine lv_iload hx hb dL_law_1044 (lv_at hl 1 rfl) ?_
  obtain ⟨e1, e2, e3⟩ := hq
  refine lv_icmp_eq (tgt := 1051) hx hb dL_law_1046 (by decide) (fun c1 => ?_) (fun c1 => absurd e1 c1)
  refine lv_iload hx hb dL_law_1051 (lv_at hl 1 rfl) ?_
  refine lv_if_ne (tgt := 1068) hx hb dL_law_1053 (by decide) (fun c2 => ?_) (fun c2 => ?_)
  · refine lv_goto (tgt := 1616) hx hb dL_law_1068 (by decide) ?_
    refine W.widen (k := cells + 2) (n := slots + 12) (by omega) (by omega) ?_
    exact bk _ _ _ _ _ ls e3 hP hD hS (lv_sub hl [2, 3, 4, 5, 6] rfl)
  · refine lv_aload_n hx hb dL_law_1056 rfl (lv_at hl 5 rfl) ?_
    refine lv_iconst (v := 0) hx hb dL_law_1057 (by decide) ?_
    refine va_lald hx hb hK hP 204 4 wL_J rfl vin01 dL_law_1058 ?_
    refine lv_iload hx hb dL_law_1059 (lv_at hl 0 rfl) ?_
    refine lv_i2l hx hb dL_law_1061 rfl ?_
    refine W.lcmp hx hb dL_law_1062 ?_
    refine lv_if_eq (tgt := 1068) hx hb dL_law_1063 (by decide) (fun c3 => ?_) (fun c3 => absurd (by rw [e2 c2]; exact lg_same _) c3)
    refine lv_goto (tgt := 1616) hx hb dL_law_1068 (by decide) ?_
    refine W.widen (k := cells + 2) (n := slots + 12) (by omega) (by omega) ?_
    exact bk _ _ _ _ _ ls e3 hP hD hS (lv_sub hl [2, 3, 4, 5, 6] rfl)
def wK_tunnel (u : V_X7) (x1 x2 : Int32) (I : V_X6 → V_X7 → (Nat → Int64) → Prop) (k : Int32) (v : V_X6) (f : Nat → Int64) : Prop := wp_X7_tunnel u x1 x2 (fun b y_thrown => wp_X7_thrown ((X7_s u), (X7_aside u), (X7_kept u), (X7_isKept u), (X7_saved u), (X7_savedMany u), (X7_text u), (X7_length u), y_thrown, (X7_joint u), (X7_position u), (X7_isWrong u), (X7_isHollow u), (X7_sure u), (X7_away u), (X7_digested u)) (fun th => th = k ∧ (k = 0 → f (0 : Int32).toNatClampNeg = b.toInt64) ∧ I v ((X7_s u), (X7_aside u), (X7_kept u), (X7_isKept u), (X7_saved u), (X7_savedMany u), (X7_text u), (X7_length u), y_thrown, (X7_joint u), (X7_position u), (X7_isWrong u), (X7_isHollow u), (X7_sure u), (X7_away u), (X7_digested u)) f))
def wk_tunnel (v : V_X6) (u : V_X7) (f : Nat → Int64) (x1 x2 : Int32) (I : V_X6 → V_X7 → (Nat → Int64) → Prop) : Prop := wp_X6_tunnel v x1 x2 (fun r => wK_tunnel u x1 x2 I 0 v (vp_updL f (0 : Int32).toNatClampNeg r.toInt64)) (fun E => (E = eI ∧ wK_tunnel u x1 x2 I 1 v f) ∨ (E = eA ∧ wK_tunnel u x1 x2 I 2 v f))
set_option maxHeartbeats 4000000 in
set_option maxRecDepth 100000 in
theorem k_tunnel {p : Program} {l : Launch} {e : Env} {s : State} {m : MethodId} {below : List Frame} {meth : Method} {c : Code} {b L : Nat} {xs : Nat → Int32} (C0 : lw_At p s m meth c b L xs) (hl9 : l.stackTraces = false) {dC : Nat → ClassId} {dI : Nat → Nat → Nat} {cy : Nat → ClassId} {cJ : ClassId} (hK : va_K (dC, dI) vwCl (tysJ cy cJ) s) (hE : xEnvL (lA s) s s.heap) {a d : Nat → Nat} {o : Nat} {i : Int32} (h1 : vp_in (i + 1) L) (h2 : vp_in (i + 2) L) {cells slots : Nat} (hc : cells + 2 ≤ 601024) (hs : slots + 12 ≤ 7293034) {v : V_X6} {u : V_X7} {f : Nat → Int64} {H : Heap} {locs : List Loc} {ls : Array Slot} (hP : va_P (dC, dI) vwCl (wL cy cJ a o v f ++ wX7 cy d u) H) (hD : va_D (lA s) (wL cy cJ a o v f ++ wX7 cy d u)) (hS : va_S (lA s) s.heap H locs) (hl : lv_has ls 9 [(0, .ref b), (1, .ref (a 0)), (2, .ref (d 0)), (3, .ref o), (4, .int i)]) {I : V_X6 → V_X7 → (Nat → Int64) → Prop} (hq : wk_tunnel v u f (xs (i + 1).toNatClampNeg) (xs (i + 2).toNatClampNeg) I) (bk : BK p l e s m below meth c b dC dI cy cJ a d o i (cells + 2) (slots + 12) I) : W p l e room_1 s m #[Value.ref b] below meth c H locs cells slots (lw_Z below #[Value.ref b] s) (F0 m 1071 ls []) := by
  obtain ⟨hx, hb, hr, hml, hown, hts, hX, hbl, hlocks, hgv⟩ := C0
  have hts : ∀ w ∈ wsL_law, w.before #[Value.ref b] s = true := fun w h => hts w (wsL_law_in w h)
  have hA : ∀ q : Nat, s.heap.size ≤ q → lA s q := fun _ h => h
  have hbA : ¬ lA s b := Nat.not_le.mpr hbl
  have hKc := tysJ_sub hK
  unfold wk_tunnel at hq
  refine lv_aload_n hx hb dL_law_1071 rfl (lv_at hl 1 rfl) ?_
  refine lv_aload_n hx hb dL_law_1072 rfl (lv_at hl 0 rfl) ?_
  refine lv_iload hx hb dL_law_1073 (lv_at hl 4 rfl) ?_
  refine lv_iconst (v := 1) hx hb dL_law_1075 (by decide) ?_
  refine lv_iadd hx hb dL_law_1076 ?_
  refine va_sld hx hb hX hbl hbA hS h1 dL_law_1077 ?_
  refine lv_aload_n hx hb dL_law_1078 rfl (lv_at hl 0 rfl) ?_
  refine lv_iload hx hb dL_law_1079 (lv_at hl 4 rfl) ?_
  refine lv_iconst (v := 2) hx hb dL_law_1081 (by decide) ?_
  refine lv_iadd hx hb dL_law_1082 ?_
  refine va_sld hx hb hX hbl hbA hS h2 dL_law_1083 ?_
  refine lv_aload_n hx hb dL_law_1084 rfl (lv_at hl 3 rfl) ?_
  have hC : (rng 0 205).map (fun i => (wL cy cJ a o v f ++ wX7 cy d u)[i]?) = (wL cy cJ a o v f).map some := xC_left wL_len
  have hPc := xsubP hP hC
  have hDc := xsubD hD (rng_nd 205 0) hC
  have hFc := va_free (wc := wL cy cJ a o v f) hD hS hA (rng 0 205) hC
  refine vx_calli (vx_runSX (As := [.ref (a 0), .int (xs (i + 1).toNatClampNeg), .int (xs (i + 2).toNatClampNeg), .ref o]) (rest := []) ⟨hx, hb, hml, hown, hts⟩ (c_L_tunnel l dC dI cy cJ a o _ v f (xs (i + 1).toNatClampNeg) (xs (i + 2).toNatClampNeg) (wK_tunnel u (xs (i + 1).toNatClampNeg) (xs (i + 2).toNatClampNeg) I) hl9 hq) (vx_cwSW 4 hts gL_law_L_tunnel rfl rfl rfl (by decide +kernel) ⟨Nat.le_of_ble_eq_true rfl, Nat.le_of_ble_eq_true rfl⟩) ⟨preL_blind, preL_of hPc hK hDc hE hS hFc⟩ rfl rfl hl.1 rfl (lv_room (Nat.le_of_ble_eq_true rfl)) dL_law_1085 ⟨by show _ ≤ 601024; omega, by show _ ≤ 7293034; omega⟩) hS (fun q _ h => hFc q h) hFc (fun q _ h => hFc q h) (fun E ce q9 _ t H locs ht hvm _ hB hz1 hk1 hS hce hcv hcl => False.elim hB) (fun k5 u9 t H locs ht hvm hq hB hz1 hk1 hS => ?_)
  obtain ⟨v1, f1⟩ := u9
  obtain ⟨hP1, hD1⟩ := hB
  rw [ht] at hP1
  obtain ⟨hP, hD⟩ := xj hP hD (rng 0 205) (wL cy cJ a o v1 f1) (ws' := wL cy cJ a o v1 f1 ++ wX7 cy d u) hC wL_fst (xS_left wL_len wL_len) hk1 hFc hP1
  have hq : wK_tunnel u (xs (i + 1).toNatClampNeg) (xs (i + 2).toNatClampNeg) I k5 v1 f1 := hq
  unfold wK_tunnel at hq
  refine lv_istore (lv' := [(5, .int k5), (0, .ref b), (1, .ref (a 0)), (2, .ref (d 0)), (3, .ref o), (4, .int i)]) hx hb dL_law_1088 hl (by decide) rfl (fun ls hl => ?_)
  refine lv_aload_n hx hb dL_law_1090 rfl (lv_at hl 3 rfl) ?_
  refine lv_aload_n hx hb dL_law_1091 rfl (lv_at hl 1 rfl) ?_
  refine lv_iload hx hb dL_law_1092 (lv_at hl 5 rfl) ?_
  refine lv_iconst (v := 1) hx hb dL_law_1094 (by decide) ?_
  refine lv_iadd hx hb dL_law_1095 ?_
  refine va_sld hx hb hX hbl hbA hS h1 dL_law_1096 ?_
  refine lv_aload_n hx hb dL_law_1097 rfl (lv_at hl 1 rfl) ?_
  refine lv_iload hx hb dL_law_1098 (lv_at hl 5 rfl) ?_
  refine lv_iconst (v := 2) hx hb dL_law_1100 (by decide) ?_
  refine lv_iadd hx hb dL_law_1101 ?_
  refine va_sld hx hb hX hbl hbA hS h2 dL_law_1102 ?_
  have hC : (rng 205 10).map (fun i => (wL cy cJ a o v1 f1 ++ wX7 cy d u)[i]?) = (wX7 cy d u).map some := xC_right wL_len wX7_len
  have hPc := xsubP hP hC
  have hDc := xsubD hD (rng_nd 10 205) hC
  have hFc := va_free (wc := wX7 cy d u) hD hS hA (rng 205 10) hC
  refine va_calli (va_runV (As := [.int (xs (i + 1).toNatClampNeg), .int (xs (i + 2).toNatClampNeg)]) (rest := []) ⟨hx, hb, hml, hown, hts⟩ (c_X7_tunnel l dC dI cy d _ u (xs (i + 1).toNatClampNeg) (xs (i + 2).toNatClampNeg) _ hq) (cwV 2 hts gL_law_X7_tunnel rfl rfl rfl (by decide +kernel) ⟨Nat.le_of_ble_eq_true rfl, Nat.le_of_ble_eq_true rfl⟩) ⟨xPre_blind, va_recv hKc hPc (ci := 7) (q0 := 0) rfl rfl, xPre_of hPc hKc hDc⟩ rfl rfl hl.1 rfl (lv_room (Nat.le_of_ble_eq_true rfl)) dL_law_1103 ⟨by show _ ≤ 601024; omega, by show _ ≤ 7293034; omega⟩) hS (fun q _ h => hFc q h) hFc (fun r1103 u9 t H locs ht hvm hq hB hz1 hk1 hS => ?_)
  obtain ⟨hP1, -, hD1⟩ := hB
  obtain ⟨y1103_thrown, rfl⟩ : ∃ z, z = u9 := ⟨_, rfl⟩
  rw [ht] at hP1
  obtain ⟨hP, hD⟩ := xj hP hD (rng 205 10) (wX7 cy d ((X7_s u), (X7_aside u), (X7_kept u), (X7_isKept u), (X7_saved u), (X7_savedMany u), (X7_text u), (X7_length u), y1103_thrown, (X7_joint u), (X7_position u), (X7_isWrong u), (X7_isHollow u), (X7_sure u), (X7_away u), (X7_digested u))) (ws' := wL cy cJ a o v1 f1 ++ wX7 cy d ((X7_s u), (X7_aside u), (X7_kept u), (X7_isKept u), (X7_saved u), (X7_savedMany u), (X7_text u), (X7_length u), y1103_thrown, (X7_joint u), (X7_position u), (X7_isWrong u), (X7_isHollow u), (X7_sure u), (X7_away u), (X7_digested u))) hC wX7_fst (xS_right wL_len wX7_len wX7_len) hk1 hFc hP1
  have hq : wp_X7_thrown ((X7_s u), (X7_aside u), (X7_kept u), (X7_isKept u), (X7_saved u), (X7_savedMany u), (X7_text u), (X7_length u), y1103_thrown, (X7_joint u), (X7_position u), (X7_isWrong u), (X7_isHollow u), (X7_sure u), (X7_away u), (X7_digested u)) (fun th => th = k5 ∧ (k5 = 0 → f1 (0 : Int32).toNatClampNeg = r1103.toInt64) ∧ I v1 ((X7_s u), (X7_aside u), (X7_kept u), (X7_isKept u), (X7_saved u), (X7_savedMany u), (X7_text u), (X7_length u), y1103_thrown, (X7_joint u), (X7_position u), (X7_isWrong u), (X7_isHollow u), (X7_sure u), (X7_away u), (X7_digested u)) f1) := hq
  generalize ((X7_s u), (X7_aside u), (X7_kept u), (X7_isKept u), (X7_saved u), (X7_savedMany u), (X7_text u), (X7_length u), y1103_thrown, (X7_joint u), (X7_position u), (X7_isWrong u), (X7_isHollow u), (X7_sure u), (X7_away u), (X7_digested u)) = u1103 at hP hD hq
  refine lv_istore (lv' := [(6, .int r1103), (5, .int k5), (0, .ref b), (1, .ref (a 0)), (2, .ref (d 0)), (3, .ref o), (4, .int i)]) hx hb dL_law_1106 hl (by decide) rfl (fun ls hl => ?_)
  refine lv_aload_n hx hb dL_law_1108 rfl (lv_at hl 4 rfl) ?_
  have hC : (rng 205 10).map (fun i => (wL cy cJ a o v1 f1 ++ wX7 cy d u1103)[i]?) = (wX7 cy d u1103).map some := xC_right wL_len wX7_len
  have hPc := xsubP hP hC
  have hDc := xsubD hD (rng_nd 10 205) hC
  have hFc := va_free (wc := wX7 cy d u1103) hD hS hA (rng 205 10) hC
  refine va_calli (va_runV (As := []) (rest := []) ⟨hx, hb, hml, hown, hts⟩ (c_X7_thrown l dC dI cy d _ u1103 _ hq) (cwV 0 hts gL_law_X7_thrown rfl rfl rfl (by decide +kernel) ⟨Nat.le_of_ble_eq_true rfl, Nat.le_of_ble_eq_true rfl⟩) ⟨xPre_blind, va_recv hKc hPc (ci := 7) (q0 := 0) rfl rfl, xPre_of hPc hKc hDc⟩ rfl rfl hl.1 rfl (lv_room (Nat.le_of_ble_eq_true rfl)) dL_law_1109 ⟨by show _ ≤ 601024; omega, by show _ ≤ 7293034; omega⟩) hS (fun q _ h => hFc q h) hFc (fun r1109 u9 t H locs ht hvm hq hB hz1 hk1 hS => ?_)
  obtain ⟨hP1, -, hD1⟩ := hB
  rw [ht] at hP1
  have hP : va_P (dC, dI) vwCl (wL cy cJ a o v1 f1 ++ wX7 cy d u1103) H := xj_keep hP hD (rng 205 10) hC hP1 hk1
  refine lv_iload hx hb dL_law_1112 (lv_at hl 1 rfl) ?_
  obtain ⟨e1, e2, e3⟩ := hq
  refine lv_icmp_eq (tgt := 1119) hx hb dL_law_1114 (by decide) (fun c1 => ?_) (fun c1 => absurd e1 c1)
  refine lv_iload hx hb dL_law_1119 (lv_at hl 1 rfl) ?_
  refine lv_if_ne (tgt := 1136) hx hb dL_law_1121 (by decide) (fun c2 => ?_) (fun c2 => ?_)
  · refine lv_goto (tgt := 1616) hx hb dL_law_1136 (by decide) ?_
    refine W.widen (k := cells + 2) (n := slots + 12) (by omega) (by omega) ?_
    exact bk _ _ _ _ _ ls e3 hP hD hS (lv_sub hl [2, 3, 4, 5, 6] rfl)
  · refine lv_aload_n hx hb dL_law_1124 rfl (lv_at hl 5 rfl) ?_
    refine lv_iconst (v := 0) hx hb dL_law_1125 (by decide) ?_
    refine va_lald hx hb hK hP 204 4 wL_J rfl vin01 dL_law_1126 ?_
    refine lv_iload hx hb dL_law_1127 (lv_at hl 0 rfl) ?_
    refine lv_i2l hx hb dL_law_1129 rfl ?_
    refine W.lcmp hx hb dL_law_1130 ?_
    refine lv_if_eq (tgt := 1136) hx hb dL_law_1131 (by decide) (fun c3 => ?_) (fun c3 => absurd (by rw [e2 c2]; exact lg_same _) c3)
    refine lv_goto (tgt := 1616) hx hb dL_law_1136 (by decide) ?_
    refine W.widen (k := cells + 2) (n := slots + 12) (by omega) (by omega) ?_
    exact bk _ _ _ _ _ ls e3 hP hD hS (lv_sub hl [2, 3, 4, 5, 6] rfl)
def wK_cell (u : V_X7) (x1 x2 : Int32) (I : V_X6 → V_X7 → (Nat → Int64) → Prop) (k : Int32) (v : V_X6) (f : Nat → Int64) : Prop := wp_X7_cell u x1 x2 (fun b y_thrown => wp_X7_thrown ((X7_s u), (X7_aside u), (X7_kept u), (X7_isKept u), (X7_saved u), (X7_savedMany u), (X7_text u), (X7_length u), y_thrown, (X7_joint u), (X7_position u), (X7_isWrong u), (X7_isHollow u), (X7_sure u), (X7_away u), (X7_digested u)) (fun th => th = k ∧ (k = 0 → f (0 : Int32).toNatClampNeg = b.toInt64) ∧ I v ((X7_s u), (X7_aside u), (X7_kept u), (X7_isKept u), (X7_saved u), (X7_savedMany u), (X7_text u), (X7_length u), y_thrown, (X7_joint u), (X7_position u), (X7_isWrong u), (X7_isHollow u), (X7_sure u), (X7_away u), (X7_digested u)) f))
def wk_cell (v : V_X6) (u : V_X7) (f : Nat → Int64) (x1 x2 : Int32) (I : V_X6 → V_X7 → (Nat → Int64) → Prop) : Prop := wp_X6_cell v x1 x2 (fun r => wK_cell u x1 x2 I 0 v (vp_updL f (0 : Int32).toNatClampNeg r.toInt64)) (fun E => (E = eI ∧ wK_cell u x1 x2 I 1 v f) ∨ (E = eA ∧ wK_cell u x1 x2 I 2 v f))
set_option maxHeartbeats 4000000 in
set_option maxRecDepth 100000 in
theorem k_cell {p : Program} {l : Launch} {e : Env} {s : State} {m : MethodId} {below : List Frame} {meth : Method} {c : Code} {b L : Nat} {xs : Nat → Int32} (C0 : lw_At p s m meth c b L xs) (hl9 : l.stackTraces = false) {dC : Nat → ClassId} {dI : Nat → Nat → Nat} {cy : Nat → ClassId} {cJ : ClassId} (hK : va_K (dC, dI) vwCl (tysJ cy cJ) s) (hE : xEnvL (lA s) s s.heap) {a d : Nat → Nat} {o : Nat} {i : Int32} (h1 : vp_in (i + 1) L) (h2 : vp_in (i + 2) L) {cells slots : Nat} (hc : cells + 2 ≤ 601024) (hs : slots + 12 ≤ 7293034) {v : V_X6} {u : V_X7} {f : Nat → Int64} {H : Heap} {locs : List Loc} {ls : Array Slot} (hP : va_P (dC, dI) vwCl (wL cy cJ a o v f ++ wX7 cy d u) H) (hD : va_D (lA s) (wL cy cJ a o v f ++ wX7 cy d u)) (hS : va_S (lA s) s.heap H locs) (hl : lv_has ls 9 [(0, .ref b), (1, .ref (a 0)), (2, .ref (d 0)), (3, .ref o), (4, .int i)]) {I : V_X6 → V_X7 → (Nat → Int64) → Prop} (hq : wk_cell v u f (xs (i + 1).toNatClampNeg) (xs (i + 2).toNatClampNeg) I) (bk : BK p l e s m below meth c b dC dI cy cJ a d o i (cells + 2) (slots + 12) I) : W p l e room_1 s m #[Value.ref b] below meth c H locs cells slots (lw_Z below #[Value.ref b] s) (F0 m 1139 ls []) := by
  obtain ⟨hx, hb, hr, hml, hown, hts, hX, hbl, hlocks, hgv⟩ := C0
  have hts : ∀ w ∈ wsL_law, w.before #[Value.ref b] s = true := fun w h => hts w (wsL_law_in w h)
  have hA : ∀ q : Nat, s.heap.size ≤ q → lA s q := fun _ h => h
  have hbA : ¬ lA s b := Nat.not_le.mpr hbl
  have hKc := tysJ_sub hK
  unfold wk_cell at hq
  refine lv_aload_n hx hb dL_law_1139 rfl (lv_at hl 1 rfl) ?_
  refine lv_aload_n hx hb dL_law_1140 rfl (lv_at hl 0 rfl) ?_
  refine lv_iload hx hb dL_law_1141 (lv_at hl 4 rfl) ?_
  refine lv_iconst (v := 1) hx hb dL_law_1143 (by decide) ?_
  refine lv_iadd hx hb dL_law_1144 ?_
  refine va_sld hx hb hX hbl hbA hS h1 dL_law_1145 ?_
  refine lv_aload_n hx hb dL_law_1146 rfl (lv_at hl 0 rfl) ?_
  refine lv_iload hx hb dL_law_1147 (lv_at hl 4 rfl) ?_
  refine lv_iconst (v := 2) hx hb dL_law_1149 (by decide) ?_
  refine lv_iadd hx hb dL_law_1150 ?_
  refine va_sld hx hb hX hbl hbA hS h2 dL_law_1151 ?_
  refine lv_aload_n hx hb dL_law_1152 rfl (lv_at hl 3 rfl) ?_
  have hC : (rng 0 205).map (fun i => (wL cy cJ a o v f ++ wX7 cy d u)[i]?) = (wL cy cJ a o v f).map some := xC_left wL_len
  have hPc := xsubP hP hC
  have hDc := xsubD hD (rng_nd 205 0) hC
  have hFc := va_free (wc := wL cy cJ a o v f) hD hS hA (rng 0 205) hC
  refine vx_calli (vx_runSX (As := [.ref (a 0), .int (xs (i + 1).toNatClampNeg), .int (xs (i + 2).toNatClampNeg), .ref o]) (rest := []) ⟨hx, hb, hml, hown, hts⟩ (c_L_cell l dC dI cy cJ a o _ v f (xs (i + 1).toNatClampNeg) (xs (i + 2).toNatClampNeg) (wK_cell u (xs (i + 1).toNatClampNeg) (xs (i + 2).toNatClampNeg) I) hl9 hq) (vx_cwSW 4 hts gL_law_L_cell rfl rfl rfl (by decide +kernel) ⟨Nat.le_of_ble_eq_true rfl, Nat.le_of_ble_eq_true rfl⟩) ⟨preL_blind, preL_of hPc hK hDc hE hS hFc⟩ rfl rfl hl.1 rfl (lv_room (Nat.le_of_ble_eq_true rfl)) dL_law_1153 ⟨by show _ ≤ 601024; omega, by show _ ≤ 7293034; omega⟩) hS (fun q _ h => hFc q h) hFc (fun q _ h => hFc q h) (fun E ce q9 _ t H locs ht hvm _ hB hz1 hk1 hS hce hcv hcl => False.elim hB) (fun k5 u9 t H locs ht hvm hq hB hz1 hk1 hS => ?_)
  obtain ⟨v1, f1⟩ := u9
  obtain ⟨hP1, hD1⟩ := hB
  rw [ht] at hP1
  obtain ⟨hP, hD⟩ := xj hP hD (rng 0 205) (wL cy cJ a o v1 f1) (ws' := wL cy cJ a o v1 f1 ++ wX7 cy d u) hC wL_fst (xS_left wL_len wL_len) hk1 hFc hP1
  have hq : wK_cell u (xs (i + 1).toNatClampNeg) (xs (i + 2).toNatClampNeg) I k5 v1 f1 := hq
  unfold wK_cell at hq
  refine lv_istore (lv' := [(5, .int k5), (0, .ref b), (1, .ref (a 0)), (2, .ref (d 0)), (3, .ref o), (4, .int i)]) hx hb dL_law_1156 hl (by decide) rfl (fun ls hl => ?_)
  refine lv_aload_n hx hb dL_law_1158 rfl (lv_at hl 3 rfl) ?_
  refine lv_aload_n hx hb dL_law_1159 rfl (lv_at hl 1 rfl) ?_
  refine lv_iload hx hb dL_law_1160 (lv_at hl 5 rfl) ?_
  refine lv_iconst (v := 1) hx hb dL_law_1162 (by decide) ?_
  refine lv_iadd hx hb dL_law_1163 ?_
  refine va_sld hx hb hX hbl hbA hS h1 dL_law_1164 ?_
  refine lv_aload_n hx hb dL_law_1165 rfl (lv_at hl 1 rfl) ?_
  refine lv_iload hx hb dL_law_1166 (lv_at hl 5 rfl) ?_
  refine lv_iconst (v := 2) hx hb dL_law_1168 (by decide) ?_
  refine lv_iadd hx hb dL_law_1169 ?_
  refine va_sld hx hb hX hbl hbA hS h2 dL_law_1170 ?_
  have hC : (rng 205 10).map (fun i => (wL cy cJ a o v1 f1 ++ wX7 cy d u)[i]?) = (wX7 cy d u).map some := xC_right wL_len wX7_len
  have hPc := xsubP hP hC
  have hDc := xsubD hD (rng_nd 10 205) hC
  have hFc := va_free (wc := wX7 cy d u) hD hS hA (rng 205 10) hC
  refine va_calli (va_runV (As := [.int (xs (i + 1).toNatClampNeg), .int (xs (i + 2).toNatClampNeg)]) (rest := []) ⟨hx, hb, hml, hown, hts⟩ (c_X7_cell l dC dI cy d _ u (xs (i + 1).toNatClampNeg) (xs (i + 2).toNatClampNeg) _ hq) (cwV 2 hts gL_law_X7_cell rfl rfl rfl (by decide +kernel) ⟨Nat.le_of_ble_eq_true rfl, Nat.le_of_ble_eq_true rfl⟩) ⟨xPre_blind, va_recv hKc hPc (ci := 7) (q0 := 0) rfl rfl, xPre_of hPc hKc hDc⟩ rfl rfl hl.1 rfl (lv_room (Nat.le_of_ble_eq_true rfl)) dL_law_1171 ⟨by show _ ≤ 601024; omega, by show _ ≤ 7293034; omega⟩) hS (fun q _ h => hFc q h) hFc (fun r1171 u9 t H locs ht hvm hq hB hz1 hk1 hS => ?_)
  obtain ⟨hP1, -, hD1⟩ := hB
  obtain ⟨y1171_thrown, rfl⟩ : ∃ z, z = u9 := ⟨_, rfl⟩
  rw [ht] at hP1
  obtain ⟨hP, hD⟩ := xj hP hD (rng 205 10) (wX7 cy d ((X7_s u), (X7_aside u), (X7_kept u), (X7_isKept u), (X7_saved u), (X7_savedMany u), (X7_text u), (X7_length u), y1171_thrown, (X7_joint u), (X7_position u), (X7_isWrong u), (X7_isHollow u), (X7_sure u), (X7_away u), (X7_digested u))) (ws' := wL cy cJ a o v1 f1 ++ wX7 cy d ((X7_s u), (X7_aside u), (X7_kept u), (X7_isKept u), (X7_saved u), (X7_savedMany u), (X7_text u), (X7_length u), y1171_thrown, (X7_joint u), (X7_position u), (X7_isWrong u), (X7_isHollow u), (X7_sure u), (X7_away u), (X7_digested u))) hC wX7_fst (xS_right wL_len wX7_len wX7_len) hk1 hFc hP1
  have hq : wp_X7_thrown ((X7_s u), (X7_aside u), (X7_kept u), (X7_isKept u), (X7_saved u), (X7_savedMany u), (X7_text u), (X7_length u), y1171_thrown, (X7_joint u), (X7_position u), (X7_isWrong u), (X7_isHollow u), (X7_sure u), (X7_away u), (X7_digested u)) (fun th => th = k5 ∧ (k5 = 0 → f1 (0 : Int32).toNatClampNeg = r1171.toInt64) ∧ I v1 ((X7_s u), (X7_aside u), (X7_kept u), (X7_isKept u), (X7_saved u), (X7_savedMany u), (X7_text u), (X7_length u), y1171_thrown, (X7_joint u), (X7_position u), (X7_isWrong u), (X7_isHollow u), (X7_sure u), (X7_away u), (X7_digested u)) f1) := hq
  generalize ((X7_s u), (X7_aside u), (X7_kept u), (X7_isKept u), (X7_saved u), (X7_savedMany u), (X7_text u), (X7_length u), y1171_thrown, (X7_joint u), (X7_position u), (X7_isWrong u), (X7_isHollow u), (X7_sure u), (X7_away u), (X7_digested u)) = u1171 at hP hD hq
  refine lv_istore (lv' := [(6, .int r1171), (5, .int k5), (0, .ref b), (1, .ref (a 0)), (2, .ref (d 0)), (3, .ref o), (4, .int i)]) hx hb dL_law_1174 hl (by decide) rfl (fun ls hl => ?_)
  refine lv_aload_n hx hb dL_law_1176 rfl (lv_at hl 4 rfl) ?_
  have hC : (rng 205 10).map (fun i => (wL cy cJ a o v1 f1 ++ wX7 cy d u1171)[i]?) = (wX7 cy d u1171).map some := xC_right wL_len wX7_len
  have hPc := xsubP hP hC
  have hDc := xsubD hD (rng_nd 10 205) hC
  have hFc := va_free (wc := wX7 cy d u1171) hD hS hA (rng 205 10) hC
  refine va_calli (va_runV (As := []) (rest := []) ⟨hx, hb, hml, hown, hts⟩ (c_X7_thrown l dC dI cy d _ u1171 _ hq) (cwV 0 hts gL_law_X7_thrown rfl rfl rfl (by decide +kernel) ⟨Nat.le_of_ble_eq_true rfl, Nat.le_of_ble_eq_true rfl⟩) ⟨xPre_blind, va_recv hKc hPc (ci := 7) (q0 := 0) rfl rfl, xPre_of hPc hKc hDc⟩ rfl rfl hl.1 rfl (lv_room (Nat.le_of_ble_eq_true rfl)) dL_law_1177 ⟨by show _ ≤ 601024; omega, by show _ ≤ 7293034; omega⟩) hS (fun q _ h => hFc q h) hFc (fun r1177 u9 t H locs ht hvm hq hB hz1 hk1 hS => ?_)
  obtain ⟨hP1, -, hD1⟩ := hB
  rw [ht] at hP1
  have hP : va_P (dC, dI) vwCl (wL cy cJ a o v1 f1 ++ wX7 cy d u1171) H := xj_keep hP hD (rng 205 10) hC hP1 hk1
  refine lv_iload hx hb dL_law_1180 (lv_at hl 1 rfl) ?_
  obtain ⟨e1, e2, e3⟩ := hq
  refine lv_icmp_eq (tgt := 1187) hx hb dL_law_1182 (by decide) (fun c1 => ?_) (fun c1 => absurd e1 c1)
  refine lv_iload hx hb dL_law_1187 (lv_at hl 1 rfl) ?_
  refine lv_if_ne (tgt := 1204) hx hb dL_law_1189 (by decide) (fun c2 => ?_) (fun c2 => ?_)
  · refine lv_goto (tgt := 1616) hx hb dL_law_1204 (by decide) ?_
    refine W.widen (k := cells + 2) (n := slots + 12) (by omega) (by omega) ?_
    exact bk _ _ _ _ _ ls e3 hP hD hS (lv_sub hl [2, 3, 4, 5, 6] rfl)
  · refine lv_aload_n hx hb dL_law_1192 rfl (lv_at hl 5 rfl) ?_
    refine lv_iconst (v := 0) hx hb dL_law_1193 (by decide) ?_
    refine va_lald hx hb hK hP 204 4 wL_J rfl vin01 dL_law_1194 ?_
    refine lv_iload hx hb dL_law_1195 (lv_at hl 0 rfl) ?_
    refine lv_i2l hx hb dL_law_1197 rfl ?_
    refine W.lcmp hx hb dL_law_1198 ?_
    refine lv_if_eq (tgt := 1204) hx hb dL_law_1199 (by decide) (fun c3 => ?_) (fun c3 => absurd (by rw [e2 c2]; exact lg_same _) c3)
    refine lv_goto (tgt := 1616) hx hb dL_law_1204 (by decide) ?_
    refine W.widen (k := cells + 2) (n := slots + 12) (by omega) (by omega) ?_
    exact bk _ _ _ _ _ ls e3 hP hD hS (lv_sub hl [2, 3, 4, 5, 6] rfl)
def wK_count (u : V_X7) (x1 x2 : Int32) (I : V_X6 → V_X7 → (Nat → Int64) → Prop) (k : Int32) (v : V_X6) (f : Nat → Int64) : Prop := wp_X7_count u x1 (fun b y_away y_isHollow y_thrown => wp_X7_thrown ((X7_s u), (X7_aside u), (X7_kept u), (X7_isKept u), (X7_saved u), (X7_savedMany u), (X7_text u), (X7_length u), y_thrown, (X7_joint u), (X7_position u), (X7_isWrong u), y_isHollow, (X7_sure u), y_away, (X7_digested u)) (fun th => th = k ∧ (k = 0 → f (0 : Int32).toNatClampNeg = b.toInt64) ∧ I v ((X7_s u), (X7_aside u), (X7_kept u), (X7_isKept u), (X7_saved u), (X7_savedMany u), (X7_text u), (X7_length u), y_thrown, (X7_joint u), (X7_position u), (X7_isWrong u), y_isHollow, (X7_sure u), y_away, (X7_digested u)) f))
def wk_count (v : V_X6) (u : V_X7) (f : Nat → Int64) (x1 x2 : Int32) (I : V_X6 → V_X7 → (Nat → Int64) → Prop) : Prop := wp_X6_count v x1 (fun r z_paths z_survey => wK_count u x1 x2 I 0 ((X6_lawn v), (X6_snapshot v), (X6_trial v), (X6_savedR v), (X6_saved v), (X6_text v), z_survey, z_paths, (X6_snapshotTaken v), (X6_savedCount v), (X6_spareR v)) (vp_updL f (0 : Int32).toNatClampNeg r.toInt64)) (fun E => (E = eA ∧ wK_count u x1 x2 I 1 v f))
set_option maxHeartbeats 4000000 in
set_option maxRecDepth 100000 in
theorem k_count {p : Program} {l : Launch} {e : Env} {s : State} {m : MethodId} {below : List Frame} {meth : Method} {c : Code} {b L : Nat} {xs : Nat → Int32} (C0 : lw_At p s m meth c b L xs) (hl9 : l.stackTraces = false) {dC : Nat → ClassId} {dI : Nat → Nat → Nat} {cy : Nat → ClassId} {cJ : ClassId} (hK : va_K (dC, dI) vwCl (tysJ cy cJ) s) (hE : xEnvL (lA s) s s.heap) {a d : Nat → Nat} {o : Nat} {i : Int32} (h1 : vp_in (i + 1) L) (h2 : vp_in (i + 2) L) {cells slots : Nat} (hc : cells + 2 ≤ 601024) (hs : slots + 12 ≤ 7293034) {v : V_X6} {u : V_X7} {f : Nat → Int64} {H : Heap} {locs : List Loc} {ls : Array Slot} (hP : va_P (dC, dI) vwCl (wL cy cJ a o v f ++ wX7 cy d u) H) (hD : va_D (lA s) (wL cy cJ a o v f ++ wX7 cy d u)) (hS : va_S (lA s) s.heap H locs) (hl : lv_has ls 9 [(0, .ref b), (1, .ref (a 0)), (2, .ref (d 0)), (3, .ref o), (4, .int i)]) {I : V_X6 → V_X7 → (Nat → Int64) → Prop} (hq : wk_count v u f (xs (i + 1).toNatClampNeg) (xs (i + 2).toNatClampNeg) I) (bk : BK p l e s m below meth c b dC dI cy cJ a d o i (cells + 2) (slots + 12) I) : W p l e room_1 s m #[Value.ref b] below meth c H locs cells slots (lw_Z below #[Value.ref b] s) (F0 m 1207 ls []) := by
  obtain ⟨hx, hb, hr, hml, hown, hts, hX, hbl, hlocks, hgv⟩ := C0
  have hts : ∀ w ∈ wsL_law, w.before #[Value.ref b] s = true := fun w h => hts w (wsL_law_in w h)
  have hA : ∀ q : Nat, s.heap.size ≤ q → lA s q := fun _ h => h
  have hbA : ¬ lA s b := Nat.not_le.mpr hbl
  have hKc := tysJ_sub hK
  unfold wk_count at hq
  refine lv_aload_n hx hb dL_law_1207 rfl (lv_at hl 1 rfl) ?_
  refine lv_aload_n hx hb dL_law_1208 rfl (lv_at hl 0 rfl) ?_
  refine lv_iload hx hb dL_law_1209 (lv_at hl 4 rfl) ?_
  refine lv_iconst (v := 1) hx hb dL_law_1211 (by decide) ?_
  refine lv_iadd hx hb dL_law_1212 ?_
  refine va_sld hx hb hX hbl hbA hS h1 dL_law_1213 ?_
  refine lv_aload_n hx hb dL_law_1214 rfl (lv_at hl 3 rfl) ?_
  have hC : (rng 0 205).map (fun i => (wL cy cJ a o v f ++ wX7 cy d u)[i]?) = (wL cy cJ a o v f).map some := xC_left wL_len
  have hPc := xsubP hP hC
  have hDc := xsubD hD (rng_nd 205 0) hC
  have hFc := va_free (wc := wL cy cJ a o v f) hD hS hA (rng 0 205) hC
  refine vx_calli (vx_runSX (As := [.ref (a 0), .int (xs (i + 1).toNatClampNeg), .ref o]) (rest := []) ⟨hx, hb, hml, hown, hts⟩ (c_L_count l dC dI cy cJ a o _ v f (xs (i + 1).toNatClampNeg) (wK_count u (xs (i + 1).toNatClampNeg) (xs (i + 2).toNatClampNeg) I) hl9 hq) (vx_cwSW 3 hts gL_law_L_count rfl rfl rfl (by decide +kernel) ⟨Nat.le_of_ble_eq_true rfl, Nat.le_of_ble_eq_true rfl⟩) ⟨preL_blind, preL_of hPc hK hDc hE hS hFc⟩ rfl rfl hl.1 rfl (lv_room (Nat.le_of_ble_eq_true rfl)) dL_law_1215 ⟨by show _ ≤ 601024; omega, by show _ ≤ 7293034; omega⟩) hS (fun q _ h => hFc q h) hFc (fun q _ h => hFc q h) (fun E ce q9 _ t H locs ht hvm _ hB hz1 hk1 hS hce hcv hcl => False.elim hB) (fun k5 u9 t H locs ht hvm hq hB hz1 hk1 hS => ?_)
  obtain ⟨v1, f1⟩ := u9
  obtain ⟨hP1, hD1⟩ := hB
  rw [ht] at hP1
  obtain ⟨hP, hD⟩ := xj hP hD (rng 0 205) (wL cy cJ a o v1 f1) (ws' := wL cy cJ a o v1 f1 ++ wX7 cy d u) hC wL_fst (xS_left wL_len wL_len) hk1 hFc hP1
  have hq : wK_count u (xs (i + 1).toNatClampNeg) (xs (i + 2).toNatClampNeg) I k5 v1 f1 := hq
  unfold wK_count at hq
  refine lv_istore (lv' := [(5, .int k5), (0, .ref b), (1, .ref (a 0)), (2, .ref (d 0)), (3, .ref o), (4, .int i)]) hx hb dL_law_1218 hl (by decide) rfl (fun ls hl => ?_)
  refine lv_aload_n hx hb dL_law_1220 rfl (lv_at hl 3 rfl) ?_
  refine lv_aload_n hx hb dL_law_1221 rfl (lv_at hl 1 rfl) ?_
  refine lv_iload hx hb dL_law_1222 (lv_at hl 5 rfl) ?_
  refine lv_iconst (v := 1) hx hb dL_law_1224 (by decide) ?_
  refine lv_iadd hx hb dL_law_1225 ?_
  refine va_sld hx hb hX hbl hbA hS h1 dL_law_1226 ?_
  have hC : (rng 205 10).map (fun i => (wL cy cJ a o v1 f1 ++ wX7 cy d u)[i]?) = (wX7 cy d u).map some := xC_right wL_len wX7_len
  have hPc := xsubP hP hC
  have hDc := xsubD hD (rng_nd 10 205) hC
  have hFc := va_free (wc := wX7 cy d u) hD hS hA (rng 205 10) hC
  refine va_calli (va_runV (As := [.int (xs (i + 1).toNatClampNeg)]) (rest := []) ⟨hx, hb, hml, hown, hts⟩ (c_X7_count l dC dI cy d _ u (xs (i + 1).toNatClampNeg) _ hq) (cwV 1 hts gL_law_X7_count rfl rfl rfl (by decide +kernel) ⟨Nat.le_of_ble_eq_true rfl, Nat.le_of_ble_eq_true rfl⟩) ⟨xPre_blind, va_recv hKc hPc (ci := 7) (q0 := 0) rfl rfl, xPre_of hPc hKc hDc⟩ rfl rfl hl.1 rfl (lv_room (Nat.le_of_ble_eq_true rfl)) dL_law_1227 ⟨by show _ ≤ 601024; omega, by show _ ≤ 7293034; omega⟩) hS (fun q _ h => hFc q h) hFc (fun r1227 u9 t H locs ht hvm hq hB hz1 hk1 hS => ?_)
  obtain ⟨hP1, -, hD1⟩ := hB
  obtain ⟨y1227_away, y1227_isHollow, y1227_thrown⟩ := u9
  rw [ht] at hP1
  obtain ⟨hP, hD⟩ := xj hP hD (rng 205 10) (wX7 cy d ((X7_s u), (X7_aside u), (X7_kept u), (X7_isKept u), (X7_saved u), (X7_savedMany u), (X7_text u), (X7_length u), y1227_thrown, (X7_joint u), (X7_position u), (X7_isWrong u), y1227_isHollow, (X7_sure u), y1227_away, (X7_digested u))) (ws' := wL cy cJ a o v1 f1 ++ wX7 cy d ((X7_s u), (X7_aside u), (X7_kept u), (X7_isKept u), (X7_saved u), (X7_savedMany u), (X7_text u), (X7_length u), y1227_thrown, (X7_joint u), (X7_position u), (X7_isWrong u), y1227_isHollow, (X7_sure u), y1227_away, (X7_digested u))) hC wX7_fst (xS_right wL_len wX7_len wX7_len) hk1 hFc hP1
  have hq : wp_X7_thrown ((X7_s u), (X7_aside u), (X7_kept u), (X7_isKept u), (X7_saved u), (X7_savedMany u), (X7_text u), (X7_length u), y1227_thrown, (X7_joint u), (X7_position u), (X7_isWrong u), y1227_isHollow, (X7_sure u), y1227_away, (X7_digested u)) (fun th => th = k5 ∧ (k5 = 0 → f1 (0 : Int32).toNatClampNeg = r1227.toInt64) ∧ I v1 ((X7_s u), (X7_aside u), (X7_kept u), (X7_isKept u), (X7_saved u), (X7_savedMany u), (X7_text u), (X7_length u), y1227_thrown, (X7_joint u), (X7_position u), (X7_isWrong u), y1227_isHollow, (X7_sure u), y1227_away, (X7_digested u)) f1) := hq
  generalize ((X7_s u), (X7_aside u), (X7_kept u), (X7_isKept u), (X7_saved u), (X7_savedMany u), (X7_text u), (X7_length u), y1227_thrown, (X7_joint u), (X7_position u), (X7_isWrong u), y1227_isHollow, (X7_sure u), y1227_away, (X7_digested u)) = u1227 at hP hD hq
  refine lv_istore (lv' := [(6, .int r1227), (5, .int k5), (0, .ref b), (1, .ref (a 0)), (2, .ref (d 0)), (3, .ref o), (4, .int i)]) hx hb dL_law_1230 hl (by decide) rfl (fun ls hl => ?_)
  refine lv_aload_n hx hb dL_law_1232 rfl (lv_at hl 4 rfl) ?_
  have hC : (rng 205 10).map (fun i => (wL cy cJ a o v1 f1 ++ wX7 cy d u1227)[i]?) = (wX7 cy d u1227).map some := xC_right wL_len wX7_len
  have hPc := xsubP hP hC
  have hDc := xsubD hD (rng_nd 10 205) hC
  have hFc := va_free (wc := wX7 cy d u1227) hD hS hA (rng 205 10) hC
  refine va_calli (va_runV (As := []) (rest := []) ⟨hx, hb, hml, hown, hts⟩ (c_X7_thrown l dC dI cy d _ u1227 _ hq) (cwV 0 hts gL_law_X7_thrown rfl rfl rfl (by decide +kernel) ⟨Nat.le_of_ble_eq_true rfl, Nat.le_of_ble_eq_true rfl⟩) ⟨xPre_blind, va_recv hKc hPc (ci := 7) (q0 := 0) rfl rfl, xPre_of hPc hKc hDc⟩ rfl rfl hl.1 rfl (lv_room (Nat.le_of_ble_eq_true rfl)) dL_law_1233 ⟨by show _ ≤ 601024; omega, by show _ ≤ 7293034; omega⟩) hS (fun q _ h => hFc q h) hFc (fun r1233 u9 t H locs ht hvm hq hB hz1 hk1 hS => ?_)
  obtain ⟨hP1, -, hD1⟩ := hB
  rw [ht] at hP1
  have hP : va_P (dC, dI) vwCl (wL cy cJ a o v1 f1 ++ wX7 cy d u1227) H := xj_keep hP hD (rng 205 10) hC hP1 hk1
  refine lv_iload hx hb dL_law_1236 (lv_at hl 1 rfl) ?_
  obtain ⟨e1, e2, e3⟩ := hq
  refine lv_icmp_eq (tgt := 1243) hx hb dL_law_1238 (by decide) (fun c1 => ?_) (fun c1 => absurd e1 c1)
  refine lv_iload hx hb dL_law_1243 (lv_at hl 1 rfl) ?_
  refine lv_if_ne (tgt := 1260) hx hb dL_law_1245 (by decide) (fun c2 => ?_) (fun c2 => ?_)
  · refine lv_goto (tgt := 1616) hx hb dL_law_1260 (by decide) ?_
    refine W.widen (k := cells + 2) (n := slots + 12) (by omega) (by omega) ?_
    exact bk _ _ _ _ _ ls e3 hP hD hS (lv_sub hl [2, 3, 4, 5, 6] rfl)
  · refine lv_aload_n hx hb dL_law_1248 rfl (lv_at hl 5 rfl) ?_
    refine lv_iconst (v := 0) hx hb dL_law_1249 (by decide) ?_
    refine va_lald hx hb hK hP 204 4 wL_J rfl vin01 dL_law_1250 ?_
    refine lv_iload hx hb dL_law_1251 (lv_at hl 0 rfl) ?_
    refine lv_i2l hx hb dL_law_1253 rfl ?_
    refine W.lcmp hx hb dL_law_1254 ?_
    refine lv_if_eq (tgt := 1260) hx hb dL_law_1255 (by decide) (fun c3 => ?_) (fun c3 => absurd (by rw [e2 c2]; exact lg_same _) c3)
    refine lv_goto (tgt := 1616) hx hb dL_law_1260 (by decide) ?_
    refine W.widen (k := cells + 2) (n := slots + 12) (by omega) (by omega) ?_
    exact bk _ _ _ _ _ ls e3 hP hD hS (lv_sub hl [2, 3, 4, 5, 6] rfl)
def wK_joined (u : V_X7) (x1 x2 : Int32) (I : V_X6 → V_X7 → (Nat → Int64) → Prop) (k : Int32) (v : V_X6) (f : Nat → Int64) : Prop := wp_X7_joined u x1 x2 (fun b y_away y_thrown => wp_X7_thrown ((X7_s u), (X7_aside u), (X7_kept u), (X7_isKept u), (X7_saved u), (X7_savedMany u), (X7_text u), (X7_length u), y_thrown, (X7_joint u), (X7_position u), (X7_isWrong u), (X7_isHollow u), (X7_sure u), y_away, (X7_digested u)) (fun th => th = k ∧ (k = 0 → f (0 : Int32).toNatClampNeg = b.toInt64) ∧ I v ((X7_s u), (X7_aside u), (X7_kept u), (X7_isKept u), (X7_saved u), (X7_savedMany u), (X7_text u), (X7_length u), y_thrown, (X7_joint u), (X7_position u), (X7_isWrong u), (X7_isHollow u), (X7_sure u), y_away, (X7_digested u)) f))
def wk_joined (v : V_X6) (u : V_X7) (f : Nat → Int64) (x1 x2 : Int32) (I : V_X6 → V_X7 → (Nat → Int64) → Prop) : Prop := wp_X6_joined v x1 x2 (fun r z_paths => wK_joined u x1 x2 I 0 ((X6_lawn v), (X6_snapshot v), (X6_trial v), (X6_savedR v), (X6_saved v), (X6_text v), (X6_survey v), z_paths, (X6_snapshotTaken v), (X6_savedCount v), (X6_spareR v)) (vp_updL f (0 : Int32).toNatClampNeg r.toInt64)) (fun E => (E = eI ∧ wK_joined u x1 x2 I 1 v f))
set_option maxHeartbeats 4000000 in
set_option maxRecDepth 100000 in
theorem k_joined {p : Program} {l : Launch} {e : Env} {s : State} {m : MethodId} {below : List Frame} {meth : Method} {c : Code} {b L : Nat} {xs : Nat → Int32} (C0 : lw_At p s m meth c b L xs) (hl9 : l.stackTraces = false) {dC : Nat → ClassId} {dI : Nat → Nat → Nat} {cy : Nat → ClassId} {cJ : ClassId} (hK : va_K (dC, dI) vwCl (tysJ cy cJ) s) (hE : xEnvL (lA s) s s.heap) {a d : Nat → Nat} {o : Nat} {i : Int32} (h1 : vp_in (i + 1) L) (h2 : vp_in (i + 2) L) {cells slots : Nat} (hc : cells + 2 ≤ 601024) (hs : slots + 12 ≤ 7293034) {v : V_X6} {u : V_X7} {f : Nat → Int64} {H : Heap} {locs : List Loc} {ls : Array Slot} (hP : va_P (dC, dI) vwCl (wL cy cJ a o v f ++ wX7 cy d u) H) (hD : va_D (lA s) (wL cy cJ a o v f ++ wX7 cy d u)) (hS : va_S (lA s) s.heap H locs) (hl : lv_has ls 9 [(0, .ref b), (1, .ref (a 0)), (2, .ref (d 0)), (3, .ref o), (4, .int i)]) {I : V_X6 → V_X7 → (Nat → Int64) → Prop} (hq : wk_joined v u f (xs (i + 1).toNatClampNeg) (xs (i + 2).toNatClampNeg) I) (bk : BK p l e s m below meth c b dC dI cy cJ a d o i (cells + 2) (slots + 12) I) : W p l e room_1 s m #[Value.ref b] below meth c H locs cells slots (lw_Z below #[Value.ref b] s) (F0 m 1263 ls []) := by
  obtain ⟨hx, hb, hr, hml, hown, hts, hX, hbl, hlocks, hgv⟩ := C0
  have hts : ∀ w ∈ wsL_law, w.before #[Value.ref b] s = true := fun w h => hts w (wsL_law_in w h)
  have hA : ∀ q : Nat, s.heap.size ≤ q → lA s q := fun _ h => h
  have hbA : ¬ lA s b := Nat.not_le.mpr hbl
  have hKc := tysJ_sub hK
  unfold wk_joined at hq
  refine lv_aload_n hx hb dL_law_1263 rfl (lv_at hl 1 rfl) ?_
  refine lv_aload_n hx hb dL_law_1264 rfl (lv_at hl 0 rfl) ?_
  refine lv_iload hx hb dL_law_1265 (lv_at hl 4 rfl) ?_
  refine lv_iconst (v := 1) hx hb dL_law_1267 (by decide) ?_
  refine lv_iadd hx hb dL_law_1268 ?_
  refine va_sld hx hb hX hbl hbA hS h1 dL_law_1269 ?_
  refine lv_aload_n hx hb dL_law_1270 rfl (lv_at hl 0 rfl) ?_
  refine lv_iload hx hb dL_law_1271 (lv_at hl 4 rfl) ?_
  refine lv_iconst (v := 2) hx hb dL_law_1273 (by decide) ?_
  refine lv_iadd hx hb dL_law_1274 ?_
  refine va_sld hx hb hX hbl hbA hS h2 dL_law_1275 ?_
  refine lv_aload_n hx hb dL_law_1276 rfl (lv_at hl 3 rfl) ?_
  have hC : (rng 0 205).map (fun i => (wL cy cJ a o v f ++ wX7 cy d u)[i]?) = (wL cy cJ a o v f).map some := xC_left wL_len
  have hPc := xsubP hP hC
  have hDc := xsubD hD (rng_nd 205 0) hC
  have hFc := va_free (wc := wL cy cJ a o v f) hD hS hA (rng 0 205) hC
  refine vx_calli (vx_runSX (As := [.ref (a 0), .int (xs (i + 1).toNatClampNeg), .int (xs (i + 2).toNatClampNeg), .ref o]) (rest := []) ⟨hx, hb, hml, hown, hts⟩ (c_L_joined l dC dI cy cJ a o _ v f (xs (i + 1).toNatClampNeg) (xs (i + 2).toNatClampNeg) (wK_joined u (xs (i + 1).toNatClampNeg) (xs (i + 2).toNatClampNeg) I) hl9 hq) (vx_cwSW 4 hts gL_law_L_joined rfl rfl rfl (by decide +kernel) ⟨Nat.le_of_ble_eq_true rfl, Nat.le_of_ble_eq_true rfl⟩) ⟨preL_blind, preL_of hPc hK hDc hE hS hFc⟩ rfl rfl hl.1 rfl (lv_room (Nat.le_of_ble_eq_true rfl)) dL_law_1277 ⟨by show _ ≤ 601024; omega, by show _ ≤ 7293034; omega⟩) hS (fun q _ h => hFc q h) hFc (fun q _ h => hFc q h) (fun E ce q9 _ t H locs ht hvm _ hB hz1 hk1 hS hce hcv hcl => False.elim hB) (fun k5 u9 t H locs ht hvm hq hB hz1 hk1 hS => ?_)
  obtain ⟨v1, f1⟩ := u9
  obtain ⟨hP1, hD1⟩ := hB
  rw [ht] at hP1
  obtain ⟨hP, hD⟩ := xj hP hD (rng 0 205) (wL cy cJ a o v1 f1) (ws' := wL cy cJ a o v1 f1 ++ wX7 cy d u) hC wL_fst (xS_left wL_len wL_len) hk1 hFc hP1
  have hq : wK_joined u (xs (i + 1).toNatClampNeg) (xs (i + 2).toNatClampNeg) I k5 v1 f1 := hq
  unfold wK_joined at hq
  refine lv_istore (lv' := [(5, .int k5), (0, .ref b), (1, .ref (a 0)), (2, .ref (d 0)), (3, .ref o), (4, .int i)]) hx hb dL_law_1280 hl (by decide) rfl (fun ls hl => ?_)
  refine lv_aload_n hx hb dL_law_1282 rfl (lv_at hl 3 rfl) ?_
  refine lv_aload_n hx hb dL_law_1283 rfl (lv_at hl 1 rfl) ?_
  refine lv_iload hx hb dL_law_1284 (lv_at hl 5 rfl) ?_
  refine lv_iconst (v := 1) hx hb dL_law_1286 (by decide) ?_
  refine lv_iadd hx hb dL_law_1287 ?_
  refine va_sld hx hb hX hbl hbA hS h1 dL_law_1288 ?_
  refine lv_aload_n hx hb dL_law_1289 rfl (lv_at hl 1 rfl) ?_
  refine lv_iload hx hb dL_law_1290 (lv_at hl 5 rfl) ?_
  refine lv_iconst (v := 2) hx hb dL_law_1292 (by decide) ?_
  refine lv_iadd hx hb dL_law_1293 ?_
  refine va_sld hx hb hX hbl hbA hS h2 dL_law_1294 ?_
  have hC : (rng 205 10).map (fun i => (wL cy cJ a o v1 f1 ++ wX7 cy d u)[i]?) = (wX7 cy d u).map some := xC_right wL_len wX7_len
  have hPc := xsubP hP hC
  have hDc := xsubD hD (rng_nd 10 205) hC
  have hFc := va_free (wc := wX7 cy d u) hD hS hA (rng 205 10) hC
  refine va_calli (va_runV (As := [.int (xs (i + 1).toNatClampNeg), .int (xs (i + 2).toNatClampNeg)]) (rest := []) ⟨hx, hb, hml, hown, hts⟩ (c_X7_joined l dC dI cy d _ u (xs (i + 1).toNatClampNeg) (xs (i + 2).toNatClampNeg) _ hq) (cwV 2 hts gL_law_X7_joined rfl rfl rfl (by decide +kernel) ⟨Nat.le_of_ble_eq_true rfl, Nat.le_of_ble_eq_true rfl⟩) ⟨xPre_blind, va_recv hKc hPc (ci := 7) (q0 := 0) rfl rfl, xPre_of hPc hKc hDc⟩ rfl rfl hl.1 rfl (lv_room (Nat.le_of_ble_eq_true rfl)) dL_law_1295 ⟨by show _ ≤ 601024; omega, by show _ ≤ 7293034; omega⟩) hS (fun q _ h => hFc q h) hFc (fun r1295 u9 t H locs ht hvm hq hB hz1 hk1 hS => ?_)
  obtain ⟨hP1, -, hD1⟩ := hB
  obtain ⟨y1295_away, y1295_thrown⟩ := u9
  rw [ht] at hP1
  obtain ⟨hP, hD⟩ := xj hP hD (rng 205 10) (wX7 cy d ((X7_s u), (X7_aside u), (X7_kept u), (X7_isKept u), (X7_saved u), (X7_savedMany u), (X7_text u), (X7_length u), y1295_thrown, (X7_joint u), (X7_position u), (X7_isWrong u), (X7_isHollow u), (X7_sure u), y1295_away, (X7_digested u))) (ws' := wL cy cJ a o v1 f1 ++ wX7 cy d ((X7_s u), (X7_aside u), (X7_kept u), (X7_isKept u), (X7_saved u), (X7_savedMany u), (X7_text u), (X7_length u), y1295_thrown, (X7_joint u), (X7_position u), (X7_isWrong u), (X7_isHollow u), (X7_sure u), y1295_away, (X7_digested u))) hC wX7_fst (xS_right wL_len wX7_len wX7_len) hk1 hFc hP1
  have hq : wp_X7_thrown ((X7_s u), (X7_aside u), (X7_kept u), (X7_isKept u), (X7_saved u), (X7_savedMany u), (X7_text u), (X7_length u), y1295_thrown, (X7_joint u), (X7_position u), (X7_isWrong u), (X7_isHollow u), (X7_sure u), y1295_away, (X7_digested u)) (fun th => th = k5 ∧ (k5 = 0 → f1 (0 : Int32).toNatClampNeg = r1295.toInt64) ∧ I v1 ((X7_s u), (X7_aside u), (X7_kept u), (X7_isKept u), (X7_saved u), (X7_savedMany u), (X7_text u), (X7_length u), y1295_thrown, (X7_joint u), (X7_position u), (X7_isWrong u), (X7_isHollow u), (X7_sure u), y1295_away, (X7_digested u)) f1) := hq
  generalize ((X7_s u), (X7_aside u), (X7_kept u), (X7_isKept u), (X7_saved u), (X7_savedMany u), (X7_text u), (X7_length u), y1295_thrown, (X7_joint u), (X7_position u), (X7_isWrong u), (X7_isHollow u), (X7_sure u), y1295_away, (X7_digested u)) = u1295 at hP hD hq
  refine lv_istore (lv' := [(6, .int r1295), (5, .int k5), (0, .ref b), (1, .ref (a 0)), (2, .ref (d 0)), (3, .ref o), (4, .int i)]) hx hb dL_law_1298 hl (by decide) rfl (fun ls hl => ?_)
  refine lv_aload_n hx hb dL_law_1300 rfl (lv_at hl 4 rfl) ?_
  have hC : (rng 205 10).map (fun i => (wL cy cJ a o v1 f1 ++ wX7 cy d u1295)[i]?) = (wX7 cy d u1295).map some := xC_right wL_len wX7_len
  have hPc := xsubP hP hC
  have hDc := xsubD hD (rng_nd 10 205) hC
  have hFc := va_free (wc := wX7 cy d u1295) hD hS hA (rng 205 10) hC
  refine va_calli (va_runV (As := []) (rest := []) ⟨hx, hb, hml, hown, hts⟩ (c_X7_thrown l dC dI cy d _ u1295 _ hq) (cwV 0 hts gL_law_X7_thrown rfl rfl rfl (by decide +kernel) ⟨Nat.le_of_ble_eq_true rfl, Nat.le_of_ble_eq_true rfl⟩) ⟨xPre_blind, va_recv hKc hPc (ci := 7) (q0 := 0) rfl rfl, xPre_of hPc hKc hDc⟩ rfl rfl hl.1 rfl (lv_room (Nat.le_of_ble_eq_true rfl)) dL_law_1301 ⟨by show _ ≤ 601024; omega, by show _ ≤ 7293034; omega⟩) hS (fun q _ h => hFc q h) hFc (fun r1301 u9 t H locs ht hvm hq hB hz1 hk1 hS => ?_)
  obtain ⟨hP1, -, hD1⟩ := hB
  rw [ht] at hP1
  have hP : va_P (dC, dI) vwCl (wL cy cJ a o v1 f1 ++ wX7 cy d u1295) H := xj_keep hP hD (rng 205 10) hC hP1 hk1
  refine lv_iload hx hb dL_law_1304 (lv_at hl 1 rfl) ?_
  obtain ⟨e1, e2, e3⟩ := hq
  refine lv_icmp_eq (tgt := 1311) hx hb dL_law_1306 (by decide) (fun c1 => ?_) (fun c1 => absurd e1 c1)
  refine lv_iload hx hb dL_law_1311 (lv_at hl 1 rfl) ?_
  refine lv_if_ne (tgt := 1328) hx hb dL_law_1313 (by decide) (fun c2 => ?_) (fun c2 => ?_)
  · refine lv_goto (tgt := 1616) hx hb dL_law_1328 (by decide) ?_
    refine W.widen (k := cells + 2) (n := slots + 12) (by omega) (by omega) ?_
    exact bk _ _ _ _ _ ls e3 hP hD hS (lv_sub hl [2, 3, 4, 5, 6] rfl)
  · refine lv_aload_n hx hb dL_law_1316 rfl (lv_at hl 5 rfl) ?_
    refine lv_iconst (v := 0) hx hb dL_law_1317 (by decide) ?_
    refine va_lald hx hb hK hP 204 4 wL_J rfl vin01 dL_law_1318 ?_
    refine lv_iload hx hb dL_law_1319 (lv_at hl 0 rfl) ?_
    refine lv_i2l hx hb dL_law_1321 rfl ?_
    refine W.lcmp hx hb dL_law_1322 ?_
    refine lv_if_eq (tgt := 1328) hx hb dL_law_1323 (by decide) (fun c3 => ?_) (fun c3 => absurd (by rw [e2 c2]; exact lg_same _) c3)
    refine lv_goto (tgt := 1616) hx hb dL_law_1328 (by decide) ?_
    refine W.widen (k := cells + 2) (n := slots + 12) (by omega) (by omega) ?_
    exact bk _ _ _ _ _ ls e3 hP hD hS (lv_sub hl [2, 3, 4, 5, 6] rfl)
def wK_fewest (u : V_X7) (x1 x2 : Int32) (I : V_X6 → V_X7 → (Nat → Int64) → Prop) (k : Int32) (v : V_X6) (f : Nat → Int64) : Prop := wp_X7_fewest u x1 x2 (fun b y_away y_thrown => wp_X7_thrown ((X7_s u), (X7_aside u), (X7_kept u), (X7_isKept u), (X7_saved u), (X7_savedMany u), (X7_text u), (X7_length u), y_thrown, (X7_joint u), (X7_position u), (X7_isWrong u), (X7_isHollow u), (X7_sure u), y_away, (X7_digested u)) (fun th => th = k ∧ (k = 0 → f (0 : Int32).toNatClampNeg = b.toInt64) ∧ I v ((X7_s u), (X7_aside u), (X7_kept u), (X7_isKept u), (X7_saved u), (X7_savedMany u), (X7_text u), (X7_length u), y_thrown, (X7_joint u), (X7_position u), (X7_isWrong u), (X7_isHollow u), (X7_sure u), y_away, (X7_digested u)) f))
def wk_fewest (v : V_X6) (u : V_X7) (f : Nat → Int64) (x1 x2 : Int32) (I : V_X6 → V_X7 → (Nat → Int64) → Prop) : Prop := wp_X6_fewest v x1 x2 (fun r z_paths => wK_fewest u x1 x2 I 0 ((X6_lawn v), (X6_snapshot v), (X6_trial v), (X6_savedR v), (X6_saved v), (X6_text v), (X6_survey v), z_paths, (X6_snapshotTaken v), (X6_savedCount v), (X6_spareR v)) (vp_updL f (0 : Int32).toNatClampNeg r.toInt64)) (fun E => (E = eI ∧ wK_fewest u x1 x2 I 1 v f))
set_option maxHeartbeats 4000000 in
set_option maxRecDepth 100000 in
theorem k_fewest {p : Program} {l : Launch} {e : Env} {s : State} {m : MethodId} {below : List Frame} {meth : Method} {c : Code} {b L : Nat} {xs : Nat → Int32} (C0 : lw_At p s m meth c b L xs) (hl9 : l.stackTraces = false) {dC : Nat → ClassId} {dI : Nat → Nat → Nat} {cy : Nat → ClassId} {cJ : ClassId} (hK : va_K (dC, dI) vwCl (tysJ cy cJ) s) (hE : xEnvL (lA s) s s.heap) {a d : Nat → Nat} {o : Nat} {i : Int32} (h1 : vp_in (i + 1) L) (h2 : vp_in (i + 2) L) {cells slots : Nat} (hc : cells + 2 ≤ 601024) (hs : slots + 12 ≤ 7293034) {v : V_X6} {u : V_X7} {f : Nat → Int64} {H : Heap} {locs : List Loc} {ls : Array Slot} (hP : va_P (dC, dI) vwCl (wL cy cJ a o v f ++ wX7 cy d u) H) (hD : va_D (lA s) (wL cy cJ a o v f ++ wX7 cy d u)) (hS : va_S (lA s) s.heap H locs) (hl : lv_has ls 9 [(0, .ref b), (1, .ref (a 0)), (2, .ref (d 0)), (3, .ref o), (4, .int i)]) {I : V_X6 → V_X7 → (Nat → Int64) → Prop} (hq : wk_fewest v u f (xs (i + 1).toNatClampNeg) (xs (i + 2).toNatClampNeg) I) (bk : BK p l e s m below meth c b dC dI cy cJ a d o i (cells + 2) (slots + 12) I) : W p l e room_1 s m #[Value.ref b] below meth c H locs cells slots (lw_Z below #[Value.ref b] s) (F0 m 1331 ls []) := by
  obtain ⟨hx, hb, hr, hml, hown, hts, hX, hbl, hlocks, hgv⟩ := C0
  have hts : ∀ w ∈ wsL_law, w.before #[Value.ref b] s = true := fun w h => hts w (wsL_law_in w h)
  have hA : ∀ q : Nat, s.heap.size ≤ q → lA s q := fun _ h => h
  have hbA : ¬ lA s b := Nat.not_le.mpr hbl
  have hKc := tysJ_sub hK
  unfold wk_fewest at hq
  refine lv_aload_n hx hb dL_law_1331 rfl (lv_at hl 1 rfl) ?_
  refine lv_aload_n hx hb dL_law_1332 rfl (lv_at hl 0 rfl) ?_
  refine lv_iload hx hb dL_law_1333 (lv_at hl 4 rfl) ?_
  refine lv_iconst (v := 1) hx hb dL_law_1335 (by decide) ?_
  refine lv_iadd hx hb dL_law_1336 ?_
  refine va_sld hx hb hX hbl hbA hS h1 dL_law_1337 ?_
  refine lv_aload_n hx hb dL_law_1338 rfl (lv_at hl 0 rfl) ?_
  refine lv_iload hx hb dL_law_1339 (lv_at hl 4 rfl) ?_
  refine lv_iconst (v := 2) hx hb dL_law_1341 (by decide) ?_
  refine lv_iadd hx hb dL_law_1342 ?_
  refine va_sld hx hb hX hbl hbA hS h2 dL_law_1343 ?_
  refine lv_aload_n hx hb dL_law_1344 rfl (lv_at hl 3 rfl) ?_
  have hC : (rng 0 205).map (fun i => (wL cy cJ a o v f ++ wX7 cy d u)[i]?) = (wL cy cJ a o v f).map some := xC_left wL_len
  have hPc := xsubP hP hC
  have hDc := xsubD hD (rng_nd 205 0) hC
  have hFc := va_free (wc := wL cy cJ a o v f) hD hS hA (rng 0 205) hC
  refine vx_calli (vx_runSX (As := [.ref (a 0), .int (xs (i + 1).toNatClampNeg), .int (xs (i + 2).toNatClampNeg), .ref o]) (rest := []) ⟨hx, hb, hml, hown, hts⟩ (c_L_fewest l dC dI cy cJ a o _ v f (xs (i + 1).toNatClampNeg) (xs (i + 2).toNatClampNeg) (wK_fewest u (xs (i + 1).toNatClampNeg) (xs (i + 2).toNatClampNeg) I) hl9 hq) (vx_cwSW 4 hts gL_law_L_fewest rfl rfl rfl (by decide +kernel) ⟨Nat.le_of_ble_eq_true rfl, Nat.le_of_ble_eq_true rfl⟩) ⟨preL_blind, preL_of hPc hK hDc hE hS hFc⟩ rfl rfl hl.1 rfl (lv_room (Nat.le_of_ble_eq_true rfl)) dL_law_1345 ⟨by show _ ≤ 601024; omega, by show _ ≤ 7293034; omega⟩) hS (fun q _ h => hFc q h) hFc (fun q _ h => hFc q h) (fun E ce q9 _ t H locs ht hvm _ hB hz1 hk1 hS hce hcv hcl => False.elim hB) (fun k5 u9 t H locs ht hvm hq hB hz1 hk1 hS => ?_)
  obtain ⟨v1, f1⟩ := u9
  obtain ⟨hP1, hD1⟩ := hB
  rw [ht] at hP1
  obtain ⟨hP, hD⟩ := xj hP hD (rng 0 205) (wL cy cJ a o v1 f1) (ws' := wL cy cJ a o v1 f1 ++ wX7 cy d u) hC wL_fst (xS_left wL_len wL_len) hk1 hFc hP1
  have hq : wK_fewest u (xs (i + 1).toNatClampNeg) (xs (i + 2).toNatClampNeg) I k5 v1 f1 := hq
  unfold wK_fewest at hq
  refine lv_istore (lv' := [(5, .int k5), (0, .ref b), (1, .ref (a 0)), (2, .ref (d 0)), (3, .ref o), (4, .int i)]) hx hb dL_law_1348 hl (by decide) rfl (fun ls hl => ?_)
  refine lv_aload_n hx hb dL_law_1350 rfl (lv_at hl 3 rfl) ?_
  refine lv_aload_n hx hb dL_law_1351 rfl (lv_at hl 1 rfl) ?_
  refine lv_iload hx hb dL_law_1352 (lv_at hl 5 rfl) ?_
  refine lv_iconst (v := 1) hx hb dL_law_1354 (by decide) ?_
  refine lv_iadd hx hb dL_law_1355 ?_
  refine va_sld hx hb hX hbl hbA hS h1 dL_law_1356 ?_
  refine lv_aload_n hx hb dL_law_1357 rfl (lv_at hl 1 rfl) ?_
  refine lv_iload hx hb dL_law_1358 (lv_at hl 5 rfl) ?_
  refine lv_iconst (v := 2) hx hb dL_law_1360 (by decide) ?_
  refine lv_iadd hx hb dL_law_1361 ?_
  refine va_sld hx hb hX hbl hbA hS h2 dL_law_1362 ?_
  have hC : (rng 205 10).map (fun i => (wL cy cJ a o v1 f1 ++ wX7 cy d u)[i]?) = (wX7 cy d u).map some := xC_right wL_len wX7_len
  have hPc := xsubP hP hC
  have hDc := xsubD hD (rng_nd 10 205) hC
  have hFc := va_free (wc := wX7 cy d u) hD hS hA (rng 205 10) hC
  refine va_calli (va_runV (As := [.int (xs (i + 1).toNatClampNeg), .int (xs (i + 2).toNatClampNeg)]) (rest := []) ⟨hx, hb, hml, hown, hts⟩ (c_X7_fewest l dC dI cy d _ u (xs (i + 1).toNatClampNeg) (xs (i + 2).toNatClampNeg) _ hq) (cwV 2 hts gL_law_X7_fewest rfl rfl rfl (by decide +kernel) ⟨Nat.le_of_ble_eq_true rfl, Nat.le_of_ble_eq_true rfl⟩) ⟨xPre_blind, va_recv hKc hPc (ci := 7) (q0 := 0) rfl rfl, xPre_of hPc hKc hDc⟩ rfl rfl hl.1 rfl (lv_room (Nat.le_of_ble_eq_true rfl)) dL_law_1363 ⟨by show _ ≤ 601024; omega, by show _ ≤ 7293034; omega⟩) hS (fun q _ h => hFc q h) hFc (fun r1363 u9 t H locs ht hvm hq hB hz1 hk1 hS => ?_)
  obtain ⟨hP1, -, hD1⟩ := hB
  obtain ⟨y1363_away, y1363_thrown⟩ := u9
  rw [ht] at hP1
  obtain ⟨hP, hD⟩ := xj hP hD (rng 205 10) (wX7 cy d ((X7_s u), (X7_aside u), (X7_kept u), (X7_isKept u), (X7_saved u), (X7_savedMany u), (X7_text u), (X7_length u), y1363_thrown, (X7_joint u), (X7_position u), (X7_isWrong u), (X7_isHollow u), (X7_sure u), y1363_away, (X7_digested u))) (ws' := wL cy cJ a o v1 f1 ++ wX7 cy d ((X7_s u), (X7_aside u), (X7_kept u), (X7_isKept u), (X7_saved u), (X7_savedMany u), (X7_text u), (X7_length u), y1363_thrown, (X7_joint u), (X7_position u), (X7_isWrong u), (X7_isHollow u), (X7_sure u), y1363_away, (X7_digested u))) hC wX7_fst (xS_right wL_len wX7_len wX7_len) hk1 hFc hP1
  have hq : wp_X7_thrown ((X7_s u), (X7_aside u), (X7_kept u), (X7_isKept u), (X7_saved u), (X7_savedMany u), (X7_text u), (X7_length u), y1363_thrown, (X7_joint u), (X7_position u), (X7_isWrong u), (X7_isHollow u), (X7_sure u), y1363_away, (X7_digested u)) (fun th => th = k5 ∧ (k5 = 0 → f1 (0 : Int32).toNatClampNeg = r1363.toInt64) ∧ I v1 ((X7_s u), (X7_aside u), (X7_kept u), (X7_isKept u), (X7_saved u), (X7_savedMany u), (X7_text u), (X7_length u), y1363_thrown, (X7_joint u), (X7_position u), (X7_isWrong u), (X7_isHollow u), (X7_sure u), y1363_away, (X7_digested u)) f1) := hq
  generalize ((X7_s u), (X7_aside u), (X7_kept u), (X7_isKept u), (X7_saved u), (X7_savedMany u), (X7_text u), (X7_length u), y1363_thrown, (X7_joint u), (X7_position u), (X7_isWrong u), (X7_isHollow u), (X7_sure u), y1363_away, (X7_digested u)) = u1363 at hP hD hq
  refine lv_istore (lv' := [(6, .int r1363), (5, .int k5), (0, .ref b), (1, .ref (a 0)), (2, .ref (d 0)), (3, .ref o), (4, .int i)]) hx hb dL_law_1366 hl (by decide) rfl (fun ls hl => ?_)
  refine lv_aload_n hx hb dL_law_1368 rfl (lv_at hl 4 rfl) ?_
  have hC : (rng 205 10).map (fun i => (wL cy cJ a o v1 f1 ++ wX7 cy d u1363)[i]?) = (wX7 cy d u1363).map some := xC_right wL_len wX7_len
  have hPc := xsubP hP hC
  have hDc := xsubD hD (rng_nd 10 205) hC
  have hFc := va_free (wc := wX7 cy d u1363) hD hS hA (rng 205 10) hC
  refine va_calli (va_runV (As := []) (rest := []) ⟨hx, hb, hml, hown, hts⟩ (c_X7_thrown l dC dI cy d _ u1363 _ hq) (cwV 0 hts gL_law_X7_thrown rfl rfl rfl (by decide +kernel) ⟨Nat.le_of_ble_eq_true rfl, Nat.le_of_ble_eq_true rfl⟩) ⟨xPre_blind, va_recv hKc hPc (ci := 7) (q0 := 0) rfl rfl, xPre_of hPc hKc hDc⟩ rfl rfl hl.1 rfl (lv_room (Nat.le_of_ble_eq_true rfl)) dL_law_1369 ⟨by show _ ≤ 601024; omega, by show _ ≤ 7293034; omega⟩) hS (fun q _ h => hFc q h) hFc (fun r1369 u9 t H locs ht hvm hq hB hz1 hk1 hS => ?_)
  obtain ⟨hP1, -, hD1⟩ := hB
  rw [ht] at hP1
  have hP : va_P (dC, dI) vwCl (wL cy cJ a o v1 f1 ++ wX7 cy d u1363) H := xj_keep hP hD (rng 205 10) hC hP1 hk1
  refine lv_iload hx hb dL_law_1372 (lv_at hl 1 rfl) ?_
  obtain ⟨e1, e2, e3⟩ := hq
  refine lv_icmp_eq (tgt := 1379) hx hb dL_law_1374 (by decide) (fun c1 => ?_) (fun c1 => absurd e1 c1)
  refine lv_iload hx hb dL_law_1379 (lv_at hl 1 rfl) ?_
  refine lv_if_ne (tgt := 1396) hx hb dL_law_1381 (by decide) (fun c2 => ?_) (fun c2 => ?_)
  · refine lv_goto (tgt := 1616) hx hb dL_law_1396 (by decide) ?_
    refine W.widen (k := cells + 2) (n := slots + 12) (by omega) (by omega) ?_
    exact bk _ _ _ _ _ ls e3 hP hD hS (lv_sub hl [2, 3, 4, 5, 6] rfl)
  · refine lv_aload_n hx hb dL_law_1384 rfl (lv_at hl 5 rfl) ?_
    refine lv_iconst (v := 0) hx hb dL_law_1385 (by decide) ?_
    refine va_lald hx hb hK hP 204 4 wL_J rfl vin01 dL_law_1386 ?_
    refine lv_iload hx hb dL_law_1387 (lv_at hl 0 rfl) ?_
    refine lv_i2l hx hb dL_law_1389 rfl ?_
    refine W.lcmp hx hb dL_law_1390 ?_
    refine lv_if_eq (tgt := 1396) hx hb dL_law_1391 (by decide) (fun c3 => ?_) (fun c3 => absurd (by rw [e2 c2]; exact lg_same _) c3)
    refine lv_goto (tgt := 1616) hx hb dL_law_1396 (by decide) ?_
    refine W.widen (k := cells + 2) (n := slots + 12) (by omega) (by omega) ?_
    exact bk _ _ _ _ _ ls e3 hP hD hS (lv_sub hl [2, 3, 4, 5, 6] rfl)
