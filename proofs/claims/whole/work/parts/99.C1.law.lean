def wK_mole (u : V_X7) (x1 x2 : Int32) (I : V_X6 → V_X7 → (Nat → Int64) → Prop) (k : Int32) (v : V_X6) (f : Nat → Int64) : Prop := wp_X7_mole u x1 (fun b y_s y_saved y_savedMany y_thrown => wp_X7_thrown (y_s, (X7_aside u), (X7_kept u), (X7_isKept u), y_saved, y_savedMany, (X7_text u), (X7_length u), y_thrown, (X7_joint u), (X7_position u), (X7_isWrong u), (X7_isHollow u), (X7_sure u), (X7_away u), (X7_digested u)) (fun th => th = k ∧ (k = 0 → f (0 : Int32).toNatClampNeg = b.toInt64) ∧ I v (y_s, (X7_aside u), (X7_kept u), (X7_isKept u), y_saved, y_savedMany, (X7_text u), (X7_length u), y_thrown, (X7_joint u), (X7_position u), (X7_isWrong u), (X7_isHollow u), (X7_sure u), (X7_away u), (X7_digested u)) f))
def wk_mole (v : V_X6) (u : V_X7) (f : Nat → Int64) (x1 x2 : Int32) (I : V_X6 → V_X7 → (Nat → Int64) → Prop) : Prop := wp_X6_mole v x1 (fun r z_lawn z_saved z_savedCount z_savedR z_spareR => wK_mole u x1 x2 I 0 (z_lawn, (X6_snapshot v), (X6_trial v), z_savedR, z_saved, (X6_text v), (X6_survey v), (X6_paths v), (X6_snapshotTaken v), z_savedCount, z_spareR) (vp_updL f (0 : Int32).toNatClampNeg r.toInt64)) (fun E => (E = eI ∧ wK_mole u x1 x2 I 1 v f) ∨ (E = eS ∧ wK_mole u x1 x2 I 2 v f))
set_option maxHeartbeats 4000000 in
set_option maxRecDepth 100000 in
theorem k_mole {p : Program} {l : Launch} {e : Env} {s : State} {m : MethodId} {below : List Frame} {meth : Method} {c : Code} {b L : Nat} {xs : Nat → Int32} (C0 : lw_At p s m meth c b L xs) (hl9 : l.stackTraces = false) {dC : Nat → ClassId} {dI : Nat → Nat → Nat} {cy : Nat → ClassId} {cJ : ClassId} (hK : va_K (dC, dI) vwCl (tysJ cy cJ) s) (hE : xEnvL (lA s) s s.heap) {a d : Nat → Nat} {o : Nat} {i : Int32} (h1 : vp_in (i + 1) L) (h2 : vp_in (i + 2) L) {cells slots : Nat} (hc : cells + 2 ≤ 601024) (hs : slots + 12 ≤ 7293034) {v : V_X6} {u : V_X7} {f : Nat → Int64} {H : Heap} {locs : List Loc} {ls : Array Slot} (hP : va_P (dC, dI) vwCl (wL cy cJ a o v f ++ wX7 cy d u) H) (hD : va_D (lA s) (wL cy cJ a o v f ++ wX7 cy d u)) (hS : va_S (lA s) s.heap H locs) (hl : lv_has ls 9 [(0, .ref b), (1, .ref (a 0)), (2, .ref (d 0)), (3, .ref o), (4, .int i)]) {I : V_X6 → V_X7 → (Nat → Int64) → Prop} (hq : wk_mole v u f (xs (i + 1).toNatClampNeg) (xs (i + 2).toNatClampNeg) I) (bk : BK p l e s m below meth c b dC dI cy cJ a d o i (cells + 2) (slots + 12) I) : W p l e room_1 s m #[Value.ref b] below meth c H locs cells slots (lw_Z below #[Value.ref b] s) (F0 m 168 ls []) := by
  obtain ⟨hx, hb, hr, hml, hown, hts, hX, hbl, hlocks, hgv⟩ := C0
  have hts : ∀ w ∈ wsL_law, w.before #[Value.ref b] s = true := fun w h => hts w (wsL_law_in w h)
  have hA : ∀ q : Nat, s.heap.size ≤ q → lA s q := fun _ h => h
  have hbA : ¬ lA s b := Nat.not_le.mpr hbl
  have hKc := tysJ_sub hK
  unfold wk_mole at hq
  refine lv_aload_n hx hb dL_law_168 rfl (lv_at hl 1 rfl) ?_
  refine lv_aload_n hx hb dL_law_169 rfl (lv_at hl 0 rfl) ?_
  refine lv_iload hx hb dL_law_170 (lv_at hl 4 rfl) ?_
  refine lv_iconst (v := 1) hx hb dL_law_172 (by decide) ?_
  refine lv_iadd hx hb dL_law_173 ?_
  refine va_sld hx hb hX hbl hbA hS h1 dL_law_174 ?_
  refine lv_aload_n hx hb dL_law_175 rfl (lv_at hl 3 rfl) ?_
  have hC : (rng 0 205).map (fun i => (wL cy cJ a o v f ++ wX7 cy d u)[i]?) = (wL cy cJ a o v f).map some := xC_left wL_len
  have hPc := xsubP hP hC
  have hDc := xsubD hD (rng_nd 205 0) hC
  have hFc := va_free (wc := wL cy cJ a o v f) hD hS hA (rng 0 205) hC
  refine vx_calli (vx_runSX (As := [.ref (a 0), .int (xs (i + 1).toNatClampNeg), .ref o]) (rest := []) ⟨hx, hb, hml, hown, hts⟩ (c_L_mole l dC dI cy cJ a o _ v f (xs (i + 1).toNatClampNeg) (wK_mole u (xs (i + 1).toNatClampNeg) (xs (i + 2).toNatClampNeg) I) hl9 hq) (vx_cwSW 3 hts gL_law_L_mole rfl rfl rfl (by decide +kernel) ⟨Nat.le_of_ble_eq_true rfl, Nat.le_of_ble_eq_true rfl⟩) ⟨preL_blind, preL_of hPc hK hDc hE hS hFc⟩ rfl rfl hl.1 rfl (lv_room (Nat.le_of_ble_eq_true rfl)) dL_law_176 ⟨by show _ ≤ 601024; omega, by show _ ≤ 7293034; omega⟩) hS (fun q _ h => hFc q h) hFc (fun q _ h => hFc q h) (fun E ce q9 _ t H locs ht hvm _ hB hz1 hk1 hS hce hcv hcl => False.elim hB) (fun k5 u9 t H locs ht hvm hq hB hz1 hk1 hS => ?_)
  obtain ⟨v1, f1⟩ := u9
  obtain ⟨hP1, hD1⟩ := hB
  rw [ht] at hP1
  obtain ⟨hP, hD⟩ := xj hP hD (rng 0 205) (wL cy cJ a o v1 f1) (ws' := wL cy cJ a o v1 f1 ++ wX7 cy d u) hC wL_fst (xS_left wL_len wL_len) hk1 hFc hP1
  have hq : wK_mole u (xs (i + 1).toNatClampNeg) (xs (i + 2).toNatClampNeg) I k5 v1 f1 := hq
  unfold wK_mole at hq
  refine lv_istore (lv' := [(5, .int k5), (0, .ref b), (1, .ref (a 0)), (2, .ref (d 0)), (3, .ref o), (4, .int i)]) hx hb dL_law_179 hl (by decide) rfl (fun ls hl => ?_)
  refine lv_aload_n hx hb dL_law_181 rfl (lv_at hl 3 rfl) ?_
  refine lv_aload_n hx hb dL_law_182 rfl (lv_at hl 1 rfl) ?_
  refine lv_iload hx hb dL_law_183 (lv_at hl 5 rfl) ?_
  refine lv_iconst (v := 1) hx hb dL_law_185 (by decide) ?_
  refine lv_iadd hx hb dL_law_186 ?_
  refine va_sld hx hb hX hbl hbA hS h1 dL_law_187 ?_
  have hC : (rng 205 10).map (fun i => (wL cy cJ a o v1 f1 ++ wX7 cy d u)[i]?) = (wX7 cy d u).map some := xC_right wL_len wX7_len
  have hPc := xsubP hP hC
  have hDc := xsubD hD (rng_nd 10 205) hC
  have hFc := va_free (wc := wX7 cy d u) hD hS hA (rng 205 10) hC
  refine va_calli (va_runV (As := [.int (xs (i + 1).toNatClampNeg)]) (rest := []) ⟨hx, hb, hml, hown, hts⟩ (c_X7_mole l dC dI cy d _ u (xs (i + 1).toNatClampNeg) _ hq) (cwV 1 hts gL_law_X7_mole rfl rfl rfl (by decide +kernel) ⟨Nat.le_of_ble_eq_true rfl, Nat.le_of_ble_eq_true rfl⟩) ⟨xPre_blind, va_recv hKc hPc (ci := 7) (q0 := 0) rfl rfl, xPre_of hPc hKc hDc⟩ rfl rfl hl.1 rfl (lv_room (Nat.le_of_ble_eq_true rfl)) dL_law_188 ⟨by show _ ≤ 601024; omega, by show _ ≤ 7293034; omega⟩) hS (fun q _ h => hFc q h) hFc (fun r188 u9 t H locs ht hvm hq hB hz1 hk1 hS => ?_)
  obtain ⟨hP1, -, hD1⟩ := hB
  obtain ⟨y188_s, y188_saved, y188_savedMany, y188_thrown⟩ := u9
  rw [ht] at hP1
  obtain ⟨hP, hD⟩ := xj hP hD (rng 205 10) (wX7 cy d (y188_s, (X7_aside u), (X7_kept u), (X7_isKept u), y188_saved, y188_savedMany, (X7_text u), (X7_length u), y188_thrown, (X7_joint u), (X7_position u), (X7_isWrong u), (X7_isHollow u), (X7_sure u), (X7_away u), (X7_digested u))) (ws' := wL cy cJ a o v1 f1 ++ wX7 cy d (y188_s, (X7_aside u), (X7_kept u), (X7_isKept u), y188_saved, y188_savedMany, (X7_text u), (X7_length u), y188_thrown, (X7_joint u), (X7_position u), (X7_isWrong u), (X7_isHollow u), (X7_sure u), (X7_away u), (X7_digested u))) hC wX7_fst (xS_right wL_len wX7_len wX7_len) hk1 hFc hP1
  have hq : wp_X7_thrown (y188_s, (X7_aside u), (X7_kept u), (X7_isKept u), y188_saved, y188_savedMany, (X7_text u), (X7_length u), y188_thrown, (X7_joint u), (X7_position u), (X7_isWrong u), (X7_isHollow u), (X7_sure u), (X7_away u), (X7_digested u)) (fun th => th = k5 ∧ (k5 = 0 → f1 (0 : Int32).toNatClampNeg = r188.toInt64) ∧ I v1 (y188_s, (X7_aside u), (X7_kept u), (X7_isKept u), y188_saved, y188_savedMany, (X7_text u), (X7_length u), y188_thrown, (X7_joint u), (X7_position u), (X7_isWrong u), (X7_isHollow u), (X7_sure u), (X7_away u), (X7_digested u)) f1) := hq
  generalize (y188_s, (X7_aside u), (X7_kept u), (X7_isKept u), y188_saved, y188_savedMany, (X7_text u), (X7_length u), y188_thrown, (X7_joint u), (X7_position u), (X7_isWrong u), (X7_isHollow u), (X7_sure u), (X7_away u), (X7_digested u)) = u188 at hP hD hq
  refine lv_istore (lv' := [(6, .int r188), (5, .int k5), (0, .ref b), (1, .ref (a 0)), (2, .ref (d 0)), (3, .ref o), (4, .int i)]) hx hb dL_law_191 hl (by decide) rfl (fun ls hl => ?_)
  refine lv_aload_n hx hb dL_law_193 rfl (lv_at hl 4 rfl) ?_
  have hC : (rng 205 10).map (fun i => (wL cy cJ a o v1 f1 ++ wX7 cy d u188)[i]?) = (wX7 cy d u188).map some := xC_right wL_len wX7_len
  have hPc := xsubP hP hC
  have hDc := xsubD hD (rng_nd 10 205) hC
  have hFc := va_free (wc := wX7 cy d u188) hD hS hA (rng 205 10) hC
  refine va_calli (va_runV (As := []) (rest := []) ⟨hx, hb, hml, hown, hts⟩ (c_X7_thrown l dC dI cy d _ u188 _ hq) (cwV 0 hts gL_law_X7_thrown rfl rfl rfl (by decide +kernel) ⟨Nat.le_of_ble_eq_true rfl, Nat.le_of_ble_eq_true rfl⟩) ⟨xPre_blind, va_recv hKc hPc (ci := 7) (q0 := 0) rfl rfl, xPre_of hPc hKc hDc⟩ rfl rfl hl.1 rfl (lv_room (Nat.le_of_ble_eq_true rfl)) dL_law_194 ⟨by show _ ≤ 601024; omega, by show _ ≤ 7293034; omega⟩) hS (fun q _ h => hFc q h) hFc (fun r194 u9 t H locs ht hvm hq hB hz1 hk1 hS => ?_)
  obtain ⟨hP1, -, hD1⟩ := hB
  rw [ht] at hP1
  have hP : va_P (dC, dI) vwCl (wL cy cJ a o v1 f1 ++ wX7 cy d u188) H := xj_keep hP hD (rng 205 10) hC hP1 hk1
  refine lv_iload hx hb dL_law_197 (lv_at hl 1 rfl) ?_
  obtain ⟨e1, e2, e3⟩ := hq
  refine lv_icmp_eq (tgt := 204) hx hb dL_law_199 (by decide) (fun c1 => ?_) (fun c1 => absurd e1 c1)
  refine lv_iload hx hb dL_law_204 (lv_at hl 1 rfl) ?_
  refine lv_if_ne (tgt := 221) hx hb dL_law_206 (by decide) (fun c2 => ?_) (fun c2 => ?_)
  · refine lv_goto (tgt := 1616) hx hb dL_law_221 (by decide) ?_
    refine W.widen (k := cells + 2) (n := slots + 12) (by omega) (by omega) ?_
    exact bk _ _ _ _ _ ls e3 hP hD hS (lv_sub hl [2, 3, 4, 5, 6] rfl)
  · refine lv_aload_n hx hb dL_law_209 rfl (lv_at hl 5 rfl) ?_
    refine lv_iconst (v := 0) hx hb dL_law_210 (by decide) ?_
    refine va_lald hx hb hK hP 204 4 wL_J rfl vin01 dL_law_211 ?_
    refine lv_iload hx hb dL_law_212 (lv_at hl 0 rfl) ?_
    refine lv_i2l hx hb dL_law_214 rfl ?_
    refine W.lcmp hx hb dL_law_215 ?_
    refine lv_if_eq (tgt := 221) hx hb dL_law_216 (by decide) (fun c3 => ?_) (fun c3 => absurd (by rw [e2 c2]; exact lg_same _) c3)
    refine lv_goto (tgt := 1616) hx hb dL_law_221 (by decide) ?_
    refine W.widen (k := cells + 2) (n := slots + 12) (by omega) (by omega) ?_
    exact bk _ _ _ _ _ ls e3 hP hD hS (lv_sub hl [2, 3, 4, 5, 6] rfl)
def wK_plan (u : V_X7) (x1 x2 : Int32) (I : V_X6 → V_X7 → (Nat → Int64) → Prop) (k : Int32) (v : V_X6) (f : Nat → Int64) : Prop := wp_X7_plan u x1 x2 (fun b y_s y_saved y_savedMany y_thrown => wp_X7_thrown (y_s, (X7_aside u), (X7_kept u), (X7_isKept u), y_saved, y_savedMany, (X7_text u), (X7_length u), y_thrown, (X7_joint u), (X7_position u), (X7_isWrong u), (X7_isHollow u), (X7_sure u), (X7_away u), (X7_digested u)) (fun th => th = k ∧ (k = 0 → f (0 : Int32).toNatClampNeg = b.toInt64) ∧ I v (y_s, (X7_aside u), (X7_kept u), (X7_isKept u), y_saved, y_savedMany, (X7_text u), (X7_length u), y_thrown, (X7_joint u), (X7_position u), (X7_isWrong u), (X7_isHollow u), (X7_sure u), (X7_away u), (X7_digested u)) f))
def wk_plan (v : V_X6) (u : V_X7) (f : Nat → Int64) (x1 x2 : Int32) (I : V_X6 → V_X7 → (Nat → Int64) → Prop) : Prop := wp_X6_plan v x1 x2 (fun r z_lawn z_saved z_savedCount z_savedR => wK_plan u x1 x2 I 0 (z_lawn, (X6_snapshot v), (X6_trial v), z_savedR, z_saved, (X6_text v), (X6_survey v), (X6_paths v), (X6_snapshotTaken v), z_savedCount, (X6_spareR v)) (vp_updL f (0 : Int32).toNatClampNeg r.toInt64)) (fun E => (E = eI ∧ wK_plan u x1 x2 I 1 v f) ∨ (E = eA ∧ wK_plan u x1 x2 I 2 v f) ∨ (E = eS ∧ wK_plan u x1 x2 I 3 v f))
set_option maxHeartbeats 4000000 in
set_option maxRecDepth 100000 in
theorem k_plan {p : Program} {l : Launch} {e : Env} {s : State} {m : MethodId} {below : List Frame} {meth : Method} {c : Code} {b L : Nat} {xs : Nat → Int32} (C0 : lw_At p s m meth c b L xs) (hl9 : l.stackTraces = false) {dC : Nat → ClassId} {dI : Nat → Nat → Nat} {cy : Nat → ClassId} {cJ : ClassId} (hK : va_K (dC, dI) vwCl (tysJ cy cJ) s) (hE : xEnvL (lA s) s s.heap) {a d : Nat → Nat} {o : Nat} {i : Int32} (h1 : vp_in (i + 1) L) (h2 : vp_in (i + 2) L) {cells slots : Nat} (hc : cells + 2 ≤ 601024) (hs : slots + 12 ≤ 7293034) {v : V_X6} {u : V_X7} {f : Nat → Int64} {H : Heap} {locs : List Loc} {ls : Array Slot} (hP : va_P (dC, dI) vwCl (wL cy cJ a o v f ++ wX7 cy d u) H) (hD : va_D (lA s) (wL cy cJ a o v f ++ wX7 cy d u)) (hS : va_S (lA s) s.heap H locs) (hl : lv_has ls 9 [(0, .ref b), (1, .ref (a 0)), (2, .ref (d 0)), (3, .ref o), (4, .int i)]) {I : V_X6 → V_X7 → (Nat → Int64) → Prop} (hq : wk_plan v u f (xs (i + 1).toNatClampNeg) (xs (i + 2).toNatClampNeg) I) (bk : BK p l e s m below meth c b dC dI cy cJ a d o i (cells + 2) (slots + 12) I) : W p l e room_1 s m #[Value.ref b] below meth c H locs cells slots (lw_Z below #[Value.ref b] s) (F0 m 224 ls []) := by
  obtain ⟨hx, hb, hr, hml, hown, hts, hX, hbl, hlocks, hgv⟩ := C0
  have hts : ∀ w ∈ wsL_law, w.before #[Value.ref b] s = true := fun w h => hts w (wsL_law_in w h)
  have hA : ∀ q : Nat, s.heap.size ≤ q → lA s q := fun _ h => h
  have hbA : ¬ lA s b := Nat.not_le.mpr hbl
  have hKc := tysJ_sub hK
  unfold wk_plan at hq
  refine lv_aload_n hx hb dL_law_224 rfl (lv_at hl 1 rfl) ?_
  refine lv_aload_n hx hb dL_law_225 rfl (lv_at hl 0 rfl) ?_
  refine lv_iload hx hb dL_law_226 (lv_at hl 4 rfl) ?_
  refine lv_iconst (v := 1) hx hb dL_law_228 (by decide) ?_
  refine lv_iadd hx hb dL_law_229 ?_
  refine va_sld hx hb hX hbl hbA hS h1 dL_law_230 ?_
  refine lv_aload_n hx hb dL_law_231 rfl (lv_at hl 0 rfl) ?_
  refine lv_iload hx hb dL_law_232 (lv_at hl 4 rfl) ?_
  refine lv_iconst (v := 2) hx hb dL_law_234 (by decide) ?_
  refine lv_iadd hx hb dL_law_235 ?_
  refine va_sld hx hb hX hbl hbA hS h2 dL_law_236 ?_
  refine lv_aload_n hx hb dL_law_237 rfl (lv_at hl 3 rfl) ?_
  have hC : (rng 0 205).map (fun i => (wL cy cJ a o v f ++ wX7 cy d u)[i]?) = (wL cy cJ a o v f).map some := xC_left wL_len
  have hPc := xsubP hP hC
  have hDc := xsubD hD (rng_nd 205 0) hC
  have hFc := va_free (wc := wL cy cJ a o v f) hD hS hA (rng 0 205) hC
  refine vx_calli (vx_runSX (As := [.ref (a 0), .int (xs (i + 1).toNatClampNeg), .int (xs (i + 2).toNatClampNeg), .ref o]) (rest := []) ⟨hx, hb, hml, hown, hts⟩ (c_L_plan l dC dI cy cJ a o _ v f (xs (i + 1).toNatClampNeg) (xs (i + 2).toNatClampNeg) (wK_plan u (xs (i + 1).toNatClampNeg) (xs (i + 2).toNatClampNeg) I) hl9 hq) (vx_cwSW 4 hts gL_law_L_plan rfl rfl rfl (by decide +kernel) ⟨Nat.le_of_ble_eq_true rfl, Nat.le_of_ble_eq_true rfl⟩) ⟨preL_blind, preL_of hPc hK hDc hE hS hFc⟩ rfl rfl hl.1 rfl (lv_room (Nat.le_of_ble_eq_true rfl)) dL_law_238 ⟨by show _ ≤ 601024; omega, by show _ ≤ 7293034; omega⟩) hS (fun q _ h => hFc q h) hFc (fun q _ h => hFc q h) (fun E ce q9 _ t H locs ht hvm _ hB hz1 hk1 hS hce hcv hcl => False.elim hB) (fun k5 u9 t H locs ht hvm hq hB hz1 hk1 hS => ?_)
  obtain ⟨v1, f1⟩ := u9
  obtain ⟨hP1, hD1⟩ := hB
  rw [ht] at hP1
  obtain ⟨hP, hD⟩ := xj hP hD (rng 0 205) (wL cy cJ a o v1 f1) (ws' := wL cy cJ a o v1 f1 ++ wX7 cy d u) hC wL_fst (xS_left wL_len wL_len) hk1 hFc hP1
  have hq : wK_plan u (xs (i + 1).toNatClampNeg) (xs (i + 2).toNatClampNeg) I k5 v1 f1 := hq
  unfold wK_plan at hq
  refine lv_istore (lv' := [(5, .int k5), (0, .ref b), (1, .ref (a 0)), (2, .ref (d 0)), (3, .ref o), (4, .int i)]) hx hb dL_law_241 hl (by decide) rfl (fun ls hl => ?_)
  refine lv_aload_n hx hb dL_law_243 rfl (lv_at hl 3 rfl) ?_
  refine lv_aload_n hx hb dL_law_244 rfl (lv_at hl 1 rfl) ?_
  refine lv_iload hx hb dL_law_245 (lv_at hl 5 rfl) ?_
  refine lv_iconst (v := 1) hx hb dL_law_247 (by decide) ?_
  refine lv_iadd hx hb dL_law_248 ?_
  refine va_sld hx hb hX hbl hbA hS h1 dL_law_249 ?_
  refine lv_aload_n hx hb dL_law_250 rfl (lv_at hl 1 rfl) ?_
  refine lv_iload hx hb dL_law_251 (lv_at hl 5 rfl) ?_
  refine lv_iconst (v := 2) hx hb dL_law_253 (by decide) ?_
  refine lv_iadd hx hb dL_law_254 ?_
  refine va_sld hx hb hX hbl hbA hS h2 dL_law_255 ?_
  have hC : (rng 205 10).map (fun i => (wL cy cJ a o v1 f1 ++ wX7 cy d u)[i]?) = (wX7 cy d u).map some := xC_right wL_len wX7_len
  have hPc := xsubP hP hC
  have hDc := xsubD hD (rng_nd 10 205) hC
  have hFc := va_free (wc := wX7 cy d u) hD hS hA (rng 205 10) hC
  refine va_calli (va_runV (As := [.int (xs (i + 1).toNatClampNeg), .int (xs (i + 2).toNatClampNeg)]) (rest := []) ⟨hx, hb, hml, hown, hts⟩ (c_X7_plan l dC dI cy d _ u (xs (i + 1).toNatClampNeg) (xs (i + 2).toNatClampNeg) _ hq) (cwV 2 hts gL_law_X7_plan rfl rfl rfl (by decide +kernel) ⟨Nat.le_of_ble_eq_true rfl, Nat.le_of_ble_eq_true rfl⟩) ⟨xPre_blind, va_recv hKc hPc (ci := 7) (q0 := 0) rfl rfl, xPre_of hPc hKc hDc⟩ rfl rfl hl.1 rfl (lv_room (Nat.le_of_ble_eq_true rfl)) dL_law_256 ⟨by show _ ≤ 601024; omega, by show _ ≤ 7293034; omega⟩) hS (fun q _ h => hFc q h) hFc (fun r256 u9 t H locs ht hvm hq hB hz1 hk1 hS => ?_)
  obtain ⟨hP1, -, hD1⟩ := hB
  obtain ⟨y256_s, y256_saved, y256_savedMany, y256_thrown⟩ := u9
  rw [ht] at hP1
  obtain ⟨hP, hD⟩ := xj hP hD (rng 205 10) (wX7 cy d (y256_s, (X7_aside u), (X7_kept u), (X7_isKept u), y256_saved, y256_savedMany, (X7_text u), (X7_length u), y256_thrown, (X7_joint u), (X7_position u), (X7_isWrong u), (X7_isHollow u), (X7_sure u), (X7_away u), (X7_digested u))) (ws' := wL cy cJ a o v1 f1 ++ wX7 cy d (y256_s, (X7_aside u), (X7_kept u), (X7_isKept u), y256_saved, y256_savedMany, (X7_text u), (X7_length u), y256_thrown, (X7_joint u), (X7_position u), (X7_isWrong u), (X7_isHollow u), (X7_sure u), (X7_away u), (X7_digested u))) hC wX7_fst (xS_right wL_len wX7_len wX7_len) hk1 hFc hP1
  have hq : wp_X7_thrown (y256_s, (X7_aside u), (X7_kept u), (X7_isKept u), y256_saved, y256_savedMany, (X7_text u), (X7_length u), y256_thrown, (X7_joint u), (X7_position u), (X7_isWrong u), (X7_isHollow u), (X7_sure u), (X7_away u), (X7_digested u)) (fun th => th = k5 ∧ (k5 = 0 → f1 (0 : Int32).toNatClampNeg = r256.toInt64) ∧ I v1 (y256_s, (X7_aside u), (X7_kept u), (X7_isKept u), y256_saved, y256_savedMany, (X7_text u), (X7_length u), y256_thrown, (X7_joint u), (X7_position u), (X7_isWrong u), (X7_isHollow u), (X7_sure u), (X7_away u), (X7_digested u)) f1) := hq
  generalize (y256_s, (X7_aside u), (X7_kept u), (X7_isKept u), y256_saved, y256_savedMany, (X7_text u), (X7_length u), y256_thrown, (X7_joint u), (X7_position u), (X7_isWrong u), (X7_isHollow u), (X7_sure u), (X7_away u), (X7_digested u)) = u256 at hP hD hq
  refine lv_istore (lv' := [(6, .int r256), (5, .int k5), (0, .ref b), (1, .ref (a 0)), (2, .ref (d 0)), (3, .ref o), (4, .int i)]) hx hb dL_law_259 hl (by decide) rfl (fun ls hl => ?_)
  refine lv_aload_n hx hb dL_law_261 rfl (lv_at hl 4 rfl) ?_
  have hC : (rng 205 10).map (fun i => (wL cy cJ a o v1 f1 ++ wX7 cy d u256)[i]?) = (wX7 cy d u256).map some := xC_right wL_len wX7_len
  have hPc := xsubP hP hC
  have hDc := xsubD hD (rng_nd 10 205) hC
  have hFc := va_free (wc := wX7 cy d u256) hD hS hA (rng 205 10) hC
  refine va_calli (va_runV (As := []) (rest := []) ⟨hx, hb, hml, hown, hts⟩ (c_X7_thrown l dC dI cy d _ u256 _ hq) (cwV 0 hts gL_law_X7_thrown rfl rfl rfl (by decide +kernel) ⟨Nat.le_of_ble_eq_true rfl, Nat.le_of_ble_eq_true rfl⟩) ⟨xPre_blind, va_recv hKc hPc (ci := 7) (q0 := 0) rfl rfl, xPre_of hPc hKc hDc⟩ rfl rfl hl.1 rfl (lv_room (Nat.le_of_ble_eq_true rfl)) dL_law_262 ⟨by show _ ≤ 601024; omega, by show _ ≤ 7293034; omega⟩) hS (fun q _ h => hFc q h) hFc (fun r262 u9 t H locs ht hvm hq hB hz1 hk1 hS => ?_)
  obtain ⟨hP1, -, hD1⟩ := hB
  rw [ht] at hP1
  have hP : va_P (dC, dI) vwCl (wL cy cJ a o v1 f1 ++ wX7 cy d u256) H := xj_keep hP hD (rng 205 10) hC hP1 hk1
  refine lv_iload hx hb dL_law_265 (lv_at hl 1 rfl) ?_
  obtain ⟨e1, e2, e3⟩ := hq
  refine lv_icmp_eq (tgt := 272) hx hb dL_law_267 (by decide) (fun c1 => ?_) (fun c1 => absurd e1 c1)
  refine lv_iload hx hb dL_law_272 (lv_at hl 1 rfl) ?_
  refine lv_if_ne (tgt := 289) hx hb dL_law_274 (by decide) (fun c2 => ?_) (fun c2 => ?_)
  · refine lv_goto (tgt := 1616) hx hb dL_law_289 (by decide) ?_
    refine W.widen (k := cells + 2) (n := slots + 12) (by omega) (by omega) ?_
    exact bk _ _ _ _ _ ls e3 hP hD hS (lv_sub hl [2, 3, 4, 5, 6] rfl)
  · refine lv_aload_n hx hb dL_law_277 rfl (lv_at hl 5 rfl) ?_
    refine lv_iconst (v := 0) hx hb dL_law_278 (by decide) ?_
    refine va_lald hx hb hK hP 204 4 wL_J rfl vin01 dL_law_279 ?_
    refine lv_iload hx hb dL_law_280 (lv_at hl 0 rfl) ?_
    refine lv_i2l hx hb dL_law_282 rfl ?_
    refine W.lcmp hx hb dL_law_283 ?_
    refine lv_if_eq (tgt := 289) hx hb dL_law_284 (by decide) (fun c3 => ?_) (fun c3 => absurd (by rw [e2 c2]; exact lg_same _) c3)
    refine lv_goto (tgt := 1616) hx hb dL_law_289 (by decide) ?_
    refine W.widen (k := cells + 2) (n := slots + 12) (by omega) (by omega) ?_
    exact bk _ _ _ _ _ ls e3 hP hD hS (lv_sub hl [2, 3, 4, 5, 6] rfl)
def wK_rest (u : V_X7) (x1 x2 : Int32) (I : V_X6 → V_X7 → (Nat → Int64) → Prop) (k : Int32) (v : V_X6) (f : Nat → Int64) : Prop := wp_X7_rest u x1 (fun b y_s y_saved y_savedMany y_thrown => wp_X7_thrown (y_s, (X7_aside u), (X7_kept u), (X7_isKept u), y_saved, y_savedMany, (X7_text u), (X7_length u), y_thrown, (X7_joint u), (X7_position u), (X7_isWrong u), (X7_isHollow u), (X7_sure u), (X7_away u), (X7_digested u)) (fun th => th = k ∧ (k = 0 → f (0 : Int32).toNatClampNeg = b.toInt64) ∧ I v (y_s, (X7_aside u), (X7_kept u), (X7_isKept u), y_saved, y_savedMany, (X7_text u), (X7_length u), y_thrown, (X7_joint u), (X7_position u), (X7_isWrong u), (X7_isHollow u), (X7_sure u), (X7_away u), (X7_digested u)) f))
def wk_rest (v : V_X6) (u : V_X7) (f : Nat → Int64) (x1 x2 : Int32) (I : V_X6 → V_X7 → (Nat → Int64) → Prop) : Prop := wp_X6_rest v x1 (fun r z_lawn z_saved z_savedCount z_savedR => wK_rest u x1 x2 I 0 (z_lawn, (X6_snapshot v), (X6_trial v), z_savedR, z_saved, (X6_text v), (X6_survey v), (X6_paths v), (X6_snapshotTaken v), z_savedCount, (X6_spareR v)) (vp_updL f (0 : Int32).toNatClampNeg r.toInt64)) (fun E => (E = eI ∧ wK_rest u x1 x2 I 1 v f))
set_option maxHeartbeats 4000000 in
set_option maxRecDepth 100000 in
theorem k_rest {p : Program} {l : Launch} {e : Env} {s : State} {m : MethodId} {below : List Frame} {meth : Method} {c : Code} {b L : Nat} {xs : Nat → Int32} (C0 : lw_At p s m meth c b L xs) (hl9 : l.stackTraces = false) {dC : Nat → ClassId} {dI : Nat → Nat → Nat} {cy : Nat → ClassId} {cJ : ClassId} (hK : va_K (dC, dI) vwCl (tysJ cy cJ) s) (hE : xEnvL (lA s) s s.heap) {a d : Nat → Nat} {o : Nat} {i : Int32} (h1 : vp_in (i + 1) L) (h2 : vp_in (i + 2) L) {cells slots : Nat} (hc : cells + 2 ≤ 601024) (hs : slots + 12 ≤ 7293034) {v : V_X6} {u : V_X7} {f : Nat → Int64} {H : Heap} {locs : List Loc} {ls : Array Slot} (hP : va_P (dC, dI) vwCl (wL cy cJ a o v f ++ wX7 cy d u) H) (hD : va_D (lA s) (wL cy cJ a o v f ++ wX7 cy d u)) (hS : va_S (lA s) s.heap H locs) (hl : lv_has ls 9 [(0, .ref b), (1, .ref (a 0)), (2, .ref (d 0)), (3, .ref o), (4, .int i)]) {I : V_X6 → V_X7 → (Nat → Int64) → Prop} (hq : wk_rest v u f (xs (i + 1).toNatClampNeg) (xs (i + 2).toNatClampNeg) I) (bk : BK p l e s m below meth c b dC dI cy cJ a d o i (cells + 2) (slots + 12) I) : W p l e room_1 s m #[Value.ref b] below meth c H locs cells slots (lw_Z below #[Value.ref b] s) (F0 m 292 ls []) := by
  obtain ⟨hx, hb, hr, hml, hown, hts, hX, hbl, hlocks, hgv⟩ := C0
  have hts : ∀ w ∈ wsL_law, w.before #[Value.ref b] s = true := fun w h => hts w (wsL_law_in w h)
  have hA : ∀ q : Nat, s.heap.size ≤ q → lA s q := fun _ h => h
  have hbA : ¬ lA s b := Nat.not_le.mpr hbl
  have hKc := tysJ_sub hK
  unfold wk_rest at hq
  refine lv_aload_n hx hb dL_law_292 rfl (lv_at hl 1 rfl) ?_
  refine lv_aload_n hx hb dL_law_293 rfl (lv_at hl 0 rfl) ?_
  refine lv_iload hx hb dL_law_294 (lv_at hl 4 rfl) ?_
  refine lv_iconst (v := 1) hx hb dL_law_296 (by decide) ?_
  refine lv_iadd hx hb dL_law_297 ?_
  refine va_sld hx hb hX hbl hbA hS h1 dL_law_298 ?_
  refine lv_aload_n hx hb dL_law_299 rfl (lv_at hl 3 rfl) ?_
  have hC : (rng 0 205).map (fun i => (wL cy cJ a o v f ++ wX7 cy d u)[i]?) = (wL cy cJ a o v f).map some := xC_left wL_len
  have hPc := xsubP hP hC
  have hDc := xsubD hD (rng_nd 205 0) hC
  have hFc := va_free (wc := wL cy cJ a o v f) hD hS hA (rng 0 205) hC
  refine vx_calli (vx_runSX (As := [.ref (a 0), .int (xs (i + 1).toNatClampNeg), .ref o]) (rest := []) ⟨hx, hb, hml, hown, hts⟩ (c_L_rest l dC dI cy cJ a o _ v f (xs (i + 1).toNatClampNeg) (wK_rest u (xs (i + 1).toNatClampNeg) (xs (i + 2).toNatClampNeg) I) hl9 hq) (vx_cwSW 3 hts gL_law_L_rest rfl rfl rfl (by decide +kernel) ⟨Nat.le_of_ble_eq_true rfl, Nat.le_of_ble_eq_true rfl⟩) ⟨preL_blind, preL_of hPc hK hDc hE hS hFc⟩ rfl rfl hl.1 rfl (lv_room (Nat.le_of_ble_eq_true rfl)) dL_law_300 ⟨by show _ ≤ 601024; omega, by show _ ≤ 7293034; omega⟩) hS (fun q _ h => hFc q h) hFc (fun q _ h => hFc q h) (fun E ce q9 _ t H locs ht hvm _ hB hz1 hk1 hS hce hcv hcl => False.elim hB) (fun k5 u9 t H locs ht hvm hq hB hz1 hk1 hS => ?_)
  obtain ⟨v1, f1⟩ := u9
  obtain ⟨hP1, hD1⟩ := hB
  rw [ht] at hP1
  obtain ⟨hP, hD⟩ := xj hP hD (rng 0 205) (wL cy cJ a o v1 f1) (ws' := wL cy cJ a o v1 f1 ++ wX7 cy d u) hC wL_fst (xS_left wL_len wL_len) hk1 hFc hP1
  have hq : wK_rest u (xs (i + 1).toNatClampNeg) (xs (i + 2).toNatClampNeg) I k5 v1 f1 := hq
  unfold wK_rest at hq
  refine lv_istore (lv' := [(5, .int k5), (0, .ref b), (1, .ref (a 0)), (2, .ref (d 0)), (3, .ref o), (4, .int i)]) hx hb dL_law_303 hl (by decide) rfl (fun ls hl => ?_)
  refine lv_aload_n hx hb dL_law_305 rfl (lv_at hl 3 rfl) ?_
  refine lv_aload_n hx hb dL_law_306 rfl (lv_at hl 1 rfl) ?_
  refine lv_iload hx hb dL_law_307 (lv_at hl 5 rfl) ?_
  refine lv_iconst (v := 1) hx hb dL_law_309 (by decide) ?_
  refine lv_iadd hx hb dL_law_310 ?_
  refine va_sld hx hb hX hbl hbA hS h1 dL_law_311 ?_
  have hC : (rng 205 10).map (fun i => (wL cy cJ a o v1 f1 ++ wX7 cy d u)[i]?) = (wX7 cy d u).map some := xC_right wL_len wX7_len
  have hPc := xsubP hP hC
  have hDc := xsubD hD (rng_nd 10 205) hC
  have hFc := va_free (wc := wX7 cy d u) hD hS hA (rng 205 10) hC
  refine va_calli (va_runV (As := [.int (xs (i + 1).toNatClampNeg)]) (rest := []) ⟨hx, hb, hml, hown, hts⟩ (c_X7_rest l dC dI cy d _ u (xs (i + 1).toNatClampNeg) _ hq) (cwV 1 hts gL_law_X7_rest rfl rfl rfl (by decide +kernel) ⟨Nat.le_of_ble_eq_true rfl, Nat.le_of_ble_eq_true rfl⟩) ⟨xPre_blind, va_recv hKc hPc (ci := 7) (q0 := 0) rfl rfl, xPre_of hPc hKc hDc⟩ rfl rfl hl.1 rfl (lv_room (Nat.le_of_ble_eq_true rfl)) dL_law_312 ⟨by show _ ≤ 601024; omega, by show _ ≤ 7293034; omega⟩) hS (fun q _ h => hFc q h) hFc (fun r312 u9 t H locs ht hvm hq hB hz1 hk1 hS => ?_)
  obtain ⟨hP1, -, hD1⟩ := hB
  obtain ⟨y312_s, y312_saved, y312_savedMany, y312_thrown⟩ := u9
  rw [ht] at hP1
  obtain ⟨hP, hD⟩ := xj hP hD (rng 205 10) (wX7 cy d (y312_s, (X7_aside u), (X7_kept u), (X7_isKept u), y312_saved, y312_savedMany, (X7_text u), (X7_length u), y312_thrown, (X7_joint u), (X7_position u), (X7_isWrong u), (X7_isHollow u), (X7_sure u), (X7_away u), (X7_digested u))) (ws' := wL cy cJ a o v1 f1 ++ wX7 cy d (y312_s, (X7_aside u), (X7_kept u), (X7_isKept u), y312_saved, y312_savedMany, (X7_text u), (X7_length u), y312_thrown, (X7_joint u), (X7_position u), (X7_isWrong u), (X7_isHollow u), (X7_sure u), (X7_away u), (X7_digested u))) hC wX7_fst (xS_right wL_len wX7_len wX7_len) hk1 hFc hP1
  have hq : wp_X7_thrown (y312_s, (X7_aside u), (X7_kept u), (X7_isKept u), y312_saved, y312_savedMany, (X7_text u), (X7_length u), y312_thrown, (X7_joint u), (X7_position u), (X7_isWrong u), (X7_isHollow u), (X7_sure u), (X7_away u), (X7_digested u)) (fun th => th = k5 ∧ (k5 = 0 → f1 (0 : Int32).toNatClampNeg = r312.toInt64) ∧ I v1 (y312_s, (X7_aside u), (X7_kept u), (X7_isKept u), y312_saved, y312_savedMany, (X7_text u), (X7_length u), y312_thrown, (X7_joint u), (X7_position u), (X7_isWrong u), (X7_isHollow u), (X7_sure u), (X7_away u), (X7_digested u)) f1) := hq
  generalize (y312_s, (X7_aside u), (X7_kept u), (X7_isKept u), y312_saved, y312_savedMany, (X7_text u), (X7_length u), y312_thrown, (X7_joint u), (X7_position u), (X7_isWrong u), (X7_isHollow u), (X7_sure u), (X7_away u), (X7_digested u)) = u312 at hP hD hq
  refine lv_istore (lv' := [(6, .int r312), (5, .int k5), (0, .ref b), (1, .ref (a 0)), (2, .ref (d 0)), (3, .ref o), (4, .int i)]) hx hb dL_law_315 hl (by decide) rfl (fun ls hl => ?_)
  refine lv_aload_n hx hb dL_law_317 rfl (lv_at hl 4 rfl) ?_
  have hC : (rng 205 10).map (fun i => (wL cy cJ a o v1 f1 ++ wX7 cy d u312)[i]?) = (wX7 cy d u312).map some := xC_right wL_len wX7_len
  have hPc := xsubP hP hC
  have hDc := xsubD hD (rng_nd 10 205) hC
  have hFc := va_free (wc := wX7 cy d u312) hD hS hA (rng 205 10) hC
  refine va_calli (va_runV (As := []) (rest := []) ⟨hx, hb, hml, hown, hts⟩ (c_X7_thrown l dC dI cy d _ u312 _ hq) (cwV 0 hts gL_law_X7_thrown rfl rfl rfl (by decide +kernel) ⟨Nat.le_of_ble_eq_true rfl, Nat.le_of_ble_eq_true rfl⟩) ⟨xPre_blind, va_recv hKc hPc (ci := 7) (q0 := 0) rfl rfl, xPre_of hPc hKc hDc⟩ rfl rfl hl.1 rfl (lv_room (Nat.le_of_ble_eq_true rfl)) dL_law_318 ⟨by show _ ≤ 601024; omega, by show _ ≤ 7293034; omega⟩) hS (fun q _ h => hFc q h) hFc (fun r318 u9 t H locs ht hvm hq hB hz1 hk1 hS => ?_)
  obtain ⟨hP1, -, hD1⟩ := hB
  rw [ht] at hP1
  have hP : va_P (dC, dI) vwCl (wL cy cJ a o v1 f1 ++ wX7 cy d u312) H := xj_keep hP hD (rng 205 10) hC hP1 hk1
  refine lv_iload hx hb dL_law_321 (lv_at hl 1 rfl) ?_
  obtain ⟨e1, e2, e3⟩ := hq
  refine lv_icmp_eq (tgt := 328) hx hb dL_law_323 (by decide) (fun c1 => ?_) (fun c1 => absurd e1 c1)
  refine lv_iload hx hb dL_law_328 (lv_at hl 1 rfl) ?_
  refine lv_if_ne (tgt := 345) hx hb dL_law_330 (by decide) (fun c2 => ?_) (fun c2 => ?_)
  · refine lv_goto (tgt := 1616) hx hb dL_law_345 (by decide) ?_
    refine W.widen (k := cells + 2) (n := slots + 12) (by omega) (by omega) ?_
    exact bk _ _ _ _ _ ls e3 hP hD hS (lv_sub hl [2, 3, 4, 5, 6] rfl)
  · refine lv_aload_n hx hb dL_law_333 rfl (lv_at hl 5 rfl) ?_
    refine lv_iconst (v := 0) hx hb dL_law_334 (by decide) ?_
    refine va_lald hx hb hK hP 204 4 wL_J rfl vin01 dL_law_335 ?_
    refine lv_iload hx hb dL_law_336 (lv_at hl 0 rfl) ?_
    refine lv_i2l hx hb dL_law_338 rfl ?_
    refine W.lcmp hx hb dL_law_339 ?_
    refine lv_if_eq (tgt := 345) hx hb dL_law_340 (by decide) (fun c3 => ?_) (fun c3 => absurd (by rw [e2 c2]; exact lg_same _) c3)
    refine lv_goto (tgt := 1616) hx hb dL_law_345 (by decide) ?_
    refine W.widen (k := cells + 2) (n := slots + 12) (by omega) (by omega) ?_
    exact bk _ _ _ _ _ ls e3 hP hD hS (lv_sub hl [2, 3, 4, 5, 6] rfl)
def wK_pass (u : V_X7) (x1 x2 : Int32) (I : V_X6 → V_X7 → (Nat → Int64) → Prop) (k : Int32) (v : V_X6) (f : Nat → Int64) : Prop := wp_X7_pass u x1 (fun b y_s y_saved y_savedMany y_thrown => wp_X7_thrown (y_s, (X7_aside u), (X7_kept u), (X7_isKept u), y_saved, y_savedMany, (X7_text u), (X7_length u), y_thrown, (X7_joint u), (X7_position u), (X7_isWrong u), (X7_isHollow u), (X7_sure u), (X7_away u), (X7_digested u)) (fun th => th = k ∧ (k = 0 → f (0 : Int32).toNatClampNeg = b.toInt64) ∧ I v (y_s, (X7_aside u), (X7_kept u), (X7_isKept u), y_saved, y_savedMany, (X7_text u), (X7_length u), y_thrown, (X7_joint u), (X7_position u), (X7_isWrong u), (X7_isHollow u), (X7_sure u), (X7_away u), (X7_digested u)) f))
def wk_pass (v : V_X6) (u : V_X7) (f : Nat → Int64) (x1 x2 : Int32) (I : V_X6 → V_X7 → (Nat → Int64) → Prop) : Prop := wp_X6_pass v x1 (fun r z_lawn z_saved z_savedCount z_savedR z_spareR => wK_pass u x1 x2 I 0 (z_lawn, (X6_snapshot v), (X6_trial v), z_savedR, z_saved, (X6_text v), (X6_survey v), (X6_paths v), (X6_snapshotTaken v), z_savedCount, z_spareR) (vp_updL f (0 : Int32).toNatClampNeg r.toInt64)) (fun E => (E = eA ∧ wK_pass u x1 x2 I 1 v f))
set_option maxHeartbeats 4000000 in
set_option maxRecDepth 100000 in
theorem k_pass {p : Program} {l : Launch} {e : Env} {s : State} {m : MethodId} {below : List Frame} {meth : Method} {c : Code} {b L : Nat} {xs : Nat → Int32} (C0 : lw_At p s m meth c b L xs) (hl9 : l.stackTraces = false) {dC : Nat → ClassId} {dI : Nat → Nat → Nat} {cy : Nat → ClassId} {cJ : ClassId} (hK : va_K (dC, dI) vwCl (tysJ cy cJ) s) (hE : xEnvL (lA s) s s.heap) {a d : Nat → Nat} {o : Nat} {i : Int32} (h1 : vp_in (i + 1) L) (h2 : vp_in (i + 2) L) {cells slots : Nat} (hc : cells + 2 ≤ 601024) (hs : slots + 12 ≤ 7293034) {v : V_X6} {u : V_X7} {f : Nat → Int64} {H : Heap} {locs : List Loc} {ls : Array Slot} (hP : va_P (dC, dI) vwCl (wL cy cJ a o v f ++ wX7 cy d u) H) (hD : va_D (lA s) (wL cy cJ a o v f ++ wX7 cy d u)) (hS : va_S (lA s) s.heap H locs) (hl : lv_has ls 9 [(0, .ref b), (1, .ref (a 0)), (2, .ref (d 0)), (3, .ref o), (4, .int i)]) {I : V_X6 → V_X7 → (Nat → Int64) → Prop} (hq : wk_pass v u f (xs (i + 1).toNatClampNeg) (xs (i + 2).toNatClampNeg) I) (bk : BK p l e s m below meth c b dC dI cy cJ a d o i (cells + 2) (slots + 12) I) : W p l e room_1 s m #[Value.ref b] below meth c H locs cells slots (lw_Z below #[Value.ref b] s) (F0 m 348 ls []) := by
  obtain ⟨hx, hb, hr, hml, hown, hts, hX, hbl, hlocks, hgv⟩ := C0
  have hts : ∀ w ∈ wsL_law, w.before #[Value.ref b] s = true := fun w h => hts w (wsL_law_in w h)
  have hA : ∀ q : Nat, s.heap.size ≤ q → lA s q := fun _ h => h
  have hbA : ¬ lA s b := Nat.not_le.mpr hbl
  have hKc := tysJ_sub hK
  unfold wk_pass at hq
  refine lv_aload_n hx hb dL_law_348 rfl (lv_at hl 1 rfl) ?_
  refine lv_aload_n hx hb dL_law_349 rfl (lv_at hl 0 rfl) ?_
  refine lv_iload hx hb dL_law_350 (lv_at hl 4 rfl) ?_
  refine lv_iconst (v := 1) hx hb dL_law_352 (by decide) ?_
  refine lv_iadd hx hb dL_law_353 ?_
  refine va_sld hx hb hX hbl hbA hS h1 dL_law_354 ?_
  refine lv_aload_n hx hb dL_law_355 rfl (lv_at hl 3 rfl) ?_
  have hC : (rng 0 205).map (fun i => (wL cy cJ a o v f ++ wX7 cy d u)[i]?) = (wL cy cJ a o v f).map some := xC_left wL_len
  have hPc := xsubP hP hC
  have hDc := xsubD hD (rng_nd 205 0) hC
  have hFc := va_free (wc := wL cy cJ a o v f) hD hS hA (rng 0 205) hC
  refine vx_calli (vx_runSX (As := [.ref (a 0), .int (xs (i + 1).toNatClampNeg), .ref o]) (rest := []) ⟨hx, hb, hml, hown, hts⟩ (c_L_pass l dC dI cy cJ a o _ v f (xs (i + 1).toNatClampNeg) (wK_pass u (xs (i + 1).toNatClampNeg) (xs (i + 2).toNatClampNeg) I) hl9 hq) (vx_cwSW 3 hts gL_law_L_pass rfl rfl rfl (by decide +kernel) ⟨Nat.le_of_ble_eq_true rfl, Nat.le_of_ble_eq_true rfl⟩) ⟨preL_blind, preL_of hPc hK hDc hE hS hFc⟩ rfl rfl hl.1 rfl (lv_room (Nat.le_of_ble_eq_true rfl)) dL_law_356 ⟨by show _ ≤ 601024; omega, by show _ ≤ 7293034; omega⟩) hS (fun q _ h => hFc q h) hFc (fun q _ h => hFc q h) (fun E ce q9 _ t H locs ht hvm _ hB hz1 hk1 hS hce hcv hcl => False.elim hB) (fun k5 u9 t H locs ht hvm hq hB hz1 hk1 hS => ?_)
  obtain ⟨v1, f1⟩ := u9
  obtain ⟨hP1, hD1⟩ := hB
  rw [ht] at hP1
  obtain ⟨hP, hD⟩ := xj hP hD (rng 0 205) (wL cy cJ a o v1 f1) (ws' := wL cy cJ a o v1 f1 ++ wX7 cy d u) hC wL_fst (xS_left wL_len wL_len) hk1 hFc hP1
  have hq : wK_pass u (xs (i + 1).toNatClampNeg) (xs (i + 2).toNatClampNeg) I k5 v1 f1 := hq
  unfold wK_pass at hq
  refine lv_istore (lv' := [(5, .int k5), (0, .ref b), (1, .ref (a 0)), (2, .ref (d 0)), (3, .ref o), (4, .int i)]) hx hb dL_law_359 hl (by decide) rfl (fun ls hl => ?_)
  refine lv_aload_n hx hb dL_law_361 rfl (lv_at hl 3 rfl) ?_
  refine lv_aload_n hx hb dL_law_362 rfl (lv_at hl 1 rfl) ?_
  refine lv_iload hx hb dL_law_363 (lv_at hl 5 rfl) ?_
  refine lv_iconst (v := 1) hx hb dL_law_365 (by decide) ?_
  refine lv_iadd hx hb dL_law_366 ?_
  refine va_sld hx hb hX hbl hbA hS h1 dL_law_367 ?_
  have hC : (rng 205 10).map (fun i => (wL cy cJ a o v1 f1 ++ wX7 cy d u)[i]?) = (wX7 cy d u).map some := xC_right wL_len wX7_len
  have hPc := xsubP hP hC
  have hDc := xsubD hD (rng_nd 10 205) hC
  have hFc := va_free (wc := wX7 cy d u) hD hS hA (rng 205 10) hC
  refine va_calli (va_runV (As := [.int (xs (i + 1).toNatClampNeg)]) (rest := []) ⟨hx, hb, hml, hown, hts⟩ (c_X7_pass l dC dI cy d _ u (xs (i + 1).toNatClampNeg) _ hq) (cwV 1 hts gL_law_X7_pass rfl rfl rfl (by decide +kernel) ⟨Nat.le_of_ble_eq_true rfl, Nat.le_of_ble_eq_true rfl⟩) ⟨xPre_blind, va_recv hKc hPc (ci := 7) (q0 := 0) rfl rfl, xPre_of hPc hKc hDc⟩ rfl rfl hl.1 rfl (lv_room (Nat.le_of_ble_eq_true rfl)) dL_law_368 ⟨by show _ ≤ 601024; omega, by show _ ≤ 7293034; omega⟩) hS (fun q _ h => hFc q h) hFc (fun r368 u9 t H locs ht hvm hq hB hz1 hk1 hS => ?_)
  obtain ⟨hP1, -, hD1⟩ := hB
  obtain ⟨y368_s, y368_saved, y368_savedMany, y368_thrown⟩ := u9
  rw [ht] at hP1
  obtain ⟨hP, hD⟩ := xj hP hD (rng 205 10) (wX7 cy d (y368_s, (X7_aside u), (X7_kept u), (X7_isKept u), y368_saved, y368_savedMany, (X7_text u), (X7_length u), y368_thrown, (X7_joint u), (X7_position u), (X7_isWrong u), (X7_isHollow u), (X7_sure u), (X7_away u), (X7_digested u))) (ws' := wL cy cJ a o v1 f1 ++ wX7 cy d (y368_s, (X7_aside u), (X7_kept u), (X7_isKept u), y368_saved, y368_savedMany, (X7_text u), (X7_length u), y368_thrown, (X7_joint u), (X7_position u), (X7_isWrong u), (X7_isHollow u), (X7_sure u), (X7_away u), (X7_digested u))) hC wX7_fst (xS_right wL_len wX7_len wX7_len) hk1 hFc hP1
  have hq : wp_X7_thrown (y368_s, (X7_aside u), (X7_kept u), (X7_isKept u), y368_saved, y368_savedMany, (X7_text u), (X7_length u), y368_thrown, (X7_joint u), (X7_position u), (X7_isWrong u), (X7_isHollow u), (X7_sure u), (X7_away u), (X7_digested u)) (fun th => th = k5 ∧ (k5 = 0 → f1 (0 : Int32).toNatClampNeg = r368.toInt64) ∧ I v1 (y368_s, (X7_aside u), (X7_kept u), (X7_isKept u), y368_saved, y368_savedMany, (X7_text u), (X7_length u), y368_thrown, (X7_joint u), (X7_position u), (X7_isWrong u), (X7_isHollow u), (X7_sure u), (X7_away u), (X7_digested u)) f1) := hq
  generalize (y368_s, (X7_aside u), (X7_kept u), (X7_isKept u), y368_saved, y368_savedMany, (X7_text u), (X7_length u), y368_thrown, (X7_joint u), (X7_position u), (X7_isWrong u), (X7_isHollow u), (X7_sure u), (X7_away u), (X7_digested u)) = u368 at hP hD hq
  refine lv_istore (lv' := [(6, .int r368), (5, .int k5), (0, .ref b), (1, .ref (a 0)), (2, .ref (d 0)), (3, .ref o), (4, .int i)]) hx hb dL_law_371 hl (by decide) rfl (fun ls hl => ?_)
  refine lv_aload_n hx hb dL_law_373 rfl (lv_at hl 4 rfl) ?_
  have hC : (rng 205 10).map (fun i => (wL cy cJ a o v1 f1 ++ wX7 cy d u368)[i]?) = (wX7 cy d u368).map some := xC_right wL_len wX7_len
  have hPc := xsubP hP hC
  have hDc := xsubD hD (rng_nd 10 205) hC
  have hFc := va_free (wc := wX7 cy d u368) hD hS hA (rng 205 10) hC
  refine va_calli (va_runV (As := []) (rest := []) ⟨hx, hb, hml, hown, hts⟩ (c_X7_thrown l dC dI cy d _ u368 _ hq) (cwV 0 hts gL_law_X7_thrown rfl rfl rfl (by decide +kernel) ⟨Nat.le_of_ble_eq_true rfl, Nat.le_of_ble_eq_true rfl⟩) ⟨xPre_blind, va_recv hKc hPc (ci := 7) (q0 := 0) rfl rfl, xPre_of hPc hKc hDc⟩ rfl rfl hl.1 rfl (lv_room (Nat.le_of_ble_eq_true rfl)) dL_law_374 ⟨by show _ ≤ 601024; omega, by show _ ≤ 7293034; omega⟩) hS (fun q _ h => hFc q h) hFc (fun r374 u9 t H locs ht hvm hq hB hz1 hk1 hS => ?_)
  obtain ⟨hP1, -, hD1⟩ := hB
  rw [ht] at hP1
  have hP : va_P (dC, dI) vwCl (wL cy cJ a o v1 f1 ++ wX7 cy d u368) H := xj_keep hP hD (rng 205 10) hC hP1 hk1
  refine lv_iload hx hb dL_law_377 (lv_at hl 1 rfl) ?_
  obtain ⟨e1, e2, e3⟩ := hq
  refine lv_icmp_eq (tgt := 384) hx hb dL_law_379 (by decide) (fun c1 => ?_) (fun c1 => absurd e1 c1)
  refine lv_iload hx hb dL_law_384 (lv_at hl 1 rfl) ?_
  refine lv_if_ne (tgt := 401) hx hb dL_law_386 (by decide) (fun c2 => ?_) (fun c2 => ?_)
  · refine lv_goto (tgt := 1616) hx hb dL_law_401 (by decide) ?_
    refine W.widen (k := cells + 2) (n := slots + 12) (by omega) (by omega) ?_
    exact bk _ _ _ _ _ ls e3 hP hD hS (lv_sub hl [2, 3, 4, 5, 6] rfl)
  · refine lv_aload_n hx hb dL_law_389 rfl (lv_at hl 5 rfl) ?_
    refine lv_iconst (v := 0) hx hb dL_law_390 (by decide) ?_
    refine va_lald hx hb hK hP 204 4 wL_J rfl vin01 dL_law_391 ?_
    refine lv_iload hx hb dL_law_392 (lv_at hl 0 rfl) ?_
    refine lv_i2l hx hb dL_law_394 rfl ?_
    refine W.lcmp hx hb dL_law_395 ?_
    refine lv_if_eq (tgt := 401) hx hb dL_law_396 (by decide) (fun c3 => ?_) (fun c3 => absurd (by rw [e2 c2]; exact lg_same _) c3)
    refine lv_goto (tgt := 1616) hx hb dL_law_401 (by decide) ?_
    refine W.widen (k := cells + 2) (n := slots + 12) (by omega) (by omega) ?_
    exact bk _ _ _ _ _ ls e3 hP hD hS (lv_sub hl [2, 3, 4, 5, 6] rfl)
def wK_root (u : V_X7) (x1 x2 : Int32) (I : V_X6 → V_X7 → (Nat → Int64) → Prop) (k : Int32) (v : V_X6) (f : Nat → Int64) : Prop := wp_X7_root u x1 x2 (fun b y_s y_saved y_savedMany y_thrown => wp_X7_thrown (y_s, (X7_aside u), (X7_kept u), (X7_isKept u), y_saved, y_savedMany, (X7_text u), (X7_length u), y_thrown, (X7_joint u), (X7_position u), (X7_isWrong u), (X7_isHollow u), (X7_sure u), (X7_away u), (X7_digested u)) (fun th => th = k ∧ (k = 0 → f (0 : Int32).toNatClampNeg = b.toInt64) ∧ I v (y_s, (X7_aside u), (X7_kept u), (X7_isKept u), y_saved, y_savedMany, (X7_text u), (X7_length u), y_thrown, (X7_joint u), (X7_position u), (X7_isWrong u), (X7_isHollow u), (X7_sure u), (X7_away u), (X7_digested u)) f))
def wk_root (v : V_X6) (u : V_X7) (f : Nat → Int64) (x1 x2 : Int32) (I : V_X6 → V_X7 → (Nat → Int64) → Prop) : Prop := wp_X6_root v x1 x2 (fun r z_lawn z_saved z_savedCount z_savedR => wK_root u x1 x2 I 0 (z_lawn, (X6_snapshot v), (X6_trial v), z_savedR, z_saved, (X6_text v), (X6_survey v), (X6_paths v), (X6_snapshotTaken v), z_savedCount, (X6_spareR v)) (vp_updL f (0 : Int32).toNatClampNeg r.toInt64)) (fun E => (E = eI ∧ wK_root u x1 x2 I 1 v f) ∨ (E = eA ∧ wK_root u x1 x2 I 2 v f))
set_option maxHeartbeats 4000000 in
set_option maxRecDepth 100000 in
theorem k_root {p : Program} {l : Launch} {e : Env} {s : State} {m : MethodId} {below : List Frame} {meth : Method} {c : Code} {b L : Nat} {xs : Nat → Int32} (C0 : lw_At p s m meth c b L xs) (hl9 : l.stackTraces = false) {dC : Nat → ClassId} {dI : Nat → Nat → Nat} {cy : Nat → ClassId} {cJ : ClassId} (hK : va_K (dC, dI) vwCl (tysJ cy cJ) s) (hE : xEnvL (lA s) s s.heap) {a d : Nat → Nat} {o : Nat} {i : Int32} (h1 : vp_in (i + 1) L) (h2 : vp_in (i + 2) L) {cells slots : Nat} (hc : cells + 2 ≤ 601024) (hs : slots + 12 ≤ 7293034) {v : V_X6} {u : V_X7} {f : Nat → Int64} {H : Heap} {locs : List Loc} {ls : Array Slot} (hP : va_P (dC, dI) vwCl (wL cy cJ a o v f ++ wX7 cy d u) H) (hD : va_D (lA s) (wL cy cJ a o v f ++ wX7 cy d u)) (hS : va_S (lA s) s.heap H locs) (hl : lv_has ls 9 [(0, .ref b), (1, .ref (a 0)), (2, .ref (d 0)), (3, .ref o), (4, .int i)]) {I : V_X6 → V_X7 → (Nat → Int64) → Prop} (hq : wk_root v u f (xs (i + 1).toNatClampNeg) (xs (i + 2).toNatClampNeg) I) (bk : BK p l e s m below meth c b dC dI cy cJ a d o i (cells + 2) (slots + 12) I) : W p l e room_1 s m #[Value.ref b] below meth c H locs cells slots (lw_Z below #[Value.ref b] s) (F0 m 404 ls []) := by
  obtain ⟨hx, hb, hr, hml, hown, hts, hX, hbl, hlocks, hgv⟩ := C0
  have hts : ∀ w ∈ wsL_law, w.before #[Value.ref b] s = true := fun w h => hts w (wsL_law_in w h)
  have hA : ∀ q : Nat, s.heap.size ≤ q → lA s q := fun _ h => h
  have hbA : ¬ lA s b := Nat.not_le.mpr hbl
  have hKc := tysJ_sub hK
  unfold wk_root at hq
  refine lv_aload_n hx hb dL_law_404 rfl (lv_at hl 1 rfl) ?_
  refine lv_aload_n hx hb dL_law_405 rfl (lv_at hl 0 rfl) ?_
  refine lv_iload hx hb dL_law_406 (lv_at hl 4 rfl) ?_
  refine lv_iconst (v := 1) hx hb dL_law_408 (by decide) ?_
  refine lv_iadd hx hb dL_law_409 ?_
  refine va_sld hx hb hX hbl hbA hS h1 dL_law_410 ?_
  refine lv_aload_n hx hb dL_law_411 rfl (lv_at hl 0 rfl) ?_
  refine lv_iload hx hb dL_law_412 (lv_at hl 4 rfl) ?_
  refine lv_iconst (v := 2) hx hb dL_law_414 (by decide) ?_
  refine lv_iadd hx hb dL_law_415 ?_
  refine va_sld hx hb hX hbl hbA hS h2 dL_law_416 ?_
  refine lv_aload_n hx hb dL_law_417 rfl (lv_at hl 3 rfl) ?_
  have hC : (rng 0 205).map (fun i => (wL cy cJ a o v f ++ wX7 cy d u)[i]?) = (wL cy cJ a o v f).map some := xC_left wL_len
  have hPc := xsubP hP hC
  have hDc := xsubD hD (rng_nd 205 0) hC
  have hFc := va_free (wc := wL cy cJ a o v f) hD hS hA (rng 0 205) hC
  refine vx_calli (vx_runSX (As := [.ref (a 0), .int (xs (i + 1).toNatClampNeg), .int (xs (i + 2).toNatClampNeg), .ref o]) (rest := []) ⟨hx, hb, hml, hown, hts⟩ (c_L_root l dC dI cy cJ a o _ v f (xs (i + 1).toNatClampNeg) (xs (i + 2).toNatClampNeg) (wK_root u (xs (i + 1).toNatClampNeg) (xs (i + 2).toNatClampNeg) I) hl9 hq) (vx_cwSW 4 hts gL_law_L_root rfl rfl rfl (by decide +kernel) ⟨Nat.le_of_ble_eq_true rfl, Nat.le_of_ble_eq_true rfl⟩) ⟨preL_blind, preL_of hPc hK hDc hE hS hFc⟩ rfl rfl hl.1 rfl (lv_room (Nat.le_of_ble_eq_true rfl)) dL_law_418 ⟨by show _ ≤ 601024; omega, by show _ ≤ 7293034; omega⟩) hS (fun q _ h => hFc q h) hFc (fun q _ h => hFc q h) (fun E ce q9 _ t H locs ht hvm _ hB hz1 hk1 hS hce hcv hcl => False.elim hB) (fun k5 u9 t H locs ht hvm hq hB hz1 hk1 hS => ?_)
  obtain ⟨v1, f1⟩ := u9
  obtain ⟨hP1, hD1⟩ := hB
  rw [ht] at hP1
  obtain ⟨hP, hD⟩ := xj hP hD (rng 0 205) (wL cy cJ a o v1 f1) (ws' := wL cy cJ a o v1 f1 ++ wX7 cy d u) hC wL_fst (xS_left wL_len wL_len) hk1 hFc hP1
  have hq : wK_root u (xs (i + 1).toNatClampNeg) (xs (i + 2).toNatClampNeg) I k5 v1 f1 := hq
  unfold wK_root at hq
  refine lv_istore (lv' := [(5, .int k5), (0, .ref b), (1, .ref (a 0)), (2, .ref (d 0)), (3, .ref o), (4, .int i)]) hx hb dL_law_421 hl (by decide) rfl (fun ls hl => ?_)
  refine lv_aload_n hx hb dL_law_423 rfl (lv_at hl 3 rfl) ?_
  refine lv_aload_n hx hb dL_law_424 rfl (lv_at hl 1 rfl) ?_
  refine lv_iload hx hb dL_law_425 (lv_at hl 5 rfl) ?_
  refine lv_iconst (v := 1) hx hb dL_law_427 (by decide) ?_
  refine lv_iadd hx hb dL_law_428 ?_
  refine va_sld hx hb hX hbl hbA hS h1 dL_law_429 ?_
  refine lv_aload_n hx hb dL_law_430 rfl (lv_at hl 1 rfl) ?_
  refine lv_iload hx hb dL_law_431 (lv_at hl 5 rfl) ?_
  refine lv_iconst (v := 2) hx hb dL_law_433 (by decide) ?_
  refine lv_iadd hx hb dL_law_434 ?_
  refine va_sld hx hb hX hbl hbA hS h2 dL_law_435 ?_
  have hC : (rng 205 10).map (fun i => (wL cy cJ a o v1 f1 ++ wX7 cy d u)[i]?) = (wX7 cy d u).map some := xC_right wL_len wX7_len
  have hPc := xsubP hP hC
  have hDc := xsubD hD (rng_nd 10 205) hC
  have hFc := va_free (wc := wX7 cy d u) hD hS hA (rng 205 10) hC
  refine va_calli (va_runV (As := [.int (xs (i + 1).toNatClampNeg), .int (xs (i + 2).toNatClampNeg)]) (rest := []) ⟨hx, hb, hml, hown, hts⟩ (c_X7_root l dC dI cy d _ u (xs (i + 1).toNatClampNeg) (xs (i + 2).toNatClampNeg) _ hq) (cwV 2 hts gL_law_X7_root rfl rfl rfl (by decide +kernel) ⟨Nat.le_of_ble_eq_true rfl, Nat.le_of_ble_eq_true rfl⟩) ⟨xPre_blind, va_recv hKc hPc (ci := 7) (q0 := 0) rfl rfl, xPre_of hPc hKc hDc⟩ rfl rfl hl.1 rfl (lv_room (Nat.le_of_ble_eq_true rfl)) dL_law_436 ⟨by show _ ≤ 601024; omega, by show _ ≤ 7293034; omega⟩) hS (fun q _ h => hFc q h) hFc (fun r436 u9 t H locs ht hvm hq hB hz1 hk1 hS => ?_)
  obtain ⟨hP1, -, hD1⟩ := hB
  obtain ⟨y436_s, y436_saved, y436_savedMany, y436_thrown⟩ := u9
  rw [ht] at hP1
  obtain ⟨hP, hD⟩ := xj hP hD (rng 205 10) (wX7 cy d (y436_s, (X7_aside u), (X7_kept u), (X7_isKept u), y436_saved, y436_savedMany, (X7_text u), (X7_length u), y436_thrown, (X7_joint u), (X7_position u), (X7_isWrong u), (X7_isHollow u), (X7_sure u), (X7_away u), (X7_digested u))) (ws' := wL cy cJ a o v1 f1 ++ wX7 cy d (y436_s, (X7_aside u), (X7_kept u), (X7_isKept u), y436_saved, y436_savedMany, (X7_text u), (X7_length u), y436_thrown, (X7_joint u), (X7_position u), (X7_isWrong u), (X7_isHollow u), (X7_sure u), (X7_away u), (X7_digested u))) hC wX7_fst (xS_right wL_len wX7_len wX7_len) hk1 hFc hP1
  have hq : wp_X7_thrown (y436_s, (X7_aside u), (X7_kept u), (X7_isKept u), y436_saved, y436_savedMany, (X7_text u), (X7_length u), y436_thrown, (X7_joint u), (X7_position u), (X7_isWrong u), (X7_isHollow u), (X7_sure u), (X7_away u), (X7_digested u)) (fun th => th = k5 ∧ (k5 = 0 → f1 (0 : Int32).toNatClampNeg = r436.toInt64) ∧ I v1 (y436_s, (X7_aside u), (X7_kept u), (X7_isKept u), y436_saved, y436_savedMany, (X7_text u), (X7_length u), y436_thrown, (X7_joint u), (X7_position u), (X7_isWrong u), (X7_isHollow u), (X7_sure u), (X7_away u), (X7_digested u)) f1) := hq
  generalize (y436_s, (X7_aside u), (X7_kept u), (X7_isKept u), y436_saved, y436_savedMany, (X7_text u), (X7_length u), y436_thrown, (X7_joint u), (X7_position u), (X7_isWrong u), (X7_isHollow u), (X7_sure u), (X7_away u), (X7_digested u)) = u436 at hP hD hq
  refine lv_istore (lv' := [(6, .int r436), (5, .int k5), (0, .ref b), (1, .ref (a 0)), (2, .ref (d 0)), (3, .ref o), (4, .int i)]) hx hb dL_law_439 hl (by decide) rfl (fun ls hl => ?_)
  refine lv_aload_n hx hb dL_law_441 rfl (lv_at hl 4 rfl) ?_
  have hC : (rng 205 10).map (fun i => (wL cy cJ a o v1 f1 ++ wX7 cy d u436)[i]?) = (wX7 cy d u436).map some := xC_right wL_len wX7_len
  have hPc := xsubP hP hC
  have hDc := xsubD hD (rng_nd 10 205) hC
  have hFc := va_free (wc := wX7 cy d u436) hD hS hA (rng 205 10) hC
  refine va_calli (va_runV (As := []) (rest := []) ⟨hx, hb, hml, hown, hts⟩ (c_X7_thrown l dC dI cy d _ u436 _ hq) (cwV 0 hts gL_law_X7_thrown rfl rfl rfl (by decide +kernel) ⟨Nat.le_of_ble_eq_true rfl, Nat.le_of_ble_eq_true rfl⟩) ⟨xPre_blind, va_recv hKc hPc (ci := 7) (q0 := 0) rfl rfl, xPre_of hPc hKc hDc⟩ rfl rfl hl.1 rfl (lv_room (Nat.le_of_ble_eq_true rfl)) dL_law_442 ⟨by show _ ≤ 601024; omega, by show _ ≤ 7293034; omega⟩) hS (fun q _ h => hFc q h) hFc (fun r442 u9 t H locs ht hvm hq hB hz1 hk1 hS => ?_)
  obtain ⟨hP1, -, hD1⟩ := hB
  rw [ht] at hP1
  have hP : va_P (dC, dI) vwCl (wL cy cJ a o v1 f1 ++ wX7 cy d u436) H := xj_keep hP hD (rng 205 10) hC hP1 hk1
  refine lv_iload hx hb dL_law_445 (lv_at hl 1 rfl) ?_
  obtain ⟨e1, e2, e3⟩ := hq
  refine lv_icmp_eq (tgt := 452) hx hb dL_law_447 (by decide) (fun c1 => ?_) (fun c1 => absurd e1 c1)
  refine lv_iload hx hb dL_law_452 (lv_at hl 1 rfl) ?_
  refine lv_if_ne (tgt := 469) hx hb dL_law_454 (by decide) (fun c2 => ?_) (fun c2 => ?_)
  · refine lv_goto (tgt := 1616) hx hb dL_law_469 (by decide) ?_
    refine W.widen (k := cells + 2) (n := slots + 12) (by omega) (by omega) ?_
    exact bk _ _ _ _ _ ls e3 hP hD hS (lv_sub hl [2, 3, 4, 5, 6] rfl)
  · refine lv_aload_n hx hb dL_law_457 rfl (lv_at hl 5 rfl) ?_
    refine lv_iconst (v := 0) hx hb dL_law_458 (by decide) ?_
    refine va_lald hx hb hK hP 204 4 wL_J rfl vin01 dL_law_459 ?_
    refine lv_iload hx hb dL_law_460 (lv_at hl 0 rfl) ?_
    refine lv_i2l hx hb dL_law_462 rfl ?_
    refine W.lcmp hx hb dL_law_463 ?_
    refine lv_if_eq (tgt := 469) hx hb dL_law_464 (by decide) (fun c3 => ?_) (fun c3 => absurd (by rw [e2 c2]; exact lg_same _) c3)
    refine lv_goto (tgt := 1616) hx hb dL_law_469 (by decide) ?_
    refine W.widen (k := cells + 2) (n := slots + 12) (by omega) (by omega) ?_
    exact bk _ _ _ _ _ ls e3 hP hD hS (lv_sub hl [2, 3, 4, 5, 6] rfl)
def wK_trap (u : V_X7) (x1 x2 : Int32) (I : V_X6 → V_X7 → (Nat → Int64) → Prop) (k : Int32) (v : V_X6) (f : Nat → Int64) : Prop := wp_X7_trap u x1 x2 (fun b y_s y_saved y_savedMany y_thrown => wp_X7_thrown (y_s, (X7_aside u), (X7_kept u), (X7_isKept u), y_saved, y_savedMany, (X7_text u), (X7_length u), y_thrown, (X7_joint u), (X7_position u), (X7_isWrong u), (X7_isHollow u), (X7_sure u), (X7_away u), (X7_digested u)) (fun th => th = k ∧ (k = 0 → f (0 : Int32).toNatClampNeg = b.toInt64) ∧ I v (y_s, (X7_aside u), (X7_kept u), (X7_isKept u), y_saved, y_savedMany, (X7_text u), (X7_length u), y_thrown, (X7_joint u), (X7_position u), (X7_isWrong u), (X7_isHollow u), (X7_sure u), (X7_away u), (X7_digested u)) f))
def wk_trap (v : V_X6) (u : V_X7) (f : Nat → Int64) (x1 x2 : Int32) (I : V_X6 → V_X7 → (Nat → Int64) → Prop) : Prop := wp_X6_trap v x1 x2 (fun r z_lawn z_saved z_savedCount z_savedR => wK_trap u x1 x2 I 0 (z_lawn, (X6_snapshot v), (X6_trial v), z_savedR, z_saved, (X6_text v), (X6_survey v), (X6_paths v), (X6_snapshotTaken v), z_savedCount, (X6_spareR v)) (vp_updL f (0 : Int32).toNatClampNeg r.toInt64)) (fun E => (E = eI ∧ wK_trap u x1 x2 I 1 v f) ∨ (E = eA ∧ wK_trap u x1 x2 I 2 v f) ∨ (E = eS ∧ wK_trap u x1 x2 I 3 v f))
set_option maxHeartbeats 4000000 in
set_option maxRecDepth 100000 in
theorem k_trap {p : Program} {l : Launch} {e : Env} {s : State} {m : MethodId} {below : List Frame} {meth : Method} {c : Code} {b L : Nat} {xs : Nat → Int32} (C0 : lw_At p s m meth c b L xs) (hl9 : l.stackTraces = false) {dC : Nat → ClassId} {dI : Nat → Nat → Nat} {cy : Nat → ClassId} {cJ : ClassId} (hK : va_K (dC, dI) vwCl (tysJ cy cJ) s) (hE : xEnvL (lA s) s s.heap) {a d : Nat → Nat} {o : Nat} {i : Int32} (h1 : vp_in (i + 1) L) (h2 : vp_in (i + 2) L) {cells slots : Nat} (hc : cells + 2 ≤ 601024) (hs : slots + 12 ≤ 7293034) {v : V_X6} {u : V_X7} {f : Nat → Int64} {H : Heap} {locs : List Loc} {ls : Array Slot} (hP : va_P (dC, dI) vwCl (wL cy cJ a o v f ++ wX7 cy d u) H) (hD : va_D (lA s) (wL cy cJ a o v f ++ wX7 cy d u)) (hS : va_S (lA s) s.heap H locs) (hl : lv_has ls 9 [(0, .ref b), (1, .ref (a 0)), (2, .ref (d 0)), (3, .ref o), (4, .int i)]) {I : V_X6 → V_X7 → (Nat → Int64) → Prop} (hq : wk_trap v u f (xs (i + 1).toNatClampNeg) (xs (i + 2).toNatClampNeg) I) (bk : BK p l e s m below meth c b dC dI cy cJ a d o i (cells + 2) (slots + 12) I) : W p l e room_1 s m #[Value.ref b] below meth c H locs cells slots (lw_Z below #[Value.ref b] s) (F0 m 472 ls []) := by
  obtain ⟨hx, hb, hr, hml, hown, hts, hX, hbl, hlocks, hgv⟩ := C0
  have hts : ∀ w ∈ wsL_law, w.before #[Value.ref b] s = true := fun w h => hts w (wsL_law_in w h)
  have hA : ∀ q : Nat, s.heap.size ≤ q → lA s q := fun _ h => h
  have hbA : ¬ lA s b := Nat.not_le.mpr hbl
  have hKc := tysJ_sub hK
  unfold wk_trap at hq
  refine lv_aload_n hx hb dL_law_472 rfl (lv_at hl 1 rfl) ?_
  refine lv_aload_n hx hb dL_law_473 rfl (lv_at hl 0 rfl) ?_
  refine lv_iload hx hb dL_law_474 (lv_at hl 4 rfl) ?_
  refine lv_iconst (v := 1) hx hb dL_law_476 (by decide) ?_
  refine lv_iadd hx hb dL_law_477 ?_
  refine va_sld hx hb hX hbl hbA hS h1 dL_law_478 ?_
  refine lv_aload_n hx hb dL_law_479 rfl (lv_at hl 0 rfl) ?_
  refine lv_iload hx hb dL_law_480 (lv_at hl 4 rfl) ?_
  refine lv_iconst (v := 2) hx hb dL_law_482 (by decide) ?_
  refine lv_iadd hx hb dL_law_483 ?_
  refine va_sld hx hb hX hbl hbA hS h2 dL_law_484 ?_
  refine lv_aload_n hx hb dL_law_485 rfl (lv_at hl 3 rfl) ?_
  have hC : (rng 0 205).map (fun i => (wL cy cJ a o v f ++ wX7 cy d u)[i]?) = (wL cy cJ a o v f).map some := xC_left wL_len
  have hPc := xsubP hP hC
  have hDc := xsubD hD (rng_nd 205 0) hC
  have hFc := va_free (wc := wL cy cJ a o v f) hD hS hA (rng 0 205) hC
  refine vx_calli (vx_runSX (As := [.ref (a 0), .int (xs (i + 1).toNatClampNeg), .int (xs (i + 2).toNatClampNeg), .ref o]) (rest := []) ⟨hx, hb, hml, hown, hts⟩ (c_L_trap l dC dI cy cJ a o _ v f (xs (i + 1).toNatClampNeg) (xs (i + 2).toNatClampNeg) (wK_trap u (xs (i + 1).toNatClampNeg) (xs (i + 2).toNatClampNeg) I) hl9 hq) (vx_cwSW 4 hts gL_law_L_trap rfl rfl rfl (by decide +kernel) ⟨Nat.le_of_ble_eq_true rfl, Nat.le_of_ble_eq_true rfl⟩) ⟨preL_blind, preL_of hPc hK hDc hE hS hFc⟩ rfl rfl hl.1 rfl (lv_room (Nat.le_of_ble_eq_true rfl)) dL_law_486 ⟨by show _ ≤ 601024; omega, by show _ ≤ 7293034; omega⟩) hS (fun q _ h => hFc q h) hFc (fun q _ h => hFc q h) (fun E ce q9 _ t H locs ht hvm _ hB hz1 hk1 hS hce hcv hcl => False.elim hB) (fun k5 u9 t H locs ht hvm hq hB hz1 hk1 hS => ?_)
  obtain ⟨v1, f1⟩ := u9
  obtain ⟨hP1, hD1⟩ := hB
  rw [ht] at hP1
  obtain ⟨hP, hD⟩ := xj hP hD (rng 0 205) (wL cy cJ a o v1 f1) (ws' := wL cy cJ a o v1 f1 ++ wX7 cy d u) hC wL_fst (xS_left wL_len wL_len) hk1 hFc hP1
  have hq : wK_trap u (xs (i + 1).toNatClampNeg) (xs (i + 2).toNatClampNeg) I k5 v1 f1 := hq
  unfold wK_trap at hq
  refine lv_istore (lv' := [(5, .int k5), (0, .ref b), (1, .ref (a 0)), (2, .ref (d 0)), (3, .ref o), (4, .int i)]) hx hb dL_law_489 hl (by decide) rfl (fun ls hl => ?_)
  refine lv_aload_n hx hb dL_law_491 rfl (lv_at hl 3 rfl) ?_
  refine lv_aload_n hx hb dL_law_492 rfl (lv_at hl 1 rfl) ?_
  refine lv_iload hx hb dL_law_493 (lv_at hl 5 rfl) ?_
  refine lv_iconst (v := 1) hx hb dL_law_495 (by decide) ?_
  refine lv_iadd hx hb dL_law_496 ?_
  refine va_sld hx hb hX hbl hbA hS h1 dL_law_497 ?_
  refine lv_aload_n hx hb dL_law_498 rfl (lv_at hl 1 rfl) ?_
  refine lv_iload hx hb dL_law_499 (lv_at hl 5 rfl) ?_
  refine lv_iconst (v := 2) hx hb dL_law_501 (by decide) ?_
  refine lv_iadd hx hb dL_law_502 ?_
  refine va_sld hx hb hX hbl hbA hS h2 dL_law_503 ?_
  have hC : (rng 205 10).map (fun i => (wL cy cJ a o v1 f1 ++ wX7 cy d u)[i]?) = (wX7 cy d u).map some := xC_right wL_len wX7_len
  have hPc := xsubP hP hC
  have hDc := xsubD hD (rng_nd 10 205) hC
  have hFc := va_free (wc := wX7 cy d u) hD hS hA (rng 205 10) hC
  refine va_calli (va_runV (As := [.int (xs (i + 1).toNatClampNeg), .int (xs (i + 2).toNatClampNeg)]) (rest := []) ⟨hx, hb, hml, hown, hts⟩ (c_X7_trap l dC dI cy d _ u (xs (i + 1).toNatClampNeg) (xs (i + 2).toNatClampNeg) _ hq) (cwV 2 hts gL_law_X7_trap rfl rfl rfl (by decide +kernel) ⟨Nat.le_of_ble_eq_true rfl, Nat.le_of_ble_eq_true rfl⟩) ⟨xPre_blind, va_recv hKc hPc (ci := 7) (q0 := 0) rfl rfl, xPre_of hPc hKc hDc⟩ rfl rfl hl.1 rfl (lv_room (Nat.le_of_ble_eq_true rfl)) dL_law_504 ⟨by show _ ≤ 601024; omega, by show _ ≤ 7293034; omega⟩) hS (fun q _ h => hFc q h) hFc (fun r504 u9 t H locs ht hvm hq hB hz1 hk1 hS => ?_)
  obtain ⟨hP1, -, hD1⟩ := hB
  obtain ⟨y504_s, y504_saved, y504_savedMany, y504_thrown⟩ := u9
  rw [ht] at hP1
  obtain ⟨hP, hD⟩ := xj hP hD (rng 205 10) (wX7 cy d (y504_s, (X7_aside u), (X7_kept u), (X7_isKept u), y504_saved, y504_savedMany, (X7_text u), (X7_length u), y504_thrown, (X7_joint u), (X7_position u), (X7_isWrong u), (X7_isHollow u), (X7_sure u), (X7_away u), (X7_digested u))) (ws' := wL cy cJ a o v1 f1 ++ wX7 cy d (y504_s, (X7_aside u), (X7_kept u), (X7_isKept u), y504_saved, y504_savedMany, (X7_text u), (X7_length u), y504_thrown, (X7_joint u), (X7_position u), (X7_isWrong u), (X7_isHollow u), (X7_sure u), (X7_away u), (X7_digested u))) hC wX7_fst (xS_right wL_len wX7_len wX7_len) hk1 hFc hP1
  have hq : wp_X7_thrown (y504_s, (X7_aside u), (X7_kept u), (X7_isKept u), y504_saved, y504_savedMany, (X7_text u), (X7_length u), y504_thrown, (X7_joint u), (X7_position u), (X7_isWrong u), (X7_isHollow u), (X7_sure u), (X7_away u), (X7_digested u)) (fun th => th = k5 ∧ (k5 = 0 → f1 (0 : Int32).toNatClampNeg = r504.toInt64) ∧ I v1 (y504_s, (X7_aside u), (X7_kept u), (X7_isKept u), y504_saved, y504_savedMany, (X7_text u), (X7_length u), y504_thrown, (X7_joint u), (X7_position u), (X7_isWrong u), (X7_isHollow u), (X7_sure u), (X7_away u), (X7_digested u)) f1) := hq
  generalize (y504_s, (X7_aside u), (X7_kept u), (X7_isKept u), y504_saved, y504_savedMany, (X7_text u), (X7_length u), y504_thrown, (X7_joint u), (X7_position u), (X7_isWrong u), (X7_isHollow u), (X7_sure u), (X7_away u), (X7_digested u)) = u504 at hP hD hq
  refine lv_istore (lv' := [(6, .int r504), (5, .int k5), (0, .ref b), (1, .ref (a 0)), (2, .ref (d 0)), (3, .ref o), (4, .int i)]) hx hb dL_law_507 hl (by decide) rfl (fun ls hl => ?_)
  refine lv_aload_n hx hb dL_law_509 rfl (lv_at hl 4 rfl) ?_
  have hC : (rng 205 10).map (fun i => (wL cy cJ a o v1 f1 ++ wX7 cy d u504)[i]?) = (wX7 cy d u504).map some := xC_right wL_len wX7_len
  have hPc := xsubP hP hC
  have hDc := xsubD hD (rng_nd 10 205) hC
  have hFc := va_free (wc := wX7 cy d u504) hD hS hA (rng 205 10) hC
  refine va_calli (va_runV (As := []) (rest := []) ⟨hx, hb, hml, hown, hts⟩ (c_X7_thrown l dC dI cy d _ u504 _ hq) (cwV 0 hts gL_law_X7_thrown rfl rfl rfl (by decide +kernel) ⟨Nat.le_of_ble_eq_true rfl, Nat.le_of_ble_eq_true rfl⟩) ⟨xPre_blind, va_recv hKc hPc (ci := 7) (q0 := 0) rfl rfl, xPre_of hPc hKc hDc⟩ rfl rfl hl.1 rfl (lv_room (Nat.le_of_ble_eq_true rfl)) dL_law_510 ⟨by show _ ≤ 601024; omega, by show _ ≤ 7293034; omega⟩) hS (fun q _ h => hFc q h) hFc (fun r510 u9 t H locs ht hvm hq hB hz1 hk1 hS => ?_)
  obtain ⟨hP1, -, hD1⟩ := hB
  rw [ht] at hP1
  have hP : va_P (dC, dI) vwCl (wL cy cJ a o v1 f1 ++ wX7 cy d u504) H := xj_keep hP hD (rng 205 10) hC hP1 hk1
  refine lv_iload hx hb dL_law_513 (lv_at hl 1 rfl) ?_
  obtain ⟨e1, e2, e3⟩ := hq
  refine lv_icmp_eq (tgt := 520) hx hb dL_law_515 (by decide) (fun c1 => ?_) (fun c1 => absurd e1 c1)
  refine lv_iload hx hb dL_law_520 (lv_at hl 1 rfl) ?_
  refine lv_if_ne (tgt := 537) hx hb dL_law_522 (by decide) (fun c2 => ?_) (fun c2 => ?_)
  · refine lv_goto (tgt := 1616) hx hb dL_law_537 (by decide) ?_
    refine W.widen (k := cells + 2) (n := slots + 12) (by omega) (by omega) ?_
    exact bk _ _ _ _ _ ls e3 hP hD hS (lv_sub hl [2, 3, 4, 5, 6] rfl)
  · refine lv_aload_n hx hb dL_law_525 rfl (lv_at hl 5 rfl) ?_
    refine lv_iconst (v := 0) hx hb dL_law_526 (by decide) ?_
    refine va_lald hx hb hK hP 204 4 wL_J rfl vin01 dL_law_527 ?_
    refine lv_iload hx hb dL_law_528 (lv_at hl 0 rfl) ?_
    refine lv_i2l hx hb dL_law_530 rfl ?_
    refine W.lcmp hx hb dL_law_531 ?_
    refine lv_if_eq (tgt := 537) hx hb dL_law_532 (by decide) (fun c3 => ?_) (fun c3 => absurd (by rw [e2 c2]; exact lg_same _) c3)
    refine lv_goto (tgt := 1616) hx hb dL_law_537 (by decide) ?_
    refine W.widen (k := cells + 2) (n := slots + 12) (by omega) (by omega) ?_
    exact bk _ _ _ _ _ ls e3 hP hD hS (lv_sub hl [2, 3, 4, 5, 6] rfl)
def wK_dig (u : V_X7) (x1 x2 : Int32) (I : V_X6 → V_X7 → (Nat → Int64) → Prop) (k : Int32) (v : V_X6) (f : Nat → Int64) : Prop := wp_X7_dig u x1 (fun b y_s y_saved y_savedMany y_thrown => wp_X7_thrown (y_s, (X7_aside u), (X7_kept u), (X7_isKept u), y_saved, y_savedMany, (X7_text u), (X7_length u), y_thrown, (X7_joint u), (X7_position u), (X7_isWrong u), (X7_isHollow u), (X7_sure u), (X7_away u), (X7_digested u)) (fun th => th = k ∧ (k = 0 → f (0 : Int32).toNatClampNeg = b.toInt64) ∧ I v (y_s, (X7_aside u), (X7_kept u), (X7_isKept u), y_saved, y_savedMany, (X7_text u), (X7_length u), y_thrown, (X7_joint u), (X7_position u), (X7_isWrong u), (X7_isHollow u), (X7_sure u), (X7_away u), (X7_digested u)) f))
def wk_dig (v : V_X6) (u : V_X7) (f : Nat → Int64) (x1 x2 : Int32) (I : V_X6 → V_X7 → (Nat → Int64) → Prop) : Prop := wp_X6_dig v x1 (fun r z_lawn z_saved z_savedCount z_savedR z_spareR => wK_dig u x1 x2 I 0 (z_lawn, (X6_snapshot v), (X6_trial v), z_savedR, z_saved, (X6_text v), (X6_survey v), (X6_paths v), (X6_snapshotTaken v), z_savedCount, z_spareR) (vp_updL f (0 : Int32).toNatClampNeg r.toInt64)) (fun E => (E = eI ∧ wK_dig u x1 x2 I 1 v f))
set_option maxHeartbeats 4000000 in
set_option maxRecDepth 100000 in
theorem k_dig {p : Program} {l : Launch} {e : Env} {s : State} {m : MethodId} {below : List Frame} {meth : Method} {c : Code} {b L : Nat} {xs : Nat → Int32} (C0 : lw_At p s m meth c b L xs) (hl9 : l.stackTraces = false) {dC : Nat → ClassId} {dI : Nat → Nat → Nat} {cy : Nat → ClassId} {cJ : ClassId} (hK : va_K (dC, dI) vwCl (tysJ cy cJ) s) (hE : xEnvL (lA s) s s.heap) {a d : Nat → Nat} {o : Nat} {i : Int32} (h1 : vp_in (i + 1) L) (h2 : vp_in (i + 2) L) {cells slots : Nat} (hc : cells + 2 ≤ 601024) (hs : slots + 12 ≤ 7293034) {v : V_X6} {u : V_X7} {f : Nat → Int64} {H : Heap} {locs : List Loc} {ls : Array Slot} (hP : va_P (dC, dI) vwCl (wL cy cJ a o v f ++ wX7 cy d u) H) (hD : va_D (lA s) (wL cy cJ a o v f ++ wX7 cy d u)) (hS : va_S (lA s) s.heap H locs) (hl : lv_has ls 9 [(0, .ref b), (1, .ref (a 0)), (2, .ref (d 0)), (3, .ref o), (4, .int i)]) {I : V_X6 → V_X7 → (Nat → Int64) → Prop} (hq : wk_dig v u f (xs (i + 1).toNatClampNeg) (xs (i + 2).toNatClampNeg) I) (bk : BK p l e s m below meth c b dC dI cy cJ a d o i (cells + 2) (slots + 12) I) : W p l e room_1 s m #[Value.ref b] below meth c H locs cells slots (lw_Z below #[Value.ref b] s) (F0 m 540 ls []) := by
  obtain ⟨hx, hb, hr, hml, hown, hts, hX, hbl, hlocks, hgv⟩ := C0
  have hts : ∀ w ∈ wsL_law, w.before #[Value.ref b] s = true := fun w h => hts w (wsL_law_in w h)
  have hA : ∀ q : Nat, s.heap.size ≤ q → lA s q := fun _ h => h
  have hbA : ¬ lA s b := Nat.not_le.mpr hbl
  have hKc := tysJ_sub hK
  unfold wk_dig at hq
  refine lv_aload_n hx hb dL_law_540 rfl (lv_at hl 1 rfl) ?_
  refine lv_aload_n hx hb dL_law_541 rfl (lv_at hl 0 rfl) ?_
  refine lv_iload hx hb dL_law_542 (lv_at hl 4 rfl) ?_
  refine lv_iconst (v := 1) hx hb dL_law_544 (by decide) ?_
  refine lv_iadd hx hb dL_law_545 ?_
  refine va_sld hx hb hX hbl hbA hS h1 dL_law_546 ?_
  refine lv_aload_n hx hb dL_law_547 rfl (lv_at hl 3 rfl) ?_
  have hC : (rng 0 205).map (fun i => (wL cy cJ a o v f ++ wX7 cy d u)[i]?) = (wL cy cJ a o v f).map some := xC_left wL_len
  have hPc := xsubP hP hC
  have hDc := xsubD hD (rng_nd 205 0) hC
  have hFc := va_free (wc := wL cy cJ a o v f) hD hS hA (rng 0 205) hC
  refine vx_calli (vx_runSX (As := [.ref (a 0), .int (xs (i + 1).toNatClampNeg), .ref o]) (rest := []) ⟨hx, hb, hml, hown, hts⟩ (c_L_dig l dC dI cy cJ a o _ v f (xs (i + 1).toNatClampNeg) (wK_dig u (xs (i + 1).toNatClampNeg) (xs (i + 2).toNatClampNeg) I) hl9 hq) (vx_cwSW 3 hts gL_law_L_dig rfl rfl rfl (by decide +kernel) ⟨Nat.le_of_ble_eq_true rfl, Nat.le_of_ble_eq_true rfl⟩) ⟨preL_blind, preL_of hPc hK hDc hE hS hFc⟩ rfl rfl hl.1 rfl (lv_room (Nat.le_of_ble_eq_true rfl)) dL_law_548 ⟨by show _ ≤ 601024; omega, by show _ ≤ 7293034; omega⟩) hS (fun q _ h => hFc q h) hFc (fun q _ h => hFc q h) (fun E ce q9 _ t H locs ht hvm _ hB hz1 hk1 hS hce hcv hcl => False.elim hB) (fun k5 u9 t H locs ht hvm hq hB hz1 hk1 hS => ?_)
  obtain ⟨v1, f1⟩ := u9
  obtain ⟨hP1, hD1⟩ := hB
  rw [ht] at hP1
  obtain ⟨hP, hD⟩ := xj hP hD (rng 0 205) (wL cy cJ a o v1 f1) (ws' := wL cy cJ a o v1 f1 ++ wX7 cy d u) hC wL_fst (xS_left wL_len wL_len) hk1 hFc hP1
  have hq : wK_dig u (xs (i + 1).toNatClampNeg) (xs (i + 2).toNatClampNeg) I k5 v1 f1 := hq
  unfold wK_dig at hq
  refine lv_istore (lv' := [(5, .int k5), (0, .ref b), (1, .ref (a 0)), (2, .ref (d 0)), (3, .ref o), (4, .int i)]) hx hb dL_law_551 hl (by decide) rfl (fun ls hl => ?_)
  refine lv_aload_n hx hb dL_law_553 rfl (lv_at hl 3 rfl) ?_
  refine lv_aload_n hx hb dL_law_554 rfl (lv_at hl 1 rfl) ?_
  refine lv_iload hx hb dL_law_555 (lv_at hl 5 rfl) ?_
  refine lv_iconst (v := 1) hx hb dL_law_557 (by decide) ?_
  refine lv_iadd hx hb dL_law_558 ?_
  refine va_sld hx hb hX hbl hbA hS h1 dL_law_559 ?_
  have hC : (rng 205 10).map (fun i => (wL cy cJ a o v1 f1 ++ wX7 cy d u)[i]?) = (wX7 cy d u).map some := xC_right wL_len wX7_len
  have hPc := xsubP hP hC
  have hDc := xsubD hD (rng_nd 10 205) hC
  have hFc := va_free (wc := wX7 cy d u) hD hS hA (rng 205 10) hC
  refine va_calli (va_runV (As := [.int (xs (i + 1).toNatClampNeg)]) (rest := []) ⟨hx, hb, hml, hown, hts⟩ (c_X7_dig l dC dI cy d _ u (xs (i + 1).toNatClampNeg) _ hq) (cwV 1 hts gL_law_X7_dig rfl rfl rfl (by decide +kernel) ⟨Nat.le_of_ble_eq_true rfl, Nat.le_of_ble_eq_true rfl⟩) ⟨xPre_blind, va_recv hKc hPc (ci := 7) (q0 := 0) rfl rfl, xPre_of hPc hKc hDc⟩ rfl rfl hl.1 rfl (lv_room (Nat.le_of_ble_eq_true rfl)) dL_law_560 ⟨by show _ ≤ 601024; omega, by show _ ≤ 7293034; omega⟩) hS (fun q _ h => hFc q h) hFc (fun r560 u9 t H locs ht hvm hq hB hz1 hk1 hS => ?_)
  obtain ⟨hP1, -, hD1⟩ := hB
  obtain ⟨y560_s, y560_saved, y560_savedMany, y560_thrown⟩ := u9
  rw [ht] at hP1
  obtain ⟨hP, hD⟩ := xj hP hD (rng 205 10) (wX7 cy d (y560_s, (X7_aside u), (X7_kept u), (X7_isKept u), y560_saved, y560_savedMany, (X7_text u), (X7_length u), y560_thrown, (X7_joint u), (X7_position u), (X7_isWrong u), (X7_isHollow u), (X7_sure u), (X7_away u), (X7_digested u))) (ws' := wL cy cJ a o v1 f1 ++ wX7 cy d (y560_s, (X7_aside u), (X7_kept u), (X7_isKept u), y560_saved, y560_savedMany, (X7_text u), (X7_length u), y560_thrown, (X7_joint u), (X7_position u), (X7_isWrong u), (X7_isHollow u), (X7_sure u), (X7_away u), (X7_digested u))) hC wX7_fst (xS_right wL_len wX7_len wX7_len) hk1 hFc hP1
  have hq : wp_X7_thrown (y560_s, (X7_aside u), (X7_kept u), (X7_isKept u), y560_saved, y560_savedMany, (X7_text u), (X7_length u), y560_thrown, (X7_joint u), (X7_position u), (X7_isWrong u), (X7_isHollow u), (X7_sure u), (X7_away u), (X7_digested u)) (fun th => th = k5 ∧ (k5 = 0 → f1 (0 : Int32).toNatClampNeg = r560.toInt64) ∧ I v1 (y560_s, (X7_aside u), (X7_kept u), (X7_isKept u), y560_saved, y560_savedMany, (X7_text u), (X7_length u), y560_thrown, (X7_joint u), (X7_position u), (X7_isWrong u), (X7_isHollow u), (X7_sure u), (X7_away u), (X7_digested u)) f1) := hq
  generalize (y560_s, (X7_aside u), (X7_kept u), (X7_isKept u), y560_saved, y560_savedMany, (X7_text u), (X7_length u), y560_thrown, (X7_joint u), (X7_position u), (X7_isWrong u), (X7_isHollow u), (X7_sure u), (X7_away u), (X7_digested u)) = u560 at hP hD hq
  refine lv_istore (lv' := [(6, .int r560), (5, .int k5), (0, .ref b), (1, .ref (a 0)), (2, .ref (d 0)), (3, .ref o), (4, .int i)]) hx hb dL_law_563 hl (by decide) rfl (fun ls hl => ?_)
  refine lv_aload_n hx hb dL_law_565 rfl (lv_at hl 4 rfl) ?_
  have hC : (rng 205 10).map (fun i => (wL cy cJ a o v1 f1 ++ wX7 cy d u560)[i]?) = (wX7 cy d u560).map some := xC_right wL_len wX7_len
  have hPc := xsubP hP hC
  have hDc := xsubD hD (rng_nd 10 205) hC
  have hFc := va_free (wc := wX7 cy d u560) hD hS hA (rng 205 10) hC
  refine va_calli (va_runV (As := []) (rest := []) ⟨hx, hb, hml, hown, hts⟩ (c_X7_thrown l dC dI cy d _ u560 _ hq) (cwV 0 hts gL_law_X7_thrown rfl rfl rfl (by decide +kernel) ⟨Nat.le_of_ble_eq_true rfl, Nat.le_of_ble_eq_true rfl⟩) ⟨xPre_blind, va_recv hKc hPc (ci := 7) (q0 := 0) rfl rfl, xPre_of hPc hKc hDc⟩ rfl rfl hl.1 rfl (lv_room (Nat.le_of_ble_eq_true rfl)) dL_law_566 ⟨by show _ ≤ 601024; omega, by show _ ≤ 7293034; omega⟩) hS (fun q _ h => hFc q h) hFc (fun r566 u9 t H locs ht hvm hq hB hz1 hk1 hS => ?_)
  obtain ⟨hP1, -, hD1⟩ := hB
  rw [ht] at hP1
  have hP : va_P (dC, dI) vwCl (wL cy cJ a o v1 f1 ++ wX7 cy d u560) H := xj_keep hP hD (rng 205 10) hC hP1 hk1
  refine lv_iload hx hb dL_law_569 (lv_at hl 1 rfl) ?_
  obtain ⟨e1, e2, e3⟩ := hq
  refine lv_icmp_eq (tgt := 576) hx hb dL_law_571 (by decide) (fun c1 => ?_) (fun c1 => absurd e1 c1)
  refine lv_iload hx hb dL_law_576 (lv_at hl 1 rfl) ?_
  refine lv_if_ne (tgt := 593) hx hb dL_law_578 (by decide) (fun c2 => ?_) (fun c2 => ?_)
  · refine lv_goto (tgt := 1616) hx hb dL_law_593 (by decide) ?_
    refine W.widen (k := cells + 2) (n := slots + 12) (by omega) (by omega) ?_
    exact bk _ _ _ _ _ ls e3 hP hD hS (lv_sub hl [2, 3, 4, 5, 6] rfl)
  · refine lv_aload_n hx hb dL_law_581 rfl (lv_at hl 5 rfl) ?_
    refine lv_iconst (v := 0) hx hb dL_law_582 (by decide) ?_
    refine va_lald hx hb hK hP 204 4 wL_J rfl vin01 dL_law_583 ?_
    refine lv_iload hx hb dL_law_584 (lv_at hl 0 rfl) ?_
    refine lv_i2l hx hb dL_law_586 rfl ?_
    refine W.lcmp hx hb dL_law_587 ?_
    refine lv_if_eq (tgt := 593) hx hb dL_law_588 (by decide) (fun c3 => ?_) (fun c3 => absurd (by rw [e2 c2]; exact lg_same _) c3)
    refine lv_goto (tgt := 1616) hx hb dL_law_593 (by decide) ?_
    refine W.widen (k := cells + 2) (n := slots + 12) (by omega) (by omega) ?_
    exact bk _ _ _ _ _ ls e3 hP hD hS (lv_sub hl [2, 3, 4, 5, 6] rfl)
def wK_rake (u : V_X7) (x1 x2 : Int32) (I : V_X6 → V_X7 → (Nat → Int64) → Prop) (k : Int32) (v : V_X6) (f : Nat → Int64) : Prop := wp_X7_rake u x1 (fun b y_joint y_s y_saved y_savedMany y_thrown => wp_X7_thrown (y_s, (X7_aside u), (X7_kept u), (X7_isKept u), y_saved, y_savedMany, (X7_text u), (X7_length u), y_thrown, y_joint, (X7_position u), (X7_isWrong u), (X7_isHollow u), (X7_sure u), (X7_away u), (X7_digested u)) (fun th => th = k ∧ (k = 0 → f (0 : Int32).toNatClampNeg = b.toInt64) ∧ I v (y_s, (X7_aside u), (X7_kept u), (X7_isKept u), y_saved, y_savedMany, (X7_text u), (X7_length u), y_thrown, y_joint, (X7_position u), (X7_isWrong u), (X7_isHollow u), (X7_sure u), (X7_away u), (X7_digested u)) f))
def wk_rake (v : V_X6) (u : V_X7) (f : Nat → Int64) (x1 x2 : Int32) (I : V_X6 → V_X7 → (Nat → Int64) → Prop) : Prop := wp_X6_rake v x1 (fun r z_lawn z_saved z_savedCount z_savedR z_spareR => wK_rake u x1 x2 I 0 (z_lawn, (X6_snapshot v), (X6_trial v), z_savedR, z_saved, (X6_text v), (X6_survey v), (X6_paths v), (X6_snapshotTaken v), z_savedCount, z_spareR) (vp_updL f (0 : Int32).toNatClampNeg r.toInt64)) (fun E => (E = eI ∧ wK_rake u x1 x2 I 1 v f) ∨ (E = eS ∧ wK_rake u x1 x2 I 2 v f))
set_option maxHeartbeats 4000000 in
set_option maxRecDepth 100000 in
theorem k_rake {p : Program} {l : Launch} {e : Env} {s : State} {m : MethodId} {below : List Frame} {meth : Method} {c : Code} {b L : Nat} {xs : Nat → Int32} (C0 : lw_At p s m meth c b L xs) (hl9 : l.stackTraces = false) {dC : Nat → ClassId} {dI : Nat → Nat → Nat} {cy : Nat → ClassId} {cJ : ClassId} (hK : va_K (dC, dI) vwCl (tysJ cy cJ) s) (hE : xEnvL (lA s) s s.heap) {a d : Nat → Nat} {o : Nat} {i : Int32} (h1 : vp_in (i + 1) L) (h2 : vp_in (i + 2) L) {cells slots : Nat} (hc : cells + 2 ≤ 601024) (hs : slots + 12 ≤ 7293034) {v : V_X6} {u : V_X7} {f : Nat → Int64} {H : Heap} {locs : List Loc} {ls : Array Slot} (hP : va_P (dC, dI) vwCl (wL cy cJ a o v f ++ wX7 cy d u) H) (hD : va_D (lA s) (wL cy cJ a o v f ++ wX7 cy d u)) (hS : va_S (lA s) s.heap H locs) (hl : lv_has ls 9 [(0, .ref b), (1, .ref (a 0)), (2, .ref (d 0)), (3, .ref o), (4, .int i)]) {I : V_X6 → V_X7 → (Nat → Int64) → Prop} (hq : wk_rake v u f (xs (i + 1).toNatClampNeg) (xs (i + 2).toNatClampNeg) I) (bk : BK p l e s m below meth c b dC dI cy cJ a d o i (cells + 2) (slots + 12) I) : W p l e room_1 s m #[Value.ref b] below meth c H locs cells slots (lw_Z below #[Value.ref b] s) (F0 m 596 ls []) := by
  obtain ⟨hx, hb, hr, hml, hown, hts, hX, hbl, hlocks, hgv⟩ := C0
  have hts : ∀ w ∈ wsL_law, w.before #[Value.ref b] s = true := fun w h => hts w (wsL_law_in w h)
  have hA : ∀ q : Nat, s.heap.size ≤ q → lA s q := fun _ h => h
  have hbA : ¬ lA s b := Nat.not_le.mpr hbl
  have hKc := tysJ_sub hK
  unfold wk_rake at hq
  refine lv_aload_n hx hb dL_law_596 rfl (lv_at hl 1 rfl) ?_
  refine lv_aload_n hx hb dL_law_597 rfl (lv_at hl 0 rfl) ?_
  refine lv_iload hx hb dL_law_598 (lv_at hl 4 rfl) ?_
  refine lv_iconst (v := 1) hx hb dL_law_600 (by decide) ?_
  refine lv_iadd hx hb dL_law_601 ?_
  refine va_sld hx hb hX hbl hbA hS h1 dL_law_602 ?_
  refine lv_aload_n hx hb dL_law_603 rfl (lv_at hl 3 rfl) ?_
  have hC : (rng 0 205).map (fun i => (wL cy cJ a o v f ++ wX7 cy d u)[i]?) = (wL cy cJ a o v f).map some := xC_left wL_len
  have hPc := xsubP hP hC
  have hDc := xsubD hD (rng_nd 205 0) hC
  have hFc := va_free (wc := wL cy cJ a o v f) hD hS hA (rng 0 205) hC
  refine vx_calli (vx_runSX (As := [.ref (a 0), .int (xs (i + 1).toNatClampNeg), .ref o]) (rest := []) ⟨hx, hb, hml, hown, hts⟩ (c_L_rake l dC dI cy cJ a o _ v f (xs (i + 1).toNatClampNeg) (wK_rake u (xs (i + 1).toNatClampNeg) (xs (i + 2).toNatClampNeg) I) hl9 hq) (vx_cwSW 3 hts gL_law_L_rake rfl rfl rfl (by decide +kernel) ⟨Nat.le_of_ble_eq_true rfl, Nat.le_of_ble_eq_true rfl⟩) ⟨preL_blind, preL_of hPc hK hDc hE hS hFc⟩ rfl rfl hl.1 rfl (lv_room (Nat.le_of_ble_eq_true rfl)) dL_law_604 ⟨by show _ ≤ 601024; omega, by show _ ≤ 7293034; omega⟩) hS (fun q _ h => hFc q h) hFc (fun q _ h => hFc q h) (fun E ce q9 _ t H locs ht hvm _ hB hz1 hk1 hS hce hcv hcl => False.elim hB) (fun k5 u9 t H locs ht hvm hq hB hz1 hk1 hS => ?_)
  obtain ⟨v1, f1⟩ := u9
  obtain ⟨hP1, hD1⟩ := hB
  rw [ht] at hP1
  obtain ⟨hP, hD⟩ := xj hP hD (rng 0 205) (wL cy cJ a o v1 f1) (ws' := wL cy cJ a o v1 f1 ++ wX7 cy d u) hC wL_fst (xS_left wL_len wL_len) hk1 hFc hP1
  have hq : wK_rake u (xs (i + 1).toNatClampNeg) (xs (i + 2).toNatClampNeg) I k5 v1 f1 := hq
  unfold wK_rake at hq
  refine lv_istore (lv' := [(5, .int k5), (0, .ref b), (1, .ref (a 0)), (2, .ref (d 0)), (3, .ref o), (4, .int i)]) hx hb dL_law_607 hl (by decide) rfl (fun ls hl => ?_)
  refine lv_aload_n hx hb dL_law_609 rfl (lv_at hl 3 rfl) ?_
  refine lv_aload_n hx hb dL_law_610 rfl (lv_at hl 1 rfl) ?_
  refine lv_iload hx hb dL_law_611 (lv_at hl 5 rfl) ?_
  refine lv_iconst (v := 1) hx hb dL_law_613 (by decide) ?_
  refine lv_iadd hx hb dL_law_614 ?_
  refine va_sld hx hb hX hbl hbA hS h1 dL_law_615 ?_
  have hC : (rng 205 10).map (fun i => (wL cy cJ a o v1 f1 ++ wX7 cy d u)[i]?) = (wX7 cy d u).map some := xC_right wL_len wX7_len
  have hPc := xsubP hP hC
  have hDc := xsubD hD (rng_nd 10 205) hC
  have hFc := va_free (wc := wX7 cy d u) hD hS hA (rng 205 10) hC
  refine va_calli (va_runV (As := [.int (xs (i + 1).toNatClampNeg)]) (rest := []) ⟨hx, hb, hml, hown, hts⟩ (c_X7_rake l dC dI cy d _ u (xs (i + 1).toNatClampNeg) _ hq) (cwV 1 hts gL_law_X7_rake rfl rfl rfl (by decide +kernel) ⟨Nat.le_of_ble_eq_true rfl, Nat.le_of_ble_eq_true rfl⟩) ⟨xPre_blind, va_recv hKc hPc (ci := 7) (q0 := 0) rfl rfl, xPre_of hPc hKc hDc⟩ rfl rfl hl.1 rfl (lv_room (Nat.le_of_ble_eq_true rfl)) dL_law_616 ⟨by show _ ≤ 601024; omega, by show _ ≤ 7293034; omega⟩) hS (fun q _ h => hFc q h) hFc (fun r616 u9 t H locs ht hvm hq hB hz1 hk1 hS => ?_)
  obtain ⟨hP1, -, hD1⟩ := hB
  obtain ⟨y616_joint, y616_s, y616_saved, y616_savedMany, y616_thrown⟩ := u9
  rw [ht] at hP1
  obtain ⟨hP, hD⟩ := xj hP hD (rng 205 10) (wX7 cy d (y616_s, (X7_aside u), (X7_kept u), (X7_isKept u), y616_saved, y616_savedMany, (X7_text u), (X7_length u), y616_thrown, y616_joint, (X7_position u), (X7_isWrong u), (X7_isHollow u), (X7_sure u), (X7_away u), (X7_digested u))) (ws' := wL cy cJ a o v1 f1 ++ wX7 cy d (y616_s, (X7_aside u), (X7_kept u), (X7_isKept u), y616_saved, y616_savedMany, (X7_text u), (X7_length u), y616_thrown, y616_joint, (X7_position u), (X7_isWrong u), (X7_isHollow u), (X7_sure u), (X7_away u), (X7_digested u))) hC wX7_fst (xS_right wL_len wX7_len wX7_len) hk1 hFc hP1
  have hq : wp_X7_thrown (y616_s, (X7_aside u), (X7_kept u), (X7_isKept u), y616_saved, y616_savedMany, (X7_text u), (X7_length u), y616_thrown, y616_joint, (X7_position u), (X7_isWrong u), (X7_isHollow u), (X7_sure u), (X7_away u), (X7_digested u)) (fun th => th = k5 ∧ (k5 = 0 → f1 (0 : Int32).toNatClampNeg = r616.toInt64) ∧ I v1 (y616_s, (X7_aside u), (X7_kept u), (X7_isKept u), y616_saved, y616_savedMany, (X7_text u), (X7_length u), y616_thrown, y616_joint, (X7_position u), (X7_isWrong u), (X7_isHollow u), (X7_sure u), (X7_away u), (X7_digested u)) f1) := hq
  generalize (y616_s, (X7_aside u), (X7_kept u), (X7_isKept u), y616_saved, y616_savedMany, (X7_text u), (X7_length u), y616_thrown, y616_joint, (X7_position u), (X7_isWrong u), (X7_isHollow u), (X7_sure u), (X7_away u), (X7_digested u)) = u616 at hP hD hq
  refine lv_istore (lv' := [(6, .int r616), (5, .int k5), (0, .ref b), (1, .ref (a 0)), (2, .ref (d 0)), (3, .ref o), (4, .int i)]) hx hb dL_law_619 hl (by decide) rfl (fun ls hl => ?_)
  refine lv_aload_n hx hb dL_law_621 rfl (lv_at hl 4 rfl) ?_
  have hC : (rng 205 10).map (fun i => (wL cy cJ a o v1 f1 ++ wX7 cy d u616)[i]?) = (wX7 cy d u616).map some := xC_right wL_len wX7_len
  have hPc := xsubP hP hC
  have hDc := xsubD hD (rng_nd 10 205) hC
  have hFc := va_free (wc := wX7 cy d u616) hD hS hA (rng 205 10) hC
  refine va_calli (va_runV (As := []) (rest := []) ⟨hx, hb, hml, hown, hts⟩ (c_X7_thrown l dC dI cy d _ u616 _ hq) (cwV 0 hts gL_law_X7_thrown rfl rfl rfl (by decide +kernel) ⟨Nat.le_of_ble_eq_true rfl, Nat.le_of_ble_eq_true rfl⟩) ⟨xPre_blind, va_recv hKc hPc (ci := 7) (q0 := 0) rfl rfl, xPre_of hPc hKc hDc⟩ rfl rfl hl.1 rfl (lv_room (Nat.le_of_ble_eq_true rfl)) dL_law_622 ⟨by show _ ≤ 601024; omega, by show _ ≤ 7293034; omega⟩) hS (fun q _ h => hFc q h) hFc (fun r622 u9 t H locs ht hvm hq hB hz1 hk1 hS => ?_)
  obtain ⟨hP1, -, hD1⟩ := hB
  rw [ht] at hP1
  have hP : va_P (dC, dI) vwCl (wL cy cJ a o v1 f1 ++ wX7 cy d u616) H := xj_keep hP hD (rng 205 10) hC hP1 hk1
  refine lv_iload hx hb dL_law_625 (lv_at hl 1 rfl) ?_
  obtain ⟨e1, e2, e3⟩ := hq
  refine lv_icmp_eq (tgt := 632) hx hb dL_law_627 (by decide) (fun c1 => ?_) (fun c1 => absurd e1 c1)
  refine lv_iload hx hb dL_law_632 (lv_at hl 1 rfl) ?_
  refine lv_if_ne (tgt := 649) hx hb dL_law_634 (by decide) (fun c2 => ?_) (fun c2 => ?_)
  · refine lv_goto (tgt := 1616) hx hb dL_law_649 (by decide) ?_
    refine W.widen (k := cells + 2) (n := slots + 12) (by omega) (by omega) ?_
    exact bk _ _ _ _ _ ls e3 hP hD hS (lv_sub hl [2, 3, 4, 5, 6] rfl)
  · refine lv_aload_n hx hb dL_law_637 rfl (lv_at hl 5 rfl) ?_
    refine lv_iconst (v := 0) hx hb dL_law_638 (by decide) ?_
    refine va_lald hx hb hK hP 204 4 wL_J rfl vin01 dL_law_639 ?_
    refine lv_iload hx hb dL_law_640 (lv_at hl 0 rfl) ?_
    refine lv_i2l hx hb dL_law_642 rfl ?_
    refine W.lcmp hx hb dL_law_643 ?_
    refine lv_if_eq (tgt := 649) hx hb dL_law_644 (by decide) (fun c3 => ?_) (fun c3 => absurd (by rw [e2 c2]; exact lg_same _) c3)
    refine lv_goto (tgt := 1616) hx hb dL_law_649 (by decide) ?_
    refine W.widen (k := cells + 2) (n := slots + 12) (by omega) (by omega) ?_
    exact bk _ _ _ _ _ ls e3 hP hD hS (lv_sub hl [2, 3, 4, 5, 6] rfl)
