/-! The reference's tunnels: split, fallen in, counted. -/
theorem at0_set {L : List Nat} {i x k : Nat} (h : k < L.length) : at0 (L.set i x) k = if i = k then x else at0 L k := by
  unfold at0
  rw [List.getElem?_set]
  by_cases e : i = k
  · subst e; simp [h]
  · simp [e]
theorem enc_upTo {t : Nat} {r : List Nat} (h : t ∈ r) : encR (upTo t r) = (encR r).take (r.idxOf t) ++ [t + 64] := by
  have hix := List.idxOf_lt_length_iff.mpr h
  have hx : at0 r (r.idxOf t) = t := by simp [at0, hix]
  have hl := upTo_len h
  apply at0_ext
  · rw [encR_len, hl, List.length_append, List.length_take, encR_len]; simp; omega
  · intro k hk
    rw [encR_len, hl] at hk
    rw [at0_encR (by omega), hl]
    have e1 : at0 (upTo t r) k = at0 r k := by rw [upTo, at0_take hk]
    rw [e1]
    by_cases e : k = r.idxOf t
    · rw [if_pos (by omega), at0_r (by rw [List.length_take, encR_len]; omega)]
      have : k - ((encR r).take (r.idxOf t)).length = 0 := by rw [List.length_take, encR_len]; omega
      rw [this, at0_0, e, hx]
    · rw [if_neg (by omega), at0_l (by rw [List.length_take, encR_len]; omega), at0_take (by omega), at0_encR (by omega), if_neg (by omega)]
theorem enc_drop {r : List Nat} {l : Nat} (h : l < r.length) : (encR r).drop l = encR (r.drop l) := by
  apply at0_ext
  · rw [List.length_drop, encR_len, encR_len, List.length_drop]
  · intro k hk
    rw [List.length_drop, encR_len] at hk
    rw [at0_drop, at0_encR (by omega), at0_encR (by rw [List.length_drop]; omega), at0_drop, List.length_drop]
    congr 1
    by_cases e : l + k + 1 = r.length
    · rw [if_pos e, if_pos (by omega)]
    · rw [if_neg e, if_neg (by omega)]
theorem take_set (L : List Nat) (i x : Nat) (h : i < L.length) : (L.set i x).take (i + 1) = L.take i ++ [x] := by
  rw [take_s (by rw [List.length_set]; exact h), at0_set h, if_pos rfl]
  congr 1
  rw [List.take_set_of_le (by omega)]
theorem drop_set (L : List Nat) {i c : Nat} (x : Nat) (h : i < c) : (L.set i x).drop c = L.drop c := by
  rw [List.drop_set_of_lt h]
/-- what the splitting asks of the tunnels -/
def splitOk (t : Nat) (T : Tu) : Prop := (∀ r ∈ T, r ≠ [] ∧ (∀ x ∈ r, x < 64) ∧ lastOf r ≠ t) ∧ ∀ k, k ≤ T.length → fitT (splitT t (T.take k) ++ T.drop k)
theorem enc_nil {T : Tu} (h : ∀ r ∈ T, r ≠ []) (e : (enc T).length = 0) : T = [] := by
  cases T with
  | nil => rfl
  | cons r T =>
    rw [enc_cons, List.length_append, encR_len] at e
    have := List.length_pos_iff.mpr (h r List.mem_cons_self)
    omega
theorem row_drop {T : Tu} {k : Nat} (h : k < T.length) : T.drop k = row T k :: T.drop (k + 1) := by
  rw [List.drop_eq_getElem_cons h]; simp [row, h]
theorem M_splits {v : V_X7} {T : Tu} (h : MCells (X7_s v) (enc T)) {t : Nat} (ht : t < 64) (hok : splitOk t T) {Q : (Nat → Int32) → Prop} (hq : ∀ s', MCells s' (enc (splitT t T)) → fr (X7_s v) s' → Q s') : wp_X7_splits v (nI t) Q := by
  obtain ⟨hr, hfit⟩ := hok
  unfold wp_X7_splits wp_X7_splits_2
  refine ⟨fun y z => ∃ k, y = nI (enc (splitT t (T.take k))).length ∧ k ≤ T.length ∧ MCells z (enc (splitT t (T.take k) ++ T.drop k)) ∧ fr (X7_s v) z, fun y z => (z 7).toNatClampNeg - y.toNatClampNeg, ⟨0, rfl, Nat.zero_le _, h, fr_rf _⟩, ?_⟩
  rintro _ z ⟨k, rfl, hk, hc, hfr⟩
  have hfk := (hfit k hk).1
  rw [← enc_len, enc_app, List.length_append] at hfk
  rw [enc_app] at hc
  have hz7 : z 7 = nI ((enc (splitT t (T.take k))).length + (enc (T.drop k)).length) := by rw [hc.1, List.length_append]
  unfold wb_X7_splits_2
  simp (disch := omega) only [nI_lit, nI_clamp, nI_inI, hz7, nI_leI, nN_eq]
  refine ⟨by omega, fun q => ?_, fun q => ?_⟩
  · have e := enc_nil (T := T.drop k) (fun r m => (hr r (List.mem_of_mem_drop m)).1) (by omega)
    have hk2 : T.length ≤ k := by simpa using e
    rw [e, List.take_of_length_le hk2, show enc [] = [] from rfl, List.append_nil] at hc
    exact hq z hc hfr
  · have hk2 : k < T.length := by
      apply Classical.byContradiction
      intro e
      rw [List.drop_of_length_le (by omega)] at q
      exact q (by simp [enc])
    have hrk := hr _ (row_mem hk2)
    have pos := List.length_pos_iff.mpr hrk.1
    have hD : enc (T.drop k) = encR (row T k) ++ enc (T.drop (k + 1)) := by rw [row_drop hk2, enc_cons]
    have hlD : (enc (T.drop k)).length = (row T k).length + (enc (T.drop (k + 1))).length := by rw [hD, List.length_append, encR_len]
    have es := splitT_take (t := t) hk2
    have hfk1 := (hfit (k + 1) hk2).1
    rw [← enc_len, enc_app, List.length_append] at hfk1
    rw [hD] at hc
    have hp : pc (enc (splitT t (T.take k)) ++ (encR (row T k) ++ enc (T.drop (k + 1)))) (enc (splitT t (T.take k))).length (row T k) := pc_of hrk.1 hrk.2.1 rfl
    have hL : (enc (splitT t (T.take k)) ++ (encR (row T k) ++ enc (T.drop (k + 1)))).length ≤ 1024 := by
      rw [List.length_append, List.length_append, encR_len]; omega
    refine M_endFrom (v := X7_s0 v z) hc hL hp (k := 0) pos ?_
    refine M_find (v := X7_s0 v z) hc hL hp ht ?_
    rw [ixO_nN (by omega)]
    refine ⟨fun n => ?_, fun y => ?_⟩
    · have er : splitR t (row T k) = [row T k] := by simp [splitR, n]
      have el : (enc (splitT t (T.take (k + 1)))).length = (enc (splitT t (T.take k))).length + (row T k).length := by
        rw [es, er, enc_app, List.length_append]; simp [enc, encR_len]
      simp (disch := omega) only [nI_add, nI_clamp]
      refine ⟨⟨k + 1, by rw [el]; congr 1; omega, hk2, ?_, hfr⟩, by omega⟩
      rw [es, er, enc_app, enc_app]
      simpa [enc] using hc
    · have y : t ∈ row T k := Classical.byContradiction y
      have hix := List.idxOf_lt_length_iff.mpr y
      have hfx : at0 (row T k) ((row T k).idxOf t) = t := by simp [at0, hix]
      have er : splitR t (row T k) = [upTo t (row T k), fromLast t (row T k)] := by simp [splitR, y]
      rw [ixO, if_pos y]
      refine M_findLast (v := X7_s0 v z) hc hL hp ht y (fun l hl hlt hln => ?_)
      have hfl := fromLast_of hl hlt hln
      have hle : (row T k).idxOf t ≤ l := by
        apply Classical.byContradiction
        intro q
        exact hln _ (by omega) hix hfx
      have hlast : l + 1 < (row T k).length := by
        apply Classical.byContradiction
        intro q
        have : lastOf (row T k) = t := by
          unfold lastOf
          rw [show (row T k).length - 1 = l by omega]; exact hlt
        exact hrk.2.2 this
      have hL2 : enc (splitT t (T.take (k + 1)) ++ T.drop (k + 1)) = (enc (splitT t (T.take k)) ++ encR (upTo t (row T k))) ++ (encR (fromLast t (row T k)) ++ enc (T.drop (k + 1))) := by
        rw [es, er, enc_app, enc_app, enc_cons, enc_cons]
        simp [enc]
      have el : (enc (splitT t (T.take (k + 1)))).length = (enc (splitT t (T.take k))).length + ((row T k).idxOf t + 1) + (fromLast t (row T k)).length := by
        rw [es, er, enc_app, enc_cons, enc_cons]
        simp [enc, encR_len, upTo_len y]; omega
      have hll : (fromLast t (row T k)).length = (row T k).length - l := by rw [hfl, List.length_drop]
      have hA1 : (enc (splitT t (T.take k)) ++ encR (upTo t (row T k))).length = (enc (splitT t (T.take k))).length + ((row T k).idxOf t + 1) := by
        rw [List.length_append, encR_len, upTo_len y]
      have fin : ∀ z2, MCells z2 (enc (splitT t (T.take (k + 1)) ++ T.drop (k + 1))) → fr (X7_s v) z2 → wp_X7_splits_106 v (nI t) (nI (enc (splitT t (T.take k))).length) z (fun t0 t1 => (∃ k, t0 = nI (enc (splitT t (T.take k))).length ∧ k ≤ T.length ∧ MCells t1 (enc (splitT t (T.take k) ++ T.drop k)) ∧ fr (X7_s v) t1) ∧ (t1 7).toNatClampNeg - t0.toNatClampNeg < (enc (splitT t (T.take k))).length + (enc (T.drop k)).length - (enc (splitT t (T.take k))).length) (nI ((enc (splitT t (T.take k))).length + (row T k).idxOf t)) z2 Q := by
        intro z2 hz2 hfr2
        unfold wp_X7_splits_106
        have h2 := hz2
        rw [hL2] at h2
        have hr2 : fromLast t (row T k) ≠ [] := fun e => by rw [e] at hll; simp at hll; omega
        have hb2 : ∀ x ∈ fromLast t (row T k), x < 64 := fun x hx => hrk.2.1 x (by rw [hfl] at hx; exact List.mem_of_mem_drop hx)
        have hp2 := pc_of (B := enc (T.drop (k + 1))) hr2 hb2 (b := (enc (splitT t (T.take k)) ++ encR (upTo t (row T k))).length) (A := enc (splitT t (T.take k)) ++ encR (upTo t (row T k))) rfl
        have hl2 : ((enc (splitT t (T.take k)) ++ encR (upTo t (row T k))) ++ (encR (fromLast t (row T k)) ++ enc (T.drop (k + 1)))).length ≤ 1024 := by
          rw [← hL2, enc_app, List.length_append]; exact hfk1
        simp only [nI_lit, nI_add]
        rw [show (enc (splitT t (T.take k))).length + (row T k).idxOf t + 1 = (enc (splitT t (T.take k)) ++ encR (upTo t (row T k))).length + 0 by rw [hA1]; omega]
        refine M_endFrom (v := X7_s0 v z2) h2 hl2 hp2 (k := 0) (by omega) ?_
        have z27 := hz2.1
        rw [enc_app, List.length_append] at z27
        refine ⟨⟨k + 1, by rw [el, hA1, nI_add]; congr 1; omega, hk2, hz2, hfr2⟩, ?_⟩
        rw [z27, hA1, nI_add, nI_clamp (by omega), nI_clamp (by omega)]
        omega
      have hc1 : MCells (upd z (448 + ((enc (splitT t (T.take k))).length + (row T k).idxOf t)) (nI (t + 64))) ((enc (splitT t (T.take k)) ++ (encR (row T k) ++ enc (T.drop (k + 1)))).set ((enc (splitT t (T.take k))).length + (row T k).idxOf t) (t + 64)) := ⟨by rw [upd_n (by omega), List.length_set]; exact hc.1, seg_set hc.2⟩
      have hfr1 : fr (X7_s v) (upd z (448 + ((enc (splitT t (T.take k))).length + (row T k).idxOf t)) (nI (t + 64))) := fr_upd hfr (by omega) _
      have hlenL : (enc (splitT t (T.take k)) ++ (encR (row T k) ++ enc (T.drop (k + 1)))).length = (enc (splitT t (T.take k))).length + ((row T k).length + (enc (T.drop (k + 1))).length) := by
        rw [List.length_append, List.length_append, encR_len]
      have htake : ((enc (splitT t (T.take k)) ++ (encR (row T k) ++ enc (T.drop (k + 1)))).set ((enc (splitT t (T.take k))).length + (row T k).idxOf t) (t + 64)).take ((enc (splitT t (T.take k))).length + (row T k).idxOf t + 1) = enc (splitT t (T.take k)) ++ encR (upTo t (row T k)) := by
        rw [take_set _ _ _ (by rw [hlenL]; omega), enc_upTo y, List.take_length_add_append, List.take_append_of_le_length (by rw [encR_len]; omega), List.append_assoc]
      have hdrop : ∀ c, (row T k).idxOf t < c → c ≤ (row T k).length → ((enc (splitT t (T.take k)) ++ (encR (row T k) ++ enc (T.drop (k + 1)))).set ((enc (splitT t (T.take k))).length + (row T k).idxOf t) (t + 64)).drop ((enc (splitT t (T.take k))).length + c) = (encR (row T k)).drop c ++ enc (T.drop (k + 1)) := by
        intro c h1 h2
        rw [drop_set _ _ (by omega), List.drop_length_add_append, List.drop_append_of_le_length (by rw [encR_len]; omega)]
      simp (disch := omega) only [nI_add, nI_clamp, nI_inI, nI_eq]
      refine ⟨by omega, fun e => ?_, fun e => ?_⟩
      · have e : (row T k).idxOf t = l := by omega
        refine M_shiftsUp (v := X7_s0 v (upd z (448 + ((enc (splitT t (T.take k))).length + (row T k).idxOf t)) (nI (t + 64)))) (n := (enc (splitT t (T.take k))).length + ((row T k).length + (enc (T.drop (k + 1))).length)) (by show upd z _ _ 7 = _; rw [hc1.1, List.length_set, hlenL]) (by rw [el, hll] at hfk1; omega) (by omega) (by omega) (fun s' s7 sa sb => ?_)
        refine ⟨by omega, ?_⟩
        refine fin _ ?_ ?_
        · rw [hL2]
          refine ⟨?_, seg_app ?_ ?_⟩
          · rw [upd_n (by omega), s7, List.length_append, hA1, List.length_append, encR_len, hll]; congr 1; omega
          · refine seg_out ?_ (Or.inr (by rw [hA1]; omega))
            rw [← htake]
            refine seg_of (seg_take hc1.2 (n := (enc (splitT t (T.take k))).length + (row T k).idxOf t + 1)) (fun j hj => ?_)
            rw [htake, hA1] at hj
            exact sa _ (by omega) (by omega)
          · rw [hA1]
            have e2 : encR (fromLast t (row T k)) ++ enc (T.drop (k + 1)) = [t] ++ ((encR (row T k)).drop (l + 1) ++ enc (T.drop (k + 1))) := by
              rw [hfl, ← enc_drop hl, ← List.append_assoc]
              congr 1
              apply at0_ext
              · rw [List.length_append, List.length_drop, List.length_drop, encR_len]; simp; omega
              · intro j hj
                rw [List.length_drop, encR_len] at hj
                rw [at0_drop]
                by_cases z0 : j = 0
                · subst z0
                  rw [at0_l (by simp), at0_0, at0_encR (by omega), if_neg (by omega), Nat.add_zero, Nat.add_zero]; exact hlt
                · rw [at0_r (by simp; omega), at0_drop]; congr 1; simp; omega
            rw [e2]
            refine seg_app ?_ ?_
            · rw [show 448 + ((enc (splitT t (T.take k))).length + ((row T k).idxOf t + 1)) = 448 + ((enc (splitT t (T.take k))).length + (row T k).idxOf t + 1) by omega]
              exact seg_one
            · refine seg_out ?_ (Or.inl (by rw [List.length_singleton]; omega))
              rw [← hdrop (l + 1) (by omega) (by omega)]
              refine seg_of (seg_drop hc1.2 (n := (enc (splitT t (T.take k))).length + (l + 1))) (fun j hj => ?_)
              rw [List.length_drop, List.length_set, hlenL] at hj
              have := sb ((enc (splitT t (T.take k))).length + (l + 1) + j) (by omega) (by omega)
              rw [← Nat.add_assoc 448, ← Nat.add_assoc 448] at this
              rw [show 448 + ((enc (splitT t (T.take k))).length + ((row T k).idxOf t + 1)) + [t].length + j = 448 + (enc (splitT t (T.take k))).length + (l + 1) + j + 1 by simp; omega]
              rw [this]
              show upd z _ _ _ = upd z _ _ _
              congr 1; omega
        · intro q q1 q2
          rw [upd_n (by omega), sa q (by omega) q2]
          exact hfr1 q q1 q2
      · have e : (row T k).idxOf t < l := by omega
        refine M_shiftsDown (v := X7_s0 v (upd z (448 + ((enc (splitT t (T.take k))).length + (row T k).idxOf t)) (nI (t + 64)))) hc1 (by rw [List.length_set]; exact hL) (by omega) (by omega) (by omega) (by rw [List.length_set, hlenL]; omega) (fun s' hs' hf' => ?_)
        refine fin _ ?_ (fr_tr hfr1 hf')
        rw [hL2]
        have : (enc (splitT t (T.take k))).length + l - ((enc (splitT t (T.take k))).length + l - ((enc (splitT t (T.take k))).length + (row T k).idxOf t + 1)) = (enc (splitT t (T.take k))).length + (row T k).idxOf t + 1 := by omega
        rw [this, htake, hdrop l e (by omega), enc_drop hl, ← hfl] at hs'
        exact hs'
theorem dropT_row {t : Nat} {T : Tu} {k : Nat} (h : k < T.length) : dropT t (T.take (k + 1)) = if t ∈ row T k then dropT t (T.take k) else dropT t (T.take k) ++ [row T k] := by
  rw [dropT_take h]
  by_cases e : t ∈ row T k
  · rw [if_pos e]; simp [dropT, e]
  · rw [if_neg e]; simp [dropT, e]
theorem enc_dropT_len (t : Nat) (T : Tu) : (enc (dropT t T)).length ≤ (enc T).length := by
  rw [enc_len, enc_len]; exact dropT_flat t T
theorem M_fallsIn {v : V_X7} {T : Tu} (h : MCells (X7_s v) (enc T)) {t : Nat} (ht : t < 64) (hr : ∀ r ∈ T, r ≠ [] ∧ ∀ x ∈ r, x < 64) (hf : fitT T) {Q : Int32 → (Nat → Int32) → Prop} (hq : ∀ s', MCells s' (enc (dropT t T)) → (∀ q, q < 448 → q ≠ 7 → q ≠ 5 → s' q = X7_s v q) → s' 5 = X7_s v 5 + nI (T.length - (dropT t T).length) → Q (nI (T.length - (dropT t T).length)) s') : wp_X7_fallsIn v (nI t) Q := by
  have hfl : (enc T).length ≤ 1024 := by rw [enc_len]; exact hf.1
  have htl := hf.2
  unfold wp_X7_fallsIn wp_X7_fallsIn_4
  refine ⟨fun n y z => ∃ k, n = nI (k - (dropT t (T.take k)).length) ∧ y = nI (enc (dropT t (T.take k))).length ∧ k ≤ T.length ∧ MCells z (enc (dropT t (T.take k)) ++ enc (T.drop k)) ∧ fr (X7_s v) z, fun _ y z => (z 7).toNatClampNeg - y.toNatClampNeg, ⟨0, rfl, rfl, Nat.zero_le _, h, fr_rf _⟩, ?_⟩
  rintro _ _ z ⟨k, rfl, rfl, hk, hc, hfr⟩
  have hsum : (enc (T.take k)).length + (enc (T.drop k)).length = (enc T).length := by
    rw [← List.length_append, ← enc_app, List.take_append_drop]
  have hdl := enc_dropT_len t (T.take k)
  have hdk := dropT_len t (T.take k)
  rw [List.length_take] at hdk
  have hz7 : z 7 = nI ((enc (dropT t (T.take k))).length + (enc (T.drop k)).length) := by rw [hc.1, List.length_append]
  unfold wb_X7_fallsIn_4
  simp (disch := omega) only [nI_lit, nI_clamp, nI_inI, hz7, nI_leI, nN_eq]
  refine ⟨by omega, fun q => ⟨by omega, ?_⟩, fun q => ?_⟩
  · have e := enc_nil (T := T.drop k) (fun r m => (hr r (List.mem_of_mem_drop m)).1) (by omega)
    have hk2 : k = T.length := by
      have : T.length ≤ k := by simpa using e
      omega
    subst hk2
    rw [e, List.take_length, show enc [] = [] from rfl, List.append_nil] at hc
    rw [List.take_length]
    refine hq _ ⟨by rw [upd_n (by omega)]; exact hc.1, seg_out hc.2 (by omega)⟩ (fun q q1 q2 q3 => by rw [upd_n q3, hfr q q1 q2]) ?_
    rw [upd_s, hfr 5 (by omega) (by omega)]
  · have hk2 : k < T.length := by
      apply Classical.byContradiction
      intro e
      rw [List.drop_of_length_le (by omega)] at q
      exact q (by simp [enc])
    have hrk := hr _ (row_mem hk2)
    have pos := List.length_pos_iff.mpr hrk.1
    have hD : enc (T.drop k) = encR (row T k) ++ enc (T.drop (k + 1)) := by rw [row_drop hk2, enc_cons]
    have hlD : (enc (T.drop k)).length = (row T k).length + (enc (T.drop (k + 1))).length := by rw [hD, List.length_append, encR_len]
    have es := dropT_row (t := t) hk2
    rw [hD] at hc
    have hp : pc (enc (dropT t (T.take k)) ++ (encR (row T k) ++ enc (T.drop (k + 1)))) (enc (dropT t (T.take k))).length (row T k) := pc_of hrk.1 hrk.2 rfl
    have hlL : (enc (dropT t (T.take k)) ++ (encR (row T k) ++ enc (T.drop (k + 1)))).length = (enc (dropT t (T.take k))).length + ((row T k).length + (enc (T.drop (k + 1))).length) := by
      rw [List.length_append, List.length_append, encR_len]
    have hL : (enc (dropT t (T.take k)) ++ (encR (row T k) ++ enc (T.drop (k + 1)))).length ≤ 1024 := by omega
    refine M_endFrom (v := X7_s0 v z) hc hL hp (k := 0) pos ?_
    refine M_find (v := X7_s0 v z) hc hL hp ht ?_
    rw [ixO_nN (by omega)]
    refine ⟨fun n => ?_, fun y => ?_⟩
    · rw [if_neg n] at es
      unfold wp_X7_fallsIn_40 wp_X7_fallsIn_64
      simp (disch := omega) only [nI_lit, nI_add, nI_clamp]
      refine ⟨fun _ => ⟨fun _ => ⟨⟨k + 1, ?_, ?_, hk2, ?_, hfr⟩, ?_⟩, fun q => (q (by trivial)).elim⟩, fun q => (q (by trivial)).elim⟩
      · rw [es, List.length_append]; congr 1; simp
      · rw [es, enc_app, List.length_append]; congr 1; simp [enc, encR_len]; omega
      · rw [es, enc_app]; simpa [enc] using hc
      · rw [hz7, nI_clamp (by omega)]; omega
    · have y : t ∈ row T k := Classical.byContradiction y
      rw [if_pos y] at es
      unfold wp_X7_fallsIn_40
      refine ⟨fun q => absurd q (by decide), fun _ => ?_⟩
      simp only [nI_lit, nI_add]
      rw [sh_3]
      refine M_shiftsDown (v := X7_s0 v z) hc hL (by omega) (by omega) (by omega) (by omega) (fun s' hs' hf' => ?_)
      unfold wp_X7_fallsIn_64
      refine ⟨fun q => absurd q (by decide), fun _ => ⟨⟨k + 1, ?_, by rw [es], hk2, ?_, fr_tr hfr hf'⟩, ?_⟩⟩
      · rw [es]; congr 1; omega
      · rw [es]
        have e1 : (enc (dropT t (T.take k))).length + (row T k).length - 1 + 1 - ((enc (dropT t (T.take k))).length + (row T k).length - 1 + 1 - (enc (dropT t (T.take k))).length) = (enc (dropT t (T.take k))).length := by omega
        have e2 : (enc (dropT t (T.take k))).length + (row T k).length - 1 + 1 = (enc (dropT t (T.take k))).length + (row T k).length := by omega
        rw [e1, e2, List.take_left, List.drop_length_add_append, List.drop_append_of_le_length (by rw [encR_len]; omega), List.drop_of_length_le (by rw [encR_len]; omega), List.nil_append] at hs'
        exact hs'
      · have s7 := hs'.1
        rw [List.length_append, List.length_take, List.length_drop, hlL] at s7
        rw [s7, nI_clamp (by omega), nI_clamp (by omega)]
        omega
