/-! The reference: tunnels that end at a tuft, two put together. -/
def okT (T : Tu) : Prop := (∀ r ∈ T, r ≠ [] ∧ ∀ x ∈ r, x < 64) ∧ fitT T
theorem M_first {v : V_X7} {T : Tu} (h : MCells (X7_s v) (enc T)) (hf : okT T) {k : Nat} (hk : k < T.length) {Q : Int32 → Prop} (hq : Q (nI (at0 (row T k) 0))) : wp_X7_tuftAt v (nI (off T k)) Q :=
  M_tuftAt h (by rw [enc_len]; exact hf.2.1) (pc_enc hf.1 hk) (k := 0) (List.length_pos_iff.mpr (hf.1 _ (row_mem hk)).1) hq
theorem M_end {v : V_X7} {T : Tu} (h : MCells (X7_s v) (enc T)) (hf : okT T) {k : Nat} (hk : k < T.length) {Q : Int32 → Prop} (hq : Q (nI (off T k + (row T k).length - 1))) : wp_X7_endFrom v (nI (off T k)) Q :=
  M_endFrom h (by rw [enc_len]; exact hf.2.1) (pc_enc hf.1 hk) (k := 0) (List.length_pos_iff.mpr (hf.1 _ (row_mem hk)).1) hq
theorem M_last {v : V_X7} {T : Tu} (h : MCells (X7_s v) (enc T)) (hf : okT T) {k : Nat} (hk : k < T.length) {Q : Int32 → Prop} (hq : Q (nI (lastOf (row T k)))) : wp_X7_tuftAt v (nI (off T k + (row T k).length - 1)) Q := by
  have pos := List.length_pos_iff.mpr (hf.1 _ (row_mem hk)).1
  rw [Nat.add_sub_assoc pos]
  exact M_tuftAt h (by rw [enc_len]; exact hf.2.1) (pc_enc hf.1 hk) (by omega) hq
theorem M_endsAt {v : V_X7} {T : Tu} (h : MCells (X7_s v) (enc T)) (hf : okT T) {k : Nat} (hk : k < T.length) {t : Nat} (ht : t < 64) {Q : Int32 → Prop} (hq : Q (bI (endA (row T k) t))) : wp_X7_endsAt v (nI (off T k)) (nI t) Q := by
  have hr := hf.1 _ (row_mem hk)
  have b1 := hr.2 _ (first_mem hr.1)
  have b2 := hr.2 _ (lastOf_mem hr.1)
  unfold wp_X7_endsAt
  refine M_first h hf hk ?_
  simp (disch := omega) only [nI_lit, nN_eq, nI_add, pk_mul, pk_sub, nI_clamp, nI_leI, nI_ltI, nI_eq, nN_ne, nN_ne', nN_lt, nN_le, nN_nlt, nN_nle, nN_add, nN_in, nI_inI, nI_lt0, nN_clamp, bI_0, bI_1, true_implies, false_implies, not_true_eq_false, not_false_eq_true, true_and, and_true]
  refine ⟨fun e => ?_, fun e => M_end h hf hk (M_last h hf hk ?_)⟩
  · have : endA (row T k) t = true := by simp [endA, e]
    rw [this] at hq; exact hq
  · simp (disch := omega) only [nI_lit, nN_eq, nI_add, pk_mul, pk_sub, nI_clamp, nI_leI, nI_ltI, nI_eq, nN_ne, nN_ne', nN_lt, nN_le, nN_nlt, nN_nle, nN_add, nN_in, nI_inI, nI_lt0, nN_clamp, bI_0, bI_1, true_implies, false_implies, not_true_eq_false, not_false_eq_true, true_and, and_true]
    refine ⟨fun e2 => ?_, fun e2 => ?_⟩
    · have : endA (row T k) t = true := by simp [endA, e2]
      rw [this] at hq; exact hq
    · have : endA (row T k) t = false := by simp [endA, e, e2]
      rw [this] at hq; exact hq
theorem M_otherEnd {v : V_X7} {T : Tu} (h : MCells (X7_s v) (enc T)) (hf : okT T) {k : Nat} (hk : k < T.length) {t : Nat} (ht : t < 64) {Q : Int32 → Prop} (hq : Q (nI (otherE (row T k) t))) : wp_X7_otherEnd v (nI (off T k)) (nI t) Q := by
  have hr := hf.1 _ (row_mem hk)
  have b1 := hr.2 _ (first_mem hr.1)
  unfold wp_X7_otherEnd
  unfold otherE at hq
  refine M_first h hf hk ?_
  simp (disch := omega) only [nI_lit, nN_eq, nI_add, pk_mul, pk_sub, nI_clamp, nI_leI, nI_ltI, nI_eq, nN_ne, nN_ne', nN_lt, nN_le, nN_nlt, nN_nle, nN_add, nN_in, nI_inI, nI_lt0, nN_clamp, bI_0, bI_1, true_implies, false_implies, not_true_eq_false, not_false_eq_true, true_and, and_true]
  refine ⟨fun e => M_end h hf hk (M_last h hf hk ?_), fun e => M_first h hf hk ?_⟩
  · rw [if_pos e] at hq; exact hq
  · rw [if_neg e] at hq; exact hq
theorem nextE_le (T : Tu) (t : Nat) {i : Nat} (hi : i ≤ T.length) : nextE T t i ≤ T.length := by
  unfold nextE
  have := List.findIdx_le_length (p := fun r => endA r t) (xs := T.drop i)
  rw [List.length_drop] at this
  omega
theorem nextE_ge (T : Tu) (t i : Nat) : i ≤ nextE T t i := Nat.le_add_right _ _
theorem off_mono (T : Tu) {i j : Nat} (h : i ≤ j) : off T i ≤ off T j := by
  unfold off
  have : T.take i = (T.take j).take i := by rw [List.take_take, Nat.min_eq_left h]
  have h2 := congrArg (fun l => l.flatten.length) (List.take_append_drop i (T.take j))
  rw [List.flatten_append, List.length_append] at h2
  rw [this]
  omega
theorem off_lt {T : Tu} (hf : okT T) {k : Nat} (hk : k < T.length) : off T k < (enc T).length := by
  have := off_row hk
  rw [← enc_len] at this
  have pos := List.length_pos_iff.mpr (hf.1 _ (row_mem hk)).1
  omega
def nxI (T : Tu) (t i : Nat) : Int32 := if nextE T t i < T.length then nI (off T (nextE T t i)) else nN
theorem M_nextEnding {v : V_X7} {T : Tu} (h : MCells (X7_s v) (enc T)) (hf : okT T) {t : Nat} (ht : t < 64) {i : Nat} (hi : i ≤ T.length) {Q : Int32 → Prop} (hq : Q (nxI T t i)) : wp_X7_nextEnding v (nI (off T i)) (nI t) Q := by
  have hfl : (enc T).length ≤ 1024 := by rw [enc_len]; exact hf.2.1
  have hall : ∀ k, T.length ≤ k → off T k = (enc T).length := fun k hk => by rw [off_all hk, enc_len]
  have hle : ∀ k, off T k ≤ (enc T).length := fun k => by rw [enc_len]; exact off_le T k
  have fin : ∀ k, k ≤ T.length → nextE T t i = k → wp_X7_nextEnding_33 v (nI (off T i)) (nI t) (nI (off T k)) Q := by
    intro k hk e
    have := hle k
    unfold wp_X7_nextEnding_33
    simp (disch := omega) only [nI_lit, nN_eq, nI_clamp, nI_inI, h.1, nI_leI]
    refine ⟨by omega, fun q => ?_, fun q => ?_⟩
    · have : ¬ k < T.length := fun z => by
        have := off_lt hf z
        omega
      rw [nxI, e, if_neg this] at hq; exact hq
    · have : k < T.length := by
        apply Classical.byContradiction
        intro z
        exact q (by rw [hall k (by omega)]; exact Nat.le_refl _)
      rw [nxI, e, if_pos this] at hq; exact hq
  unfold wp_X7_nextEnding wp_X7_nextEnding_2
  refine ⟨fun y => ∃ k, y = nI (off T k) ∧ i ≤ k ∧ k ≤ T.length ∧ ∀ j, i ≤ j → j < k → endA (row T j) t = false, fun y => 2000 - y.toNatClampNeg, ⟨i, rfl, Nat.le_refl _, hi, fun j h1 h2 => by omega⟩, ?_⟩
  rintro _ ⟨k, rfl, hk0, hk, hz⟩
  have hlek := hle k
  unfold wb_X7_nextEnding_2
  simp (disch := omega) only [nI_lit, nN_eq, nI_clamp, nI_inI, h.1, nI_leI]
  refine ⟨by omega, fun q => ?_, fun q => ?_⟩
  · have ek : k = T.length := by
      apply Classical.byContradiction
      intro z
      have := off_lt hf (k := k) (by omega)
      omega
    subst ek
    exact fin _ (Nat.le_refl _) (nextE_none hi hz)
  · have hk2 : k < T.length := by
      apply Classical.byContradiction
      intro z
      exact q (by rw [hall k (by omega)]; exact Nat.le_refl _)
    have pos := List.length_pos_iff.mpr (hf.1 _ (row_mem hk2)).1
    have hrow := off_row hk2
    rw [← enc_len] at hrow
    refine M_endsAt h hf hk2 ht ?_
    simp only [bI_0]
    refine ⟨fun e => M_end h hf hk2 ?_, fun e => fin k hk (nextE_of hk0 hk2 hz (by simpa using e))⟩
    simp (disch := omega) only [nI_add, nI_clamp]
    refine ⟨⟨k + 1, by rw [off_s hk2]; congr 1; omega, by omega, hk2, fun j h1 h2 => ?_⟩, by omega⟩
    by_cases e2 : j = k
    · rw [e2]; exact e
    · exact hz j h1 (by omega)
/-- how many tunnels from a place on end at a tuft -/
def cntE (T : Tu) (t i : Nat) : Nat := (T.drop i).countP (fun r => endA r t)
theorem cntE_0 {T : Tu} {t i : Nat} (h : T.length ≤ i) : cntE T t i = 0 := by
  unfold cntE; rw [List.drop_of_length_le h]; rfl
theorem cntE_s {T : Tu} {t i : Nat} (h : i < T.length) : cntE T t i = cntE T t (i + 1) + if endA (row T i) t then 1 else 0 := by
  unfold cntE; rw [row_drop h, List.countP_cons]
theorem nextE_s {T : Tu} {t i : Nat} (h : i < T.length) : nextE T t i = if endA (row T i) t then i else nextE T t (i + 1) := by
  unfold nextE
  rw [row_drop h, List.findIdx_cons]
  cases e : endA (row T i) t with
  | true => rw [if_pos rfl]; rfl
  | false => rw [if_neg (by decide)]; show i + (_ + 1) = _; omega
theorem cntE_next (T : Tu) (t : Nat) : ∀ n i, i + n = T.length → cntE T t i = if nextE T t i < T.length then cntE T t (nextE T t i + 1) + 1 else 0
  | 0, i, h => by
    rw [cntE_0 (by omega), if_neg]
    have := nextE_ge T t i
    omega
  | n + 1, i, h => by
    have hi : i < T.length := by omega
    rw [cntE_s hi, nextE_s hi]
    cases e : endA (row T i) t with
    | true => rw [if_pos rfl, if_pos rfl, if_pos hi]
    | false =>
      simp only [Bool.false_eq_true, if_false, Nat.add_zero]
      exact cntE_next T t n (i + 1) (by omega)
theorem cntE_n {T : Tu} {t i : Nat} (h : i ≤ T.length) : cntE T t i = if nextE T t i < T.length then cntE T t (nextE T t i + 1) + 1 else 0 := cntE_next T t (T.length - i) i (by omega)
theorem M_endingAt {v : V_X7} {T : Tu} (h : MCells (X7_s v) (enc T)) (hf : okT T) {t : Nat} (ht : t < 64) {Q : Int32 → Prop} (hq : Q (nI (cntE T t 0))) : wp_X7_endingAt v (nI t) Q := by
  have hfl : (enc T).length ≤ 1024 := by rw [enc_len]; exact hf.2.1
  have htl := hf.2.2
  have hle : ∀ k, off T k ≤ (enc T).length := fun k => by rw [enc_len]; exact off_le T k
  unfold wp_X7_endingAt wp_X7_endingAt_9
  refine M_nextEnding h hf ht (Nat.zero_le _) (Q := fun r5 => _) ?_
  refine ⟨fun n y => ∃ i k, i ≤ T.length ∧ n = nI k ∧ k + cntE T t i = cntE T t 0 ∧ y = nxI T t i, fun n y => if y = nN then 0 else 2000 - y.toNatClampNeg, ⟨0, 0, Nat.zero_le _, rfl, Nat.zero_add _, rfl⟩, ?_⟩
  rintro _ _ ⟨i, k, hi, rfl, hk, rfl⟩
  have hcn := cntE_n (t := t) hi
  unfold wb_X7_endingAt_9
  by_cases hn : nextE T t i < T.length
  · rw [if_pos hn] at hcn
    have hoff := off_lt hf hn
    have hv : nxI T t i = nI (off T (nextE T t i)) := by rw [nxI, if_pos hn]
    have pos := List.length_pos_iff.mpr (hf.1 _ (row_mem hn)).1
    have hrow := off_row hn
    rw [← enc_len] at hrow
    rw [hv]
    refine ⟨fun q => ((nN_ne (by omega)).mp q).elim, fun _ => M_end h hf hn ?_⟩
    have e1 : nI (off T (nextE T t i) + (row T (nextE T t i)).length - 1) + 1 = nI (off T (nextE T t i + 1)) := by
      rw [off_s hn]
      show nI _ + nI 1 = _
      rw [nI_add]; congr 1; omega
    rw [e1]
    refine M_nextEnding h hf ht hn ?_
    refine ⟨⟨nextE T t i + 1, k + 1, hn, by rw [← nI_add]; rfl, by omega, rfl⟩, ?_⟩
    have h1 : ¬ nI (off T (nextE T t i)) = nN := fun q => (nN_ne (by omega)).mp q
    show (if nxI T t (nextE T t i + 1) = nN then 0 else 2000 - (nxI T t (nextE T t i + 1)).toNatClampNeg) < (if nI (off T (nextE T t i)) = nN then 0 else 2000 - (nI (off T (nextE T t i))).toNatClampNeg)
    rw [if_neg h1, nI_clamp (by omega)]
    unfold nxI
    split
    · rename_i h2
      have h3 := off_lt hf h2
      have h4 : ¬ nI (off T (nextE T t (nextE T t i + 1))) = nN := fun q => (nN_ne (by omega)).mp q
      rw [if_neg h4, nI_clamp (by omega)]
      have h5 := nextE_ge T t (nextE T t i + 1)
      have h6 := off_mono T h5
      rw [off_s hn] at h6
      omega
    · rw [if_pos rfl]; omega
  · rw [if_neg hn] at hcn
    have hv : nxI T t i = nN := by rw [nxI, if_neg hn]
    rw [hv]
    refine ⟨fun _ => ?_, fun q => absurd rfl q⟩
    rw [show k = cntE T t 0 by omega]; exact hq
theorem build_lo {T : Tu} {i j t : Nat} (hi : i ≤ T.length) (hij : i < j) : ∀ k, k ≤ i → build k (joinF T i j t) = T.take k
  | 0, _ => rfl
  | k + 1, h => by
    rw [build_s, build_lo hi hij k (by omega), row_take (by omega)]
    have : joinF T i j t k = [row T k] := by rw [joinF, if_neg (by omega), if_neg (by omega)]
    rw [this]
theorem build_mid {T : Tu} {i j t : Nat} (hj : j < T.length) (hij : i < j) : ∀ n, i + 1 + n ≤ j → build (i + 1 + n) (joinF T i j t) = T.take i ++ joinR t (row T i) (row T j) :: (T.drop (i + 1)).take n
  | 0, _ => by
    rw [Nat.add_zero, build_s, build_lo (by omega) hij i (Nat.le_refl _)]
    have : joinF T i j t i = [joinR t (row T i) (row T j)] := by rw [joinF, if_pos rfl]
    rw [this]; simp
  | n + 1, h => by
    rw [← Nat.add_assoc, build_s, build_mid hj hij n (by omega)]
    have : joinF T i j t (i + 1 + n) = [row T (i + 1 + n)] := by rw [joinF, if_neg (by omega), if_neg (by omega)]
    rw [this, List.append_assoc, List.cons_append]
    congr 2
    have hl : n < (T.drop (i + 1)).length := by rw [List.length_drop]; omega
    have e : row T (i + 1 + n) = row (T.drop (i + 1)) n := by simp [row]
    rw [e, row_take hl]
theorem build_hi {T : Tu} {i j t : Nat} (hj : j < T.length) (hij : i < j) : ∀ n, j + 1 + n ≤ T.length → build (j + 1 + n) (joinF T i j t) = T.take i ++ joinR t (row T i) (row T j) :: ((T.drop (i + 1)).take (j - i - 1) ++ (T.drop (j + 1)).take n)
  | 0, _ => by
    have h1 := build_mid (t := t) hj hij (j - i - 1) (by omega)
    rw [show i + 1 + (j - i - 1) = j by omega] at h1
    rw [Nat.add_zero, build_s, h1]
    have : joinF T i j t j = [] := by rw [joinF, if_neg (by omega), if_pos rfl]
    rw [this]; simp
  | n + 1, h => by
    rw [← Nat.add_assoc, build_s, build_hi hj hij n (by omega)]
    have : joinF T i j t (j + 1 + n) = [row T (j + 1 + n)] := by rw [joinF, if_neg (by omega), if_neg (by omega)]
    rw [this, List.append_assoc, List.cons_append, List.append_assoc]
    congr 3
    have hl : n < (T.drop (j + 1)).length := by rw [List.length_drop]; omega
    have e : row T (j + 1 + n) = row (T.drop (j + 1)) n := by simp [row]
    rw [e, row_take hl]
theorem joinT_eq {T : Tu} {i j t : Nat} (hj : j < T.length) (hij : i < j) : joinT T i j t = T.take i ++ joinR t (row T i) (row T j) :: ((T.drop (i + 1)).take (j - i - 1) ++ T.drop (j + 1)) := by
  have := build_hi (t := t) hj hij (T.length - (j + 1)) (by omega)
  rw [show j + 1 + (T.length - (j + 1)) = T.length by omega, List.take_of_length_le (l := T.drop (j + 1)) (by rw [List.length_drop]; omega)] at this
  exact this
theorem joinT_len {T : Tu} {i j t : Nat} (hj : j < T.length) (hij : i < j) : (joinT T i j t).length = T.length - 1 := by
  rw [joinT_eq hj hij, List.length_append, List.length_cons, List.length_append, List.length_take, List.length_take, List.length_drop, List.length_drop]
  omega
theorem split2 {T : Tu} {i j : Nat} (hj : j < T.length) (hij : i < j) : T = T.take i ++ row T i :: ((T.drop (i + 1)).take (j - i - 1) ++ row T j :: T.drop (j + 1)) := by
  have h1 := row_split (T := T) (i := i) (by omega)
  have h2 : T.drop (i + 1) = (T.drop (i + 1)).take (j - i - 1) ++ row T j :: T.drop (j + 1) := by
    have hl : j - i - 1 < (T.drop (i + 1)).length := by rw [List.length_drop]; omega
    have := row_split hl
    have e : row (T.drop (i + 1)) (j - i - 1) = row T j := by
      simp [row, show i + 1 + (j - i - 1) = j by omega]
    rw [e, List.drop_drop, show i + 1 + (j - i - 1 + 1) = j + 1 by omega] at this
    exact this
  conv => lhs; rw [h1, h2]
theorem take_mid {T : Tu} {i j : Nat} (hj : j < T.length) (hij : i < j) : T.take j = T.take i ++ row T i :: (T.drop (i + 1)).take (j - i - 1) := by
  conv => lhs; rw [show j = (i + 1) + (j - i - 1) by omega, List.take_add, row_take (show i < T.length by omega)]
  simp
theorem M_joins {v : V_X7} {T : Tu} (h : MCells (X7_s v) (enc T)) (hf : okT T) {i j t : Nat} (hj : j < T.length) (hij : i < j) (ht : t < 64) (h2 : 2 ≤ (row T j).length) {Q : (Nat → Int32) → (Nat → Int32) → Prop} (hq : ∀ jo s', MCells s' (enc (joinT T i j t)) → fr (X7_s v) s' → Q jo s') : wp_X7_joins v (nI (off T i)) (nI (off T j)) (nI t) Q := by
  have hi : i < T.length := by omega
  have hfl : (enc T).length ≤ 1024 := by rw [enc_len]; exact hf.2.1
  have r1 := hf.1 _ (row_mem hi)
  have r2 := hf.1 _ (row_mem hj)
  have p1 := List.length_pos_iff.mpr r1.1
  have hp1 := pc_enc hf.1 hi
  have hp2 := pc_enc hf.1 hj
  have b1 := r1.2 _ (lastOf_mem r1.1)
  have b2 := r2.2 _ (first_mem r2.1)
  have hL : enc T = enc (T.take i) ++ (encR (row T i) ++ (enc ((T.drop (i + 1)).take (j - i - 1)) ++ (encR (row T j) ++ enc (T.drop (j + 1))))) := by
    conv => lhs; rw [split2 hj hij]
    rw [enc_app, enc_cons, enc_app, enc_cons]
  have ho1 : off T i = (enc (T.take i)).length := by rw [enc_len]; rfl
  have ho2 : off T j = (enc (T.take i)).length + ((row T i).length + (enc ((T.drop (i + 1)).take (j - i - 1))).length) := by
    have : off T j = (enc (T.take j)).length := by rw [enc_len]; rfl
    rw [this, take_mid hj hij, enc_app, enc_cons, List.length_append, List.length_append, encR_len]
  have hLl : (enc T).length = (enc (T.take i)).length + ((row T i).length + ((enc ((T.drop (i + 1)).take (j - i - 1))).length + ((row T j).length + (enc (T.drop (j + 1))).length))) := by
    rw [hL]; simp only [List.length_append, encR_len]
  have hJl : (joinR t (row T i) (row T j)).length = (row T i).length + ((row T j).length - 1) := by
    unfold joinR
    rw [List.length_append, dirL_len, List.length_tail, dirL_len]
  have hres : enc (joinT T i j t) = enc (T.take i) ++ (encR (joinR t (row T i) (row T j)) ++ (enc ((T.drop (i + 1)).take (j - i - 1)) ++ enc (T.drop (j + 1)))) := by
    rw [joinT_eq hj hij, enc_app, enc_cons, enc_app]
  -- the third part: the cells written
  have last : ∀ jo s3, seg jo 0 (joinR t (row T i) (row T j)) → s3 7 = nI ((enc T).length - 1) → seg s3 448 (enc (T.take i)) → seg s3 (448 + (off T i + (joinR t (row T i) (row T j)).length)) (enc ((T.drop (i + 1)).take (j - i - 1)) ++ enc (T.drop (j + 1))) → fr (X7_s v) s3 → wp_X7_joins_182 v (nI (off T i)) (nI (off T j)) (nI t) (nI (joinR t (row T i) (row T j)).length) jo (nI 0) s3 Q := by
    intro jo s3 hjo h37 h3a h3b h3f
    unfold wp_X7_joins_182
    refine ⟨fun y z => ∃ k, y = nI k ∧ k ≤ (joinR t (row T i) (row T j)).length ∧ z 7 = nI ((enc T).length - 1) ∧ seg z 448 (enc (T.take i)) ∧ (∀ q, q < k → z (448 + off T i + q) = nI (at0 (encR (joinR t (row T i) (row T j))) q)) ∧ seg z (448 + (off T i + (joinR t (row T i) (row T j)).length)) (enc ((T.drop (i + 1)).take (j - i - 1)) ++ enc (T.drop (j + 1))) ∧ fr (X7_s v) z, fun y _ => 2000 - y.toNatClampNeg, ⟨0, rfl, by omega, h37, h3a, fun q hq => by omega, h3b, h3f⟩, ?_⟩
    rintro _ z ⟨k, rfl, hk, z7, z1, z2, z3, zf⟩
    unfold wb_X7_joins_182
    simp (disch := omega) only [nI_lit, nI_add, nI_clamp, nI_inI, nI_leI]
    refine ⟨fun q => ?_, fun q => ⟨by omega, ?_⟩⟩
    · refine hq jo z ?_ zf
      rw [hres]
      refine ⟨?_, seg_app z1 (seg_app (fun q hq => ?_) ?_)⟩
      · rw [z7]; simp only [List.length_append, encR_len, hJl]; congr 1; omega
      · rw [encR_len] at hq
        have := z2 q (by omega)
        rw [ho1] at this
        exact this
      · rw [encR_len, Nat.add_assoc, ← ho1]; exact z3
    · have hk2 : k < (joinR t (row T i) (row T j)).length := by omega
      rw [seg0 hjo hk2]
      have go : ∀ x, at0 (encR (joinR t (row T i) (row T j))) k = at0 (joinR t (row T i) (row T j)) k + x → 448 + off T i + k < 1472 ∧ (∃ k_1, nI (k + 1) = nI k_1 ∧ k_1 ≤ (joinR t (row T i) (row T j)).length ∧ upd z (448 + off T i + k) (nI (at0 (joinR t (row T i) (row T j)) k + x)) 7 = nI ((enc T).length - 1) ∧ seg (upd z (448 + off T i + k) (nI (at0 (joinR t (row T i) (row T j)) k + x))) 448 (enc (T.take i)) ∧ (∀ q, q < k_1 → upd z (448 + off T i + k) (nI (at0 (joinR t (row T i) (row T j)) k + x)) (448 + off T i + q) = nI (at0 (encR (joinR t (row T i) (row T j))) q)) ∧ seg (upd z (448 + off T i + k) (nI (at0 (joinR t (row T i) (row T j)) k + x))) (448 + (off T i + (joinR t (row T i) (row T j)).length)) (enc ((T.drop (i + 1)).take (j - i - 1)) ++ enc (T.drop (j + 1))) ∧ fr (X7_s v) (upd z (448 + off T i + k) (nI (at0 (joinR t (row T i) (row T j)) k + x)))) ∧ 2000 - (k + 1) < 2000 - k := by
        intro x hx
        refine ⟨by omega, ⟨k + 1, rfl, hk2, by rw [upd_n (by omega)]; exact z7, seg_out z1 (by omega), fun q hq => ?_, seg_out z3 (by omega), fr_upd zf (by omega) _⟩, by omega⟩
        by_cases e : q = k
        · subst e; rw [upd_s, hx]
        · rw [upd_n (by omega)]; exact z2 q (by omega)
      rw [pk_sub (by omega)]
      simp (disch := omega) only [nI_add, nI_eq]
      refine ⟨fun e => go 64 ?_, fun e => ?_⟩
      · rw [at0_encR hk2, if_pos (by omega)]
      · have := go 0 (by rw [at0_encR hk2, if_neg (by omega)])
        exact this
  -- the second tunnel into the joint row, and the cells moved
  have loop2 : ∀ jo b, b = (at0 (row T j) 0 == t) → seg jo 0 (dirL (lastOf (row T i) == t) (row T i)) → wp_X7_joins_102 v (nI (off T i)) (nI (off T j)) (nI t) (nI (off T i + (row T i).length - 1)) (nI (off T j + (row T j).length - 1)) (bI b) (nI (row T i).length) (nI 1) jo Q := by
    intro jo b hb hjo
    unfold wp_X7_joins_102
    refine ⟨fun y6 y8 jo => ∃ k, y6 = nI ((row T i).length + k) ∧ y8 = nI (k + 1) ∧ k + 1 ≤ (row T j).length ∧ seg jo 0 (dirL (lastOf (row T i) == t) (row T i) ++ (dirL b (row T j)).tail.take k), fun _ y8 _ => 2000 - y8.toNatClampNeg, ⟨0, rfl, rfl, by omega, by simpa using hjo⟩, ?_⟩
    rintro _ _ jo ⟨k, rfl, rfl, hk, hjo⟩
    unfold wb_X7_joins_102
    rw [pk_sub (by omega), show off T j + (row T j).length - 1 - off T j = (row T j).length - 1 by omega]
    simp (disch := omega) only [nI_lit, nI_add, nI_clamp, nI_inI, nI_ltI]
    refine ⟨fun q => ?_, fun q => ?_⟩
    · have ek : k = (row T j).length - 1 := by omega
      subst ek
      rw [List.take_of_length_le (by rw [List.length_tail, dirL_len]; omega), hb] at hjo
      have hjo : seg jo 0 (joinR t (row T i) (row T j)) := hjo
      rw [sh_3]
      refine M_shiftsDown (v := X7_s9 v jo) h hfl (by omega) (by omega) (by omega) (by omega) (fun s2 hs2 hf2 => ?_)
      have e1 : off T j + (row T j).length - 1 + 1 - (off T j + (row T j).length - 1 + 1 - off T j) = off T j := by omega
      have e2 : off T j + (row T j).length - 1 + 1 = off T j + (row T j).length := by omega
      rw [e1, e2] at hs2
      have hs2 : MCells s2 (enc (T.take i) ++ (encR (row T i) ++ (enc ((T.drop (i + 1)).take (j - i - 1)) ++ enc (T.drop (j + 1))))) := by
        have t1 : (enc T).take (off T j) = enc (T.take i) ++ (encR (row T i) ++ enc ((T.drop (i + 1)).take (j - i - 1))) := by
          rw [hL, ← List.append_assoc (encR (row T i)), ← List.append_assoc (enc (T.take i)), List.take_left' (by rw [ho2]; simp only [List.length_append, encR_len])]
        have t2 : (enc T).drop (off T j + (row T j).length) = enc (T.drop (j + 1)) := by
          rw [hL, ← List.append_assoc (enc ((T.drop (i + 1)).take (j - i - 1))), ← List.append_assoc (encR (row T i)), ← List.append_assoc (enc (T.take i)), List.drop_left' (by rw [ho2]; simp only [List.length_append, encR_len]; omega)]
        rw [t1, t2] at hs2
        simpa only [List.append_assoc] using hs2
      have s27 : s2 7 = nI ((enc T).length - (row T j).length) := by
        rw [hs2.1]; simp only [List.length_append, encR_len]; congr 1; omega
      have ex : nI ((row T i).length + ((row T j).length - 1)) - (nI (off T i + (row T i).length - 1) - nI (off T i) + nI 1) = nI ((row T j).length - 1) := by
        rw [pk_sub (by omega), nI_add, pk_sub (by omega)]; congr 1; omega
      rw [ex]
      refine M_shiftsUp (v := X7_s9 (X7_s0 v s2) jo) (n := (enc T).length - (row T j).length) s27 (by omega) (by omega) (by omega) (fun s3 s37 s3a s3b => ?_)
      have s3a : ∀ q, q < 448 + (off T i + (row T i).length - 1 + 1) + ((row T j).length - 1) → q ≠ 7 → s3 q = s2 q := s3a
      have s3b : ∀ k, off T i + (row T i).length - 1 + 1 ≤ k → k < (enc T).length - (row T j).length → s3 (448 + k + ((row T j).length - 1)) = s2 (448 + k) := s3b
      rw [← hJl]
      refine last jo s3 hjo (by rw [s37]; congr 1; omega) (seg_of (seg_l hs2.2) (fun q hq => s3a _ (by omega) (by omega))) ?_ (fr_tr hf2 (fun q q1 q2 => s3a q (by omega) q2))
      have hr := seg_r (seg_r hs2.2)
      rw [encR_len] at hr
      refine seg_of hr (fun q hq => ?_)
      simp only [List.length_append] at hq
      have := s3b (off T i + (row T i).length + q) (by omega) (by omega)
      rw [hJl, show 448 + (off T i + ((row T i).length + ((row T j).length - 1))) + q = 448 + (off T i + (row T i).length + q) + ((row T j).length - 1) by omega, this, ho1]
      congr 1; omega
    · have step : ∀ idx, idx < (row T j).length → at0 (row T j) idx = at0 (dirL b (row T j)) (k + 1) → wp_X7_joins_135 v (nI (off T i)) (nI (off T j)) (nI t) (nI (off T i + (row T i).length - 1)) (nI (off T j + (row T j).length - 1)) (bI b) (nI ((row T i).length + k)) (nI (k + 1)) jo (fun y6 y8 jo => (∃ k, y6 = nI ((row T i).length + k) ∧ y8 = nI (k + 1) ∧ k + 1 ≤ (row T j).length ∧ seg jo 0 (dirL (lastOf (row T i) == t) (row T i) ++ (dirL b (row T j)).tail.take k)) ∧ 2000 - y8.toNatClampNeg < 2000 - (k + 1)) (nI (off T j + idx)) (nI ((row T i).length + k)) Q := by
        intro idx hidx hat
        unfold wp_X7_joins_135
        refine M_tuftAt (v := X7_s9 v jo) h hfl hp2 hidx ?_
        simp (disch := omega) only [nI_lit, nI_add, nI_clamp, nI_inI]
        refine ⟨by omega, ⟨k + 1, by rw [Nat.add_assoc], rfl, by omega, ?_⟩, by omega⟩
        have e : (dirL b (row T j)).tail.take (k + 1) = (dirL b (row T j)).tail.take k ++ [at0 (row T j) idx] := by
          rw [take_s (by rw [List.length_tail, dirL_len]; omega), at0_tail, hat]
        rw [e, ← List.append_assoc]
        exact seg_snoc hjo (by rw [List.length_append, dirL_len, List.length_take, List.length_tail, dirL_len]; omega)
      refine ⟨fun e => ?_, fun e => ?_⟩
      · have e : b = false := (bI_0 b).mp e
        rw [pk_sub (by omega), show off T j + (row T j).length - 1 - (k + 1) = off T j + ((row T j).length - 1 - (k + 1)) by omega]
        refine step _ (by omega) ?_
        rw [e, dirL_f, at0_rev (by omega)]
      · have e : b = true := by
          cases b with
          | true => rfl
          | false => exact absurd rfl e
        refine step _ (by omega) ?_
        rw [e, dirL_t]
  have loop1 : ∀ b, b = (lastOf (row T i) == t) → wp_X7_joins_37 v (nI (off T i)) (nI (off T j)) (nI t) (nI (off T i + (row T i).length - 1)) (nI (off T j + (row T j).length - 1)) (bI b) (nI 0) (nI 0) (X7_joint v) Q := by
    intro b hb
    unfold wp_X7_joins_37
    refine ⟨fun y6 y8 jo => ∃ k, y6 = nI k ∧ y8 = nI k ∧ k ≤ (row T i).length ∧ seg jo 0 ((dirL b (row T i)).take k), fun _ y8 _ => 2000 - y8.toNatClampNeg, ⟨0, rfl, rfl, by omega, seg_nil _ _⟩, ?_⟩
    rintro _ _ jo ⟨k, rfl, rfl, hk, hjo⟩
    unfold wb_X7_joins_37
    rw [pk_sub (by omega), show off T i + (row T i).length - 1 - off T i = (row T i).length - 1 by omega]
    simp (disch := omega) only [nI_lit, nI_add, nI_clamp, nI_inI, nI_ltI]
    refine ⟨fun q => ?_, fun q => ?_⟩
    · have ek : k = (row T i).length := by omega
      subst ek
      rw [List.take_of_length_le (by rw [dirL_len]; omega), hb] at hjo
      refine M_first (v := X7_s9 v jo) h hf hj ?_
      simp (disch := omega) only [nI_eq]
      exact ⟨fun e => loop2 jo true (by simp [e]) hjo, fun e => loop2 jo false (by simp [e]) hjo⟩
    · have step : ∀ idx, idx < (row T i).length → at0 (row T i) idx = at0 (dirL b (row T i)) k → wp_X7_joins_70 v (nI (off T i)) (nI (off T j)) (nI t) (nI (off T i + (row T i).length - 1)) (nI (off T j + (row T j).length - 1)) (bI b) (nI k) (nI k) jo (fun y6 y8 jo => (∃ k, y6 = nI k ∧ y8 = nI k ∧ k ≤ (row T i).length ∧ seg jo 0 ((dirL b (row T i)).take k)) ∧ 2000 - y8.toNatClampNeg < 2000 - k) (nI (off T i + idx)) (nI k) Q := by
        intro idx hidx hat
        unfold wp_X7_joins_70
        refine M_tuftAt (v := X7_s9 v jo) h hfl hp1 hidx ?_
        simp (disch := omega) only [nI_lit, nI_add, nI_clamp, nI_inI]
        refine ⟨by omega, ⟨k + 1, rfl, rfl, by omega, ?_⟩, by omega⟩
        rw [take_s (by rw [dirL_len]; omega), ← hat]
        exact seg_snoc hjo (by rw [List.length_take, dirL_len]; omega)
      refine ⟨fun e => ?_, fun e => ?_⟩
      · have e : b = false := (bI_0 b).mp e
        rw [pk_sub (by omega), show off T i + (row T i).length - 1 - k = off T i + ((row T i).length - 1 - k) by omega]
        refine step _ (by omega) ?_
        rw [e, dirL_f, at0_rev (by omega)]
      · have e : b = true := by
          cases b with
          | true => rfl
          | false => exact absurd rfl e
        refine step _ (by omega) ?_
        rw [e, dirL_t]
  unfold wp_X7_joins
  refine M_end h hf hi (M_end h hf hj (M_last h hf hi ?_))
  simp (disch := omega) only [nI_lit, nI_eq]
  exact ⟨fun e => loop1 true (by simp [e]), fun e => loop1 false (by simp [e])⟩
