/-! The reference's row of numbers: its cells, where tunnels begin and end, where a tuft is. -/
def MCells (s : Nat → Int32) (L : List Nat) : Prop := s 7 = nI L.length ∧ seg s 448 L
def encR (r : List Nat) : List Nat := r.dropLast ++ (if r = [] then [] else [lastOf r + 64])
theorem encR_len (r : List Nat) : (encR r).length = r.length := by
  unfold encR
  split
  · rename_i h; subst h; rfl
  · rename_i h
    have := List.length_pos_iff.mpr h
    rw [List.length_append, List.length_dropLast]; simp; omega
theorem at0_encR {r : List Nat} {k : Nat} (h : k < r.length) : at0 (encR r) k = at0 r k + if k + 1 = r.length then 64 else 0 := by
  have hne : r ≠ [] := fun e => by rw [e] at h; simp at h
  unfold encR
  rw [if_neg hne]
  by_cases e : k + 1 = r.length
  · rw [if_pos e, at0_r (by simp; omega)]
    have : k - r.dropLast.length = 0 := by simp; omega
    rw [this, at0_0]
    unfold lastOf
    congr 2; omega
  · rw [if_neg e, at0_l (by simp; omega), Nat.add_zero]
    simp only [at0, List.getElem?_dropLast]
    rw [if_pos (by omega)]
def enc (T : Tu) : List Nat := T.flatMap encR
theorem enc_app (A B : Tu) : enc (A ++ B) = enc A ++ enc B := by simp [enc]
theorem enc_cons (r : List Nat) (B : Tu) : enc (r :: B) = encR r ++ enc B := rfl
theorem enc_len : ∀ T : Tu, (enc T).length = T.flatten.length
  | [] => rfl
  | r :: T => by rw [enc_cons, List.length_append, encR_len, enc_len T, List.flatten_cons, List.length_append]
theorem enc_split {T : Tu} {k : Nat} (h : k < T.length) : enc T = enc (T.take k) ++ (encR (row T k) ++ enc (T.drop (k + 1))) := by
  conv => lhs; rw [row_split h]
  rw [enc_app, enc_cons]
/-- a tunnel stands among the cells from a place on -/
def pc (L : List Nat) (b : Nat) (r : List Nat) : Prop := r ≠ [] ∧ (∀ x ∈ r, x < 64) ∧ b + r.length ≤ L.length ∧ ∀ k, k < r.length → at0 L (b + k) = at0 r k + if k + 1 = r.length then 64 else 0
theorem pc_of {A B : List Nat} {r : List Nat} (hr : r ≠ []) (hb : ∀ x ∈ r, x < 64) {b : Nat} (h : b = A.length) : pc (A ++ (encR r ++ B)) b r := by
  subst h
  refine ⟨hr, hb, by rw [List.length_append, List.length_append, encR_len]; omega, fun k hk => ?_⟩
  rw [at0_r (by omega), Nat.add_sub_cancel_left, at0_l (by rw [encR_len]; omega), at0_encR hk]
theorem pc_enc {T : Tu} (hf : ∀ r ∈ T, r ≠ [] ∧ ∀ x ∈ r, x < 64) {k : Nat} (h : k < T.length) : pc (enc T) (off T k) (row T k) := by
  have := hf _ (row_mem h)
  rw [enc_split h]
  exact pc_of this.1 this.2 (by rw [enc_len]; rfl)
theorem pk_mod {s : Nat → Int32} {q x : Nat} (h : s q = nI x) (hx : x < 2 ^ 31) : s q - s q / nI 64 * nI 64 = nI (x % 64) := by
  rw [h, pk_rem hx (by omega) (by omega)]
theorem MCells.at {s : Nat → Int32} {L : List Nat} (h : MCells s L) {k : Nat} (hk : k < L.length) : s (448 + k) = nI (at0 L k) := h.2 k hk
theorem M_tuftAt {v : V_X7} {L : List Nat} (h : MCells (X7_s v) L) (hl : L.length ≤ 1024) {b : Nat} {r : List Nat} (hp : pc L b r) {k : Nat} (hk : k < r.length) {Q : Int32 → Prop} (hq : Q (nI (at0 r k))) : wp_X7_tuftAt v (nI (b + k)) Q := by
  obtain ⟨p1, p2, p3, p4⟩ := hp
  have hx := p2 _ (at0_mem hk)
  unfold wp_X7_tuftAt
  simp (disch := omega) only [nI_lit, nI_add, nI_clamp, nI_inI]
  refine ⟨by omega, ?_⟩
  rw [pk_mod (h.at (k := b + k) (by omega)) (by rw [p4 k hk]; split <;> omega), p4 k hk]
  have : (at0 r k + if k + 1 = r.length then 64 else 0) % 64 = at0 r k := by split <;> omega
  rw [this]; exact hq
theorem M_endFrom {v : V_X7} {L : List Nat} (h : MCells (X7_s v) L) (hl : L.length ≤ 1024) {b : Nat} {r : List Nat} (hp : pc L b r) {k : Nat} (hk : k < r.length) {Q : Int32 → Prop} (hq : Q (nI (b + r.length - 1))) : wp_X7_endFrom v (nI (b + k)) Q := by
  obtain ⟨p1, p2, p3, p4⟩ := hp
  unfold wp_X7_endFrom wp_X7_endFrom_2
  refine ⟨fun y => ∃ j, y = nI (b + j) ∧ j < r.length, fun y => 2000 - y.toNatClampNeg, ⟨k, rfl, hk⟩, ?_⟩
  rintro _ ⟨j, rfl, hj⟩
  have hx := p2 _ (at0_mem hj)
  unfold wb_X7_endFrom_2
  simp (disch := omega) only [nI_lit, nI_add, nI_clamp, nI_inI]
  rw [h.at (k := b + j) (by omega), p4 j hj]
  refine ⟨by omega, ?_⟩
  by_cases e : j + 1 = r.length
  · rw [if_pos e]
    refine ⟨fun _ => ?_, fun q => absurd (nI_le (by omega) (by omega)) q⟩
    rw [show b + j = b + r.length - 1 by omega]; exact hq
  · rw [if_neg e]
    refine ⟨fun q => absurd q (nI_ge (by omega) (by omega)), fun _ => ⟨⟨j + 1, by rw [Nat.add_assoc], by omega⟩, by omega⟩⟩
theorem M_find {v : V_X7} {L : List Nat} (h : MCells (X7_s v) L) (hl : L.length ≤ 1024) {b : Nat} {r : List Nat} (hp : pc L b r) {t : Nat} (ht : t < 64) {Q : Int32 → Prop} (hq : Q (ixO b r t)) : wp_X7_find v (nI t) (nI b) (nI (b + r.length - 1)) (nI 0) Q := by
  have hp' := hp
  obtain ⟨p1, p2, p3, p4⟩ := hp
  have pos := List.length_pos_iff.mpr p1
  unfold wp_X7_find wp_X7_find_6
  refine ⟨fun f y => ∃ j, y = nI (b + j) ∧ j ≤ r.length ∧ ((f = nN ∧ ∀ i, i < j → at0 r i ≠ t) ∨ (t ∈ r ∧ f = nI (b + r.idxOf t) ∧ r.idxOf t < j)), fun f y => 2000 - y.toNatClampNeg, ⟨0, rfl, by omega, Or.inl ⟨rfl, fun i hi => by omega⟩⟩, ?_⟩
  rintro f _ ⟨j, rfl, hj, hc⟩
  unfold wb_X7_find_6
  simp (disch := omega) only [nI_lit, nN_eq, nI_add, pk_mul, pk_sub, nI_clamp, nI_leI, nI_ltI, nI_eq, nN_ne, nN_ne', nN_lt, nN_le, nN_nlt, nN_nle, nN_add, nN_in, nI_inI, nI_lt0, nN_clamp, bI_0, bI_1, true_implies, false_implies, not_true_eq_false, not_false_eq_true, true_and, and_true]
  refine ⟨fun q => ?_, fun q => ?_⟩
  · rcases hc with ⟨rfl, hn⟩ | ⟨hm, rfl, hi⟩
    · have : t ∉ r := idx_none (fun i hi => hn i (by omega))
      rw [ixO, if_neg this] at hq; exact hq
    · rw [ixO, if_pos hm] at hq; exact hq
  · have hj2 : j < r.length := by omega
    have hx := p2 _ (at0_mem hj2)
    refine M_tuftAt h hl hp' hj2 ?_
    have nxt : ∀ f, ((f = nN ∧ ∀ i, i < j + 1 → at0 r i ≠ t) ∨ (t ∈ r ∧ f = nI (b + r.idxOf t) ∧ r.idxOf t < j + 1)) → (∃ j_1, nI (b + j + 1) = nI (b + j_1) ∧ j_1 ≤ r.length ∧ ((f = nN ∧ ∀ i, i < j_1 → at0 r i ≠ t) ∨ (t ∈ r ∧ f = nI (b + r.idxOf t) ∧ r.idxOf t < j_1))) ∧ 2000 - (b + j + 1) < 2000 - (b + j) := fun f hf => ⟨⟨j + 1, by rw [Nat.add_assoc], by omega, hf⟩, by omega⟩
    simp (disch := omega) only [nI_lit, nN_eq, nI_add, pk_mul, pk_sub, nI_clamp, nI_leI, nI_ltI, nI_eq, nN_ne, nN_ne', nN_lt, nN_le, nN_nlt, nN_nle, nN_add, nN_in, nI_inI, nI_lt0, nN_clamp, bI_0, bI_1, true_implies, false_implies, not_true_eq_false, not_false_eq_true, true_and, and_true]
    refine ⟨fun e => ?_, fun e => ?_⟩
    · rcases hc with ⟨rfl, hn⟩ | ⟨hm, rfl, hi⟩
      · refine ⟨fun _ => ⟨⟨j + 1, by rw [Nat.add_assoc], by omega, Or.inr ?_⟩, by omega⟩, fun q => (q rfl).elim⟩
        obtain ⟨z1, z2⟩ := idx_of hj2 e hn
        exact ⟨z1, by rw [z2], by omega⟩
      · refine ⟨fun q => ((nN_ne (by omega)).mp q).elim, fun _ => nxt _ (Or.inr ⟨hm, rfl, by omega⟩)⟩
    · refine nxt _ ?_
      rcases hc with ⟨rfl, hn⟩ | ⟨hm, rfl, hi⟩
      · refine Or.inl ⟨rfl, fun i hi => ?_⟩
        by_cases z : i = j
        · rw [z]; exact e
        · exact hn i (by omega)
      · exact Or.inr ⟨hm, rfl, by omega⟩
theorem M_findLast {v : V_X7} {L : List Nat} (h : MCells (X7_s v) L) (hl : L.length ≤ 1024) {b : Nat} {r : List Nat} (hp : pc L b r) {t : Nat} (ht : t < 64) (hm : t ∈ r) {Q : Int32 → Prop} (hq : ∀ j, j < r.length → at0 r j = t → (∀ i, j < i → i < r.length → at0 r i ≠ t) → Q (nI (b + j))) : wp_X7_find v (nI t) (nI b) (nI (b + r.length - 1)) (nI 1) Q := by
  have hp' := hp
  obtain ⟨p1, p2, p3, p4⟩ := hp
  have pos := List.length_pos_iff.mpr p1
  unfold wp_X7_find wp_X7_find_6
  refine ⟨fun f y => ∃ j, y = nI (b + j) ∧ j ≤ r.length ∧ ((f = nN ∧ ∀ i, i < j → at0 r i ≠ t) ∨ (∃ k, f = nI (b + k) ∧ k < j ∧ at0 r k = t ∧ ∀ i, k < i → i < j → at0 r i ≠ t)), fun f y => 2000 - y.toNatClampNeg, ⟨0, rfl, by omega, Or.inl ⟨rfl, fun i hi => by omega⟩⟩, ?_⟩
  rintro f _ ⟨j, rfl, hj, hc⟩
  unfold wb_X7_find_6
  simp (disch := omega) only [nI_lit, nN_eq, nI_add, pk_mul, pk_sub, nI_clamp, nI_leI, nI_ltI, nI_eq, nN_ne, nN_ne', nN_lt, nN_le, nN_nlt, nN_nle, nN_add, nN_in, nI_inI, nI_lt0, nN_clamp, bI_0, bI_1, true_implies, false_implies, not_true_eq_false, not_false_eq_true, true_and, and_true]
  refine ⟨fun q => ?_, fun q => ?_⟩
  · have ej : j = r.length := by omega
    subst ej
    rcases hc with ⟨rfl, hn⟩ | ⟨k, rfl, h1, h2, h3⟩
    · exact absurd hm (idx_none hn)
    · exact hq k h1 h2 h3
  · have hj2 : j < r.length := by omega
    have hx := p2 _ (at0_mem hj2)
    refine M_tuftAt h hl hp' hj2 ?_
    simp (disch := omega) only [nI_lit, nN_eq, nI_add, pk_mul, pk_sub, nI_clamp, nI_leI, nI_ltI, nI_eq, nN_ne, nN_ne', nN_lt, nN_le, nN_nlt, nN_nle, nN_add, nN_in, nI_inI, nI_lt0, nN_clamp, bI_0, bI_1, true_implies, false_implies, not_true_eq_false, not_false_eq_true, true_and, and_true]
    refine ⟨fun e => ⟨fun q => absurd q (by decide), fun _ => ⟨⟨j + 1, by rw [Nat.add_assoc], by omega, Or.inr ⟨j, rfl, by omega, e, fun i h1 h2 => by omega⟩⟩, by omega⟩⟩, fun e => ⟨⟨j + 1, by rw [Nat.add_assoc], by omega, ?_⟩, by omega⟩⟩
    rcases hc with ⟨rfl, hn⟩ | ⟨k, rfl, h1, h2, h3⟩
    · refine Or.inl ⟨rfl, fun i hi => ?_⟩
      by_cases z : i = j
      · rw [z]; exact e
      · exact hn i (by omega)
    · refine Or.inr ⟨k, rfl, by omega, h2, fun i h4 h5 => ?_⟩
      by_cases z : i = j
      · rw [z]; exact e
      · exact h3 i h4 (by omega)
