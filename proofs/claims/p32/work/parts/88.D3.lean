/-- what the reference lays down of the ways -/
def RI (T : Tu) (s : Nat) (ok : Bool) (A : Nat → Nat) : Prop := (∀ t, t < 64 → A t ≤ 1000) ∧ (ok = true → A s = 0) ∧ ∀ t, t < 64 → A t ≠ 1000 → (t = s ∧ ok = true) ∨ ∃ j u, Adj T j t u ∧ A u + 1 ≤ A t
def rlx (A : Nat → Nat) (x y : Nat) : Nat → Nat := if A x + 1 < A y then upN A y (A x + 1) else A
theorem rlx_le (A : Nat → Nat) (x y t : Nat) : rlx A x y t ≤ A t := by
  unfold rlx
  split
  · by_cases e : t = y
    · subst e; rw [upN_s]; omega
    · rw [upN_n e]; omega
  · exact Nat.le_refl _
theorem rlx_no {A : Nat → Nat} {x y : Nat} (h : ¬ A x + 1 < A y) : rlx A x y = A := by unfold rlx; rw [if_neg h]
theorem RI.relax {T : Tu} {s : Nat} {ok : Bool} {A : Nat → Nat} (hf : fitTu T) (h : RI T s ok A) {j x y : Nat} (ha : Adj T j x y) : RI T s ok (rlx A x y) := by
  obtain ⟨h1, h2, h3⟩ := h
  have hl := ha.lt hf
  refine ⟨fun t ht => Nat.le_trans (rlx_le _ _ _ _) (h1 t ht), fun o => ?_, fun t ht hne => ?_⟩
  · have := rlx_le A x y s
    have := h2 o
    omega
  · by_cases c : A x + 1 < A y
    · have hy := h1 y hl.2
      have hxy : x ≠ y := fun e => by subst e; omega
      by_cases e : t = y
      · subst e
        refine Or.inr ⟨j, x, ha.symm, ?_⟩
        unfold rlx
        rw [if_pos c, upN_s, upN_n hxy]
        exact Nat.le_refl _
      · have et : rlx A x y t = A t := by unfold rlx; rw [if_pos c, upN_n e]
        rw [et] at hne ⊢
        rcases h3 t ht hne with z | ⟨j2, u, hj, hu⟩
        · exact Or.inl z
        · exact Or.inr ⟨j2, u, hj, by have := rlx_le A x y u; omega⟩
    · rw [rlx_no c] at hne ⊢
      exact h3 t ht hne
theorem RI.fix {T : Tu} {s : Nat} {ok : Bool} {A : Nat → Nat} (h : RI T s ok A) (hb : ∀ j, j < T.length → A (fa T j) ≤ A (la T j) + 1 ∧ A (la T j) ≤ A (fa T j) + 1) : IsD T s ok A := by
  have he : ∀ j x y, Adj T j x y → A y ≤ A x + 1 := fun j x y hj => by
    rcases hj.2 with ⟨rfl, rfl⟩ | ⟨rfl, rfl⟩
    · exact (hb j hj.1).2
    · exact (hb j hj.1).1
  refine ⟨h.1, h.2.1, he, fun t ht hne => ?_⟩
  rcases h.2.2 t ht hne with z | ⟨j, u, hj, hu⟩
  · exact Or.inl z
  · exact Or.inr ⟨j, u, hj, by have := he j u t hj.symm; omega⟩
theorem RI_start (T : Tu) (s : Nat) (ok : Bool) : RI T s ok (upN (fun _ => 1000) s (if ok then 0 else 1000)) := by
  refine ⟨fun t ht => ?_, fun o => by rw [upN_s, if_pos o], fun t ht hne => ?_⟩
  · by_cases e : t = s
    · subst e; rw [upN_s]; split <;> omega
    · rw [upN_n e]; omega
  · by_cases e : t = s
    · subst e
      rw [upN_s] at hne
      cases ok with
      | true => exact Or.inl ⟨rfl, rfl⟩
      | false => exact absurd rfl hne
    · rw [upN_n e] at hne; exact absurd rfl hne
def tot (A : Nat → Nat) : Nat → Nat
  | 0 => 0
  | n + 1 => tot A n + A n
theorem tot_congr {A B : Nat → Nat} : ∀ {n : Nat}, (∀ t, t < n → A t = B t) → tot A n = tot B n
  | 0, _ => rfl
  | n + 1, h => by
    unfold tot
    rw [tot_congr (fun t ht => h t (by omega)), h n (by omega)]
theorem tot_le {A B : Nat → Nat} (h : ∀ t, A t ≤ B t) : ∀ n, tot A n ≤ tot B n
  | 0 => Nat.le_refl _
  | n + 1 => Nat.add_le_add (tot_le h n) (h n)
theorem tot_lt {A B : Nat → Nat} (h : ∀ t, A t ≤ B t) {y : Nat} (hy : A y < B y) : ∀ n, y < n → tot A n < tot B n
  | 0, hn => by omega
  | n + 1, hn => by
    unfold tot
    have h1 := h n
    by_cases e : n = y
    · subst e
      have := tot_le h n
      omega
    · have := tot_lt h hy n (by omega)
      omega
theorem rlx_tot {A : Nat → Nat} {x y : Nat} (hy : y < 64) (h : A x + 1 < A y) : tot (rlx A x y) 64 < tot A 64 :=
  tot_lt (rlx_le A x y) (y := y) (by unfold rlx; rw [if_pos h, upN_s]; exact h) 64 hy
theorem rlx_tot_le (A : Nat → Nat) (x y : Nat) : tot (rlx A x y) 64 ≤ tot A 64 := tot_le (rlx_le A x y) 64
def repM (d : Nat → Int32) (A : Nat → Nat) : Prop := ∀ t, t < 64 → d t = nI (A t)
theorem repM_upd {d : Nat → Int32} {A : Nat → Nat} (h : repM d A) {y n : Nat} : repM (upd d y (nI n)) (upN A y n) := fun t ht => by
  by_cases e : t = y
  · subst e; rw [upd_s, upN_s]
  · rw [upd_n e, upN_n e]; exact h t ht
theorem repM_keep {d : Nat → Int32} {A : Nat → Nat} (h : repM d A) {x y : Nat} (hy : y < 64) (c : A y ≤ A x + 1) : repM (upd d y (d y)) (rlx A x y) := by
  rw [rlx_no (by omega)]
  intro t ht
  by_cases e : t = y
  · subst e; rw [upd_s]; exact h t ht
  · rw [upd_n e]; exact h t ht
theorem repM_less {d : Nat → Int32} {A : Nat → Nat} (h : repM d A) {x y : Nat} (c : ¬ A y ≤ A x + 1) : repM (upd d y (nI (A x + 1))) (rlx A x y) := by
  unfold rlx
  rw [if_pos (by omega)]
  exact repM_upd h
theorem M_lay122 {v : V_X7} {T : Tu} (hC : MCells (X7_s v) (enc T)) (hf : fitTu T) {i : Nat} (hi : i < T.length) {A : Nat → Nat} {z : Nat → Int32} (hA : repM z A) (hA1 : ∀ t, t < 64 → A t ≤ 1000) {x y : Nat} (hx : x < 64) (hy : y < 64) {f c : Bool} {x1 y42 : Int32} {z42 : Nat → Int32} {B42 : Int32 → (Nat → Int32) → Prop} {B50 : Int32 → Int32 → (Nat → Int32) → Prop} {Q : (Nat → Int32) → Prop} (fin : ∀ d2, repM d2 (rlx (rlx A x y) y x) → B50 (bI (f || c)) (nI (off T (i + 1))) d2) : wp_X7_layAway_122 v x1 y42 z42 B42 (bI f) (nI (off T i)) z B50 (nI x) (nI y) (bI c) Q := by
  have hok : okT T := ⟨hf.2, hf.1⟩
  have hrow := hf.2 _ (row_mem hi)
  have pos := List.length_pos_iff.mpr hrow.1
  have os := off_s hi
  have s213 : ∀ d1 k0, repM (upd d1 x k0) (rlx (rlx A x y) y x) → wp_X7_layAway_213 v x1 y42 z42 B42 (bI f) (nI (off T i)) z B50 (bI c) d1 k0 (nI x) Q := by
    intro d1 k0 hd
    have s228 : wp_X7_layAway_228 v x1 y42 z42 B42 (bI f) (nI (off T i)) z B50 (upd d1 x k0) (bI (f || c)) Q := by
      unfold wp_X7_layAway_228
      refine M_end (v := X7_s14 v (upd d1 x k0)) hC hok hi ?_
      simp (disch := omega) only [nI_lit, nI_add]
      rw [show off T i + (row T i).length - 1 + 1 = off T (i + 1) by omega]
      exact fin _ hd
    unfold wp_X7_layAway_213 wp_X7_layAway_223
    simp (disch := omega) only [nI_clamp, nI_inI]
    cases f with
    | true => exact ⟨hx, fun q => absurd q (by decide), fun _ => s228⟩
    | false =>
      cases c with
      | true => exact ⟨hx, fun _ => ⟨fun q => absurd q (by decide), fun _ => s228⟩, fun q => absurd rfl q⟩
      | false => exact ⟨hx, fun _ => ⟨fun _ => s228, fun q => absurd rfl q⟩, fun q => absurd rfl q⟩
  have s168 : ∀ k0, repM (upd z y k0) (rlx A x y) → wp_X7_layAway_168 v x1 y42 z42 B42 (bI f) (nI (off T i)) z B50 (nI x) (nI y) (bI c) k0 (nI y) Q := by
    intro k0 hd
    have bx := Nat.le_trans (rlx_le A x y x) (hA1 x hx)
    have by1 := Nat.le_trans (rlx_le A x y y) (hA1 y hy)
    unfold wp_X7_layAway_168
    simp (disch := omega) only [nI_clamp, nI_inI]
    rw [hd x hx, hd y hy]
    simp (disch := omega) only [nI_lit, nI_add, nI_leI]
    refine ⟨hy, hy, hx, fun e => s213 _ _ ?_, fun e => s213 _ _ (repM_less hd e)⟩
    rw [← hd x hx]
    exact repM_keep hd hx e
  have bx := hA1 x hx
  have by1 := hA1 y hy
  unfold wp_X7_layAway_122
  simp (disch := omega) only [nI_clamp, nI_inI]
  rw [hA x hx, hA y hy]
  simp (disch := omega) only [nI_lit, nI_add, nI_leI]
  refine ⟨hx, hy, fun e => s168 _ ?_, fun e => s168 _ (repM_less hA e)⟩
  rw [← hA y hy]
  exact repM_keep hA hy e
theorem M_layAway {v : V_X7} {a : Lw} (h : MLawn (X7_s v) a) (hf : fitTu (lTu a)) {s : Nat} (hs : s < 64) {Q : (Nat → Int32) → Prop} (hq : ∀ d, repM d (dist (lTu a) s (lMn a s)) → IsD (lTu a) s (lMn a s) (dist (lTu a) s (lMn a s)) → Q d) : wp_X7_layAway v (nI s) Q := by
  have hfin : ∀ d A, repM d A → IsD (lTu a) s (lMn a s) A → Q d := fun d A h1 h2 => hq d (fun t ht => by rw [h1 t ht, dist_eq hf h2 ht]) (dist_is h2)
  obtain ⟨hB, hC, -⟩ := h
  have hok : okT (lTu a) := ⟨hf.2, hf.1⟩
  have hel : (enc (lTu a)).length ≤ 1024 := by rw [enc_len]; exact hf.1.1
  unfold wp_X7_layAway wp_X7_layAway_2
  refine ⟨fun y z => ∃ k, y = nI k ∧ k ≤ 64 ∧ ∀ t, t < k → z t = nI (upN (fun _ => 1000) s (if lMn a s then 0 else 1000) t), fun y _ => 100 - y.toNatClampNeg, ⟨0, rfl, by omega, fun t ht => by omega⟩, ?_⟩
  rintro _ z ⟨k, rfl, hk, hz⟩
  unfold wb_X7_layAway_2
  simp (disch := omega) only [nI_lit, nN_eq, nI_clamp, nI_inI, nI_add, nI_leI, nI_eq]
  have put : ∀ x, x = upN (fun _ => 1000) s (if lMn a s then 0 else 1000) k → ∀ t, t < k + 1 → upd z k (nI x) t = nI (upN (fun _ => 1000) s (if lMn a s then 0 else 1000) t) := by
    intro x hx t ht
    by_cases e2 : t = k
    · subst e2; rw [upd_s, hx]
    · rw [upd_n e2]; exact hz t (by omega)
  refine ⟨fun e => ?_, fun e => ⟨fun e2 => ?_, fun e2 => ⟨by omega, ⟨k + 1, rfl, by omega, put _ (by rw [upN_n e2])⟩, by omega⟩⟩⟩
  rotate_left
  · subst e2
    refine M_hasMound (v := X7_s14 v z) hB hs ?_
    rw [bI_0]
    refine ⟨fun e3 => ⟨by omega, ⟨k + 1, rfl, by omega, put _ (by rw [upN_s, e3]; rfl)⟩, by omega⟩, fun e3 => ⟨by omega, ⟨k + 1, rfl, by omega, put _ (by rw [upN_s]; simp at e3; rw [e3]; rfl)⟩, by omega⟩⟩
  have hz64 : repM z (upN (fun _ => 1000) s (if lMn a s then 0 else 1000)) := fun t ht => hz t (by omega)
  generalize lMn a s = ok at hfin hz64
  unfold wp_X7_layAway_42
  refine ⟨fun y2 z => ∃ A, repM z A ∧ RI (lTu a) s ok A ∧ (y2 = nI 1 ∨ (y2 = nI 0 ∧ IsD (lTu a) s ok A)), fun y2 z => if y2 = 0 then 0 else tot (fun t => (z t).toNatClampNeg) 64 + 1, ⟨_, hz64, RI_start _ _ _, Or.inl rfl⟩, ?_⟩
  rintro _ z0 ⟨A0, hA0, hR0, rfl | ⟨rfl, hD⟩⟩
  rotate_left
  · exact ⟨fun _ => hfin z0 A0 hA0 hD, fun q => absurd rfl q⟩
  have totr : ∀ {d : Nat → Int32} {A : Nat → Nat}, repM d A → RI (lTu a) s ok A → tot (fun t => (d t).toNatClampNeg) 64 = tot A 64 := fun hd hA => tot_congr (fun t ht => by
    have := hA.1 t ht
    rw [hd t ht, nI_clamp (by omega)])
  unfold wb_X7_layAway_42
  refine ⟨fun q => absurd q (by decide), fun _ => ?_⟩
  unfold wp_X7_layAway_50
  refine ⟨fun y2 y3 z => ∃ f i A, y2 = bI f ∧ i ≤ (lTu a).length ∧ y3 = nI (off (lTu a) i) ∧ repM z A ∧ RI (lTu a) s ok A ∧ (f = false → ∀ j, j < i → A (fa (lTu a) j) ≤ A (la (lTu a) j) + 1 ∧ A (la (lTu a) j) ≤ A (fa (lTu a) j) + 1) ∧ (f = true → tot A 64 < tot A0 64) ∧ tot A 64 ≤ tot A0 64, fun _ y3 _ => 2000 - y3.toNatClampNeg, ⟨false, 0, A0, rfl, Nat.zero_le _, rfl, hA0, hR0, fun _ j hj => by omega, fun q => (by cases q), Nat.le_refl _⟩, ?_⟩
  rintro _ _ z ⟨f, i, A, rfl, hi, rfl, hA, hR, hb, ht1, ht2⟩
  unfold wb_X7_layAway_50
  have ho := off_le (lTu a) i
  rw [← enc_len] at ho
  simp (disch := omega) only [nI_lit, nI_clamp, nI_inI]
  rw [hC.1]
  simp (disch := omega) only [nI_leI]
  refine ⟨by omega, fun e => ?_, fun e => ?_⟩
  · have ei : i = (lTu a).length := by
      apply Classical.byContradiction
      intro q
      have := off_lt hok (k := i) (by omega)
      omega
    subst ei
    cases f with
    | true =>
      refine ⟨⟨A, hA, hR, Or.inl rfl⟩, ?_⟩
      show (if nI 1 = 0 then 0 else _) < (if nI 1 = 0 then 0 else _)
      rw [if_neg (by decide), if_neg (by decide), totr hA hR, totr hA0 hR0]
      have := ht1 rfl
      omega
    | false =>
      refine ⟨⟨A, hA, hR, Or.inr ⟨rfl, hR.fix (hb rfl)⟩⟩, ?_⟩
      show (if nI 0 = 0 then 0 else _) < (if nI 1 = 0 then 0 else _)
      rw [if_pos (by rfl), if_neg (by decide)]
      omega
  · have hi2 : i < (lTu a).length := by
      apply Classical.byContradiction
      intro q
      rw [off_all (by omega), ← enc_len] at e
      omega
    have hrow := hf.2 _ (row_mem hi2)
    have pos := List.length_pos_iff.mpr hrow.1
    have l1 := hrow.2 _ (first_mem hrow.1)
    have l2 := hrow.2 _ (lastOf_mem hrow.1)
    have os := off_s hi2
    have os2 := off_le (lTu a) (i + 1)
    rw [← enc_len] at os2
    refine M_first (v := X7_s14 v z) hC hok hi2 (M_end (v := X7_s14 v z) hC hok hi2 (M_last (v := X7_s14 v z) hC hok hi2 ?_))
    have l1 : fa (lTu a) i < 64 := l1
    have l2 : la (lTu a) i < 64 := l2
    have b1 := hR.1 _ l1
    have b2 := hR.1 _ l2
    have ad : Adj (lTu a) i (fa (lTu a) i) (la (lTu a) i) := ⟨hi2, Or.inl ⟨rfl, rfl⟩⟩
    have hR2 := (hR.relax hf ad).relax hf ad.symm
    rw [show nI (at0 (row (lTu a) i) 0) = nI (fa (lTu a) i) from rfl, show nI (lastOf (row (lTu a) i)) = nI (la (lTu a) i) from rfl]
    have fin1 : A (fa (lTu a) i) + 1 < A (la (lTu a) i) ∨ A (la (lTu a) i) + 1 < A (fa (lTu a) i) → tot (rlx (rlx A (fa (lTu a) i) (la (lTu a) i)) (la (lTu a) i) (fa (lTu a) i)) 64 < tot A 64 := fun c => by
      have t1 := rlx_tot_le (rlx A (fa (lTu a) i) (la (lTu a) i)) (la (lTu a) i) (fa (lTu a) i)
      by_cases c1 : A (fa (lTu a) i) + 1 < A (la (lTu a) i)
      · have := rlx_tot l2 c1
        omega
      · rw [rlx_no c1] at t1 ⊢
        exact rlx_tot l1 (c.resolve_left c1)
    have ms : 2000 - (nI (off (lTu a) (i + 1))).toNatClampNeg < 2000 - off (lTu a) i := by
      rw [nI_clamp (by omega)]; omega
    simp (disch := omega) only [nI_clamp, nI_inI]
    rw [hA _ l1, hA _ l2]
    simp (disch := omega) only [nI_lit, nI_add, nI_leI, nI_ltI]
    have or1 : (f || true) = true := by cases f <;> rfl
    refine ⟨l1, l2, fun c => ?_, fun c => ⟨fun c2 => ?_, fun c2 => ?_⟩⟩
    · unfold wp_X7_layAway_117
      refine M_lay122 (c := true) hC hf hi2 hA hR.1 l1 l2 (fun d2 hd => ⟨⟨f || true, i + 1, _, rfl, hi2, rfl, hd, hR2, fun q => absurd (or1.symm.trans q) (by decide), fun _ => ?_, ?_⟩, ms⟩)
      · have := fin1 (Or.inl c); omega
      · have := fin1 (Or.inl c); omega
    · refine M_lay122 (c := false) hC hf hi2 hA hR.1 l1 l2 (fun d2 hd => ?_)
      rw [rlx_no c, rlx_no (show ¬ A (la (lTu a) i) + 1 < A (fa (lTu a) i) by omega)] at hd
      refine ⟨⟨f || false, i + 1, A, rfl, hi2, rfl, hd, hR, fun q j hj => ?_, fun q => ht1 (by simpa using q), ht2⟩, ms⟩
      by_cases e3 : j = i
      · subst e3; exact ⟨c2, by omega⟩
      · exact hb (by simpa using q) j (by omega)
    · unfold wp_X7_layAway_117
      refine M_lay122 (c := true) hC hf hi2 hA hR.1 l1 l2 (fun d2 hd => ⟨⟨f || true, i + 1, _, rfl, hi2, rfl, hd, hR2, fun q => absurd (or1.symm.trans q) (by decide), fun _ => ?_, ?_⟩, ms⟩)
      · have := fin1 (Or.inr (by omega)); omega
      · have := fin1 (Or.inr (by omega)); omega
