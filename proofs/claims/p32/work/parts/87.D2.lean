def cD (n : Nat) : Int32 := if n = 1000 then nN else nI n
theorem cD_nN {n : Nat} (h : n ≤ 1000) : cD n = nN ↔ n = 1000 := by
  unfold cD
  split
  · simp [*]
  · rename_i e
    refine ⟨fun q => ?_, fun q => absurd q e⟩
    exact ((nN_ne (by omega)).mp q).elim
theorem cD_nI {n r : Nat} (h : n ≤ 1000) (hr : r < 1000) : cD n = nI r ↔ n = r := by
  unfold cD
  split
  · rename_i e
    refine ⟨fun q => ((nN_ne' (by omega)).mp q).elim, fun q => by omega⟩
  · exact nI_eq (by omega) (by omega)
def repD (d : Nat → Int32) (A : Nat → Nat) : Prop := ∀ t, t < 64 → d t = cD (A t)
theorem repD_upd {d : Nat → Int32} {A : Nat → Nat} (h : repD d A) {y n : Nat} (hn : n < 1000) : repD (upd d y (nI n)) (upN A y n) := fun t ht => by
  by_cases e : t = y
  · subst e; rw [upd_s, upN_s]; unfold cD; rw [if_neg (by omega)]
  · rw [upd_n e, upN_n e]; exact h t ht
theorem C_isTuftP {x : Nat} (hx : x < 64) {Q : Int32 → Prop} (hq : Q 1) : wp_X2_isTuft (nI x) Q := by
  unfold wp_X2_isTuft
  simp (disch := omega) only [nI_lit, nI_ltI, nI_leI]
  exact ⟨fun q => by omega, fun _ => ⟨fun q => by omega, fun _ => hq⟩⟩
theorem C_reach {v : V_X2} {A : Nat → Nat} (h : repD (X2_distance v) A) (hA : ∀ t, t < 64 → A t ≤ 1000) {x y r : Nat} (hx : x < 64) (hy : y < 64) (hr : r < 64) {Q : Int32 → (Nat → Int32) → Prop} (h1 : A x = r → A y = 1000 → Q 1 (upd (X2_distance v) y (nI (r + 1)))) (h2 : A y = r → A x = 1000 → Q 1 (upd (X2_distance v) x (nI (r + 1)))) (h3 : ¬ (A x = r ∧ A y = 1000) → ¬ (A y = r ∧ A x = 1000) → Q 0 (X2_distance v)) : wp_X2_reach v (nI x) (nI y) (nI r) Q := by
  have ax := hA x hx
  have ay := hA y hy
  have r31 : ¬ (A x = r ∧ A y = 1000) → wp_X2_reach_31 v (nI x) (nI y) (nI r) (X2_distance v) Q := by
    intro n1
    unfold wp_X2_reach_31
    simp (disch := omega) only [nI_lit, nN_eq, nI_clamp, nI_inI, nI_add]
    rw [h x hx, h y hy]
    simp (disch := omega) only [cD_nI, cD_nN]
    exact ⟨hy, fun e => ⟨hx, fun e2 => h2 e e2, fun e2 => h3 n1 (fun z => e2 z.2)⟩, fun e => h3 n1 (fun z => e z.1)⟩
  unfold wp_X2_reach
  simp (disch := omega) only [nI_lit, nN_eq, nI_clamp, nI_inI, nI_add]
  rw [h x hx, h y hy]
  simp (disch := omega) only [cD_nI, cD_nN]
  exact ⟨hx, fun e => ⟨hy, fun e2 => h1 e e2, fun e2 => r31 (fun z => e2 z.2)⟩, fun e => r31 (fun z => e z.1)⟩
theorem C_measure {v : V_X2} {w : V_X0} {a : Lw} (h : CLawn w a) (hf : fitTu (lTu a)) {s : Nat} (hs : s < 64) {Q : (Nat → Int32) → Prop} (hq : ∀ d, repD d (dist (lTu a) s (lMn a s)) → IsD (lTu a) s (lMn a s) (dist (lTu a) s (lMn a s)) → Q d) : wp_X2_measure v w (nI s) Q := by
  have hfin : ∀ d A, repD d A → IsD (lTu a) s (lMn a s) A → Q d := fun d A h1 h2 => hq d (fun t ht => by rw [h1 t ht, dist_eq hf h2 ht]) (dist_is h2)
  have hT : CRows (X0_tunnels w) (lTu a) := h.2.2.2.2.1
  have hsz := hT.parts.2.2.1
  have hlen := hf.1.2
  unfold wp_X2_measure wp_X2_measure_2
  refine ⟨fun y z => ∃ k, y = nI k ∧ k ≤ 64 ∧ ∀ t, t < k → z t = nN, fun y _ => 100 - y.toNatClampNeg, ⟨0, rfl, by omega, fun t ht => by omega⟩, ?_⟩
  rintro _ z ⟨k, rfl, hk, hz⟩
  unfold wb_X2_measure_2
  simp (disch := omega) only [nI_lit, nN_eq, nI_clamp, nI_inI, nI_add, nI_leI]
  refine ⟨fun e => ⟨hs, ?_⟩, fun e => ⟨by omega, ⟨k + 1, rfl, by omega, fun t ht => ?_⟩, by omega⟩⟩
  rotate_left
  · by_cases e2 : t = k
    · subst e2; exact upd_s _ _ _
    · rw [upd_n e2]; exact hz t (by omega)
  have hz64 : ∀ t, t < 64 → z t = nN := fun t ht => hz t (by omega)
  rw [h.1 s hs]
  cases hm : lMn a s with
  | false =>
    rw [hm] at hfin
    refine ⟨fun _ => hfin z (fun _ => 1000) (fun t ht => by rw [hz64 t ht]; rfl) ⟨fun t _ => Nat.le_refl _, fun q => (by cases q), fun j x y _ => (by show 1000 ≤ 1000 + 1; omega), fun t _ q => absurd rfl q⟩, fun q => absurd rfl q⟩
  | true =>
    rw [hm] at hfin
    refine ⟨fun q => absurd q (by decide), fun _ => ?_⟩
    unfold wp_X2_measure_43
    refine ⟨fun y3 y4 z => ∃ r A, r ≤ 64 ∧ y4 = nI r ∧ repD z A ∧ ((y3 = nI 1 ∧ BF (lTu a) s r 0 false A) ∨ (y3 = nI 0 ∧ IsD (lTu a) s true A)), fun _ y4 _ => 100 - y4.toNatClampNeg, ⟨0, upN (fun _ => 1000) s 0, by omega, rfl, repD_upd (fun t ht => by rw [hz64 t ht]; rfl) (by omega), Or.inl ⟨rfl, BF_start hs⟩⟩, ?_⟩
    rintro _ _ z ⟨r, A, hr, rfl, hA, ⟨rfl, hB⟩ | ⟨rfl, hB⟩⟩
    rotate_left
    · exact ⟨fun _ => hfin z A hA hB, fun q => absurd rfl q⟩
    unfold wb_X2_measure_43
    simp (disch := omega) only [nI_lit, nI_leI]
    refine ⟨fun q => absurd q (by decide), fun _ => ⟨fun e => ?_, fun e => ?_⟩⟩
    · have e64 : r = 64 := by omega
      subst e64
      exact (BF_end hB).elim
    unfold wp_X2_measure_59
    refine ⟨fun y3 y5 z => ∃ i g A, i ≤ (lTu a).length ∧ y5 = nI i ∧ y3 = bI g ∧ repD z A ∧ BF (lTu a) s r i g A, fun _ y5 _ => 600 - y5.toNatClampNeg, ⟨0, false, A, Nat.zero_le _, rfl, rfl, hA, hB⟩, ?_⟩
    rintro _ _ z ⟨i, g, A, hi, rfl, rfl, hA, hB⟩
    unfold wb_X2_measure_59
    rw [hsz]
    simp (disch := omega) only [nI_leI]
    refine ⟨fun e => ?_, fun e => ?_⟩
    · have ei : i = (lTu a).length := by omega
      subst ei
      refine ⟨⟨r + 1, A, by omega, by simp only [nI_lit, nI_add], hA, ?_⟩, by simp (disch := omega) only [nI_lit, nI_add, nI_clamp]; omega⟩
      cases g with
      | true => exact Or.inl ⟨rfl, BF_next hf hB⟩
      | false => exact Or.inr ⟨rfl, BF_done hf (by omega) hB⟩
    · have hi2 : i < (lTu a).length := by omega
      have hrow := hf.2 _ (row_mem hi2)
      have l1 := hrow.2 _ (first_mem hrow.1)
      have l2 := hrow.2 _ (lastOf_mem hrow.1)
      have hA1 : ∀ t, t < 64 → A t ≤ 1000 := fun t ht => by have := hB.2.1 t ht; omega
      refine C_X3_first hT hf.1 hi2 hrow.1 (C_X3_last hT hf.1 hi2 hrow.1 (C_isTuftP l1 ⟨fun q => absurd q (by decide), fun _ => C_isTuftP l2 ⟨fun q => absurd q (by decide), fun _ => ?_⟩⟩))
      have mes : ∀ {x : Int32}, x = nI i + 1 → 600 - x.toNatClampNeg < 600 - (nI i).toNatClampNeg := fun e => by
        rw [e]; simp (disch := omega) only [nI_lit, nI_add, nI_clamp]; omega
      refine C_reach (v := X2_s0 v z) (A := A) hA hA1 l1 l2 (by omega) (fun e1 e2 => ⟨fun q => absurd q (by decide), fun _ => ⟨⟨i + 1, true, upN A (la (lTu a) i) (r + 1), by omega, by simp only [nI_lit, nI_add], rfl, repD_upd hA (by omega), BF_set hf (by omega) hB ⟨hi2, Or.inl ⟨rfl, rfl⟩⟩ e1 e2⟩, mes rfl⟩⟩) (fun e1 e2 => ⟨fun q => absurd q (by decide), fun _ => ⟨⟨i + 1, true, upN A (fa (lTu a) i) (r + 1), by omega, by simp only [nI_lit, nI_add], rfl, repD_upd hA (by omega), BF_set hf (by omega) hB ⟨hi2, Or.inr ⟨rfl, rfl⟩⟩ e1 e2⟩, mes rfl⟩⟩) (fun n1 n2 => ⟨fun _ => ⟨⟨i + 1, g, A, by omega, by simp only [nI_lit, nI_add], rfl, hA, BF_same hf hB hi2 n1 n2⟩, mes rfl⟩, fun q => absurd rfl q⟩)
