/-! Tufts beside a tuft, both sides. -/
def nbF (p i : Nat) : Int32 := tuftAtF (nI p / 8 + tab_ROW_BESIDE i) (nI p - nI p / 8 * 8 + tab_COLUMN_BESIDE i)
def nbO (p i : Nat) : Option Nat := if nbF p i = nN then none else some (nbF p i).toNatClampNeg
def nbL (p i : Nat) : List Nat := (List.range i).filterMap (nbO p)
def nb (p u : Nat) : Bool := decide (p ≠ u) && decide (p / 8 ≤ u / 8 + 1) && decide (u / 8 ≤ p / 8 + 1) && decide (p % 8 ≤ u % 8 + 1) && decide (u % 8 ≤ p % 8 + 1)
theorem nb_tab : ∀ p : Fin 64, ∀ i : Fin 8, nbF p.1 i.1 = oI (nbO p.1 i.1) ∧ (nbO p.1 i.1).all (fun u => decide (u < 64)) = true := by decide +kernel
theorem nb_perm : ∀ p : Fin 64, (nbL p.1 8).isPerm ((List.range 64).filter (nb p.1)) = true := by decide +kernel
def rdF (x y : Int32) : Bool := decide (¬ x - y < nI 0 - nI 1) && decide (¬ nI 1 < x - y)
def areF (x y : Int32) : Bool := decide (x ≠ y) && rdF (x / 8) (y / 8) && rdF (x - x / 8 * 8) (y - y / 8 * 8)
theorem are_tab : ∀ p : Fin 64, ∀ u : Fin 64, areF (nI p.1) (nI u.1) = nb p.1 u.1 := by decide +kernel
theorem cnt_range (p : Nat → Bool) : ∀ n, cnt p n = (List.range n).countP p
  | 0 => rfl
  | n + 1 => by
    show cnt p n + (if p n then 1 else 0) = _
    rw [cnt_range p n, List.range_succ, List.countP_append]
    simp [List.countP_cons]
def cntB (p : Nat) (P : Nat → Bool) : Nat := cnt (fun u => nb p u && P u) 64
theorem cntB_le (p : Nat) (P : Nat → Bool) : cntB p P ≤ 64 := cnt_le _ _
theorem cntB_nbL {p : Nat} (hp : p < 64) (P : Nat → Bool) : (nbL p 8).countP P = cntB p P := by
  have h := List.isPerm_iff.mp (nb_perm ⟨p, hp⟩)
  rw [h.countP_eq, List.countP_filter]
  unfold cntB
  rw [cnt_range]
  refine List.countP_congr (fun u _ => ?_)
  rw [Bool.and_comm]
theorem C_neighbour {p i : Nat} (hp : p < 64) (hi : i < 8) {Q : Int32 → Prop} (hq : Q (oI (nbO p i))) : wp_X6_neighbour (nI p) (nI i) Q := by
  unfold wp_X6_neighbour
  simp (disch := omega) only [nI_lit, nI_ltI, nI_clamp, nI_inI]
  refine ⟨fun q => by omega, fun _ => ⟨fun _ => ⟨hi, C_X6_tuftAt ?_⟩, fun q => absurd hi q⟩⟩
  have := (nb_tab ⟨p, hp⟩ ⟨i, hi⟩).1
  rw [← this] at hq
  exact hq
theorem nbO_lt {p i u : Nat} (hp : p < 64) (hi : i < 8) (h : nbO p i = some u) : u < 64 := by
  have := (nb_tab ⟨p, hp⟩ ⟨i, hi⟩).2
  rw [show nbO (⟨p, hp⟩ : Fin 64).1 (⟨i, hi⟩ : Fin 8).1 = nbO p i from rfl, h] at this
  simpa using this
theorem nbL_s (p i : Nat) : nbL p (i + 1) = nbL p i ++ (nbO p i).toList := by
  unfold nbL
  rw [List.range_succ, List.filterMap_append]
  cases h : nbO p i <;> simp [h]
theorem nbL_len (p i : Nat) : (nbL p i).length ≤ i := by
  unfold nbL
  have := List.length_filterMap_le (nbO p) (List.range i)
  rw [List.length_range] at this
  exact this
theorem C_countBeside {m : Nat → Int32} {p : Nat} (hp : p < 64) {x : Int32} {Q : Int32 → Prop} (hq : Q (nI (cntB p (fun u => decide (m u = x))))) : wp_X4_countBeside 64 m (nI p) x Q := by
  unfold wp_X4_countBeside wp_X4_countBeside_6
  refine ⟨fun y4 y5 => ∃ i, y5 = nI i ∧ i ≤ 8 ∧ y4 = nI ((nbL p i).countP (fun u => decide (m u = x))), fun _ y5 => 20 - y5.toNatClampNeg, ⟨0, rfl, by omega, rfl⟩, ?_⟩
  rintro _ _ ⟨i, rfl, hi, rfl⟩
  unfold wb_X4_countBeside_6
  simp (disch := omega) only [nI_lit, nN_eq, nI_clamp, nI_inI, nI_add, nI_leI]
  refine ⟨fun e => ?_, fun e => C_neighbour hp (by omega) ?_⟩
  · have : i = 8 := by omega
    subst this
    rw [cntB_nbL hp]
    exact hq
  · cases h : nbO p i with
    | none => exact ⟨fun _ => ⟨⟨i + 1, rfl, by omega, by rw [nbL_s, h]; simp⟩, by omega⟩, fun q => absurd rfl q⟩
    | some u =>
      have hu := nbO_lt hp (by omega) h
      have ho : oI (some u) = nI u := rfl
      rw [ho]
      simp (disch := omega) only [nN_ne, nI_clamp, nI_inI]
      refine ⟨fun q => q.elim, fun _ => ⟨hu, fun e2 => ⟨⟨i + 1, rfl, by omega, ?_⟩, by omega⟩, fun e2 => ⟨⟨i + 1, rfl, by omega, ?_⟩, by omega⟩⟩⟩
      · rw [nbL_s, h, List.countP_append]; simp [e2]
      · rw [nbL_s, h, List.countP_append]; simp [e2]
theorem M_rd {x y : Int32} {Q : Int32 → Prop} (hq : Q (bI (rdF x y))) : wp_X7_in (x - y) (-1) 1 Q := by
  unfold wp_X7_in
  unfold rdF at hq
  simp only [nI_lit] at hq ⊢
  refine ⟨fun e => ?_, fun e => ⟨fun e2 => ?_, fun e2 => ?_⟩⟩
  · rw [decide_eq_false (fun z => z e)] at hq; exact hq
  · rw [decide_eq_true (p := ¬ x - y < nI 0 - nI 1) e, decide_eq_false (fun z => z e2)] at hq; exact hq
  · rw [decide_eq_true (p := ¬ x - y < nI 0 - nI 1) e, decide_eq_true e2] at hq; exact hq
theorem M_areBeside {p u : Nat} (hp : p < 64) (hu : u < 64) {Q : Int32 → Prop} (hq : Q (bI (nb p u))) : wp_X7_areBeside (nI p) (nI u) Q := by
  rw [← show areF (nI p) (nI u) = nb p u from are_tab ⟨p, hp⟩ ⟨u, hu⟩] at hq
  unfold areF at hq
  unfold wp_X7_areBeside
  by_cases c0 : nI p = nI u
  · refine ⟨fun _ => ?_, fun q => absurd c0 q⟩
    rw [decide_eq_false (fun z => z c0)] at hq
    exact hq
  · refine ⟨fun q => absurd q c0, fun _ => M_rd ?_⟩
    rw [decide_eq_true (show nI p ≠ nI u from c0)] at hq
    cases c1 : rdF (nI p / 8) (nI u / 8) with
    | false =>
      rw [c1] at hq
      exact ⟨fun _ => hq, fun q => absurd rfl q⟩
    | true =>
      rw [c1] at hq
      refine ⟨fun q => absurd q (by decide), fun _ => M_rd ?_⟩
      cases c2 : rdF (nI p - nI p / 8 * 8) (nI u - nI u / 8 * 8) with
      | false => rw [c2] at hq; exact ⟨fun _ => hq, fun q => absurd rfl q⟩
      | true => rw [c2] at hq; exact ⟨fun q => absurd q (by decide), fun _ => hq⟩
theorem M_besideWith {v : V_X7} {p : Nat} (hp : p < 64) {x : Int32} {Q : Int32 → Prop} (hq : Q (nI (cntB p (fun u => decide (X7_sure v u = x))))) : wp_X7_besideWith v (nI p) x Q := by
  unfold wp_X7_besideWith wp_X7_besideWith_5
  refine ⟨fun y3 y4 => ∃ k, y4 = nI k ∧ k ≤ 64 ∧ y3 = nI (cnt (fun u => nb p u && decide (X7_sure v u = x)) k), fun _ y4 => 100 - y4.toNatClampNeg, ⟨0, rfl, by omega, rfl⟩, ?_⟩
  rintro _ _ ⟨k, rfl, hk, rfl⟩
  unfold wb_X7_besideWith_5
  simp (disch := omega) only [nI_lit, nI_clamp, nI_inI, nI_add, nI_leI]
  refine ⟨fun e => ?_, fun e => M_areBeside hp (by omega) ?_⟩
  · have : k = 64 := by omega
    subst this
    exact hq
  · have st : cnt (fun u => nb p u && decide (X7_sure v u = x)) (k + 1) = cnt (fun u => nb p u && decide (X7_sure v u = x)) k + if (nb p k && decide (X7_sure v k = x)) then 1 else 0 := rfl
    rw [bI_0]
    refine ⟨fun e2 => ⟨⟨k + 1, rfl, by omega, by rw [st, e2]; rfl⟩, by omega⟩, fun e2 => ⟨by omega, fun e3 => ⟨⟨k + 1, rfl, by omega, ?_⟩, by omega⟩, fun e3 => ⟨⟨k + 1, rfl, by omega, ?_⟩, by omega⟩⟩⟩
    · rw [st, decide_eq_true e3, show nb p k = true by simpa using e2]; rfl
    · rw [st, decide_eq_false e3, Bool.and_false]; rfl
theorem M_numberOf {v : V_X7} {H : Nat → Bool} (hh : ∀ t, t < 64 → X7_isHollow v t = bI (H t)) {p : Nat} (hp : p < 64) {Q : Int32 → Prop} (hq : Q (nI (cntB p H))) : wp_X7_numberOf v (nI p) Q := by
  unfold wp_X7_numberOf wp_X7_numberOf_4
  refine ⟨fun y3 y4 => ∃ k, y4 = nI k ∧ k ≤ 64 ∧ y3 = nI (cnt (fun u => nb p u && H u) k), fun _ y4 => 100 - y4.toNatClampNeg, ⟨0, rfl, by omega, rfl⟩, ?_⟩
  rintro _ _ ⟨k, rfl, hk, rfl⟩
  unfold wb_X7_numberOf_4
  simp (disch := omega) only [nI_lit, nI_clamp, nI_inI, nI_add, nI_leI]
  refine ⟨fun e => ?_, fun e => M_areBeside hp (by omega) ?_⟩
  · have : k = 64 := by omega
    subst this
    exact hq
  · have st : cnt (fun u => nb p u && H u) (k + 1) = cnt (fun u => nb p u && H u) k + if (nb p k && H k) then 1 else 0 := rfl
    rw [hh k (by omega), bI_0, bI_0]
    refine ⟨fun e2 => ⟨⟨k + 1, rfl, by omega, by rw [st, e2]; rfl⟩, by omega⟩, fun e2 => ⟨by omega, fun e3 => ⟨⟨k + 1, rfl, by omega, ?_⟩, by omega⟩, fun e3 => ⟨⟨k + 1, rfl, by omega, ?_⟩, by omega⟩⟩⟩
    · rw [st, e3, Bool.and_false]; rfl
    · rw [st, show H k = true by simpa using e3, show nb p k = true by simpa using e2]; rfl
