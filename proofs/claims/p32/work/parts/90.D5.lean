/-! How many groups of joined mounds, both sides. -/
theorem cnt_more {p q : Nat → Bool} (h : ∀ t, p t = true → q t = true) {y : Nat} (hp : p y = false) (hq : q y = true) : ∀ n, cnt p n + (if y < n then 1 else 0) ≤ cnt q n
  | 0 => Nat.le_refl _
  | n + 1 => by
    unfold cnt
    have ih := cnt_more h hp hq n
    by_cases e : n = y
    · subst e
      rw [hp, hq]
      simp at ih ⊢
      omega
    · have hn := h n
      have hif : (if y < n + 1 then 1 else 0) = (if y < n then 1 else 0) := by
        by_cases e2 : y < n
        · rw [if_pos e2, if_pos (by omega)]
        · rw [if_neg e2, if_neg (by omega)]
      rw [hif]
      cases c1 : p n with
      | true =>
        rw [hn c1]
        simp only [if_true]
        omega
      | false =>
        have z : (if false = true then 1 else 0) = 0 := rfl
        rw [z]
        omega
theorem IsD.near {T : Tu} {s : Nat} {ok : Bool} {A : Nat → Nat} (hf : fitTu T) (h : IsD T s ok A) : ∀ k t, t < 64 → A t = k → k ≠ 1000 → k + 1 ≤ cnt (fun t => decide (A t ≤ k)) 64 := by
  intro k
  induction k with
  | zero =>
    intro t ht e _
    have := cnt_more (p := fun _ => false) (q := fun t => decide (A t ≤ 0)) (y := t) (fun _ q => by cases q) rfl (by simp [e]) 64
    rw [if_pos ht] at this
    omega
  | succ k ih =>
    intro t ht e hk
    have b := h.1 t ht
    rcases h.2.2.2 t ht (by omega) with ⟨rfl, o⟩ | ⟨j, u, hj, hu⟩
    · have := h.2.1 o; omega
    · have i1 := ih u (hj.lt hf).2 (by omega) (by omega)
      have := cnt_more (p := fun t => decide (A t ≤ k)) (q := fun t => decide (A t ≤ k + 1)) (y := t) (fun x q => by simp at q ⊢; omega) (by simp [e]) (by simp [e]) 64
      rw [if_pos ht] at this
      omega
theorem IsD.small {T : Tu} {s : Nat} {ok : Bool} {A : Nat → Nat} (hf : fitTu T) (h : IsD T s ok A) {t : Nat} (ht : t < 64) (hne : A t ≠ 1000) : A t < 64 := by
  have := IsD.near hf h (A t) t ht rfl hne
  have := cnt_le (fun x => decide (A x ≤ A t)) 64
  omega
theorem IsD.shut {T : Tu} {s : Nat} {ok : Bool} {A : Nat → Nat} (hf : fitTu T) (h : IsD T s ok A) {j : Nat} (hj : j < T.length) : A (fa T j) ≠ 1000 ↔ A (la T j) ≠ 1000 := by
  have a1 : Adj T j (fa T j) (la T j) := ⟨hj, Or.inl ⟨rfl, rfl⟩⟩
  have l := a1.lt hf
  constructor
  · intro q
    have := IsD.small hf h l.1 q
    have := h.2.2.1 _ _ _ a1
    omega
  · intro q
    have := IsD.small hf h l.2 q
    have := h.2.2.1 _ _ _ a1.symm
    omega
theorem least {P : Nat → Prop} : ∀ x, P x → ∃ m, m ≤ x ∧ P m ∧ ∀ u, u < m → ¬ P u := by
  intro x
  induction x using Nat.strongRecOn with
  | _ x ih =>
    intro hx
    by_cases h : ∃ u, u < x ∧ P u
    · obtain ⟨u, hu, pu⟩ := h
      obtain ⟨m, m1, m2, m3⟩ := ih u hu pu
      exact ⟨m, by omega, m2, m3⟩
    · exact ⟨x, Nat.le_refl _, hx, fun u hu pu => h ⟨u, hu, pu⟩⟩
def leadB (G : Nat → Nat) (t : Nat) : Bool := decide (∀ u, u < t → G u ≠ G t)
def mergeG (G : Nat → Nat) (p q : Nat) : Nat → Nat := fun t => if G t = q then p else G t
def UI (T : Tu) (mn : Nat → Bool) (i : Nat) (G : Nat → Nat) (k : Nat) : Prop := (∀ t, t < 64 → G t < 64) ∧ (∀ j, j < i → G (fa T j) = G (la T j)) ∧ (∀ S : Nat → Prop, (∀ j, j < T.length → (S (fa T j) ↔ S (la T j))) → ∀ t u, t < 64 → u < 64 → G t = G u → (S t ↔ S u)) ∧ k = cnt (fun t => mn t && leadB G t) 64 ∧ ∀ t, t < 64 → mn t = false → ∀ u, u < 64 → G u = G t → u = t
theorem UI_start (T : Tu) (mn : Nat → Bool) : UI T mn 0 (fun t => t) (cnt mn 64) := by
  refine ⟨fun t ht => ht, fun j hj => by omega, fun S _ t u _ _ e => by rw [show t = u from e], cnt_congr (fun t ht => ?_), fun t _ _ u _ e => e⟩
  have : leadB (fun t => t) t = true := decide_eq_true (fun u hu => by show u ≠ t; omega)
  rw [this, Bool.and_true]
theorem UI_same {T : Tu} {mn : Nat → Bool} {i k : Nat} {G : Nat → Nat} (h : UI T mn i G k) (e : G (fa T i) = G (la T i)) : UI T mn (i + 1) G k :=
  ⟨h.1, fun j hj => by
    by_cases c : j = i
    · subst c; exact e
    · exact h.2.1 j (by omega), h.2.2⟩
theorem lead_merge {G : Nat → Nat} {p q m1 m2 : Nat} (hpq : p ≠ q) (g1 : G m1 = p) (l1 : ∀ u, u < m1 → ¬ G u = p) (g2 : G m2 = q) (l2 : ∀ u, u < m2 → ¬ G u = q) (t : Nat) : leadB (mergeG G p q) t = true ↔ leadB G t = true ∧ t ≠ (if m1 < m2 then m2 else m1) := by
  have hne : m1 ≠ m2 := fun e => by subst e; omega
  unfold leadB
  simp only [decide_eq_true_eq]
  unfold mergeG
  constructor
  · intro h
    refine ⟨fun u hu e => h u hu (by simp only [e]), fun e => ?_⟩
    by_cases c : m1 < m2
    · rw [if_pos c] at e
      subst e
      refine h m1 c ?_
      simp only [g1, g2, if_neg hpq, if_true]
    · rw [if_neg c] at e
      subst e
      refine h m2 (by omega) ?_
      simp only [g1, g2, if_neg hpq, if_true]
  · rintro ⟨h, hm⟩ u hu e
    have hu2 := h u hu
    by_cases c1 : G t = p
    · have e1 : t = m1 := by
        apply Classical.byContradiction
        intro z
        rcases Nat.lt_or_gt_of_ne z with z | z
        · exact l1 t z c1
        · exact h m1 z (g1.trans c1.symm)
      subst e1
      have c : t < m2 := by
        apply Classical.byContradiction
        intro z
        exact hm (by rw [if_neg z])
      simp only [c1, if_neg hpq] at e
      by_cases c3 : G u = q
      · exact l2 u (by omega) c3
      · rw [if_neg c3] at e; exact l1 u hu e
    · by_cases c2 : G t = q
      · have e1 : t = m2 := by
          apply Classical.byContradiction
          intro z
          rcases Nat.lt_or_gt_of_ne z with z | z
          · exact l2 t z c2
          · exact h m2 z (g2.trans c2.symm)
        subst e1
        have c : ¬ m1 < t := fun z => hm (by rw [if_pos z])
        simp only [c2, if_true] at e
        by_cases c3 : G u = q
        · exact l2 u hu c3
        · rw [if_neg c3] at e; exact l1 u (by omega) e
      · simp only [if_neg c2] at e
        by_cases c3 : G u = q
        · rw [if_pos c3] at e; exact c1 e.symm
        · rw [if_neg c3] at e; exact hu2 e
theorem UI_merge {T : Tu} {mn : Nat → Bool} {i k : Nat} {G : Nat → Nat} (hf : fitTu T) (hm : ∀ j, j < T.length → mn (fa T j) = true ∧ mn (la T j) = true) (h : UI T mn i G k) (hi : i < T.length) (e : G (fa T i) ≠ G (la T i)) : 1 ≤ k ∧ UI T mn (i + 1) (mergeG G (G (fa T i)) (G (la T i))) (k - 1) := by
  obtain ⟨h1, h2, h3, h4, h5⟩ := h
  have l := (show Adj T i (fa T i) (la T i) from ⟨hi, Or.inl ⟨rfl, rfl⟩⟩).lt hf
  have hmi := hm i hi
  have alone : ∀ x, x < 64 → mn x = true → ∀ u, u < 64 → G u = G x → mn u = true := fun x hx hmx u hu eu => by
    cases c : mn u with
    | true => rfl
    | false =>
      have := h5 u hu c x hx eu.symm
      subst this
      rw [c] at hmx; cases hmx
  obtain ⟨m1, b1, g1, l1⟩ := least (P := fun t => G t = G (fa T i)) (fa T i) rfl
  obtain ⟨m2, b2, g2, l2⟩ := least (P := fun t => G t = G (la T i)) (la T i) rfl
  have lm := fun t => lead_merge (t := t) e g1 l1 g2 l2
  have hM64 : (if m1 < m2 then m2 else m1) < 64 := by split <;> omega
  have hMm : mn (if m1 < m2 then m2 else m1) = true := by
    split
    · exact alone _ l.2 hmi.2 m2 (by omega) g2
    · exact alone _ l.1 hmi.1 m1 (by omega) g1
  have hMl : leadB G (if m1 < m2 then m2 else m1) = true := by
    unfold leadB
    refine decide_eq_true ?_
    split
    · intro u hu; rw [g2]; exact l2 u hu
    · intro u hu; rw [g1]; exact l1 u hu
  generalize (if m1 < m2 then m2 else m1) = m at lm hM64 hMm hMl
  have key : cnt (fun t => mn t && leadB G t) 64 = cnt (fun t => mn t && leadB (mergeG G (G (fa T i)) (G (la T i))) t) 64 + 1 := by
    have := cnt_up (p := fun t => mn t && leadB (mergeG G (G (fa T i)) (G (la T i))) t) (q := fun t => mn t && leadB G t) (y := m) ?_ ?_ ?_ 64
    · rw [this, if_pos hM64]
    · cases c : leadB (mergeG G (G (fa T i)) (G (la T i))) m with
      | false => simp [c]
      | true => exact absurd rfl ((lm m).mp c).2
    · simp [hMm, hMl]
    · intro t ht
      have : leadB G t = leadB (mergeG G (G (fa T i)) (G (la T i))) t := by
        cases c : leadB G t with
        | true => exact ((lm t).mpr ⟨c, ht⟩).symm
        | false =>
          cases c2 : leadB (mergeG G (G (fa T i)) (G (la T i))) t with
          | false => rfl
          | true => rw [((lm t).mp c2).1] at c; cases c
      simp only [this]
  refine ⟨by omega, fun t ht => ?_, fun j hj => ?_, fun S hS t u ht hu eq => ?_, by omega, fun t ht hmt u hu eq => ?_⟩
  · unfold mergeG
    split
    · exact h1 _ l.1
    · exact h1 t ht
  · by_cases c : j = i
    · subst c
      unfold mergeG
      rw [if_neg e, if_pos rfl]
    · unfold mergeG
      rw [h2 j (by omega)]
  · have sx := hS i hi
    unfold mergeG at eq
    have tx : ∀ x, x < 64 → G x = G (fa T i) → (S x ↔ S (fa T i)) := fun x hx ex => h3 S hS x _ hx l.1 ex
    have ty : ∀ x, x < 64 → G x = G (la T i) → (S x ↔ S (la T i)) := fun x hx ex => h3 S hS x _ hx l.2 ex
    by_cases c1 : G t = G (la T i) <;> by_cases c2 : G u = G (la T i)
    · exact h3 S hS t u ht hu (c1.trans c2.symm)
    · rw [if_pos c1, if_neg c2] at eq
      rw [ty t ht c1, tx u hu eq.symm, sx]
    · rw [if_neg c1, if_pos c2] at eq
      rw [tx t ht eq, ty u hu c2, sx]
    · rw [if_neg c1, if_neg c2] at eq
      exact h3 S hS t u ht hu eq
  · have n1 : G t ≠ G (fa T i) := fun z => by have := alone _ l.1 hmi.1 t ht z; rw [hmt] at this; cases this
    have n2 : G t ≠ G (la T i) := fun z => by have := alone _ l.2 hmi.2 t ht z; rw [hmt] at this; cases this
    unfold mergeG at eq
    rw [if_neg n2] at eq
    by_cases c2 : G u = G (la T i)
    · rw [if_pos c2] at eq; exact absurd eq.symm n1
    · rw [if_neg c2] at eq; exact h5 t ht hmt u hu eq
/-- the groups, as the document counts them -/
noncomputable def grpN (a : Lw) : Nat := cnt (fun t => lMn a t && decide (∀ u, u < t → dist (lTu a) t (lMn a t) u = 1000)) 64
theorem UI_end {a : Lw} {G : Nat → Nat} {k : Nat} (hf : fitTu (lTu a)) (h : UI (lTu a) (lMn a) (lTu a).length G k) (hD : ∀ t, t < 64 → IsD (lTu a) t (lMn a t) (dist (lTu a) t (lMn a t))) : k = grpN a := by
  obtain ⟨h1, h2, h3, h4, h5⟩ := h
  rw [h4]
  refine cnt_congr (fun t ht => ?_)
  cases hm : lMn a t with
  | false => rfl
  | true =>
    rw [Bool.true_and, Bool.true_and]
    have d := hD t ht
    rw [hm] at d
    unfold leadB
    have one : ∀ k u, u < 64 → dist (lTu a) t true u = k → k ≠ 1000 → G u = G t := by
      intro k
      induction k using Nat.strongRecOn with
      | _ k ih =>
        intro u hu e hk
        rcases d.2.2.2 u hu (by omega) with ⟨rfl, -⟩ | ⟨j, x, hj, hx⟩
        · rfl
        · have b := d.1 u hu
          have := ih (dist (lTu a) t true x) (by omega) x (hj.lt hf).2 rfl (by omega)
          rw [← this]
          rcases hj.2 with ⟨rfl, rfl⟩ | ⟨rfl, rfl⟩
          · exact h2 j hj.1
          · exact (h2 j hj.1).symm
    refine decide_eq_decide.mpr ⟨fun q u hu => ?_, fun q u hu e => ?_⟩
    · apply Classical.byContradiction
      intro z
      exact q u hu (one _ u (by omega) rfl z)
    · have := (h3 (fun x => dist (lTu a) t true x ≠ 1000) (fun j hj => d.shut hf hj) u t (by omega) ht e).mpr (by show dist (lTu a) t true t ≠ 1000; rw [d.2.1 rfl]; omega)
      exact this (q u hu)
