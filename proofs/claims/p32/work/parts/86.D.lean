/-! How few tunnels lead from one tuft to another: what both sides lay down. -/
def upN (A : Nat → Nat) (k x : Nat) : Nat → Nat := fun t => if t = k then x else A t
theorem upN_s (A : Nat → Nat) (k x : Nat) : upN A k x k = x := by simp [upN]
theorem upN_n {A : Nat → Nat} {k j x : Nat} (h : j ≠ k) : upN A k x j = A j := by simp [upN, h]
def fa (T : Tu) (j : Nat) : Nat := at0 (row T j) 0
def la (T : Tu) (j : Nat) : Nat := lastOf (row T j)
def Adj (T : Tu) (j x y : Nat) : Prop := j < T.length ∧ ((fa T j = x ∧ la T j = y) ∨ (fa T j = y ∧ la T j = x))
theorem Adj.symm {T : Tu} {j x y : Nat} (h : Adj T j x y) : Adj T j y x := ⟨h.1, h.2.symm⟩
theorem Adj.lt {T : Tu} {j x y : Nat} (h : Adj T j x y) (hf : fitTu T) : x < 64 ∧ y < 64 := by
  have hr := hf.2 _ (row_mem h.1)
  have h1 := hr.2 _ (first_mem hr.1)
  have h2 := hr.2 _ (lastOf_mem hr.1)
  rcases h.2 with ⟨rfl, rfl⟩ | ⟨rfl, rfl⟩
  · exact ⟨h1, h2⟩
  · exact ⟨h2, h1⟩
def IsD (T : Tu) (s : Nat) (ok : Bool) (A : Nat → Nat) : Prop := (∀ t, t < 64 → A t ≤ 1000) ∧ (ok = true → A s = 0) ∧ (∀ j x y, Adj T j x y → A y ≤ A x + 1) ∧ ∀ t, t < 64 → A t ≠ 1000 → (t = s ∧ ok = true) ∨ ∃ j u, Adj T j t u ∧ A t = A u + 1
theorem IsD.le {T : Tu} {s : Nat} {ok : Bool} {A B : Nat → Nat} (hf : fitTu T) (ha : IsD T s ok A) (hb : IsD T s ok B) : ∀ k t, t < 64 → A t = k → B t ≤ k := by
  intro k
  induction k using Nat.strongRecOn with
  | _ k ih =>
    intro t ht e
    by_cases h : A t = 1000
    · have := hb.1 t ht; omega
    · rcases ha.2.2.2 t ht h with ⟨rfl, o⟩ | ⟨j, u, hj, hu⟩
      · rw [hb.2.1 o]; omega
      · have := ih (A u) (by omega) u (hj.lt hf).2 rfl
        have := hb.2.2.1 j u t hj.symm
        omega
theorem IsD.eq {T : Tu} {s : Nat} {ok : Bool} {A B : Nat → Nat} (hf : fitTu T) (ha : IsD T s ok A) (hb : IsD T s ok B) {t : Nat} (ht : t < 64) : A t = B t :=
  Nat.le_antisymm (IsD.le hf hb ha (B t) t ht rfl) (IsD.le hf ha hb (A t) t ht rfl)
theorem IsD.far {T : Tu} {s : Nat} {A : Nat → Nat} (hf : fitTu T) (ha : IsD T s false A) : ∀ k t, t < 64 → A t = k → A t = 1000 := by
  intro k
  induction k using Nat.strongRecOn with
  | _ k ih =>
    intro t ht e
    apply Classical.byContradiction
    intro h
    rcases ha.2.2.2 t ht h with ⟨-, o⟩ | ⟨j, u, hj, hu⟩
    · cases o
    · have := ih (A u) (by omega) u (hj.lt hf).2 rfl
      have := ha.1 t ht
      omega
/-- a tuft that is reached is the first one, or the end of a row -/
theorem IsD.end {T : Tu} {s : Nat} {ok : Bool} {A : Nat → Nat} (ha : IsD T s ok A) {t : Nat} (ht : t < 64) (h : A t ≠ 1000) : (t = s ∧ ok = true) ∨ ∃ j u, Adj T j t u := (ha.2.2.2 t ht h).elim Or.inl (fun ⟨j, u, hj, _⟩ => Or.inr ⟨j, u, hj⟩)
noncomputable def dist (T : Tu) (s : Nat) (ok : Bool) : Nat → Nat := Classical.epsilon (fun A => IsD T s ok A)
theorem dist_is {T : Tu} {s : Nat} {ok : Bool} {A : Nat → Nat} (h : IsD T s ok A) : IsD T s ok (dist T s ok) := Classical.epsilon_spec (p := fun A => IsD T s ok A) ⟨A, h⟩
theorem dist_eq {T : Tu} {s : Nat} {ok : Bool} {A : Nat → Nat} (hf : fitTu T) (h : IsD T s ok A) {t : Nat} (ht : t < 64) : A t = dist T s ok t := IsD.eq hf h (dist_is h) ht
theorem cnt_up {p q : Nat → Bool} {y : Nat} (hp : p y = false) (hq : q y = true) (h : ∀ t, t ≠ y → q t = p t) : ∀ n, cnt q n = cnt p n + (if y < n then 1 else 0)
  | 0 => rfl
  | n + 1 => by
    unfold cnt
    rw [cnt_up hp hq h n]
    by_cases e : n = y
    · subst e
      rw [hp, hq]
      simp
    · rw [h n e]
      split <;> split <;> split <;> omega
/-- where a search by rounds stands -/
def BF (T : Tu) (s r i : Nat) (g : Bool) (A : Nat → Nat) : Prop := A s = 0 ∧ (∀ t, t < 64 → A t ≤ r + 1 ∨ A t = 1000) ∧ (g = false → ∀ t, t < 64 → A t ≤ r ∨ A t = 1000) ∧ (∀ t, t < 64 → A t ≠ 1000 → (t = s ∧ true = true) ∨ ∃ j u, Adj T j t u ∧ A t = A u + 1) ∧ (∀ j x y, Adj T j x y → (A x < r ∨ (A x = r ∧ j < i)) → A y ≤ A x + 1) ∧ r + 1 + (if g then 1 else 0) ≤ cnt (fun t => decide (A t ≠ 1000)) 64
theorem BF_set {T : Tu} {s r i : Nat} {g : Bool} {A : Nat → Nat} (hf : fitTu T) (hr : r < 64) (h : BF T s r i g A) {x y : Nat} (ha : Adj T i x y) (hx : A x = r) (hy : A y = 1000) : BF T s r (i + 1) true (upN A y (r + 1)) := by
  obtain ⟨h1, h2, h3, h4, h5, h6⟩ := h
  have hxy : x ≠ y := fun e => by subst e; omega
  have hl := ha.lt hf
  refine ⟨by rw [upN_n (fun e => by subst e; omega)]; exact h1, fun t ht => ?_, fun q => (by cases q), fun t ht hne => ?_, fun j a b hab hc => ?_, ?_⟩
  · by_cases e : t = y
    · subst e; rw [upN_s]; exact Or.inl (Nat.le_refl _)
    · rw [upN_n e]; exact h2 t ht
  · by_cases e : t = y
    · subst e
      exact Or.inr ⟨i, x, ha.symm, by rw [upN_s, upN_n hxy, hx]⟩
    · rw [upN_n e] at hne ⊢
      rcases h4 t ht hne with z | ⟨j, u, hj, hu⟩
      · exact Or.inl z
      · refine Or.inr ⟨j, u, hj, ?_⟩
        rw [upN_n (fun e2 => by subst e2; have := h2 t ht; omega)]; exact hu
  · have hay : a ≠ y := fun e => by subst e; rw [upN_s] at hc; omega
    rw [upN_n hay] at hc ⊢
    by_cases hby : b = y
    · subst hby
      rw [upN_s]
      by_cases e : j = i ∧ A a = r
      · omega
      · have := h5 j a b hab (by omega)
        omega
    · rw [upN_n hby]
      by_cases e : j = i ∧ A a = r
      · obtain ⟨rfl, e2⟩ := e
        exfalso
        rcases ha.2 with ⟨rfl, rfl⟩ | ⟨rfl, rfl⟩ <;> rcases hab.2 with ⟨rfl, rfl⟩ | ⟨rfl, rfl⟩ <;> first | exact hby rfl | exact hay rfl
      · exact h5 j a b hab (by omega)
  · rw [cnt_up (p := fun t => decide (A t ≠ 1000)) (y := y) (by simp [hy]) (by simp only [upN_s]; have : r + 1 ≠ 1000 := by omega
                                                                               simp [this]) (fun t ht => by simp only [upN_n ht]), if_pos hl.2]
    simp only [if_true]
    have : r + 1 ≤ cnt (fun t => decide (A t ≠ 1000)) 64 := by
      refine Nat.le_trans ?_ h6
      omega
    omega
theorem BF_same {T : Tu} {s r i : Nat} {g : Bool} {A : Nat → Nat} (hf : fitTu T) (h : BF T s r i g A) (hi : i < T.length) (n1 : ¬ (A (fa T i) = r ∧ A (la T i) = 1000)) (n2 : ¬ (A (la T i) = r ∧ A (fa T i) = 1000)) : BF T s r (i + 1) g A := by
  obtain ⟨h1, h2, h3, h4, h5, h6⟩ := h
  refine ⟨h1, h2, h3, h4, fun j a b hab hc => ?_, h6⟩
  by_cases e : j = i ∧ A a = r
  · obtain ⟨rfl, e2⟩ := e
    have hb := h2 b (hab.lt hf).2
    rcases hab.2 with ⟨rfl, rfl⟩ | ⟨rfl, rfl⟩
    · have : A (la T j) ≠ 1000 := fun q => n1 ⟨e2, q⟩
      omega
    · have : A (fa T j) ≠ 1000 := fun q => n2 ⟨e2, q⟩
      omega
  · exact h5 j a b hab (by omega)
theorem BF_next {T : Tu} {s r : Nat} {A : Nat → Nat} (hf : fitTu T) (h : BF T s r T.length true A) : BF T s (r + 1) 0 false A := by
  obtain ⟨h1, h2, h3, h4, h5, h6⟩ := h
  refine ⟨h1, fun t ht => ?_, fun _ t ht => ?_, h4, fun j a b hab hc => ?_, ?_⟩
  · have := h2 t ht; omega
  · have := h2 t ht; omega
  · have := hab.1
    exact h5 j a b hab (by omega)
  · simpa using h6
theorem BF_done {T : Tu} {s r : Nat} {A : Nat → Nat} (hf : fitTu T) (hr : r < 64) (h : BF T s r T.length false A) : IsD T s true A := by
  obtain ⟨h1, h2, h3, h4, h5, h6⟩ := h
  refine ⟨fun t ht => ?_, fun _ => h1, fun j a b hab => ?_, h4⟩
  · have := h2 t ht; omega
  · have l := hab.lt hf
    have ha := h3 rfl a l.1
    have hb := h2 b l.2
    have := hab.1
    rcases ha with z | z
    · exact h5 j a b hab (by omega)
    · omega
theorem BF_start {T : Tu} {s : Nat} (hs : s < 64) : BF T s 0 0 false (upN (fun _ => 1000) s 0) := by
  refine ⟨upN_s _ _ _, fun t ht => ?_, fun _ t ht => ?_, fun t ht hne => ?_, fun j a b hab hc => by omega, ?_⟩
  · by_cases e : t = s
    · subst e; rw [upN_s]; omega
    · rw [upN_n e]; omega
  · by_cases e : t = s
    · subst e; rw [upN_s]; omega
    · rw [upN_n e]; omega
  · by_cases e : t = s
    · exact Or.inl ⟨e, rfl⟩
    · rw [upN_n e] at hne; exact absurd rfl hne
  · rw [cnt_up (p := fun _ => false) (y := s) rfl (by simp [upN_s]) (fun t ht => by simp [upN_n ht]), if_pos hs]
    simp
theorem BF_end {T : Tu} {s : Nat} {A : Nat → Nat} (h : BF T s 64 0 false A) : False := by
  have := h.2.2.2.2.2
  have := cnt_le (fun t => decide (A t ≠ 1000)) 64
  simp at *
  omega
