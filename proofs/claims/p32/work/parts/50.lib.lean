/-! Numbers, lists of numbers and the rows that hold them. -/
theorem nI_lit (n : Nat) : (OfNat.ofNat n : Int32) = nI n := rfl
def nN : Int32 := -1
theorem nN_eq : -nI 1 = nN := rfl
theorem nN_toInt : nN.toInt = -1 := by decide
theorem nN_ne {a : Nat} (h : a < 2 ^ 31) : (nI a = nN) ↔ False := ⟨fun e => by
  have h1 := nI_toInt h
  rw [e, nN_toInt] at h1
  omega, False.elim⟩
theorem nN_ne' {a : Nat} (h : a < 2 ^ 31) : (nN = nI a) ↔ False := ⟨fun e => (nN_ne h).mp e.symm, False.elim⟩
theorem nN_lt {a : Nat} (h : a < 2 ^ 31) : (nN < nI a) ↔ True := iff_true_intro (by
  rw [Int32.lt_iff_toInt_lt, nI_toInt h, nN_toInt]; omega)
theorem nN_le {a : Nat} (h : a < 2 ^ 31) : (nN ≤ nI a) ↔ True := iff_true_intro (by
  rw [Int32.le_iff_toInt_le, nI_toInt h, nN_toInt]; omega)
theorem nN_nlt {a : Nat} (h : a < 2 ^ 31) : (nI a < nN) ↔ False := iff_false_intro (by
  rw [Int32.lt_iff_toInt_lt, nI_toInt h, nN_toInt]; omega)
theorem nN_nle {a : Nat} (h : a < 2 ^ 31) : (nI a ≤ nN) ↔ False := iff_false_intro (by
  rw [Int32.le_iff_toInt_le, nI_toInt h, nN_toInt]; omega)
theorem nN_add {a : Nat} (h : 0 < a) : nI a + nN = nI (a - 1) := by
  obtain ⟨b, rfl⟩ : ∃ b, a = b + 1 := ⟨a - 1, by omega⟩
  exact pk_m1 b
theorem nN_in {n : Nat} : vp_in nN n ↔ False := by
  rw [vp_in_iff, nN_toInt]; exact ⟨fun h => by omega, False.elim⟩
theorem nI_inI {a n : Nat} (h : a < 2 ^ 31) : vp_in (nI a) n ↔ a < n := by
  rw [vp_in_iff, nI_toInt h]; omega
theorem nI_lt0 {a : Nat} (h : a < 2 ^ 31) : (nI a < nI 0) ↔ False := iff_false_intro (nI_nlt (Nat.zero_le _) h)
def bI (b : Bool) : Int32 := if b then 1 else 0
theorem bI_0 (b : Bool) : bI b = nI 0 ↔ b = false := by cases b <;> decide
theorem bI_1 (b : Bool) : bI b = nI 1 ↔ b = true := by cases b <;> decide
theorem bI_bz (b : Bool) : bz (bI b) := by cases b <;> simp [bI, bz]
theorem bz_0 : bz (nI 0) := Or.inl rfl
theorem bz_1 : bz (nI 1) := Or.inr rfl
theorem bI_t : bI true = nI 1 := rfl
theorem bI_f : bI false = nI 0 := rfl
theorem upd_s (f : Nat → Int32) (k : Nat) (x : Int32) : upd f k x k = x := by simp [upd]
theorem upd_n {f : Nat → Int32} {k j : Nat} {x : Int32} (h : j ≠ k) : upd f k x j = f j := by simp [upd, h]
/-- an item of a list, 0 behind its end -/
def at0 (L : List Nat) (k : Nat) : Nat := L[k]?.getD 0
theorem at0_l {A B : List Nat} {k : Nat} (h : k < A.length) : at0 (A ++ B) k = at0 A k := by
  simp [at0, List.getElem?_append, h]
theorem at0_r {A B : List Nat} {k : Nat} (h : A.length ≤ k) : at0 (A ++ B) k = at0 B (k - A.length) := by
  have : ¬ k < A.length := by omega
  simp [at0, List.getElem?_append, this]
theorem at0_take {L : List Nat} {n k : Nat} (h : k < n) : at0 (L.take n) k = at0 L k := by
  simp [at0, List.getElem?_take, h]
theorem at0_drop (L : List Nat) (n k : Nat) : at0 (L.drop n) k = at0 L (n + k) := by
  simp [at0, List.getElem?_drop]
theorem at0_tail (L : List Nat) (k : Nat) : at0 L.tail k = at0 L (k + 1) := by
  simp [at0]
theorem at0_mem {L : List Nat} {k : Nat} (h : k < L.length) : at0 L k ∈ L := by
  simp [at0, h]
theorem at0_0 (x : Nat) (L : List Nat) : at0 (x :: L) 0 = x := by simp [at0]
theorem at0_s (x : Nat) (L : List Nat) (k : Nat) : at0 (x :: L) (k + 1) = at0 L k := by simp [at0]
theorem at0_of_mem {L : List Nat} {x : Nat} (h : x ∈ L) : ∃ k, k < L.length ∧ at0 L k = x := by
  obtain ⟨k, hk, e⟩ := List.mem_iff_getElem.mp h
  exact ⟨k, hk, by simp [at0, hk, e]⟩
theorem at0_ext {A B : List Nat} (h : A.length = B.length) (hk : ∀ k, k < A.length → at0 A k = at0 B k) : A = B := by
  apply List.ext_getElem h
  intro i h1 h2
  have := hk i h1
  simpa [at0, h1, h2] using this
/-- a row of numbers stands in an array from a place on -/
def seg (f : Nat → Int32) (o : Nat) (L : List Nat) : Prop := ∀ k, k < L.length → f (o + k) = nI (at0 L k)
theorem seg_nil (f : Nat → Int32) (o : Nat) : seg f o [] := fun k h => absurd h (by simp)
theorem seg_app {f : Nat → Int32} {o : Nat} {A B : List Nat} (h1 : seg f o A) (h2 : seg f (o + A.length) B) : seg f o (A ++ B) := fun k h => by
  by_cases hk : k < A.length
  · rw [at0_l hk]; exact h1 k hk
  · rw [at0_r (by omega), ← h2 (k - A.length) (by simp at h; omega)]
    congr 1; omega
theorem seg_l {f : Nat → Int32} {o : Nat} {A B : List Nat} (h : seg f o (A ++ B)) : seg f o A := fun k hk => by
  rw [h k (by simp; omega), at0_l hk]
theorem seg_r {f : Nat → Int32} {o : Nat} {A B : List Nat} (h : seg f o (A ++ B)) : seg f (o + A.length) B := fun k hk => by
  have := h (A.length + k) (by simp; omega)
  rw [at0_r (by omega)] at this
  rw [Nat.add_assoc, this]; congr 2; omega
theorem seg_of {f g : Nat → Int32} {o p : Nat} {L : List Nat} (h : seg f o L) (e : ∀ k, k < L.length → g (p + k) = f (o + k)) : seg g p L := fun k hk => by rw [e k hk, h k hk]
theorem seg_out {f : Nat → Int32} {o i : Nat} {x : Int32} {L : List Nat} (h : seg f o L) (hi : i < o ∨ o + L.length ≤ i) : seg (upd f i x) o L := seg_of h (fun k hk => upd_n (by omega))
theorem seg_snoc {f : Nat → Int32} {o i : Nat} {x : Nat} {L : List Nat} (h : seg f o L) (hi : i = o + L.length) : seg (upd f i (nI x)) o (L ++ [x]) := seg_app (seg_out h (by omega)) (fun k hk => by
  have : k = 0 := by simpa using hk
  subst this; subst hi
  simp [upd, at0])
theorem seg_one {f : Nat → Int32} {o x : Nat} : seg (upd f o (nI x)) o [x] := fun k hk => by
  have : k = 0 := by simpa using hk
  subst this; simp [upd, at0]
theorem seg_take {f : Nat → Int32} {o n : Nat} {L : List Nat} (h : seg f o L) : seg f o (L.take n) := fun k hk => by
  have : k < n ∧ k < L.length := by simp at hk; omega
  rw [h k this.2, at0_take this.1]
theorem seg_drop {f : Nat → Int32} {o n : Nat} {L : List Nat} (h : seg f o L) : seg f (o + n) (L.drop n) := fun k hk => by
  rw [at0_drop, Nat.add_assoc, h (n + k) (by simp at hk; omega)]
theorem seg_cpy {w f : Nat → Int32} {sp dp n : Nat} {L : List Nat} (h : seg w sp L) (hn : L.length ≤ n) : seg (va_cpy w f sp dp n) dp L := seg_of h (fun k hk => by
  rw [pk_cpy_in (by omega) (by omega)]; congr 1; omega)
theorem seg_cpyO {w f : Nat → Int32} {sp dp n o : Nat} {L : List Nat} (h : seg f o L) (hn : o + L.length ≤ dp ∨ dp + n ≤ o) : seg (va_cpy w f sp dp n) o L := seg_of h (fun k hk => by
  rw [pk_cpy_out (by omega)])
theorem seg_set {f : Nat → Int32} {o i : Nat} {x : Nat} {L : List Nat} (h : seg f o L) : seg (upd f (o + i) (nI x)) o (L.set i x) := fun k hk => by
  simp at hk
  by_cases e : k = i
  · subst e; simp [upd, at0, hk]
  · rw [upd_n (by omega), h k hk]
    have : i ≠ k := fun q => e q.symm
    simp [at0, List.getElem?_set, this]
/-- where a number is first: none, or a place -/
def ixI (L : List Nat) (t : Nat) : Int32 := if t ∈ L then nI (L.idxOf t) else nN
theorem idx_of : ∀ {L : List Nat} {t k : Nat}, k < L.length → at0 L k = t → (∀ j, j < k → at0 L j ≠ t) → t ∈ L ∧ L.idxOf t = k
  | [], _, _, h, _, _ => by simp at h
  | x :: r, t, 0, _, e, _ => by
    rw [at0_0] at e; subst e
    simp
  | x :: r, t, k + 1, h, e, hn => by
    have h0 := hn 0 (by omega)
    rw [at0_0] at h0
    rw [at0_s] at e
    obtain ⟨h1, h2⟩ := idx_of (L := r) (by simpa using h) e (fun j hj => by
      have := hn (j + 1) (by omega)
      rwa [at0_s] at this)
    refine ⟨List.mem_cons_of_mem _ h1, ?_⟩
    have hb : (x == t) = false := by simpa using h0
    simp [List.idxOf_cons, hb, h2]
theorem idx_none {L : List Nat} {t : Nat} (hn : ∀ j, j < L.length → at0 L j ≠ t) : t ∉ L := fun h => by
  obtain ⟨k, hk, e⟩ := at0_of_mem h
  exact hn k hk e
theorem ixI_of {L : List Nat} {t k : Nat} (h : k < L.length) (e : at0 L k = t) (hn : ∀ j, j < k → at0 L j ≠ t) : ixI L t = nI k := by
  obtain ⟨h1, h2⟩ := idx_of h e hn
  simp [ixI, h1, h2]
theorem ixI_none {L : List Nat} {t : Nat} (hn : ∀ j, j < L.length → at0 L j ≠ t) : ixI L t = nN := by
  simp [ixI, idx_none hn]
/-- from where a number is last, on -/
def fromLast (t : Nat) : List Nat → List Nat
  | [] => []
  | x :: r => if t ∈ r then fromLast t r else x :: r
theorem fromLast_of : ∀ {L : List Nat} {t k : Nat}, k < L.length → at0 L k = t → (∀ j, k < j → j < L.length → at0 L j ≠ t) → fromLast t L = L.drop k
  | [], _, _, h, _, _ => by simp at h
  | x :: r, t, 0, _, e, hn => by
    have : t ∉ r := idx_none (fun j hj => by
      have := hn (j + 1) (by omega) (by simpa using hj)
      rwa [at0_s] at this)
    simp [fromLast, this]
  | x :: r, t, k + 1, h, e, hn => by
    have hk : k < r.length := by simpa using h
    rw [at0_s] at e
    have : t ∈ r := by rw [← e]; exact at0_mem hk
    simp only [fromLast, this, if_true, List.drop_succ_cons]
    exact fromLast_of hk e (fun j hj hl => by
      have := hn (j + 1) (by omega) (by simpa using hl)
      rwa [at0_s] at this)
