/-! The whole state of both sides; saving. -/
abbrev Wd : Type := Lw × Option Lw × List Lw × List Nat
abbrev wCur (w : Wd) : Lw := w.1
abbrev wSnap (w : Wd) : Option Lw := w.2.1
abbrev wHist (w : Wd) : List Lw := w.2.2.1
abbrev wBuf (w : Wd) : List Nat := w.2.2.2
def lw0 : Lw := (fun _ => false, fun _ => false, fun _ => 0, fun _ => nN, [], [], 6, 0, 0, 0, 0, 0)
def hAt (H : List Lw) (i : Nat) : Lw := H[i]?.getD lw0
theorem hAt_l {A B : List Lw} {k : Nat} (h : k < A.length) : hAt (A ++ B) k = hAt A k := by simp [hAt, List.getElem?_append, h]
theorem hAt_r {A : List Lw} {x : Lw} : hAt (A ++ [x]) A.length = x := by simp [hAt]
theorem hAt_tail (A : List Lw) (k : Nat) : hAt A.tail k = hAt A (k + 1) := by simp [hAt]
theorem hAt_mem {A : List Lw} {k : Nat} (h : k < A.length) : hAt A k ∈ A := by simp [hAt, h]
def permL (x : V_X0) : Prop := (∀ i, i < 4 → X0_molesR x i < 4) ∧ ∀ i j, i < 4 → j < 4 → X0_molesR x i = X0_molesR x j → i = j
theorem CLawn.perm {x : V_X0} {a : Lw} (h : CLawn x a) : permL x := ⟨h.2.2.2.2.2.1.2.1, h.2.2.2.2.2.1.2.2.1⟩
def CHist (r : Nat → Nat) (sa : Nat → V_X0) (c : Int32) (H : List Lw) : Prop := c = nI H.length ∧ H.length ≤ 6 ∧ (∀ i, i < 6 → r i < 6) ∧ (∀ i j, i < 6 → j < 6 → r i = r j → i = j) ∧ (∀ i, i < 6 → permL (sa i)) ∧ ∀ i, i < H.length → CLawn (sa (r i)) (hAt H i)
def CText (x : V_X5) (b : List Nat) : Prop := seg (X5_codes x) 0 b ∧ X5_length x = nI b.length ∧ b.length ≤ 60 ∧ ∀ c ∈ b, 33 ≤ c ∧ c ≤ 126
def CW (v : V_X6) (w : Wd) : Prop := CLawn (X6_lawn v) (wCur w) ∧ permL (X6_snapshot v) ∧ permL (X6_trial v) ∧ X6_snapshotTaken v = bI (wSnap w).isSome ∧ (∀ a, wSnap w = some a → CLawn (X6_snapshot v) a) ∧ CHist (X6_savedR v) (X6_saved v) (X6_savedCount v) (wHist w) ∧ CText (X6_text v) (wBuf w)
def pushH (H : List Lw) (a : Lw) : List Lw := (if H.length < 6 then H else H.tail) ++ [a]
def MHist (s : Nat → Int32) (c : Int32) (H : List Lw) : Prop := c = nI H.length ∧ H.length ≤ 6 ∧ ∀ i, i < H.length → MLawn (fun q => s (1472 * i + q)) (hAt H i)
def MText (x : Nat → Int32) (n : Int32) (b : List Nat) : Prop := seg x 0 b ∧ n = nI b.length
def MW (v : V_X7) (w : Wd) : Prop := MLawn (X7_s v) (wCur w) ∧ X7_isKept v = bI (wSnap w).isSome ∧ (∀ a, wSnap w = some a → MLawn (X7_kept v) a) ∧ MHist (X7_saved v) (X7_savedMany v) (wHist w) ∧ MText (X7_text v) (X7_length v) (wBuf w)
def GoodW (n : Nat) (w : Wd) : Prop := Good n (wCur w) ∧ (∀ a, wSnap w = some a → Good n a) ∧ (∀ a ∈ wHist w, Good n a) ∧ n + (wBuf w).length ≤ 512 ∧ (wBuf w).length ≤ 60
theorem C_saveState {v : V_X6} {w : Wd} {n : Nat} (h : CW v w) (g : GoodW n w) {Q : (Nat → V_X0) → Int32 → (Nat → Nat) → Prop} (hq : ∀ sa sc sr, CHist sr sa sc (pushH (wHist w) (wCur w)) → Q sa sc sr) : wp_X6_saveState v Q := by
  obtain ⟨hc, -, -, -, -, ⟨s1, s2, s3, s4, s5, s6⟩, -⟩ := h
  have hf := g.1.1.fit (by have := g.2.2.2.1; omega)
  have put : ∀ (r : Nat → Nat) (H : List Lw), H.length < 6 → (∀ i, i < 6 → r i < 6) → (∀ i j, i < 6 → j < 6 → r i = r j → i = j) → (∀ i, i < H.length → CLawn (X6_saved v (r i)) (hAt H i)) → pushH (wHist w) (wCur w) = H ++ [wCur w] → wp_X6_saveState_56 v (nI H.length) r Q := by
    intro r H hH r1 r2 r3 e
    unfold wp_X6_saveState_56
    simp (disch := omega) only [nI_lit, nI_add, nI_clamp, nI_inI]
    refine ⟨hH, r1 _ hH, C_X0_copyFrom hc hf (s5 _ (r1 _ hH)) (fun bt ca fa ai gn mc mo mn op ri rt tp tu hL => hq _ _ _ ?_)⟩
    rw [e]
    refine ⟨by rw [List.length_append]; rfl, by rw [List.length_append]; simp; omega, r1, r2, fun i hi => ?_, fun i hi => ?_⟩
    · by_cases z : i = r H.length
      · subst z; rw [va_up_self]; exact hL.perm
      · rw [va_up_ne _ _ z]; exact s5 i hi
    · rw [List.length_append] at hi
      have hi : i < H.length + 1 := hi
      by_cases z : i = H.length
      · subst z; rw [va_up_self, hAt_r]; exact hL
      · rw [va_up_ne _ _ (fun q => z (r2 i _ (by omega) hH q)), hAt_l (by omega)]
        exact r3 i (by omega)
  unfold wp_X6_saveState
  rw [s1]
  simp (disch := omega) only [nI_lit, nI_add, nI_clamp, nI_inI, nI_ltI]
  refine ⟨fun e => put _ (wHist w) e s3 s4 s6 (by unfold pushH; rw [if_pos e]), fun e => ⟨by omega, s3 0 (by omega), ?_⟩⟩
  have e6 : (wHist w).length = 6 := by omega
  have hl5 : (wHist w).tail.length = 5 := by rw [List.length_tail]; omega
  unfold wp_X6_saveState_18
  refine ⟨fun y r => ∃ k, y = nI k ∧ 1 ≤ k ∧ k ≤ 6 ∧ (∀ i, i + 1 < k → r i = X6_savedR v (i + 1)) ∧ ∀ i, k ≤ i + 1 → r i = X6_savedR v i, fun y _ => 70 - y.toNatClampNeg, ⟨1, rfl, by omega, by omega, fun i hi => by omega, fun i _ => rfl⟩, ?_⟩
  rintro _ r ⟨k, rfl, k1, k6, ra, rb⟩
  unfold wb_X6_saveState_18
  simp (disch := omega) only [nI_lit, nI_add, nI_clamp, nI_inI, nI_leI]
  refine ⟨fun q => ⟨by omega, s3 0 (by omega), ?_⟩, fun q => ⟨by omega, by rw [rb k (by omega)]; exact s3 k (by omega), ?_⟩⟩
  · have ek : k = 6 := by omega
    subst ek
    have key : ∀ i, i < 6 → va_up r 5 (X6_savedR v 0) i = X6_savedR v (if i = 5 then 0 else i + 1) := by
      intro i hi
      by_cases z : i = 5
      · rw [if_pos z, z, va_up_self]
      · rw [if_neg z, va_up_ne _ _ z, ra i (by omega)]
    have sb : ∀ i, i < 6 → (if i = 5 then 0 else i + 1) < 6 := by
      intro i hi
      split <;> omega
    have := put (va_up r 5 (X6_savedR v 0)) (wHist w).tail (by omega) (fun i hi => by rw [key i hi]; exact s3 _ (sb i hi)) (fun i j hi hj eq => by
      rw [key i hi, key j hj] at eq
      have e2 := s4 _ _ (sb i hi) (sb j hj) eq
      split at e2 <;> split at e2 <;> omega) (fun i hi => by
      rw [key i (by omega), if_neg (by omega), hAt_tail]
      exact s6 (i + 1) (by omega)) (by unfold pushH; rw [if_neg (by omega)])
    rw [hl5] at this
    exact this
  · rw [pk_sub (by omega)]
    simp (disch := omega) only [nI_clamp, nI_inI]
    refine ⟨by omega, ⟨k + 1, rfl, by omega, by omega, fun i hi => ?_, fun i hi => ?_⟩, by omega⟩
    · by_cases z : i = k - 1
      · subst z; rw [va_up_self, rb k (by omega)]; congr 1; omega
      · rw [va_up_ne _ _ z]; exact ra i (by omega)
    · rw [va_up_ne _ _ (by omega)]; exact rb i (by omega)
theorem MLawn.of {s s' : Nat → Int32} {a : Lw} (h : MLawn s a) (hf : fitL a) (e : ∀ q, q < 1472 → s' q = s q) : MLawn s' a := by
  obtain ⟨hb, hc, hm⟩ := h
  have hl : (enc (lTu a)).length ≤ 1024 := by rw [enc_len]; exact hf.1.1.1
  exact ⟨hb.of (fun q q1 _ _ => e q (by omega)), ⟨by rw [e 7 (by omega), hc.1], seg_of hc.2 (fun k hk => e _ (by omega))⟩, hm.of hf.2.1.P (e 1 (by omega)) (fun q _ q2 => e q (by omega))⟩
theorem M_save {v : V_X7} {w : Wd} {n : Nat} (hcur : MLawn (X7_s v) (wCur w)) (hh : MHist (X7_saved v) (X7_savedMany v) (wHist w)) (g : GoodW n w) {Q : (Nat → Int32) → Int32 → Prop} (hq : ∀ sa sc, MHist sa sc (pushH (wHist w) (wCur w)) → Q sa sc) : wp_X7_save v Q := by
  obtain ⟨s1, s2, s3⟩ := hh
  have hf := g.1.1.fit (by have := g.2.2.2.1; omega)
  have hfh : ∀ i, i < (wHist w).length → fitL (hAt (wHist w) i) := fun i hi => (g.2.2.1 _ (hAt_mem hi)).1.fit (by have := g.2.2.2.1; omega)
  have put : ∀ (sa : Nat → Int32) (H : List Lw), H.length < 6 → (∀ i, i < H.length → MLawn (fun q => sa (1472 * i + q)) (hAt H i) ∧ fitL (hAt H i)) → pushH (wHist w) (wCur w) = H ++ [wCur w] → wp_X7_save_52 v (nI H.length) (nI 0) sa Q := by
    intro sa H hH r3 e
    unfold wp_X7_save_52
    refine ⟨fun y z => ∃ k, y = nI k ∧ k ≤ 1472 ∧ (∀ q, q < k → z (1472 * H.length + q) = X7_s v q) ∧ ∀ q, q < 1472 * H.length → z q = sa q, fun y _ => 2000 - y.toNatClampNeg, ⟨0, rfl, by omega, fun q hq => by omega, fun q _ => rfl⟩, ?_⟩
    rintro _ z ⟨k, rfl, hk, z1, z2⟩
    unfold wb_X7_save_52
    simp (disch := omega) only [nI_lit, nI_add, pk_mul, nI_clamp, nI_inI, nI_leI]
    refine ⟨fun q => hq _ _ ?_, fun q => ⟨by omega, by omega, ⟨k + 1, rfl, by omega, fun j hj => ?_, fun j hj => by rw [upd_n (by omega)]; exact z2 j hj⟩, by omega⟩⟩
    · rw [e]
      refine ⟨by rw [List.length_append]; rfl, by rw [List.length_append]; simp; omega, fun i hi => ?_⟩
      rw [List.length_append] at hi
      have hi : i < H.length + 1 := hi
      by_cases w : i = H.length
      · subst w
        rw [hAt_r]
        exact hcur.of hf (fun q q1 => z1 q (by omega))
      · rw [hAt_l (by omega)]
        obtain ⟨r1, r2⟩ := r3 i (by omega)
        exact r1.of r2 (fun q q1 => z2 _ (by have := Nat.mul_le_mul_left 1472 (show i + 1 ≤ H.length by omega); omega))
    · by_cases w : j = k
      · subst w; rw [upd_s]
      · rw [upd_n (by omega)]; exact z1 j (by omega)
  unfold wp_X7_save
  rw [s1]
  simp (disch := omega) only [nI_lit, nI_eq]
  refine ⟨fun e => ?_, fun e => put _ (wHist w) (by omega) (fun i hi => ⟨s3 i hi, hfh i hi⟩) (by unfold pushH; rw [if_pos (by omega)])⟩
  have hl5 : (wHist w).tail.length = 5 := by rw [List.length_tail]; omega
  unfold wp_X7_save_11
  refine ⟨fun y z => ∃ k, y = nI k ∧ k ≤ 7360 ∧ (∀ q, q < k → z q = X7_saved v (1472 + q)) ∧ ∀ q, k ≤ q → z q = X7_saved v q, fun y _ => 8000 - y.toNatClampNeg, ⟨0, rfl, by omega, fun q hq => by omega, fun q _ => rfl⟩, ?_⟩
  rintro _ z ⟨k, rfl, hk, z1, z2⟩
  unfold wb_X7_save_11
  rw [s1, e]
  simp (disch := omega) only [nI_lit, nI_add, pk_mul, nI_clamp, nI_inI, nI_leI]
  refine ⟨fun q => ?_, fun q => ⟨by omega, by omega, ⟨k + 1, rfl, by omega, fun j hj => ?_, fun j hj => by rw [upd_n (by omega)]; exact z2 j (by omega)⟩, by omega⟩⟩
  · have ek : k = 7360 := by omega
    subst ek
    have := put z (wHist w).tail (by omega) (fun i hi => by
      rw [hAt_tail]
      refine ⟨(s3 (i + 1) (by omega)).of (hfh _ (by omega)) (fun q q1 => ?_), hfh _ (by omega)⟩
      show z (1472 * i + q) = X7_saved v (1472 * (i + 1) + q)
      rw [z1 _ (by omega)]
      congr 1; omega) (by unfold pushH; rw [if_neg (by omega)])
    rw [hl5] at this
    rw [pk_sub (by omega)]
    exact this
  · by_cases w : j = k
    · subst w; rw [upd_s]; exact z2 _ (by omega)
    · rw [upd_n (by omega)]; exact z1 j (by omega)
theorem good_push {n : Nat} {w : Wd} (g : GoodW n w) : ∀ a ∈ pushH (wHist w) (wCur w), Good n a := by
  intro a ha
  rcases List.mem_append.mp ha with z | z
  · split at z
    · exact g.2.2.1 a z
    · exact g.2.2.1 a (List.mem_of_mem_tail z)
  · have : a = wCur w := by simpa using z
    rw [this]; exact g.1
