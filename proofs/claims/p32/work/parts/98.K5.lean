theorem low_no {p : Nat → Bool} : ∀ n, lowN p n = none → ∀ t, t < n → p t = false
  | 0, _, t, ht => by omega
  | n + 1, h, t, ht => by
    unfold lowN at h
    cases e : lowN p n with
    | some s => rw [e] at h; cases h
    | none =>
      rw [e] at h
      cases c : p n with
      | true => rw [c] at h; cases h
      | false =>
        by_cases z : t = n
        · subst z; exact c
        · exact low_no n e t (by omega)
theorem low_is {p : Nat → Bool} : ∀ n s, lowN p n = some s → s < n ∧ p s = true
  | 0, _, h => by cases h
  | n + 1, s, h => by
    unfold lowN at h
    cases e : lowN p n with
    | some s2 =>
      rw [e] at h
      have := low_is n s2 e
      injection h with h
      subst h
      exact ⟨by omega, this.2⟩
    | none =>
      rw [e] at h
      cases c : p n with
      | true => rw [c] at h; injection h with h; subst h; exact ⟨by omega, c⟩
      | false => rw [c] at h; cases h
theorem dgW_low {a : Lw} {s : Nat} {d : Int64} : ∀ n, (∀ t, t < n → lMn a t = false) → dgW a s n d = d
  | 0, _ => rfl
  | n + 1, h => by
    unfold dgW
    rw [h n (by omega)]
    exact dgW_low n (fun t ht => h t (by omega))
theorem M_digestMounds {v : V_X7} {a : Lw} {n : Nat} (h : MLawn (X7_s v) a) (g : Good n a) (hn : n ≤ 512) {Q : (Nat → Int32) → (Nat → Int32) → Int64 → (Nat → Int32) → (Nat → Int32) → Prop} (hq : ∀ za zw zh zs, MLawn zs a → Q za zw (dg (fun t => nI (crN (lTu a) t)) 64 (dgP a 64 (X7_digested v))) zh zs) : wp_X7_digestMounds v Q := by
  have hft := g.1.fit hn
  have hf := hft.1
  unfold wp_X7_digestMounds wp_X7_digestMounds_4
  refine ⟨fun y1 y2 _ d => ∃ k, y2 = nI k ∧ k ≤ 64 ∧ y1 = oI (lowN (lMn a) k) ∧ d = dgP a k (X7_digested v), fun _ y2 _ _ => 100 - y2.toNatClampNeg, ⟨0, rfl, by omega, rfl, rfl⟩, ?_⟩
  rintro _ _ zw _ ⟨k, rfl, hk, rfl, rfl⟩
  unfold wb_X7_digestMounds_4
  simp (disch := omega) only [nI_lit, nI_leI, nN_eq]
  refine ⟨fun e => ?_, fun e => ?_⟩
  · have : k = 64 := by omega
    subst this
    generalize dgP a 64 (X7_digested v) = d0 at hq
    unfold wp_X7_digestMounds_56
    refine ⟨fun y2 _ d _ s => ∃ k, y2 = nI k ∧ k ≤ 64 ∧ d = dg (fun t => nI (crN (lTu a) t)) k d0 ∧ MLawn s a, fun y2 _ _ _ _ => 100 - y2.toNatClampNeg, ⟨0, rfl, by omega, rfl, h⟩, ?_⟩
    rintro _ za _ zh s ⟨k, rfl, hk, rfl, hs⟩
    unfold wb_X7_digestMounds_56
    simp (disch := omega) only [nI_lit, nI_leI, nI_add, nI_clamp]
    refine ⟨fun e => ?_, fun e => M_whenDug (v := (s, za, X7_kept v, X7_isKept v, X7_saved v, X7_savedMany v, X7_text v, X7_length v, X7_thrown v, X7_joint v, X7_position v, X7_isWrong v, zh, X7_sure v, zw, dg (fun t => nI (crN (lTu a) t)) k d0)) hs g hn (by omega) (fun za2 zh2 zs2 hz => ?_)⟩
    · have : k = 64 := by omega
      subst this
      exact hq _ _ _ _ hs
    · rw [if_pos rfl, dug_fa]
      exact ⟨⟨k + 1, rfl, by omega, rfl, hz⟩, by omega⟩
  · have hk2 : k < 64 := by omega
    have low : lowN (lMn a) (k + 1) = match lowN (lMn a) k with
      | some s => some s
      | none => if lMn a k then some k else none := rfl
    have w28 : ∀ (s : Option Nat), lowN (lMn a) (k + 1) = s → (lMn a k = false → dgP a (k + 1) (X7_digested v) = dgP a k (X7_digested v)) → (lMn a k = true → ∃ t, s = some t ∧ t < 64 ∧ dgP a (k + 1) (X7_digested v) = (31 * dgP a k (X7_digested v)) + (cD (dist (lTu a) k true t)).toInt64) → ∀ y1, wp_X7_digestMounds_28 v y1 (nI k) zw (dgP a k (X7_digested v)) (fun t0 t1 _ t3 => (∃ k, t1 = nI k ∧ k ≤ 64 ∧ t0 = oI (lowN (lMn a) k) ∧ t3 = dgP a k (X7_digested v)) ∧ 100 - t1.toNatClampNeg < 100 - (nI k).toNatClampNeg) (oI s) Q := by
      intro s hs h0 h1 y1
      unfold wp_X7_digestMounds_28
      refine M_hasMound (v := X7_s15 (X7_s14 v zw) (dgP a k (X7_digested v))) h.1 hk2 ?_
      have fin : ∀ d zw2, d = dgP a (k + 1) (X7_digested v) → (fun (t0 : Int32) (t1 : Int32) (_ : Nat → Int32) (t3 : Int64) => (∃ k, t1 = nI k ∧ k ≤ 64 ∧ t0 = oI (lowN (lMn a) k) ∧ t3 = dgP a k (X7_digested v)) ∧ 100 - t1.toNatClampNeg < 100 - (nI k).toNatClampNeg) (oI s) (nI k + 1) zw2 d := fun d zw2 hd => by
        refine ⟨⟨k + 1, by simp only [nI_lit, nI_add], by omega, by rw [hs], hd⟩, ?_⟩
        show 100 - (nI k + 1).toNatClampNeg < 100 - (nI k).toNatClampNeg
        simp (disch := omega) only [nI_lit, nI_add, nI_clamp]
        omega
      cases c : lMn a k with
      | false => exact ⟨fun _ => fin _ zw (h0 c).symm, fun q => absurd rfl q⟩
      | true =>
        obtain ⟨t, rfl, ht, hd⟩ := h1 c
        refine ⟨fun q => absurd q (by decide), fun _ => M_fewestTo (v := X7_s15 (X7_s14 v zw) (dgP a k (X7_digested v))) h g hn hk2 ht (fun d _ => ?_)⟩
        rw [c]
        exact fin _ d hd.symm
    cases el : lowN (lMn a) k with
    | none =>
      rw [el] at low
      have pk : dgP a k (X7_digested v) = X7_digested v := by unfold dgP; rw [el]
      refine ⟨fun _ => M_hasMound (v := X7_s15 (X7_s14 v zw) (dgP a k (X7_digested v))) h.1 hk2 ?_, fun q => absurd rfl q⟩
      cases c : lMn a k with
      | false =>
        rw [c] at low
        refine ⟨fun _ => ?_, fun q => absurd rfl q⟩
        unfold wp_X7_digestMounds_27
        refine w28 none low (fun _ => ?_) (fun z => by rw [c] at z; cases z) _
        rw [pk]
        unfold dgP; rw [low]; rfl
      | true =>
        rw [c] at low
        refine ⟨fun q => absurd q (by decide), fun _ => w28 (some k) low (fun z => by rw [c] at z; cases z) (fun _ => ⟨k, rfl, hk2, ?_⟩) _⟩
        rw [pk]
        unfold dgP
        rw [low]
        show dgW a k (k + 1) _ = _
        unfold dgW
        rw [if_pos c, dgW_low k (low_no k el)]
    | some s =>
      rw [el] at low
      have li := low_is k s el
      have pk : dgP a k (X7_digested v) = dgW a s k (X7_digested v) := by unfold dgP; rw [el]
      have pk1 : dgP a (k + 1) (X7_digested v) = dgW a s (k + 1) (X7_digested v) := by unfold dgP; rw [low]
      have ho : oI (some s) = nI s := rfl
      refine ⟨fun q => absurd q (by rw [ho]; simp (disch := omega) only [nN_ne]; exact fun z => z), fun _ => ?_⟩
      unfold wp_X7_digestMounds_27
      refine w28 (some s) low (fun c => ?_) (fun c => ⟨s, rfl, by omega, ?_⟩) _
      · rw [pk1, pk]
        show (if lMn a k then _ else _) = _
        rw [if_neg (by rw [c]; decide)]
      · rw [pk1, pk]
        show (if lMn a k then _ else _) = _
        rw [if_pos c, dist_comm hf (by omega) hk2]
