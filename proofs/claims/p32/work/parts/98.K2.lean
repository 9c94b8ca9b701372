def dgR (L : List Nat) (h : Int64) : Int64 := dg (fun x => atI L (nI x)) L.length (dg (fun x => numT L (nI x)) 3 h)
def dgU (T : Tu) : Nat → Int64 → Int64
  | 0, h => h
  | n + 1, h => dgR (row T n) (dgU T n h)
theorem C_hashTunnels {v : V_X6} {T : Tu} (h : CRows (X0_tunnels (X6_lawn v)) T) (hf : fitTu T) {d : Int64} {Q : Int64 → Prop} (hq : Q (dgU T T.length d)) : wp_X6_hashTunnels v d Q := by
  have hlen := hf.1.2
  have hsz := h.parts.2.2.1
  unfold wp_X6_hashTunnels wp_X6_hashTunnels_14
  refine ⟨fun y3 y5 => ∃ k, y5 = nI k ∧ k ≤ T.length ∧ y3 = dgU T k d, fun _ y5 => 1000 - y5.toNatClampNeg, ⟨0, rfl, by omega, rfl⟩, ?_⟩
  rintro _ _ ⟨k, rfl, hk, rfl⟩
  unfold wb_X6_hashTunnels_14
  rw [hsz]
  simp (disch := omega) only [nI_leI]
  refine ⟨fun e => ?_, fun e => ?_⟩
  · have : k = T.length := by omega
    subst this
    exact hq
  have hk2 : k < T.length := by omega
  have hrow := hf.2 _ (row_mem hk2)
  have hrl := row_fit hf.1 hk2
  unfold wp_X6_hashTunnels_27
  refine ⟨fun y3 y6 => ∃ x, y6 = nI x ∧ x ≤ 3 ∧ y3 = dg (fun x => numT (row T k) (nI x)) x (dgU T k d), fun _ y6 => 100 - y6.toNatClampNeg, ⟨0, rfl, by omega, rfl⟩, ?_⟩
  rintro _ _ ⟨x, rfl, hx, rfl⟩
  unfold wb_X6_hashTunnels_27
  simp (disch := omega) only [nI_lit, nI_ltI, nI_add, nI_clamp]
  refine ⟨fun e2 => C_X3_number h hf.1 hk2 hrow.1 ?_, fun e2 => C_X3_number h hf.1 hk2 hrow.1 ⟨⟨x + 1, rfl, by omega, rfl⟩, by omega⟩⟩
  have : x = 3 := by omega
  subst this
  rw [show numT (row T k) (nI 2) = nI (row T k).length from rfl]
  unfold wp_X6_hashTunnels_69
  refine ⟨fun y3 y8 => ∃ j, y8 = nI j ∧ j ≤ (row T k).length ∧ y3 = dg (fun x => atI (row T k) (nI x)) j (dg (fun x => numT (row T k) (nI x)) 3 (dgU T k d)), fun _ y8 => 2000 - y8.toNatClampNeg, ⟨0, rfl, by omega, rfl⟩, ?_⟩
  rintro _ _ ⟨j, rfl, hj, rfl⟩
  unfold wb_X6_hashTunnels_69
  simp (disch := omega) only [nI_lit, nI_leI, nI_add, nI_clamp]
  refine ⟨fun e3 => ?_, fun e3 => C_X3_at h hf.1 hk2 ⟨⟨j + 1, rfl, by omega, rfl⟩, by omega⟩⟩
  have : j = (row T k).length := by omega
  subst this
  exact ⟨⟨k + 1, rfl, by omega, rfl⟩, by omega⟩
def lowN (p : Nat → Bool) : Nat → Option Nat
  | 0 => none
  | n + 1 => match lowN p n with
    | some s => some s
    | none => if p n then some n else none
theorem low_none {p : Nat → Bool} : ∀ n, (∀ t, t < n → p t = false) → lowN p n = none
  | 0, _ => rfl
  | n + 1, h => by
    unfold lowN
    rw [low_none n (fun t ht => h t (by omega)), h n (by omega)]
    rfl
theorem low_some {p : Nat → Bool} {s : Nat} (hp : p s = true) (h : ∀ j, j < s → p j = false) : ∀ n, s < n → lowN p n = some s
  | 0, hn => by omega
  | n + 1, hn => by
    unfold lowN
    by_cases e : n = s
    · subst e
      rw [low_none n h, hp]; rfl
    · rw [low_some hp h n (by omega)]
noncomputable def dgW (a : Lw) (s : Nat) : Nat → Int64 → Int64
  | 0, h => h
  | n + 1, h => if lMn a n then (31 * dgW a s n h) + (cD (dist (lTu a) s true n)).toInt64 else dgW a s n h
noncomputable def dgP (a : Lw) (k : Nat) (d : Int64) : Int64 := match lowN (lMn a) k with
  | none => d
  | some s => dgW a s k d
theorem C_hashPaths {v : V_X6} {a : Lw} (h : CLawn (X6_lawn v) a) (hf : fitTu (lTu a)) {d : Int64} {Q : Int64 → V_X2 → Prop} (hq : ∀ P, Q (dgP a 64 d) P) : wp_X6_hashPaths v d Q := by
  unfold wp_X6_hashPaths
  refine C_X0_lowestMound h (fun hno => ?_) (fun s hs hm hlow => ?_)
  · have : dgP a 64 d = d := by unfold dgP; rw [low_none 64 hno]
    rw [this] at hq
    exact ⟨fun _ => hq _, fun q => absurd rfl q⟩
  · have e : dgP a 64 d = dgW a s 64 d := by unfold dgP; rw [low_some hm hlow 64 hs]
    rw [e] at hq
    simp (disch := omega) only [nN_eq, nI_lit, nN_ne]
    refine ⟨fun q => q.elim, fun _ => C_measure h hf hs (fun z hz _ => ?_)⟩
    rw [hm] at hz
    unfold wp_X6_hashPaths_35
    refine ⟨fun y3 y5 => ∃ k, y5 = nI k ∧ k ≤ 64 ∧ y3 = dgW a s k d, fun _ y5 => 100 - y5.toNatClampNeg, ⟨0, rfl, by omega, rfl⟩, ?_⟩
    rintro _ _ ⟨k, rfl, hk, rfl⟩
    unfold wb_X6_hashPaths_35
    simp (disch := omega) only [nI_lit, nI_leI, nI_add, nI_clamp, nI_inI]
    refine ⟨fun e => ?_, fun e => ⟨by omega, ?_⟩⟩
    · have : k = 64 := by omega
      subst this
      exact hq _
    · have st : dgW a s (k + 1) d = if lMn a k then (31 * dgW a s k d) + (cD (dist (lTu a) s true k)).toInt64 else dgW a s k d := rfl
      rw [h.1 k (by omega), bI_0]
      refine ⟨fun e2 => ⟨⟨k + 1, rfl, by omega, by rw [st, e2]; rfl⟩, by omega⟩, fun e2 => ⟨⟨k + 1, rfl, by omega, ?_⟩, by omega⟩⟩
      rw [st, if_pos (by simpa using e2), ← hz k (by omega)]
