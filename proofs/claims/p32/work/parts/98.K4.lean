/-! The reference's digest of a lawn. -/
theorem M_digestLawn {v : V_X7} {a : Lw} {n : Nat} (h : MLawn (X7_s v) a) (g : Good n a) (hn : n ≤ 512) {Q : Int64 → (Nat → Int32) → (Nat → Int32) → Prop} (hq : ∀ zh zu, Q (dgU (lTu a) (lTu a).length (dgM (lMo a) (lMo a).length (dgT a 64 (X7_digested v)))) zh zu) : wp_X7_digestLawn v Q := by
  have hft := g.1.fit hn
  have hf := hft.1
  have h4 := hft.2.1.1
  have hlen := hf.1.2
  unfold wp_X7_digestLawn wp_X7_digestLawn_2
  refine ⟨fun y1 d _ _ => ∃ k, y1 = nI k ∧ k ≤ 64 ∧ d = dgT a k (X7_digested v), fun y1 _ _ _ => 100 - y1.toNatClampNeg, ⟨0, rfl, by omega, rfl⟩, ?_⟩
  rintro _ _ zh zu ⟨k, rfl, hk, rfl⟩
  unfold wb_X7_digestLawn_2
  simp (disch := omega) only [nI_lit, nI_leI]
  refine ⟨fun e => ?_, fun e => ?_⟩
  rotate_left
  · unfold wp_X7_digestLawn_10
    refine ⟨fun y2 d _ _ => ∃ x, y2 = nI x ∧ x ≤ 9 ∧ d = dg (fun x => numU a k (nI x)) x (dgT a k (X7_digested v)), fun y2 _ _ _ => 100 - y2.toNatClampNeg, ⟨0, rfl, by omega, rfl⟩, ?_⟩
    rintro _ _ zh2 zu2 ⟨x, rfl, hx, rfl⟩
    unfold wb_X7_digestLawn_10
    simp (disch := omega) only [nI_lit, nI_leI, nI_add, nI_clamp]
    refine ⟨fun e2 => ?_, fun e2 => M_toldOfTuft (v := (X7_s v, X7_aside v, X7_kept v, X7_isKept v, X7_saved v, X7_savedMany v, X7_text v, X7_length v, X7_thrown v, X7_joint v, X7_position v, X7_isWrong v, zh2, zu2, X7_away v, dg (fun x => numU a k (nI x)) x (dgT a k (X7_digested v)))) h g hn (by omega) (fun zh3 zu3 => ⟨⟨x + 1, rfl, by omega, rfl⟩, by omega⟩)⟩
    have : x = 9 := by omega
    subst this
    exact ⟨⟨k + 1, rfl, by omega, rfl⟩, by omega⟩
  have : k = 64 := by omega
  subst this
  unfold wp_X7_digestLawn_41
  refine ⟨fun y1 d => ∃ k, y1 = nI k ∧ k ≤ (lMo a).length ∧ d = dgM (lMo a) k (dgT a 64 (X7_digested v)), fun y1 _ => 100 - y1.toNatClampNeg, ⟨0, rfl, by omega, rfl⟩, ?_⟩
  rintro _ _ ⟨k, rfl, hk, rfl⟩
  unfold wb_X7_digestLawn_41
  simp (disch := omega) only [nI_lit, nI_clamp, nI_inI]
  rw [h.2.2.1]
  simp (disch := omega) only [nI_leI]
  refine ⟨by omega, fun e => ?_, fun e => ?_⟩
  rotate_left
  · unfold wp_X7_digestLawn_53
    refine ⟨fun y2 d => ∃ x, y2 = nI x ∧ x ≤ 7 ∧ d = dg (fun x => numM (mlA (lMo a) k) (nI x)) x (dgM (lMo a) k (dgT a 64 (X7_digested v))), fun y2 _ => 100 - y2.toNatClampNeg, ⟨0, rfl, by omega, rfl⟩, ?_⟩
    rintro _ _ ⟨x, rfl, hx, rfl⟩
    unfold wb_X7_digestLawn_53
    simp (disch := omega) only [nI_lit, nI_leI, nI_add, nI_clamp]
    refine ⟨fun e2 => ?_, fun e2 => M_toldOfMole (v := (X7_s v, X7_aside v, X7_kept v, X7_isKept v, X7_saved v, X7_savedMany v, X7_text v, X7_length v, X7_thrown v, X7_joint v, X7_position v, X7_isWrong v, zh, zu, X7_away v, dg (fun x => numM (mlA (lMo a) k) (nI x)) x (dgM (lMo a) k (dgT a 64 (X7_digested v))))) h.2.2 hft.2.1 (by omega) (by omega) ⟨⟨x + 1, rfl, by omega, rfl⟩, by omega⟩⟩
    have : x = 7 := by omega
    subst this
    exact ⟨⟨k + 1, rfl, by omega, rfl⟩, by omega⟩
  have : k = (lMo a).length := by omega
  subst this
  generalize hd0 : dgM (lMo a) (lMo a).length (dgT a 64 (X7_digested v)) = d0 at hq
  unfold wp_X7_digestLawn_84
  refine ⟨fun y1 d => ∃ k, y1 = nI k ∧ k ≤ (lTu a).length ∧ d = dgU (lTu a) k d0, fun y1 _ => 1000 - y1.toNatClampNeg, ⟨0, rfl, by omega, rfl⟩, ?_⟩
  rintro _ _ ⟨k, rfl, hk, rfl⟩
  unfold wb_X7_digestLawn_84
  refine M_tunnels (v := (X7_s v, X7_aside v, X7_kept v, X7_isKept v, X7_saved v, X7_savedMany v, X7_text v, X7_length v, X7_thrown v, X7_joint v, X7_position v, X7_isWrong v, zh, zu, X7_away v, dgU (lTu a) k d0)) h.2.1 hf.2 hf.1 ?_
  simp (disch := omega) only [nI_leI]
  refine ⟨fun e => ?_, fun e => ?_⟩
  · have : k = (lTu a).length := by omega
    subst this
    exact hq _ _
  have hk2 : k < (lTu a).length := by omega
  have hrl := row_fit hf.1 hk2
  unfold wp_X7_digestLawn_94
  refine ⟨fun y2 d => ∃ x, y2 = nI x ∧ x ≤ 3 ∧ d = dg (fun x => numT (row (lTu a) k) (nI x)) x (dgU (lTu a) k d0), fun y2 _ => 100 - y2.toNatClampNeg, ⟨0, rfl, by omega, rfl⟩, ?_⟩
  rintro _ _ ⟨x, rfl, hx, rfl⟩
  unfold wb_X7_digestLawn_94
  simp (disch := omega) only [nI_lit, nI_leI, nI_add, nI_clamp]
  refine ⟨fun e2 => ?_, fun e2 => M_toldOfTunnel (v := (X7_s v, X7_aside v, X7_kept v, X7_isKept v, X7_saved v, X7_savedMany v, X7_text v, X7_length v, X7_thrown v, X7_joint v, X7_position v, X7_isWrong v, zh, zu, X7_away v, dg (fun x => numT (row (lTu a) k) (nI x)) x (dgU (lTu a) k d0))) h.2.1 hf hk2 ⟨⟨x + 1, rfl, by omega, rfl⟩, by omega⟩⟩
  have : x = 3 := by omega
  subst this
  unfold wp_X7_digestLawn_118
  refine ⟨fun y2 d => ∃ j, y2 = nI j ∧ j ≤ (row (lTu a) k).length ∧ d = dg (fun x => atI (row (lTu a) k) (nI x)) j (dg (fun x => numT (row (lTu a) k) (nI x)) 3 (dgU (lTu a) k d0)), fun y2 _ => 2000 - y2.toNatClampNeg, ⟨0, rfl, by omega, rfl⟩, ?_⟩
  rintro _ _ ⟨j, rfl, hj, rfl⟩
  unfold wb_X7_digestLawn_118
  refine M_toldOfTunnel (v := (X7_s v, X7_aside v, X7_kept v, X7_isKept v, X7_saved v, X7_savedMany v, X7_text v, X7_length v, X7_thrown v, X7_joint v, X7_position v, X7_isWrong v, zh, zu, X7_away v, _)) h.2.1 hf hk2 ?_
  rw [show numT (row (lTu a) k) 2 = nI (row (lTu a) k).length from rfl]
  simp (disch := omega) only [nI_lit, nI_leI, nI_add, nI_clamp]
  refine ⟨fun e3 => ?_, fun e3 => M_cellOf (v := (X7_s v, X7_aside v, X7_kept v, X7_isKept v, X7_saved v, X7_savedMany v, X7_text v, X7_length v, X7_thrown v, X7_joint v, X7_position v, X7_isWrong v, zh, zu, X7_away v, dg (fun x => atI (row (lTu a) k) (nI x)) j (dg (fun x => numT (row (lTu a) k) (nI x)) 3 (dgU (lTu a) k d0)))) h.2.1 hf hk2 (by simp (disch := omega) only [nI_leI]; omega) ⟨⟨j + 1, rfl, by omega, rfl⟩, by omega⟩⟩
  have : j = (row (lTu a) k).length := by omega
  subst this
  exact ⟨⟨k + 1, rfl, by omega, rfl⟩, by omega⟩
