/-! What the law finds in one tunnel, one mole, four tufts. -/
theorem L_looks {v : V_X6} {w : Wd} {k : Nat} (h : CW v w) (g : IW k w) {p : Int32} {t : Nat} (ht : t < 64) (ep : p = nI t) {Q : Int32 → V_X6 → Prop} (hq : ∀ v', CW v' w → Q 1 v') : wp_L_looks v p Q := by
  obtain ⟨n, hn, gc⟩ := g.cur
  subst ep
  have b4 := gc.1.1
  have bT := (gc.1.fit hn).1.1.2
  have c64 := cnt_le (fun t => hol (wCur w) t) 64
  have m64 := cnt_le (fun t => lMn (wCur w) t) 64
  have gl := grp_le (wCur w)
  have plus : ∀ j : Nat, (nI j + 1 : Int32) = nI (j + 1) := fun j => by rw [← nI_add]; rfl
  have e144 : ∀ (z : V_X6) (f : Nat → Int32), CW z w → wp_L_looks_144 v (nI t) (nI (lTu (wCur w)).length) 1 z f Q := by
    intro z f hz
    unfold wp_L_looks_144
    refine ⟨fun q => absurd q (by decide), fun _ => ?_⟩
    refine O_hollowShare hz g (fun v1 h1 => ?_)
    refine O_count h1 g 5 (by decide) rfl (fun v2 h2 => ?_)
    rw [numC_5]
    refine ⟨share_fin ⟨_, Nat.lt_succ_of_le c64⟩, fun _ => ?_, fun q => absurd (share_eq ⟨_, Nat.lt_succ_of_le c64⟩) q⟩
    refine O_count h2 g 12 (by decide) rfl (fun v3 h3 => ?_)
    rw [numC_12]
    refine O_count h3 g 3 (by decide) rfl (fun v4 h4 => ?_)
    rw [numC_3]
    refine ⟨fun q => absurd ((nI_ltI (by omega) (by omega)).mp q) (by omega), fun _ => ?_⟩
    have e209 : ∀ (b : Int32) (z : V_X6), CW z w → wp_L_looks_209 v (nI t) z f b b Q := fun b z hz => by
      unfold wp_L_looks_209
      exact ⟨fun _ => hq _ hz, fun q => absurd rfl q⟩
    by_cases c : lTu (wCur w) = []
    · refine ⟨fun _ => ?_, fun q => absurd (by rw [c]; rfl) q⟩
      unfold wp_L_looks_190
      refine O_count h4 g 12 (by decide) rfl (fun v5 h5 => ?_)
      rw [numC_12]
      refine O_count h5 g 3 (by decide) rfl (fun v6 h6 => ?_)
      rw [numC_3]
      exact ⟨fun _ => e209 1 _ h6, fun q => absurd (by rw [grp_none gc hn c]) q⟩
    · have c0 := row0 c
      have gs := grp_some gc hn c
      refine ⟨fun q => absurd ((nI_eq (b := 0) (by omega) (by omega)).mp q) (by omega), fun _ => ?_⟩
      unfold wp_L_looks_190
      refine O_count h4 g 12 (by decide) rfl (fun v5 h5 => ?_)
      rw [numC_12]
      refine O_count h5 g 3 (by decide) rfl (fun v6 h6 => ?_)
      rw [numC_3]
      exact ⟨fun q => absurd ((nI_eq (by omega) (by omega)).mp q) (by omega), fun _ => e209 0 _ h6⟩
  have e50 : ∀ (z : V_X6) (f : Nat → Int32), CW z w → wp_L_looks_50 v (nI t) (nI (lTu (wCur w)).length) z f Q := by
    intro z f hz
    unfold wp_L_looks_50 wp_L_looks_60
    refine ⟨fun y5 y6 z => ∃ j, y5 = nI 1 ∧ y6 = nI j ∧ j ≤ 4 ∧ CW z w, fun _ y6 _ => 100 - y6.toNatClampNeg, ⟨0, rfl, rfl, by omega, hz⟩, ?_⟩
    rintro _ _ z ⟨j, rfl, rfl, hj, hz⟩
    unfold wb_L_looks_60
    refine ⟨fun _ => e144 _ _ hz, fun e => ⟨fun q => absurd q (by decide), fun _ => ?_⟩⟩
    have hj : j < 4 := by
      apply Classical.byContradiction
      intro q
      exact e ((nI_leI (a := 4) (by omega) (by omega)).mpr (by omega))
    have ei : (((16 * nI j) + (5 * nI t)) - ((16 * nI j) + (5 * nI t)) / 64 * 64 : Int32) = nI ((16 * j + 5 * t) % 64) := by
      show ((nI 16 * nI j) + (nI 5 * nI t)) - ((nI 16 * nI j) + (nI 5 * nI t)) / nI 64 * nI 64 = _
      rw [pk_mul, pk_mul, nI_add, pk_rem (by omega) (by omega) (by omega)]
    rw [ei]
    have hu : (16 * j + 5 * t) % 64 < 64 := Nat.mod_lt _ (by omega)
    generalize (16 * j + 5 * t) % 64 = u at hu ⊢
    have step : ∀ z, CW z w → (∃ j', (1 : Int32) = nI 1 ∧ nI j + 1 = nI j' ∧ j' ≤ 4 ∧ CW z w) ∧ 100 - (nI j + 1).toNatClampNeg < 100 - (nI j).toNatClampNeg := by
      intro z hz
      rw [plus j]
      refine ⟨⟨j + 1, rfl, rfl, by omega, hz⟩, ?_⟩
      rw [nI_clamp (by omega), nI_clamp (by omega)]; omega
    refine O_tuft hz g 6 hu (by decide) rfl rfl (fun v1 h1 => ?_)
    rw [numU_6]
    have sf := sure_facts (a := wCur w) hu
    have so := sure_open (a := wCur w) hu
    refine ⟨fun e => ?_, fun e => ?_⟩
    · refine O_tuft h1 g 5 hu (by decide) rfl rfl (fun v2 h2 => ?_)
      rw [numU_5, so e]
      exact ⟨fun _ => step _ h2, fun q => absurd rfl q⟩
    · refine O_tuft h1 g 3 hu (by decide) rfl rfl (fun v2 h2 => ?_)
      rw [numU_3]
      exact ⟨fun _ => step _ h2, fun q => absurd (sf.1.resolve_left e) q⟩
  have e33 : ∀ (z : V_X6) (f : Nat → Int32), CW z w → mk (wCur w) f → wp_L_looks_33 v (nI t) (nI (lTu (wCur w)).length) (nI (lMo (wCur w)).length) z f Q := by
    intro z f hz hf
    unfold wp_L_looks_33
    refine ⟨fun _ => e50 _ _ hz, fun e => ⟨e, ?_⟩⟩
    have c0 : 0 < (lMo (wCur w)).length := by
      apply Classical.byContradiction
      intro q
      exact e (by rw [show (lMo (wCur w)).length = 0 by omega]; rfl)
    refine L_isMole hz g (Nat.mod_lt t c0) (pk_rem (by omega) c0 (by omega)) hf (fun v1 f1 h1 hf1 => ?_)
    exact ⟨fun q => absurd q (by decide), fun _ => e50 _ _ h1⟩
  unfold wp_L_looks
  refine O_count h g 4 (by decide) rfl (fun v1 h1 => ?_)
  rw [numC_4]
  refine O_count h1 g 1 (by decide) rfl (fun v2 h2 => ?_)
  rw [numC_1]
  refine ⟨fun _ => e33 _ _ h2 (mk_0 _), fun e => ⟨e, ?_⟩⟩
  have c0 : 0 < (lTu (wCur w)).length := by
    apply Classical.byContradiction
    intro q
    exact e (by rw [show (lTu (wCur w)).length = 0 by omega]; rfl)
  refine L_isTunnel h2 g (Nat.mod_lt t c0) (pk_rem (by omega) c0 (by omega)) (mk_0 _) (fun v3 f3 h3 hf3 => ?_)
  exact ⟨fun q => absurd q (by decide), fun _ => e33 _ _ h3 hf3⟩
