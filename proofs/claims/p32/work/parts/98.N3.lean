/-! What the law's changes answer. -/
theorem pk_and3 (x : Int32) : ∃ j : Nat, j < 4 ∧ x &&& 3 = nI j := pk_andE x (m := 3) 2 (by decide)
set_option maxHeartbeats 2000000 in
theorem L_change {v : V_X6} {w : Wd} {k : Nat} (h : CW v w) (g : IW k w) (hk : k + 4 ≤ 512) {x y : Int32} {Q : Int32 → V_X6 → Prop} (hq : ∀ v' w', CW v' w' → IW (k + 4) w' → Q 1 v') : wp_L_change v x y Q := by
  obtain ⟨n, hn, gc⟩ := g.cur
  have b4 := gc.1.1
  have same : ∀ {v'}, CW v' w → Q 1 v' := fun h' => hq _ _ h' (g.up (by omega))
  unfold wp_L_change
  refine O_count h g 1 (by decide) rfl (fun v1 h1 => ?_)
  rw [numC_1]
  have main : ∀ d, 0 < d → d ≤ 4 → ((lMo (wCur w)).length ≠ 0 → d = (lMo (wCur w)).length) → wp_L_change_16 v x y (nI (lMo (wCur w)).length) v1 (nI d) y Q := by
    intro d d0 d4 dl
    have bd := lowF_lt y d0
    have mlt : ¬ nI (lMo (wCur w)).length = 0 → lowF y d < (lMo (wCur w)).length := fun e => by
      have := dl (fun q => e (by rw [q]; rfl))
      omega
    have plans : ∀ (c : Nat) (v0 : V_X6), CW v0 w → c ≤ 20 → (c < 20 → lowF y d < (lMo (wCur w)).length ∧ (mPl (mlA (lMo (wCur w)) (lowF y d))).length = c) → wp_L_change_216 v x y (nI (lowF y d)) (nI c) 0 v0 Q := by
      intro c v0 h0 hc hcl
      unfold wp_L_change_216
      refine ⟨fun s0 s1 z => ∃ (c j : Nat) (w' : Wd), s0 = nI c ∧ s1 = nI j ∧ j ≤ 4 ∧ c ≤ 20 ∧ CW z w' ∧ IW (k + j) w' ∧ (c < 20 → lowF y d < (lMo (wCur w')).length ∧ (mPl (mlA (lMo (wCur w')) (lowF y d))).length = c), fun _ s1 _ => 10 - s1.toNatClampNeg, ⟨c, 0, w, rfl, rfl, by omega, hc, h0, g, hcl⟩, ?_⟩
      rintro _ _ z ⟨c, j, w', rfl, rfl, hj, hc, hz, gz, hcl⟩
      unfold wb_L_change_216
      refine ⟨fun _ => hq _ _ hz (gz.up (by omega)), fun e4 => ⟨fun _ => hq _ _ hz (gz.up (by omega)), fun e20 => ?_⟩⟩
      have j4 : j < 4 := by
        apply Classical.byContradiction
        intro q
        exact e4 ((nI_leI (a := 4) (b := j) (by omega) (by omega)).mpr (by omega))
      have c20 : c < 20 := by
        apply Classical.byContradiction
        intro q
        exact e20 ((nI_leI (a := 20) (b := c) (by omega) (by omega)).mpr (by omega))
      obtain ⟨z1, z2⟩ := hcl c20
      obtain ⟨dd, hdd, ed⟩ := pk_and3 (y >>> ((6 + (2 * nI j)) &&& 31))
      refine O_plan hz gz (by omega) z1 hdd (by omega) rfl ed (fun v2 h2 g2 => ?_)
      rw [z2]
      refine ⟨fun _ => ?_, fun q => absurd (by rw [← nI_add]; rfl) q⟩
      refine ⟨⟨c + 1, j + 1, _, by rw [← nI_add]; rfl, by rw [← nI_add]; rfl, by omega, by omega, h2, g2, fun _ => ⟨?_, ?_⟩⟩, ?_⟩
      · show _ < ((lMo (wCur w')).set _ _).length
        rw [List.length_set]; exact z1
      · exact (addDir_at z1).trans (by rw [z2])
      · show 10 - (nI j + nI 1).toNatClampNeg < 10 - (nI j).toNatClampNeg
        rw [nI_add, nI_clamp (by omega), nI_clamp (by omega)]; omega
    unfold wp_L_change_16
    refine L_low d0 (by omega) ?_
    refine L_low (n := 64) (by decide) (by decide) ?_
    refine L_low (n := 4) (by decide) (by decide) ?_
    refine L_low (n := 4) (by decide) (by decide) ?_
    refine L_low (n := 16) (by decide) (by decide) ?_
    have bA := lowF_lt (y >>> (2 &&& 31)) (n := 4) (by decide)
    have bB := lowF_lt (y >>> (5 &&& 31)) (n := 4) (by decide)
    generalize lowF (y >>> (2 &&& 31)) 4 = A at bA ⊢
    generalize lowF (y >>> (5 &&& 31)) 4 = B at bB ⊢
    have nr : 8 * (2 + A) + 2 + B < 64 := by omega
    have en : (((8 * (2 + nI A)) + 2) + nI B : Int32) = nI (8 * (2 + A) + 2 + B) := by
      simp only [nI_lit, nI_add, pk_mul]
    refine ⟨fun _ => ?_, fun _ => ?_⟩
    · refine ⟨fun _ => same h1, fun e4 => ?_⟩
      refine O_tuft h1 g 1 nr (by decide) en rfl (fun v2 h2 => ?_)
      rw [numU_1]
      refine ⟨fun _ => same h2, fun er => ?_⟩
      have hr : lRt (wCur w) (8 * (2 + A) + 2 + B) ≤ nI 0 := Int32.not_lt.mp er
      have hl : (lMo (wCur w)).length < 4 := by
        have : (lMo (wCur w)).length ≠ 4 := fun q => e4 (by rw [q]; rfl)
        omega
      refine O_mole h2 g (by omega) nr en hl hr (fun v3 h3 g3 => ?_)
      refine ⟨fun _ => ?_, fun q => absurd rfl q⟩
      have wl : (lMo (wCur (next w (welcome (wCur w) (8 * (2 + A) + 2 + B))))).length = (lMo (wCur w)).length + 1 := welcome_len _ _
      have wa : mlA (lMo (wCur (next w (welcome (wCur w) (8 * (2 + A) + 2 + B))))) (lMo (wCur w)).length = ([], [8 * (2 + A) + 2 + B], lAi (wCur w), 0) := welcome_at _ _
      refine O_moleOf h3 g3 (i := (lMo (wCur w)).length) 0 (by omega) (by decide) rfl rfl ?_
      rw [numM_0, wa]
      refine ⟨fun _ => ?_, fun q => absurd en.symm q⟩
      refine O_moleOf h3 g3 (i := (lMo (wCur w)).length) 5 (by omega) (by decide) rfl rfl ?_
      rw [numM_5, wa]
      refine ⟨fun _ => ?_, fun q => absurd rfl q⟩
      refine O_tuft h3 g3 0 nr (by decide) en rfl (fun v4 h4 => ?_)
      rw [numU_0, show lMn (wCur (next w (welcome (wCur w) (8 * (2 + A) + 2 + B)))) (8 * (2 + A) + 2 + B) = true from ensure_mn _ _]
      exact ⟨fun _ => hq _ _ h4 (g3.up (by omega)), fun q => absurd rfl q⟩
    · skip
      refine ⟨fun _ => ?_, fun _ => ?_⟩
      · refine ⟨fun _ => same h1, fun e4 => ?_⟩
        refine O_tuft h1 g 1 nr (by decide) en rfl (fun v2 h2 => ?_)
        rw [numU_1]
        refine ⟨fun _ => same h2, fun er => ?_⟩
        have hr : lRt (wCur w) (8 * (2 + A) + 2 + B) ≤ nI 0 := Int32.not_lt.mp er
        have hl : (lMo (wCur w)).length < 4 := by
          have : (lMo (wCur w)).length ≠ 4 := fun q => e4 (by rw [q]; rfl)
          omega
        refine O_mole h2 g (by omega) nr en hl hr (fun v3 h3 g3 => ?_)
        refine ⟨fun _ => ?_, fun q => absurd rfl q⟩
        have wl : (lMo (wCur (next w (welcome (wCur w) (8 * (2 + A) + 2 + B))))).length = (lMo (wCur w)).length + 1 := welcome_len _ _
        have wa : mlA (lMo (wCur (next w (welcome (wCur w) (8 * (2 + A) + 2 + B))))) (lMo (wCur w)).length = ([], [8 * (2 + A) + 2 + B], lAi (wCur w), 0) := welcome_at _ _
        refine O_moleOf h3 g3 (i := (lMo (wCur w)).length) 0 (by omega) (by decide) rfl rfl ?_
        rw [numM_0, wa]
        refine ⟨fun _ => ?_, fun q => absurd en.symm q⟩
        refine O_moleOf h3 g3 (i := (lMo (wCur w)).length) 5 (by omega) (by decide) rfl rfl ?_
        rw [numM_5, wa]
        refine ⟨fun _ => ?_, fun q => absurd rfl q⟩
        refine O_tuft h3 g3 0 nr (by decide) en rfl (fun v4 h4 => ?_)
        rw [numU_0, show lMn (wCur (next w (welcome (wCur w) (8 * (2 + A) + 2 + B)))) (8 * (2 + A) + 2 + B) = true from ensure_mn _ _]
        exact ⟨fun _ => hq _ _ h4 (g3.up (by omega)), fun q => absurd rfl q⟩
      · skip
        refine ⟨fun _ => ?_, fun _ => ?_⟩
        · refine ⟨fun _ => plans 20 _ h1 (by omega) (fun z => absurd z (by omega)), fun e0 => ?_⟩
          have hm := mlt e0
          refine O_moleOf h1 g (i := lowF y d) 2 hm (by decide) rfl rfl ?_
          rw [numM_2]
          exact plans _ _ h1 (gc.1.2.1 _ (mlA_mem hm)).1 (fun _ => ⟨hm, rfl⟩)
        · skip
          refine ⟨fun _ => ?_, fun _ => ?_⟩
          · refine ⟨fun _ => plans 20 _ h1 (by omega) (fun z => absurd z (by omega)), fun e0 => ?_⟩
            have hm := mlt e0
            refine O_moleOf h1 g (i := lowF y d) 2 hm (by decide) rfl rfl ?_
            rw [numM_2]
            exact plans _ _ h1 (gc.1.2.1 _ (mlA_mem hm)).1 (fun _ => ⟨hm, rfl⟩)
          · skip
            refine ⟨fun _ => ?_, fun _ => ?_⟩
            · refine ⟨fun _ => plans 20 _ h1 (by omega) (fun z => absurd z (by omega)), fun e0 => ?_⟩
              have hm := mlt e0
              refine O_moleOf h1 g (i := lowF y d) 2 hm (by decide) rfl rfl ?_
              rw [numM_2]
              exact plans _ _ h1 (gc.1.2.1 _ (mlA_mem hm)).1 (fun _ => ⟨hm, rfl⟩)
            · skip
              refine ⟨fun _ => ?_, fun _ => ?_⟩
              · refine ⟨fun _ => plans 20 _ h1 (by omega) (fun z => absurd z (by omega)), fun e0 => ?_⟩
                have hm := mlt e0
                refine O_moleOf h1 g (i := lowF y d) 2 hm (by decide) rfl rfl ?_
                rw [numM_2]
                exact plans _ _ h1 (gc.1.2.1 _ (mlA_mem hm)).1 (fun _ => ⟨hm, rfl⟩)
              · skip
                refine ⟨fun _ => ?_, fun _ => ?_⟩
                · refine ⟨fun _ => plans 20 _ h1 (by omega) (fun z => absurd z (by omega)), fun e0 => ?_⟩
                  have hm := mlt e0
                  refine O_moleOf h1 g (i := lowF y d) 2 hm (by decide) rfl rfl ?_
                  rw [numM_2]
                  exact plans _ _ h1 (gc.1.2.1 _ (mlA_mem hm)).1 (fun _ => ⟨hm, rfl⟩)
                · skip
                  refine ⟨fun _ => ?_, fun _ => ?_⟩
                  · have body : ∀ q : Nat, ((lMo (wCur w)).length ≠ 0 → q = (mPl (mlA (lMo (wCur w)) (lowF y d))).length) → wp_L_change_279 v x y (nI (lMo (wCur w)).length) (nI (lowF y d)) v1 (nI q) Q := by
                      intro q hq9
                      unfold wp_L_change_279
                      refine ⟨fun _ => same h1, fun e0 => ⟨fun _ => ?_, fun _ => same h1⟩⟩
                      have hm := mlt e0
                      refine O_rest h1 g (by omega) hm rfl (fun v2 h2 g2 => ?_)
                      refine ⟨fun _ => hq _ _ h2 (g2.up (by omega)), fun z => absurd (by rw [hq9 (fun q => e0 (by rw [q]; rfl))]) z⟩
                    refine ⟨fun e0 => body 0 (fun z => absurd ((nI_eq (b := 0) (by omega) (by omega)).mp e0) z), fun e0 => ?_⟩
                    have hm := mlt e0
                    refine O_moleOf h1 g (i := lowF y d) 2 hm (by decide) rfl rfl ?_
                    rw [numM_2]
                    exact body _ (fun _ => rfl)
                  · skip
                    refine ⟨fun _ => ?_, fun _ => ?_⟩
                    · refine O_tuft h1 g 1 nr (by decide) en rfl (fun v2 h2 => ?_)
                      rw [numU_1]
                      refine L_low (n := 10) (by decide) (by decide) ?_
                      have b10 := lowF_lt (y >>> (8 &&& 31)) (n := 10) (by decide)
                      refine O_root h2 g (by omega) nr (by omega) en rfl (fun v3 h3 g3 => ?_)
                      refine ⟨fun _ => ?_, fun q => absurd rfl q⟩
                      refine O_tuft h3 g3 1 nr (by decide) en rfl (fun v4 h4 => ?_)
                      rw [numU_1, show lRt (wCur (next w (rootA (wCur w) (8 * (2 + A) + 2 + B) (nI (lowF (y >>> (8 &&& 31)) 10))))) (8 * (2 + A) + 2 + B) = nI (lowF (y >>> (8 &&& 31)) 10) from upd_s _ _ _]
                      refine L_low (n := 10) (by decide) (by decide) ?_
                      exact ⟨fun _ => hq _ _ h4 (g3.up (by omega)), fun q => absurd rfl q⟩
                    · skip
                      refine ⟨fun _ => ?_, fun _ => ?_⟩
                      · refine O_count h1 g 7 (by decide) rfl (fun v2 h2 => ?_)
                        rw [numC_7]
                        refine O_tuft h2 g 2 nr (by decide) en rfl (fun v3 h3 => ?_)
                        rw [numU_2]
                        refine ⟨fun e1 => ?_, fun _ => same h3⟩
                        refine L_low (n := 21) (by decide) (by decide) ?_
                        have b21 := lowF_lt (y >>> (8 &&& 31)) (n := 21) (by decide)
                        refine O_trap h3 g (by omega) nr (by omega) e1 en rfl (fun v4 h4 g4 => ?_)
                        refine ⟨fun _ => hq _ _ h4 (g4.up (by omega)), fun q => absurd ?_ q⟩
                        rw [trap_more nr (by omega) e1, ← nI_add]; rfl
                      · skip
                        refine ⟨fun _ => ?_, fun _ => ?_⟩
                        · refine ⟨fun _ => ?_, fun _ => ?_⟩
                          · unfold wp_L_change_424
                            exact L_digs h1 g (by omega) nr en (fun v' w' h' g' => ⟨Or.inr rfl, hq _ _ h' (g'.up (by omega))⟩)
                          · unfold wp_L_change_424
                            exact L_digs h1 g (by omega) (lowF_lt _ (by decide)) rfl (fun v' w' h' g' => ⟨Or.inr rfl, hq _ _ h' (g'.up (by omega))⟩)
                        · skip
                          refine ⟨fun _ => ?_, fun _ => ?_⟩
                          · exact L_rakes h1 g (by omega) nr en (fun v' w' h' g' => ⟨Or.inr rfl, hq _ _ h' (g'.up (by omega))⟩)
                          · skip
                            refine ⟨fun _ => ?_, fun _ => ?_⟩
                            · refine O_count h1 g 13 (by decide) rfl (fun v2 h2 => ?_)
                              rw [numC_13]
                              refine L_low (n := 10) (by decide) (by decide) ?_
                              have b10 := lowF_lt y (n := 10) (by decide)
                              refine O_set h2 g (by omega) (y := 2 + lowF y 10) (by omega) (by omega) (by rw [← nI_add]; rfl) (fun v3 h3 g3 => ?_)
                              exact ⟨fun _ => hq _ _ h3 (g3.up (by omega)), fun q => absurd rfl q⟩
                            · skip
                              refine O_count h1 g 10 (by decide) rfl (fun v2 h2 => ?_)
                              rw [numC_10]
                              refine L_low (n := 6) (by decide) (by decide) ?_
                              have b6 := lowF_lt y (n := 6) (by decide)
                              refine O_pass h2 g (by omega) (b := 1 + lowF y 6) (by omega) (by omega) (by rw [← nI_add]; rfl) (fun v3 h3 g3 => ?_)
                              refine O_count h3 g3 10 (by decide) rfl (fun v4 h4 => ?_)
                              rw [numC_10]
                              exact ⟨fun _ => hq _ _ h4 (g3.up (by omega)), fun q => absurd (i_add_sub _ _).symm q⟩
  refine ⟨fun e => main 1 (by omega) (by omega) (fun z => absurd ((nI_eq (b := 0) (by omega) (by omega)).mp e) z), fun e => main _ ?_ b4 (fun _ => rfl)⟩
  have : (lMo (wCur w)).length ≠ 0 := fun q => e (by rw [q]; rfl)
  omega
