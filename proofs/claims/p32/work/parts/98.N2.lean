/-! What the law's changes answer: digging, raking. -/
theorem lits : (0 : Int32) = nI 0 ∧ (1 : Int32) = nI 1 := ⟨rfl, rfl⟩
theorem L_digs {v : V_X6} {w : Wd} {k : Nat} (h : CW v w) (g : IW k w) (hk : k < 512) {p : Int32} {t : Nat} (ht : t < 64) (ep : p = nI t) {Q : Int32 → V_X6 → Prop} (hq : ∀ v' w', CW v' w' → IW (k + 1) w' → Q 1 v') : wp_L_digs v p Q := by
  obtain ⟨n, hn, gc⟩ := g.cur
  subst ep
  have b1 : (lTu (wCur w)).length ≤ 512 := (gc.1.fit hn).1.1.2
  have b2 := gc.1.1
  have b3 := crN_len t (lTu (wCur w))
  unfold wp_L_digs
  refine O_count h g 4 (by decide) rfl (fun v1 h1 => ?_)
  rw [numC_4]
  refine O_count h1 g 1 (by decide) rfl (fun v2 h2 => ?_)
  rw [numC_1]
  refine O_ifDug h2 g 0 ht (by decide) rfl rfl (fun v3 h3 => ?_)
  rw [if_pos rfl, dug_fal]
  refine O_ifDug h3 g 1 ht (by decide) rfl rfl (fun v4 h4 => ?_)
  rw [if_neg (by decide), if_pos rfl]
  refine O_ifDug h4 g 2 ht (by decide) rfl rfl (fun v5 h5 => ?_)
  rw [if_neg (by decide), if_neg (by decide)]
  refine O_tuft h5 g 7 ht (by decide) rfl rfl (fun v6 h6 => ?_)
  rw [numU_7]
  refine ⟨fun _ => ?_, fun q => absurd rfl q⟩
  refine O_tuft h6 g 8 ht (by decide) rfl rfl (fun v7 h7 => ?_)
  rw [numU_8]
  refine ⟨fun _ => ?_, fun q => absurd (by rw [at_all]) q⟩
  refine O_dig h7 g hk ht rfl (fun v8 h8 g8 => ?_)
  refine ⟨fun _ => ?_, fun q => absurd rfl q⟩
  refine O_count h8 g8 1 (by decide) rfl (fun v9 h9 => ?_)
  rw [numC_1]
  have el : nI (lMo (dug (wCur w) t)).length = nI (lMo (wCur w)).length - nI ((lMo (wCur w)).length - ((lMo (wCur w)).filter (notAt t)).length) := by
    have := List.length_filter_le (notAt t) (lMo (wCur w))
    rw [pk_sub (by omega), dug_len]
    congr 1; omega
  refine ⟨fun _ => ?_, fun q => absurd el q⟩
  refine O_count h9 g8 5 (by decide) rfl (fun v10 h10 => ?_)
  rw [numC_5]
  refine ⟨fun _ => ?_, fun q => absurd rfl q⟩
  refine O_count h10 g8 4 (by decide) rfl (fun v11 h11 => ?_)
  rw [numC_4]
  have gd := dug_good (t := t) gc
  have b4 : (lTu (dug (wCur w) t)).length ≤ 512 := (gd.1.fit hn).1.1.2
  have b5 := dug_tlen (wCur w) t
  have nl : ¬ nI (lTu (wCur (next w (dug (wCur w) t)))).length < nI (lTu (wCur w)).length - nI (crN (lTu (wCur w)) t) := by
    rw [pk_sub (by omega)]
    show ¬ nI (lTu (dug (wCur w) t)).length < _
    rw [nI_ltI (by omega) (by omega)]
    omega
  refine ⟨fun q => absurd q nl, fun _ => ?_⟩
  have no := dug_no (t := t) gc
  have nh := no_hol no
  unfold wp_L_digs_109
  refine ⟨fun q => absurd q (by decide), fun _ => ?_⟩
  refine O_tuft h11 g8 0 ht (by decide) rfl rfl (fun v12 h12 => ?_)
  rw [numU_0, show lMn (wCur (next w (dug (wCur w) t))) t = false from no.1]
  refine ⟨fun _ => ?_, fun q => absurd rfl q⟩
  refine O_tuft h12 g8 1 ht (by decide) rfl rfl (fun v13 h13 => ?_)
  rw [numU_1, show lRt (wCur (next w (dug (wCur w) t))) t = nI 0 from dug_rt _ _]
  refine ⟨fun _ => ?_, fun q => absurd rfl q⟩
  refine O_tuft h13 g8 2 ht (by decide) rfl rfl (fun v14 h14 => ?_)
  rw [numU_2, show lTp (wCur (next w (dug (wCur w) t))) t = nN from dug_tp _ _]
  refine ⟨fun _ => ?_, fun q => absurd rfl q⟩
  refine O_tuft h14 g8 3 ht (by decide) rfl rfl (fun v15 h15 => ?_)
  rw [numU_3, show hol (wCur (next w (dug (wCur w) t))) t = false from nh]
  refine ⟨fun _ => ?_, fun q => absurd rfl q⟩
  refine O_tuft h15 g8 5 ht (by decide) rfl rfl (fun v16 h16 => ?_)
  rw [numU_5, show lOp (wCur (next w (dug (wCur w) t))) t = true from dug_op _ _]
  refine ⟨fun _ => ?_, fun q => absurd rfl q⟩
  refine O_tuft h16 g8 6 ht (by decide) rfl rfl (fun v17 h17 => ?_)
  rw [numU_6, show sureA (wCur (next w (dug (wCur w) t))) t = bI false from ((sure_facts ht).2 (dug_op _ _)).trans (congrArg bI nh)]
  exact ⟨fun _ => hq _ _ h17 g8, fun q => absurd rfl q⟩
theorem L_rakes {v : V_X6} {w : Wd} {k : Nat} (h : CW v w) (g : IW k w) (hk : k < 512) {p : Int32} {t : Nat} (ht : t < 64) (ep : p = nI t) {Q : Int32 → V_X6 → Prop} (hq : ∀ v' w', CW v' w' → IW (k + 1) w' → Q 1 v') : wp_L_rakes v p Q := by
  obtain ⟨n, hn, gc⟩ := g.cur
  have g2 := g.2.2.1
  subst ep
  have b1 : (lTu (wCur w)).length ≤ 512 := (gc.1.fit hn).1.1.2
  have b2 := gc.1.1
  have same : ∀ {v'}, CW v' w → Q 1 v' := fun h' => hq _ _ h' (g.up (by omega))
  have main : ∀ (b : Bool) (v0 : V_X6), CW v0 w → (b = true → lMn (wCur w) t = true) → wp_L_rakes_18 v (nI t) (bI b) 0 v0 Q := by
    intro b v0 h0 hb
    unfold wp_L_rakes_18
    refine ⟨fun c m z => ∃ (b : Bool) (j : Nat), c = bI b ∧ m = nI j ∧ j ≤ (lMo (wCur w)).length ∧ CW z w ∧ (b = true → lMn (wCur w) t = true ∧ ∀ i, i < j → at0 (mTr (mlA (lMo (wCur w)) i)) 0 ≠ t), fun _ m _ => 10 - m.toNatClampNeg, ⟨b, 0, rfl, rfl, by omega, h0, fun e => ⟨hb e, fun i hi => by omega⟩⟩, ?_⟩
    rintro _ _ z ⟨b, j, rfl, rfl, hj, hz, hbj⟩
    unfold wb_L_rakes_18
    refine O_count hz g 1 (by decide) rfl (fun v1 h1 => ?_)
    rw [numC_1]
    refine ⟨fun e => ⟨fun _ => same h1, fun eb => ?_⟩, fun e => ?_⟩
    · rw [nI_leI (by omega) (by omega)] at e
      have ej : j = (lMo (wCur w)).length := by omega
      have eb : b = true := by cases b with
        | true => rfl
        | false => exact absurd rfl eb
      obtain ⟨hm, hbeg⟩ := hbj eb
      have hbeg : ∀ m ∈ lMo (wCur w), at0 (mTr m) 0 ≠ t := fun m hm => by
        obtain ⟨i, hi, e⟩ := mem_ml hm
        rw [← e]; exact hbeg i (by omega)
      refine O_count h1 g 4 (by decide) rfl (fun v2 h2 => ?_)
      rw [numC_4]
      refine O_count h2 g 3 (by decide) rfl (fun v3 h3 => ?_)
      rw [numC_3]
      refine O_tuft h3 g 7 ht (by decide) rfl rfl (fun v4 h4 => ?_)
      rw [numU_7]
      refine O_rake h4 g hk ht rfl hm hbeg (fun v5 h5 g5 => ?_)
      refine O_count h5 g5 3 (by decide) rfl (fun v6 h6 => ?_)
      rw [numC_3]
      have e3 : nI (cnt (fun u => lMn (wCur (next w (raked (wCur w) t))) u) 64) = nI (cnt (fun u => lMn (wCur w) u) 64) - 1 := by
        have := raked_cnt ht hm
        rw [← this]
        show nI (cnt (fun u => lMn (raked (wCur w) t) u) 64) = nI (cnt (fun u => lMn (raked (wCur w) t) u) 64 + 1) - nI 1
        rw [pk_sub (by omega)]; rfl
      refine ⟨fun _ => ?_, fun q => absurd e3 q⟩
      refine O_count h6 g5 4 (by decide) rfl (fun v7 h7 => ?_)
      rw [numC_4]
      refine ⟨fun _ => ?_, fun q => absurd (i_sub_sub _ _).symm q⟩
      have fin : ∀ {v'}, CW v' (next w (raked (wCur w) t)) → wp_L_rakes_142 v (nI t) v' Q := fun {v'} h' => by
        unfold wp_L_rakes_142
        refine O_tuft h' g5 0 ht (by decide) rfl rfl (fun v9 h9 => ?_)
        rw [numU_0, show lMn (wCur (next w (raked (wCur w) t))) t = false by show lMn (raked (wCur w) t) t = false; rw [raked_mn]; exact va_up_self _ _ _]
        exact ⟨fun _ => hq _ _ h9 g5, fun q => absurd rfl q⟩
      by_cases hB : rakeB (lTu (wCur w)) t = true
      · obtain ⟨y1, y2, y3⟩ := rake_yes gc g2 hm hB
        refine ⟨fun _ => fin h7, fun _ => ⟨fun _ => ⟨fun _ => ?_, fun q => ?_⟩, fun q => ?_⟩⟩
        · refine O_tuft h7 g5 7 ht (by decide) rfl rfl (fun v8 h8 => ?_)
          rw [numU_7, show crN (lTu (wCur (next w (raked (wCur w) t)))) t = 1 from y2]
          exact ⟨fun _ => fin h8, fun q => absurd rfl q⟩
        · refine absurd ?_ q
          rw [pk_sub (by omega), show (lTu (wCur w)).length - (lTu (raked (wCur w) t)).length = 1 by omega]
          rfl
        · exact absurd (by rw [y1]; rfl) q
      · have y := rake_no hB
        refine ⟨fun _ => fin h7, fun q => absurd ?_ q⟩
        rw [pk_sub (by omega)]
        congr 1; omega
    · rw [nI_leI (by omega) (by omega)] at e
      refine ⟨fun eb => ?_, fun eb => ?_⟩
      · have eb : b = false := by cases b with
          | false => rfl
          | true => exact absurd eb (by decide)
        refine ⟨⟨false, j + 1, rfl, by rw [← nI_add]; rfl, by omega, h1, fun q => absurd q (by decide)⟩, ?_⟩
        show 10 - (nI j + nI 1).toNatClampNeg < 10 - (nI j).toNatClampNeg
        rw [nI_add, nI_clamp (by omega), nI_clamp (by omega)]; omega
      · have eb : b = true := by cases b with
          | true => rfl
          | false => exact absurd rfl eb
        obtain ⟨hm, hbeg⟩ := hbj eb
        have mu : 10 - (nI j + 1).toNatClampNeg < 10 - (nI j).toNatClampNeg := by
          show 10 - (nI j + nI 1).toNatClampNeg < 10 - (nI j).toNatClampNeg
          rw [nI_add, nI_clamp (by omega), nI_clamp (by omega)]; omega
        refine O_moleOf h1 g (i := j) 4 (by omega) (by decide) rfl rfl ?_
        rw [numM_4]
        have gm := gc.1.2.1 _ (mlA_mem (M := lMo (wCur w)) (i := j) (by omega))
        have b0 : at0 (mTr (mlA (lMo (wCur w)) j)) 0 < 64 := gm.2.2.2.1 _ (first_mem gm.2.2.1)
        refine ⟨fun e5 => ⟨⟨false, j + 1, rfl, by rw [← nI_add]; rfl, by omega, h1, fun q => absurd q (by decide)⟩, mu⟩, fun e5 => ⟨⟨true, j + 1, rfl, by rw [← nI_add]; rfl, by omega, h1, fun _ => ⟨hm, fun i hi => ?_⟩⟩, mu⟩⟩
        by_cases c : i = j
        · subst c
          exact fun q => e5 (by rw [q])
        · exact hbeg i (by omega)
  unfold wp_L_rakes
  refine O_tuft h g 0 ht (by decide) rfl rfl (fun v1 h1 => ?_)
  rw [numU_0]
  refine ⟨fun e => main true _ h1 (fun _ => (bI_1 _).mp e), fun _ => main false _ h1 (fun q => absurd q (by decide))⟩
