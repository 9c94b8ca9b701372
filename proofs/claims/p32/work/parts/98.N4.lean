/-! What the law finds in one tunnel, in one mole. -/
theorem numT_0 (L : List Nat) : numT L (nI 0) = nI (at0 L 0) := if_pos rfl
theorem numT_1 (L : List Nat) : numT L (nI 1) = nI (lastOf L) := by unfold numT; rw [if_neg (by decide), if_pos rfl]
theorem atI_out {L : List Nat} {k : Nat} (h : L.length ≤ k) (hk : k < 2 ^ 31) : atI L (nI k) = nN := if_neg (fun z => z.2 (nI_le h hk))
/-- only what is hollow is marked -/
def mk (a : Lw) (f : Nat → Int32) : Prop := ∀ u, u < 64 → f u ≠ nI 0 → hol a u = true
theorem mk_0 (a : Lw) : mk a (fun _ => 0) := fun _ _ h => absurd rfl h
theorem mk_upd {a : Lw} {f : Nat → Int32} {u : Nat} {x : Int32} (h : mk a f) (hu : hol a u = true) : mk a (upd f u x) := fun t ht hn => by
  by_cases c : t = u
  · rw [c]; exact hu
  · rw [upd_n c] at hn; exact h t ht hn
theorem L_isTunnel {v : V_X6} {w : Wd} {k : Nat} (h : CW v w) (g : IW k w) {p : Int32} {i : Nat} (hi : i < (lTu (wCur w)).length) (ep : p = nI i) {f : Nat → Int32} (hf : mk (wCur w) f) {Q : Int32 → V_X6 → (Nat → Int32) → Prop} (hq : ∀ v' f', CW v' w → mk (wCur w) f' → Q 1 v' f') : wp_L_isTunnel v 64 f p Q := by
  obtain ⟨n, hn, gc⟩ := g.cur
  have g2 := g.2.2.1
  subst ep
  have hr := row_mem hi
  obtain ⟨r1, r2, r3, r4, r5⟩ := gc.1.2.2.2.2.1 _ hr
  have kr := g2.1 _ hr
  have hft := (gc.1.fit hn).1
  have l1024 := row_len_le hft.1 hi
  have cap := hft.1.1
  have wr := way_row gc hn hi
  generalize hR : row (lTu (wCur w)) i = R at *
  have ne : R ≠ [] := fun e => by rw [e] at r1; simp at r1
  have m0 : at0 R 0 ∈ R := first_mem ne
  have m1 : at0 R (R.length - 1) ∈ R := lastOf_mem ne
  have b0 := r2 _ m0
  have b1 := r2 _ m1
  have lR : R.length < 2 ^ 20 := by omega
  have r3 : lMn (wCur w) (at0 R 0) = true := r3
  have r4 : lMn (wCur w) (at0 R (R.length - 1)) = true := r4
  have r5 : at0 R 0 ≠ at0 R (R.length - 1) := r5
  have wr : wayOf w (at0 R 0) (at0 R (R.length - 1)) = 1 := wr
  have wr2 : wayOf w (at0 R (R.length - 1)) (at0 R 0) = 1 := (way_comm gc hn b1 b0).trans wr
  have cell : ∀ {z : V_X6}, CW z w → ∀ (j : Nat), j < R.length → ∀ {Q : Int32 → Prop}, Q (nI (at0 R j)) → wo_X6_cell z (nI i) (nI j) Q := fun {z} hz j hj {Q} hq => by
    refine O_cell hz g j hi (by omega) rfl rfl ?_
    rw [hR, atI_in (by omega) hj]
    exact hq
  have fin : ∀ z f', CW z w → mk (wCur w) f' → wp_L_isTunnel_167 v 64 f (nI i) (nI (at0 R (R.length - 1))) (nI 1) z f' Q := by
    intro z f' hz hf'
    unfold wp_L_isTunnel_167
    refine ⟨fun q => absurd q (by decide), fun _ => ?_⟩
    refine cell hz 0 (by omega) ?_
    refine O_fewest hz g b0 b1 rfl rfl (fun v1 h1 => ?_)
    rw [wr]
    refine ⟨fun _ => ?_, fun q => absurd rfl q⟩
    refine cell h1 0 (by omega) ?_
    refine O_joined h1 g b1 b0 rfl rfl (fun v2 h2 => ?_)
    rw [wr2]
    exact ⟨fun _ => hq _ _ h2 hf', fun q => absurd rfl q⟩
  unfold wp_L_isTunnel
  refine O_tunnel h g 2 hi (by decide) rfl rfl ?_
  rw [hR, numT_2]
  have e1 : (nI R.length - 1 : Int32) = nI (R.length - 1) := by
    show nI R.length - nI 1 = _
    exact pk_sub (by omega)
  rw [e1]
  refine cell h (R.length - 1) (by omega) ?_
  refine ⟨fun q => ?_, fun _ => ?_⟩
  · exact absurd ((nI_ltI (a := R.length) (b := 2) (by omega) (by omega)).mp q) (by omega)
  refine cell h 0 (by omega) ?_
  refine O_tunnel h g 0 hi (by decide) rfl rfl ?_
  rw [hR, numT_0]
  refine ⟨fun _ => ?_, fun q => absurd rfl q⟩
  refine O_tunnel h g 1 hi (by decide) rfl rfl ?_
  rw [hR, numT_1]
  refine ⟨fun _ => ?_, fun q => absurd rfl q⟩
  refine cell h 0 (by omega) ?_
  refine ⟨fun q => absurd ((nI_eq (by omega) (by omega)).mp q).symm r5, fun _ => ?_⟩
  refine O_cell h g R.length hi (by omega) rfl rfl ?_
  rw [hR, atI_out (Nat.le_refl _) (by omega)]
  refine ⟨fun _ => ?_, fun q => absurd rfl q⟩
  unfold wp_L_isTunnel_79
  refine ⟨fun s0 s1 z f => ∃ j, s0 = nI 1 ∧ s1 = nI j ∧ j ≤ R.length ∧ CW z w ∧ mk (wCur w) f, fun _ s1 _ _ => 2000000 - s1.toNatClampNeg, ⟨0, rfl, rfl, by omega, h, hf⟩, ?_⟩
  rintro _ _ z f' ⟨j, rfl, rfl, hj, hz, hf'⟩
  unfold wb_L_isTunnel_79
  refine ⟨fun _ => fin z f' hz hf', fun e => ⟨fun q => absurd q (by decide), fun _ => ?_⟩⟩
  have hj : j < R.length := by
    rw [nI_leI (by omega) (by omega)] at e; omega
  refine cell hz j hj ?_
  have hu : at0 R j ∈ R := at0_mem hj
  have bu := r2 _ hu
  refine ⟨(nI_inI (by omega)).mpr bu, ?_⟩
  refine O_tuft hz g 0 bu (by decide) rfl rfl (fun v1 h1 => ?_)
  rw [numU_0, nI_clamp (by omega)]
  have hf2 : mk (wCur w) (upd f' (at0 R j) 1) := mk_upd hf' (hol_row hr hu)
  have nxt : (∃ q, (1 : Int32) = nI 1 ∧ nI j + 1 = nI q ∧ q ≤ R.length ∧ CW v1 w ∧ mk (wCur w) (upd f' (at0 R j) 1)) ∧ 2000000 - (nI j + 1).toNatClampNeg < 2000000 - (nI j).toNatClampNeg := by
    have e9 : (nI j + 1 : Int32) = nI (j + 1) := by rw [← nI_add]; rfl
    rw [e9]
    refine ⟨⟨j + 1, rfl, rfl, by omega, h1, hf2⟩, ?_⟩
    rw [nI_clamp (by omega), nI_clamp (by omega)]; omega
  have b129 : ∀ (B : Int32 → Int32 → V_X6 → (Nat → Int32) → Prop) (k0 : Int32), bI (lMn (wCur w) (at0 R j)) = k0 → B 1 (nI j + 1) v1 (upd f' (at0 R j) 1) → wp_L_isTunnel_129 v 64 f (nI i) (nI R.length) (nI (at0 R (R.length - 1))) (nI 1) (nI j) z f' B (nI (at0 R j)) v1 (upd f' (at0 R j) 1) k0 (bI (lMn (wCur w) (at0 R j))) Q := by
    intro B k0 ek hB
    unfold wp_L_isTunnel_129
    refine ⟨fun _ => ⟨fun _ => hB, fun e0 => ?_⟩, fun q => absurd ek q⟩
    have j0 : j ≠ 0 := fun q => e0 (by rw [q]; rfl)
    have e9 : (nI j - 1 : Int32) = nI (j - 1) := by
      show nI j - nI 1 = _
      exact pk_sub (by omega)
    rw [e9]
    refine cell h1 (j - 1) (by omega) ?_
    have ad := kr.1 (j - 1) (by omega)
    rw [show j - 1 + 1 = j by omega] at ad
    refine L_isStep (r2 _ (at0_mem (by omega))) bu ad ?_
    exact ⟨fun q => absurd q (by decide), fun _ => hB⟩
  refine ⟨fun e0 => ?_, fun e0 => ⟨fun e2 => ?_, fun e2 => ?_⟩⟩
  · have j0 : j = 0 := (nI_eq (by omega) (by omega)).mp e0
    subst j0
    unfold wp_L_isTunnel_124
    exact b129 _ _ (by rw [r3]; rfl) nxt
  · have e2 : (nI j : Int32) = nI (R.length - 1) := e2.trans e1
    have j1 : j = R.length - 1 := (nI_eq (by omega) (by omega)).mp e2
    unfold wp_L_isTunnel_124
    exact b129 _ _ (by rw [j1, r4]; rfl) nxt
  · have j0 : j ≠ 0 := fun q => e0 (by rw [q]; rfl)
    have j1 : j ≠ R.length - 1 := fun q => e2 (by rw [q]; exact e1.symm)
    exact b129 _ _ (by rw [kr.2 j (by omega) (by omega)]; rfl) nxt
theorem cnt_one {p : Nat → Bool} {n y : Nat} (hy : y < n) (h : p y = true) : 0 < cnt p n := by
  have := cnt_lt (p := fun _ => false) (q := p) (y := y) rfl h n (fun _ _ z => absurd z (by decide)) hy
  omega
theorem L_isMole {v : V_X6} {w : Wd} {k : Nat} (h : CW v w) (g : IW k w) {p : Int32} {i : Nat} (hi : i < (lMo (wCur w)).length) (ep : p = nI i) {f : Nat → Int32} (hf : mk (wCur w) f) {Q : Int32 → V_X6 → (Nat → Int32) → Prop} (hq : ∀ v' f', CW v' w → mk (wCur w) f' → Q 1 v' f') : wp_L_isMole v 64 f p Q := by
  obtain ⟨n, hn, gc⟩ := g.cur
  have g2 := g.2.2.1
  subst ep
  have hm := mlA_mem hi
  obtain ⟨q1, q2, q3, q4, q5, q6, q7⟩ := gc.1.2.1 _ hm
  have qa := gc.2 _ hm
  have km := g2.2 _ hm
  have h4 := gc.1.1
  have hai := gc.1.2.2.2.1
  have self : (fun i => lastOf (mTr (mlA (lMo (wCur w)) i)) == lastOf (mTr (mlA (lMo (wCur w)) i))) i = true := by simp
  have one : 0 < cnt (fun x => lastOf (mTr (mlA (lMo (wCur w)) x)) == lastOf (mTr (mlA (lMo (wCur w)) i))) (lMo (wCur w)).length := cnt_one hi (by simp)
  have onel := cnt_le (fun x => lastOf (mTr (mlA (lMo (wCur w)) x)) == lastOf (mTr (mlA (lMo (wCur w)) i))) (lMo (wCur w)).length
  have tp := List.length_pos_iff.mpr q3
  have mP : lastOf (mTr (mlA (lMo (wCur w)) i)) ∈ mTr (mlA (lMo (wCur w)) i) := lastOf_mem q3
  have mB : at0 (mTr (mlA (lMo (wCur w)) i)) 0 ∈ mTr (mlA (lMo (wCur w)) i) := first_mem q3
  have bP := q4 _ mP
  have bB := q4 _ mB
  have hP := hol_mole hm mP
  have hB := hol_mole hm mB
  have ask : ∀ {z : V_X6}, CW z w → ∀ (j : Nat), j ≤ 6 → ∀ {Q : Int32 → Prop}, Q (numM (mlA (lMo (wCur w)) i) (nI j)) → wo_X6_moleOf z (nI i) (nI j) Q := fun {z} hz j hj {Q} hq => O_moleOf hz g j hi hj rfl rfl hq
  unfold wp_L_isMole
  refine ask h 0 (by decide) ?_
  rw [numM_0]
  refine ask h 4 (by decide) ?_
  rw [numM_4]
  refine ask h 5 (by decide) ?_
  rw [numM_5]
  refine ask h 2 (by decide) ?_
  rw [numM_2]
  refine ⟨(nI_inI (by omega)).mpr bP, (nI_inI (by omega)).mpr bB, ?_⟩
  refine O_tuft h g 0 bB (by decide) rfl rfl (fun v1 h1 => ?_)
  rw [numU_0, q6]
  have hf2 : mk (wCur w) (upd (upd f (lastOf (mTr (mlA (lMo (wCur w)) i))) 1) (at0 (mTr (mlA (lMo (wCur w)) i)) 0) 1) := mk_upd (mk_upd hf hP) hB
  rw [nI_clamp (by omega), nI_clamp (by omega)]
  generalize upd (upd f (lastOf (mTr (mlA (lMo (wCur w)) i))) 1) (at0 (mTr (mlA (lMo (wCur w)) i)) 0) 1 = f2 at hf2 ⊢
  have e173 : ∀ z, CW z w → wp_L_isMole_173 v 64 f (nI i) (nI (lastOf (mTr (mlA (lMo (wCur w)) i)))) (nI (at0 (mTr (mlA (lMo (wCur w)) i)) 0)) z f2 1 Q := by
    intro z hz
    unfold wp_L_isMole_173
    refine ⟨fun q => absurd q (by decide), fun _ => ?_⟩
    refine O_tuft hz g 3 bP (by decide) rfl rfl (fun v2 h2 => ?_)
    rw [numU_3, hP]
    refine ⟨fun _ => ?_, fun q => absurd rfl q⟩
    refine O_tuft h2 g 3 bB (by decide) rfl rfl (fun v3 h3 => ?_)
    rw [numU_3, hB]
    refine ⟨fun _ => ?_, fun q => absurd rfl q⟩
    refine O_tuft h3 g 8 bP (by decide) rfl rfl (fun v4 h4 => ?_)
    rw [numU_8]
    refine ⟨fun q => ?_, fun _ => hq _ _ h4 hf2⟩
    exact absurd ((nI_leI (b := 0) (by omega) (by omega)).mp q) (by omega)
  have e91 : ∀ z, CW z w → wp_L_isMole_91 v 64 f (nI i) (nI (lastOf (mTr (mlA (lMo (wCur w)) i)))) (nI (at0 (mTr (mlA (lMo (wCur w)) i)) 0)) (nI (mPl (mlA (lMo (wCur w)) i)).length) z f2 Q := by
    intro z hz
    unfold wp_L_isMole_91 wp_L_isMole_96
    refine ⟨fun q => absurd q (by decide), fun _ => ?_⟩
    refine ask hz 1 (by decide) ?_
    rw [numM_1]
    refine ⟨fun q => absurd ((nI_ltI (b := 1) (by omega) (by omega)).mp q) (by omega), fun _ => ?_⟩
    refine ask hz 1 (by decide) ?_
    rw [numM_1]
    refine O_count hz g 13 (by decide) rfl (fun v2 h2 => ?_)
    rw [numC_13]
    refine ⟨fun q => absurd ((nI_ltI (by omega) (by omega)).mp q) (by have := km.2; omega), fun _ => ?_⟩
    refine ⟨fun q => absurd ((nI_ltI (b := 0) (by omega) (by omega)).mp q) (by omega), fun _ => ?_⟩
    refine ⟨fun q => absurd ((nI_ltI (a := 20) (by omega) (by omega)).mp q) (by omega), fun _ => ?_⟩
    refine ask h2 3 (by decide) ?_
    rw [numM_3]
    have e165 : ∀ b : Int32, wp_L_isMole_165 v 64 f (nI i) (nI (lastOf (mTr (mlA (lMo (wCur w)) i)))) (nI (at0 (mTr (mlA (lMo (wCur w)) i)) 0)) v2 f2 b b Q := fun b => by
      unfold wp_L_isMole_165
      exact ⟨fun _ => e173 _ h2, fun q => absurd rfl q⟩
    by_cases c : mPl (mlA (lMo (wCur w)) i) = []
    · rw [if_pos c]
      refine ⟨fun _ => ?_, fun q => absurd rfl q⟩
      unfold wp_L_isMole_155
      refine ⟨fun _ => e165 1, fun q => absurd ?_ q⟩
      rw [c]; rfl
    · rw [if_neg c]
      have c0 := List.length_pos_iff.mpr c
      have d4 := q2 _ (first_mem c)
      refine ⟨fun q => absurd q (fun q => (nN_ne (by omega)).mp q), fun _ => ?_⟩
      unfold wp_L_isMole_155
      exact ⟨fun q => absurd ((nI_eq (b := 0) (by omega) (by omega)).mp q) (by omega), fun _ => e165 0⟩
  refine ⟨fun _ => ?_, fun q => absurd rfl q⟩
  refine ⟨fun q => absurd ((nI_ltI (b := 1) (by omega) (by omega)).mp q) (by omega), fun _ => ?_⟩
  refine ⟨fun q => absurd ((nI_ltI (a := 21) (by omega) (by omega)).mp q) (by omega), fun _ => ?_⟩
  refine ⟨fun q => ?_, fun q => ⟨fun _ => ?_, fun q2 => ?_⟩⟩
  · have l1 := (nI_ltI (a := 1) (by omega) (by omega)).mp q
    unfold wp_L_isMole_76
    refine ⟨fun _ => e91 _ h1, fun _ => ?_⟩
    refine O_tuft h1 g 0 bP (by decide) rfl rfl (fun v2 h2 => ?_)
    have mt : lastOf (mTr (mlA (lMo (wCur w)) i)) ∈ (mTr (mlA (lMo (wCur w)) i)).tail := at0_in_tail (by omega) (by omega)
    rw [numU_0, q7 _ mt]
    exact ⟨fun _ => e91 _ h2, fun q => absurd rfl q⟩
  · have l1 : ¬ 1 < (mTr (mlA (lMo (wCur w)) i)).length := fun z => q ((nI_ltI (a := 1) (by omega) (by omega)).mpr z)
    unfold wp_L_isMole_76
    exact ⟨fun _ => e91 _ h1, fun z => absurd (by rw [show (mTr (mlA (lMo (wCur w)) i)).length = 1 by omega]; rfl) z⟩
  · have l1 : ¬ 1 < (mTr (mlA (lMo (wCur w)) i)).length := fun z => q ((nI_ltI (a := 1) (by omega) (by omega)).mpr z)
    refine absurd ?_ q2
    unfold lastOf
    rw [show (mTr (mlA (lMo (wCur w)) i)).length - 1 = 0 by omega]
