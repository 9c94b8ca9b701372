/-! What the law finds in all tunnels, moles and tufts. -/
def eK (k : Nat) : Nat := if k ≤ 4 then k else k - 1
def bzR (p k : Nat) : Int32 := (nI p / 8 + nI k / 3) - 1
def bzC (p k : Nat) : Int32 := ((nI p - nI p / 8 * 8) + (nI k - nI k / 3 * 3)) - 1
def bzU (p k : Nat) : Int32 := (8 * bzR p k) + bzC p k
def bzT (p k : Nat) : Bool := if k = 4 then decide (nbL p (eK (k + 1)) = nbL p (eK k)) else if bzR p k < 0 then decide (nbL p (eK (k + 1)) = nbL p (eK k)) else if 8 ≤ bzR p k then decide (nbL p (eK (k + 1)) = nbL p (eK k)) else if bzC p k < 0 then decide (nbL p (eK (k + 1)) = nbL p (eK k)) else if 8 ≤ bzC p k then decide (nbL p (eK (k + 1)) = nbL p (eK k)) else decide ((bzU p k).toNatClampNeg < 64) && (decide (bzU p k = nI (bzU p k).toNatClampNeg) && decide (nbL p (eK (k + 1)) = nbL p (eK k) ++ [(bzU p k).toNatClampNeg]))
theorem bs_tab : ∀ p : Fin 64, ∀ k : Fin 9, bzT p.1 k.1 = true := by decide +kernel
theorem L_holds {v : V_X6} {w : Wd} {k : Nat} (h : CW v w) (g : IW k w) {Q : Int32 → V_X6 → Prop} (hq : ∀ v', CW v' w → Q 1 v') : wp_L_holds v Q := by
  obtain ⟨n, hn, gc⟩ := g.cur
  have g2 := g.2.2.1
  have b4 := gc.1.1
  have bT := (gc.1.fit hn).1.1.2
  have plus : ∀ j : Nat, (nI j + 1 : Int32) = nI (j + 1) := fun j => by rw [← nI_add]; rfl
  have down : ∀ (B j : Nat), j < B → B ≤ 2000 → B - (nI (j + 1)).toNatClampNeg < B - (nI j).toNatClampNeg := fun B j h1 h2 => by rw [nI_clamp (by omega), nI_clamp (by omega)]; omega
  -- behind the tufts
  have e366 : ∀ (q : Nat → Int32) (z : V_X6) (f : Nat → Int32), CW z w → wp_L_holds_366 v (nI (lTu (wCur w)).length) (nI (cnt (fun t => hol (wCur w) t) 64)) (nI (cnt (fun t => lMn (wCur w) t) 64)) q z f 1 Q := by
    intro q z f hz
    have c64 := cnt_le (fun t => hol (wCur w) t) 64
    have m64 := cnt_le (fun t => lMn (wCur w) t) 64
    have gl := grp_le (wCur w)
    unfold wp_L_holds_366
    refine ⟨fun q => absurd q (by decide), fun _ => ?_⟩
    refine O_count hz g 5 (by decide) rfl (fun v1 h1 => ?_)
    rw [numC_5]
    refine ⟨fun _ => ?_, fun q => absurd rfl q⟩
    refine O_count h1 g 3 (by decide) rfl (fun v2 h2 => ?_)
    rw [numC_3]
    refine ⟨fun _ => ?_, fun q => absurd rfl q⟩
    refine O_hollowShare h2 g (fun v3 h3 => ?_)
    refine ⟨share_fin ⟨_, Nat.lt_succ_of_le c64⟩, fun _ => ?_, fun q => absurd (share_eq ⟨_, Nat.lt_succ_of_le c64⟩) q⟩
    refine O_count h3 g 12 (by decide) rfl (fun v4 h4 => ?_)
    rw [numC_12]
    refine ⟨fun q => absurd ((nI_ltI (by omega) (by omega)).mp q) (by omega), fun _ => ?_⟩
    have e444 : ∀ (b : Int32) (z : V_X6), CW z w → wp_L_holds_444 v q z f b b Q := fun b z hz => by
      unfold wp_L_holds_444
      exact ⟨fun _ => hq _ hz, fun q => absurd rfl q⟩
    by_cases c : lTu (wCur w) = []
    · refine ⟨fun _ => ?_, fun q => absurd (by rw [c]; rfl) q⟩
      unfold wp_L_holds_428
      refine O_count h4 g 12 (by decide) rfl (fun v5 h5 => ?_)
      rw [numC_12]
      exact ⟨fun _ => e444 1 _ h5, fun q => absurd (by rw [grp_none gc hn c]) q⟩
    · have c0 := row0 c
      have gs := grp_some gc hn c
      refine ⟨fun q => absurd ((nI_eq (b := 0) (by omega) (by omega)).mp q) (by omega), fun _ => ?_⟩
      unfold wp_L_holds_428
      refine O_count h4 g 12 (by decide) rfl (fun v5 h5 => ?_)
      rw [numC_12]
      exact ⟨fun q => absurd ((nI_eq (by omega) (by omega)).mp q) (by omega), fun _ => e444 0 _ h5⟩
  have e324 : ∀ (q : Nat → Int32) (z : V_X6) (f : Nat → Int32), CW z w → wp_L_holds_324 v (nI (lTu (wCur w)).length) (nI (cnt (fun t => hol (wCur w) t) 64)) (nI (cnt (fun t => lMn (wCur w) t) 64)) 1 q z f Q := by
    intro q z f hz
    unfold wp_L_holds_324
    refine O_bestDig hz g (fun v1 h1 => ?_)
    refine ⟨fun q => absurd q (by decide), fun _ => ?_⟩
    rcases bst_spec (a := wCur w) 64 with e | ⟨t, ht, e, eo, ec⟩
    · rw [e]
      refine ⟨fun _ => ?_, fun q => absurd rfl q⟩
      unfold wp_L_holds_361
      exact e366 _ _ _ h1
    · rw [e]
      refine ⟨fun q => absurd q (fun q => (nN_ne (by omega)).mp q), fun _ => ?_⟩
      refine O_tuft h1 g 5 ht (by decide) rfl rfl (fun v2 h2 => ?_)
      rw [numU_5, eo]
      refine ⟨fun _ => ?_, fun q => absurd rfl q⟩
      refine O_ifDug h2 g 0 ht (by decide) rfl rfl (fun v3 h3 => ?_)
      rw [if_pos rfl, dug_fal]
      have := crN_len t (lTu (wCur w))
      refine ⟨fun q => absurd ((nI_leI (b := 0) (by omega) (by omega)).mp q) (by omega), fun _ => ?_⟩
      unfold wp_L_holds_361
      exact e366 _ _ _ h3
  -- the tufts
  have e117 : ∀ (q : Nat → Int32) (z : V_X6) (f : Nat → Int32), CW z w → mk (wCur w) f → (∀ u, u < 64 → q u = bI (hol (wCur w) u)) → wp_L_holds_117 v (nI (lTu (wCur w)).length) q f 0 0 1 0 z Q := by
    intro q z f hz hf hqa
    unfold wp_L_holds_117
    refine ⟨fun y4 y5 y6 y7 z => ∃ j, y7 = nI j ∧ j ≤ 64 ∧ y4 = nI (cnt (fun t => hol (wCur w) t) j) ∧ y5 = nI (cnt (fun t => lMn (wCur w) t) j) ∧ y6 = nI 1 ∧ CW z w, fun _ _ _ y7 _ => 100 - y7.toNatClampNeg, ⟨0, rfl, by omega, rfl, rfl, rfl, hz⟩, ?_⟩
    rintro _ _ _ _ z ⟨j, rfl, hj, rfl, rfl, rfl, hz⟩
    unfold wb_L_holds_117
    refine ⟨fun e => ?_, fun e => ⟨fun q => absurd q (by decide), fun _ => ?_⟩⟩
    · have e := (nI_leI (a := 64) (by omega) (by omega)).mp e
      have ej : j = 64 := by omega
      subst ej
      exact e324 _ _ _ hz
    have hj : j < 64 := by
      apply Classical.byContradiction
      intro q
      exact e ((nI_leI (a := 64) (by omega) (by omega)).mpr (by omega))
    refine O_tuft hz g 6 hj (by decide) rfl rfl (fun v1 h1 => ?_)
    rw [numU_6]
    have sf := sure_facts (a := wCur w) hj
    have so := sure_open (a := wCur w) hj
    generalize sureA (wCur w) j = su at sf so ⊢
    have dn := down 100 j (by omega) (by omega)
    have e271 : ∀ (B : Int32 → Int32 → Int32 → Int32 → V_X6 → Prop) (p4 p5 o4 o5 o6 o7 : Int32) (zz z : V_X6), CW z w → (∀ z, CW z w → B p4 p5 1 (nI j + 1) z) → wp_L_holds_271 v (nI (lTu (wCur w)).length) q f o4 o5 o6 (nI j) zz B p4 p5 su (nI (cntB j (hol (wCur w)))) z Q := by
      intro B p4 p5 o4 o5 o6 o7 zz z hz hB
      unfold wp_L_holds_271
      refine O_tuft hz g 4 hj (by decide) rfl rfl (fun v2 h2 => ?_)
      rw [numU_4]
      refine ⟨fun _ => ⟨fun e => ?_, fun e => ⟨(nI_inI (by omega)).mpr hj, fun _ => hB _ h2, fun q9 => absurd ?_ q9⟩⟩, fun q => absurd rfl q⟩
      · refine O_tuft h2 g 5 hj (by decide) rfl rfl (fun v3 h3 => ?_)
        rw [numU_5, so e]
        exact ⟨fun _ => hB _ h3, fun q => absurd rfl q⟩
      · rw [nI_clamp (by omega), hqa j hj]
        exact sf.1.resolve_left e
    unfold wp_L_holds_145
    refine ⟨fun y9 y10 => ∃ m, y10 = nI m ∧ m ≤ 9 ∧ y9 = nI ((nbL j (eK m)).countP (hol (wCur w))), fun _ y10 => 100 - y10.toNatClampNeg, ⟨0, rfl, by omega, rfl⟩, ?_⟩
    rintro _ _ ⟨m, rfl, hm, rfl⟩
    unfold wb_L_holds_145
    refine ⟨fun e => ⟨(nI_inI (by omega)).mpr hj, ?_⟩, fun e => ?_⟩
    · have e := (nI_leI (a := 9) (by omega) (by omega)).mp e
      have em : m = 9 := by omega
      subst em
      rw [show eK 9 = 8 from rfl, cntB_nbL hj]
      refine O_tuft h1 g 0 hj (by decide) rfl rfl (fun v2 h2 => ?_)
      rw [numU_0, nI_clamp (by omega)]
      have a4 : nI (cnt (fun t => hol (wCur w) t) j) + q j = nI (cnt (fun t => hol (wCur w) t) (j + 1)) := by
        rw [hqa j hj]
        cases c : hol (wCur w) j with
        | true => rw [cnt_t c]; exact nI_add _ _
        | false => rw [cnt_f c]; exact nI_add _ _
      have a5 : nI (cnt (fun t => lMn (wCur w) t) j) + bI (lMn (wCur w) j) = nI (cnt (fun t => lMn (wCur w) t) (j + 1)) := by
        cases c : lMn (wCur w) j with
        | true => rw [cnt_t c]; exact nI_add _ _
        | false => rw [cnt_f c]; exact nI_add _ _
      rw [a4, a5]
      have step : ∀ z, CW z w → (∃ j', nI j + 1 = nI j' ∧ j' ≤ 64 ∧ nI (cnt (fun t => hol (wCur w) t) (j + 1)) = nI (cnt (fun t => hol (wCur w) t) j') ∧ nI (cnt (fun t => lMn (wCur w) t) (j + 1)) = nI (cnt (fun t => lMn (wCur w) t) j') ∧ (1 : Int32) = nI 1 ∧ CW z w) ∧ 100 - (nI j + 1).toNatClampNeg < 100 - (nI j).toNatClampNeg := by
        intro z hz
        rw [plus j]
        exact ⟨⟨j + 1, rfl, by omega, rfl, rfl, rfl, hz⟩, dn⟩
      refine ⟨fun _ => e271 _ _ _ _ _ _ 0 _ _ h2 step, fun ef => ?_⟩
      have hh := hf j hj ef
      have e1 : q j = 1 := by rw [hqa j hj, hh]; rfl
      exact ⟨fun _ => e271 _ _ _ _ _ _ 0 _ _ h2 step, fun q => absurd e1 q⟩
    · have hm : m < 9 := by
        apply Classical.byContradiction
        intro q
        exact e ((nI_leI (a := 9) (by omega) (by omega)).mpr (by omega))
      have tab := bs_tab ⟨j, hj⟩ ⟨m, hm⟩
      have tab : bzT j m = true := tab
      unfold bzT at tab
      have dm := down 100 m (by omega) (by omega)
      have keep : nbL j (eK (m + 1)) = nbL j (eK m) → (∃ m', nI m + 1 = nI m' ∧ m' ≤ 9 ∧ nI ((nbL j (eK m)).countP (hol (wCur w))) + 0 = nI ((nbL j (eK m')).countP (hol (wCur w)))) ∧ 100 - (nI m + 1).toNatClampNeg < 100 - (nI m).toNatClampNeg := fun e => by
        rw [plus m]
        exact ⟨⟨m + 1, rfl, by omega, by rw [e]; exact nI_add _ 0⟩, dm⟩
      refine ⟨fun c => ?_, fun c => ?_⟩
      · have c : m = 4 := (nI_eq (b := 4) (by omega) (by omega)).mp c
        rw [if_pos c] at tab
        exact keep (of_decide_eq_true tab)
      have c : m ≠ 4 := fun q => c (by rw [q]; rfl)
      rw [if_neg c] at tab
      refine ⟨fun c => ?_, fun c => ?_⟩
      · rw [if_pos (show bzR j m < 0 from c)] at tab
        exact keep (of_decide_eq_true tab)
      rw [if_neg (show ¬ bzR j m < 0 from c)] at tab
      refine ⟨fun c => ?_, fun c => ?_⟩
      · rw [if_pos (show 8 ≤ bzR j m from c)] at tab
        exact keep (of_decide_eq_true tab)
      rw [if_neg (show ¬ 8 ≤ bzR j m from c)] at tab
      refine ⟨fun c => ?_, fun c => ?_⟩
      · rw [if_pos (show bzC j m < 0 from c)] at tab
        exact keep (of_decide_eq_true tab)
      rw [if_neg (show ¬ bzC j m < 0 from c)] at tab
      refine ⟨fun c => ?_, fun c => ?_⟩
      · rw [if_pos (show 8 ≤ bzC j m from c)] at tab
        exact keep (of_decide_eq_true tab)
      rw [if_neg (show ¬ 8 ≤ bzC j m from c)] at tab
      rw [Bool.and_eq_true, Bool.and_eq_true] at tab
      obtain ⟨t1, t2, t3⟩ := tab
      have t1 := of_decide_eq_true t1
      have t2 := of_decide_eq_true t2
      have t3 := of_decide_eq_true t3
      have eU : ((8 * (((nI j / 8) + (nI m / 3)) - 1)) + (((nI j - nI j / 8 * 8) + (nI m - nI m / 3 * 3)) - 1) : Int32) = nI (bzU j m).toNatClampNeg := t2
      rw [eU, nI_clamp (by omega)]
      refine ⟨(nI_inI (by omega)).mpr t1, ?_⟩
      rw [plus m]
      refine ⟨⟨m + 1, rfl, by omega, ?_⟩, dm⟩
      rw [t3, List.countP_append, hqa _ t1]
      cases c9 : hol (wCur w) (bzU j m).toNatClampNeg with
      | true =>
        rw [List.countP_cons_of_pos (by simpa using c9)]
        exact nI_add _ _
      | false =>
        rw [List.countP_cons_of_neg (by simpa using c9)]
        exact nI_add _ _
  have e90 : ∀ (q : Nat → Int32) (z : V_X6) (f : Nat → Int32), CW z w → mk (wCur w) f → wp_L_holds_90 v (nI (lTu (wCur w)).length) 0 0 1 f 0 q z Q := by
    intro q z f hz hf
    unfold wp_L_holds_90
    refine ⟨fun y7 q z => ∃ j, y7 = nI j ∧ j ≤ 64 ∧ (∀ u, u < j → q u = bI (hol (wCur w) u)) ∧ CW z w, fun y7 _ _ => 100 - y7.toNatClampNeg, ⟨0, rfl, by omega, fun u hu => by omega, hz⟩, ?_⟩
    rintro _ q z ⟨j, rfl, hj, hqa, hz⟩
    unfold wb_L_holds_90
    refine ⟨fun e => ?_, fun e => ?_⟩
    · have e := (nI_leI (a := 64) (by omega) (by omega)).mp e
      exact e117 _ _ _ hz hf (fun u hu => hqa u (by omega))
    · have hj : j < 64 := by
        apply Classical.byContradiction
        intro q
        exact e ((nI_leI (a := 64) (by omega) (by omega)).mpr (by omega))
      refine O_tuft hz g 3 hj (by decide) rfl rfl (fun v1 h1 => ?_)
      rw [numU_3, nI_clamp (by omega), plus j]
      refine ⟨(nI_inI (by omega)).mpr hj, ⟨j + 1, rfl, by omega, fun u hu => ?_, h1⟩, down 100 j (by omega) (by omega)⟩
      by_cases c : u = j
      · rw [c, upd_s]
      · rw [upd_n c]; exact hqa u (by omega)
  have e57 : ∀ (q : Nat → Int32) (z : V_X6) (f : Nat → Int32), CW z w → mk (wCur w) f → wp_L_holds_57 v (nI (lTu (wCur w)).length) 0 0 q 1 0 z f Q := by
    intro q z f hz hf
    unfold wp_L_holds_57
    refine ⟨fun y6 y7 z f => ∃ j, y6 = nI 1 ∧ y7 = nI j ∧ j ≤ (lMo (wCur w)).length ∧ CW z w ∧ mk (wCur w) f, fun _ y7 _ _ => 100 - y7.toNatClampNeg, ⟨0, rfl, rfl, by omega, hz, hf⟩, ?_⟩
    rintro _ _ z f ⟨j, rfl, rfl, hj, hz, hf⟩
    unfold wb_L_holds_57
    refine O_count hz g 1 (by decide) rfl (fun v1 h1 => ?_)
    rw [numC_1]
    refine ⟨fun _ => e90 _ _ _ h1 hf, fun e => ⟨fun q => absurd q (by decide), fun _ => ?_⟩⟩
    have hj : j < (lMo (wCur w)).length := by
      apply Classical.byContradiction
      intro q
      exact e ((nI_leI (by omega) (by omega)).mpr (by omega))
    refine L_isMole h1 g hj rfl hf (fun v2 f2 h2 hf2 => ?_)
    rw [plus j]
    exact ⟨⟨j + 1, rfl, rfl, by omega, h2, hf2⟩, down 100 j (by omega) (by omega)⟩
  unfold wp_L_holds
  refine O_count h g 4 (by decide) rfl (fun v1 h1 => ?_)
  rw [numC_4]
  unfold wp_L_holds_28
  refine ⟨fun y6 y7 z f => ∃ j, y6 = nI 1 ∧ y7 = nI j ∧ j ≤ (lTu (wCur w)).length ∧ CW z w ∧ mk (wCur w) f, fun _ y7 _ _ => 1000 - y7.toNatClampNeg, ⟨0, rfl, rfl, by omega, h1, mk_0 _⟩, ?_⟩
  rintro _ _ z f ⟨j, rfl, rfl, hj, hz, hf⟩
  unfold wb_L_holds_28
  refine ⟨fun _ => e57 _ _ _ hz hf, fun e => ⟨fun q => absurd q (by decide), fun _ => ?_⟩⟩
  have hj : j < (lTu (wCur w)).length := by
    apply Classical.byContradiction
    intro q
    exact e ((nI_leI (by omega) (by omega)).mpr (by omega))
  refine L_isTunnel hz g hj rfl hf (fun v2 f2 h2 hf2 => ?_)
  rw [plus j]
  exact ⟨⟨j + 1, rfl, rfl, by omega, h2, hf2⟩, down 1000 j (by omega) (by omega)⟩
