def o_ifPassed (w : Wd) (p x : Int32) : Nat × Int32 := match rg 1 30 p with
  | none => (1, 0)
  | some k => match rg 0 2 x with
    | none => (1, 0)
    | some _ => (0, if x = nI 0 then lRi (beatN k (wCur w)) - lRi (wCur w) else if x = nI 1 then nI (lTu (beatN k (wCur w))).length else lCa (beatN k (wCur w)) - lCa (wCur w))
theorem C_ifPassed {v : V_X6} {w : Wd} {n : Nat} (h : CW v w) (g : GoodW n w) {p x : Int32} {Q : Int32 → V_X3 → V_X0 → Prop} {QX : String → Prop} (hq : ∀ sp tr, permL tr → (o_ifPassed w p x).1 = 0 → Q (o_ifPassed w p x).2 sp tr) (h1 : (o_ifPassed w p x).1 = 1 → QX eA) : wp_X6_ifPassed v p x Q QX := by
  have hn : n ≤ 512 := by have := g.2.2.2.1; omega
  have hft := g.1.1.fit hn
  have hc := h.1
  have hri : X0_risen (X6_lawn v) = lRi (wCur w) := hc.2.2.2.2.2.2.2.2.2.2.1
  have hca : X0_caught (X6_lawn v) = lCa (wCur w) := hc.2.2.2.2.2.2.2.2.1
  unfold wp_X6_ifPassed
  refine C_checkBeats (fun e => h1 (by unfold o_ifPassed; rw [e])) (fun k hk1 hk30 hp e => ?_)
  subst hp
  refine C_checkWhat (n := 2) (by omega) (fun e2 => h1 (by unfold o_ifPassed; rw [e]; simp only []; rw [e2])) (fun j hj hx e2 => ?_)
  have eo : o_ifPassed w (nI k) x = (0, if x = nI 0 then lRi (beatN k (wCur w)) - lRi (wCur w) else if x = nI 1 then nI (lTu (beatN k (wCur w))).length else lCa (beatN k (wCur w)) - lCa (wCur w)) := by unfold o_ifPassed; rw [e]; simp only []; rw [e2]
  rw [eo] at hq
  unfold wp_X6_tryBeats
  refine C_X0_copyFrom hc hft h.2.2.1 (fun bt ca fa ai gn mc mo mn op ri rt tp tu hL0 => ?_)
  unfold wp_X6_tryBeats_13
  refine ⟨fun y sp L => ∃ j, y = nI j ∧ j ≤ k ∧ CLawn L (beatN j (wCur w)), fun y _ _ => 70 - y.toNatClampNeg, ⟨0, rfl, by omega, hL0⟩, ?_⟩
  rintro _ sp L ⟨j, rfl, hj, hL⟩
  unfold wb_X6_tryBeats_13
  simp (disch := omega) only [nI_lit, nI_add, nI_clamp, nI_leI]
  refine ⟨fun q => ?_, fun q => ?_⟩
  · have ej : j = k := by omega
    subst ej
    have e1 : X0_risen L = lRi (beatN j (wCur w)) := hL.2.2.2.2.2.2.2.2.2.2.1
    have e3 : X0_caught L = lCa (beatN j (wCur w)) := hL.2.2.2.2.2.2.2.2.1
    have e4 : X3_size (X0_tunnels L) = nI (lTu (beatN j (wCur w))).length := hL.2.2.2.2.1.parts.2.2.1
    unfold wp_X6_numberOfTrial
    simp only [nI_lit]
    refine ⟨fun c => ?_, fun c => ⟨fun c2 => ?_, fun c2 => ?_⟩⟩
    · rw [if_pos c] at hq
      show Q (X0_risen L - X0_risen (X6_lawn v)) sp L
      rw [e1, hri]; exact hq _ _ hL.perm rfl
    · rw [if_neg c, if_pos c2] at hq
      show Q (X3_size (X0_tunnels L)) sp L
      rw [e4]; exact hq _ _ hL.perm rfl
    · rw [if_neg c, if_neg c2] at hq
      show Q (X0_caught L - X0_caught (X6_lawn v)) sp L
      rw [e3, hca]; exact hq _ _ hL.perm rfl
  · exact C_beat hL (beatN_good g.1 j) hn (fun uc ue us uu bt ca gn mc mo mr mn ri rt tp tu hL2 => ⟨⟨j + 1, rfl, by omega, hL2⟩, by omega⟩)
theorem M_passed {v : V_X7} {a : Lw} {n k : Nat} (h : MLawn (X7_s v) a) (g : Good n a) (hn : n ≤ 512) (hk : k ≤ 200) {x : Int32} {Q : Int32 → (Nat → Int32) → (Nat → Int32) → Prop} (hq : ∀ za zs, MLawn zs a → Q (if x = nI 0 then lRi (beatN k a) - lRi a else if x = nI 1 then nI (lTu (beatN k a)).length else lCa (beatN k a) - lCa a) za zs) : wp_X7_passed v (nI k) x Q := by
  have hft := g.1.fit hn
  have h2 : X7_s v 2 = lCa a := h.1.2.1
  unfold wp_X7_passed
  refine M_putAside (fun za hza => ⟨(nI_inI (a := 2) (by omega)).mpr (by omega), ?_⟩)
  refine M_beats (v := X7_s1 v za) h g hn hk (fun s hs => ?_)
  have s2 : s 2 = lCa (beatN k a) := hs.1.2.1
  have back : ∀ r, (∀ za zs, MLawn zs a → Q r za zs) → wp_X7_passed_47 v (nI k) x za s r Q := fun r hr => by
    unfold wp_X7_passed_47
    exact M_putBack (fun z hz => hr _ _ (h.of hft (fun q hq => (hz q hq).trans (hza q hq))))
  simp only [nI_lit]
  refine ⟨fun c => ?_, fun c => ⟨fun c2 => ?_, fun c2 => ?_⟩⟩
  · simp only [if_pos c] at hq
    exact back _ hq
  · simp only [if_neg c, if_pos c2] at hq
    have fb := ((beatN_good g k).1.fit hn).1
    exact M_tunnels (v := X7_s1 (X7_s0 v s) za) hs.2.1 fb.2 fb.1 (back _ hq)
  · simp only [if_neg c, if_neg c2] at hq
    refine back _ (fun za zs hz => ?_)
    show Q (s 2 - X7_s v 2) za zs
    rw [s2, h2]
    exact hq _ _ hz
theorem M_ifPassed {v : V_X7} {w : Wd} {n : Nat} (h : MW v w) (g : GoodW n w) {p x : Int32} {Q : Int32 → (Nat → Int32) → (Nat → Int32) → Int32 → Prop} (hq : ∀ b za zs, MLawn zs (wCur w) → ((o_ifPassed w p x).1 = 0 → b = (o_ifPassed w p x).2) → Q b za zs (nI (o_ifPassed w p x).1)) : wp_X7_ifPassed v p x Q := by
  have hn : n ≤ 512 := by have := g.2.2.2.1; omega
  have bad1 : o_ifPassed w p x = (1, 0) → wp_X7_ifPassed_25 v p x (nI 1) Q := fun eo => by
    rw [eo] at hq
    unfold wp_X7_ifPassed_25
    exact M_holdsK (k := 1) (by omega) (by omega) ⟨fun _ => hq _ _ _ h.1 (fun q => absurd (show 1 = 0 from q) (by decide)), fun q => absurd rfl q⟩
  unfold wp_X7_ifPassed wp_X7_ifPassed_24
  refine M_range (lo := 1) (hi := 30) (by omega) (by omega) (fun e => ⟨fun _ => bad1 (by unfold o_ifPassed; rw [e]), fun q => absurd rfl q⟩) (fun k hk1 hk30 hp e => ⟨fun q => absurd q (by decide), fun _ => ?_⟩)
  subst hp
  refine M_range (lo := 0) (hi := 2) (by omega) (by omega) (fun e2 => ⟨fun _ => bad1 (by unfold o_ifPassed; rw [e]; simp only []; rw [e2]), fun q => absurd rfl q⟩) (fun j _ hj hx e2 => ⟨fun q => absurd q (by decide), fun _ => ?_⟩)
  have eo : o_ifPassed w (nI k) x = (0, if x = nI 0 then lRi (beatN k (wCur w)) - lRi (wCur w) else if x = nI 1 then nI (lTu (beatN k (wCur w))).length else lCa (beatN k (wCur w)) - lCa (wCur w)) := by unfold o_ifPassed; rw [e]; simp only []; rw [e2]
  rw [eo] at hq
  unfold wp_X7_ifPassed_25
  exact M_holds0 ⟨fun q => absurd q (by decide), fun _ => M_passed (v := X7_s8 v (nI 0)) h.1 g.1 hn (by omega) (fun za zs hz => hq _ _ _ hz (fun _ => rfl))⟩
