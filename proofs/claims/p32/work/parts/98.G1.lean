/-! What would be: a dig, some beats; both sides. -/
def o_ifDug (w : Wd) (p x : Int32) : Nat × Int32 := match ix 64 p with
  | none => (1, 0)
  | some t => match rg 0 2 x with
    | none => (2, 0)
    | some _ => (0, if x = nI 0 then lFa (dug (wCur w) t) - lFa (wCur w) else if x = nI 1 then nI ((lMo (wCur w)).length - ((lMo (wCur w)).filter (notAt t)).length) else nI (cnt (fun u => hol (dug (wCur w) t) u) 64))
theorem C_ifDug {v : V_X6} {w : Wd} {n : Nat} (h : CW v w) (g : GoodW n w) {p x : Int32} {Q : Int32 → V_X3 → V_X4 → V_X0 → Prop} {QX : String → Prop} (hq : ∀ sp s tr, permL tr → (o_ifDug w p x).1 = 0 → Q (o_ifDug w p x).2 sp s tr) (h1 : (o_ifDug w p x).1 = 1 → QX eI) (h2 : (o_ifDug w p x).1 = 2 → QX eA) : wp_X6_ifDug v p x Q QX := by
  have hn : n ≤ 512 := by have := g.2.2.2.1; omega
  have hft := g.1.1.fit hn
  have hc := h.1
  have hfa : X0_fallen (X6_lawn v) = lFa (wCur w) := hc.2.2.2.2.2.2.2.2.2.2.2
  unfold wp_X6_ifDug
  refine C_checkTuft (fun e => h1 (by unfold o_ifDug; rw [e])) (fun t ht hp e => ?_)
  subst hp
  refine C_checkWhat (n := 2) (by omega) (fun e2 => h2 (by unfold o_ifDug; rw [e]; simp only []; rw [e2])) (fun j hj hx e2 => ?_)
  have eo : o_ifDug w (nI t) x = (0, if x = nI 0 then lFa (dug (wCur w) t) - lFa (wCur w) else if x = nI 1 then nI ((lMo (wCur w)).length - ((lMo (wCur w)).filter (notAt t)).length) else nI (cnt (fun u => hol (dug (wCur w) t) u) 64)) := by unfold o_ifDug; rw [e]; simp only []; rw [e2]
  rw [eo] at hq
  have gd := dug_good (t := t) g.1
  obtain ⟨d1, d2, -⟩ := dug_facts (t := t) g.1 hn
  refine C_X0_copyFrom hc hft h.2.2.1 (fun bt ca fa ai gn mc mo mn op ri rt tp tu hL => ?_)
  refine C_X0_digUp hL hft ht d1 d2 (fun uc ue us uu ca2 fa2 mc2 mo2 mr2 mn2 op2 ri2 rt2 tp2 tu2 hL2 => ?_)
  have hf2 : fa2 = lFa (dug (wCur w) t) := hL2.2.2.2.2.2.2.2.2.2.2.2
  simp only [nI_lit]
  refine ⟨fun c => ?_, fun c => ⟨fun c2 => ?_, fun c2 => ?_⟩⟩
  · rw [if_pos c] at hq
    rw [hf2, hfa]
    exact hq _ _ _ hL2.perm rfl
  · rw [if_neg c, if_pos c2] at hq
    exact hq _ _ _ hL2.perm rfl
  · rw [if_neg c, if_neg c2] at hq
    exact C_read hL2 gd hn (fun zc zh zs zu hs => C_hollowCount hs (hq _ _ _ hL2.perm rfl))
theorem M_putAside {v : V_X7} {Q : (Nat → Int32) → Prop} (hq : ∀ z, (∀ q, q < 1472 → z q = X7_s v q) → Q z) : wp_X7_putAside v Q := by
  unfold wp_X7_putAside wp_X7_putAside_2
  refine ⟨fun y z => ∃ k, y = nI k ∧ k ≤ 1472 ∧ ∀ q, q < k → z q = X7_s v q, fun y _ => 2000 - y.toNatClampNeg, ⟨0, rfl, by omega, fun q hq => by omega⟩, ?_⟩
  rintro _ z ⟨k, rfl, hk, hz⟩
  unfold wb_X7_putAside_2
  simp (disch := omega) only [nI_lit, nI_clamp, nI_inI, nI_add, nI_leI]
  refine ⟨fun e => hq z (fun q hq => hz q (by omega)), fun e => ⟨by omega, ⟨k + 1, rfl, by omega, fun q hq => ?_⟩, by omega⟩⟩
  by_cases c : q = k
  · subst c; exact upd_s _ _ _
  · rw [upd_n c]; exact hz q (by omega)
theorem M_putBack {v : V_X7} {Q : (Nat → Int32) → Prop} (hq : ∀ z, (∀ q, q < 1472 → z q = X7_aside v q) → Q z) : wp_X7_putBack v Q := by
  unfold wp_X7_putBack wp_X7_putBack_2
  refine ⟨fun y z => ∃ k, y = nI k ∧ k ≤ 1472 ∧ ∀ q, q < k → z q = X7_aside v q, fun y _ => 2000 - y.toNatClampNeg, ⟨0, rfl, by omega, fun q hq => by omega⟩, ?_⟩
  rintro _ z ⟨k, rfl, hk, hz⟩
  unfold wb_X7_putBack_2
  simp (disch := omega) only [nI_lit, nI_clamp, nI_inI, nI_add, nI_leI]
  refine ⟨fun e => hq z (fun q hq => hz q (by omega)), fun e => ⟨by omega, ⟨k + 1, rfl, by omega, fun q hq => ?_⟩, by omega⟩⟩
  by_cases c : q = k
  · subst c; exact upd_s _ _ _
  · rw [upd_n c]; exact hz q (by omega)
theorem M_whenDug {v : V_X7} {a : Lw} {n : Nat} (h : MLawn (X7_s v) a) (g : Good n a) (hn : n ≤ 512) {t : Nat} (ht : t < 64) {x : Int32} {Q : Int32 → (Nat → Int32) → (Nat → Int32) → (Nat → Int32) → Prop} (hq : ∀ za zh zs, MLawn zs a → Q (if x = nI 0 then lFa (dug a t) - lFa a else if x = nI 1 then nI ((lMo a).length - ((lMo a).filter (notAt t)).length) else nI (cnt (fun u => hol (dug a t) u) 64)) za zh zs) : wp_X7_whenDug v (nI t) x Q := by
  have hft := g.1.fit hn
  have gd := dug_good (t := t) g
  have h5 : X7_s v 5 = lFa a := h.1.2.2.2.2.1
  obtain ⟨d1, d2, d3, d4, d5⟩ := dug_facts (t := t) g hn
  unfold wp_X7_whenDug
  refine M_putAside (fun za hza => ⟨(nI_inI (a := 5) (by omega)).mpr (by omega), ?_⟩)
  refine M_dug (v := X7_s1 v za) h hft ht d1 (g.1.T hn).2 d2 d3 d4 d5 (fun s hs => ?_)
  have s5 : s 5 = lFa (dug a t) := hs.1.2.2.2.2.1
  have back : ∀ r zh, (∀ za zh zs, MLawn zs a → Q r za zh zs) → wp_X7_whenDug_47 v (nI t) x za zh s r Q := fun r zh hr => by
    unfold wp_X7_whenDug_47
    exact M_putBack (fun z hz => hr _ _ _ (h.of hft (fun q hq => (hz q hq).trans (hza q hq))))
  simp only [nI_lit]
  refine ⟨fun c => ?_, fun c => ⟨fun c2 => ?_, fun c2 => ?_⟩⟩
  · simp only [if_pos c] at hq
    refine back _ _ (fun za zh zs hz => ?_)
    show Q (s 5 - X7_s v 5) za zh zs
    rw [s5, h5]
    exact hq _ _ _ hz
  · simp only [if_neg c, if_pos c2] at hq
    exact back _ _ hq
  · simp only [if_neg c, if_neg c2] at hq
    exact M_hollow (v := X7_s1 (X7_s0 v s) za) hs gd hn (fun z => back _ _ hq)
theorem M_ifDug {v : V_X7} {w : Wd} {n : Nat} (h : MW v w) (g : GoodW n w) {p x : Int32} {Q : Int32 → (Nat → Int32) → (Nat → Int32) → (Nat → Int32) → Int32 → Prop} (hq : ∀ b za zh zs, MLawn zs (wCur w) → ((o_ifDug w p x).1 = 0 → b = (o_ifDug w p x).2) → Q b za zh zs (nI (o_ifDug w p x).1)) : wp_X7_ifDug v p x Q := by
  have hn : n ≤ 512 := by have := g.2.2.2.1; omega
  unfold wp_X7_ifDug
  refine M_isTuft (fun e => ⟨fun _ => ?_, fun q => absurd rfl q⟩) (fun t ht hp e => ⟨fun q => absurd q (by decide), fun _ => ?_⟩)
  · have eo : o_ifDug w p x = (1, 0) := by unfold o_ifDug; rw [e]
    rw [eo] at hq
    unfold wp_X7_ifDug_26
    exact M_holdsK (k := 1) (by omega) (by omega) ⟨fun _ => hq _ _ _ _ h.1 (fun q => absurd (show 1 = 0 from q) (by decide)), fun q => absurd rfl q⟩
  subst hp
  refine M_range (lo := 0) (hi := 2) (by omega) (by omega) (fun e2 => ⟨fun _ => ?_, fun q => absurd rfl q⟩) (fun j _ hj hx e2 => ⟨fun q => absurd q (by decide), fun _ => ?_⟩)
  · have eo : o_ifDug w (nI t) x = (2, 0) := by unfold o_ifDug; rw [e]; simp only []; rw [e2]
    rw [eo] at hq
    unfold wp_X7_ifDug_26
    exact M_holdsK (k := 2) (by omega) (by omega) ⟨fun _ => hq _ _ _ _ h.1 (fun q => absurd (show 2 = 0 from q) (by decide)), fun q => absurd rfl q⟩
  · have eo : o_ifDug w (nI t) x = (0, if x = nI 0 then lFa (dug (wCur w) t) - lFa (wCur w) else if x = nI 1 then nI ((lMo (wCur w)).length - ((lMo (wCur w)).filter (notAt t)).length) else nI (cnt (fun u => hol (dug (wCur w) t) u) 64)) := by unfold o_ifDug; rw [e]; simp only []; rw [e2]
    rw [eo] at hq
    unfold wp_X7_ifDug_26
    exact M_holds0 ⟨fun q => absurd q (by decide), fun _ => M_whenDug (v := X7_s8 v (nI 0)) h.1 g.1 hn ht (fun za zh zs hz => hq _ _ _ _ hz (fun _ => rfl))⟩
