/-! What the calls answer about one tuft, both sides. -/
def numU (a : Lw) (t : Nat) (x : Int32) : Int32 := if x = nI 0 then bI (lMn a t) else if x = nI 1 then lRt a t else if x = nI 2 then lTp a t else if x = nI 3 then bI (hol a t) else if x = nI 4 then nI (cntB t (hol a)) else if x = nI 5 then bI (lOp a t) else if x = nI 6 then sureA a t else if x = nI 7 then nI (crN (lTu a) t) else nI (cnt (fun i => lastOf (mTr (mlA (lMo a) i)) == t) (lMo a).length)
def o_tuft (w : Wd) (p x : Int32) : Nat × Int32 := match ix 64 p with
  | none => (1, 0)
  | some t => match rg 0 8 x with
    | none => (2, 0)
    | some _ => (0, numU (wCur w) t x)
theorem bI_if {b : Bool} {Q : Int32 → Prop} (h : Q (bI b)) : (bI b = nI 0 → Q (nI 0)) ∧ (¬ bI b = nI 0 → Q (nI 1)) := by
  cases b with
  | true => exact ⟨fun q => absurd (show nI 1 = nI 0 from q) (by decide), fun _ => h⟩
  | false => exact ⟨fun _ => h, fun q => absurd rfl q⟩
theorem C_numberOfTuft {v : V_X6} {a : Lw} {n : Nat} (h : CLawn (X6_lawn v) a) (g : Good n a) (hn : n ≤ 512) (hs : CSv (X6_survey v) a) {t : Nat} (ht : t < 64) {x : Int32} {Q : Int32 → Prop} (hq : Q (numU a t x)) : wp_X6_numberOfTuft v (nI t) x Q := by
  have hft := g.1.fit hn
  obtain ⟨s1, s2, s3⟩ := hs t ht
  unfold wp_X6_numberOfTuft
  unfold numU at hq
  simp only [nI_lit] at hq ⊢
  rw [nI_clamp (by omega)]
  have hin : vp_in (nI t) 64 := (nI_inI (by omega)).mpr ht
  refine ⟨fun e => ?_, fun n0 => ⟨fun e => ?_, fun n1 => ⟨fun e => ?_, fun n2 => ⟨fun e => ?_, fun n3 => ⟨fun e => ?_, fun n4 => ⟨fun e => ?_, fun n5 => ⟨fun e => ?_, fun n6 => ⟨fun e => ?_, fun n7 => ?_⟩⟩⟩⟩⟩⟩⟩⟩
  · rw [if_pos e] at hq; rw [h.1 t ht]; exact ⟨hin, bI_if hq⟩
  · rw [if_neg n0, if_pos e] at hq; rw [h.2.2.1 t ht]; exact ⟨hin, hq⟩
  · rw [if_neg n0, if_neg n1, if_pos e] at hq; rw [h.2.2.2.1 t ht]; exact ⟨hin, hq⟩
  · rw [if_neg n0, if_neg n1, if_neg n2, if_pos e] at hq; rw [s1]; exact ⟨hin, hq⟩
  · rw [if_neg n0, if_neg n1, if_neg n2, if_neg n3, if_pos e] at hq
    refine C_countBeside ht ?_
    rw [cntB_congr (P' := hol a) (fun u hu => by rw [(hs u hu).1]; cases hol a u <;> rfl)]
    exact hq
  · rw [if_neg n0, if_neg n1, if_neg n2, if_neg n3, if_neg n4, if_pos e] at hq; rw [h.2.1 t ht]; exact ⟨hin, bI_if hq⟩
  · rw [if_neg n0, if_neg n1, if_neg n2, if_neg n3, if_neg n4, if_neg n5, if_pos e] at hq; rw [s3]; exact ⟨hin, hq⟩
  · rw [if_neg n0, if_neg n1, if_neg n2, if_neg n3, if_neg n4, if_neg n5, if_neg n6, if_pos e] at hq; rw [s2]; exact ⟨hin, hq⟩
  · rw [if_neg n0, if_neg n1, if_neg n2, if_neg n3, if_neg n4, if_neg n5, if_neg n6, if_neg n7] at hq
    exact C_X0_molesAt h hft.2.1 ht hq
theorem C_tuft {v : V_X6} {w : Wd} {n : Nat} (h : CW v w) (g : GoodW n w) {p x : Int32} {Q : Int32 → V_X4 → Prop} {QX : String → Prop} (hq : ∀ s, (o_tuft w p x).1 = 0 → Q (o_tuft w p x).2 s) (h1 : (o_tuft w p x).1 = 1 → QX eI) (h2 : (o_tuft w p x).1 = 2 → QX eA) : wp_X6_tuft v p x Q QX := by
  have hn : n ≤ 512 := by have := g.2.2.2.1; omega
  unfold wp_X6_tuft
  refine C_checkTuft (fun e => h1 (by unfold o_tuft; rw [e])) (fun t ht hp e => ?_)
  subst hp
  refine C_checkWhat (n := 8) (by omega) (fun e2 => h2 (by unfold o_tuft; rw [e]; simp only []; rw [e2])) (fun j hj hx e2 => ?_)
  have eo : o_tuft w (nI t) x = (0, numU (wCur w) t x) := by unfold o_tuft; rw [e]; simp only []; rw [e2]
  rw [eo] at hq
  exact C_read h.1 g.1 hn (fun zc zh zs zu hs => C_numberOfTuft (v := X6_s6 v (zh, zc, zu, zs)) h.1 g.1 hn hs ht (hq _ rfl))
theorem M_molesAt {v : V_X7} {M : List Ml} (h : MMs (X7_s v) M) (h4 : M.length ≤ 4) {t : Nat} (ht : t < 64) (hb : ∀ i, i < M.length → lastOf (mTr (mlA M i)) < 64) {Q : Int32 → Prop} (hq : Q (nI (cnt (fun i => lastOf (mTr (mlA M i)) == t) M.length))) : wp_X7_molesAt v (nI t) Q := by
  unfold wp_X7_molesAt wp_X7_molesAt_4
  refine ⟨fun y2 y3 => ∃ i, y3 = nI i ∧ i ≤ M.length ∧ y2 = nI (cnt (fun i => lastOf (mTr (mlA M i)) == t) i), fun _ y3 => 10 - y3.toNatClampNeg, ⟨0, rfl, Nat.zero_le _, rfl⟩, ?_⟩
  rintro _ _ ⟨i, rfl, hi, rfl⟩
  unfold wb_X7_molesAt_4
  simp (disch := omega) only [nI_lit, nI_clamp, nI_inI]
  rw [h.1]
  simp (disch := omega) only [nI_leI]
  refine ⟨by omega, fun e => ?_, fun e => ?_⟩
  · have : i = M.length := by omega
    subst this
    exact hq
  · have g1 : X7_s v (264 + 46 * i) = nI (lastOf (mTr (mlA M i))) := (h.2.1 i (by omega)).1
    have b := hb i (by omega)
    simp (disch := omega) only [of_eq, nI_lit, nI_add, pk_mul, nI_clamp, nI_inI, Nat.add_zero]
    rw [g1]
    simp (disch := omega) only [nI_eq]
    refine ⟨by omega, fun e2 => ⟨⟨i + 1, rfl, by omega, ?_⟩, by omega⟩, fun e2 => ⟨⟨i + 1, rfl, by omega, ?_⟩, by omega⟩⟩
    · rw [cnt_t (by simpa using e2)]
    · rw [cnt_f (by simpa using e2)]; rfl
theorem M_toldOfTuft {v : V_X7} {a : Lw} {n : Nat} (h : MLawn (X7_s v) a) (g : Good n a) (hn : n ≤ 512) {t : Nat} (ht : t < 64) {x : Int32} {Q : Int32 → (Nat → Int32) → (Nat → Int32) → Prop} (hq : ∀ zh zu, Q (numU a t x) zh zu) : wp_X7_toldOfTuft v (nI t) x Q := by
  have hft := g.1.fit hn
  obtain ⟨b0, b2, b3, b4, b5, b6, bm, br, bt, bo⟩ := h.1
  unfold wp_X7_toldOfTuft
  unfold numU at hq
  simp (disch := omega) only [nI_lit, nI_add, nI_clamp, nI_inI] at hq ⊢
  refine ⟨fun e => ?_, fun n0 => ⟨fun e => ?_, fun n1 => ⟨fun e => ?_, fun n2 => ⟨fun e => ?_, fun n3 => ⟨fun e => ?_, fun n4 => ⟨fun e => ?_, fun n5 => ⟨fun e => ?_, fun n6 => ⟨fun e => ?_, fun n7 => ?_⟩⟩⟩⟩⟩⟩⟩⟩
  · rw [if_pos e] at hq; rw [bm t ht]; exact ⟨by omega, hq _ _⟩
  · rw [if_neg n0, if_pos e] at hq; rw [br t ht]; exact ⟨by omega, hq _ _⟩
  · rw [if_neg n0, if_neg n1, if_pos e] at hq; rw [bt t ht]; exact ⟨by omega, hq _ _⟩
  · rw [if_neg n0, if_neg n1, if_neg n2, if_pos e] at hq
    refine M_layHollow h g hn (fun z hz => ?_)
    rw [hz t ht]
    exact ⟨ht, bI_if (Q := fun r => Q r z (X7_sure v)) (hq _ _)⟩
  · rw [if_neg n0, if_neg n1, if_neg n2, if_neg n3, if_pos e] at hq
    exact M_layHollow h g hn (fun z hz => M_numberOf (v := X7_s12 v z) hz ht (hq _ _))
  · rw [if_neg n0, if_neg n1, if_neg n2, if_neg n3, if_neg n4, if_pos e] at hq; rw [bo t ht]; exact ⟨by omega, hq _ _⟩
  · rw [if_neg n0, if_neg n1, if_neg n2, if_neg n3, if_neg n4, if_neg n5, if_pos e] at hq
    refine M_laySure h g hn (fun zh zu _ hu => ?_)
    rw [hu t ht]
    exact ⟨ht, hq _ _⟩
  · rw [if_neg n0, if_neg n1, if_neg n2, if_neg n3, if_neg n4, if_neg n5, if_neg n6, if_pos e] at hq
    exact M_tunnelsWith h.2.1 hft.1 ht (hq _ _)
  · rw [if_neg n0, if_neg n1, if_neg n2, if_neg n3, if_neg n4, if_neg n5, if_neg n6, if_neg n7] at hq
    refine M_molesAt h.2.2 hft.2.1.1 ht (fun i hi => ?_) (hq _ _)
    have ok := hft.2.1.2 _ (mlA_mem hi)
    exact ok.2.1 _ (lastOf_mem (List.length_pos_iff.mp ok.1.2.1))
theorem M_tuft {v : V_X7} {w : Wd} {n : Nat} (h : MW v w) (g : GoodW n w) {p x : Int32} {Q : Int32 → (Nat → Int32) → (Nat → Int32) → Int32 → Prop} (hq : ∀ b zh zu, ((o_tuft w p x).1 = 0 → b = (o_tuft w p x).2) → Q b zh zu (nI (o_tuft w p x).1)) : wp_X7_tuft v p x Q := by
  have hn : n ≤ 512 := by have := g.2.2.2.1; omega
  unfold wp_X7_tuft
  refine M_isTuft (fun e => ⟨fun _ => ?_, fun q => absurd rfl q⟩) (fun t ht hp e => ⟨fun q => absurd q (by decide), fun _ => ?_⟩)
  · have eo : o_tuft w p x = (1, 0) := by unfold o_tuft; rw [e]
    rw [eo] at hq
    unfold wp_X7_tuft_27
    exact M_holdsK (k := 1) (by omega) (by omega) ⟨fun _ => hq _ _ _ (fun q => absurd (show 1 = 0 from q) (by decide)), fun q => absurd rfl q⟩
  subst hp
  refine M_range (lo := 0) (hi := 8) (by omega) (by omega) (fun e2 => ⟨fun _ => ?_, fun q => absurd rfl q⟩) (fun j _ hj hx e2 => ⟨fun q => absurd q (by decide), fun _ => ?_⟩)
  · have eo : o_tuft w (nI t) x = (2, 0) := by unfold o_tuft; rw [e]; simp only []; rw [e2]
    rw [eo] at hq
    unfold wp_X7_tuft_27
    exact M_holdsK (k := 2) (by omega) (by omega) ⟨fun _ => hq _ _ _ (fun q => absurd (show 2 = 0 from q) (by decide)), fun q => absurd rfl q⟩
  · have eo : o_tuft w (nI t) x = (0, numU (wCur w) t x) := by unfold o_tuft; rw [e]; simp only []; rw [e2]
    rw [eo] at hq
    unfold wp_X7_tuft_27
    exact M_holds0 ⟨fun q => absurd q (by decide), fun _ => M_toldOfTuft (v := X7_s8 v (nI 0)) h.1 g.1 hn ht (fun zh zu => hq _ _ _ (fun _ => rfl))⟩
