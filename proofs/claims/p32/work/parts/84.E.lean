/-! What the calls answer about one mole, one tunnel, one cell, both sides. -/
def o_moleOf (w : Wd) (p x : Int32) : Nat × Int32 := match ix (lMo (wCur w)).length p with
  | none => (1, 0)
  | some m => match rg 0 6 x with
    | none => (2, 0)
    | some _ => (0, numM (mlA (lMo (wCur w)) m) x)
theorem C_moleOf {v : V_X6} {w : Wd} {n : Nat} (h : CW v w) (g : GoodW n w) {p x : Int32} {Q : Int32 → Prop} {QX : String → Prop} (hq : (o_moleOf w p x).1 = 0 → Q (o_moleOf w p x).2) (h1 : (o_moleOf w p x).1 = 1 → QX eI) (h2 : (o_moleOf w p x).1 = 2 → QX eA) : wp_X6_moleOf v p x Q QX := by
  have hn : n ≤ 512 := by have := g.2.2.2.1; omega
  have hf := (g.1.1.fit hn).2.1
  obtain ⟨c1, c2, c3, c4⟩ := h.1.2.2.2.2.2.1
  unfold wp_X6_moleOf
  refine C_checkMole c1 hf.1 (fun e => h1 (by unfold o_moleOf; rw [e])) (fun m hm hp e => ?_)
  subst hp
  refine C_checkWhat (n := 6) (by omega) (fun e2 => h2 (by unfold o_moleOf; rw [e]; simp only []; rw [e2])) (fun j hj hx e2 => ?_)
  have eo : o_moleOf w (nI m) x = (0, numM (mlA (lMo (wCur w)) m) x) := by unfold o_moleOf; rw [e]; simp only []; rw [e2]
  rw [eo] at hq
  have h4 := hf.1
  simp (disch := omega) only [nI_lit, nI_clamp, nI_inI]
  exact ⟨by omega, c2 _ (by omega), C_X1_number (c4 m hm) (hf.2 _ (mlA_mem hm)).1 (hq rfl)⟩
theorem M_toldOfMole {v : V_X7} {M : List Ml} (h : MMs (X7_s v) M) (hf : fitMs M) {m : Nat} (hm : m < M.length) {x : Nat} (hx : x ≤ 6) {Q : Int32 → Prop} (hq : Q (numM (mlA M m) (nI x))) : wp_X7_toldOfMole v (nI m) (nI x) Q := by
  obtain ⟨g1, g2, g3, g4, g5, g6, g7⟩ := h.2.1 m hm
  have ok := hf.2 _ (mlA_mem hm)
  have h4 := hf.1
  have f1 := ok.1
  have p1 : 0 < (mTr (mlA M m)).length := f1.2.1
  have g6' : X7_s v (264 + 46 * m + 24) = nI (at0 (mTr (mlA M m)) 0) := by
    have := g6 0 p1
    rw [show 264 + 46 * m + 24 = 264 + 46 * m + 24 + 0 from rfl, this, at0, List.getElem?_eq_getElem p1]
  have g4' : mPl (mlA M m) ≠ [] → X7_s v (264 + 46 * m + 3) = nI (at0 (mPl (mlA M m)) 0) := fun z => by
    have p2 := List.length_pos_iff.mpr z
    have := g4 0 p2
    rw [show 264 + 46 * m + 3 = 264 + 46 * m + 3 + 0 from rfl, this, at0, List.getElem?_eq_getElem p2]
  have f20 := f1.1
  have g1' : X7_s v (264 + 46 * m) = nI (lastOf (mTr (mlA M m))) := g1
  unfold wp_X7_toldOfMole
  unfold numM at hq
  simp only [nI_lit] at hq ⊢
  refine ⟨fun e => ?_, fun n0 => ⟨fun e => ?_, fun n1 => ⟨fun e => ?_, fun n2 => ⟨fun e => ?_, fun n3 => ⟨fun e => ?_, fun n4 => ⟨fun e => ?_, fun n5 => ?_⟩⟩⟩⟩⟩⟩
  · rw [if_pos e] at hq; rw [e]; simp (disch := omega) only [of_eq, nI_lit, nI_add, pk_mul, nI_clamp, nI_inI, Nat.add_zero]; rw [g1']; exact ⟨by omega, hq⟩
  · rw [if_neg n0, if_pos e] at hq; rw [e]; simp (disch := omega) only [of_eq, nI_lit, nI_add, pk_mul, nI_clamp, nI_inI, Nat.add_zero]; rw [g2]; exact ⟨by omega, hq⟩
  · rw [if_neg n0, if_neg n1, if_pos e] at hq; rw [e]; simp (disch := omega) only [of_eq, nI_lit, nI_add, pk_mul, nI_clamp, nI_inI, Nat.add_zero]; rw [g3]; exact ⟨by omega, hq⟩
  · rw [if_neg n0, if_neg n1, if_neg n2, if_pos e] at hq
    simp (disch := omega) only [of_eq, nI_lit, nI_add, pk_mul, nI_clamp, nI_inI, Nat.add_zero]
    rw [g3]
    simp (disch := omega) only [nI_eq, nN_eq]
    refine ⟨by omega, fun q => ?_, fun q => ⟨by omega, ?_⟩⟩
    · rw [if_pos (List.eq_nil_of_length_eq_zero q)] at hq; exact hq
    · have z : mPl (mlA M m) ≠ [] := by intro z; rw [z] at q; exact q rfl
      rw [if_neg z] at hq
      rw [g4' z]; exact hq
  · rw [if_neg n0, if_neg n1, if_neg n2, if_neg n3, if_pos e] at hq
    simp (disch := omega) only [of_eq, nI_lit, nI_add, pk_mul, nI_clamp, nI_inI, Nat.add_zero]; rw [g6']; exact ⟨by omega, hq⟩
  · rw [if_neg n0, if_neg n1, if_neg n2, if_neg n3, if_neg n4, if_pos e] at hq
    simp (disch := omega) only [of_eq, nI_lit, nI_add, pk_mul, nI_clamp, nI_inI, Nat.add_zero]; rw [g5]; exact ⟨by omega, hq⟩
  · rw [if_neg n0, if_neg n1, if_neg n2, if_neg n3, if_neg n4, if_neg n5] at hq
    simp (disch := omega) only [of_eq, nI_lit, nI_add, pk_mul, nI_clamp, nI_inI, Nat.add_zero]; rw [g7]; exact ⟨by omega, hq⟩
theorem M_moleOf {v : V_X7} {w : Wd} {n : Nat} (h : MW v w) (g : GoodW n w) {p x : Int32} {Q : Int32 → Int32 → Prop} (hq : ∀ b, ((o_moleOf w p x).1 = 0 → b = (o_moleOf w p x).2) → Q b (nI (o_moleOf w p x).1)) : wp_X7_moleOf v p x Q := by
  have hn : n ≤ 512 := by have := g.2.2.2.1; omega
  have hf := (g.1.1.fit hn).2.1
  unfold wp_X7_moleOf
  refine M_isMole h.1.2.2 hf.1 (fun e => ⟨fun _ => ?_, fun q => absurd rfl q⟩) (fun m hm hp e => ⟨fun q => absurd q (by decide), fun _ => ?_⟩)
  · have eo : o_moleOf w p x = (1, 0) := by unfold o_moleOf; rw [e]
    rw [eo] at hq
    unfold wp_X7_moleOf_28
    exact M_holdsK (k := 1) (by omega) (by omega) ⟨fun _ => hq _ (fun q => absurd (show 1 = 0 from q) (by decide)), fun q => absurd rfl q⟩
  subst hp
  refine M_range (lo := 0) (hi := 6) (by omega) (by omega) (fun e2 => ⟨fun _ => ?_, fun q => absurd rfl q⟩) (fun j _ hj hx e2 => ⟨fun q => absurd q (by decide), fun _ => ?_⟩)
  · have eo : o_moleOf w (nI m) x = (2, 0) := by unfold o_moleOf; rw [e]; simp only []; rw [e2]
    rw [eo] at hq
    unfold wp_X7_moleOf_28
    exact M_holdsK (k := 2) (by omega) (by omega) ⟨fun _ => hq _ (fun q => absurd (show 2 = 0 from q) (by decide)), fun q => absurd rfl q⟩
  · have eo : o_moleOf w (nI m) x = (0, numM (mlA (lMo (wCur w)) m) x) := by unfold o_moleOf; rw [e]; simp only []; rw [e2]
    rw [eo] at hq
    subst hx
    unfold wp_X7_moleOf_28
    exact M_holds0 ⟨fun q => absurd q (by decide), fun _ => M_toldOfMole (v := X7_s8 v (nI 0)) h.1.2.2 hf hm hj (hq _ (fun _ => rfl))⟩
/-- a tunnel -/
def o_tunnel (w : Wd) (p x : Int32) : Nat × Int32 := match ix (lTu (wCur w)).length p with
  | none => (1, 0)
  | some i => match rg 0 2 x with
    | none => (2, 0)
    | some _ => (0, numT (row (lTu (wCur w)) i) x)
theorem C_tunnel {v : V_X6} {w : Wd} {n : Nat} (h : CW v w) (g : GoodW n w) {p x : Int32} {Q : Int32 → Prop} {QX : String → Prop} (hq : (o_tunnel w p x).1 = 0 → Q (o_tunnel w p x).2) (h1 : (o_tunnel w p x).1 = 1 → QX eI) (h2 : (o_tunnel w p x).1 = 2 → QX eA) : wp_X6_tunnel v p x Q QX := by
  have hn : n ≤ 512 := by have := g.2.2.2.1; omega
  have hf := (g.1.1.fit hn).1
  have hc := h.1.2.2.2.2.1
  unfold wp_X6_tunnel
  refine C_checkTunnel hc.parts.2.2.1 hf.1.2 (fun e => h1 (by unfold o_tunnel; rw [e])) (fun i hi hp e => ?_)
  subst hp
  refine C_checkWhat (n := 2) (by omega) (fun e2 => h2 (by unfold o_tunnel; rw [e]; simp only []; rw [e2])) (fun j hj hx e2 => ?_)
  have eo : o_tunnel w (nI i) x = (0, numT (row (lTu (wCur w)) i) x) := by unfold o_tunnel; rw [e]; simp only []; rw [e2]
  rw [eo] at hq
  exact C_X3_number hc hf.1 hi (hf.2 _ (row_mem hi)).1 (hq rfl)
theorem M_isTunnel {v : V_X7} {T : Tu} (h : MCells (X7_s v) (enc T)) (hf : fitTu T) {p : Int32} {Q : Int32 → Prop} (h0 : ix T.length p = none → Q (nI 0)) (h1 : ∀ j, j < T.length → p = nI j → ix T.length p = some j → Q (nI 1)) : wp_X7_isTunnel v p Q := by
  unfold wp_X7_isTunnel
  refine M_tunnels h hf.2 hf.1 ?_
  have := hf.1.2
  simp only [nI_lit]
  rw [pI_of]
  exact M_ix (by omega) (fun e => ⟨bz_0, h0 e⟩) (fun j hj hp e => ⟨bz_1, h1 j hj hp e⟩)
theorem M_toldOfTunnel {v : V_X7} {T : Tu} (h : MCells (X7_s v) (enc T)) (hf : fitTu T) {i : Nat} (hi : i < T.length) {x : Int32} {Q : Int32 → Prop} (hq : Q (numT (row T i) x)) : wp_X7_toldOfTunnel v (nI i) x Q := by
  have hok : okT T := ⟨hf.2, hf.1⟩
  have pos := List.length_pos_iff.mpr (hf.2 _ (row_mem hi)).1
  have l1 := off_row hi
  have l2 := off_le T (i + 1)
  have l3 := hf.1.1
  unfold wp_X7_toldOfTunnel
  refine M_beginOf h hf.2 hf.1 (by omega) (M_end h hok hi ?_)
  unfold numT at hq
  simp only [nI_lit] at hq ⊢
  refine ⟨fun e => ?_, fun n0 => ⟨fun e => ?_, fun n1 => ?_⟩⟩
  · rw [if_pos e] at hq; exact M_first h hok hi hq
  · rw [if_neg n0, if_pos e] at hq; exact M_last h hok hi hq
  · rw [if_neg n0, if_neg n1] at hq
    rw [pk_sub (by omega), nI_add, show off T i + (row T i).length - 1 - off T i + 1 = (row T i).length by omega]
    exact hq
theorem M_tunnel {v : V_X7} {w : Wd} {n : Nat} (h : MW v w) (g : GoodW n w) {p x : Int32} {Q : Int32 → Int32 → Prop} (hq : ∀ b, ((o_tunnel w p x).1 = 0 → b = (o_tunnel w p x).2) → Q b (nI (o_tunnel w p x).1)) : wp_X7_tunnel v p x Q := by
  have hn : n ≤ 512 := by have := g.2.2.2.1; omega
  have hf := (g.1.1.fit hn).1
  unfold wp_X7_tunnel
  refine M_isTunnel h.1.2.1 hf (fun e => ⟨fun _ => ?_, fun q => absurd rfl q⟩) (fun i hi hp e => ⟨fun q => absurd q (by decide), fun _ => ?_⟩)
  · have eo : o_tunnel w p x = (1, 0) := by unfold o_tunnel; rw [e]
    rw [eo] at hq
    unfold wp_X7_tunnel_27
    exact M_holdsK (k := 1) (by omega) (by omega) ⟨fun _ => hq _ (fun q => absurd (show 1 = 0 from q) (by decide)), fun q => absurd rfl q⟩
  subst hp
  refine M_range (lo := 0) (hi := 2) (by omega) (by omega) (fun e2 => ⟨fun _ => ?_, fun q => absurd rfl q⟩) (fun j _ hj hx e2 => ⟨fun q => absurd q (by decide), fun _ => ?_⟩)
  · have eo : o_tunnel w (nI i) x = (2, 0) := by unfold o_tunnel; rw [e]; simp only []; rw [e2]
    rw [eo] at hq
    unfold wp_X7_tunnel_27
    exact M_holdsK (k := 2) (by omega) (by omega) ⟨fun _ => hq _ (fun q => absurd (show 2 = 0 from q) (by decide)), fun q => absurd rfl q⟩
  · have eo : o_tunnel w (nI i) x = (0, numT (row (lTu (wCur w)) i) x) := by unfold o_tunnel; rw [e]; simp only []; rw [e2]
    rw [eo] at hq
    unfold wp_X7_tunnel_27
    exact M_holds0 ⟨fun q => absurd q (by decide), fun _ => M_toldOfTunnel (v := X7_s8 v (nI 0)) h.1.2.1 hf hi (hq _ (fun _ => rfl))⟩
/-- a cell of a tunnel -/
def o_cell (w : Wd) (p x : Int32) : Nat × Int32 := match ix (lTu (wCur w)).length p with
  | none => (1, 0)
  | some i => if nI 0 ≤ x then (0, atI (row (lTu (wCur w)) i) x) else (2, 0)
theorem C_cell {v : V_X6} {w : Wd} {n : Nat} (h : CW v w) (g : GoodW n w) {p x : Int32} {Q : Int32 → Prop} {QX : String → Prop} (hq : (o_cell w p x).1 = 0 → Q (o_cell w p x).2) (h1 : (o_cell w p x).1 = 1 → QX eI) (h2 : (o_cell w p x).1 = 2 → QX eA) : wp_X6_cell v p x Q QX := by
  have hn : n ≤ 512 := by have := g.2.2.2.1; omega
  have hf := (g.1.1.fit hn).1
  have hc := h.1.2.2.2.2.1
  unfold wp_X6_cell
  refine C_checkTunnel hc.parts.2.2.1 hf.1.2 (fun e => h1 (by unfold o_cell; rw [e])) (fun i hi hp e => ?_)
  subst hp
  have eo : o_cell w (nI i) x = if nI 0 ≤ x then (0, atI (row (lTu (wCur w)) i) x) else (2, 0) := by unfold o_cell; rw [e]
  refine ⟨fun e2 => ?_, fun e2 => h2 (by rw [eo, if_neg (show ¬ nI 0 ≤ x from e2)])⟩
  rw [eo, if_pos (show nI 0 ≤ x from e2)] at hq
  exact C_X3_at hc hf.1 hi (hq rfl)
theorem M_cellOf {v : V_X7} {T : Tu} (h : MCells (X7_s v) (enc T)) (hf : fitTu T) {i : Nat} (hi : i < T.length) {x : Int32} (hx : nI 0 ≤ x) {Q : Int32 → Prop} (hq : Q (atI (row T i) x)) : wp_X7_cellOf v (nI i) x Q := by
  have hok : okT T := ⟨hf.2, hf.1⟩
  have l1 := off_row hi
  have l2 := off_le T (i + 1)
  have l3 := hf.1.1
  have hx0 : ¬ x < nI 0 := Int32.not_lt.mpr hx
  obtain ⟨k, hk, rfl⟩ := nI_of hx0
  unfold wp_X7_cellOf
  refine M_toldOfTunnel h hf hi ?_
  have e3 : numT (row T i) 2 = nI (row T i).length := rfl
  rw [e3]
  unfold atI at hq
  refine ⟨fun e => ?_, fun e => ?_⟩
  · rw [if_neg (fun z => z.2 e)] at hq; exact hq
  · rw [if_pos ⟨hx0, e⟩, nI_clamp hk] at hq
    refine M_beginOf h hf.2 hf.1 (by omega) ?_
    have hk2 : k < (row T i).length := by
      rw [nI_leI (by omega) hk] at e; omega
    rw [nI_add]
    exact M_tuftAt h (by rw [enc_len]; exact hf.1.1) (pc_enc hf.2 hi) hk2 hq
theorem M_cell {v : V_X7} {w : Wd} {n : Nat} (h : MW v w) (g : GoodW n w) {p x : Int32} {Q : Int32 → Int32 → Prop} (hq : ∀ b, ((o_cell w p x).1 = 0 → b = (o_cell w p x).2) → Q b (nI (o_cell w p x).1)) : wp_X7_cell v p x Q := by
  have hn : n ≤ 512 := by have := g.2.2.2.1; omega
  have hf := (g.1.1.fit hn).1
  unfold wp_X7_cell
  refine M_isTunnel h.1.2.1 hf (fun e => ⟨fun _ => ?_, fun q => absurd rfl q⟩) (fun i hi hp e => ⟨fun q => absurd q (by decide), fun _ => ?_⟩)
  · have eo : o_cell w p x = (1, 0) := by unfold o_cell; rw [e]
    rw [eo] at hq
    unfold wp_X7_cell_22
    exact M_holdsK (k := 1) (by omega) (by omega) ⟨fun _ => hq _ (fun q => absurd (show 1 = 0 from q) (by decide)), fun q => absurd rfl q⟩
  subst hp
  have eo : o_cell w (nI i) x = if nI 0 ≤ x then (0, atI (row (lTu (wCur w)) i) x) else (2, 0) := by unfold o_cell; rw [e]
  refine ⟨fun e2 => ?_, fun e2 => ?_⟩
  · rw [eo, if_pos (show nI 0 ≤ x from e2)] at hq
    unfold wp_X7_cell_22
    exact M_holds0 ⟨fun q => absurd q (by decide), fun _ => M_cellOf (v := X7_s8 v (nI 0)) h.1.2.1 hf hi e2 (hq _ (fun _ => rfl))⟩
  · rw [eo, if_neg (show ¬ nI 0 ≤ x from e2)] at hq
    unfold wp_X7_cell_22
    exact M_holdsK (k := 2) (by omega) (by omega) ⟨fun _ => hq _ (fun q => absurd (show 2 = 0 from q) (by decide)), fun q => absurd rfl q⟩
