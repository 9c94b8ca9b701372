/-! The reference reads the buffer. -/
theorem stuck {b : List Nat} {k d : Nat} (hk : k ≤ b.length) (h : dueAt b k = some d) (h3 : d ≠ 3 ∨ k < b.length) (hn : k < b.length → due d (at0 b k) = none) : errAt b = k ∧ complete b = false := by
  by_cases e : k < b.length
  · have h1 : dueAt b (k + 1) = none := by rw [dueAt_s h]; exact hn e
    refine ⟨errAt_at e (by rw [h]; rfl) h1, ?_⟩
    have := dueAt_none h1 (b.length - (k + 1))
    rw [show k + 1 + (b.length - (k + 1)) = b.length by omega] at this
    unfold complete
    rw [this]; rfl
  · have ek : k = b.length := by omega
    subst ek
    refine ⟨errAt_end (by rw [h]; rfl), ?_⟩
    unfold complete
    rw [h]
    have : d ≠ 3 := h3.resolve_right e
    simpa using this
theorem M_takes {v : V_X7} {b : List Nat} (hl : X7_length v = nI b.length) (hx : seg (X7_text v) 0 b) (h60 : b.length ≤ 60) (hb : ∀ c ∈ b, c < 200) {k lo hi : Nat} (hk : k ≤ b.length) (hp : X7_position v = nI k) (hw : X7_isWrong v = nI 0) (h1 : 1 ≤ lo) (h1b : lo < 2 ^ 20) (h2 : hi < 200) {Q : Int32 → Int32 → Int32 → Prop} (hok : k < b.length → lo ≤ at0 b k → at0 b k ≤ hi → Q (nI (at0 b k - lo)) (nI 0) (nI (k + 1))) (hno : ∀ r, ¬ (k < b.length ∧ lo ≤ at0 b k ∧ at0 b k ≤ hi) → Q r (nI 1) (nI k)) : wp_X7_takes v (nI lo) (nI hi) Q := by
  have go : ∀ c, c < 200 → (k < b.length ∧ c = at0 b k) ∨ (¬ k < b.length ∧ c = 0) → wp_X7_takes_24 v (nI lo) (nI hi) (nI c) Q := by
    intro c hc hcc
    unfold wp_X7_takes_24
    rw [hw]
    refine ⟨fun _ => M_range (lo := lo) (hi := hi) (by omega) (by omega) (fun e => ?_) (fun j j1 j2 jp e => ?_), fun q => absurd rfl q⟩
    · refine ⟨fun _ => ?_, fun q => absurd rfl q⟩
      unfold wp_X7_takes_42 wp_X7_takes_47
      rw [hp]
      refine ⟨bz_1, fun q => absurd (show nI 1 = nI 0 from q) (by decide), fun _ => ?_⟩
      show Q _ (nI 1) (nI k + nI 0)
      rw [nI_add, Nat.add_zero]
      refine hno _ (fun q => ?_)
      rcases hcc with ⟨z1, z2⟩ | ⟨z1, z2⟩
      · have := rg_in (lo := lo) (hi := hi) (j := c) (by omega) (by omega) (by omega)
        rw [this] at e; cases e
      · exact z1 q.1
    · have ej : c = j := (nI_eq (by omega) (by omega)).mp jp
      subst ej
      refine ⟨fun q => absurd q (by decide), fun _ => ?_⟩
      unfold wp_X7_takes_47
      rw [hp]
      refine ⟨bz_0, fun _ => ?_, fun q => absurd rfl q⟩
      rw [pk_sub j1]
      show Q _ (nI 0) (nI k + nI 1)
      rw [nI_add]
      rcases hcc with ⟨z1, z2⟩ | ⟨z1, z2⟩
      · subst z2; exact hok z1 j1 j2
      · omega
  unfold wp_X7_takes
  rw [hl, hp]
  simp (disch := omega) only [nI_lit, nI_leI, nI_clamp, nI_inI]
  refine ⟨fun q => go 0 (by omega) (Or.inr ⟨by omega, rfl⟩), fun q => ⟨by omega, ?_⟩⟩
  rw [seg0 hx (by omega)]
  exact go _ (hb _ (at0_mem (by omega))) (Or.inl ⟨by omega, rfl⟩)
theorem M_takesW {v : V_X7} {b : List Nat} (hl : X7_length v = nI b.length) (h60 : b.length ≤ 60) {k : Nat} (hk : k ≤ b.length) (hp : X7_position v = nI k) (hw : X7_isWrong v = nI 1) {x y : Int32} {Q : Int32 → Int32 → Int32 → Prop} (hq : ∀ r, Q r (nI 1) (nI k)) : wp_X7_takes v x y Q := by
  have go : ∀ c, wp_X7_takes_24 v x y c Q := by
    intro c
    unfold wp_X7_takes_24
    rw [hw]
    refine ⟨fun q => absurd (show nI 1 = nI 0 from q) (by decide), fun _ => ?_⟩
    unfold wp_X7_takes_42 wp_X7_takes_47
    rw [hp]
    refine ⟨bz_1, fun q => absurd (show nI 1 = nI 0 from q) (by decide), fun _ => ?_⟩
    show Q _ (nI 1) (nI k + nI 0)
    rw [nI_add, Nat.add_zero]
    exact hq _
  unfold wp_X7_takes
  rw [hl, hp]
  simp (disch := omega) only [nI_lit, nI_leI, nI_clamp, nI_inI]
  exact ⟨fun _ => go _, fun q => ⟨by omega, go _⟩⟩
theorem M_isDirection {v : V_X7} {b : List Nat} (hl : X7_length v = nI b.length) (hx : seg (X7_text v) 0 b) (h60 : b.length ≤ 60) (hb : ∀ c ∈ b, c < 200) {k : Nat} (hk : k ≤ b.length) (hp : X7_position v = nI k) {c : Bool} (hw : X7_isWrong v = bI c) {Q : Int32 → Prop} (hno : (c = true ∨ ¬ (k < b.length ∧ (dirOf (at0 b k)).isSome)) → Q (nI 0)) (hok : c = false → k < b.length → (dirOf (at0 b k)).isSome → Q (nI 1)) : wp_X7_isDirection v Q := by
  unfold wp_X7_isDirection
  rw [hw, hl, hp]
  cases c with
  | true => exact ⟨fun q => absurd (show nI 1 = nI 0 from q) (by decide), fun _ => hno (Or.inl rfl)⟩
  | false =>
    refine ⟨fun _ => ?_, fun q => absurd rfl q⟩
    simp (disch := omega) only [nI_lit, nN_eq, nI_leI, nI_clamp, nI_inI]
    refine ⟨fun q => hno (Or.inr (fun z => by omega)), fun q => ⟨by omega, ?_⟩⟩
    have hk2 : k < b.length := by omega
    rw [seg0 hx hk2]
    refine M_dirOf (hb _ (at0_mem hk2)) ?_
    rw [oI_dir]
    cases h : dirOf (at0 b k) with
    | none => exact ⟨fun _ => hno (Or.inr (fun z => by rw [h] at z; exact absurd z.2 (by decide))), fun q => absurd rfl q⟩
    | some d => exact ⟨fun q => (by cases q), fun _ => hok rfl hk2 (by rw [h]; rfl)⟩
/-- how far the plans are put: nothing, if they are only read -/
def Rst (dn : Bool) (s0 : Nat → Int32) (a : Lw) (b : List Nat) (k : Nat) (s : Nat → Int32) (n : Int32) : Prop := if dn then MLawn s (pAt a b k).1 ∧ n = nI (pAt a b k).2.2 else s = s0 ∧ n = nI 0
theorem Rst_skip {dn : Bool} {s0 : Nat → Int32} {a : Lw} {b : List Nat} {k : Nat} {s : Nat → Int32} {n : Int32} (h : Rst dn s0 a b k s n) (e : (pAt a b (k + 1)).1 = (pAt a b k).1 ∧ (pAt a b (k + 1)).2.2 = (pAt a b k).2.2) : Rst dn s0 a b (k + 1) s n := by
  unfold Rst at h ⊢
  split
  · rename_i z; rw [if_pos z] at h; rw [e.1, e.2]; exact h
  · rename_i z; rw [if_neg z] at h; exact h
abbrev wT (v : V_X7) (s : Nat → Int32) (p w : Int32) : V_X7 := (s, X7_aside v, X7_kept v, X7_isKept v, X7_saved v, X7_savedMany v, X7_text v, X7_length v, X7_thrown v, X7_joint v, p, w, X7_isHollow v, X7_sure v, X7_away v, X7_digested v)
theorem pstep_no {s : Pst} {c : Nat} (h : ¬ (48 ≤ c ∧ c ≤ 51)) (hd : dirOf c = none) : pstep s c = s := by
  unfold pstep; rw [if_neg h, hd]
theorem M_putsPlan {v : V_X7} {a : Lw} {m d : Nat} (hL : MLawn (X7_s v) a) (hl4 : (lMo a).length ≤ 4) (P : fitMP (lMo a)) (hm4 : m < 10) (d4 : d < 4) {Q : Int32 → (Nat → Int32) → Prop} (hno : ¬ (m < (lMo a).length ∧ (mPl (mlA (lMo a) m)).length < 20) → Q (nI 0) (X7_s v)) (hok : m < (lMo a).length → (mPl (mlA (lMo a) m)).length < 20 → ∀ s2, MLawn s2 (addDir a m d) → Q (nI 1) s2) : wp_X7_putsPlan v (nI m) (nI d) Q := by
  have refuse : (¬ (m < (lMo a).length ∧ (mPl (mlA (lMo a) m)).length < 20)) → wp_X7_putsPlan_27 v (nI m) (nI d) Q := by
    intro z
    unfold wp_X7_putsPlan_27 wp_X7_putsPlan_28
    exact ⟨fun _ => ⟨bz_0, hno z⟩, fun q => absurd rfl q⟩
  unfold wp_X7_putsPlan
  refine M_isMole hL.2.2 hl4 (fun e => ⟨fun _ => refuse (fun z => ?_), fun q => absurd rfl q⟩) (fun m2 hmlt hmm e => ?_)
  · rw [ix_in z.1 (by omega)] at e; cases e
  · have em : m = m2 := (nI_eq (by omega) (by omega)).mp hmm
    subst em
    have hmo := hL.2.2.2.1 _ hmlt
    have ok := P.2 _ (mlA_mem hmlt)
    have f20 := ok.1
    have h2 : (X7_s v) (264 + 46 * m + 2) = nI (mPl (mlA (lMo a) m)).length := hmo.2.2.1
    refine ⟨fun q => absurd q (by decide), fun _ => ?_⟩
    simp (disch := omega) only [of_eq, nI_lit, nI_add, pk_mul, nI_clamp, nI_inI]
    rw [h2]
    simp (disch := omega) only [nI_leI]
    refine ⟨by omega, fun q => refuse (fun z => by omega), fun q => ?_⟩
    unfold wp_X7_putsPlan_28
    refine ⟨fun q => absurd q (by decide), fun _ => ?_⟩
    simp (disch := omega) only [of_eq, nI_lit, nI_add, pk_mul, nI_clamp, nI_inI]
    rw [h2]
    simp (disch := omega) only [of_eq, nI_lit, nI_add, pk_mul, nI_clamp, nI_inI]
    rw [upd_n (show 264 + 46 * m + 2 ≠ 264 + 46 * m + (3 + (mPl (mlA (lMo a) m)).length) by omega), h2, nI_add]
    refine ⟨by omega, by omega, by omega, bz_1, hok hmlt (by omega) _ ?_⟩
    refine ⟨hL.1.of (fun q q1 q2 q3 => by rw [upd_n (by omega), upd_n (by omega)]), hL.2.1.of (by rw [upd_n (by omega), upd_n (by omega)]) (fun q hq => by rw [upd_n (by omega), upd_n (by omega)]), MMsP.set (pl := plM (lMo a)) (m := (mPl (mlA (lMo a) m) ++ [d], mTr (mlA (lMo a) m), mAi (mlA (lMo a) m), mSt (mlA (lMo a) m))) hL.2.2 P hmlt ?_ (fun i hi => ?_) (by rw [upd_n (by omega), upd_n (by omega)]) (fun q q1 q2 q3 => by rw [upd_n (by omega), upd_n (by omega)])⟩
    · have ep : plM (lMo (addDir a m d)) m = plM (lMo a) m := by
        show lastOf (mTr (mlA ((lMo a).set m _) m)) = _
        rw [mlA_set hmlt, if_pos rfl]; rfl
      rw [ep]
      obtain ⟨g1, g2, g3, g4, g5, g6, g7⟩ := hmo
      have ok2 := ok.2.1
      refine ⟨?_, ?_, ?_, ?_, ?_, seg_of g6 (fun i hi => by rw [upd_n (by omega), upd_n (by omega)]), ?_⟩
      · rw [upd_n (by omega), upd_n (by omega), g1]
      · rw [upd_n (by omega), upd_n (by omega), g2]
      · rw [upd_s]
        show _ = nI (mPl (mlA (lMo a) m) ++ [d]).length
        rw [List.length_append]; rfl
      · refine seg_out ?_ (Or.inl (by omega))
        exact seg_snoc g4 (by omega)
      · rw [upd_n (by omega), upd_n (by omega), g5]
      · rw [upd_n (by omega), upd_n (by omega), g7]
    · show lastOf (mTr (mlA ((lMo a).set m _) i)) = plM (lMo a) i
      unfold plM mlA
      rw [List.getElem?_set, if_neg (fun q => hi q.symm)]
theorem M_reads {v : V_X7} {a : Lw} {b : List Nat} {n0 : Nat} (dn : Bool) (hl : X7_length v = nI b.length) (hx : seg (X7_text v) 0 b) (h60 : b.length ≤ 60) (hb : ∀ c ∈ b, c < 200) (hc : MLawn (X7_s v) a) (g : Good n0 a) (hn : n0 + b.length ≤ 512) {Q : Int32 → Int32 → Int32 → (Nat → Int32) → Prop} (hgood : complete b = true → ∀ r s, Rst dn (X7_s v) a b b.length s r → Q r (nI 0) (nI b.length) s) (hbad : complete b = false → ∀ r s k, Rst dn (X7_s v) a b k s r → Q r (nI 1) (nI (errAt b)) s) : wp_X7_reads v (bI dn) Q := by
  unfold wp_X7_reads wp_X7_reads_14
  refine ⟨fun r m wr ps s => ∃ k, k ≤ b.length ∧ Rst dn (X7_s v) a b k s r ∧ ((m = nI 1 ∧ wr = nI 0 ∧ ps = nI k ∧ dueAt b k = some 0) ∨ (m = nI 0 ∧ wr = nI 0 ∧ ps = nI b.length ∧ k = b.length ∧ complete b = true) ∨ (m = nI 0 ∧ wr = nI 1 ∧ ps = nI (errAt b) ∧ complete b = false)), fun r m wr ps s => if m = nI 0 then 0 else 100 - ps.toNatClampNeg, ⟨0, Nat.zero_le _, ?_, Or.inl ⟨rfl, rfl, rfl, rfl⟩⟩, ?_⟩
  · unfold Rst
    split
    · exact ⟨hc, rfl⟩
    · exact ⟨rfl, rfl⟩
  rintro r m wr ps s ⟨k, hk, hst, hcase⟩
  unfold wb_X7_reads_14
  rcases hcase with ⟨rfl, rfl, rfl, hd0⟩ | ⟨rfl, rfl, rfl, rfl, hcm⟩ | ⟨rfl, rfl, rfl, hcm⟩
  rotate_left
  · exact ⟨fun _ => hgood hcm r s hst, fun q => absurd rfl q⟩
  · exact ⟨fun _ => hbad hcm r s k hst, fun q => absurd rfl q⟩
  refine ⟨fun q => absurd q (by decide), fun _ => ?_⟩
  have hm100 : ∀ {x : Int32}, x = nI k → (if nI 1 = nI 0 then 0 else 100 - x.toNatClampNeg) = 100 - k := fun h => by
    rw [h, if_neg (by decide), nI_clamp (by omega)]
  -- wrong: the loop over directions ends at once
  have wrong : ∀ (mo : Int32) (e : Nat), e ≤ b.length → errAt b = e → complete b = false → wp_X7_reads_61 v (bI dn) r (nI 1) (nI 0) (nI k) s (fun t0 t1 t2 t3 t4 => (∃ k, k ≤ b.length ∧ Rst dn (X7_s v) a b k t4 t0 ∧ ((t1 = nI 1 ∧ t2 = nI 0 ∧ t3 = nI k ∧ dueAt b k = some 0) ∨ (t1 = nI 0 ∧ t2 = nI 0 ∧ t3 = nI b.length ∧ k = b.length ∧ complete b = true) ∨ (t1 = nI 0 ∧ t2 = nI 1 ∧ t3 = nI (errAt b) ∧ complete b = false))) ∧ (if t1 = nI 0 then 0 else 100 - t3.toNatClampNeg) < (if nI 1 = nI 0 then 0 else 100 - (nI k).toNatClampNeg)) mo 1 r (nI e) s Q := by
    intro mo e he hee hcm
    unfold wp_X7_reads_61
    refine ⟨fun r' ps' s' => r = r' ∧ ps' = nI e ∧ s = s', fun _ _ _ => 0, ⟨rfl, rfl, rfl⟩, ?_⟩
    rintro _ _ _ ⟨rfl, rfl, rfl⟩
    unfold wb_X7_reads_61
    refine M_isDirection (v := wT v s (nI e) (nI 1)) (c := true) hl hx h60 hb he rfl rfl (fun _ => ⟨fun _ => ⟨fun q => absurd q (by decide), fun _ => ?_⟩, fun q => absurd rfl q⟩) (fun q => absurd q (by decide))
    unfold wp_X7_reads_136 wp_X7_reads_137
    refine ⟨fun _ => ⟨⟨k, hk, hst, Or.inr (Or.inr ⟨rfl, rfl, by rw [hee], hcm⟩)⟩, ?_⟩, fun q => absurd rfl q⟩
    rw [if_pos (show (0 : Int32) = nI 0 from rfl), hm100 rfl]; omega
  refine M_takes (v := wT v s (nI k) (nI 0)) (lo := 48) (hi := 51) hl hx h60 hb hk rfl rfl (by omega) (by omega) (by omega) (fun hk1 c1 c2 => ?_) (fun r1 hno => ?_)
  rotate_left
  · have st := stuck hk hd0 (Or.inl (by omega)) (fun hk1 => by unfold due; rw [if_pos rfl, if_neg (fun z => hno ⟨hk1, z.1, z.2⟩)])
    refine M_takesW (v := wT v s (nI k) (nI 1)) hl h60 hk rfl rfl (fun r2 => ⟨fun q => absurd q (by decide), fun _ => wrong _ k hk st.1 st.2⟩)
  have hd1 : dueAt b (k + 1) = some 1 := by rw [dueAt_s hd0]; unfold due; rw [if_pos rfl, if_pos ⟨c1, c2⟩]
  have ps1 : pAt a b (k + 1) = ((pAt a b k).1, some (at0 b k - 48), (pAt a b k).2.2) := by
    show pstep (pAt a b k) (at0 b k) = _
    unfold pstep; rw [if_pos ⟨c1, c2⟩]
  have hst1 := Rst_skip hst (by rw [ps1]; exact ⟨rfl, rfl⟩)
  refine M_takes (v := wT v s (nI (k+1)) (nI 0)) (lo := 58) (hi := 58) hl hx h60 hb hk1 rfl rfl (by omega) (by omega) (by omega) (fun hk2 c3 c4 => ?_) (fun r1 hno => ?_)
  rotate_left
  · have st := stuck hk1 hd1 (Or.inl (by omega)) (fun hk2 => by unfold due; rw [if_neg (by omega), if_pos rfl, if_neg (fun z : at0 b (k + 1) = 58 => hno ⟨hk2, Nat.le_of_eq z.symm, Nat.le_of_eq z⟩)])
    exact ⟨fun q => absurd q (by decide), fun _ => wrong _ (k + 1) hk1 st.1 st.2⟩
  have h58 : at0 b (k + 1) = 58 := Nat.le_antisymm c4 c3
  have hd2 : dueAt b (k + 2) = some 2 := by
    show dueAt b (k + 1 + 1) = _
    rw [dueAt_s hd1]; unfold due; rw [if_neg (by omega), if_pos rfl, if_pos h58]
  have ps2 : pAt a b (k + 2) = pAt a b (k + 1) := by
    show pstep (pAt a b (k + 1)) (at0 b (k + 1)) = _
    exact pstep_no (by omega) (by rw [h58]; rfl)
  have hst2 : Rst dn (X7_s v) a b (k + 2) s r := Rst_skip hst1 ⟨by rw [ps2], by rw [ps2]⟩
  have hmole : (pAt a b (k + 2)).2.1 = some (at0 b k - 48) := by rw [ps2, ps1]
  refine ⟨fun _ => ?_, fun q => absurd rfl q⟩
  refine M_isDirection (v := wT v s (nI (k+2)) (nI 0)) (c := false) hl hx h60 hb hk2 rfl rfl (fun hno => ?_) (fun _ hk3 hdir => ?_)
  · have hno : ¬ (k + 2 < b.length ∧ (dirOf (at0 b (k + 2))).isSome) := hno.resolve_left (by decide)
    have st := stuck hk2 hd2 (Or.inl (by omega)) (fun hk3 => by unfold due; rw [if_neg (by omega), if_neg (by omega), if_pos rfl, if_neg (fun z => hno ⟨hk3, z⟩)])
    exact ⟨fun _ => wrong _ (k + 2) hk2 st.1 st.2, fun q => absurd rfl q⟩
  refine ⟨fun q => absurd q (by decide), fun _ => ?_⟩
  have hm4 : at0 b k - 48 < 4 := by omega
  unfold wp_X7_reads_61
  refine ⟨fun r' ps' s' => ∃ j, ps' = nI j ∧ k + 2 ≤ j ∧ j ≤ b.length ∧ Rst dn (X7_s v) a b j s' r' ∧ (pAt a b j).2.1 = some (at0 b k - 48) ∧ (dueAt b j = some 3 ∨ (dueAt b j = some 2 ∧ j < b.length ∧ (dirOf (at0 b j)).isSome)), fun _ ps' _ => 100 - ps'.toNatClampNeg, ⟨k + 2, rfl, Nat.le_refl _, hk2, hst2, hmole, Or.inr ⟨hd2, hk3, hdir⟩⟩, ?_⟩
  rintro r' _ s' ⟨j, rfl, hj0, hj, hstj, hmj, hdj⟩
  unfold wb_X7_reads_61
  refine M_isDirection (v := wT v s' (nI j) (nI 0)) (c := false) hl hx h60 hb hj rfl rfl (fun hno => ?_) (fun _ hj2 hdir2 => ?_)
  · have hno : ¬ (j < b.length ∧ (dirOf (at0 b j)).isSome) := hno.resolve_left (by decide)
    have hd3 : dueAt b j = some 3 := hdj.elim id (fun z => absurd ⟨z.2.1, z.2.2⟩ hno)
    refine ⟨fun _ => ⟨fun _ => ?_, fun q => absurd rfl q⟩, fun q => absurd rfl q⟩
    rw [hl]
    simp (disch := omega) only [nI_leI]
    refine ⟨fun q => ?_, fun q => ?_⟩
    · have ej : j = b.length := by omega
      subst ej
      unfold wp_X7_reads_136 wp_X7_reads_137
      refine ⟨fun _ => ⟨⟨b.length, Nat.le_refl _, hstj, Or.inr (Or.inl ⟨rfl, rfl, rfl, rfl, by unfold complete; rw [hd3]; rfl⟩)⟩, ?_⟩, fun q => absurd rfl q⟩
      rw [if_pos (show (0 : Int32) = nI 0 from rfl), hm100 rfl]; omega
    · have hj2 : j < b.length := by omega
      unfold wp_X7_reads_137
      refine ⟨fun q => absurd q (by decide), fun _ => ?_⟩
      have hnd : (dirOf (at0 b j)) = none := by
        cases h : dirOf (at0 b j) with
        | none => rfl
        | some d => exact absurd ⟨hj2, by rw [h]; rfl⟩ hno
      refine M_takes (v := wT v s' (nI j) (nI 0)) (lo := 59) (hi := 59) hl hx h60 hb hj rfl rfl (by omega) (by omega) (by omega) (fun _ c5 c6 => ?_) (fun r1 hno2 => ?_)
      · have h59 : at0 b j = 59 := Nat.le_antisymm c6 c5
        have hd4 : dueAt b (j + 1) = some 0 := by rw [dueAt_s hd3]; unfold due; rw [if_neg (by omega), if_neg (by omega), if_neg (by omega), if_pos h59]
        have ps3 : pAt a b (j + 1) = pAt a b j := pstep_no (by omega) hnd
        refine ⟨fun _ => ⟨⟨j + 1, hj2, Rst_skip hstj ⟨by rw [ps3], by rw [ps3]⟩, Or.inl ⟨rfl, rfl, rfl, hd4⟩⟩, ?_⟩, fun q => absurd rfl q⟩
        rw [hm100 rfl]
        show (if nI 1 = nI 0 then 0 else 100 - (nI (j + 1)).toNatClampNeg) < _
        rw [if_neg (by decide), nI_clamp (by omega)]; omega
      · have st := stuck hj hd3 (Or.inr hj2) (fun _ => by
          unfold due
          rw [if_neg (by omega), if_neg (by omega), if_neg (by omega), if_neg (fun z : at0 b j = 59 => hno2 ⟨hj2, Nat.le_of_eq z.symm, Nat.le_of_eq z⟩), hnd]; rfl)
        refine ⟨fun q => absurd q (by decide), fun _ => ⟨⟨j, hj, hstj, Or.inr (Or.inr ⟨rfl, rfl, by rw [st.1], st.2⟩)⟩, ?_⟩⟩
        show (if nI 0 = nI 0 then 0 else _) < _
        rw [if_pos rfl, hm100 rfl]; omega
  · obtain ⟨d, hd⟩ := Option.isSome_iff_exists.mp hdir2
    obtain ⟨d4, n58, n59, ndig⟩ := dirOf_lt hd
    have hd3 : dueAt b (j + 1) = some 3 := by
      rcases hdj with z | z
      · rw [dueAt_s z]; unfold due; rw [if_neg (by omega), if_neg (by omega), if_neg (by omega), if_neg n59, if_pos hdir2]
      · rw [dueAt_s z.1]; unfold due; rw [if_neg (by omega), if_neg (by omega), if_pos rfl, if_pos hdir2]
    have ep : pAt a b (j + 1) = pstep (pAt a b j) (at0 b j) := rfl
    obtain ⟨gj, -, gc⟩ := pAt_facts (b := b) g j
    -- behind the direction
    have nxt : ∀ (x : Nat) (s2 : Nat → Int32), (r' = nI 0 ∨ True) → Rst dn (X7_s v) a b (j + 1) s2 (r' + nI x) → (pAt a b (j + 1)).2.1 = some (at0 b k - 48) → wp_X7_reads_99 v (bI dn) r (nI 1) (nI 0) (nI k) s (fun t0 t1 t2 t3 t4 => (∃ k, k ≤ b.length ∧ Rst dn (X7_s v) a b k t4 t0 ∧ ((t1 = nI 1 ∧ t2 = nI 0 ∧ t3 = nI k ∧ dueAt b k = some 0) ∨ (t1 = nI 0 ∧ t2 = nI 0 ∧ t3 = nI b.length ∧ k = b.length ∧ complete b = true) ∨ (t1 = nI 0 ∧ t2 = nI 1 ∧ t3 = nI (errAt b) ∧ complete b = false))) ∧ (if t1 = nI 0 then 0 else 100 - t3.toNatClampNeg) < (if nI 1 = nI 0 then 0 else 100 - (nI k).toNatClampNeg)) (nI (at0 b k - 48)) 0 r' (nI j) s' (fun t0 t1 t2 => (∃ j, t1 = nI j ∧ k + 2 ≤ j ∧ j ≤ b.length ∧ Rst dn (X7_s v) a b j t2 t0 ∧ (pAt a b j).2.1 = some (at0 b k - 48) ∧ (dueAt b j = some 3 ∨ (dueAt b j = some 2 ∧ j < b.length ∧ (dirOf (at0 b j)).isSome))) ∧ 100 - t1.toNatClampNeg < 100 - (nI j).toNatClampNeg) s2 (nI x) r' Q := by
      intro x s2 _ h1 h2
      unfold wp_X7_reads_99
      refine ⟨⟨j + 1, by simp only [nI_lit, nI_add], by omega, hj2, h1, h2, Or.inl hd3⟩, ?_⟩
      simp (disch := omega) only [nI_lit, nI_add, nI_clamp]; omega
    refine ⟨fun q => absurd q (by decide), fun _ => ?_⟩
    have r0 : r' + nI 0 = r' := by rw [show nI 0 = 0 from rfl, Int32.add_zero]
    cases dn with
    | false =>
      refine ⟨fun _ => ?_, fun q => absurd rfl q⟩
      unfold wp_X7_reads_98
      have hmk : (pAt a b (j + 1)).2.1 = some (at0 b k - 48) := by
        rw [ep]; unfold pstep; rw [if_neg ndig, hd, hmj]
        show (if _ then _ else _ : Pst).2.1 = _
        split
        · rfl
        · exact hmj
      refine nxt 0 s' (Or.inr trivial) ?_ hmk
      rw [r0]; exact hstj
    | true =>
      obtain ⟨hL, rfl⟩ : MLawn s' (pAt a b j).1 ∧ r' = nI (pAt a b j).2.2 := hstj
      refine ⟨fun q => absurd (show nI 1 = nI 0 from q) (by decide), fun _ => ?_⟩
      rw [show (nI j).toNatClampNeg = j from nI_clamp (by omega)] at nxt
      simp (disch := omega) only [nI_lit, nI_clamp, nI_inI]
      refine ⟨by omega, ?_⟩
      rw [seg0 hx hj2]
      refine M_dirOf (hb _ (at0_mem hj2)) ?_
      rw [hd]
      have hfj := gj.1.fit (by omega)
      have hl4 := gj.1.1
      refine M_putsPlan (v := wT v s' (nI j) (nI 0)) (a := (pAt a b j).1) hL hl4 hfj.2.1.P (by omega) d4 (fun z => ⟨fun _ => ?_, fun q => absurd rfl q⟩) (fun hmlt h20 s2 hs2 => ⟨fun q => absurd q (by decide), fun _ => ?_⟩)
      · have e : pAt a b (j + 1) = pAt a b j := by
          rw [ep]; unfold pstep; rw [if_neg ndig, hd, hmj]; exact if_neg z
        unfold wp_X7_reads_98
        refine nxt 0 s' (Or.inr trivial) ?_ (by rw [e]; exact hmj)
        rw [r0]
        show MLawn s' (pAt a b (j + 1)).1 ∧ _ = nI (pAt a b (j + 1)).2.2
        rw [e]; exact ⟨hL, rfl⟩
      · have eadd : pAt a b (j + 1) = (addDir (pAt a b j).1 (at0 b k - 48) d, some (at0 b k - 48), (pAt a b j).2.2 + 1) := by
          rw [ep]; unfold pstep; rw [if_neg ndig, hd, hmj]; exact if_pos ⟨hmlt, h20⟩
        refine nxt 1 s2 (Or.inr trivial) ?_ (by rw [eadd])
        show MLawn _ (pAt a b (j + 1)).1 ∧ nI (pAt a b j).2.2 + nI 1 = nI (pAt a b (j + 1)).2.2
        rw [eadd]
        exact ⟨hs2, by rw [nI_add]⟩
