theorem M_whenMound {v : V_X7} {w : Wd} {n : Nat} (h : MW v w) (g : GoodW n w) (h0 : X7_thrown v = 0) {F : Int32 → (Nat → Int32) → (Nat → Int32) → Prop} (hq : ∀ za zs, MLawn zs (wCur w) → F (nm (wCur w) 100 0) za zs) : wp_X7_whenMound v F := by
  have := M_nextMound h g (Q := fun r za zs _ => F r za zs) hq
  unfold wp_X7_nextMound at this
  have e : X7_s8 v 0 = v := by rw [← h0]
  rw [e] at this
  exact this
theorem M_digest {v : V_X7} {w : Wd} {n : Nat} (h : MW v w) (g : GoodW n w) {Q : Int64 → (Nat → Int32) → (Nat → Int32) → Int64 → (Nat → Int32) → (Nat → Int32) → (Nat → Int32) → Int32 → Prop} (hq : ∀ za zw zh zs zu, MLawn zs (wCur w) → Q (dgAll w) za zw (dgAll w) zh zs zu 0) : wp_X7_digest v Q := by
  have hn : n ≤ 512 := by have := g.2.2.2.1; omega
  obtain ⟨x1, x2⟩ := h.2.2.2.2
  have b60 := g.2.2.2.2
  unfold wp_X7_digest wp_X7_digest_14
  refine ⟨fun y1 _ d _ => ∃ k, y1 = nI k ∧ k ≤ 15 ∧ d = dg (fun x => numC w (nI x)) k 3631, fun y1 _ _ _ => 100 - y1.toNatClampNeg, ⟨0, rfl, by omega, rfl⟩, ?_⟩
  rintro _ zw _ zh ⟨k, rfl, hk, rfl⟩
  unfold wb_X7_digest_14
  simp (disch := omega) only [nI_lit, nI_leI, nI_add, nI_clamp]
  refine ⟨fun e => ?_, fun e => M_counted (v := (X7_s v, X7_aside v, X7_kept v, X7_isKept v, X7_saved v, X7_savedMany v, X7_text v, X7_length v, nI 0, X7_joint v, X7_position v, X7_isWrong v, zh, X7_sure v, zw, dg (fun x => numC w (nI x)) k 3631)) h g (fun zd zh2 => ⟨⟨k + 1, rfl, by omega, rfl⟩, by omega⟩)⟩
  have : k = 15 := by omega
  subst this
  refine M_digestLawn (v := (X7_s v, X7_aside v, X7_kept v, X7_isKept v, X7_saved v, X7_savedMany v, X7_text v, X7_length v, nI 0, X7_joint v, X7_position v, X7_isWrong v, zh, X7_sure v, zw, dg (fun x => numC w (nI x)) 15 3631)) h.1 g.1 hn (fun zh2 zu => ?_)
  refine M_digestMounds (v := (X7_s v, X7_aside v, X7_kept v, X7_isKept v, X7_saved v, X7_savedMany v, X7_text v, X7_length v, nI 0, X7_joint v, X7_position v, X7_isWrong v, zh2, zu, zw, _)) h.1 g.1 hn (fun za zw2 zh3 zs hs => ?_)
  refine M_best (v := (zs, za, X7_kept v, X7_isKept v, X7_saved v, X7_savedMany v, X7_text v, X7_length v, nI 0, X7_joint v, X7_position v, X7_isWrong v, zh3, zu, zw2, _)) hs g.1 hn ?_
  unfold wp_X7_digestOne wp_X7_digest_55
  refine ⟨fun y1 _ d s => ∃ k, y1 = nI k ∧ k ≤ 3 ∧ d = dg (fun x => pasV (wCur w) 5 (nI x)) k (dgLawn w) ∧ MLawn s (wCur w), fun y1 _ _ _ => 100 - y1.toNatClampNeg, ⟨0, rfl, by omega, rfl, hs⟩, ?_⟩
  rintro _ za2 _ s2 ⟨k, rfl, hk, rfl, hs2⟩
  unfold wb_X7_digest_55
  simp (disch := omega) only [nI_lit, nI_leI, nI_add, nI_clamp]
  refine ⟨fun e => ?_, fun e => M_passed (v := (s2, za2, X7_kept v, X7_isKept v, X7_saved v, X7_savedMany v, X7_text v, X7_length v, nI 0, X7_joint v, X7_position v, X7_isWrong v, zh3, zu, zw2, _)) hs2 g.1 hn (by omega) (fun za3 zs3 hz3 => ⟨⟨k + 1, rfl, by omega, rfl, hz3⟩, by omega⟩)⟩
  have : k = 3 := by omega
  subst this
  refine M_whenMound (v := (s2, za2, X7_kept v, X7_isKept v, X7_saved v, X7_savedMany v, X7_text v, X7_length v, nI 0, X7_joint v, X7_position v, X7_isWrong v, zh3, zu, zw2, _)) (w := w) ⟨hs2, h.2⟩ g rfl (fun za4 zs4 hz4 => ?_)
  have c64 := cnt_le (fun t => hol (wCur w) t) 64
  unfold wp_X7_digestOne wp_X7_share
  refine M_hollow (v := (zs4, za4, X7_kept v, X7_isKept v, X7_saved v, X7_savedMany v, X7_text v, X7_length v, nI 0, X7_joint v, X7_position v, X7_isWrong v, zh3, zu, zw2, _)) hz4 g.1 hn (fun zh5 => ⟨share_fin ⟨_, Nat.lt_succ_of_le c64⟩, ?_⟩)
  refine M_bitsOf (bits_same ⟨_, Nat.lt_succ_of_le c64⟩) ?_
  show wp_X7_digest_108 v za4 zw2 zh5 zs4 zu (nI 0) (nI 0) ((31 * ((31 * ((31 * dg (fun x => pasV (wCur w) 5 (nI x)) 3 (dgLawn w)) + (nm (wCur w) 100 0).toInt64)) + bitsS (cnt (fun t => hol (wCur w) t) 64))) + (X7_length v).toInt64) Q
  unfold wp_X7_digest_108
  refine ⟨fun y1 d => ∃ k, y1 = nI k ∧ k ≤ (wBuf w).length ∧ d = dg (fun i => nI (at0 (wBuf w) i)) k ((31 * ((31 * ((31 * dg (fun x => pasV (wCur w) 5 (nI x)) 3 (dgLawn w)) + (nm (wCur w) 100 0).toInt64)) + bitsS (cnt (fun t => hol (wCur w) t) 64))) + (nI (wBuf w).length).toInt64), fun y1 _ => 100 - y1.toNatClampNeg, ⟨0, rfl, by omega, by rw [x2]; rfl⟩, ?_⟩
  rintro _ _ ⟨k, rfl, hk, rfl⟩
  unfold wb_X7_digest_108
  rw [x2]
  simp (disch := omega) only [nI_lit, nI_leI, nI_add, nI_clamp, nI_inI]
  refine ⟨fun e => ?_, fun e => ⟨by omega, ⟨k + 1, rfl, by omega, by rw [seg0 x1 (by omega)]; rfl⟩, by omega⟩⟩
  have : k = (wBuf w).length := by omega
  subst this
  exact hq _ _ _ _ _ hz4
