def pasV (a : Lw) (k : Nat) (x : Int32) : Int32 := if x = nI 0 then lRi (beatN k a) - lRi a else if x = nI 1 then nI (lTu (beatN k a)).length else lCa (beatN k a) - lCa a
theorem C_tryBeats {v : V_X6} {a : Lw} {n k : Nat} (hc : CLawn (X6_lawn v) a) (g : Good n a) (hn : n ≤ 512) (hp : permL (X6_trial v)) (hk : k ≤ 50) {Q : V_X3 → V_X0 → Prop} (hq : ∀ sp L, CLawn L (beatN k a) → Q sp L) : wp_X6_tryBeats v (nI k) Q := by
  unfold wp_X6_tryBeats
  refine C_X0_copyFrom hc (g.1.fit hn) hp (fun bt ca fa ai gn mc mo mn op ri rt tp tu hL0 => ?_)
  unfold wp_X6_tryBeats_13
  refine ⟨fun y sp L => ∃ j, y = nI j ∧ j ≤ k ∧ CLawn L (beatN j a), fun y _ _ => 70 - y.toNatClampNeg, ⟨0, rfl, by omega, hL0⟩, ?_⟩
  rintro _ sp L ⟨j, rfl, hj, hL⟩
  unfold wb_X6_tryBeats_13
  simp (disch := omega) only [nI_lit, nI_add, nI_clamp, nI_leI]
  refine ⟨fun q => ?_, fun q => ?_⟩
  · have ej : j = k := by omega
    subst ej
    exact hq _ _ hL
  · exact C_beat hL (beatN_good g j) hn (fun uc ue us uu bt ca gn mc mo mr mn ri rt tp tu hL2 => ⟨⟨j + 1, rfl, by omega, hL2⟩, by omega⟩)
theorem C_numberOfTrial {v : V_X6} {a : Lw} {k : Nat} (hc : CLawn (X6_lawn v) a) (hL : CLawn (X6_trial v) (beatN k a)) {x : Int32} {Q : Int32 → Prop} (hq : Q (pasV a k x)) : wp_X6_numberOfTrial v x Q := by
  have hri : X0_risen (X6_lawn v) = lRi a := hc.2.2.2.2.2.2.2.2.2.2.1
  have hca : X0_caught (X6_lawn v) = lCa a := hc.2.2.2.2.2.2.2.2.1
  have e1 : X0_risen (X6_trial v) = lRi (beatN k a) := hL.2.2.2.2.2.2.2.2.2.2.1
  have e3 : X0_caught (X6_trial v) = lCa (beatN k a) := hL.2.2.2.2.2.2.2.2.1
  have e4 : X3_size (X0_tunnels (X6_trial v)) = nI (lTu (beatN k a)).length := hL.2.2.2.2.1.parts.2.2.1
  unfold wp_X6_numberOfTrial
  unfold pasV at hq
  simp only [nI_lit]
  refine ⟨fun c => ?_, fun c => ⟨fun c2 => ?_, fun c2 => ?_⟩⟩
  · rw [if_pos c] at hq; rw [e1, hri]; exact hq
  · rw [if_neg c, if_pos c2] at hq; rw [e4]; exact hq
  · rw [if_neg c, if_neg c2] at hq; rw [e3, hca]; exact hq
noncomputable def dgLawn (w : Wd) : Int64 := dgD (wCur w) (dgP (wCur w) 64 (dgU (lTu (wCur w)) (lTu (wCur w)).length (dgM (lMo (wCur w)) (lMo (wCur w)).length (dgT (wCur w) 64 (dg (fun x => numC w (nI x)) 15 3631)))))
def dgEnd (w : Wd) (d : Int64) : Int64 := dg (fun i => nI (at0 (wBuf w) i)) (wBuf w).length ((31 * ((31 * ((31 * dg (fun x => pasV (wCur w) 5 (nI x)) 3 d) + (nm (wCur w) 100 0).toInt64)) + bitsS (cnt (fun t => hol (wCur w) t) 64))) + (nI (wBuf w).length).toInt64)
noncomputable def dgAll (w : Wd) : Int64 := dgEnd w (dgLawn w)
theorem C_digest_149 {v : V_X6} {w : Wd} (h : CW v w) {P : V_X2} {sp : V_X3} {s : V_X4} {tr : V_X0} {d : Int64} {Q : Int64 → V_X2 → V_X3 → V_X4 → V_X0 → Prop} (hq : Q (dg (fun i => nI (at0 (wBuf w) i)) (wBuf w).length d) P sp s tr) : wp_X6_digest_149 v P sp s tr d 0 Q := by
  obtain ⟨x1, x2, x3, x4⟩ := h.2.2.2.2.2.2
  unfold wp_X6_digest_149
  refine ⟨fun y1 y3 => ∃ k, y3 = nI k ∧ k ≤ (wBuf w).length ∧ y1 = dg (fun i => nI (at0 (wBuf w) i)) k d, fun _ y3 => 100 - y3.toNatClampNeg, ⟨0, rfl, by omega, rfl⟩, ?_⟩
  rintro _ _ ⟨k, rfl, hk, rfl⟩
  unfold wb_X6_digest_149
  rw [x2]
  simp (disch := omega) only [nI_lit, nI_leI, nI_add, nI_clamp, nI_inI]
  refine ⟨fun e => ?_, fun e => ⟨by omega, ⟨k + 1, rfl, by omega, by rw [seg0 x1 (by omega)]; rfl⟩, by omega⟩⟩
  have : k = (wBuf w).length := by omega
  subst this
  exact hq
theorem C_digest {v : V_X6} {w : Wd} {n : Nat} (h : CW v w) (g : GoodW n w) (hr : ∃ m, m ≤ 2 ^ 20 ∧ lRi (wCur w) = nI m) {Q : Int64 → V_X2 → V_X3 → V_X4 → V_X0 → Prop} (hq : ∀ P sp s tr, permL tr → Q (dgAll w) P sp s tr) : wp_X6_digest v Q := by
  have hn : n ≤ 512 := by have := g.2.2.2.1; omega
  have hft := g.1.1.fit hn
  have hT : CRows (X0_tunnels (X6_lawn v)) (lTu (wCur w)) := h.1.2.2.2.2.1
  unfold wp_X6_digest
  refine C_read h.1 g.1 hn (fun zc zh zs zu hs => ?_)
  unfold wp_X6_digest_17
  refine ⟨fun y1 y3 _ => ∃ k, y3 = nI k ∧ k ≤ 15 ∧ y1 = dg (fun x => numC w (nI x)) k 3631, fun _ y3 _ => 100 - y3.toNatClampNeg, ⟨0, rfl, by omega, rfl⟩, ?_⟩
  rintro _ _ P ⟨k, rfl, hk, rfl⟩
  unfold wb_X6_digest_17
  simp (disch := omega) only [nI_lit, nI_ltI, nI_add, nI_clamp]
  refine ⟨fun e => ?_, fun e => C_numberOfAll (v := X6_s7 (X6_s6 v (zh, zc, zu, zs)) P) h g hs (fun P2 => ⟨⟨k + 1, rfl, by omega, rfl⟩, by omega⟩)⟩
  have : k = 15 := by omega
  subst this
  refine C_hashTufts (v := X6_s7 (X6_s6 v (zh, zc, zu, zs)) P) h.1 g.1 hn hs ?_
  refine C_hashMoles (v := X6_s7 (X6_s6 v (zh, zc, zu, zs)) P) h.1 g.1 hn ?_
  refine C_hashTunnels (v := X6_s7 (X6_s6 v (zh, zc, zu, zs)) P) hT hft.1 ?_
  refine C_hashPaths (v := X6_s7 (X6_s6 v (zh, zc, zu, zs)) P) h.1 hft.1 (fun P2 => ?_)
  refine C_hashDigging (v := X6_s7 (X6_s6 v (zh, zc, zu, zs)) P2) h.1 hft.1 hs ?_
  refine C_tryBeats (v := X6_s7 (X6_s6 v (zh, zc, zu, zs)) P2) (k := 5) h.1 g.1 hn h.2.2.1 (by omega) (fun sp L hL => ?_)
  unfold wp_X6_digest_79
  refine ⟨fun y1 y3 => ∃ k, y3 = nI k ∧ k ≤ 3 ∧ y1 = dg (fun x => pasV (wCur w) 5 (nI x)) k (dgLawn w), fun _ y3 => 100 - y3.toNatClampNeg, ⟨0, rfl, by omega, rfl⟩, ?_⟩
  rintro _ _ ⟨k, rfl, hk, rfl⟩
  unfold wb_X6_digest_79
  simp (disch := omega) only [nI_lit, nI_ltI, nI_add, nI_clamp]
  refine ⟨fun e => ?_, fun e => C_numberOfTrial (v := (X6_lawn v, X6_snapshot v, L, X6_savedR v, X6_saved v, X6_text v, (zh, zc, zu, zs), P2, X6_snapshotTaken v, X6_savedCount v, sp)) (k := 5) h.1 hL ⟨⟨k + 1, rfl, by omega, rfl⟩, by omega⟩⟩
  have : k = 3 := by omega
  subst this
  have h2 : CW (X6_lawn v, X6_snapshot v, L, X6_savedR v, X6_saved v, X6_text v, (zh, zc, zu, zs), P2, X6_snapshotTaken v, X6_savedCount v, sp) w := ⟨h.1, h.2.1, hL.perm, h.2.2.2⟩
  refine C_nextMound h2 g hr (fun sp2 tr htr => ?_)
  refine C_hollowCount hs (C_bitsOfShare ?_)
  refine C_digest_149 h ?_
  rw [show X5_length (X6_text v) = nI (wBuf w).length from h.2.2.2.2.2.2.2.1]
  exact hq _ _ _ _ htr
