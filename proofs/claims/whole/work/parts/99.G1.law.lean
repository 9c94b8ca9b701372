/-! The law's loop, the law from its entry. -/
theorem head_gt {k L : Nat} (hk : k ≤ 512) (hL : L ≤ 1536) : (Int32.ofNat L - 3 < nI (3 * k)) ↔ L < 3 * k + 3 := by
  rw [Int32.lt_iff_toInt_lt, show (3 : Int32) = nI 3 from rfl, show Int32.ofNat L = nI L from rfl, pk_sub_toInt (by omega) (by omega), nI_toInt (by omega)]
  omega
theorem Inv.up {k : Nat} {v : V_X6} {u : V_X7} {f : Nat → Int64} (h : Inv k v u f) : Inv (k + 1) v u f := by
  obtain ⟨w, hc, hm, hb, hr⟩ := h
  exact ⟨w, hc, hm, hb.up (by omega), hr.mono (by omega)⟩
set_option maxHeartbeats 8000000 in
set_option maxRecDepth 100000 in
theorem law_loop {p : Program} {l : Launch} {e : Env} {s : State} {m : MethodId} {below : List Frame} {meth : Method} {c : Code} {b L : Nat} {xs : Nat → Int32} (hL : L ≤ 1536) (C0 : lw_At p s m meth c b L xs) (hl9 : l.stackTraces = false) {dC : Nat → ClassId} {dI : Nat → Nat → Nat} {cy : Nat → ClassId} {cJ : ClassId} (hK : va_K (dC, dI) vwCl (tysJ cy cJ) s) (hE : xEnvL (lA s) s s.heap) {a d : Nat → Nat} {o : Nat} {C S : Nat} (hC : C + 1100 ≤ 601024) (hSl : S + 6600 ≤ 7293034) : ∀ (n k : Nat) (v : V_X6) (u : V_X7) (f : Nat → Int64) (H : Heap) (locs : List Loc) (ls : Array Slot), k ≤ 512 → 513 ≤ k + n → Inv k v u f → va_P (dC, dI) vwCl (wL cy cJ a o v f ++ wX7 cy d u) H → va_D (lA s) (wL cy cJ a o v f ++ wX7 cy d u) → va_S (lA s) s.heap H locs → lv_has ls 9 [(0, .ref b), (1, .ref (a 0)), (2, .ref (d 0)), (3, .ref o), (4, .int (nI (3 * k)))] → W p l e room_1 s m #[Value.ref b] below meth c H locs (C + 2 * k) (S + 12 * k) (lw_Z below #[Value.ref b] s) (F0 m 23 ls []) := by
  intro n
  induction n with
  | zero => intro k v u f H locs ls h1 h2; exact absurd h2 (by omega)
  | succ n ih =>
    intro k v u f H locs ls hk hkn hI hP hD hS hl
    obtain ⟨hx, hb, hr, hml, hown, hts, hX, hbl, hlocks, hgv⟩ := id C0
    have hbA : ¬ lA s b := Nat.not_le.mpr hbl
    refine lv_iload hx hb dL_law_23 (lv_at hl 4 rfl) ?_
    refine lv_aload_n hx hb dL_law_25 rfl (lv_at hl 0 rfl) ?_
    refine va_slen hx hb hX hbl hbA hS dL_law_26 ?_
    refine lv_iconst (v := 3) hx hb dL_law_27 (by decide) ?_
    refine lv_isub hx hb dL_law_28 ?_
    refine lv_icmp_gt (tgt := 1622) hx hb dL_law_29 (by decide) (fun h9 => ?_) (fun h9 => ?_)
    · refine lv_iconst (v := 1) hx hb dL_law_1622 (by decide) ?_
      refine va_forget (fun q hq => hS.2.2 q hq) ?_
      refine W.widen (k := 601024) (n := 7293034) (by omega) (by omega) ?_
      refine W.base ?_
      exact lw_ret (Drawn.sameBut.refl s.drawn lw_cs) hx hb hr hlocks dL_law_1623
    · have hlt : 3 * k + 3 ≤ L := by
        rcases Nat.lt_or_ge L (3 * k + 3) with z | z
        · exact absurd ((head_gt hk hL).mpr z) h9
        · exact z
      have h0 : vp_in (nI (3 * k)) L := vp_in_nI (by omega) (by omega)
      have h1 : vp_in (nI (3 * k) + 1) L := by
        rw [nI_1]
        exact vp_in_nI (by omega) (by omega)
      have h2 : vp_in (nI (3 * k) + 2) L := by
        rw [show (2 : Int32) = nI 2 from rfl, nI_add]
        exact vp_in_nI (by omega) (by omega)
      have hc : C + 2 * k + 2 ≤ 601024 := by omega
      have hs : S + 12 * k + 12 ≤ 7293034 := by omega
      have hk1 : k < 512 := by omega
      have bk : BK p l e s m below meth c b dC dI cy cJ a d o (nI (3 * k)) (C + 2 * k + 2) (S + 12 * k + 12) (Inv (k + 1)) := by
        intro v u f H locs ls hI hP hD hS hl
        refine lv_iinc (v := nI (3 * (k + 1))) (lv' := [(4, .int (nI (3 * (k + 1)))), (0, .ref b), (1, .ref (a 0)), (2, .ref (d 0)), (3, .ref o)]) hx hb dL_law_1616 hl (k := 4) rfl (by rw [show 3 * (k + 1) = 3 * k + 3 from by omega, ← nI_add]; rfl) (by decide) rfl (fun ls hl => ?_)
        refine lv_goto (tgt := 23) hx hb dL_law_1619 (by decide) ?_
        have z := ih (k + 1) v u f H locs ls (by omega) (by omega) hI hP hD hS (lv_sub hl [1, 2, 3, 4, 0] rfl)
        rw [show C + 2 * (k + 1) = C + 2 * k + 2 from by omega, show S + 12 * (k + 1) = S + 12 * k + 12 from by omega] at z
        exact z
      refine lv_aload_n hx hb dL_law_32 rfl (lv_at hl 0 rfl) ?_
      refine lv_iload hx hb dL_law_33 (lv_at hl 4 rfl) ?_
      refine va_sld hx hb hX hbl hbA hS h0 dL_law_35 ?_
      refine lv_bipush (v := 31) hx hb dL_law_36 (by decide) ?_
      refine lv_iand hx hb dL_law_38 ?_
      refine lv_topi (fun x9 _ => ?_)
      by_cases n0 : x9 = 0
      · refine lv_tableIn (tgt := 168) (off := 129) hx hb dL_law_39 (by rw [n0]; decide) (by rw [n0]; decide) (by rw [n0]; decide) (by decide) ?_
        exact k_mole C0 hl9 hK hE h1 h2 hc hs hP hD hS hl (m_mole hI hk1 _ _) bk
      by_cases n1 : x9 = 1
      · refine lv_tableIn (tgt := 224) (off := 185) hx hb dL_law_39 (by rw [n1]; decide) (by rw [n1]; decide) (by rw [n1]; decide) (by decide) ?_
        exact k_plan C0 hl9 hK hE h1 h2 hc hs hP hD hS hl (m_plan hI hk1 _ _) bk
      by_cases n2 : x9 = 2
      · refine lv_tableIn (tgt := 292) (off := 253) hx hb dL_law_39 (by rw [n2]; decide) (by rw [n2]; decide) (by rw [n2]; decide) (by decide) ?_
        exact k_rest C0 hl9 hK hE h1 h2 hc hs hP hD hS hl (m_rest hI hk1 _ _) bk
      by_cases n3 : x9 = 3
      · refine lv_tableIn (tgt := 348) (off := 309) hx hb dL_law_39 (by rw [n3]; decide) (by rw [n3]; decide) (by rw [n3]; decide) (by decide) ?_
        exact k_pass C0 hl9 hK hE h1 h2 hc hs hP hD hS hl (m_pass hI hk1 _ _) bk
      by_cases n4 : x9 = 4
      · refine lv_tableIn (tgt := 404) (off := 365) hx hb dL_law_39 (by rw [n4]; decide) (by rw [n4]; decide) (by rw [n4]; decide) (by decide) ?_
        exact k_root C0 hl9 hK hE h1 h2 hc hs hP hD hS hl (m_root hI hk1 _ _) bk
      by_cases n5 : x9 = 5
      · refine lv_tableIn (tgt := 472) (off := 433) hx hb dL_law_39 (by rw [n5]; decide) (by rw [n5]; decide) (by rw [n5]; decide) (by decide) ?_
        exact k_trap C0 hl9 hK hE h1 h2 hc hs hP hD hS hl (m_trap hI hk1 _ _) bk
      by_cases n6 : x9 = 6
      · refine lv_tableIn (tgt := 540) (off := 501) hx hb dL_law_39 (by rw [n6]; decide) (by rw [n6]; decide) (by rw [n6]; decide) (by decide) ?_
        exact k_dig C0 hl9 hK hE h1 h2 hc hs hP hD hS hl (m_dig hI hk1 _ _) bk
      by_cases n7 : x9 = 7
      · refine lv_tableIn (tgt := 596) (off := 557) hx hb dL_law_39 (by rw [n7]; decide) (by rw [n7]; decide) (by rw [n7]; decide) (by decide) ?_
        exact k_rake C0 hl9 hK hE h1 h2 hc hs hP hD hS hl (m_rake hI hk1 _ _) bk
      by_cases n8 : x9 = 8
      · refine lv_tableIn (tgt := 652) (off := 613) hx hb dL_law_39 (by rw [n8]; decide) (by rw [n8]; decide) (by rw [n8]; decide) (by decide) ?_
        exact k_set C0 hl9 hK hE h1 h2 hc hs hP hD hS hl (m_set hI hk1 _ _) bk
      by_cases n9 : x9 = 9
      · refine lv_tableIn (tgt := 708) (off := 669) hx hb dL_law_39 (by rw [n9]; decide) (by rw [n9]; decide) (by rw [n9]; decide) (by decide) ?_
        exact k_append C0 hl9 hK hE h1 h2 hc hs hP hD hS hl (m_append hI hk1 _ _) bk
      by_cases n10 : x9 = 10
      · refine lv_tableIn (tgt := 764) (off := 725) hx hb dL_law_39 (by rw [n10]; decide) (by rw [n10]; decide) (by rw [n10]; decide) (by decide) ?_
        exact k_clearBuffer C0 hl9 hK hE h1 h2 hc hs hP hD hS hl (m_clearBuffer hI hk1 _ _) bk
      by_cases n11 : x9 = 11
      · refine lv_tableIn (tgt := 777) (off := 738) hx hb dL_law_39 (by rw [n11]; decide) (by rw [n11]; decide) (by rw [n11]; decide) (by decide) ?_
        exact k_firstError C0 hl9 hK hE h1 h2 hc hs hP hD hS hl (m_firstError hI hk1 _ _) bk
      by_cases n12 : x9 = 12
      · refine lv_tableIn (tgt := 790) (off := 751) hx hb dL_law_39 (by rw [n12]; decide) (by rw [n12]; decide) (by rw [n12]; decide) (by decide) ?_
        exact k_plans C0 hl9 hK hE h1 h2 hc hs hP hD hS hl (m_plans hI hk1 _ _) bk
      by_cases n13 : x9 = 13
      · refine lv_tableIn (tgt := 834) (off := 795) hx hb dL_law_39 (by rw [n13]; decide) (by rw [n13]; decide) (by rw [n13]; decide) (by decide) ?_
        exact k_undo C0 hl9 hK hE h1 h2 hc hs hP hD hS hl (m_undo hI hk1 _ _) bk
      by_cases n14 : x9 = 14
      · refine lv_tableIn (tgt := 878) (off := 839) hx hb dL_law_39 (by rw [n14]; decide) (by rw [n14]; decide) (by rw [n14]; decide) (by decide) ?_
        exact k_keep C0 hl9 hK hE h1 h2 hc hs hP hD hS hl (m_keep hI hk1 _ _) bk
      by_cases n15 : x9 = 15
      · refine lv_tableIn (tgt := 891) (off := 852) hx hb dL_law_39 (by rw [n15]; decide) (by rw [n15]; decide) (by rw [n15]; decide) (by decide) ?_
        exact k_restore C0 hl9 hK hE h1 h2 hc hs hP hD hS hl (m_restore hI hk1 _ _) bk
      by_cases n16 : x9 = 16
      · refine lv_tableIn (tgt := 935) (off := 896) hx hb dL_law_39 (by rw [n16]; decide) (by rw [n16]; decide) (by rw [n16]; decide) (by decide) ?_
        exact k_tuft C0 hl9 hK hE h1 h2 hc hs hP hD hS hl (m_tuft hI hk1 _ _) bk
      by_cases n17 : x9 = 17
      · refine lv_tableIn (tgt := 1003) (off := 964) hx hb dL_law_39 (by rw [n17]; decide) (by rw [n17]; decide) (by rw [n17]; decide) (by decide) ?_
        exact k_moleOf C0 hl9 hK hE h1 h2 hc hs hP hD hS hl (m_moleOf hI hk1 _ _) bk
      by_cases n18 : x9 = 18
      · refine lv_tableIn (tgt := 1071) (off := 1032) hx hb dL_law_39 (by rw [n18]; decide) (by rw [n18]; decide) (by rw [n18]; decide) (by decide) ?_
        exact k_tunnel C0 hl9 hK hE h1 h2 hc hs hP hD hS hl (m_tunnel hI hk1 _ _) bk
      by_cases n19 : x9 = 19
      · refine lv_tableIn (tgt := 1139) (off := 1100) hx hb dL_law_39 (by rw [n19]; decide) (by rw [n19]; decide) (by rw [n19]; decide) (by decide) ?_
        exact k_cell C0 hl9 hK hE h1 h2 hc hs hP hD hS hl (m_cell hI hk1 _ _) bk
      by_cases n20 : x9 = 20
      · refine lv_tableIn (tgt := 1207) (off := 1168) hx hb dL_law_39 (by rw [n20]; decide) (by rw [n20]; decide) (by rw [n20]; decide) (by decide) ?_
        exact k_count C0 hl9 hK hE h1 h2 hc hs hP hD hS hl (m_count hI hk1 _ _) bk
      by_cases n21 : x9 = 21
      · refine lv_tableIn (tgt := 1263) (off := 1224) hx hb dL_law_39 (by rw [n21]; decide) (by rw [n21]; decide) (by rw [n21]; decide) (by decide) ?_
        exact k_joined C0 hl9 hK hE h1 h2 hc hs hP hD hS hl (m_joined hI hk1 _ _) bk
      by_cases n22 : x9 = 22
      · refine lv_tableIn (tgt := 1331) (off := 1292) hx hb dL_law_39 (by rw [n22]; decide) (by rw [n22]; decide) (by rw [n22]; decide) (by decide) ?_
        exact k_fewest C0 hl9 hK hE h1 h2 hc hs hP hD hS hl (m_fewest hI hk1 _ _) bk
      by_cases n23 : x9 = 23
      · refine lv_tableIn (tgt := 1399) (off := 1360) hx hb dL_law_39 (by rw [n23]; decide) (by rw [n23]; decide) (by rw [n23]; decide) (by decide) ?_
        exact k_ifDug C0 hl9 hK hE h1 h2 hc hs hP hD hS hl (m_ifDug hI hk1 _ _) bk
      by_cases n24 : x9 = 24
      · refine lv_tableIn (tgt := 1467) (off := 1428) hx hb dL_law_39 (by rw [n24]; decide) (by rw [n24]; decide) (by rw [n24]; decide) (by decide) ?_
        exact k_bestDig C0 hl9 hK hE h1 h2 hc hs hP hD hS hl (m_bestDig hI hk1 _ _) bk
      by_cases n25 : x9 = 25
      · refine lv_tableIn (tgt := 1480) (off := 1441) hx hb dL_law_39 (by rw [n25]; decide) (by rw [n25]; decide) (by rw [n25]; decide) (by decide) ?_
        exact k_ifPassed C0 hl9 hK hE h1 h2 hc hs hP hD hS hl (m_ifPassed hI hk1 _ _) bk
      by_cases n26 : x9 = 26
      · refine lv_tableIn (tgt := 1548) (off := 1509) hx hb dL_law_39 (by rw [n26]; decide) (by rw [n26]; decide) (by rw [n26]; decide) (by decide) ?_
        exact k_nextMound C0 hl9 hK hE h1 h2 hc hs hP hD hS hl (m_nextMound hI hk1 _ _) bk
      by_cases n27 : x9 = 27
      · refine lv_tableIn (tgt := 1561) (off := 1522) hx hb dL_law_39 (by rw [n27]; decide) (by rw [n27]; decide) (by rw [n27]; decide) (by decide) ?_
        exact k_hollowShare C0 hl9 hK hE h1 h2 hc hs hP hD hS hl (m_hollowShare hI hk1 _ _) bk
      by_cases n28 : x9 = 28
      · refine lv_tableIn (tgt := 1602) (off := 1563) hx hb dL_law_39 (by rw [n28]; decide) (by rw [n28]; decide) (by rw [n28]; decide) (by decide) ?_
        exact k_digest C0 hl9 hK hE h1 h2 hc hs hP hD hS hl (m_digest hI hk1 _ _) bk
      have e0 := lv_neT n0 (show (0 : Int32).toInt = 0 from by decide)
      have e1 := lv_neT n1 (show (1 : Int32).toInt = 1 from by decide)
      have e2 := lv_neT n2 (show (2 : Int32).toInt = 2 from by decide)
      have e3 := lv_neT n3 (show (3 : Int32).toInt = 3 from by decide)
      have e4 := lv_neT n4 (show (4 : Int32).toInt = 4 from by decide)
      have e5 := lv_neT n5 (show (5 : Int32).toInt = 5 from by decide)
      have e6 := lv_neT n6 (show (6 : Int32).toInt = 6 from by decide)
      have e7 := lv_neT n7 (show (7 : Int32).toInt = 7 from by decide)
      have e8 := lv_neT n8 (show (8 : Int32).toInt = 8 from by decide)
      have e9 := lv_neT n9 (show (9 : Int32).toInt = 9 from by decide)
      have e10 := lv_neT n10 (show (10 : Int32).toInt = 10 from by decide)
      have e11 := lv_neT n11 (show (11 : Int32).toInt = 11 from by decide)
      have e12 := lv_neT n12 (show (12 : Int32).toInt = 12 from by decide)
      have e13 := lv_neT n13 (show (13 : Int32).toInt = 13 from by decide)
      have e14 := lv_neT n14 (show (14 : Int32).toInt = 14 from by decide)
      have e15 := lv_neT n15 (show (15 : Int32).toInt = 15 from by decide)
      have e16 := lv_neT n16 (show (16 : Int32).toInt = 16 from by decide)
      have e17 := lv_neT n17 (show (17 : Int32).toInt = 17 from by decide)
      have e18 := lv_neT n18 (show (18 : Int32).toInt = 18 from by decide)
      have e19 := lv_neT n19 (show (19 : Int32).toInt = 19 from by decide)
      have e20 := lv_neT n20 (show (20 : Int32).toInt = 20 from by decide)
      have e21 := lv_neT n21 (show (21 : Int32).toInt = 21 from by decide)
      have e22 := lv_neT n22 (show (22 : Int32).toInt = 22 from by decide)
      have e23 := lv_neT n23 (show (23 : Int32).toInt = 23 from by decide)
      have e24 := lv_neT n24 (show (24 : Int32).toInt = 24 from by decide)
      have e25 := lv_neT n25 (show (25 : Int32).toInt = 25 from by decide)
      have e26 := lv_neT n26 (show (26 : Int32).toInt = 26 from by decide)
      have e27 := lv_neT n27 (show (27 : Int32).toInt = 27 from by decide)
      have e28 := lv_neT n28 (show (28 : Int32).toInt = 28 from by decide)
      refine lv_tableOut (tgt := 1616) hx hb dL_law_39 (by omega) (by decide) ?_
      refine W.widen (k := C + 2 * k + 2) (n := S + 12 * k + 12) (by omega) (by omega) ?_
      exact bk v u f _ _ ls hI.up hP hD hS hl
