/-! One turn of the law, and all of them. -/
set_option maxHeartbeats 8000000 in
set_option maxRecDepth 100000 in
theorem law_loop {p : Program} {l : Launch} {e : Env} {s : State} {m : MethodId} {below : List Frame} {meth : Method} {c : Code} {b L : Nat} {xs : Nat → Int32} (hL : L ≤ 260) (C0 : lw_At p s m meth c b L xs) {dC : Nat → ClassId} {dI : Nat → Nat → Nat} {cy : Nat → ClassId} (hK : va_K (dC, dI) vwCl (tys cy) s) (hE : xEnv (lA s) s s.heap) {a : Nat → Nat} {T : Nat} (hT : T ≤ 30) : ∀ (n k : Nat) (v : V_X6) (H : Heap) (locs : List Loc) (ls : Array Slot), k ≤ T → T + 1 ≤ n + k → IV (15 * k) v → va_P (dC, dI) vwCl (wX6 cy a v) H → va_D (lA s) (wX6 cy a v) → va_S (lA s) s.heap H locs → lv_has ls 5 [(4, .int (nI k)), (3, .int (nI T)), (2, .int 1), (1, .ref (a 0)), (0, .ref b)] → W p l e room_1 s m #[Value.ref b] below meth c H locs (206 + 2 * k) (20189 + 128 * k) (lw_Z below #[Value.ref b] s) (F0 m 60 ls []) := by
  intro n
  induction n with
  | zero => intro k v H locs ls h1 h2; exact absurd h2 (by omega)
  | succ n ih =>
    intro k v H locs ls hkT hkn hI hP hD hS hl
    obtain ⟨hx, hb, hr, hml, hown, hts0, hX, hbl, hlocks, hgv⟩ := id C0
    have hts : ∀ w ∈ wsL_law, w.before #[Value.ref b] s = true := fun w h => hts0 w (wsL_law_in w h)
    have hA : ∀ q : Nat, s.heap.size ≤ q → lA s q := fun _ h => h
    have hbA : ¬ lA s b := Nat.not_le.mpr hbl
    have hk30 : k ≤ 30 := Nat.le_trans hkT hT
    have J157 : ∀ (v : V_X6) (H : Heap) (locs : List Loc) (ls : Array Slot), k < T → IV (15 * k + 15) v → va_P (dC, dI) vwCl (wX6 cy a v) H → va_D (lA s) (wX6 cy a v) → va_S (lA s) s.heap H locs → lv_has ls 5 [(4, .int (nI k)), (3, .int (nI T)), (2, .int 1), (1, .ref (a 0)), (0, .ref b)] → W p l e room_1 s m #[Value.ref b] below meth c H locs (206 + 2 * k + 2) (20189 + 128 * k + 128) (lw_Z below #[Value.ref b] s) (F0 m 157 ls []) := by
      intro v H locs ls hk hI hP hD hS hl
      refine lv_iconst (v := 1) hx hb dL_law_157 (by decide) ?_
      refine lv_goto (tgt := 162) hx hb dL_law_158 (by decide) ?_
      refine lv_istore_n (lv' := [(2, .int 1), (4, .int (nI k)), (3, .int (nI T)), (1, .ref (a 0)), (0, .ref b)]) hx hb dL_law_162 rfl hl (by decide) rfl (fun ls hl => ?_)
      refine lv_iinc (v := nI (k + 1)) (lv' := [(4, .int (nI (k + 1))), (2, .int 1), (3, .int (nI T)), (1, .ref (a 0)), (0, .ref b)]) hx hb dL_law_163 hl (k := 1) rfl (by rw [← nI_add]; rfl) (by decide) rfl (fun ls hl => ?_)
      refine lv_goto (tgt := 60) hx hb dL_law_166 (by decide) ?_
      have z := ih (k + 1) v H locs ls (by omega) (by omega) (by rw [show 15 * (k + 1) = 15 * k + 15 by omega]; exact hI) hP hD hS (lv_sub hl [0, 2, 1, 3, 4] rfl)
      rw [show 206 + 2 * (k + 1) = 206 + 2 * k + 2 by omega, show 20189 + 128 * (k + 1) = 20189 + 128 * k + 128 by omega] at z
      exact z
    have J132 : ∀ (v : V_X6) (H : Heap) (locs : List Loc) (ls : Array Slot), k < T → IV (15 * k + 4) v → va_P (dC, dI) vwCl (wX6 cy a v) H → va_D (lA s) (wX6 cy a v) → va_S (lA s) s.heap H locs → lv_has ls 5 [(4, .int (nI k)), (3, .int (nI T)), (2, .int 1), (1, .ref (a 0)), (0, .ref b)] → W p l e room_1 s m #[Value.ref b] below meth c H locs (206 + 2 * k + 2) (20189 + 128 * k + 128) (lw_Z below #[Value.ref b] s) (F0 m 132 ls []) := by
      intro v H locs ls hk hI hP hD hS hl
      refine lv_iload hx hb dL_law_132 (lv_at hl 0 rfl) ?_
      refine lv_iconst (v := 5) hx hb dL_law_134 (by decide) ?_
      refine lv_irem hx hb dL_law_135 (by decide) ?_
      refine lv_iconst (v := 4) hx hb dL_law_136 (by decide) ?_
      refine lv_icmp_ne (tgt := 157) hx hb dL_law_137 (by decide) (fun _ => ?_) (fun _ => ?_)
      · exact J157 v H locs ls hk (hI.elim fun w z => ⟨w, z.1, z.2.up (by omega)⟩) hP hD hS hl
      · refine lv_aload_n hx hb dL_law_140 rfl (lv_at hl 3 rfl) ?_
        refine lv_aload_n hx hb dL_law_141 rfl (lv_at hl 4 rfl) ?_
        refine lv_iconst (v := 2) hx hb dL_law_142 (by decide) ?_
        refine lv_iload hx hb dL_law_143 (lv_at hl 0 rfl) ?_
        refine lv_imul hx hb dL_law_145 ?_
        refine lv_iconst (v := 1) hx hb dL_law_146 (by decide) ?_
        refine lv_iadd hx hb dL_law_147 ?_
        have hFc := xfree_none hS hA
        refine va_calli (va_runS (As := [.ref b, .int ((2 * (nI k)) + 1)]) (rest := [.ref (a 0)]) ⟨hx, hb, hml, hown, hts⟩ (c_L_cell l b L xs hL _ ((2 * (nI k)) + 1) (two_neg1 hk30)) (va_cwS 2 hts gL_law_L_cell rfl rfl rfl (by decide +kernel) ⟨Nat.le_of_ble_eq_true rfl, Nat.le_of_ble_eq_true rfl⟩) ⟨preS_blind, preS_of hX hbl hbA hS⟩ rfl rfl hl.1 rfl (lv_room (Nat.le_of_ble_eq_true rfl)) dL_law_148 ⟨by show _ ≤ 600172; omega, by show _ ≤ 7300668; omega⟩) hS (fun q _ h => hFc q h) hFc (fun r148 u9 t H locs ht hvm hq hB hz1 hk1 hS => ?_)
        have hP := xj_none hP hk1
        have hFc := xfree_same hS hA (ws := wX6 cy a v) hD
        have hq := s_tries hI (by omega) r148
        refine va_calli (va_runS (As := [.ref (a 0), .int r148]) (rest := []) ⟨hx, hb, hml, hown, hts⟩ (c_L_tries l dC dI cy a _ v r148 _ hq) (va_cwS 2 hts gL_law_L_tries rfl rfl rfl (by decide +kernel) ⟨Nat.le_of_ble_eq_true rfl, Nat.le_of_ble_eq_true rfl⟩) ⟨xPre_blindE, xPre_ofE hP hK hD hE hS hFc⟩ rfl rfl hl.1 rfl (lv_room (Nat.le_of_ble_eq_true rfl)) dL_law_151 ⟨by show _ ≤ 600172; omega, by show _ ≤ 7300668; omega⟩) hS (fun q _ h => hFc q h) hFc (fun r151 v151 t H locs ht hvm hq hB hz1 hk1 hS => ?_)
        obtain ⟨hP1, -, hD1⟩ := hB
        rw [ht] at hP1
        have hP : va_P (dC, dI) vwCl (wX6 cy a v151) H := hP1
        have hD : va_D (lA s) (wX6 cy a v151) := hD1.weaken (fun _ q _ h => hFc q.1 h)
        obtain ⟨e151, hI⟩ := (hq : r151 = 1 ∧ _)
        subst e151
        refine lv_if_eq (tgt := 161) hx hb dL_law_154 (by decide) (fun q => absurd q (by decide)) (fun _ => ?_)
        exact J157 _ _ _ _ hk hI hP hD hS hl
    refine lv_iload hx hb dL_law_60 (lv_at hl 0 rfl) ?_
    refine lv_iload_n hx hb dL_law_62 rfl (lv_at hl 1 rfl) ?_
    refine lv_icmp_ge (tgt := 169) hx hb dL_law_63 (by decide) (fun h9 => ?_) (fun h9 => ?_)
    · refine lv_iload_n hx hb dL_law_169 rfl (lv_at hl 2 rfl) ?_
      refine va_forget (fun q hq => hS.2.2 q hq) ?_
      refine W.widen (k := 600172) (n := 7300668) (by omega) (by omega) ?_
      refine W.base ?_
      exact lw_ret (Drawn.sameBut.refl s.drawn lw_cs) hx hb hr hlocks dL_law_170
    · have hk : k < T := by
        rw [nI_leI (by omega) (by omega)] at h9
        omega
      refine lv_iload_n hx hb dL_law_66 rfl (lv_at hl 2 rfl) ?_
      refine lv_if_eq (tgt := 169) hx hb dL_law_67 (by decide) (fun q => absurd q (by decide)) (fun _ => ?_)
      refine lv_aload_n hx hb dL_law_70 rfl (lv_at hl 3 rfl) ?_
      refine lv_aload_n hx hb dL_law_71 rfl (lv_at hl 4 rfl) ?_
      refine lv_iconst (v := 2) hx hb dL_law_72 (by decide) ?_
      refine lv_iload hx hb dL_law_73 (lv_at hl 0 rfl) ?_
      refine lv_imul hx hb dL_law_75 ?_
      have hFc := xfree_none hS hA
      refine va_calli (va_runS (As := [.ref b, .int (2 * (nI k))]) (rest := [.ref (a 0)]) ⟨hx, hb, hml, hown, hts⟩ (c_L_cell l b L xs hL _ (2 * (nI k)) (two_neg hk30)) (va_cwS 2 hts gL_law_L_cell rfl rfl rfl (by decide +kernel) ⟨Nat.le_of_ble_eq_true rfl, Nat.le_of_ble_eq_true rfl⟩) ⟨preS_blind, preS_of hX hbl hbA hS⟩ rfl rfl hl.1 rfl (lv_room (Nat.le_of_ble_eq_true rfl)) dL_law_76 ⟨by show _ ≤ 600172; omega, by show _ ≤ 7300668; omega⟩) hS (fun q _ h => hFc q h) hFc (fun r76 u9 t H locs ht hvm hq hB hz1 hk1 hS => ?_)
      have hP := xj_none hP hk1
      refine lv_aload_n hx hb dL_law_79 rfl (lv_at hl 4 rfl) ?_
      refine lv_iconst (v := 2) hx hb dL_law_80 (by decide) ?_
      refine lv_iload hx hb dL_law_81 (lv_at hl 0 rfl) ?_
      refine lv_imul hx hb dL_law_83 ?_
      refine lv_iconst (v := 1) hx hb dL_law_84 (by decide) ?_
      refine lv_iadd hx hb dL_law_85 ?_
      have hFc := xfree_none hS hA
      refine va_calli (va_runS (As := [.ref b, .int ((2 * (nI k)) + 1)]) (rest := [.int r76, .ref (a 0)]) ⟨hx, hb, hml, hown, hts⟩ (c_L_cell l b L xs hL _ ((2 * (nI k)) + 1) (two_neg1 hk30)) (va_cwS 2 hts gL_law_L_cell rfl rfl rfl (by decide +kernel) ⟨Nat.le_of_ble_eq_true rfl, Nat.le_of_ble_eq_true rfl⟩) ⟨preS_blind, preS_of hX hbl hbA hS⟩ rfl rfl hl.1 rfl (lv_room (Nat.le_of_ble_eq_true rfl)) dL_law_86 ⟨by show _ ≤ 600172; omega, by show _ ≤ 7300668; omega⟩) hS (fun q _ h => hFc q h) hFc (fun r86 u9 t H locs ht hvm hq hB hz1 hk1 hS => ?_)
      have hP := xj_none hP hk1
      have hFc := xfree_same hS hA (ws := wX6 cy a v) hD
      have hq := s_change hI (by omega) r76 r86
      refine va_calli (va_runS (As := [.ref (a 0), .int r76, .int r86]) (rest := []) ⟨hx, hb, hml, hown, hts⟩ (c_L_change l dC dI cy a _ v r76 r86 _ hq) (va_cwS 3 hts gL_law_L_change rfl rfl rfl (by decide +kernel) ⟨Nat.le_of_ble_eq_true rfl, Nat.le_of_ble_eq_true rfl⟩) ⟨xPre_blindE, xPre_ofE hP hK hD hE hS hFc⟩ rfl rfl hl.1 rfl (lv_room (Nat.le_of_ble_eq_true rfl)) dL_law_89 ⟨by show _ ≤ 600172; omega, by show _ ≤ 7300668; omega⟩) hS (fun q _ h => hFc q h) hFc (fun r89 v89 t H locs ht hvm hq hB hz1 hk1 hS => ?_)
      obtain ⟨hP1, -, hD1⟩ := hB
      rw [ht] at hP1
      have hP : va_P (dC, dI) vwCl (wX6 cy a v89) H := hP1
      have hD : va_D (lA s) (wX6 cy a v89) := hD1.weaken (fun _ q _ h => hFc q.1 h)
      obtain ⟨e89, hI⟩ := (hq : r89 = 1 ∧ _)
      subst e89
      refine lv_if_eq (tgt := 161) hx hb dL_law_92 (by decide) (fun q => absurd q (by decide)) (fun _ => ?_)
      refine lv_iload hx hb dL_law_95 (lv_at hl 0 rfl) ?_
      refine lv_bipush (v := 15) hx hb dL_law_97 (by decide) ?_
      refine lv_irem hx hb dL_law_99 (by decide) ?_
      refine lv_bipush (v := 14) hx hb dL_law_100 (by decide) ?_
      have J113 : W p l e room_1 s m #[Value.ref b] below meth c H locs (206 + 2 * k) (20189 + 128 * k) (lw_Z below #[Value.ref b] s) (F0 m 113 ls []) := by
        refine lv_aload_n hx hb dL_law_113 rfl (lv_at hl 3 rfl) ?_
        have hFc := xfree_same hS hA (ws := wX6 cy a v89) hD
        have hq := s_holds hI
        refine va_calli (va_runS (As := [.ref (a 0)]) (rest := []) ⟨hx, hb, hml, hown, hts⟩ (c_L_holds l dC dI cy a _ v89 _ hq) (va_cwS 1 hts gL_law_L_holds rfl rfl rfl (by decide +kernel) ⟨Nat.le_of_ble_eq_true rfl, Nat.le_of_ble_eq_true rfl⟩) ⟨xPre_blindE, xPre_ofE hP hK hD hE hS hFc⟩ rfl rfl hl.1 rfl (lv_room (Nat.le_of_ble_eq_true rfl)) dL_law_114 ⟨by show _ ≤ 600172; omega, by show _ ≤ 7300668; omega⟩) hS (fun q _ h => hFc q h) hFc (fun r114 v114 t H locs ht hvm hq hB hz1 hk1 hS => ?_)
        obtain ⟨hP1, -, hD1⟩ := hB
        rw [ht] at hP1
        have hP : va_P (dC, dI) vwCl (wX6 cy a v114) H := hP1
        have hD : va_D (lA s) (wX6 cy a v114) := hD1.weaken (fun _ q _ h => hFc q.1 h)
        obtain ⟨e114, hI⟩ := (hq : r114 = 1 ∧ _)
        subst e114
        refine lv_if_eq (tgt := 161) hx hb dL_law_117 (by decide) (fun q => absurd q (by decide)) (fun _ => ?_)
        refine lv_goto (tgt := 132) hx hb dL_law_120 (by decide) ?_
        exact J132 _ _ _ _ hk hI hP hD hS hl
      refine lv_icmp_eq (tgt := 113) hx hb dL_law_102 (by decide) (fun _ => J113) (fun _ => ?_)
      refine lv_iload hx hb dL_law_105 (lv_at hl 0 rfl) ?_
      refine lv_iload_n hx hb dL_law_107 rfl (lv_at hl 1 rfl) ?_
      refine lv_iconst (v := 1) hx hb dL_law_108 (by decide) ?_
      refine lv_isub hx hb dL_law_109 ?_
      refine lv_icmp_ne (tgt := 123) hx hb dL_law_110 (by decide) (fun _ => ?_) (fun _ => J113)
      refine lv_aload_n hx hb dL_law_123 rfl (lv_at hl 3 rfl) ?_
      refine lv_iload hx hb dL_law_124 (lv_at hl 0 rfl) ?_
      have hFc := xfree_same hS hA (ws := wX6 cy a v89) hD
      have hq := s_looks hI (t := k) (by omega)
      refine va_calli (va_runS (As := [.ref (a 0), .int (nI k)]) (rest := []) ⟨hx, hb, hml, hown, hts⟩ (c_L_looks l dC dI cy a _ v89 (nI k) _ hq) (va_cwS 2 hts gL_law_L_looks rfl rfl rfl (by decide +kernel) ⟨Nat.le_of_ble_eq_true rfl, Nat.le_of_ble_eq_true rfl⟩) ⟨xPre_blindE, xPre_ofE hP hK hD hE hS hFc⟩ rfl rfl hl.1 rfl (lv_room (Nat.le_of_ble_eq_true rfl)) dL_law_126 ⟨by show _ ≤ 600172; omega, by show _ ≤ 7300668; omega⟩) hS (fun q _ h => hFc q h) hFc (fun r126 v126 t H locs ht hvm hq hB hz1 hk1 hS => ?_)
      obtain ⟨hP1, -, hD1⟩ := hB
      rw [ht] at hP1
      have hP : va_P (dC, dI) vwCl (wX6 cy a v126) H := hP1
      have hD : va_D (lA s) (wX6 cy a v126) := hD1.weaken (fun _ q _ h => hFc q.1 h)
      obtain ⟨e126, hI⟩ := (hq : r126 = 1 ∧ _)
      subst e126
      refine lv_if_eq (tgt := 161) hx hb dL_law_129 (by decide) (fun q => absurd q (by decide)) (fun _ => ?_)
      refine W.widen (k := 206 + 2 * k + 2) (n := 20189 + 128 * k + 128) (by omega) (by omega) ?_
      exact J132 _ _ _ _ hk hI hP hD hS hl
