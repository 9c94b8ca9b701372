def wp_L_digs_109 (v : V_X6) (x1 : Int32) (z109_v : V_X6) (k109_0 : Int32) (Q : Int32 → V_X6 → Prop) : Prop :=
  ((k109_0 = 0 → Q 0 z109_v) ∧
  (¬ k109_0 = 0 → wo_X6_tuft z109_v x1 0 (fun r119 z119_v =>
  ((r119 = 0 → wo_X6_tuft z119_v x1 1 (fun r128 z128_v =>
  ((r128 = 0 → wo_X6_tuft z128_v x1 2 (fun r137 z137_v =>
  ((r137 = (-1) → wo_X6_tuft z137_v x1 3 (fun r147 z147_v =>
  ((r147 = 0 → wo_X6_tuft z147_v x1 5 (fun r156 z156_v =>
  ((r156 = 1 → wo_X6_tuft z156_v x1 6 (fun r167 z167_v =>
  ((r167 = 0 → Q 1 z167_v) ∧
  (¬ r167 = 0 → Q 0 z167_v)))) ∧
  (¬ r156 = 1 → Q 0 z156_v)))) ∧
  (¬ r147 = 0 → Q 0 z147_v)))) ∧
  (¬ r137 = (-1) → Q 0 z137_v)))) ∧
  (¬ r128 = 0 → Q 0 z128_v)))) ∧
  (¬ r119 = 0 → Q 0 z119_v)))))
def wp_L_digs_108 (v : V_X6) (x1 : Int32) (z108_v : V_X6) (Q : Int32 → V_X6 → Prop) : Prop :=
  wp_L_digs_109 v x1 z108_v 0  Q
def wp_L_digs (v : V_X6) (x1 : Int32) (Q : Int32 → V_X6 → Prop) : Prop :=
  wo_X6_count v 4 (fun r2 z2_v =>
  wo_X6_count z2_v 1 (fun r8 z8_v =>
  wo_X6_ifDug z8_v x1 0 (fun r15 z15_v =>
  wo_X6_ifDug z15_v x1 1 (fun r23 z23_v =>
  wo_X6_ifDug z23_v x1 2 (fun r31 z31_v =>
  wo_X6_tuft z31_v x1 7 (fun r42 z42_v =>
  ((r15 = r42 → wo_X6_tuft z42_v x1 8 (fun r54 z54_v =>
  ((r23 = r54 → wo_X6_dig z54_v x1 (fun r62 z62_v =>
  ((r62 = r23 → wo_X6_count z62_v 1 (fun r72 z72_v =>
  ((r72 = (r8 - r23) → wo_X6_count z72_v 5 (fun r84 z84_v =>
  ((r84 = r31 → wo_X6_count z84_v 4 (fun r94 z94_v =>
  ((r94 < (r2 - r15) → wp_L_digs_108 v x1 z94_v  Q) ∧
  (¬ r94 < (r2 - r15) → wp_L_digs_109 v x1 z94_v 1  Q)))) ∧
  (¬ r84 = r31 → wp_L_digs_108 v x1 z84_v  Q)))) ∧
  (¬ r72 = (r8 - r23) → wp_L_digs_108 v x1 z72_v  Q)))) ∧
  (¬ r62 = r23 → wp_L_digs_108 v x1 z62_v  Q)))) ∧
  (¬ r23 = r54 → wp_L_digs_108 v x1 z54_v  Q)))) ∧
  (¬ r15 = r42 → wp_L_digs_108 v x1 z42_v  Q))))))))
def q_L_digs (dC : Nat → ClassId) (dI : Nat → Nat → Nat) (cy : Nat → ClassId) (a : Nat → Nat) (v : V_X6) (x1 : Int32) (Q : Int32 → V_X6 → Prop) (A : Nat → Prop) : Array Value → State → Outcome → State → Prop := va_Qi (fun (r : Int32) (u : V_X6) => Q r u) (fun (u : V_X6) t => xAt dC dI cy A (wX6 cy a u) t) A
set_option maxHeartbeats 4000000 in
set_option maxRecDepth 100000 in
theorem c_L_digs (l : Launch) (dC : Nat → ClassId) (dI : Nat → Nat → Nat) (cy : Nat → ClassId) (a : Nat → Nat) (sz : Nat) (v : V_X6) (x1 : Int32) (Q : Int32 → V_X6 → Prop) (hq : wp_L_digs v x1 Q) : Met l yL_digs wsL_digs ({ frames := 7, cells := 0, slots := 0, locals := 166 } : Room) (va_Pc [.ref (a 0), .int x1] (xPreE dC dI cy (wX6 cy a v) sz)) (q_L_digs dC dI cy a v x1 Q (va_A (wX6 cy a v) sz)) 0 0 (va_A (wX6 cy a v) sz) := by
  refine Met.ofW (cc := cL_digs) (maxL := 8) (ret := (some .boolean)) (by decide) rfl ?_
  intro p e s m args below meth c s₁ B hml hv
  obtain ⟨rfl, hsz, hP, hK, hD0, hE⟩ := hv
  have hx := B.exec
  have hb := B.bytes
  have hr := B.returns
  have hts := atoms_spec (ws := wsL_digs) B.pre
  have hown : s.vm.findClass RL = some m.cls := findClass_of_methodNamed B.named
  have hlocks := B.notSynchronized
  subst hsz
  have hD := hD0.self (sz := s.heap.size)
  generalize hAe : va_A (wX6 cy a v) s.heap.size = A at hD hE ⊢
  have hAe0 : ∀ q : Nat, s.heap.size ≤ q → A q := fun q h => by rw [← hAe]; exact Or.inr h
  have hS : va_S A s.heap s.heap [] := va_S.rf
  have hl := lv_entry ([.ref (a 0), .int x1]) (n := 8) (Nat.le_of_ble_eq_true rfl)
  rw [lg_entry_eq]
  generalize (lg_sl ([.ref (a 0), .int x1]) ++ List.replicate (8 - (lg_sl ([.ref (a 0), .int x1])).length) Slot.unset).toArray = ls at hl ⊢
  have hl : lv_has ls 8 [(0, .ref (a 0)), (1, .int x1)] := hl
  unfold wp_L_digs at hq
  have J109 : ∀ (z109_v : V_X6) (k109_0 : Int32) (H : Heap) (locs : List Loc) (ls : Array Slot), wp_L_digs_109 v x1 z109_v k109_0 Q → va_P (dC, dI) vwCl (wX6 cy a z109_v) H → va_D A (wX6 cy a z109_v) → va_S A s.heap H locs → lv_has ls 8 [(0, .ref (a 0)), (1, .int x1)] → W p l e (headSpec wsL_digs ({ frames := 7, cells := 0, slots := 0, locals := 166 } : Room)).room s m ([.ref (a 0), .int x1] : List Value).toArray below meth c H locs 0 0 (MQ below (q_L_digs dC dI cy a v x1 Q A) ([.ref (a 0), .int x1] : List Value).toArray s 0 0 A) (F0 m 109 ls [.int k109_0]) := by
    intro z109_v k109_0 H locs ls hq hP hD hS hl
    unfold wp_L_digs_109 at hq
    refine lv_istore (lv' := [(7, .int k109_0), (0, .ref (a 0)), (1, .int x1)]) hx hb dL_digs_109 hl (by decide) rfl (fun ls hl => ?_)
    refine lv_iload hx hb dL_digs_111 (lv_at hl 0 rfl) ?_
    obtain ⟨hqA, hqB⟩ := hq
    refine lv_if_eq (tgt := 177) hx hb dL_digs_113 (by decide) (fun c7 => ?_) (fun c7 => ?_)
    · have hq := hqA c7
      refine lv_iconst (v := 0) hx hb dL_digs_177 (by decide) ?_
      exact W.zret (v := 0) hx hb hr rfl (fun t ht hW => ⟨⟨0, z109_v, rfl, hq, (xAt_of hP hK hD ht hW)⟩, hS.F ht⟩) hS.2.2 dL_digs_178
    · have hq := hqB c7
      refine lv_aload_n hx hb dL_digs_116 rfl (lv_at hl 1 rfl) ?_
      refine lv_iload_n hx hb dL_digs_117 rfl (lv_at hl 2 rfl) ?_
      refine lv_iconst (v := 0) hx hb dL_digs_118 (by decide) ?_
      have hFc := xfree_same hS hAe0 (ws := (wX6 cy a z109_v)) hD
      refine va_calli (va_runV (As := [.int x1, .int 0]) (rest := []) ⟨hx, hb, hml, hown, hts⟩ (co_X6_tuft l dC dI cy a _ z109_v x1 0 _ hq) (cwV 2 hts gL_digs_X6_tuft rfl rfl rfl (by decide +kernel) ⟨Nat.le_of_ble_eq_true rfl, Nat.le_of_ble_eq_true rfl⟩) ⟨xPre_blindE, va_recv hK hP (ci := 6) (q0 := 0) rfl rfl, xPre_ofE hP hK hD hE hS hFc⟩ rfl rfl hl.1 rfl (lv_room (Nat.le_of_ble_eq_true rfl)) dL_digs_119 ⟨Nat.le_of_ble_eq_true rfl, Nat.le_of_ble_eq_true rfl⟩) hS (fun q _ h => hFc q h) hFc (fun r119 z119_v t H locs ht hvm hq hB hz1 hk1 hS => ?_)
      obtain ⟨hP1, -, hD1⟩ := hB
      rw [ht] at hP1
      have hP : va_P (dC, dI) vwCl (wX6 cy a z119_v) H := hP1
      have hD : va_D A (wX6 cy a z119_v) := hD1.weaken (fun _ q _ h => hFc q.1 h)
      obtain ⟨hqA, hqB⟩ := hq
      refine lv_if_ne (tgt := 177) hx hb dL_digs_122 (by decide) (fun c6 => ?_) (fun c6 => ?_)
      · have hq := hqB c6
        refine lv_iconst (v := 0) hx hb dL_digs_177 (by decide) ?_
        exact W.zret (v := 0) hx hb hr rfl (fun t ht hW => ⟨⟨0, z119_v, rfl, hq, (xAt_of hP hK hD ht hW)⟩, hS.F ht⟩) hS.2.2 dL_digs_178
      · have hq := hqA c6
        refine lv_aload_n hx hb dL_digs_125 rfl (lv_at hl 1 rfl) ?_
        refine lv_iload_n hx hb dL_digs_126 rfl (lv_at hl 2 rfl) ?_
        refine lv_iconst (v := 1) hx hb dL_digs_127 (by decide) ?_
        have hFc := xfree_same hS hAe0 (ws := (wX6 cy a z119_v)) hD
        refine va_calli (va_runV (As := [.int x1, .int 1]) (rest := []) ⟨hx, hb, hml, hown, hts⟩ (co_X6_tuft l dC dI cy a _ z119_v x1 1 _ hq) (cwV 2 hts gL_digs_X6_tuft rfl rfl rfl (by decide +kernel) ⟨Nat.le_of_ble_eq_true rfl, Nat.le_of_ble_eq_true rfl⟩) ⟨xPre_blindE, va_recv hK hP (ci := 6) (q0 := 0) rfl rfl, xPre_ofE hP hK hD hE hS hFc⟩ rfl rfl hl.1 rfl (lv_room (Nat.le_of_ble_eq_true rfl)) dL_digs_128 ⟨Nat.le_of_ble_eq_true rfl, Nat.le_of_ble_eq_true rfl⟩) hS (fun q _ h => hFc q h) hFc (fun r128 z128_v t H locs ht hvm hq hB hz1 hk1 hS => ?_)
        obtain ⟨hP1, -, hD1⟩ := hB
        rw [ht] at hP1
        have hP : va_P (dC, dI) vwCl (wX6 cy a z128_v) H := hP1
        have hD : va_D A (wX6 cy a z128_v) := hD1.weaken (fun _ q _ h => hFc q.1 h)
        obtain ⟨hqA, hqB⟩ := hq
        refine lv_if_ne (tgt := 177) hx hb dL_digs_131 (by decide) (fun c5 => ?_) (fun c5 => ?_)
        · have hq := hqB c5
          refine lv_iconst (v := 0) hx hb dL_digs_177 (by decide) ?_
          exact W.zret (v := 0) hx hb hr rfl (fun t ht hW => ⟨⟨0, z128_v, rfl, hq, (xAt_of hP hK hD ht hW)⟩, hS.F ht⟩) hS.2.2 dL_digs_178
        · have hq := hqA c5
          refine lv_aload_n hx hb dL_digs_134 rfl (lv_at hl 1 rfl) ?_
          refine lv_iload_n hx hb dL_digs_135 rfl (lv_at hl 2 rfl) ?_
          refine lv_iconst (v := 2) hx hb dL_digs_136 (by decide) ?_
          have hFc := xfree_same hS hAe0 (ws := (wX6 cy a z128_v)) hD
          refine va_calli (va_runV (As := [.int x1, .int 2]) (rest := []) ⟨hx, hb, hml, hown, hts⟩ (co_X6_tuft l dC dI cy a _ z128_v x1 2 _ hq) (cwV 2 hts gL_digs_X6_tuft rfl rfl rfl (by decide +kernel) ⟨Nat.le_of_ble_eq_true rfl, Nat.le_of_ble_eq_true rfl⟩) ⟨xPre_blindE, va_recv hK hP (ci := 6) (q0 := 0) rfl rfl, xPre_ofE hP hK hD hE hS hFc⟩ rfl rfl hl.1 rfl (lv_room (Nat.le_of_ble_eq_true rfl)) dL_digs_137 ⟨Nat.le_of_ble_eq_true rfl, Nat.le_of_ble_eq_true rfl⟩) hS (fun q _ h => hFc q h) hFc (fun r137 z137_v t H locs ht hvm hq hB hz1 hk1 hS => ?_)
          obtain ⟨hP1, -, hD1⟩ := hB
          rw [ht] at hP1
          have hP : va_P (dC, dI) vwCl (wX6 cy a z137_v) H := hP1
          have hD : va_D A (wX6 cy a z137_v) := hD1.weaken (fun _ q _ h => hFc q.1 h)
          refine lv_iconst (v := (-1)) hx hb dL_digs_140 (by decide) ?_
          obtain ⟨hqA, hqB⟩ := hq
          refine lv_icmp_ne (tgt := 177) hx hb dL_digs_141 (by decide) (fun c4 => ?_) (fun c4 => ?_)
          · have hq := hqB c4
            refine lv_iconst (v := 0) hx hb dL_digs_177 (by decide) ?_
            exact W.zret (v := 0) hx hb hr rfl (fun t ht hW => ⟨⟨0, z137_v, rfl, hq, (xAt_of hP hK hD ht hW)⟩, hS.F ht⟩) hS.2.2 dL_digs_178
          · have hq := hqA c4
            refine lv_aload_n hx hb dL_digs_144 rfl (lv_at hl 1 rfl) ?_
            refine lv_iload_n hx hb dL_digs_145 rfl (lv_at hl 2 rfl) ?_
            refine lv_iconst (v := 3) hx hb dL_digs_146 (by decide) ?_
            have hFc := xfree_same hS hAe0 (ws := (wX6 cy a z137_v)) hD
            refine va_calli (va_runV (As := [.int x1, .int 3]) (rest := []) ⟨hx, hb, hml, hown, hts⟩ (co_X6_tuft l dC dI cy a _ z137_v x1 3 _ hq) (cwV 2 hts gL_digs_X6_tuft rfl rfl rfl (by decide +kernel) ⟨Nat.le_of_ble_eq_true rfl, Nat.le_of_ble_eq_true rfl⟩) ⟨xPre_blindE, va_recv hK hP (ci := 6) (q0 := 0) rfl rfl, xPre_ofE hP hK hD hE hS hFc⟩ rfl rfl hl.1 rfl (lv_room (Nat.le_of_ble_eq_true rfl)) dL_digs_147 ⟨Nat.le_of_ble_eq_true rfl, Nat.le_of_ble_eq_true rfl⟩) hS (fun q _ h => hFc q h) hFc (fun r147 z147_v t H locs ht hvm hq hB hz1 hk1 hS => ?_)
            obtain ⟨hP1, -, hD1⟩ := hB
            rw [ht] at hP1
            have hP : va_P (dC, dI) vwCl (wX6 cy a z147_v) H := hP1
            have hD : va_D A (wX6 cy a z147_v) := hD1.weaken (fun _ q _ h => hFc q.1 h)
            obtain ⟨hqA, hqB⟩ := hq
            refine lv_if_ne (tgt := 177) hx hb dL_digs_150 (by decide) (fun c3 => ?_) (fun c3 => ?_)
            · have hq := hqB c3
              refine lv_iconst (v := 0) hx hb dL_digs_177 (by decide) ?_
              exact W.zret (v := 0) hx hb hr rfl (fun t ht hW => ⟨⟨0, z147_v, rfl, hq, (xAt_of hP hK hD ht hW)⟩, hS.F ht⟩) hS.2.2 dL_digs_178
            · have hq := hqA c3
              refine lv_aload_n hx hb dL_digs_153 rfl (lv_at hl 1 rfl) ?_
              refine lv_iload_n hx hb dL_digs_154 rfl (lv_at hl 2 rfl) ?_
              refine lv_iconst (v := 5) hx hb dL_digs_155 (by decide) ?_
              have hFc := xfree_same hS hAe0 (ws := (wX6 cy a z147_v)) hD
              refine va_calli (va_runV (As := [.int x1, .int 5]) (rest := []) ⟨hx, hb, hml, hown, hts⟩ (co_X6_tuft l dC dI cy a _ z147_v x1 5 _ hq) (cwV 2 hts gL_digs_X6_tuft rfl rfl rfl (by decide +kernel) ⟨Nat.le_of_ble_eq_true rfl, Nat.le_of_ble_eq_true rfl⟩) ⟨xPre_blindE, va_recv hK hP (ci := 6) (q0 := 0) rfl rfl, xPre_ofE hP hK hD hE hS hFc⟩ rfl rfl hl.1 rfl (lv_room (Nat.le_of_ble_eq_true rfl)) dL_digs_156 ⟨Nat.le_of_ble_eq_true rfl, Nat.le_of_ble_eq_true rfl⟩) hS (fun q _ h => hFc q h) hFc (fun r156 z156_v t H locs ht hvm hq hB hz1 hk1 hS => ?_)
              obtain ⟨hP1, -, hD1⟩ := hB
              rw [ht] at hP1
              have hP : va_P (dC, dI) vwCl (wX6 cy a z156_v) H := hP1
              have hD : va_D A (wX6 cy a z156_v) := hD1.weaken (fun _ q _ h => hFc q.1 h)
              refine lv_iconst (v := 1) hx hb dL_digs_159 (by decide) ?_
              obtain ⟨hqA, hqB⟩ := hq
              refine lv_icmp_ne (tgt := 177) hx hb dL_digs_160 (by decide) (fun c2 => ?_) (fun c2 => ?_)
              · have hq := hqB c2
                refine lv_iconst (v := 0) hx hb dL_digs_177 (by decide) ?_
                exact W.zret (v := 0) hx hb hr rfl (fun t ht hW => ⟨⟨0, z156_v, rfl, hq, (xAt_of hP hK hD ht hW)⟩, hS.F ht⟩) hS.2.2 dL_digs_178
              · have hq := hqA c2
                refine lv_aload_n hx hb dL_digs_163 rfl (lv_at hl 1 rfl) ?_
                refine lv_iload_n hx hb dL_digs_164 rfl (lv_at hl 2 rfl) ?_
                refine lv_bipush (v := 6) hx hb dL_digs_165 (by decide) ?_
                have hFc := xfree_same hS hAe0 (ws := (wX6 cy a z156_v)) hD
                refine va_calli (va_runV (As := [.int x1, .int 6]) (rest := []) ⟨hx, hb, hml, hown, hts⟩ (co_X6_tuft l dC dI cy a _ z156_v x1 6 _ hq) (cwV 2 hts gL_digs_X6_tuft rfl rfl rfl (by decide +kernel) ⟨Nat.le_of_ble_eq_true rfl, Nat.le_of_ble_eq_true rfl⟩) ⟨xPre_blindE, va_recv hK hP (ci := 6) (q0 := 0) rfl rfl, xPre_ofE hP hK hD hE hS hFc⟩ rfl rfl hl.1 rfl (lv_room (Nat.le_of_ble_eq_true rfl)) dL_digs_167 ⟨Nat.le_of_ble_eq_true rfl, Nat.le_of_ble_eq_true rfl⟩) hS (fun q _ h => hFc q h) hFc (fun r167 z167_v t H locs ht hvm hq hB hz1 hk1 hS => ?_)
                obtain ⟨hP1, -, hD1⟩ := hB
                rw [ht] at hP1
                have hP : va_P (dC, dI) vwCl (wX6 cy a z167_v) H := hP1
                have hD : va_D A (wX6 cy a z167_v) := hD1.weaken (fun _ q _ h => hFc q.1 h)
                obtain ⟨hqA, hqB⟩ := hq
                refine lv_if_ne (tgt := 177) hx hb dL_digs_170 (by decide) (fun c1 => ?_) (fun c1 => ?_)
                · have hq := hqB c1
                  refine lv_iconst (v := 0) hx hb dL_digs_177 (by decide) ?_
                  exact W.zret (v := 0) hx hb hr rfl (fun t ht hW => ⟨⟨0, z167_v, rfl, hq, (xAt_of hP hK hD ht hW)⟩, hS.F ht⟩) hS.2.2 dL_digs_178
                · have hq := hqA c1
                  refine lv_iconst (v := 1) hx hb dL_digs_173 (by decide) ?_
                  refine lv_goto (tgt := 178) hx hb dL_digs_174 (by decide) ?_
                  exact W.zret (v := 1) hx hb hr rfl (fun t ht hW => ⟨⟨1, z167_v, rfl, hq, (xAt_of hP hK hD ht hW)⟩, hS.F ht⟩) hS.2.2 dL_digs_178
  have J108 : ∀ (z108_v : V_X6) (H : Heap) (locs : List Loc) (ls : Array Slot), wp_L_digs_108 v x1 z108_v Q → va_P (dC, dI) vwCl (wX6 cy a z108_v) H → va_D A (wX6 cy a z108_v) → va_S A s.heap H locs → lv_has ls 8 [(0, .ref (a 0)), (1, .int x1)] → W p l e (headSpec wsL_digs ({ frames := 7, cells := 0, slots := 0, locals := 166 } : Room)).room s m ([.ref (a 0), .int x1] : List Value).toArray below meth c H locs 0 0 (MQ below (q_L_digs dC dI cy a v x1 Q A) ([.ref (a 0), .int x1] : List Value).toArray s 0 0 A) (F0 m 108 ls []) := by
    intro z108_v H locs ls hq hP hD hS hl
    unfold wp_L_digs_108 at hq
    refine lv_iconst (v := 0) hx hb dL_digs_108 (by decide) ?_
    exact J109 z108_v 0  _ _ _ hq hP hD hS (lv_sub hl [0, 1] rfl)
  refine lv_aload_n hx hb dL_digs_0 rfl (lv_at hl 0 rfl) ?_
  refine lv_iconst (v := 4) hx hb dL_digs_1 (by decide) ?_
  have hFc := xfree_same hS hAe0 (ws := (wX6 cy a v)) hD
  refine va_calli (va_runV (As := [.int 4]) (rest := []) ⟨hx, hb, hml, hown, hts⟩ (co_X6_count l dC dI cy a _ v 4 _ hq) (cwV 1 hts gL_digs_X6_count rfl rfl rfl (by decide +kernel) ⟨Nat.le_of_ble_eq_true rfl, Nat.le_of_ble_eq_true rfl⟩) ⟨xPre_blindE, va_recv hK hP (ci := 6) (q0 := 0) rfl rfl, xPre_ofE hP hK hD hE hS hFc⟩ rfl rfl hl.1 rfl (lv_room (Nat.le_of_ble_eq_true rfl)) dL_digs_2 ⟨Nat.le_of_ble_eq_true rfl, Nat.le_of_ble_eq_true rfl⟩) hS (fun q _ h => hFc q h) hFc (fun r2 z2_v t H locs ht hvm hq hB hz1 hk1 hS => ?_)
  obtain ⟨hP1, -, hD1⟩ := hB
  rw [ht] at hP1
  have hP : va_P (dC, dI) vwCl (wX6 cy a z2_v) H := hP1
  have hD : va_D A (wX6 cy a z2_v) := hD1.weaken (fun _ q _ h => hFc q.1 h)
  refine lv_istore_n (lv' := [(2, .int r2), (0, .ref (a 0)), (1, .int x1)]) hx hb dL_digs_5 rfl hl (by decide) rfl (fun ls hl => ?_)
  refine lv_aload_n hx hb dL_digs_6 rfl (lv_at hl 1 rfl) ?_
  refine lv_iconst (v := 1) hx hb dL_digs_7 (by decide) ?_
  have hFc := xfree_same hS hAe0 (ws := (wX6 cy a z2_v)) hD
  refine va_calli (va_runV (As := [.int 1]) (rest := []) ⟨hx, hb, hml, hown, hts⟩ (co_X6_count l dC dI cy a _ z2_v 1 _ hq) (cwV 1 hts gL_digs_X6_count rfl rfl rfl (by decide +kernel) ⟨Nat.le_of_ble_eq_true rfl, Nat.le_of_ble_eq_true rfl⟩) ⟨xPre_blindE, va_recv hK hP (ci := 6) (q0 := 0) rfl rfl, xPre_ofE hP hK hD hE hS hFc⟩ rfl rfl hl.1 rfl (lv_room (Nat.le_of_ble_eq_true rfl)) dL_digs_8 ⟨Nat.le_of_ble_eq_true rfl, Nat.le_of_ble_eq_true rfl⟩) hS (fun q _ h => hFc q h) hFc (fun r8 z8_v t H locs ht hvm hq hB hz1 hk1 hS => ?_)
  obtain ⟨hP1, -, hD1⟩ := hB
  rw [ht] at hP1
  have hP : va_P (dC, dI) vwCl (wX6 cy a z8_v) H := hP1
  have hD : va_D A (wX6 cy a z8_v) := hD1.weaken (fun _ q _ h => hFc q.1 h)
  refine lv_istore_n (lv' := [(3, .int r8), (2, .int r2), (0, .ref (a 0)), (1, .int x1)]) hx hb dL_digs_11 rfl hl (by decide) rfl (fun ls hl => ?_)
  refine lv_aload_n hx hb dL_digs_12 rfl (lv_at hl 2 rfl) ?_
  refine lv_iload_n hx hb dL_digs_13 rfl (lv_at hl 3 rfl) ?_
  refine lv_iconst (v := 0) hx hb dL_digs_14 (by decide) ?_
  have hFc := xfree_same hS hAe0 (ws := (wX6 cy a z8_v)) hD
  refine va_calli (va_runV (As := [.int x1, .int 0]) (rest := []) ⟨hx, hb, hml, hown, hts⟩ (co_X6_ifDug l dC dI cy a _ z8_v x1 0 _ hq) (cwV 2 hts gL_digs_X6_ifDug rfl rfl rfl (by decide +kernel) ⟨Nat.le_of_ble_eq_true rfl, Nat.le_of_ble_eq_true rfl⟩) ⟨xPre_blindE, va_recv hK hP (ci := 6) (q0 := 0) rfl rfl, xPre_ofE hP hK hD hE hS hFc⟩ rfl rfl hl.1 rfl (lv_room (Nat.le_of_ble_eq_true rfl)) dL_digs_15 ⟨Nat.le_of_ble_eq_true rfl, Nat.le_of_ble_eq_true rfl⟩) hS (fun q _ h => hFc q h) hFc (fun r15 z15_v t H locs ht hvm hq hB hz1 hk1 hS => ?_)
  obtain ⟨hP1, -, hD1⟩ := hB
  rw [ht] at hP1
  have hP : va_P (dC, dI) vwCl (wX6 cy a z15_v) H := hP1
  have hD : va_D A (wX6 cy a z15_v) := hD1.weaken (fun _ q _ h => hFc q.1 h)
  refine lv_istore (lv' := [(4, .int r15), (3, .int r8), (2, .int r2), (0, .ref (a 0)), (1, .int x1)]) hx hb dL_digs_18 hl (by decide) rfl (fun ls hl => ?_)
  refine lv_aload_n hx hb dL_digs_20 rfl (lv_at hl 3 rfl) ?_
  refine lv_iload_n hx hb dL_digs_21 rfl (lv_at hl 4 rfl) ?_
  refine lv_iconst (v := 1) hx hb dL_digs_22 (by decide) ?_
  have hFc := xfree_same hS hAe0 (ws := (wX6 cy a z15_v)) hD
  refine va_calli (va_runV (As := [.int x1, .int 1]) (rest := []) ⟨hx, hb, hml, hown, hts⟩ (co_X6_ifDug l dC dI cy a _ z15_v x1 1 _ hq) (cwV 2 hts gL_digs_X6_ifDug rfl rfl rfl (by decide +kernel) ⟨Nat.le_of_ble_eq_true rfl, Nat.le_of_ble_eq_true rfl⟩) ⟨xPre_blindE, va_recv hK hP (ci := 6) (q0 := 0) rfl rfl, xPre_ofE hP hK hD hE hS hFc⟩ rfl rfl hl.1 rfl (lv_room (Nat.le_of_ble_eq_true rfl)) dL_digs_23 ⟨Nat.le_of_ble_eq_true rfl, Nat.le_of_ble_eq_true rfl⟩) hS (fun q _ h => hFc q h) hFc (fun r23 z23_v t H locs ht hvm hq hB hz1 hk1 hS => ?_)
  obtain ⟨hP1, -, hD1⟩ := hB
  rw [ht] at hP1
  have hP : va_P (dC, dI) vwCl (wX6 cy a z23_v) H := hP1
  have hD : va_D A (wX6 cy a z23_v) := hD1.weaken (fun _ q _ h => hFc q.1 h)
  refine lv_istore (lv' := [(5, .int r23), (4, .int r15), (3, .int r8), (2, .int r2), (0, .ref (a 0)), (1, .int x1)]) hx hb dL_digs_26 hl (by decide) rfl (fun ls hl => ?_)
  refine lv_aload_n hx hb dL_digs_28 rfl (lv_at hl 4 rfl) ?_
  refine lv_iload_n hx hb dL_digs_29 rfl (lv_at hl 5 rfl) ?_
  refine lv_iconst (v := 2) hx hb dL_digs_30 (by decide) ?_
  have hFc := xfree_same hS hAe0 (ws := (wX6 cy a z23_v)) hD
  refine va_calli (va_runV (As := [.int x1, .int 2]) (rest := []) ⟨hx, hb, hml, hown, hts⟩ (co_X6_ifDug l dC dI cy a _ z23_v x1 2 _ hq) (cwV 2 hts gL_digs_X6_ifDug rfl rfl rfl (by decide +kernel) ⟨Nat.le_of_ble_eq_true rfl, Nat.le_of_ble_eq_true rfl⟩) ⟨xPre_blindE, va_recv hK hP (ci := 6) (q0 := 0) rfl rfl, xPre_ofE hP hK hD hE hS hFc⟩ rfl rfl hl.1 rfl (lv_room (Nat.le_of_ble_eq_true rfl)) dL_digs_31 ⟨Nat.le_of_ble_eq_true rfl, Nat.le_of_ble_eq_true rfl⟩) hS (fun q _ h => hFc q h) hFc (fun r31 z31_v t H locs ht hvm hq hB hz1 hk1 hS => ?_)
  obtain ⟨hP1, -, hD1⟩ := hB
  rw [ht] at hP1
  have hP : va_P (dC, dI) vwCl (wX6 cy a z31_v) H := hP1
  have hD : va_D A (wX6 cy a z31_v) := hD1.weaken (fun _ q _ h => hFc q.1 h)
  refine lv_istore (lv' := [(6, .int r31), (5, .int r23), (4, .int r15), (3, .int r8), (2, .int r2), (0, .ref (a 0)), (1, .int x1)]) hx hb dL_digs_34 hl (by decide) rfl (fun ls hl => ?_)
  refine lv_iload hx hb dL_digs_36 (lv_at hl 2 rfl) ?_
  refine lv_aload_n hx hb dL_digs_38 rfl (lv_at hl 5 rfl) ?_
  refine lv_iload_n hx hb dL_digs_39 rfl (lv_at hl 6 rfl) ?_
  refine lv_bipush (v := 7) hx hb dL_digs_40 (by decide) ?_
  have hFc := xfree_same hS hAe0 (ws := (wX6 cy a z31_v)) hD
  refine va_calli (va_runV (As := [.int x1, .int 7]) (rest := [.int r15]) ⟨hx, hb, hml, hown, hts⟩ (co_X6_tuft l dC dI cy a _ z31_v x1 7 _ hq) (cwV 2 hts gL_digs_X6_tuft rfl rfl rfl (by decide +kernel) ⟨Nat.le_of_ble_eq_true rfl, Nat.le_of_ble_eq_true rfl⟩) ⟨xPre_blindE, va_recv hK hP (ci := 6) (q0 := 0) rfl rfl, xPre_ofE hP hK hD hE hS hFc⟩ rfl rfl hl.1 rfl (lv_room (Nat.le_of_ble_eq_true rfl)) dL_digs_42 ⟨Nat.le_of_ble_eq_true rfl, Nat.le_of_ble_eq_true rfl⟩) hS (fun q _ h => hFc q h) hFc (fun r42 z42_v t H locs ht hvm hq hB hz1 hk1 hS => ?_)
  obtain ⟨hP1, -, hD1⟩ := hB
  rw [ht] at hP1
  have hP : va_P (dC, dI) vwCl (wX6 cy a z42_v) H := hP1
  have hD : va_D A (wX6 cy a z42_v) := hD1.weaken (fun _ q _ h => hFc q.1 h)
  obtain ⟨hqA, hqB⟩ := hq
  refine lv_icmp_ne (tgt := 108) hx hb dL_digs_45 (by decide) (fun c13 => ?_) (fun c13 => ?_)
  · have hq := hqB c13
    exact J108 z42_v  _ _ _ hq hP hD hS (lv_sub hl [5, 6] rfl)
  · have hq := hqA c13
    refine lv_iload hx hb dL_digs_48 (lv_at hl 1 rfl) ?_
    refine lv_aload_n hx hb dL_digs_50 rfl (lv_at hl 5 rfl) ?_
    refine lv_iload_n hx hb dL_digs_51 rfl (lv_at hl 6 rfl) ?_
    refine lv_bipush (v := 8) hx hb dL_digs_52 (by decide) ?_
    have hFc := xfree_same hS hAe0 (ws := (wX6 cy a z42_v)) hD
    refine va_calli (va_runV (As := [.int x1, .int 8]) (rest := [.int r23]) ⟨hx, hb, hml, hown, hts⟩ (co_X6_tuft l dC dI cy a _ z42_v x1 8 _ hq) (cwV 2 hts gL_digs_X6_tuft rfl rfl rfl (by decide +kernel) ⟨Nat.le_of_ble_eq_true rfl, Nat.le_of_ble_eq_true rfl⟩) ⟨xPre_blindE, va_recv hK hP (ci := 6) (q0 := 0) rfl rfl, xPre_ofE hP hK hD hE hS hFc⟩ rfl rfl hl.1 rfl (lv_room (Nat.le_of_ble_eq_true rfl)) dL_digs_54 ⟨Nat.le_of_ble_eq_true rfl, Nat.le_of_ble_eq_true rfl⟩) hS (fun q _ h => hFc q h) hFc (fun r54 z54_v t H locs ht hvm hq hB hz1 hk1 hS => ?_)
    obtain ⟨hP1, -, hD1⟩ := hB
    rw [ht] at hP1
    have hP : va_P (dC, dI) vwCl (wX6 cy a z54_v) H := hP1
    have hD : va_D A (wX6 cy a z54_v) := hD1.weaken (fun _ q _ h => hFc q.1 h)
    obtain ⟨hqA, hqB⟩ := hq
    refine lv_icmp_ne (tgt := 108) hx hb dL_digs_57 (by decide) (fun c12 => ?_) (fun c12 => ?_)
    · have hq := hqB c12
      exact J108 z54_v  _ _ _ hq hP hD hS (lv_sub hl [5, 6] rfl)
    · have hq := hqA c12
      refine lv_aload_n hx hb dL_digs_60 rfl (lv_at hl 5 rfl) ?_
      refine lv_iload_n hx hb dL_digs_61 rfl (lv_at hl 6 rfl) ?_
      have hFc := xfree_same hS hAe0 (ws := (wX6 cy a z54_v)) hD
      refine va_calli (va_runV (As := [.int x1]) (rest := []) ⟨hx, hb, hml, hown, hts⟩ (co_X6_dig l dC dI cy a _ z54_v x1 _ hq) (cwV 1 hts gL_digs_X6_dig rfl rfl rfl (by decide +kernel) ⟨Nat.le_of_ble_eq_true rfl, Nat.le_of_ble_eq_true rfl⟩) ⟨xPre_blind, va_recv hK hP (ci := 6) (q0 := 0) rfl rfl, xPre_of hP hK hD⟩ rfl rfl hl.1 rfl (lv_room (Nat.le_of_ble_eq_true rfl)) dL_digs_62 ⟨Nat.le_of_ble_eq_true rfl, Nat.le_of_ble_eq_true rfl⟩) hS (fun q _ h => hFc q h) hFc (fun r62 z62_v t H locs ht hvm hq hB hz1 hk1 hS => ?_)
      obtain ⟨hP1, -, hD1⟩ := hB
      rw [ht] at hP1
      have hP : va_P (dC, dI) vwCl (wX6 cy a z62_v) H := hP1
      have hD : va_D A (wX6 cy a z62_v) := hD1.weaken (fun _ q _ h => hFc q.1 h)
      refine lv_iload hx hb dL_digs_65 (lv_at hl 1 rfl) ?_
      obtain ⟨hqA, hqB⟩ := hq
      refine lv_icmp_ne (tgt := 108) hx hb dL_digs_67 (by decide) (fun c11 => ?_) (fun c11 => ?_)
      · have hq := hqB c11
        exact J108 z62_v  _ _ _ hq hP hD hS (lv_sub hl [5, 6] rfl)
      · have hq := hqA c11
        refine lv_aload_n hx hb dL_digs_70 rfl (lv_at hl 5 rfl) ?_
        refine lv_iconst (v := 1) hx hb dL_digs_71 (by decide) ?_
        have hFc := xfree_same hS hAe0 (ws := (wX6 cy a z62_v)) hD
        refine va_calli (va_runV (As := [.int 1]) (rest := []) ⟨hx, hb, hml, hown, hts⟩ (co_X6_count l dC dI cy a _ z62_v 1 _ hq) (cwV 1 hts gL_digs_X6_count rfl rfl rfl (by decide +kernel) ⟨Nat.le_of_ble_eq_true rfl, Nat.le_of_ble_eq_true rfl⟩) ⟨xPre_blindE, va_recv hK hP (ci := 6) (q0 := 0) rfl rfl, xPre_ofE hP hK hD hE hS hFc⟩ rfl rfl hl.1 rfl (lv_room (Nat.le_of_ble_eq_true rfl)) dL_digs_72 ⟨Nat.le_of_ble_eq_true rfl, Nat.le_of_ble_eq_true rfl⟩) hS (fun q _ h => hFc q h) hFc (fun r72 z72_v t H locs ht hvm hq hB hz1 hk1 hS => ?_)
        obtain ⟨hP1, -, hD1⟩ := hB
        rw [ht] at hP1
        have hP : va_P (dC, dI) vwCl (wX6 cy a z72_v) H := hP1
        have hD : va_D A (wX6 cy a z72_v) := hD1.weaken (fun _ q _ h => hFc q.1 h)
        refine lv_iload_n hx hb dL_digs_75 rfl (lv_at hl 3 rfl) ?_
        refine lv_iload hx hb dL_digs_76 (lv_at hl 1 rfl) ?_
        refine lv_isub hx hb dL_digs_78 ?_
        obtain ⟨hqA, hqB⟩ := hq
        refine lv_icmp_ne (tgt := 108) hx hb dL_digs_79 (by decide) (fun c10 => ?_) (fun c10 => ?_)
        · have hq := hqB c10
          exact J108 z72_v  _ _ _ hq hP hD hS (lv_sub hl [5, 6] rfl)
        · have hq := hqA c10
          refine lv_aload_n hx hb dL_digs_82 rfl (lv_at hl 5 rfl) ?_
          refine lv_iconst (v := 5) hx hb dL_digs_83 (by decide) ?_
          have hFc := xfree_same hS hAe0 (ws := (wX6 cy a z72_v)) hD
          refine va_calli (va_runV (As := [.int 5]) (rest := []) ⟨hx, hb, hml, hown, hts⟩ (co_X6_count l dC dI cy a _ z72_v 5 _ hq) (cwV 1 hts gL_digs_X6_count rfl rfl rfl (by decide +kernel) ⟨Nat.le_of_ble_eq_true rfl, Nat.le_of_ble_eq_true rfl⟩) ⟨xPre_blindE, va_recv hK hP (ci := 6) (q0 := 0) rfl rfl, xPre_ofE hP hK hD hE hS hFc⟩ rfl rfl hl.1 rfl (lv_room (Nat.le_of_ble_eq_true rfl)) dL_digs_84 ⟨Nat.le_of_ble_eq_true rfl, Nat.le_of_ble_eq_true rfl⟩) hS (fun q _ h => hFc q h) hFc (fun r84 z84_v t H locs ht hvm hq hB hz1 hk1 hS => ?_)
          obtain ⟨hP1, -, hD1⟩ := hB
          rw [ht] at hP1
          have hP : va_P (dC, dI) vwCl (wX6 cy a z84_v) H := hP1
          have hD : va_D A (wX6 cy a z84_v) := hD1.weaken (fun _ q _ h => hFc q.1 h)
          refine lv_iload hx hb dL_digs_87 (lv_at hl 0 rfl) ?_
          obtain ⟨hqA, hqB⟩ := hq
          refine lv_icmp_ne (tgt := 108) hx hb dL_digs_89 (by decide) (fun c9 => ?_) (fun c9 => ?_)
          · have hq := hqB c9
            exact J108 z84_v  _ _ _ hq hP hD hS (lv_sub hl [5, 6] rfl)
          · have hq := hqA c9
            refine lv_aload_n hx hb dL_digs_92 rfl (lv_at hl 5 rfl) ?_
            refine lv_iconst (v := 4) hx hb dL_digs_93 (by decide) ?_
            have hFc := xfree_same hS hAe0 (ws := (wX6 cy a z84_v)) hD
            refine va_calli (va_runV (As := [.int 4]) (rest := []) ⟨hx, hb, hml, hown, hts⟩ (co_X6_count l dC dI cy a _ z84_v 4 _ hq) (cwV 1 hts gL_digs_X6_count rfl rfl rfl (by decide +kernel) ⟨Nat.le_of_ble_eq_true rfl, Nat.le_of_ble_eq_true rfl⟩) ⟨xPre_blindE, va_recv hK hP (ci := 6) (q0 := 0) rfl rfl, xPre_ofE hP hK hD hE hS hFc⟩ rfl rfl hl.1 rfl (lv_room (Nat.le_of_ble_eq_true rfl)) dL_digs_94 ⟨Nat.le_of_ble_eq_true rfl, Nat.le_of_ble_eq_true rfl⟩) hS (fun q _ h => hFc q h) hFc (fun r94 z94_v t H locs ht hvm hq hB hz1 hk1 hS => ?_)
            obtain ⟨hP1, -, hD1⟩ := hB
            rw [ht] at hP1
            have hP : va_P (dC, dI) vwCl (wX6 cy a z94_v) H := hP1
            have hD : va_D A (wX6 cy a z94_v) := hD1.weaken (fun _ q _ h => hFc q.1 h)
            refine lv_iload_n hx hb dL_digs_97 rfl (lv_at hl 4 rfl) ?_
            refine lv_iload hx hb dL_digs_98 (lv_at hl 2 rfl) ?_
            refine lv_isub hx hb dL_digs_100 ?_
            obtain ⟨hqA, hqB⟩ := hq
            refine lv_icmp_lt (tgt := 108) hx hb dL_digs_101 (by decide) (fun c8 => ?_) (fun c8 => ?_)
            · have hq := hqA c8
              exact J108 z94_v  _ _ _ hq hP hD hS (lv_sub hl [5, 6] rfl)
            · have hq := hqB c8
              refine lv_iconst (v := 1) hx hb dL_digs_104 (by decide) ?_
              refine lv_goto (tgt := 109) hx hb dL_digs_105 (by decide) ?_
              exact J109 z94_v 1  _ _ _ hq hP hD hS (lv_sub hl [5, 6] rfl)
