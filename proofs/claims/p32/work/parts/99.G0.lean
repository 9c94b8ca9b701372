/-! The law's helper that reads its script; the first state; what the law's steps give. -/
def preS (b L : Nat) (xs : Nat → Int32) (sz : Nat) (U : State) : Prop := U.heap.size = sz ∧ va_X b L xs U U.heap ∧ b < U.heap.size
theorem preS_blind {b L : Nat} {xs : Nat → Int32} {sz : Nat} {av : List Value} : FrameBlind (va_Pc av (preS b L xs sz)) := fun a U g mk q => by
  obtain ⟨q0, q1, qX, qb⟩ := q
  exact ⟨q0, q1, va_X.moved (u := U) (U := U.calling g mk a) (Vm.Alike.refl U.vm) qX, qb⟩
theorem preS_of {b L : Nat} {xs : Nat → Int32} {A : Nat → Prop} {s : State} {H : Heap} {locs : List Loc} {av : List Value} (hX : va_X b L xs s s.heap) (hbl : b < s.heap.size) (hbA : ¬ A b) (hS : va_S A s.heap H locs) : ∀ U : State, U.heap = H → s.WarmedH U.vm → va_Pc av (preS b L xs H.size) av.toArray U := fun U hU hW => ⟨rfl, by rw [hU], by rw [hU]; exact (va_X.moved hW.alike hX).kept (hS.2.1 b hbl hbA), by rw [hU]; exact Nat.lt_of_lt_of_le hbl hS.1⟩
set_option maxHeartbeats 4000000 in
set_option maxRecDepth 100000 in
theorem c_L_cell (l : Launch) (b L : Nat) (xs : Nat → Int32) (hL : L ≤ 260) (sz : Nat) (k : Int32) (hk : ¬ k < 0) : Met l yL_cell wsL_cell ({ frames := 0, cells := 0, slots := 0, locals := 0 } : Room) (va_Pc [.ref b, .int k] (preS b L xs sz)) (va_Qi (fun (_ : Int32) (_ : Unit) => True) (fun (_ : Unit) _ => True) (va_A ([] : va_W) sz)) 0 0 (va_A ([] : va_W) sz) := by
  refine Met.ofW (cc := cL_cell) (maxL := 2) (ret := (some .int)) (by decide) rfl ?_
  intro p e s m args below meth c s₁ B hml hv
  obtain ⟨rfl, hsz, hX, hbl⟩ := hv
  have hx := B.exec
  have hb := B.bytes
  have hr := B.returns
  have hts := atoms_spec (ws := wsL_cell) B.pre
  have hown : s.vm.findClass RL = some m.cls := findClass_of_methodNamed B.named
  subst hsz
  generalize hAe : va_A ([] : va_W) s.heap.size = A
  have hbA : ¬ A b := by
    rw [← hAe]
    rintro (⟨k, e, h⟩ | h)
    · simp at h
    · exact absurd hbl (Nat.not_lt.mpr h)
  have hS : va_S A s.heap s.heap [] := va_S.rf
  have hl := lv_entry ([.ref b, .int k]) (n := 2) (Nat.le_of_ble_eq_true rfl)
  rw [lg_entry_eq]
  generalize (lg_sl ([.ref b, .int k]) ++ List.replicate (2 - (lg_sl ([.ref b, .int k])).length) Slot.unset).toArray = ls at hl ⊢
  have hl : lv_has ls 2 [(0, .ref b), (1, .int k)] := hl
  refine lv_iload_n hx hb dL_cell_0 rfl (lv_at hl 1 rfl) ?_
  refine lv_aload_n hx hb dL_cell_1 rfl (lv_at hl 0 rfl) ?_
  refine va_slen hx hb hX hbl hbA hS dL_cell_2 ?_
  refine lv_icmp_ge (tgt := 12) hx hb dL_cell_3 (by decide) (fun h9 => ?_) (fun h9 => ?_)
  · refine lv_ldc (v := 40503) hx hb hown (hts (Cond.constant RL 7 (40503)) (List.mem_cons_of_mem _ (List.mem_of_getElem? (i := 0) rfl))) dL_cell_12 ?_
    refine lv_iload_n hx hb dL_cell_14 rfl (lv_at hl 1 rfl) ?_
    refine lv_imul hx hb dL_cell_15 ?_
    refine lv_sipush (v := 977) hx hb dL_cell_16 (by decide) ?_
    refine lv_iadd hx hb dL_cell_19 ?_
    exact W.iret (v := (40503 * k + 977)) hx hb hr (fun t ht hW => ⟨⟨_, (), rfl, trivial, trivial⟩, hS.F ht⟩) hS.2.2 dL_cell_20
  · refine lv_aload_n hx hb dL_cell_6 rfl (lv_at hl 0 rfl) ?_
    refine lv_iload_n hx hb dL_cell_7 rfl (lv_at hl 1 rfl) ?_
    have hin : vp_in k L := by
      obtain ⟨j, hj, rfl⟩ := nI_of hk
      have h9 : ¬ nI L ≤ nI j := h9
      rw [nI_leI (by omega) hj] at h9
      exact vp_in_nI (by omega) (by omega)
    refine va_sld hx hb hX hbl hbA hS hin dL_cell_8 ?_
    refine lv_goto (tgt := 20) hx hb dL_cell_9 (by decide) ?_
    exact W.iret (v := (xs k.toNatClampNeg)) hx hb hr (fun t ht hW => ⟨⟨_, (), rfl, trivial, trivial⟩, hS.F ht⟩) hS.2.2 dL_cell_20
def IV (k : Nat) (v : V_X6) : Prop := ∃ w, CW v w ∧ IW k w
theorem s_holds {k : Nat} {v : V_X6} (h : IV k v) : wp_L_holds v (fun r v' => r = 1 ∧ IV k v') := h.elim fun w z => L_holds z.1 z.2 (fun v' h' => ⟨rfl, w, h', z.2⟩)
theorem s_looks {k t : Nat} {v : V_X6} (h : IV k v) (ht : t < 64) : wp_L_looks v (nI t) (fun r v' => r = 1 ∧ IV k v') := h.elim fun w z => L_looks z.1 z.2 ht rfl (fun v' h' => ⟨rfl, w, h', z.2⟩)
theorem s_change {k : Nat} {v : V_X6} (h : IV k v) (hk : k + 4 ≤ 512) (x y : Int32) : wp_L_change v x y (fun r v' => r = 1 ∧ IV (k + 4) v') := h.elim fun w z => L_change z.1 z.2 hk (fun v' w' h' g' => ⟨rfl, w', h', g'⟩)
theorem s_tries {k : Nat} {v : V_X6} (h : IV k v) (hk : k + 11 ≤ 512) (x : Int32) : wp_L_tries v x (fun r v' => r = 1 ∧ IV (k + 11) v') := h.elim fun w z => L_tries z.1 z.2 hk (fun v' w' h' g' => ⟨rfl, w', h', g'⟩)
theorem s0_holds : wp_L_holds v0_X6 (fun r v' => r = 1 ∧ CW v' w0) := L_holds C0_W iw0 (fun v' h' => ⟨rfl, h'⟩)
theorem s0_count {v : V_X6} (h : CW v w0) : wo_X6_count v 14 (fun r v' => r = 0 ∧ CW v' w0) := O_count h iw0 14 (by decide) rfl (fun v' h' => ⟨numC_14 w0, h'⟩)
theorem s0_next {v : V_X6} (h : CW v w0) : wo_X6_nextMound v (fun r v' => r = -1 ∧ IV 0 v') := O_nextMound h iw0 (by decide) (fun v' h' => ⟨nm_idle 100 0 (fun i hi => absurd hi (Nat.not_lt_zero _)) rfl, w0, h', iw0⟩)
theorem two_neg {k : Nat} (hk : k ≤ 30) : ¬ (2 * nI k : Int32) < 0 := by
  have e : (2 * nI k : Int32) = nI (2 * k) := pk_mul 2 k
  rw [e]; exact nI_nlt (Nat.zero_le _) (by omega)
theorem two_neg1 {k : Nat} (hk : k ≤ 30) : ¬ (2 * nI k + 1 : Int32) < 0 := by
  have e : (2 * nI k + 1 : Int32) = nI (2 * k + 1) := by
    show nI 2 * nI k + nI 1 = _
    rw [pk_mul, nI_add]
  rw [e]; exact nI_nlt (Nat.zero_le _) (by omega)
