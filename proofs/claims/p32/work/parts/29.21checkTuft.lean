def wp_X6_checkTuft (v : V_X6) (x1 : Int32) (Q : Prop) (QX : String → Prop) : Prop :=
  ((x1 < 0 → QX "java/lang/IndexOutOfBoundsException") ∧
  (¬ x1 < 0 → ((x1 < 64 → Q) ∧
  (¬ x1 < 64 → QX "java/lang/IndexOutOfBoundsException"))))
def q_X6_checkTuft (dC : Nat → ClassId) (dI : Nat → Nat → Nat) (cy : Nat → ClassId) (a : Nat → Nat) (v : V_X6) (x1 : Int32) (Q : Prop) (A : Nat → Prop) : Array Value → State → Outcome → State → Prop := va_Qv (fun (u : Unit) => Q ) (fun (u : Unit) t => xAt dC dI cy A (wX6 cy a v) t) A
set_option maxHeartbeats 4000000 in
set_option maxRecDepth 100000 in
theorem c_X6_checkTuft (l : Launch) (dC : Nat → ClassId) (dI : Nat → Nat → Nat) (cy : Nat → ClassId) (a : Nat → Nat) (sz : Nat) (v : V_X6) (x1 : Int32) (Q : Prop) (QX : String → Prop) (hX : ∀ E, ¬ QX E) (hq : wp_X6_checkTuft v x1 Q QX) : Met l yX6_checkTuft wsX6_checkTuft ({ frames := 0, cells := 0, slots := 0, locals := 0 } : Room) (va_Pc [.ref (a 0), .int x1] (xPre dC dI cy (wX6 cy a v) sz)) (q_X6_checkTuft dC dI cy a v x1 Q (va_A (wX6 cy a v) sz)) 0 0 (va_A (wX6 cy a v) sz) := by
  refine Met.ofW (cc := cX6_checkTuft) (maxL := 2) (ret := none) (by decide) rfl ?_
  intro p e s m args below meth c s₁ B hml hv
  obtain ⟨rfl, hsz, hP, hK, hD0⟩ := hv
  have hx := B.exec
  have hb := B.bytes
  have hr := B.returns
  have hts := atoms_spec (ws := wsX6_checkTuft) B.pre
  have hown : s.vm.findClass RX6 = some m.cls := findClass_of_methodNamed B.named
  have hlocks := B.notSynchronized
  subst hsz
  have hD := hD0.self (sz := s.heap.size)
  generalize hAe : va_A (wX6 cy a v) s.heap.size = A at hD ⊢
  have hAe0 : ∀ q : Nat, s.heap.size ≤ q → A q := fun q h => by rw [← hAe]; exact Or.inr h
  have hS : va_S A s.heap s.heap [] := va_S.rf
  have hl := lv_entry ([.ref (a 0), .int x1]) (n := 2) (Nat.le_of_ble_eq_true rfl)
  rw [lg_entry_eq]
  generalize (lg_sl ([.ref (a 0), .int x1]) ++ List.replicate (2 - (lg_sl ([.ref (a 0), .int x1])).length) Slot.unset).toArray = ls at hl ⊢
  have hl : lv_has ls 2 [(0, .ref (a 0)), (1, .int x1)] := hl
  unfold wp_X6_checkTuft at hq
  refine lv_iload_n hx hb dX6_checkTuft_0 rfl (lv_at hl 1 rfl) ?_
  obtain ⟨hqA, hqB⟩ := hq
  refine lv_if_lt (tgt := 10) hx hb dX6_checkTuft_1 (by decide) (fun c2 => ?_) (fun c2 => ?_)
  · have hq := hqA c2
    exact (hX _ hq).elim
  · have hq := hqB c2
    refine lv_iload_n hx hb dX6_checkTuft_4 rfl (lv_at hl 1 rfl) ?_
    refine lv_bipush (v := 64) hx hb dX6_checkTuft_5 (by decide) ?_
    obtain ⟨hqA, hqB⟩ := hq
    refine lv_icmp_lt (tgt := 21) hx hb dX6_checkTuft_7 (by decide) (fun c1 => ?_) (fun c1 => ?_)
    · have hq := hqA c1
      exact W.vret hx hb hr (fun t ht hW => ⟨⟨(), rfl, hq, (xAt_of hP hK hD ht hW)⟩, hS.F ht⟩) hS.2.2 dX6_checkTuft_21
    · have hq := hqB c1
      exact (hX _ hq).elim
