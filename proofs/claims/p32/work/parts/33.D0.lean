/-! What the constructors make; what they find around them. -/
abbrev v0_X3 : V_X3 := (fun _ => 0, fun _ => 0, 0, 0)
abbrev v0_X1 : V_X1 := (fun _ => 0, fun _ => 0, 0, 1, 0, 0, 0)
abbrev v0_X2 : V_X2 := (fun _ => 0, fun _ => 0)
abbrev v0_X4 : V_X4 := (fun _ => 0, fun _ => 0, fun _ => 0, fun _ => 0)
abbrev v0_X5 : V_X5 := (fun _ => 0, 0)
abbrev v0_X0 : V_X0 := (fun _ => 0, fun _ => 0, fun _ => 0, fun _ => -1, v0_X3, fun k => min k 3, fun _ => v0_X1, 0, 6, 0, 0, 0, 0, 0)
abbrev v0_X6 : V_X6 := (v0_X0, v0_X0, v0_X0, fun k => k, fun _ => v0_X0, v0_X5, v0_X4, v0_X2, 0, 0, v0_X3)
def s0_X7 : Nat → Int32 := fun j => if j = 6 then 6 else if 136 ≤ j ∧ j < 136 + 64 then -1 else 0
abbrev v0_X7 : V_X7 := (s0_X7, fun _ => 0, fun _ => 0, 0, fun _ => 0, 0, fun _ => 0, 0, 0, fun _ => 0, 0, 0, fun _ => 0, fun _ => 0, fun _ => 0, 0)
/-- addresses of pieces that stand one behind another -/
def adr : List (Nat × (Nat → Nat)) → Nat → Nat
  | [], _ => 0
  | (n, f) :: L, k => if k < n then f k else adr L (k - n)
theorem va_P_same {D : va_G} {cl : List vw_C} {ws : va_W} {H : Heap} (hP : va_P D cl ws H) {k q : Nat} {x y : ClassId × vp_A} (hk : ws[k]? = some (q, .inl x)) (e : vp_cell x.1 x.2 = vp_cell y.1 y.2) : va_P D cl (ws.set k (q, .inl y)) H := by
  intro j z hz
  by_cases hj : k = j
  · subst hj
    rw [List.getElem?_set_self (List.getElem?_eq_some_iff.mp hk).1] at hz
    cases hz
    have := hP k _ hk
    show H[q]? = some (vp_cell y.1 y.2)
    rw [← e]
    exact this
  · rw [List.getElem?_set_ne hj] at hz
    exact hP j z hz
theorem arrV_same {cA : ClassId} {n : Nat} {f g : Nat → Value} (h : ∀ j, j < n → f j = g j) : arrV cA n f = arrV cA n g := by
  unfold arrV
  congr 1
  congr 1
  funext j
  exact h j.val j.isLt
theorem vp_same_i {cA : ClassId} {n : Nat} {f g : Nat → Int32} (h : ∀ j, j < n → f j = g j) : vp_cell cA (n, .inl f) = vp_cell cA (n, .inl g) := by
  rw [vp_cell_i, vp_cell_i]
  exact arrV_same (fun j hj => by rw [h j hj])
theorem vp_same_q {cA : ClassId} {n : Nat} {f g : Nat → Option Nat} (h : ∀ j, j < n → f j = g j) : vp_cell cA (n, .inr (.inr (.inr (.inr f)))) = vp_cell cA (n, .inr (.inr (.inr (.inr g)))) := by
  rw [vp_cell_q, vp_cell_q]
  exact arrV_same (fun j hj => by rw [h j hj])
theorem va_P_i {D : va_G} {cl : List vw_C} {ws : va_W} {H : Heap} (hP : va_P D cl ws H) {k q n : Nat} {cA : ClassId} {f g : Nat → Int32} (hk : ws[k]? = some (q, .inl (cA, n, .inl f))) (h : ∀ j, j < n → f j = g j) : va_P D cl (ws.set k (q, .inl (cA, n, .inl g))) H := va_P_same (x := (cA, n, .inl f)) (y := (cA, n, .inl g)) hP hk (vp_same_i h)
theorem va_D_i {A : Nat → Prop} {ws : va_W} (hD : va_D A ws) {k q n : Nat} {cA : ClassId} {f g : Nat → Int32} (hk : ws[k]? = some (q, .inl (cA, n, .inl f))) : va_D A (ws.set k (q, .inl (cA, n, .inl g))) := hD.set hk
theorem va_P_q {D : va_G} {cl : List vw_C} {ws : va_W} {H : Heap} (hP : va_P D cl ws H) {k q n : Nat} {cA : ClassId} {f g : Nat → Option Nat} (hk : ws[k]? = some (q, .inl (cA, n, .inr (.inr (.inr (.inr f)))))) (h : ∀ j, j < n → f j = g j) : va_P D cl (ws.set k (q, .inl (cA, n, .inr (.inr (.inr (.inr g)))))) H := va_P_same (x := (cA, n, .inr (.inr (.inr (.inr f))))) (y := (cA, n, .inr (.inr (.inr (.inr g))))) hP hk (vp_same_q h)
theorem va_D_q {A : Nat → Prop} {ws : va_W} (hD : va_D A ws) {k q n : Nat} {cA : ClassId} {f g : Nat → Option Nat} (hk : ws[k]? = some (q, .inl (cA, n, .inr (.inr (.inr (.inr f)))))) : va_D A (ws.set k (q, .inl (cA, n, .inr (.inr (.inr (.inr g)))))) := hD.set hk
def cEnv (U : State) : Prop := va_Nw (.methodLinkNest RX0 27 yX3_init RX6) U ∧ va_Nw (.methodLinkNest RX0 45 yX1_init RX6) U ∧ va_AO RX1 U ∧ va_AO RX0 U ∧ va_Nw (.methodLinkNest RX6 9 yX3_init RX6) U ∧ va_Nw (.methodLinkNest RX6 33 yX5_init RX6) U ∧ va_Nw (.methodLinkNest RX6 40 yX4_init RX6) U ∧ va_Nw (.methodLinkNest RX6 47 yX2_init RX6) U
theorem cEnv.of {s U : State} (h : cEnv s) (hW : s.WarmedH U.vm) : cEnv U := ⟨va_Nw.warmM hW h.1, va_Nw.warmM hW h.2.1, va_AO.moved hW.alike h.2.2.1, va_AO.moved hW.alike h.2.2.2.1, va_Nw.warmM hW h.2.2.2.2.1, va_Nw.warmM hW h.2.2.2.2.2.1, va_Nw.warmM hW h.2.2.2.2.2.2.1, va_Nw.warmM hW h.2.2.2.2.2.2.2⟩
theorem cEnv.same {u U : State} (h : cEnv u) (hvm : u.vm = U.vm) : cEnv U := h.of (by rw [← hvm]; exact State.WarmedH.refl u)
def preC (dC : Nat → ClassId) (dI : Nat → Nat → Nat) (cy : Nat → ClassId) (ws : va_W) (sz : Nat) (U : State) : Prop := xPre dC dI cy ws sz U ∧ cEnv U
theorem preC_blind {dC : Nat → ClassId} {dI : Nat → Nat → Nat} {cy : Nat → ClassId} {ws : va_W} {sz : Nat} {av : List Value} : FrameBlind (va_Pc av (preC dC dI cy ws sz)) := fun a U g mk q => by
  obtain ⟨q0, ⟨q1, qP, qK, qD⟩, qE⟩ := q
  exact ⟨q0, ⟨q1, qP, va_K.moved (u := U) (U := U.calling g mk a) (Vm.Alike.refl U.vm) qK, qD⟩, qE.same rfl⟩
theorem preC_of {dC : Nat → ClassId} {dI : Nat → Nat → Nat} {cy : Nat → ClassId} {A : Nat → Prop} {ws : va_W} {H : Heap} {s : State} {av : List Value} (hP : va_P (dC, dI) vwCl ws H) (hK : va_K (dC, dI) vwCl (tys cy) s) (hD : va_D A ws) (hE : cEnv s) : ∀ U : State, U.heap = H → s.WarmedH U.vm → va_Pc av (preC dC dI cy ws H.size) av.toArray U := fun U hU hW => ⟨rfl, (xPre_of (av := av) hP hK hD U hU hW).2, hE.of hW⟩
theorem rng_lt : ∀ (m n i : Nat), i ∈ rng n m → i < n + m
  | 0, _, _, h => by cases h
  | m + 1, n, i, h => by
    rcases List.mem_cons.mp h with e | h
    · omega
    · have := rng_lt m (n + 1) i h
      omega
/-- a new object, made by its constructor, behind what was there -/
theorem xgrow {A0 : Nat → Prop} {D : va_G} {cl : List vw_C} {W0 w1 : va_W} {x : Nat × va_E} {H H1 : Heap} {n : Nat} (hn : W0.length = n) (hP : va_P D cl (W0 ++ [x]) H) (hD : va_D A0 (W0 ++ [x])) (hk : ∀ q : Nat, q < H.size → ¬ va_A [x] H.size q → H1[q]? = H[q]?) (hF : ∀ q, va_A [x] H.size q → A0 q) (hP1 : va_P D cl w1 H1) (hD1 : va_D (va_A [x] H.size) w1) : va_P D cl (W0 ++ w1) H1 ∧ va_D A0 (W0 ++ w1) :=
  va_join (wc := [x]) (wr := W0) (w1 := w1) hP hD (rng n 1) (rng 0 n) (xC_right hn rfl) (xC_left hn) (rng_nd n 0) (fun i hi hc => by
    have h1 := rng_lt n 0 i hi
    have h2 := rng_mem 1 n i hc
    omega) hk hF hP1 hD1
theorem X3_eq {cy : Nat → ClassId} {f f' : Nat → Nat} (h : ∀ k, k < 3 → f k = f' k) : wX3 cy f v0_X3 = wX3 cy f' v0_X3 := by
  have e0 := h 0 (by omega)
  have e1 := h 1 (by omega)
  have e2 := h 2 (by omega)
  show [(f 0, _), (f 1, _), (f 2, _)] = [(f' 0, _), (f' 1, _), (f' 2, _)]
  rw [e0, e1, e2]
theorem vin_at {n : Nat} (k : Nat) (h : k < n) (hn : n < 2 ^ 31) : vp_in (nI k) n := vp_in_nI h hn
