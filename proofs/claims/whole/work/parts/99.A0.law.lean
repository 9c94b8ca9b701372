/-! The law's world: the class's cells, the row of one long, the reference's cells; what the law's helpers find around them. -/
abbrev cAJ (cJ : ClassId) (o : Nat) (f : Nat → Int64) : va_W := [(o, .inl (cJ, 1, .inr (.inl f)))]
abbrev tysJ (cy : Nat → ClassId) (cJ : ClassId) : List (ClassId × FieldType) := [(cy 0, .int), (cy 1, .boolean), (cy 2, .object RX1), (cy 3, .object RX0), (cJ, .long)]
abbrev wL (cy : Nat → ClassId) (cJ : ClassId) (a : Nat → Nat) (o : Nat) (v : V_X6) (f : Nat → Int64) : va_W := wX6 cy a v ++ cAJ cJ o f
theorem tysJ_sub {D : va_G} {cl : List vw_C} {cy : Nat → ClassId} {cJ : ClassId} {U : State} (hK : va_K D cl (tysJ cy cJ) U) : va_K D cl (tys cy) U := hK.sub [0, 1, 2, 3] rfl
def xNcs : List (String × String) := [(eA, eI), (eS, eI), (eS, eA)]
def xEnvL (A : Nat → Prop) (U : State) (H : Heap) : Prop := xEnvX A U H ∧ ∀ q ∈ xNcs, va_Nc q.1 q.2 U
theorem xEnvL.of {A A' : Nat → Prop} {s U : State} {H : Heap} {locs : List Loc} (h : xEnvL A s s.heap) (hS : va_S A s.heap H locs) (hF : ∀ q, A' q → A q) (hW : s.WarmedH U.vm) : xEnvL A' U H := ⟨h.1.of hS hF hW, fun q hq => (h.2 q hq).moved hW.alike⟩
theorem xEnvL.same {A : Nat → Prop} {u U : State} {H : Heap} (h : xEnvL A u H) (hvm : u.vm = U.vm) : xEnvL A U H := ⟨h.1.same hvm, fun q hq => (h.2 q hq).moved (by rw [hvm]; exact Vm.Alike.refl _)⟩
def preL (dC : Nat → ClassId) (dI : Nat → Nat → Nat) (cy : Nat → ClassId) (cJ : ClassId) (ws : va_W) (sz : Nat) (U : State) : Prop := U.heap.size = sz ∧ va_P (dC, dI) vwCl ws U.heap ∧ va_K (dC, dI) vwCl (tysJ cy cJ) U ∧ va_D (fun _ => True) ws ∧ xEnvL (va_A ws sz) U U.heap
theorem preL_blind {dC : Nat → ClassId} {dI : Nat → Nat → Nat} {cy : Nat → ClassId} {cJ : ClassId} {ws : va_W} {sz : Nat} {av : List Value} : FrameBlind (va_Pc av (preL dC dI cy cJ ws sz)) := fun a U g mk q => by
  obtain ⟨q0, q1, qP, qK, qD, qE⟩ := q
  exact ⟨q0, q1, qP, va_K.moved (u := U) (U := U.calling g mk a) (Vm.Alike.refl U.vm) qK, qD, qE.same rfl⟩
theorem preL_of {dC : Nat → ClassId} {dI : Nat → Nat → Nat} {cy : Nat → ClassId} {cJ : ClassId} {A A0 : Nat → Prop} {ws : va_W} {H : Heap} {s : State} {locs : List Loc} {av : List Value} (hP : va_P (dC, dI) vwCl ws H) (hK : va_K (dC, dI) vwCl (tysJ cy cJ) s) (hD : va_D A0 ws) (hE : xEnvL A s s.heap) (hS : va_S A s.heap H locs) (hF : ∀ q, va_A ws H.size q → A q) : ∀ U : State, U.heap = H → s.WarmedH U.vm → va_Pc av (preL dC dI cy cJ ws H.size) av.toArray U := fun U hU hW => ⟨rfl, by rw [hU], by rw [hU]; exact hP, va_K.moved hW.alike hK, hD.weaken (fun _ _ _ _ => trivial), by rw [hU]; exact hE.of hS hF hW⟩
def atL (dC : Nat → ClassId) (dI : Nat → Nat → Nat) (A : Nat → Prop) (ws : va_W) (t : State) : Prop := va_P (dC, dI) vwCl ws t.heap ∧ va_D A ws
def qL (dC : Nat → ClassId) (dI : Nat → Nat → Nat) (cy : Nat → ClassId) (cJ : ClassId) (a : Nat → Nat) (o : Nat) (Q : Int32 → V_X6 → (Nat → Int64) → Prop) (A : Nat → Prop) : Array Value → State → Outcome → State → Prop := va_Qi (fun r (u : V_X6 × (Nat → Int64)) => Q r u.1 u.2) (fun u t => atL dC dI A (wL cy cJ a o u.1 u.2) t) A
/-- what a helper that ends says of a throw: there is none -/
abbrev xL (A : Nat → Prop) : String → State → State → Prop := vx_X (fun (_ : Unit) => True) (fun _ _ _ => False) A
theorem rng_mem : ∀ (m n i : Nat), i ∈ rng n m → n ≤ i
  | 0, _, _, h => by cases h
  | m + 1, n, i, h => by
    rcases List.mem_cons.mp h with e | h
    · omega
    · have := rng_mem m (n + 1) i h
      omega
theorem rng_nd : ∀ (m n : Nat), va_nd (rng n m) = true
  | 0, _ => rfl
  | m + 1, n => by
    show (decide (n ∉ rng (n + 1) m) && va_nd (rng (n + 1) m)) = true
    rw [rng_nd m, Bool.and_true]
    exact decide_eq_true (fun h => by have := rng_mem m (n + 1) n h; omega)
theorem xC_left {w1 w2 : va_W} {n : Nat} (h : w1.length = n) : (rng 0 n).map (fun i => (w1 ++ w2)[i]?) = w1.map some := xC_one h rfl (by subst h; simp)
theorem xC_right {w1 w2 : va_W} {n m : Nat} (h : w1.length = n) (h2 : w2.length = m) : (rng n m).map (fun i => (w1 ++ w2)[i]?) = w2.map some := xC_one h2 rfl (by subst h; subst h2; simp)
theorem xpa_0 : ∀ (w1' w1 w2 : va_W), w1'.length = w1.length → xpa 0 w1' (w1 ++ w2) = w1' ++ w2
  | [], [], w2, _ => xpa_nil _ _
  | [], y :: w1, w2, h => by simp at h
  | x :: w1', [], w2, h => by simp at h
  | x :: w1', y :: w1, w2, h => by
    show x :: xpa 0 w1' (w1 ++ w2) = x :: (w1' ++ w2)
    rw [xpa_0 w1' w1 w2 (by simpa using h)]
theorem xpa_n : ∀ (w1 w2' w2 : va_W), w2'.length = w2.length → xpa w1.length w2' (w1 ++ w2) = w1 ++ w2'
  | [], w2', w2, h => by
    have := xpa_0 w2' w2 [] h
    simpa using this
  | x :: w1, w2', w2, h => by
    show x :: xpa w1.length w2' (w1 ++ w2) = x :: (w1 ++ w2')
    rw [xpa_n w1 w2' w2 h]
theorem xS_left {w1 w1' w2 : va_W} {n : Nat} (h : w1.length = n) (h' : w1'.length = n) : xput (w1 ++ w2) (rng 0 n) w1' = w1' ++ w2 := xS_one h' rfl (xpa_0 _ _ _ (h'.trans h.symm))
theorem xS_right {w1 w2 w2' : va_W} {n m : Nat} (h : w1.length = n) (h2 : w2.length = m) (h' : w2'.length = m) : xput (w1 ++ w2) (rng n m) w2' = w1 ++ w2' := xS_one h' rfl (by subst h; exact xpa_n _ _ _ (h'.trans h2.symm))
set_option maxRecDepth 100000 in
theorem wX6_len {cy : Nat → ClassId} {a : Nat → Nat} {v : V_X6} : (wX6 cy a v).length = 204 := rfl
set_option maxRecDepth 100000 in
theorem wX6_fst {cy : Nat → ClassId} {a : Nat → Nat} {v v' : V_X6} : (wX6 cy a v').map Prod.fst = (wX6 cy a v).map Prod.fst := rfl
theorem wX7_len {cy : Nat → ClassId} {d : Nat → Nat} {u : V_X7} : (wX7 cy d u).length = 10 := rfl
theorem wX7_fst {cy : Nat → ClassId} {d : Nat → Nat} {u u' : V_X7} : (wX7 cy d u').map Prod.fst = (wX7 cy d u).map Prod.fst := rfl
theorem wL_len {cy : Nat → ClassId} {cJ : ClassId} {a : Nat → Nat} {o : Nat} {v : V_X6} {f : Nat → Int64} : (wL cy cJ a o v f).length = 205 := by
  show (wX6 cy a v ++ cAJ cJ o f).length = 205
  rw [List.length_append, wX6_len]; rfl
theorem fst_app {w1 w1' w2 w2' : va_W} (h1 : w1'.map Prod.fst = w1.map Prod.fst) (h2 : w2'.map Prod.fst = w2.map Prod.fst) : (w1' ++ w2').map Prod.fst = (w1 ++ w2).map Prod.fst := by
  rw [List.map_append, List.map_append, h1, h2]
theorem wL_fst {cy : Nat → ClassId} {cJ : ClassId} {a : Nat → Nat} {o : Nat} {v v' : V_X6} {f f' : Nat → Int64} : (wL cy cJ a o v' f').map Prod.fst = (wL cy cJ a o v f).map Prod.fst := fst_app wX6_fst rfl
theorem wL_J {cy : Nat → ClassId} {cJ : ClassId} {a : Nat → Nat} {o : Nat} {v : V_X6} {f : Nat → Int64} {w : va_W} : (wL cy cJ a o v f ++ w)[204]? = some (o, .inl (cJ, 1, .inr (.inl f))) := by
  show ((wX6 cy a v ++ cAJ cJ o f) ++ w)[204]? = _
  rw [List.append_assoc, List.getElem?_append_right (by rw [wX6_len]; omega), wX6_len]; rfl
theorem wL_J0 {cy : Nat → ClassId} {cJ : ClassId} {a : Nat → Nat} {o : Nat} {v : V_X6} {f : Nat → Int64} : (wL cy cJ a o v f)[204]? = some (o, .inl (cJ, 1, .inr (.inl f))) := by
  have := wL_J (cy := cy) (cJ := cJ) (a := a) (o := o) (v := v) (f := f) (w := [])
  rwa [List.append_nil] at this
theorem wL_set {cy : Nat → ClassId} {cJ : ClassId} {a : Nat → Nat} {o : Nat} {v : V_X6} {f g : Nat → Int64} : (wL cy cJ a o v f).set 204 (o, .inl (cJ, 1, .inr (.inl g))) = wL cy cJ a o v g := by
  show (wX6 cy a v ++ cAJ cJ o f).set 204 _ = _
  rw [List.set_append_right _ _ (by rw [wX6_len]; omega), wX6_len]; rfl
theorem wX6_0 {cy : Nat → ClassId} {a : Nat → Nat} {v : V_X6} : ∃ fs, (wX6 cy a v)[0]? = some (a 0, .inr (6, fs)) := ⟨_, rfl⟩
theorem wX7_0 {cy : Nat → ClassId} {d : Nat → Nat} {u : V_X7} : ∃ fs, (wX7 cy d u)[0]? = some (d 0, .inr (7, fs)) := ⟨_, rfl⟩
theorem updL_at {f : Nat → Int64} {i : Nat} {x : Int64} : vp_updL f i x i = x := if_pos rfl
theorem vin_at {n : Nat} (k : Nat) (h : k < n) (hn : n < 2 ^ 31) : vp_in (nI k) n := vp_in_nI h hn
theorem vin01 : vp_in (0 : Int32) 1 := vin_at 0 (by omega) (by omega)
theorem xC_mid {w1 w2 w3 : va_W} {n m : Nat} (h : w1.length = n) (h2 : w2.length = m) : (rng n m).map (fun i => ((w1 ++ w2) ++ w3)[i]?) = w2.map some := xC_one h2 rfl (by subst h; subst h2; simp)
