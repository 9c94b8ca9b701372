/-! What all walks share: worlds by kinds of objects, a method's start and end, a callee's cells within the caller's. -/
abbrev sh (a : Nat → Nat) (o : Nat) : Nat → Nat := fun k => a (o + k)
abbrev tys (cy : Nat → ClassId) : List (ClassId × FieldType) := [(cy 0, .int), (cy 1, .boolean), (cy 2, .object RX1), (cy 3, .object RX0)]
abbrev cAI (cy : Nat → ClassId) (a : Nat → Nat) (n : Nat) (f : Nat → Int32) : va_W := [(a 0, .inl (cy 0, n, .inl f))]
def bz (x : Int32) : Prop := x = 0 ∨ x = 1
theorem bz_nar {x : Int32} (h : bz x) : narrow .boolean (.int x) = .int x := by
  rcases h with rfl | rfl <;> rfl
theorem bz_fit {x : Int32} (h : bz x) : fits .boolean (.int x) = true := by
  rcases h with rfl | rfl <;> rfl
def xPre (dC : Nat → ClassId) (dI : Nat → Nat → Nat) (cy : Nat → ClassId) (ws : va_W) (sz : Nat) (U : State) : Prop := U.heap.size = sz ∧ va_P (dC, dI) vwCl ws U.heap ∧ va_K (dC, dI) vwCl (tys cy) U ∧ va_D (fun _ => True) ws
def xAt (dC : Nat → ClassId) (dI : Nat → Nat → Nat) (cy : Nat → ClassId) (A : Nat → Prop) (ws : va_W) (t : State) : Prop := va_P (dC, dI) vwCl ws t.heap ∧ va_K (dC, dI) vwCl (tys cy) t ∧ va_D A ws
theorem xAt_of {dC : Nat → ClassId} {dI : Nat → Nat → Nat} {cy : Nat → ClassId} {A : Nat → Prop} {ws : va_W} {H : Heap} {s t : State} (hP : va_P (dC, dI) vwCl ws H) (hK : va_K (dC, dI) vwCl (tys cy) s) (hD : va_D A ws) (ht : t.heap = H) (hW : s.WarmedH t.vm) : xAt dC dI cy A ws t := ⟨by rw [ht]; exact hP, va_K.moved hW.alike hK, hD⟩
theorem xPre_blind {dC : Nat → ClassId} {dI : Nat → Nat → Nat} {cy : Nat → ClassId} {ws : va_W} {sz : Nat} {av : List Value} : FrameBlind (va_Pc av (xPre dC dI cy ws sz)) := fun a U g mk q => by
  obtain ⟨q0, q1, qP, qK, qD⟩ := q
  exact ⟨q0, q1, qP, va_K.moved (u := U) (U := U.calling g mk a) (Vm.Alike.refl U.vm) qK, qD⟩
theorem xPre_of {dC : Nat → ClassId} {dI : Nat → Nat → Nat} {cy : Nat → ClassId} {A : Nat → Prop} {ws : va_W} {H : Heap} {s : State} {av : List Value} (hP : va_P (dC, dI) vwCl ws H) (hK : va_K (dC, dI) vwCl (tys cy) s) (hD : va_D A ws) : ∀ U : State, U.heap = H → s.WarmedH U.vm → va_Pc av (xPre dC dI cy ws H.size) av.toArray U := fun U hU hW => ⟨rfl, by rw [hU], by rw [hU]; exact hP, va_K.moved hW.alike hK, hD.weaken (fun _ _ _ _ => trivial)⟩
theorem xP_nil {D : va_G} {cl : List vw_C} {H : Heap} : va_P D cl [] H := fun k q h => by simp at h
theorem xD_nil {A : Nat → Prop} : va_D A [] := ⟨fun i j p q h => by simp at h, fun k q h => by simp at h⟩
theorem xfree_same {A : Nat → Prop} {H0 H : Heap} {locs : List Loc} {ws : va_W} (hS : va_S A H0 H locs) (hA : ∀ q : Nat, H0.size ≤ q → A q) (hD : va_D A ws) : ∀ q, va_A ws H.size q → A q := by
  intro q h
  rcases h with ⟨k, e, h⟩ | h
  · exact hD.2 k (q, e) h
  · exact hA q (Nat.le_trans hS.1 h)
theorem xfree_none {A : Nat → Prop} {H0 H : Heap} {locs : List Loc} (hS : va_S A H0 H locs) (hA : ∀ q : Nat, H0.size ≤ q → A q) : ∀ q, va_A ([] : va_W) H.size q → A q := by
  intro q h
  rcases h with ⟨k, e, h⟩ | h
  · simp at h
  · exact hA q (Nat.le_trans hS.1 h)
theorem xj_none {D : va_G} {cl : List vw_C} {ws : va_W} {H H1 : Heap} (hP : va_P D cl ws H) (hk : ∀ q : Nat, q < H.size → ¬ va_A ([] : va_W) H.size q → H1[q]? = H[q]?) : va_P D cl ws H1 := hP.kept (fun k q h => hk q.1 ((hP k q h).lt) (fun z => by
  rcases z with ⟨k, e, z⟩ | z
  · simp at z
  · have := (hP k q h).lt
    omega))
theorem xsub_at {ws wc : va_W} {is : List Nat} (hC : is.map (fun i => ws[i]?) = wc.map some) (k : Nat) (q : Nat × va_E) (hk : wc[k]? = some q) : ∃ i, is[k]? = some i ∧ ws[i]? = some q := by
  have h1 : (is.map (fun i => ws[i]?))[k]? = some (some q) := by rw [hC, List.getElem?_map, hk]; rfl
  rw [List.getElem?_map] at h1
  cases hi : is[k]? with
  | none => rw [hi] at h1; cases h1
  | some i => rw [hi] at h1; exact ⟨i, rfl, Option.some.inj h1⟩
theorem xsubP {D : va_G} {cl : List vw_C} {ws wc : va_W} {H : Heap} {is : List Nat} (hP : va_P D cl ws H) (hC : is.map (fun i => ws[i]?) = wc.map some) : va_P D cl wc H := fun k q hk => by
  obtain ⟨i, -, h⟩ := xsub_at hC k q hk
  exact hP i q h
theorem xsubD {A : Nat → Prop} {ws wc : va_W} {is : List Nat} (hD : va_D A ws) (hn : va_nd is = true) (hC : is.map (fun i => ws[i]?) = wc.map some) : va_D A wc := hD.sub is hn hC
/-- the callee's cells put back at their places -/
def xput : va_W → List Nat → va_W → va_W
  | ws, i :: is, q :: w1 => xput (ws.set i q) is w1
  | ws, _, _ => ws
theorem xput_at : ∀ (is : List Nat) (w1 ws : va_W), is.length = w1.length → ∀ (k : Nat) (q : Nat × va_E), (xput ws is w1)[k]? = some q → (∃ j : Nat, w1[j]? = some q) ∨ (ws[k]? = some q ∧ k ∉ is)
  | [], w1, ws, _, k, q, h => by
    cases w1 <;> exact Or.inr ⟨h, List.not_mem_nil⟩
  | i :: is, [], ws, hl, k, q, h => by simp at hl
  | i :: is, r :: w1, ws, hl, k, q, h => by
    rcases xput_at is w1 (ws.set i r) (by simpa using hl) k q h with ⟨j, hj⟩ | ⟨h1, h2⟩
    · exact Or.inl ⟨j + 1, by simpa using hj⟩
    · by_cases hki : i = k
      · subst hki
        have hlt : i < ws.length := by
          have := (List.getElem?_eq_some_iff.mp h1).1
          simpa using this
        rw [List.getElem?_set_self hlt] at h1
        cases h1
        exact Or.inl ⟨0, rfl⟩
      · rw [List.getElem?_set_ne hki] at h1
        exact Or.inr ⟨h1, fun hm => (List.mem_cons.mp hm).elim (fun e => hki e.symm) h2⟩
theorem xset_same {l : List Nat} {i x : Nat} (h : l[i]? = some x) : l.set i x = l := by
  apply List.ext_getElem?
  intro k
  by_cases hk : i = k
  · subst hk
    rw [List.getElem?_set_self (List.getElem?_eq_some_iff.mp h).1, h]
  · rw [List.getElem?_set_ne hk]
theorem xput_fst : ∀ (is : List Nat) (w1 wc ws : va_W), is.map (fun i => ws[i]?.map Prod.fst) = wc.map (fun q => some q.1) → w1.map Prod.fst = wc.map Prod.fst → (xput ws is w1).map Prod.fst = ws.map Prod.fst
  | [], w1, wc, ws, _, _ => by cases w1 <;> rfl
  | i :: is, [], wc, ws, _, _ => rfl
  | i :: is, r :: w1, [], ws, h, h2 => by simp at h2
  | i :: is, r :: w1, c :: wc, ws, h, h2 => by
    simp only [List.map_cons, List.cons.injEq] at h h2
    have e : (ws.set i r).map Prod.fst = ws.map Prod.fst := by
      rw [List.map_set]
      apply xset_same
      rw [List.getElem?_map, h.1, h2.1]
    show (xput (ws.set i r) is w1).map Prod.fst = _
    rw [xput_fst is w1 wc (ws.set i r) ?_ h2.2, e]
    rw [← h.2]
    apply List.map_congr_left
    intro j _
    have e2 := congrArg (fun (l : List Nat) => l[j]?) e
    rw [List.getElem?_map, List.getElem?_map] at e2
    exact e2
theorem xD_fst {A : Nat → Prop} {ws ws' : va_W} (hD : va_D A ws) (h : ws'.map Prod.fst = ws.map Prod.fst) : va_D A ws' := by
  have key : ∀ (k : Nat) (q : Nat × va_E), ws'[k]? = some q → ∃ q0, ws[k]? = some q0 ∧ q0.1 = q.1 := by
    intro k q hk
    have h1 : (ws'.map Prod.fst)[k]? = some q.1 := by rw [List.getElem?_map, hk]; rfl
    rw [h, List.getElem?_map] at h1
    cases hw : ws[k]? with
    | none => rw [hw] at h1; cases h1
    | some q0 => rw [hw] at h1; exact ⟨q0, rfl, by simpa using h1⟩
  refine ⟨fun i j x y hi hj hxy => ?_, fun k q hk => ?_⟩
  · obtain ⟨x0, h1, h2⟩ := key i x hi
    obtain ⟨y0, h3, h4⟩ := key j y hj
    exact hD.1 i j x0 y0 h1 h3 (h2.trans (hxy.trans h4.symm))
  · obtain ⟨q0, h1, h2⟩ := key k q hk
    rw [← h2]
    exact hD.2 k q0 h1
theorem xapart {A0 : Nat → Prop} {D : va_G} {cl : List vw_C} {ws wc : va_W} {H : Heap} (hP : va_P D cl ws H) (hD : va_D A0 ws) {isC : List Nat} (hC : isC.map (fun i => ws[i]?) = wc.map some) {k : Nat} {q : Nat × va_E} (hk : ws[k]? = some q) (hn : k ∉ isC) : q.1 < H.size ∧ ¬ va_A wc H.size q.1 := by
  have hl := (hP k q hk).lt
  refine ⟨hl, fun h => ?_⟩
  rcases h with ⟨k2, e, h⟩ | h
  · obtain ⟨j, h3, h4⟩ := xsub_at hC k2 (q.1, e) h
    have hij := hD.1 k j q (q.1, e) hk h4 rfl
    subst hij
    exact hn (List.mem_of_getElem? h3)
  · omega
/-- behind a call that changed its cells: they are put back at their places -/
theorem xj {A0 : Nat → Prop} {D : va_G} {cl : List vw_C} {ws wc ws' : va_W} {H H1 : Heap} (hP : va_P D cl ws H) (hD : va_D A0 ws) (isC : List Nat) (w1 : va_W) (hC : isC.map (fun i => ws[i]?) = wc.map some) (ha : w1.map Prod.fst = wc.map Prod.fst) (hs : xput ws isC w1 = ws')
    (hk : ∀ q : Nat, q < H.size → ¬ va_A wc H.size q → H1[q]? = H[q]?) (hF : ∀ q, va_A wc H.size q → A0 q) (hP1 : va_P D cl w1 H1) : va_P D cl ws' H1 ∧ va_D A0 ws' := by
  subst hs
  have hlen : isC.length = w1.length := by
    have h1 := congrArg List.length hC
    have h2 := congrArg List.length ha
    simp at h1 h2
    omega
  refine ⟨fun k q h => ?_, xD_fst hD (xput_fst isC w1 wc ws ?_ ha)⟩
  · rcases xput_at isC w1 ws hlen k q h with ⟨j, hj⟩ | ⟨h1, h2⟩
    · exact hP1 j q hj
    · obtain ⟨g1, g2⟩ := xapart hP hD hC h1 h2
      exact (hP k q h1).kept (hk q.1 g1 g2)
  · have h1 := congrArg (List.map (Option.map Prod.fst)) hC
    simpa [List.map_map, Function.comp_def] using h1
/-- behind a call that changed nothing of its cells -/
theorem xj_keep {A0 : Nat → Prop} {D : va_G} {cl : List vw_C} {ws wc : va_W} {H H1 : Heap} (hP : va_P D cl ws H) (hD : va_D A0 ws) (isC : List Nat) (hC : isC.map (fun i => ws[i]?) = wc.map some) (hP1 : va_P D cl wc H1)
    (hk : ∀ q : Nat, q < H.size → ¬ va_A wc H.size q → H1[q]? = H[q]?) : va_P D cl ws H1 := by
  intro k q h
  by_cases hm : k ∈ isC
  · obtain ⟨j, hj⟩ := List.getElem?_of_mem hm
    have h1 : (isC.map (fun i => ws[i]?))[j]? = some (some q) := by rw [List.getElem?_map, hj, ← h]; rfl
    rw [hC, List.getElem?_map] at h1
    cases hw : wc[j]? with
    | none => rw [hw] at h1; cases h1
    | some r =>
      rw [hw] at h1
      have : r = q := by simpa using h1
      subst this
      exact hP1 j r hw
  · obtain ⟨g1, g2⟩ := xapart hP hD hC h hm
    exact (hP k q h).kept (hk q.1 g1 g2)
theorem co_6 {P : Nat → Prop} (h0 : P 0) (h1 : P 1) (h2 : P 2) (h3 : P 3) (h4 : P 4) (h5 : P 5) {i : Nat} (hi : i < 6) : P i :=
  match i, hi with
  | 0, _ => h0
  | 1, _ => h1
  | 2, _ => h2
  | 3, _ => h3
  | 4, _ => h4
  | 5, _ => h5
/-- the static tables of the class -/
def tab_ROW_STEP : Nat → Int32 := fun j => match j with
  | 0 => -1
  | 1 => 0
  | 2 => 1
  | _ => 0
def tab_COLUMN_STEP : Nat → Int32 := fun j => match j with
  | 0 => 0
  | 1 => 1
  | 2 => 0
  | _ => -1
def tab_ROW_BESIDE : Nat → Int32 := fun j => match j with
  | 0 => -1
  | 1 => -1
  | 2 => -1
  | 3 => 0
  | 4 => 0
  | 5 => 1
  | 6 => 1
  | _ => 1
def tab_COLUMN_BESIDE : Nat → Int32 := fun j => match j with
  | 0 => -1
  | 1 => 0
  | 2 => 1
  | 3 => -1
  | 4 => 1
  | 5 => -1
  | 6 => 0
  | _ => 1
/-- a static field that holds a table -/
def xTab (n : String) (N : Nat) (f : Nat → Int32) (A : Nat → Prop) (U : State) (H : Heap) : Prop := ∃ t : Nat, va_Z "MolesLawn" n "[I" (.ref t) A U H ∧ va_T .int t N (fun j => .int (f j)) A U H
/-- what methods find around them: calls of a nest mate's private methods, the tables -/
def xEnv (A : Nat → Prop) (U : State) (H : Heap) : Prop := va_Nw (.methodLinkNest RX0 147 yX6_stepFrom RX6) U ∧ va_Nw (.methodLinkNest RX4 73 yX6_neighbour RX6) U ∧ xTab "ROW_STEP" 4 tab_ROW_STEP A U H ∧ xTab "COLUMN_STEP" 4 tab_COLUMN_STEP A U H ∧ xTab "ROW_BESIDE" 8 tab_ROW_BESIDE A U H ∧ xTab "COLUMN_BESIDE" 8 tab_COLUMN_BESIDE A U H
theorem xTab.of {n : String} {N : Nat} {f : Nat → Int32} {A A' : Nat → Prop} {s U : State} {H0 H : Heap} (h : xTab n N f A s H0) (hq : ∀ a : Nat, a < H0.size → ¬ A a → H[a]? = H0[a]?) (hvm : s.vm.Alike U.vm) (hF : ∀ q, A' q → A q) : xTab n N f A' U H := by
  obtain ⟨t, h1, h2⟩ := h
  exact ⟨t, (va_Z.moved hvm (h1.kept hq)).narrow hF, (va_T.moved hvm (h2.kept hq)).narrow hF⟩
theorem xEnv.of {A A' : Nat → Prop} {s U : State} {H : Heap} {locs : List Loc} (h : xEnv A s s.heap) (hS : va_S A s.heap H locs) (hF : ∀ q, A' q → A q) (hW : s.WarmedH U.vm) : xEnv A' U H :=
  ⟨va_Nw.warmM hW h.1, va_Nw.warmM hW h.2.1, h.2.2.1.of hS.2.1 hW.alike hF, h.2.2.2.1.of hS.2.1 hW.alike hF, h.2.2.2.2.1.of hS.2.1 hW.alike hF, h.2.2.2.2.2.of hS.2.1 hW.alike hF⟩
theorem xEnv.same {A : Nat → Prop} {u U : State} {H : Heap} (h : xEnv A u H) (hvm : u.vm = U.vm) : xEnv A U H := by
  have ha : u.vm.Alike U.vm := by rw [hvm]; exact Vm.Alike.refl U.vm
  exact ⟨va_Nw.same rfl hvm h.1, va_Nw.same rfl hvm h.2.1, h.2.2.1.of (fun _ _ _ => rfl) ha (fun _ q => q), h.2.2.2.1.of (fun _ _ _ => rfl) ha (fun _ q => q), h.2.2.2.2.1.of (fun _ _ _ => rfl) ha (fun _ q => q), h.2.2.2.2.2.of (fun _ _ _ => rfl) ha (fun _ q => q)⟩
def xPreE (dC : Nat → ClassId) (dI : Nat → Nat → Nat) (cy : Nat → ClassId) (ws : va_W) (sz : Nat) (U : State) : Prop := U.heap.size = sz ∧ va_P (dC, dI) vwCl ws U.heap ∧ va_K (dC, dI) vwCl (tys cy) U ∧ va_D (fun _ => True) ws ∧ xEnv (va_A ws sz) U U.heap
theorem xPre_blindE {dC : Nat → ClassId} {dI : Nat → Nat → Nat} {cy : Nat → ClassId} {ws : va_W} {sz : Nat} {av : List Value} : FrameBlind (va_Pc av (xPreE dC dI cy ws sz)) := fun a U g mk q => by
  obtain ⟨q0, q1, qP, qK, qD, qE⟩ := q
  exact ⟨q0, q1, qP, va_K.moved (u := U) (U := U.calling g mk a) (Vm.Alike.refl U.vm) qK, qD, qE.same rfl⟩
theorem xPre_ofE {dC : Nat → ClassId} {dI : Nat → Nat → Nat} {cy : Nat → ClassId} {A A0 : Nat → Prop} {ws : va_W} {H : Heap} {s : State} {locs : List Loc} {av : List Value} (hP : va_P (dC, dI) vwCl ws H) (hK : va_K (dC, dI) vwCl (tys cy) s) (hD : va_D A0 ws) (hE : xEnv A s s.heap) (hS : va_S A s.heap H locs) (hF : ∀ q, va_A ws H.size q → A q) : ∀ U : State, U.heap = H → s.WarmedH U.vm → va_Pc av (xPreE dC dI cy ws H.size) av.toArray U := fun U hU hW => ⟨rfl, by rw [hU], by rw [hU]; exact hP, va_K.moved hW.alike hK, hD.weaken (fun _ _ _ _ => trivial), by rw [hU]; exact hE.of hS hF hW⟩
theorem xup_slots (a : Nat → Nat) (o n : Nat) (mr : Nat → Nat) (i j : Nat) : va_up (fun k => some (a (o + n * mr k))) i (some (a (o + n * j))) = fun k => some (a (o + n * va_up mr i j k)) := by
  funext k
  by_cases h : k = i
  · subst h
    simp [va_up]
  · simp [va_up, h]
