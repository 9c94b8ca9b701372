/-! What the law's own methods find around them: the object as one value, rows of numbers behind it. -/
theorem rng_mem : ∀ (m n i : Nat), i ∈ rng n m → n ≤ i
  | 0, _, _, h => by cases h
  | m + 1, n, i, h => by
    rcases List.mem_cons.mp h with e | h
    · omega
    · have := rng_mem m (n + 1) i h
      omega
theorem rng_nd : ∀ (m n : Nat), va_nd (rng n m) = true
  | 0, _ => rfl
  | m + 1, n => by
    show (decide (n ∉ rng (n + 1) m) && va_nd (rng (n + 1) m)) = true
    rw [rng_nd m, Bool.and_true]
    exact decide_eq_true (fun h => by have := rng_mem m (n + 1) n h; omega)
theorem xC_left {w1 w2 : va_W} {n : Nat} (h : w1.length = n) : (rng 0 n).map (fun i => (w1 ++ w2)[i]?) = w1.map some := xC_one h rfl (by subst h; simp)
theorem xC_right {w1 w2 : va_W} {n m : Nat} (h : w1.length = n) (h2 : w2.length = m) : (rng n m).map (fun i => (w1 ++ w2)[i]?) = w2.map some := xC_one h2 rfl (by subst h; subst h2; simp)
theorem xpa_0 : ∀ (w1' w1 w2 : va_W), w1'.length = w1.length → xpa 0 w1' (w1 ++ w2) = w1' ++ w2
  | [], [], w2, _ => xpa_nil _ _
  | [], y :: w1, w2, h => by simp at h
  | x :: w1', [], w2, h => by simp at h
  | x :: w1', y :: w1, w2, h => by
    show x :: xpa 0 w1' (w1 ++ w2) = x :: (w1' ++ w2)
    rw [xpa_0 w1' w1 w2 (by simpa using h)]
theorem xpa_n : ∀ (w1 w2' w2 : va_W), w2'.length = w2.length → xpa w1.length w2' (w1 ++ w2) = w1 ++ w2'
  | [], w2', w2, h => by
    have := xpa_0 w2' w2 [] h
    simpa using this
  | x :: w1, w2', w2, h => by
    show x :: xpa w1.length w2' (w1 ++ w2) = x :: (w1 ++ w2')
    rw [xpa_n w1 w2' w2 h]
theorem xS_left {w1 w1' w2 : va_W} {n : Nat} (h : w1.length = n) (h' : w1'.length = n) : xput (w1 ++ w2) (rng 0 n) w1' = w1' ++ w2 := xS_one h' rfl (xpa_0 _ _ _ (h'.trans h.symm))
theorem xS_right {w1 w2 w2' : va_W} {n m : Nat} (h : w1.length = n) (h2 : w2.length = m) (h' : w2'.length = m) : xput (w1 ++ w2) (rng n m) w2' = w1 ++ w2' := xS_one h' rfl (by subst h; exact xpa_n _ _ _ (h'.trans h2.symm))
set_option maxRecDepth 100000 in
theorem wX6_len {cy : Nat → ClassId} {a : Nat → Nat} {v : V_X6} : (wX6 cy a v).length = 204 := rfl
set_option maxRecDepth 100000 in
theorem wX6_fst {cy : Nat → ClassId} {a : Nat → Nat} {v v' : V_X6} : (wX6 cy a v').map Prod.fst = (wX6 cy a v).map Prod.fst := rfl
theorem fst_app {w1 w1' w2 w2' : va_W} (h1 : w1'.map Prod.fst = w1.map Prod.fst) (h2 : w2'.map Prod.fst = w2.map Prod.fst) : (w1' ++ w2').map Prod.fst = (w1 ++ w2).map Prod.fst := by
  rw [List.map_append, List.map_append, h1, h2]
theorem wX6_0 {cy : Nat → ClassId} {a : Nat → Nat} {v : V_X6} : ∃ fs, (wX6 cy a v)[0]? = some (a 0, .inr (6, fs)) := ⟨_, rfl⟩
theorem va_RA_one {U : State} {c1 c2 : ClassId} {ty : FieldType} (h1 : va_RA U c1 ty) (h2 : va_RA U c2 ty) : c1 = c2 := by
  cases ty with
  | object C =>
    obtain ⟨-, -, -, -, -, e1⟩ := h1
    obtain ⟨-, -, -, -, -, e2⟩ := h2
    exact Option.some.inj (e1.symm.trans e2)
  | _ => exact Option.some.inj (Eq.trans (Eq.symm h1) h2)
theorem xcy {D : va_G} {cl : List vw_C} {tys : List (ClassId × FieldType)} {U : State} {i j : Nat} {c1 c2 : ClassId} {ty : FieldType} (hK : va_K D cl tys U) (hi : tys[i]? = some (c1, ty)) (hj : tys[j]? = some (c2, ty)) : c1 = c2 := va_RA_one (hK.2 i _ hi).2 (hK.2 j _ hj).2
theorem xC_left2 {w1 w2 w3 : va_W} {n : Nat} (h : w1.length = n) : (rng 0 n).map (fun i => (w1 ++ w2 ++ w3)[i]?) = w1.map some := by rw [List.append_assoc]; exact xC_left h
theorem xS_left2 {w1 w1' w2 w3 : va_W} {n : Nat} (h : w1.length = n) (h' : w1'.length = n) : xput (w1 ++ w2 ++ w3) (rng 0 n) w1' = w1' ++ w2 ++ w3 := by rw [List.append_assoc, List.append_assoc]; exact xS_left h h'
theorem wH_len {cy : Nat → ClassId} {a d : Nat → Nat} {v : V_X6} {n : Nat} {f : Nat → Int32} : (wX6 cy a v ++ cAI cy d n f).length = 205 := by
  rw [List.length_append, wX6_len]; rfl
theorem wH_fst {cy : Nat → ClassId} {a d : Nat → Nat} {v v' : V_X6} {n : Nat} {f f' : Nat → Int32} : (wX6 cy a v' ++ cAI cy d n f').map Prod.fst = (wX6 cy a v ++ cAI cy d n f).map Prod.fst := fst_app wX6_fst rfl
/-- a contract said of less -/
theorem xPost {l : Launch} {y : MethodName} {ws : List Cond} {rm : Room} {Pc : Array Value → State → Prop} {Qc Qc' : Array Value → State → Outcome → State → Prop} {mc ms : Nat} {free : Addr → Prop} (h : Met l y ws rm Pc Qc mc ms free) (hq : ∀ a s o t, Qc a s o t → Qc' a s o t) : Met l y ws rm Pc Qc' mc ms free := by
  intro p e ha hc hk s m args below hf happ hP hK
  obtain ⟨n, o, h1, h2, h3, h4⟩ := h p e ha hc hk s m args below hf happ hP hK
  exact ⟨n, o, h1, h2, h3, hq _ _ _ _ h4.1, h4.2⟩
