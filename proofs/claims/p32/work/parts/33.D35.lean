/-! Blocks of cells by their addresses alone. -/
set_option maxRecDepth 100000 in
theorem X2_eq {cy : Nat → ClassId} {f f' : Nat → Nat} (h : ∀ k, k < 3 → f k = f' k) : wX2 cy f v0_X2 = wX2 cy f' v0_X2 := by
  have e0 := h 0 (by omega)
  have e1 := h 1 (by omega)
  have e2 := h 2 (by omega)
  show ([(f 0, .inr (2, [.ref (f 1), .ref (f 2)])), (f 1, .inl (cy 0, 64, .inl (fun _ => 0))), (f 2, .inl (cy 0, 64, .inl (fun _ => 0)))] : va_W) = ([(f' 0, .inr (2, [.ref (f' 1), .ref (f' 2)])), (f' 1, .inl (cy 0, 64, .inl (fun _ => 0))), (f' 2, .inl (cy 0, 64, .inl (fun _ => 0)))] : va_W)
  rw [e0, e1, e2]
set_option maxRecDepth 100000 in
theorem X4_eq {cy : Nat → ClassId} {f f' : Nat → Nat} (h : ∀ k, k < 5 → f k = f' k) : wX4 cy f v0_X4 = wX4 cy f' v0_X4 := by
  have e0 := h 0 (by omega)
  have e1 := h 1 (by omega)
  have e2 := h 2 (by omega)
  have e3 := h 3 (by omega)
  have e4 := h 4 (by omega)
  show ([(f 0, .inr (4, [.ref (f 1), .ref (f 2), .ref (f 3), .ref (f 4)])), (f 1, .inl (cy 0, 64, .inl (fun _ => 0))), (f 2, .inl (cy 0, 64, .inl (fun _ => 0))), (f 3, .inl (cy 0, 64, .inl (fun _ => 0))), (f 4, .inl (cy 0, 64, .inl (fun _ => 0)))] : va_W) = ([(f' 0, .inr (4, [.ref (f' 1), .ref (f' 2), .ref (f' 3), .ref (f' 4)])), (f' 1, .inl (cy 0, 64, .inl (fun _ => 0))), (f' 2, .inl (cy 0, 64, .inl (fun _ => 0))), (f' 3, .inl (cy 0, 64, .inl (fun _ => 0))), (f' 4, .inl (cy 0, 64, .inl (fun _ => 0)))] : va_W)
  rw [e0, e1, e2, e3, e4]
set_option maxRecDepth 100000 in
theorem X5_eq {cy : Nat → ClassId} {f f' : Nat → Nat} (h : ∀ k, k < 2 → f k = f' k) : wX5 cy f v0_X5 = wX5 cy f' v0_X5 := by
  have e0 := h 0 (by omega)
  have e1 := h 1 (by omega)
  show ([(f 0, .inr (5, [.ref (f 1), .int 0])), (f 1, .inl (cy 0, 60, .inl (fun _ => 0)))] : va_W) = ([(f' 0, .inr (5, [.ref (f' 1), .int 0])), (f' 1, .inl (cy 0, 60, .inl (fun _ => 0)))] : va_W)
  rw [e0, e1]
set_option maxRecDepth 100000 in
theorem X0_eq {cy : Nat → ClassId} {f f' : Nat → Nat} {g g' : Nat → Nat} (h : ∀ k, k < 21 → f k = f' k) (hg : g 0 = g' 0) : wX0 cy f g v0_X0 = wX0 cy f' g' v0_X0 := by
  have hm : (fun k => some (f (9 + 3 * min k 3))) = (fun k => some (f' (9 + 3 * min k 3))) := funext fun k => by rw [h _ (by omega)]
  have e0 := h 0 (by omega)
  have e1 := h 1 (by omega)
  have e2 := h 2 (by omega)
  have e3 := h 3 (by omega)
  have e4 := h 4 (by omega)
  have e5 := h 5 (by omega)
  have e6 := h 6 (by omega)
  have e7 := h 7 (by omega)
  have e8 := h 8 (by omega)
  have e9 := h 9 (by omega)
  have e10 := h 10 (by omega)
  have e11 := h 11 (by omega)
  have e12 := h 12 (by omega)
  have e13 := h 13 (by omega)
  have e14 := h 14 (by omega)
  have e15 := h 15 (by omega)
  have e16 := h 16 (by omega)
  have e17 := h 17 (by omega)
  have e18 := h 18 (by omega)
  have e19 := h 19 (by omega)
  have e20 := h 20 (by omega)
  show ([(f 0, .inr (0, [.ref (f 1), .ref (f 2), .ref (f 3), .ref (f 4), .ref (f 5), .ref (g 0), .ref (f 8), .int 0, .int 6, .int 0, .int 0, .int 0, .int 0, .int 0])), (f 1, .inl (cy 1, 64, .inl (fun _ => 0))), (f 2, .inl (cy 1, 64, .inl (fun _ => 0))), (f 3, .inl (cy 0, 64, .inl (fun _ => 0))), (f 4, .inl (cy 0, 64, .inl (fun _ => -1))), (f 5, .inr (3, [.ref (f 6), .ref (f 7), .int 0, .int 0])), (f 6, .inl (cy 0, 1024, .inl (fun _ => 0))), (f 7, .inl (cy 0, 512, .inl (fun _ => 0))), (f 8, .inl (cy 2, 4, .inr (.inr (.inr (.inr (fun k => some (f (9 + 3 * min k 3)))))))), (f 9, .inr (1, [.ref (f 10), .ref (f 11), .int 0, .int 1, .int 0, .int 0, .int 0])), (f 10, .inl (cy 0, 20, .inl (fun _ => 0))), (f 11, .inl (cy 0, 21, .inl (fun _ => 0))), (f 12, .inr (1, [.ref (f 13), .ref (f 14), .int 0, .int 1, .int 0, .int 0, .int 0])), (f 13, .inl (cy 0, 20, .inl (fun _ => 0))), (f 14, .inl (cy 0, 21, .inl (fun _ => 0))), (f 15, .inr (1, [.ref (f 16), .ref (f 17), .int 0, .int 1, .int 0, .int 0, .int 0])), (f 16, .inl (cy 0, 20, .inl (fun _ => 0))), (f 17, .inl (cy 0, 21, .inl (fun _ => 0))), (f 18, .inr (1, [.ref (f 19), .ref (f 20), .int 0, .int 1, .int 0, .int 0, .int 0])), (f 19, .inl (cy 0, 20, .inl (fun _ => 0))), (f 20, .inl (cy 0, 21, .inl (fun _ => 0)))] : va_W) = ([(f' 0, .inr (0, [.ref (f' 1), .ref (f' 2), .ref (f' 3), .ref (f' 4), .ref (f' 5), .ref (g' 0), .ref (f' 8), .int 0, .int 6, .int 0, .int 0, .int 0, .int 0, .int 0])), (f' 1, .inl (cy 1, 64, .inl (fun _ => 0))), (f' 2, .inl (cy 1, 64, .inl (fun _ => 0))), (f' 3, .inl (cy 0, 64, .inl (fun _ => 0))), (f' 4, .inl (cy 0, 64, .inl (fun _ => -1))), (f' 5, .inr (3, [.ref (f' 6), .ref (f' 7), .int 0, .int 0])), (f' 6, .inl (cy 0, 1024, .inl (fun _ => 0))), (f' 7, .inl (cy 0, 512, .inl (fun _ => 0))), (f' 8, .inl (cy 2, 4, .inr (.inr (.inr (.inr (fun k => some (f' (9 + 3 * min k 3)))))))), (f' 9, .inr (1, [.ref (f' 10), .ref (f' 11), .int 0, .int 1, .int 0, .int 0, .int 0])), (f' 10, .inl (cy 0, 20, .inl (fun _ => 0))), (f' 11, .inl (cy 0, 21, .inl (fun _ => 0))), (f' 12, .inr (1, [.ref (f' 13), .ref (f' 14), .int 0, .int 1, .int 0, .int 0, .int 0])), (f' 13, .inl (cy 0, 20, .inl (fun _ => 0))), (f' 14, .inl (cy 0, 21, .inl (fun _ => 0))), (f' 15, .inr (1, [.ref (f' 16), .ref (f' 17), .int 0, .int 1, .int 0, .int 0, .int 0])), (f' 16, .inl (cy 0, 20, .inl (fun _ => 0))), (f' 17, .inl (cy 0, 21, .inl (fun _ => 0))), (f' 18, .inr (1, [.ref (f' 19), .ref (f' 20), .int 0, .int 1, .int 0, .int 0, .int 0])), (f' 19, .inl (cy 0, 20, .inl (fun _ => 0))), (f' 20, .inl (cy 0, 21, .inl (fun _ => 0)))] : va_W)
  rw [hm, e0, e1, e2, e3, e4, e5, e6, e7, e8, e9, e10, e11, e12, e13, e14, e15, e16, e17, e18, e19, e20, hg]
theorem grow_mid {c0 x : Nat × va_E} {R B X : va_W} : (c0 :: (R ++ (x :: B))) ++ X = c0 :: (R ++ (x :: (B ++ X))) := by simp
theorem look_mid {c0 x : Nat × va_E} {R B : va_W} {n : Nat} (h : R.length = n) : (c0 :: (R ++ (x :: B)))[n + 1]? = some x := by
  subst h
  rw [List.getElem?_cons_succ, List.getElem?_append_right (Nat.le_refl _), Nat.sub_self]
  rfl
theorem set_mid {c0 x y : Nat × va_E} {R B : va_W} {n : Nat} (h : R.length = n) : (c0 :: (R ++ (x :: B))).set (n + 1) y = c0 :: (R ++ (y :: B)) := by
  subst h
  rw [List.set_cons_succ, List.set_append_right _ _ (Nat.le_refl _), Nat.sub_self]
  rfl
theorem look_new {c0 x z : Nat × va_E} {R B X : va_W} {n m : Nat} (h : R.length = n) (h2 : B.length = m) (hz : X[0]? = some z) : (c0 :: (R ++ (x :: (B ++ X))))[n + 1 + 1 + m]? = some z := by
  subst h
  subst h2
  rw [show R.length + 1 + 1 + B.length = (R.length + (1 + B.length)) + 1 from by omega, List.getElem?_cons_succ, List.getElem?_append_right (by omega), show R.length + (1 + B.length) - R.length = B.length + 1 from by omega, List.getElem?_cons_succ, List.getElem?_append_right (Nat.le_refl _), Nat.sub_self]
  exact hz
theorem asm6 {c0 x : Nat × va_E} {A B C D E1 E2 E3 E4 E5 E6 T S P : va_W} : c0 :: ((((A ++ B) ++ C) ++ D) ++ (x :: ((((((((([] ++ E1) ++ E2) ++ E3) ++ E4) ++ E5) ++ E6) ++ T) ++ S) ++ P))) = [c0] ++ (A ++ ([] ++ (B ++ ([] ++ (C ++ ([] ++ (D ++ ([x] ++ (E1 ++ (E2 ++ (E3 ++ (E4 ++ (E5 ++ (E6 ++ ([] ++ (T ++ ([] ++ (S ++ ([] ++ P))))))))))))))))))) := by simp
