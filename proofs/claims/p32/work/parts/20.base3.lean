/-- n, n+1, .. m of them -/
def rng : Nat → Nat → List Nat
  | _, 0 => []
  | n, m + 1 => n :: rng (n + 1) m
/-- a world with a piece of it anew, from place n on -/
def xpa : Nat → va_W → va_W → va_W
  | _, _, [] => []
  | 0, [], W => W
  | 0, x :: w, _ :: W => x :: xpa 0 w W
  | n + 1, w, y :: W => y :: xpa n w W
theorem xpa_nil : ∀ (W : va_W) (n : Nat), xpa n [] W = W
  | [], n => by cases n <;> rfl
  | y :: W, 0 => rfl
  | y :: W, n + 1 => by show y :: xpa n [] W = _; rw [xpa_nil W n]
theorem xpa_set : ∀ (W : va_W) (n : Nat) (x : Nat × va_E) (w : va_W), xpa (n + 1) w (W.set n x) = xpa n (x :: w) W
  | [], n, x, w => by cases n <;> rfl
  | y :: W, 0, x, w => rfl
  | y :: W, n + 1, x, w => by
    show y :: xpa (n + 1) w (W.set n x) = y :: xpa n (x :: w) W
    rw [xpa_set W n x w]
theorem xput_rng : ∀ (w W : va_W) (n : Nat), xput W (rng n w.length) w = xpa n w W
  | [], W, n => by rw [xpa_nil]; rfl
  | x :: w, W, n => by
    show xput (W.set n x) (rng (n + 1) w.length) w = _
    rw [xput_rng w (W.set n x) (n + 1), xpa_set]
/-- a callee's cells stand together: taken out -/
theorem xC_rng : ∀ (w W : va_W) (n : Nat), (W.drop n).take w.length = w → (rng n w.length).map (fun i => W[i]?) = w.map some
  | [], _, _, _ => rfl
  | x :: w, W, n, h => by
    have h1 : (W.drop n).take (w.length + 1) = x :: w := h
    have hx : W[n]? = some x := by
      have := congrArg (fun l => l[0]?) h1
      simpa [List.getElem?_take, List.getElem?_drop] using this
    have hr : (W.drop (n + 1)).take w.length = w := by
      have ht : (W.drop n).tail = W.drop (n + 1) := by simp [List.tail_drop]
      cases hW : W.drop n with
      | nil => rw [hW] at h1; simp at h1
      | cons y r =>
        rw [hW] at h1 ht
        rw [← ht]
        have h2 : y :: r.take w.length = x :: w := h1
        exact (List.cons.inj h2).2
    show W[n]? :: (rng (n + 1) w.length).map (fun i => W[i]?) = some x :: w.map some
    rw [hx, xC_rng w W (n + 1) hr]
theorem xC_one {w W : va_W} {is : List Nat} {n m : Nat} (hm : w.length = m) (hi : is = rng n m) (h : (W.drop n).take m = w) : is.map (fun i => W[i]?) = w.map some := by
  subst hm; subst hi; exact xC_rng w W n h
theorem xC_app {w1 w2 W : va_W} {i1 i2 is : List Nat} (hi : is = i1 ++ i2) (h1 : i1.map (fun i => W[i]?) = w1.map some) (h2 : i2.map (fun i => W[i]?) = w2.map some) : is.map (fun i => W[i]?) = (w1 ++ w2).map some := by
  subst hi; rw [List.map_append, List.map_append, h1, h2]
theorem xS_one {w W W' : va_W} {is : List Nat} {n m : Nat} (hm : w.length = m) (hi : is = rng n m) (h : xpa n w W = W') : xput W is w = W' := by
  subst hm; subst hi; rw [xput_rng]; exact h
theorem xput_app : ∀ (i1 i2 : List Nat) (w1 w2 W : va_W), i1.length = w1.length → xput W (i1 ++ i2) (w1 ++ w2) = xput (xput W i1 w1) i2 w2
  | [], i2, [], w2, W, _ => by
    cases i2 <;> cases w2 <;> rfl
  | i :: i1, i2, x :: w1, w2, W, h => by
    show xput (W.set i x) (i1 ++ i2) (w1 ++ w2) = xput (xput (W.set i x) i1 w1) i2 w2
    exact xput_app i1 i2 w1 w2 _ (by simpa using h)
theorem rng_len : ∀ (m n : Nat), (rng n m).length = m
  | 0, _ => rfl
  | m + 1, n => by show (rng (n + 1) m).length + 1 = _; rw [rng_len m]
theorem xS_app {w1 w2 W W1 W' : va_W} {i2 is : List Nat} {n m : Nat} (hm : w1.length = m) (hi : is = rng n m ++ i2) (h1 : xpa n w1 W = W1) (h2 : xput W1 i2 w2 = W') : xput W is (w1 ++ w2) = W' := by
  subst hm; subst hi
  rw [xput_app _ _ _ _ _ (rng_len _ _), xput_rng, h1, h2]
