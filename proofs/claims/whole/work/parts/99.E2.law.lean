/-! The first states of both sides. -/
abbrev w0 : Wd := (lw0, none, [], [])
theorem mr4 (i : Nat) : min i 3 < 4 := by omega
theorem mrinj {i j : Nat} (hi : i < 4) (hj : j < 4) (e : min i 3 = min j 3) : i = j := by omega
theorem perm0 : permL v0_X0 := ⟨fun i _ => mr4 i, fun i j hi hj e => mrinj hi hj e⟩
theorem C0_lawn : CLawn v0_X0 lw0 := ⟨fun t _ => rfl, fun t _ => rfl, fun t _ => rfl, fun t _ => rfl, ⟨fun k h => absurd h (Nat.not_lt_zero _), rfl, rfl, fun i h => absurd h (Nat.not_lt_zero _)⟩, ⟨rfl, fun i _ => mr4 i, fun i j hi hj e => mrinj hi hj e, fun i h => absurd h (Nat.not_lt_zero _)⟩, rfl, rfl, rfl, rfl, rfl, rfl⟩
theorem C0_W : CW v0_X6 w0 := ⟨C0_lawn, perm0, perm0, rfl, fun a h => (by cases h), ⟨rfl, Nat.zero_le _, fun i h => h, fun i j _ _ e => e, fun i _ => perm0, fun i h => absurd h (Nat.not_lt_zero _)⟩, ⟨fun k h => absurd h (Nat.not_lt_zero _), rfl, Nat.zero_le _, fun c h => (by cases h)⟩⟩
theorem s0_no {q : Nat} (h1 : q ≠ 6) (h2 : q < 136 ∨ 200 ≤ q) : s0_X7 q = 0 := by
  unfold s0_X7
  rw [if_neg h1, if_neg (by omega)]
theorem s0_tp {q : Nat} (h1 : 136 ≤ q) (h2 : q < 200) : s0_X7 q = -1 := by
  unfold s0_X7
  rw [if_neg (by omega), if_pos (by omega)]
theorem M0_lawn : MLawn s0_X7 lw0 := ⟨⟨s0_no (by omega) (by omega), s0_no (by omega) (by omega), s0_no (by omega) (by omega), s0_no (by omega) (by omega), s0_no (by omega) (by omega), rfl, fun t h => s0_no (by omega) (by omega), fun t h => s0_no (by omega) (by omega), fun t h => s0_tp (by omega) (by omega), fun t h => s0_no (by omega) (by omega)⟩, ⟨s0_no (by omega) (by omega), fun k h => absurd h (Nat.not_lt_zero _)⟩, ⟨s0_no (by omega) (by omega), fun i h => absurd h (Nat.not_lt_zero _), fun i _ h => ⟨s0_no (by omega) (by omega), s0_no (by omega) (by omega)⟩⟩⟩
theorem M0_W : MW v0_X7 w0 := ⟨M0_lawn, rfl, fun a h => (by cases h), ⟨rfl, Nat.zero_le _, fun i h => absurd h (Nat.not_lt_zero _)⟩, ⟨fun k h => absurd h (Nat.not_lt_zero _), rfl⟩⟩
theorem G0_lawn : Good 0 lw0 := ⟨⟨Nat.zero_le _, fun m h => (by cases h), by decide, by decide, fun r h => (by cases h), Nat.le_refl _⟩, fun m h => (by cases h)⟩
theorem inv0 {f : Nat → Int64} : Inv 0 v0_X6 v0_X7 f := ⟨w0, C0_W, M0_W, ⟨0, ⟨G0_lawn, fun a h => (by cases h), fun a h => (by cases h), Nat.zero_le _, Nat.zero_le _⟩, Nat.le_refl _⟩, ⟨0, Nat.le_refl _, rfl⟩, fun a h => (by cases h), fun a h => (by cases h)⟩
