/-! The first state. -/
abbrev w0 : Wd := (lw0, none, [], [])
theorem mr4 (i : Nat) : min i 3 < 4 := by omega
theorem mrinj {i j : Nat} (hi : i < 4) (hj : j < 4) (e : min i 3 = min j 3) : i = j := by omega
theorem perm0 : permL v0_X0 := ⟨fun i _ => mr4 i, fun i j hi hj e => mrinj hi hj e⟩
theorem C0_lawn : CLawn v0_X0 lw0 := ⟨fun t _ => rfl, fun t _ => rfl, fun t _ => rfl, fun t _ => rfl, ⟨fun k h => absurd h (Nat.not_lt_zero _), rfl, rfl, fun i h => absurd h (Nat.not_lt_zero _)⟩, ⟨rfl, fun i _ => mr4 i, fun i j hi hj e => mrinj hi hj e, fun i h => absurd h (Nat.not_lt_zero _)⟩, rfl, rfl, rfl, rfl, rfl, rfl⟩
theorem C0_W : CW v0_X6 w0 := ⟨C0_lawn, perm0, perm0, rfl, fun a h => (by cases h), ⟨rfl, Nat.zero_le _, fun i h => h, fun i j _ _ e => e, fun i _ => perm0, fun i h => absurd h (Nat.not_lt_zero _)⟩, ⟨fun k h => absurd h (Nat.not_lt_zero _), rfl, Nat.zero_le _, fun c h => (by cases h)⟩⟩
theorem G0_lawn : Good 0 lw0 := ⟨⟨Nat.zero_le _, fun m h => (by cases h), by decide, by decide, fun r h => (by cases h), Nat.le_refl _⟩, fun m h => (by cases h)⟩
theorem iw0 : IW 0 w0 := ⟨⟨0, ⟨G0_lawn, fun a h => (by cases h), fun a h => (by cases h), Nat.zero_le _, Nat.zero_le _⟩, Nat.le_refl _⟩, ⟨⟨0, Nat.le_refl _, rfl⟩, fun a h => (by cases h), fun a h => (by cases h)⟩, ⟨⟨fun r h => (by cases h), fun m h => (by cases h)⟩, fun a h => (by cases h), fun a h => (by cases h)⟩⟩
