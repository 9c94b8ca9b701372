set_option maxRecDepth 100000 in
theorem env_ROW_STEP {b : Nat} {s : State} (hgv : gvn b s) (hts : wtb b s) : xTab "ROW_STEP" 4 tab_ROW_STEP (lA s) s s.heap := by
  have hs := flat_of_before _ hgv
  obtain ⟨t, ht, hT⟩ := va_Tof (tm := (.static "MolesLawn" "ROW_STEP" "[I")) (ty := .int) (N := 4) (f := fun j => .int (tab_ROW_STEP j)) (A := lA s) (by omega) (hs _ (by decide +kernel)) (va_eqt (z := Int32.ofNat 4) (hs (.eq (.length (.static "MolesLawn" "ROW_STEP" "[I")) (.int 4)) (by decide +kernel))) (fun j hj => by
    rcases (show j = 0 ∨ j = 1 ∨ j = 2 ∨ j = 3 by omega) with rfl | rfl | rfl | rfl
    · exact va_eqt (z := (-1)) (hs (.eq (.elem (.static "MolesLawn" "ROW_STEP" "[I") (.int 0)) (.int (-1))) (by decide +kernel))
    · exact va_eqt (z := 0) (hs (.eq (.elem (.static "MolesLawn" "ROW_STEP" "[I") (.int 1)) (.int 0)) (by decide +kernel))
    · exact va_eqt (z := 1) (hs (.eq (.elem (.static "MolesLawn" "ROW_STEP" "[I") (.int 2)) (.int 1)) (by decide +kernel))
    · exact va_eqt (z := 0) (hs (.eq (.elem (.static "MolesLawn" "ROW_STEP" "[I") (.int 3)) (.int 0)) (by decide +kernel))) lA_old
  exact ⟨t, va_Zof (hts (.laysStatic "MolesLawn" "ROW_STEP" "[I") (by decide +kernel)) (hts (.initialized "MolesLawn") (by decide +kernel)) ht lA_old, hT⟩
set_option maxRecDepth 100000 in
theorem env_COLUMN_STEP {b : Nat} {s : State} (hgv : gvn b s) (hts : wtb b s) : xTab "COLUMN_STEP" 4 tab_COLUMN_STEP (lA s) s s.heap := by
  have hs := flat_of_before _ hgv
  obtain ⟨t, ht, hT⟩ := va_Tof (tm := (.static "MolesLawn" "COLUMN_STEP" "[I")) (ty := .int) (N := 4) (f := fun j => .int (tab_COLUMN_STEP j)) (A := lA s) (by omega) (hs _ (by decide +kernel)) (va_eqt (z := Int32.ofNat 4) (hs (.eq (.length (.static "MolesLawn" "COLUMN_STEP" "[I")) (.int 4)) (by decide +kernel))) (fun j hj => by
    rcases (show j = 0 ∨ j = 1 ∨ j = 2 ∨ j = 3 by omega) with rfl | rfl | rfl | rfl
    · exact va_eqt (z := 0) (hs (.eq (.elem (.static "MolesLawn" "COLUMN_STEP" "[I") (.int 0)) (.int 0)) (by decide +kernel))
    · exact va_eqt (z := 1) (hs (.eq (.elem (.static "MolesLawn" "COLUMN_STEP" "[I") (.int 1)) (.int 1)) (by decide +kernel))
    · exact va_eqt (z := 0) (hs (.eq (.elem (.static "MolesLawn" "COLUMN_STEP" "[I") (.int 2)) (.int 0)) (by decide +kernel))
    · exact va_eqt (z := (-1)) (hs (.eq (.elem (.static "MolesLawn" "COLUMN_STEP" "[I") (.int 3)) (.int (-1))) (by decide +kernel))) lA_old
  exact ⟨t, va_Zof (hts (.laysStatic "MolesLawn" "COLUMN_STEP" "[I") (by decide +kernel)) (hts (.initialized "MolesLawn") (by decide +kernel)) ht lA_old, hT⟩
set_option maxRecDepth 100000 in
theorem env_ROW_BESIDE {b : Nat} {s : State} (hgv : gvn b s) (hts : wtb b s) : xTab "ROW_BESIDE" 8 tab_ROW_BESIDE (lA s) s s.heap := by
  have hs := flat_of_before _ hgv
  obtain ⟨t, ht, hT⟩ := va_Tof (tm := (.static "MolesLawn" "ROW_BESIDE" "[I")) (ty := .int) (N := 8) (f := fun j => .int (tab_ROW_BESIDE j)) (A := lA s) (by omega) (hs _ (by decide +kernel)) (va_eqt (z := Int32.ofNat 8) (hs (.eq (.length (.static "MolesLawn" "ROW_BESIDE" "[I")) (.int 8)) (by decide +kernel))) (fun j hj => by
    rcases (show j = 0 ∨ j = 1 ∨ j = 2 ∨ j = 3 ∨ j = 4 ∨ j = 5 ∨ j = 6 ∨ j = 7 by omega) with rfl | rfl | rfl | rfl | rfl | rfl | rfl | rfl
    · exact va_eqt (z := (-1)) (hs (.eq (.elem (.static "MolesLawn" "ROW_BESIDE" "[I") (.int 0)) (.int (-1))) (by decide +kernel))
    · exact va_eqt (z := (-1)) (hs (.eq (.elem (.static "MolesLawn" "ROW_BESIDE" "[I") (.int 1)) (.int (-1))) (by decide +kernel))
    · exact va_eqt (z := (-1)) (hs (.eq (.elem (.static "MolesLawn" "ROW_BESIDE" "[I") (.int 2)) (.int (-1))) (by decide +kernel))
    · exact va_eqt (z := 0) (hs (.eq (.elem (.static "MolesLawn" "ROW_BESIDE" "[I") (.int 3)) (.int 0)) (by decide +kernel))
    · exact va_eqt (z := 0) (hs (.eq (.elem (.static "MolesLawn" "ROW_BESIDE" "[I") (.int 4)) (.int 0)) (by decide +kernel))
    · exact va_eqt (z := 1) (hs (.eq (.elem (.static "MolesLawn" "ROW_BESIDE" "[I") (.int 5)) (.int 1)) (by decide +kernel))
    · exact va_eqt (z := 1) (hs (.eq (.elem (.static "MolesLawn" "ROW_BESIDE" "[I") (.int 6)) (.int 1)) (by decide +kernel))
    · exact va_eqt (z := 1) (hs (.eq (.elem (.static "MolesLawn" "ROW_BESIDE" "[I") (.int 7)) (.int 1)) (by decide +kernel))) lA_old
  exact ⟨t, va_Zof (hts (.laysStatic "MolesLawn" "ROW_BESIDE" "[I") (by decide +kernel)) (hts (.initialized "MolesLawn") (by decide +kernel)) ht lA_old, hT⟩
set_option maxRecDepth 100000 in
theorem env_COLUMN_BESIDE {b : Nat} {s : State} (hgv : gvn b s) (hts : wtb b s) : xTab "COLUMN_BESIDE" 8 tab_COLUMN_BESIDE (lA s) s s.heap := by
  have hs := flat_of_before _ hgv
  obtain ⟨t, ht, hT⟩ := va_Tof (tm := (.static "MolesLawn" "COLUMN_BESIDE" "[I")) (ty := .int) (N := 8) (f := fun j => .int (tab_COLUMN_BESIDE j)) (A := lA s) (by omega) (hs _ (by decide +kernel)) (va_eqt (z := Int32.ofNat 8) (hs (.eq (.length (.static "MolesLawn" "COLUMN_BESIDE" "[I")) (.int 8)) (by decide +kernel))) (fun j hj => by
    rcases (show j = 0 ∨ j = 1 ∨ j = 2 ∨ j = 3 ∨ j = 4 ∨ j = 5 ∨ j = 6 ∨ j = 7 by omega) with rfl | rfl | rfl | rfl | rfl | rfl | rfl | rfl
    · exact va_eqt (z := (-1)) (hs (.eq (.elem (.static "MolesLawn" "COLUMN_BESIDE" "[I") (.int 0)) (.int (-1))) (by decide +kernel))
    · exact va_eqt (z := 0) (hs (.eq (.elem (.static "MolesLawn" "COLUMN_BESIDE" "[I") (.int 1)) (.int 0)) (by decide +kernel))
    · exact va_eqt (z := 1) (hs (.eq (.elem (.static "MolesLawn" "COLUMN_BESIDE" "[I") (.int 2)) (.int 1)) (by decide +kernel))
    · exact va_eqt (z := (-1)) (hs (.eq (.elem (.static "MolesLawn" "COLUMN_BESIDE" "[I") (.int 3)) (.int (-1))) (by decide +kernel))
    · exact va_eqt (z := 1) (hs (.eq (.elem (.static "MolesLawn" "COLUMN_BESIDE" "[I") (.int 4)) (.int 1)) (by decide +kernel))
    · exact va_eqt (z := (-1)) (hs (.eq (.elem (.static "MolesLawn" "COLUMN_BESIDE" "[I") (.int 5)) (.int (-1))) (by decide +kernel))
    · exact va_eqt (z := 0) (hs (.eq (.elem (.static "MolesLawn" "COLUMN_BESIDE" "[I") (.int 6)) (.int 0)) (by decide +kernel))
    · exact va_eqt (z := 1) (hs (.eq (.elem (.static "MolesLawn" "COLUMN_BESIDE" "[I") (.int 7)) (.int 1)) (by decide +kernel))) lA_old
  exact ⟨t, va_Zof (hts (.laysStatic "MolesLawn" "COLUMN_BESIDE" "[I") (by decide +kernel)) (hts (.initialized "MolesLawn") (by decide +kernel)) ht lA_old, hT⟩
