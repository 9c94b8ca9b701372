set_option maxRecDepth 100000 in
theorem env_0 {b : Nat} {s : State} (hgv : gvn b s) (hts : wtb b s) : xEnv (lA s) s s.heap :=
  ⟨va_Nw.of rfl (hts _ (by decide +kernel)), va_Nw.of rfl (hts _ (by decide +kernel)), env_ROW_STEP hgv hts, env_COLUMN_STEP hgv hts, env_ROW_BESIDE hgv hts, env_COLUMN_BESIDE hgv hts⟩
set_option maxRecDepth 100000 in
theorem env_c {b : Nat} {s : State} (hts : wtb b s) : cEnv s := ⟨va_Nw.of rfl (hts _ (by decide +kernel)), va_Nw.of rfl (hts _ (by decide +kernel)), va_AO.of (hts (.arrayOver (.object RX1)) (by decide +kernel)), va_AO.of (hts (.arrayOver (.object RX0)) (by decide +kernel)), va_Nw.of rfl (hts _ (by decide +kernel)), va_Nw.of rfl (hts _ (by decide +kernel)), va_Nw.of rfl (hts _ (by decide +kernel)), va_Nw.of rfl (hts _ (by decide +kernel))⟩
