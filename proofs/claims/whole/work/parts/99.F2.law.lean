set_option maxRecDepth 100000 in
theorem env_str {b : Nat} {s : State} (hgv : gvn b s) (hts : wtb b s) : ∀ q ∈ xStrs, ∃ sa : Nat, vk_R RX6 q.1 q.2 sa s := by
  have hs := flat_of_before _ hgv
  have one : ∀ (k : Nat) (tx : String), (Cond.exactly (.string RX6 k) "java/lang/String").before #[Value.ref b] s = true → (Cond.stringRef RX6 k tx).before #[Value.ref b] s = true → ∃ sa : Nat, vk_R RX6 k tx sa s := fun k tx h1 h2 => by
    obtain ⟨a, -, -, -, e, -⟩ := Cond.exactly_spec h1
    exact ⟨a, vk_R.of h2 e⟩
  unfold xStrs
  refine List.forall_mem_cons.mpr ⟨one 66 "four moles, or a root" (hs _ (by decide +kernel)) (hts _ (by decide +kernel)), ?_⟩
  refine List.forall_mem_cons.mpr ⟨one 83 "no such direction" (hs _ (by decide +kernel)) (hts _ (by decide +kernel)), ?_⟩
  refine List.forall_mem_cons.mpr ⟨one 95 "the plan is full" (hs _ (by decide +kernel)) (hts _ (by decide +kernel)), ?_⟩
  refine List.forall_mem_cons.mpr ⟨one 109 "no such strength" (hs _ (by decide +kernel)) (hts _ (by decide +kernel)), ?_⟩
  refine List.forall_mem_cons.mpr ⟨one 111 "no such wait" (hs _ (by decide +kernel)) (hts _ (by decide +kernel)), ?_⟩
  refine List.forall_mem_cons.mpr ⟨one 116 "a trap is there" (hs _ (by decide +kernel)) (hts _ (by decide +kernel)), ?_⟩
  refine List.forall_mem_cons.mpr ⟨one 133 "no mound, or a trail begins there" (hs _ (by decide +kernel)) (hts _ (by decide +kernel)), ?_⟩
  refine List.forall_mem_cons.mpr ⟨one 138 "no such air" (hs _ (by decide +kernel)) (hts _ (by decide +kernel)), ?_⟩
  refine List.forall_mem_cons.mpr ⟨one 146 "no such character" (hs _ (by decide +kernel)) (hts _ (by decide +kernel)), ?_⟩
  refine List.forall_mem_cons.mpr ⟨one 151 "the buffer is full" (hs _ (by decide +kernel)) (hts _ (by decide +kernel)), ?_⟩
  refine List.forall_mem_cons.mpr ⟨one 163 "not complete plans" (hs _ (by decide +kernel)) (hts _ (by decide +kernel)), ?_⟩
  refine List.forall_mem_cons.mpr ⟨one 177 "no saved state" (hs _ (by decide +kernel)) (hts _ (by decide +kernel)), ?_⟩
  refine List.forall_mem_cons.mpr ⟨one 194 "no snapshot" (hs _ (by decide +kernel)) (hts _ (by decide +kernel)), ?_⟩
  refine List.forall_mem_cons.mpr ⟨one 215 "no such place" (hs _ (by decide +kernel)) (hts _ (by decide +kernel)), ?_⟩
  refine List.forall_mem_cons.mpr ⟨one 276 "no such tuft" (hs _ (by decide +kernel)) (hts _ (by decide +kernel)), ?_⟩
  refine List.forall_mem_cons.mpr ⟨one 279 "no such mole" (hs _ (by decide +kernel)) (hts _ (by decide +kernel)), ?_⟩
  refine List.forall_mem_cons.mpr ⟨one 281 "no such tunnel" (hs _ (by decide +kernel)) (hts _ (by decide +kernel)), ?_⟩
  refine List.forall_mem_cons.mpr ⟨one 283 "so many beats cannot pass" (hs _ (by decide +kernel)) (hts _ (by decide +kernel)), ?_⟩
  refine List.forall_mem_cons.mpr ⟨one 285 "no such number" (hs _ (by decide +kernel)) (hts _ (by decide +kernel)), ?_⟩
  exact fun q h => by cases h
set_option maxRecDepth 100000 in
theorem env_nc {b : Nat} {s : State} (hgv : gvn b s) : ∀ q ∈ xNcs, va_Nc q.1 q.2 s := by
  have hs := flat_of_before _ hgv
  unfold xNcs
  refine List.forall_mem_cons.mpr ⟨va_Nc.of (hs (.not (.castable eA eI)) (by decide +kernel)), ?_⟩
  refine List.forall_mem_cons.mpr ⟨va_Nc.of (hs (.not (.castable eS eI)) (by decide +kernel)), ?_⟩
  refine List.forall_mem_cons.mpr ⟨va_Nc.of (hs (.not (.castable eS eA)) (by decide +kernel)), ?_⟩
  exact fun q h => by cases h
set_option maxRecDepth 100000 in
theorem env_cast {b : Nat} {s : State} (hts : wtb b s) : ∀ c ∈ xExc, va_Nw (.castable c c) s := by
  unfold xExc
  refine List.forall_mem_cons.mpr ⟨va_Nw.of rfl (hts _ (by decide +kernel)), ?_⟩
  refine List.forall_mem_cons.mpr ⟨va_Nw.of rfl (hts _ (by decide +kernel)), ?_⟩
  refine List.forall_mem_cons.mpr ⟨va_Nw.of rfl (hts _ (by decide +kernel)), ?_⟩
  exact fun q h => by cases h
set_option maxRecDepth 100000 in
theorem env_sup {b : Nat} {s : State} (hts : wtb b s) : ∀ c ∈ xSup, va_Nw (.declares (Bundle.initS c)) s := by
  unfold xSup
  refine List.forall_mem_cons.mpr ⟨va_Nw.of rfl (hts _ (by decide +kernel)), ?_⟩
  refine List.forall_mem_cons.mpr ⟨va_Nw.of rfl (hts _ (by decide +kernel)), ?_⟩
  refine List.forall_mem_cons.mpr ⟨va_Nw.of rfl (hts _ (by decide +kernel)), ?_⟩
  exact fun q h => by cases h
set_option maxRecDepth 100000 in
theorem env_0 {b : Nat} {s : State} (hgv : gvn b s) (hts : wtb b s) : xEnvL (lA s) s s.heap :=
  ⟨⟨⟨va_Nw.of rfl (hts _ (by decide +kernel)), va_Nw.of rfl (hts _ (by decide +kernel)), env_ROW_STEP hgv hts, env_COLUMN_STEP hgv hts, env_ROW_BESIDE hgv hts, env_COLUMN_BESIDE hgv hts⟩,
    vx_Zqof (hts _ (by decide +kernel)) (hts _ (by decide +kernel)) (flat_of_before _ hgv _ (by decide +kernel)) lA_old, vx_Zqof (hts _ (by decide +kernel)) (hts _ (by decide +kernel)) (flat_of_before _ hgv _ (by decide +kernel)) lA_old,
    env_cast hts, env_sup hts, env_str hgv hts⟩, env_nc hgv⟩
set_option maxRecDepth 100000 in
theorem env_c {b : Nat} {s : State} (hts : wtb b s) : cEnv s := ⟨va_Nw.of rfl (hts _ (by decide +kernel)), va_Nw.of rfl (hts _ (by decide +kernel)), va_AO.of (hts (.arrayOver (.object RX1)) (by decide +kernel)), va_AO.of (hts (.arrayOver (.object RX0)) (by decide +kernel)), va_Nw.of rfl (hts _ (by decide +kernel)), va_Nw.of rfl (hts _ (by decide +kernel)), va_Nw.of rfl (hts _ (by decide +kernel)), va_Nw.of rfl (hts _ (by decide +kernel))⟩
