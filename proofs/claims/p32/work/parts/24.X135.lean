abbrev V_X1 : Type := (Nat → Int32) × (Nat → Int32) × Int32 × Int32 × Int32 × Int32 × Int32
abbrev X1_directions (v : V_X1) : Nat → Int32 := v.1
abbrev X1_trail (v : V_X1) : Nat → Int32 := v.2.1
abbrev X1_planned (v : V_X1) : Int32 := v.2.2.1
abbrev X1_trailLength (v : V_X1) : Int32 := v.2.2.2.1
abbrev X1_air (v : V_X1) : Int32 := v.2.2.2.2.1
abbrev X1_steps (v : V_X1) : Int32 := v.2.2.2.2.2.1
abbrev X1_lost (v : V_X1) : Int32 := v.2.2.2.2.2.2
abbrev X1_s0 (v : V_X1) (x : Nat → Int32) : V_X1 := (x, v.2.1, v.2.2.1, v.2.2.2.1, v.2.2.2.2.1, v.2.2.2.2.2.1, v.2.2.2.2.2.2)
abbrev X1_s1 (v : V_X1) (x : Nat → Int32) : V_X1 := (v.1, x, v.2.2.1, v.2.2.2.1, v.2.2.2.2.1, v.2.2.2.2.2.1, v.2.2.2.2.2.2)
abbrev X1_s2 (v : V_X1) (x : Int32) : V_X1 := (v.1, v.2.1, x, v.2.2.2.1, v.2.2.2.2.1, v.2.2.2.2.2.1, v.2.2.2.2.2.2)
abbrev X1_s3 (v : V_X1) (x : Int32) : V_X1 := (v.1, v.2.1, v.2.2.1, x, v.2.2.2.2.1, v.2.2.2.2.2.1, v.2.2.2.2.2.2)
abbrev X1_s4 (v : V_X1) (x : Int32) : V_X1 := (v.1, v.2.1, v.2.2.1, v.2.2.2.1, x, v.2.2.2.2.2.1, v.2.2.2.2.2.2)
abbrev X1_s5 (v : V_X1) (x : Int32) : V_X1 := (v.1, v.2.1, v.2.2.1, v.2.2.2.1, v.2.2.2.2.1, x, v.2.2.2.2.2.2)
abbrev X1_s6 (v : V_X1) (x : Int32) : V_X1 := (v.1, v.2.1, v.2.2.1, v.2.2.2.1, v.2.2.2.2.1, v.2.2.2.2.2.1, x)
abbrev cX1 (cy : Nat → ClassId) (a : Nat → Nat) (e_directions : Nat → Int32) (e_trail : Nat → Int32) (e_planned : Int32) (e_trailLength : Int32) (e_air : Int32) (e_steps : Int32) (e_lost : Int32) : va_W := [(a 0, .inr (1, [.ref (a 1), .ref (a 2), .int e_planned, .int e_trailLength, .int e_air, .int e_steps, .int e_lost])), (a 1, .inl (cy 0, 20, .inl e_directions)), (a 2, .inl (cy 0, 21, .inl e_trail))]
abbrev wX1 (cy : Nat → ClassId) (a : Nat → Nat) (v : V_X1) : va_W := cX1 cy a (X1_directions v) (X1_trail v) (X1_planned v) (X1_trailLength v) (X1_air v) (X1_steps v) (X1_lost v)
abbrev V_X3 : Type := (Nat → Int32) × (Nat → Int32) × Int32 × Int32
abbrev X3_cells (v : V_X3) : Nat → Int32 := v.1
abbrev X3_ends (v : V_X3) : Nat → Int32 := v.2.1
abbrev X3_used (v : V_X3) : Int32 := v.2.2.1
abbrev X3_size (v : V_X3) : Int32 := v.2.2.2
abbrev X3_s0 (v : V_X3) (x : Nat → Int32) : V_X3 := (x, v.2.1, v.2.2.1, v.2.2.2)
abbrev X3_s1 (v : V_X3) (x : Nat → Int32) : V_X3 := (v.1, x, v.2.2.1, v.2.2.2)
abbrev X3_s2 (v : V_X3) (x : Int32) : V_X3 := (v.1, v.2.1, x, v.2.2.2)
abbrev X3_s3 (v : V_X3) (x : Int32) : V_X3 := (v.1, v.2.1, v.2.2.1, x)
abbrev cX3 (cy : Nat → ClassId) (a : Nat → Nat) (e_cells : Nat → Int32) (e_ends : Nat → Int32) (e_used : Int32) (e_size : Int32) : va_W := [(a 0, .inr (3, [.ref (a 1), .ref (a 2), .int e_used, .int e_size])), (a 1, .inl (cy 0, 1024, .inl e_cells)), (a 2, .inl (cy 0, 512, .inl e_ends))]
abbrev wX3 (cy : Nat → ClassId) (a : Nat → Nat) (v : V_X3) : va_W := cX3 cy a (X3_cells v) (X3_ends v) (X3_used v) (X3_size v)
abbrev V_X5 : Type := (Nat → Int32) × Int32
abbrev X5_codes (v : V_X5) : Nat → Int32 := v.1
abbrev X5_length (v : V_X5) : Int32 := v.2
abbrev X5_s0 (v : V_X5) (x : Nat → Int32) : V_X5 := (x, v.2)
abbrev X5_s1 (v : V_X5) (x : Int32) : V_X5 := (v.1, x)
abbrev cX5 (cy : Nat → ClassId) (a : Nat → Nat) (e_codes : Nat → Int32) (e_length : Int32) : va_W := [(a 0, .inr (5, [.ref (a 1), .int e_length])), (a 1, .inl (cy 0, 60, .inl e_codes))]
abbrev wX5 (cy : Nat → ClassId) (a : Nat → Nat) (v : V_X5) : va_W := cX5 cy a (X5_codes v) (X5_length v)
abbrev V_X2 : Type := (Nat → Int32) × (Nat → Int32)
abbrev X2_distance (v : V_X2) : Nat → Int32 := v.1
abbrev X2_group (v : V_X2) : Nat → Int32 := v.2
abbrev X2_s0 (v : V_X2) (x : Nat → Int32) : V_X2 := (x, v.2)
abbrev X2_s1 (v : V_X2) (x : Nat → Int32) : V_X2 := (v.1, x)
abbrev cX2 (cy : Nat → ClassId) (a : Nat → Nat) (e_distance : Nat → Int32) (e_group : Nat → Int32) : va_W := [(a 0, .inr (2, [.ref (a 1), .ref (a 2)])), (a 1, .inl (cy 0, 64, .inl e_distance)), (a 2, .inl (cy 0, 64, .inl e_group))]
abbrev wX2 (cy : Nat → ClassId) (a : Nat → Nat) (v : V_X2) : va_W := cX2 cy a (X2_distance v) (X2_group v)
abbrev V_X4 : Type := (Nat → Int32) × (Nat → Int32) × (Nat → Int32) × (Nat → Int32)
abbrev X4_hollow (v : V_X4) : Nat → Int32 := v.1
abbrev X4_crossings (v : V_X4) : Nat → Int32 := v.2.1
abbrev X4_sure (v : V_X4) : Nat → Int32 := v.2.2.1
abbrev X4_seenBy (v : V_X4) : Nat → Int32 := v.2.2.2
abbrev X4_s0 (v : V_X4) (x : Nat → Int32) : V_X4 := (x, v.2.1, v.2.2.1, v.2.2.2)
abbrev X4_s1 (v : V_X4) (x : Nat → Int32) : V_X4 := (v.1, x, v.2.2.1, v.2.2.2)
abbrev X4_s2 (v : V_X4) (x : Nat → Int32) : V_X4 := (v.1, v.2.1, x, v.2.2.2)
abbrev X4_s3 (v : V_X4) (x : Nat → Int32) : V_X4 := (v.1, v.2.1, v.2.2.1, x)
abbrev cX4 (cy : Nat → ClassId) (a : Nat → Nat) (e_hollow : Nat → Int32) (e_crossings : Nat → Int32) (e_sure : Nat → Int32) (e_seenBy : Nat → Int32) : va_W := [(a 0, .inr (4, [.ref (a 1), .ref (a 2), .ref (a 3), .ref (a 4)])), (a 1, .inl (cy 0, 64, .inl e_hollow)), (a 2, .inl (cy 0, 64, .inl e_crossings)), (a 3, .inl (cy 0, 64, .inl e_sure)), (a 4, .inl (cy 0, 64, .inl e_seenBy))]
abbrev wX4 (cy : Nat → ClassId) (a : Nat → Nat) (v : V_X4) : va_W := cX4 cy a (X4_hollow v) (X4_crossings v) (X4_sure v) (X4_seenBy v)
abbrev V_X0 : Type := (Nat → Int32) × (Nat → Int32) × (Nat → Int32) × (Nat → Int32) × V_X3 × (Nat → Nat) × (Nat → V_X1) × Int32 × Int32 × Int32 × Int32 × Int32 × Int32 × Int32
abbrev X0_mounds (v : V_X0) : Nat → Int32 := v.1
abbrev X0_opened (v : V_X0) : Nat → Int32 := v.2.1
abbrev X0_roots (v : V_X0) : Nat → Int32 := v.2.2.1
abbrev X0_traps (v : V_X0) : Nat → Int32 := v.2.2.2.1
abbrev X0_tunnels (v : V_X0) : V_X3 := v.2.2.2.2.1
abbrev X0_molesR (v : V_X0) : Nat → Nat := v.2.2.2.2.2.1
abbrev X0_moles (v : V_X0) : Nat → V_X1 := v.2.2.2.2.2.2.1
abbrev X0_moleCount (v : V_X0) : Int32 := v.2.2.2.2.2.2.2.1
abbrev X0_fullAir (v : V_X0) : Int32 := v.2.2.2.2.2.2.2.2.1
abbrev X0_beats (v : V_X0) : Int32 := v.2.2.2.2.2.2.2.2.2.1
abbrev X0_caught (v : V_X0) : Int32 := v.2.2.2.2.2.2.2.2.2.2.1
abbrev X0_gnawed (v : V_X0) : Int32 := v.2.2.2.2.2.2.2.2.2.2.2.1
abbrev X0_risen (v : V_X0) : Int32 := v.2.2.2.2.2.2.2.2.2.2.2.2.1
abbrev X0_fallen (v : V_X0) : Int32 := v.2.2.2.2.2.2.2.2.2.2.2.2.2
abbrev X0_s0 (v : V_X0) (x : Nat → Int32) : V_X0 := (x, v.2.1, v.2.2.1, v.2.2.2.1, v.2.2.2.2.1, v.2.2.2.2.2.1, v.2.2.2.2.2.2.1, v.2.2.2.2.2.2.2.1, v.2.2.2.2.2.2.2.2.1, v.2.2.2.2.2.2.2.2.2.1, v.2.2.2.2.2.2.2.2.2.2.1, v.2.2.2.2.2.2.2.2.2.2.2.1, v.2.2.2.2.2.2.2.2.2.2.2.2.1, v.2.2.2.2.2.2.2.2.2.2.2.2.2)
abbrev X0_s1 (v : V_X0) (x : Nat → Int32) : V_X0 := (v.1, x, v.2.2.1, v.2.2.2.1, v.2.2.2.2.1, v.2.2.2.2.2.1, v.2.2.2.2.2.2.1, v.2.2.2.2.2.2.2.1, v.2.2.2.2.2.2.2.2.1, v.2.2.2.2.2.2.2.2.2.1, v.2.2.2.2.2.2.2.2.2.2.1, v.2.2.2.2.2.2.2.2.2.2.2.1, v.2.2.2.2.2.2.2.2.2.2.2.2.1, v.2.2.2.2.2.2.2.2.2.2.2.2.2)
abbrev X0_s2 (v : V_X0) (x : Nat → Int32) : V_X0 := (v.1, v.2.1, x, v.2.2.2.1, v.2.2.2.2.1, v.2.2.2.2.2.1, v.2.2.2.2.2.2.1, v.2.2.2.2.2.2.2.1, v.2.2.2.2.2.2.2.2.1, v.2.2.2.2.2.2.2.2.2.1, v.2.2.2.2.2.2.2.2.2.2.1, v.2.2.2.2.2.2.2.2.2.2.2.1, v.2.2.2.2.2.2.2.2.2.2.2.2.1, v.2.2.2.2.2.2.2.2.2.2.2.2.2)
abbrev X0_s3 (v : V_X0) (x : Nat → Int32) : V_X0 := (v.1, v.2.1, v.2.2.1, x, v.2.2.2.2.1, v.2.2.2.2.2.1, v.2.2.2.2.2.2.1, v.2.2.2.2.2.2.2.1, v.2.2.2.2.2.2.2.2.1, v.2.2.2.2.2.2.2.2.2.1, v.2.2.2.2.2.2.2.2.2.2.1, v.2.2.2.2.2.2.2.2.2.2.2.1, v.2.2.2.2.2.2.2.2.2.2.2.2.1, v.2.2.2.2.2.2.2.2.2.2.2.2.2)
abbrev X0_s4 (v : V_X0) (x : V_X3) : V_X0 := (v.1, v.2.1, v.2.2.1, v.2.2.2.1, x, v.2.2.2.2.2.1, v.2.2.2.2.2.2.1, v.2.2.2.2.2.2.2.1, v.2.2.2.2.2.2.2.2.1, v.2.2.2.2.2.2.2.2.2.1, v.2.2.2.2.2.2.2.2.2.2.1, v.2.2.2.2.2.2.2.2.2.2.2.1, v.2.2.2.2.2.2.2.2.2.2.2.2.1, v.2.2.2.2.2.2.2.2.2.2.2.2.2)
abbrev X0_s5 (v : V_X0) (x : Nat → Nat) : V_X0 := (v.1, v.2.1, v.2.2.1, v.2.2.2.1, v.2.2.2.2.1, x, v.2.2.2.2.2.2.1, v.2.2.2.2.2.2.2.1, v.2.2.2.2.2.2.2.2.1, v.2.2.2.2.2.2.2.2.2.1, v.2.2.2.2.2.2.2.2.2.2.1, v.2.2.2.2.2.2.2.2.2.2.2.1, v.2.2.2.2.2.2.2.2.2.2.2.2.1, v.2.2.2.2.2.2.2.2.2.2.2.2.2)
abbrev X0_s6 (v : V_X0) (x : Nat → V_X1) : V_X0 := (v.1, v.2.1, v.2.2.1, v.2.2.2.1, v.2.2.2.2.1, v.2.2.2.2.2.1, x, v.2.2.2.2.2.2.2.1, v.2.2.2.2.2.2.2.2.1, v.2.2.2.2.2.2.2.2.2.1, v.2.2.2.2.2.2.2.2.2.2.1, v.2.2.2.2.2.2.2.2.2.2.2.1, v.2.2.2.2.2.2.2.2.2.2.2.2.1, v.2.2.2.2.2.2.2.2.2.2.2.2.2)
abbrev X0_s7 (v : V_X0) (x : Int32) : V_X0 := (v.1, v.2.1, v.2.2.1, v.2.2.2.1, v.2.2.2.2.1, v.2.2.2.2.2.1, v.2.2.2.2.2.2.1, x, v.2.2.2.2.2.2.2.2.1, v.2.2.2.2.2.2.2.2.2.1, v.2.2.2.2.2.2.2.2.2.2.1, v.2.2.2.2.2.2.2.2.2.2.2.1, v.2.2.2.2.2.2.2.2.2.2.2.2.1, v.2.2.2.2.2.2.2.2.2.2.2.2.2)
abbrev X0_s8 (v : V_X0) (x : Int32) : V_X0 := (v.1, v.2.1, v.2.2.1, v.2.2.2.1, v.2.2.2.2.1, v.2.2.2.2.2.1, v.2.2.2.2.2.2.1, v.2.2.2.2.2.2.2.1, x, v.2.2.2.2.2.2.2.2.2.1, v.2.2.2.2.2.2.2.2.2.2.1, v.2.2.2.2.2.2.2.2.2.2.2.1, v.2.2.2.2.2.2.2.2.2.2.2.2.1, v.2.2.2.2.2.2.2.2.2.2.2.2.2)
abbrev X0_s9 (v : V_X0) (x : Int32) : V_X0 := (v.1, v.2.1, v.2.2.1, v.2.2.2.1, v.2.2.2.2.1, v.2.2.2.2.2.1, v.2.2.2.2.2.2.1, v.2.2.2.2.2.2.2.1, v.2.2.2.2.2.2.2.2.1, x, v.2.2.2.2.2.2.2.2.2.2.1, v.2.2.2.2.2.2.2.2.2.2.2.1, v.2.2.2.2.2.2.2.2.2.2.2.2.1, v.2.2.2.2.2.2.2.2.2.2.2.2.2)
abbrev X0_s10 (v : V_X0) (x : Int32) : V_X0 := (v.1, v.2.1, v.2.2.1, v.2.2.2.1, v.2.2.2.2.1, v.2.2.2.2.2.1, v.2.2.2.2.2.2.1, v.2.2.2.2.2.2.2.1, v.2.2.2.2.2.2.2.2.1, v.2.2.2.2.2.2.2.2.2.1, x, v.2.2.2.2.2.2.2.2.2.2.2.1, v.2.2.2.2.2.2.2.2.2.2.2.2.1, v.2.2.2.2.2.2.2.2.2.2.2.2.2)
abbrev X0_s11 (v : V_X0) (x : Int32) : V_X0 := (v.1, v.2.1, v.2.2.1, v.2.2.2.1, v.2.2.2.2.1, v.2.2.2.2.2.1, v.2.2.2.2.2.2.1, v.2.2.2.2.2.2.2.1, v.2.2.2.2.2.2.2.2.1, v.2.2.2.2.2.2.2.2.2.1, v.2.2.2.2.2.2.2.2.2.2.1, x, v.2.2.2.2.2.2.2.2.2.2.2.2.1, v.2.2.2.2.2.2.2.2.2.2.2.2.2)
abbrev X0_s12 (v : V_X0) (x : Int32) : V_X0 := (v.1, v.2.1, v.2.2.1, v.2.2.2.1, v.2.2.2.2.1, v.2.2.2.2.2.1, v.2.2.2.2.2.2.1, v.2.2.2.2.2.2.2.1, v.2.2.2.2.2.2.2.2.1, v.2.2.2.2.2.2.2.2.2.1, v.2.2.2.2.2.2.2.2.2.2.1, v.2.2.2.2.2.2.2.2.2.2.2.1, x, v.2.2.2.2.2.2.2.2.2.2.2.2.2)
abbrev X0_s13 (v : V_X0) (x : Int32) : V_X0 := (v.1, v.2.1, v.2.2.1, v.2.2.2.1, v.2.2.2.2.1, v.2.2.2.2.2.1, v.2.2.2.2.2.2.1, v.2.2.2.2.2.2.2.1, v.2.2.2.2.2.2.2.2.1, v.2.2.2.2.2.2.2.2.2.1, v.2.2.2.2.2.2.2.2.2.2.1, v.2.2.2.2.2.2.2.2.2.2.2.1, v.2.2.2.2.2.2.2.2.2.2.2.2.1, x)
abbrev cX0 (cy : Nat → ClassId) (a : Nat → Nat) (b : Nat → Nat) (e_mounds : Nat → Int32) (e_opened : Nat → Int32) (e_roots : Nat → Int32) (e_traps : Nat → Int32) (e_tunnels : V_X3) (e_molesR : Nat → Nat) (e_moles : Nat → V_X1) (e_moleCount : Int32) (e_fullAir : Int32) (e_beats : Int32) (e_caught : Int32) (e_gnawed : Int32) (e_risen : Int32) (e_fallen : Int32) : va_W := [(a 0, .inr (0, [.ref (a 1), .ref (a 2), .ref (a 3), .ref (a 4), .ref (a 5), .ref (b 0), .ref (a 8), .int e_moleCount, .int e_fullAir, .int e_beats, .int e_caught, .int e_gnawed, .int e_risen, .int e_fallen])), (a 1, .inl (cy 1, 64, .inl e_mounds)), (a 2, .inl (cy 1, 64, .inl e_opened)), (a 3, .inl (cy 0, 64, .inl e_roots)), (a 4, .inl (cy 0, 64, .inl e_traps))] ++ (cX3 cy (sh a 5) e_tunnels.1 e_tunnels.2.1 e_tunnels.2.2.1 e_tunnels.2.2.2 ++ ([(a 8, .inl (cy 2, 4, .inr (.inr (.inr (.inr (fun k => some (a (9 + 3 * e_molesR k)))))))) ] ++ (cX1 cy (sh a 9) ((e_moles 0).1) ((e_moles 0).2.1) ((e_moles 0).2.2.1) ((e_moles 0).2.2.2.1) ((e_moles 0).2.2.2.2.1) ((e_moles 0).2.2.2.2.2.1) ((e_moles 0).2.2.2.2.2.2) ++ (cX1 cy (sh a 12) ((e_moles 1).1) ((e_moles 1).2.1) ((e_moles 1).2.2.1) ((e_moles 1).2.2.2.1) ((e_moles 1).2.2.2.2.1) ((e_moles 1).2.2.2.2.2.1) ((e_moles 1).2.2.2.2.2.2) ++ (cX1 cy (sh a 15) ((e_moles 2).1) ((e_moles 2).2.1) ((e_moles 2).2.2.1) ((e_moles 2).2.2.2.1) ((e_moles 2).2.2.2.2.1) ((e_moles 2).2.2.2.2.2.1) ((e_moles 2).2.2.2.2.2.2) ++ cX1 cy (sh a 18) ((e_moles 3).1) ((e_moles 3).2.1) ((e_moles 3).2.2.1) ((e_moles 3).2.2.2.1) ((e_moles 3).2.2.2.2.1) ((e_moles 3).2.2.2.2.2.1) ((e_moles 3).2.2.2.2.2.2))))))
abbrev wX0 (cy : Nat → ClassId) (a : Nat → Nat) (b : Nat → Nat) (v : V_X0) : va_W := cX0 cy a b (X0_mounds v) (X0_opened v) (X0_roots v) (X0_traps v) (X0_tunnels v) (X0_molesR v) (X0_moles v) (X0_moleCount v) (X0_fullAir v) (X0_beats v) (X0_caught v) (X0_gnawed v) (X0_risen v) (X0_fallen v)
def wp_X1_copyFrom (v : V_X1) (w : V_X1) (Q : Int32 → (Nat → Int32) → Int32 → Int32 → (Nat → Int32) → Int32 → Prop) : Prop :=
  ¬ (X1_planned w) < 0 ∧ (0 : Int32).toNatClampNeg + (X1_planned w).toNatClampNeg ≤ 20 ∧ ¬ (X1_trailLength w) < 0 ∧ (0 : Int32).toNatClampNeg + (X1_trailLength w).toNatClampNeg ≤ 21 ∧ Q (X1_air w) (va_cpy (X1_directions w) (X1_directions v) (0 : Int32).toNatClampNeg (0 : Int32).toNatClampNeg (X1_planned w).toNatClampNeg) (X1_planned w) (X1_steps w) (va_cpy (X1_trail w) (X1_trail v) (0 : Int32).toNatClampNeg (0 : Int32).toNatClampNeg (X1_trailLength w).toNatClampNeg) (X1_trailLength w)
def q_X1_copyFrom (dC : Nat → ClassId) (dI : Nat → Nat → Nat) (cy : Nat → ClassId) (a d : Nat → Nat) (v : V_X1) (w : V_X1) (Q : Int32 → (Nat → Int32) → Int32 → Int32 → (Nat → Int32) → Int32 → Prop) (A : Nat → Prop) : Array Value → State → Outcome → State → Prop := va_Qv (fun (u : Int32 × (Nat → Int32) × Int32 × Int32 × (Nat → Int32) × Int32) => Q u.1 u.2.1 u.2.2.1 u.2.2.2.1 u.2.2.2.2.1 u.2.2.2.2.2) (fun (u : Int32 × (Nat → Int32) × Int32 × Int32 × (Nat → Int32) × Int32) t => xAt dC dI cy A (cX1 cy a u.2.1 u.2.2.2.2.1 u.2.2.1 u.2.2.2.2.2 u.1 u.2.2.2.1 (X1_lost v) ++ wX1 cy d w) t) A
set_option maxHeartbeats 4000000 in
set_option maxRecDepth 100000 in
theorem c_X1_copyFrom (l : Launch) (dC : Nat → ClassId) (dI : Nat → Nat → Nat) (cy : Nat → ClassId) (a d : Nat → Nat) (sz : Nat) (v : V_X1) (w : V_X1) (Q : Int32 → (Nat → Int32) → Int32 → Int32 → (Nat → Int32) → Int32 → Prop) (hq : wp_X1_copyFrom v w Q) : Met l yX1_copyFrom wsX1_copyFrom ({ frames := 1, cells := 0, slots := 0, locals := 26 } : Room) (va_Pc [.ref (a 0), .ref (d 0)] (xPre dC dI cy (wX1 cy a v ++ wX1 cy d w) sz)) (q_X1_copyFrom dC dI cy a d v w Q (va_A (wX1 cy a v ++ wX1 cy d w) sz)) 0 0 (va_A (wX1 cy a v ++ wX1 cy d w) sz) := by
  refine Met.ofW (cc := cX1_copyFrom) (maxL := 2) (ret := none) (by decide) rfl ?_
  intro p e s m args below meth c s₁ B hml hv
  obtain ⟨rfl, hsz, hP, hK, hD0⟩ := hv
  have hx := B.exec
  have hb := B.bytes
  have hr := B.returns
  have hts := atoms_spec (ws := wsX1_copyFrom) B.pre
  have hown : s.vm.findClass RX1 = some m.cls := findClass_of_methodNamed B.named
  have hlocks := B.notSynchronized
  subst hsz
  have hD := hD0.self (sz := s.heap.size)
  generalize hAe : va_A (wX1 cy a v ++ wX1 cy d w) s.heap.size = A at hD ⊢
  have hAe0 : ∀ q : Nat, s.heap.size ≤ q → A q := fun q h => by rw [← hAe]; exact Or.inr h
  have hS : va_S A s.heap s.heap [] := va_S.rf
  have hl := lv_entry ([.ref (a 0), .ref (d 0)]) (n := 2) (Nat.le_of_ble_eq_true rfl)
  rw [lg_entry_eq]
  generalize (lg_sl ([.ref (a 0), .ref (d 0)]) ++ List.replicate (2 - (lg_sl ([.ref (a 0), .ref (d 0)])).length) Slot.unset).toArray = ls at hl ⊢
  have hl : lv_has ls 2 [(0, .ref (a 0)), (1, .ref (d 0))] := hl
  have lk0 := hts (Cond.fieldLink RX1 22 "MolesLawn$Mole" "planned" "I") (List.mem_cons_of_mem _ (List.mem_append_left _ (List.mem_of_getElem? (i := 0) rfl)))
  have lk1 := hts (Cond.fieldLink RX1 18 "MolesLawn$Mole" "trailLength" "I") (List.mem_cons_of_mem _ (List.mem_append_left _ (List.mem_of_getElem? (i := 1) rfl)))
  have lk2 := hts (Cond.fieldLink RX1 25 "MolesLawn$Mole" "air" "I") (List.mem_cons_of_mem _ (List.mem_append_left _ (List.mem_of_getElem? (i := 2) rfl)))
  have lk3 := hts (Cond.fieldLink RX1 28 "MolesLawn$Mole" "steps" "I") (List.mem_cons_of_mem _ (List.mem_append_left _ (List.mem_of_getElem? (i := 3) rfl)))
  have lk4 := hts (Cond.fieldLink RX1 9 "MolesLawn$Mole" "directions" "[I") (List.mem_cons_of_mem _ (List.mem_append_left _ (List.mem_of_getElem? (i := 4) rfl)))
  have lk5 := hts (Cond.methodLink RX1 31 arraycopyName) (List.mem_cons_of_mem _ (List.mem_append_left _ (List.mem_of_getElem? (i := 5) rfl)))
  have lk6 := hts (Cond.native arraycopyName) (List.mem_cons_of_mem _ (List.mem_append_left _ (List.mem_of_getElem? (i := 6) rfl)))
  have lk7 := hts (Cond.static arraycopyName) (List.mem_cons_of_mem _ (List.mem_append_left _ (List.mem_of_getElem? (i := 7) rfl)))
  have lk8 := hts (Cond.initialized "java/lang/System") (List.mem_cons_of_mem _ (List.mem_append_left _ (List.mem_of_getElem? (i := 8) rfl)))
  have lk9 := hts (Cond.fieldLink RX1 15 "MolesLawn$Mole" "trail" "[I") (List.mem_cons_of_mem _ (List.mem_append_left _ (List.mem_of_getElem? (i := 9) rfl)))
  have iK1 : ∀ w ∈ wsX10, w ∈ wsX1_copyFrom := fun _ h => (List.mem_cons_of_mem _ (List.mem_append_right _ h))
  unfold wp_X1_copyFrom at hq
  refine lv_aload_n hx hb dX1_copyFrom_0 rfl (lv_at hl 0 rfl) ?_
  refine lv_aload_n hx hb dX1_copyFrom_1 rfl (lv_at hl 1 rfl) ?_
  refine va_get (D := (dC, dI)) (ci := 1) (v := .int (X1_planned w)) (C := RX1) (T := TX1) (N := 7) hx hb hts iK1 hown hK hP 3 rfl rfl 2 (by decide) lk0 (fun _ h9 => h9) rfl dX1_copyFrom_2 ?_
  refine va_put (D := (dC, dI)) (ci := 1) (v := .int (X1_planned w)) (ty := .int) (C := RX1) (T := TX1) (N := 7) hx hb hts iK1 tyX1 tyX1_ok nmX1 hown hK hP hD hS 0 rfl rfl 2 (by decide) lk0 (fun _ h9 => h9) rfl (by decide +kernel) rfl rfl (Nat.le_of_ble_eq_true rfl) dX1_copyFrom_5 (fun H locs hP hD hS => ?_)
  have hP : va_P (dC, dI) vwCl (cX1 cy a (X1_directions v) (X1_trail v) (X1_planned w) (X1_trailLength v) (X1_air v) (X1_steps v) (X1_lost v) ++ wX1 cy d w) H := hP
  have hD : va_D A (cX1 cy a (X1_directions v) (X1_trail v) (X1_planned w) (X1_trailLength v) (X1_air v) (X1_steps v) (X1_lost v) ++ wX1 cy d w) := hD
  refine lv_aload_n hx hb dX1_copyFrom_8 rfl (lv_at hl 0 rfl) ?_
  refine lv_aload_n hx hb dX1_copyFrom_9 rfl (lv_at hl 1 rfl) ?_
  refine va_get (D := (dC, dI)) (ci := 1) (v := .int (X1_trailLength w)) (C := RX1) (T := TX1) (N := 7) hx hb hts iK1 hown hK hP 3 rfl rfl 3 (by decide) lk1 (fun _ h9 => h9) rfl dX1_copyFrom_10 ?_
  refine va_put (D := (dC, dI)) (ci := 1) (v := .int (X1_trailLength w)) (ty := .int) (C := RX1) (T := TX1) (N := 7) hx hb hts iK1 tyX1 tyX1_ok nmX1 hown hK hP hD hS 0 rfl rfl 3 (by decide) lk1 (fun _ h9 => h9) rfl (by decide +kernel) rfl rfl (Nat.le_of_ble_eq_true rfl) dX1_copyFrom_13 (fun H locs hP hD hS => ?_)
  have hP : va_P (dC, dI) vwCl (cX1 cy a (X1_directions v) (X1_trail v) (X1_planned w) (X1_trailLength w) (X1_air v) (X1_steps v) (X1_lost v) ++ wX1 cy d w) H := hP
  have hD : va_D A (cX1 cy a (X1_directions v) (X1_trail v) (X1_planned w) (X1_trailLength w) (X1_air v) (X1_steps v) (X1_lost v) ++ wX1 cy d w) := hD
  refine lv_aload_n hx hb dX1_copyFrom_16 rfl (lv_at hl 0 rfl) ?_
  refine lv_aload_n hx hb dX1_copyFrom_17 rfl (lv_at hl 1 rfl) ?_
  refine va_get (D := (dC, dI)) (ci := 1) (v := .int (X1_air w)) (C := RX1) (T := TX1) (N := 7) hx hb hts iK1 hown hK hP 3 rfl rfl 4 (by decide) lk2 (fun _ h9 => h9) rfl dX1_copyFrom_18 ?_
  refine va_put (D := (dC, dI)) (ci := 1) (v := .int (X1_air w)) (ty := .int) (C := RX1) (T := TX1) (N := 7) hx hb hts iK1 tyX1 tyX1_ok nmX1 hown hK hP hD hS 0 rfl rfl 4 (by decide) lk2 (fun _ h9 => h9) rfl (by decide +kernel) rfl rfl (Nat.le_of_ble_eq_true rfl) dX1_copyFrom_21 (fun H locs hP hD hS => ?_)
  have hP : va_P (dC, dI) vwCl (cX1 cy a (X1_directions v) (X1_trail v) (X1_planned w) (X1_trailLength w) (X1_air w) (X1_steps v) (X1_lost v) ++ wX1 cy d w) H := hP
  have hD : va_D A (cX1 cy a (X1_directions v) (X1_trail v) (X1_planned w) (X1_trailLength w) (X1_air w) (X1_steps v) (X1_lost v) ++ wX1 cy d w) := hD
  refine lv_aload_n hx hb dX1_copyFrom_24 rfl (lv_at hl 0 rfl) ?_
  refine lv_aload_n hx hb dX1_copyFrom_25 rfl (lv_at hl 1 rfl) ?_
  refine va_get (D := (dC, dI)) (ci := 1) (v := .int (X1_steps w)) (C := RX1) (T := TX1) (N := 7) hx hb hts iK1 hown hK hP 3 rfl rfl 5 (by decide) lk3 (fun _ h9 => h9) rfl dX1_copyFrom_26 ?_
  refine va_put (D := (dC, dI)) (ci := 1) (v := .int (X1_steps w)) (ty := .int) (C := RX1) (T := TX1) (N := 7) hx hb hts iK1 tyX1 tyX1_ok nmX1 hown hK hP hD hS 0 rfl rfl 5 (by decide) lk3 (fun _ h9 => h9) rfl (by decide +kernel) rfl rfl (Nat.le_of_ble_eq_true rfl) dX1_copyFrom_29 (fun H locs hP hD hS => ?_)
  have hP : va_P (dC, dI) vwCl (cX1 cy a (X1_directions v) (X1_trail v) (X1_planned w) (X1_trailLength w) (X1_air w) (X1_steps w) (X1_lost v) ++ wX1 cy d w) H := hP
  have hD : va_D A (cX1 cy a (X1_directions v) (X1_trail v) (X1_planned w) (X1_trailLength w) (X1_air w) (X1_steps w) (X1_lost v) ++ wX1 cy d w) := hD
  refine lv_aload_n hx hb dX1_copyFrom_32 rfl (lv_at hl 1 rfl) ?_
  refine va_get (D := (dC, dI)) (ci := 1) (v := .ref (d 1)) (C := RX1) (T := TX1) (N := 7) hx hb hts iK1 hown hK hP 3 rfl rfl 0 (by decide) lk4 (fun _ h9 => h9) rfl dX1_copyFrom_33 ?_
  refine lv_iconst (v := 0) hx hb dX1_copyFrom_36 (by decide) ?_
  refine lv_aload_n hx hb dX1_copyFrom_37 rfl (lv_at hl 0 rfl) ?_
  refine va_get (D := (dC, dI)) (ci := 1) (v := .ref (a 1)) (C := RX1) (T := TX1) (N := 7) hx hb hts iK1 hown hK hP 0 rfl rfl 0 (by decide) lk4 (fun _ h9 => h9) rfl dX1_copyFrom_38 ?_
  refine lv_iconst (v := 0) hx hb dX1_copyFrom_41 (by decide) ?_
  refine lv_aload_n hx hb dX1_copyFrom_42 rfl (lv_at hl 0 rfl) ?_
  refine va_get (D := (dC, dI)) (ci := 1) (v := .int (X1_planned w)) (C := RX1) (T := TX1) (N := 7) hx hb hts iK1 hown hK hP 0 rfl rfl 2 (by decide) lk0 (fun _ h9 => h9) rfl dX1_copyFrom_43 ?_
  obtain ⟨g1, hq⟩ := hq
  obtain ⟨g2, hq⟩ := hq
  refine va_copyi hx hb (hml.trans hl.1.symm) hown lk5 lk6 lk7 lk8 hK hP hD hS 4 1 0 0 rfl rfl rfl rfl rfl (by decide) (by decide) g1 g2 g2 (fun _ _ => rfl) (Nat.le_of_ble_eq_true rfl) (by decide +kernel) dX1_copyFrom_46 (fun H locs hP hD hS => ?_)
  have hP : va_P (dC, dI) vwCl (cX1 cy a (va_cpy (X1_directions w) (X1_directions v) (0 : Int32).toNatClampNeg (0 : Int32).toNatClampNeg (X1_planned w).toNatClampNeg) (X1_trail v) (X1_planned w) (X1_trailLength w) (X1_air w) (X1_steps w) (X1_lost v) ++ wX1 cy d w) H := hP
  have hD : va_D A (cX1 cy a (va_cpy (X1_directions w) (X1_directions v) (0 : Int32).toNatClampNeg (0 : Int32).toNatClampNeg (X1_planned w).toNatClampNeg) (X1_trail v) (X1_planned w) (X1_trailLength w) (X1_air w) (X1_steps w) (X1_lost v) ++ wX1 cy d w) := hD
  refine lv_aload_n hx hb dX1_copyFrom_49 rfl (lv_at hl 1 rfl) ?_
  refine va_get (D := (dC, dI)) (ci := 1) (v := .ref (d 2)) (C := RX1) (T := TX1) (N := 7) hx hb hts iK1 hown hK hP 3 rfl rfl 1 (by decide) lk9 (fun _ h9 => h9) rfl dX1_copyFrom_50 ?_
  refine lv_iconst (v := 0) hx hb dX1_copyFrom_53 (by decide) ?_
  refine lv_aload_n hx hb dX1_copyFrom_54 rfl (lv_at hl 0 rfl) ?_
  refine va_get (D := (dC, dI)) (ci := 1) (v := .ref (a 2)) (C := RX1) (T := TX1) (N := 7) hx hb hts iK1 hown hK hP 0 rfl rfl 1 (by decide) lk9 (fun _ h9 => h9) rfl dX1_copyFrom_55 ?_
  refine lv_iconst (v := 0) hx hb dX1_copyFrom_58 (by decide) ?_
  refine lv_aload_n hx hb dX1_copyFrom_59 rfl (lv_at hl 0 rfl) ?_
  refine va_get (D := (dC, dI)) (ci := 1) (v := .int (X1_trailLength w)) (C := RX1) (T := TX1) (N := 7) hx hb hts iK1 hown hK hP 0 rfl rfl 3 (by decide) lk1 (fun _ h9 => h9) rfl dX1_copyFrom_60 ?_
  obtain ⟨g3, hq⟩ := hq
  obtain ⟨g4, hq⟩ := hq
  refine va_copyi hx hb (hml.trans hl.1.symm) hown lk5 lk6 lk7 lk8 hK hP hD hS 5 2 0 0 rfl rfl rfl rfl rfl (by decide) (by decide) g3 g4 g4 (fun _ _ => rfl) (Nat.le_of_ble_eq_true rfl) (by decide +kernel) dX1_copyFrom_63 (fun H locs hP hD hS => ?_)
  have hP : va_P (dC, dI) vwCl (cX1 cy a (va_cpy (X1_directions w) (X1_directions v) (0 : Int32).toNatClampNeg (0 : Int32).toNatClampNeg (X1_planned w).toNatClampNeg) (va_cpy (X1_trail w) (X1_trail v) (0 : Int32).toNatClampNeg (0 : Int32).toNatClampNeg (X1_trailLength w).toNatClampNeg) (X1_planned w) (X1_trailLength w) (X1_air w) (X1_steps w) (X1_lost v) ++ wX1 cy d w) H := hP
  have hD : va_D A (cX1 cy a (va_cpy (X1_directions w) (X1_directions v) (0 : Int32).toNatClampNeg (0 : Int32).toNatClampNeg (X1_planned w).toNatClampNeg) (va_cpy (X1_trail w) (X1_trail v) (0 : Int32).toNatClampNeg (0 : Int32).toNatClampNeg (X1_trailLength w).toNatClampNeg) (X1_planned w) (X1_trailLength w) (X1_air w) (X1_steps w) (X1_lost v) ++ wX1 cy d w) := hD
  exact W.vret hx hb hr (fun t ht hW => ⟨⟨((X1_air w), (va_cpy (X1_directions w) (X1_directions v) (0 : Int32).toNatClampNeg (0 : Int32).toNatClampNeg (X1_planned w).toNatClampNeg), (X1_planned w), (X1_steps w), (va_cpy (X1_trail w) (X1_trail v) (0 : Int32).toNatClampNeg (0 : Int32).toNatClampNeg (X1_trailLength w).toNatClampNeg), (X1_trailLength w)), rfl, hq, (xAt_of hP hK hD ht hW)⟩, hS.F ht⟩) hS.2.2 dX1_copyFrom_66
def wp_X1_place (v : V_X1) (Q : Int32 → Prop) : Prop :=
  vp_in ((X1_trailLength v) - 1) 21 ∧ Q ((X1_trail v) ((X1_trailLength v) - 1).toNatClampNeg)
def q_X1_place (dC : Nat → ClassId) (dI : Nat → Nat → Nat) (cy : Nat → ClassId) (a : Nat → Nat) (v : V_X1) (Q : Int32 → Prop) (A : Nat → Prop) : Array Value → State → Outcome → State → Prop := va_Qi (fun (r : Int32) (u : Unit) => Q r ) (fun (u : Unit) t => xAt dC dI cy A (wX1 cy a v) t) A
set_option maxHeartbeats 4000000 in
set_option maxRecDepth 100000 in
theorem c_X1_place (l : Launch) (dC : Nat → ClassId) (dI : Nat → Nat → Nat) (cy : Nat → ClassId) (a : Nat → Nat) (sz : Nat) (v : V_X1) (Q : Int32 → Prop) (hq : wp_X1_place v Q) : Met l yX1_place wsX1_place ({ frames := 0, cells := 0, slots := 0, locals := 0 } : Room) (va_Pc [.ref (a 0)] (xPre dC dI cy (wX1 cy a v) sz)) (q_X1_place dC dI cy a v Q (va_A (wX1 cy a v) sz)) 0 0 (va_A (wX1 cy a v) sz) := by
  refine Met.ofW (cc := cX1_place) (maxL := 1) (ret := (some .int)) (by decide) rfl ?_
  intro p e s m args below meth c s₁ B hml hv
  obtain ⟨rfl, hsz, hP, hK, hD0⟩ := hv
  have hx := B.exec
  have hb := B.bytes
  have hr := B.returns
  have hts := atoms_spec (ws := wsX1_place) B.pre
  have hown : s.vm.findClass RX1 = some m.cls := findClass_of_methodNamed B.named
  have hlocks := B.notSynchronized
  subst hsz
  have hD := hD0.self (sz := s.heap.size)
  generalize hAe : va_A (wX1 cy a v) s.heap.size = A at hD ⊢
  have hAe0 : ∀ q : Nat, s.heap.size ≤ q → A q := fun q h => by rw [← hAe]; exact Or.inr h
  have hS : va_S A s.heap s.heap [] := va_S.rf
  have hl := lv_entry ([.ref (a 0)]) (n := 1) (Nat.le_of_ble_eq_true rfl)
  rw [lg_entry_eq]
  generalize (lg_sl ([.ref (a 0)]) ++ List.replicate (1 - (lg_sl ([.ref (a 0)])).length) Slot.unset).toArray = ls at hl ⊢
  have hl : lv_has ls 1 [(0, .ref (a 0))] := hl
  have lk0 := hts (Cond.fieldLink RX1 15 "MolesLawn$Mole" "trail" "[I") (List.mem_cons_of_mem _ (List.mem_append_left _ (List.mem_of_getElem? (i := 0) rfl)))
  have lk1 := hts (Cond.fieldLink RX1 18 "MolesLawn$Mole" "trailLength" "I") (List.mem_cons_of_mem _ (List.mem_append_left _ (List.mem_of_getElem? (i := 1) rfl)))
  have iK1 : ∀ w ∈ wsX10, w ∈ wsX1_place := fun _ h => (List.mem_cons_of_mem _ (List.mem_append_right _ h))
  unfold wp_X1_place at hq
  refine lv_aload_n hx hb dX1_place_0 rfl (lv_at hl 0 rfl) ?_
  refine va_get (D := (dC, dI)) (ci := 1) (v := .ref (a 2)) (C := RX1) (T := TX1) (N := 7) hx hb hts iK1 hown hK hP 0 rfl rfl 1 (by decide) lk0 (fun _ h9 => h9) rfl dX1_place_1 ?_
  refine lv_aload_n hx hb dX1_place_4 rfl (lv_at hl 0 rfl) ?_
  refine va_get (D := (dC, dI)) (ci := 1) (v := .int (X1_trailLength v)) (C := RX1) (T := TX1) (N := 7) hx hb hts iK1 hown hK hP 0 rfl rfl 3 (by decide) lk1 (fun _ h9 => h9) rfl dX1_place_5 ?_
  refine lv_iconst (v := 1) hx hb dX1_place_8 (by decide) ?_
  refine lv_isub hx hb dX1_place_9 ?_
  obtain ⟨g1, hq⟩ := hq
  refine va_iald hx hb hK hP 2 0 rfl rfl g1 dX1_place_10 ?_
  exact W.iret (v := ((X1_trail v) ((X1_trailLength v) - 1).toNatClampNeg)) hx hb hr (fun t ht hW => ⟨⟨((X1_trail v) ((X1_trailLength v) - 1).toNatClampNeg), (), rfl, hq, (xAt_of hP hK hD ht hW)⟩, hS.F ht⟩) hS.2.2 dX1_place_11
def wp_X1_number (v : V_X1) (x1 : Int32) (Q : Int32 → Prop) : Prop :=
  ((x1 = 0 → wp_X1_place v (fun r41 =>
  Q r41)) ∧
  (¬ x1 = 0 → ((x1 = 1 → Q (X1_air v)) ∧
  (¬ x1 = 1 → ((x1 = 2 → Q (X1_planned v)) ∧
  (¬ x1 = 2 → ((x1 = 3 → (((X1_planned v) ≤ 0 → Q (-1)) ∧
  (¬ (X1_planned v) ≤ 0 → vp_in 0 20 ∧ Q ((X1_directions v) (0 : Int32).toNatClampNeg)))) ∧
  (¬ x1 = 3 → ((x1 = 4 → vp_in 0 21 ∧ Q ((X1_trail v) (0 : Int32).toNatClampNeg)) ∧
  (¬ x1 = 4 → ((x1 = 5 → Q (X1_trailLength v)) ∧
  (¬ x1 = 5 → Q (X1_steps v)))))))))))))
def q_X1_number (dC : Nat → ClassId) (dI : Nat → Nat → Nat) (cy : Nat → ClassId) (a : Nat → Nat) (v : V_X1) (x1 : Int32) (Q : Int32 → Prop) (A : Nat → Prop) : Array Value → State → Outcome → State → Prop := va_Qi (fun (r : Int32) (u : Unit) => Q r ) (fun (u : Unit) t => xAt dC dI cy A (wX1 cy a v) t) A
set_option maxHeartbeats 4000000 in
set_option maxRecDepth 100000 in
theorem c_X1_number (l : Launch) (dC : Nat → ClassId) (dI : Nat → Nat → Nat) (cy : Nat → ClassId) (a : Nat → Nat) (sz : Nat) (v : V_X1) (x1 : Int32) (Q : Int32 → Prop) (hq : wp_X1_number v x1 Q) : Met l yX1_number wsX1_number ({ frames := 1, cells := 0, slots := 0, locals := 20 } : Room) (va_Pc [.ref (a 0), .int x1] (xPre dC dI cy (wX1 cy a v) sz)) (q_X1_number dC dI cy a v x1 Q (va_A (wX1 cy a v) sz)) 0 0 (va_A (wX1 cy a v) sz) := by
  refine Met.ofW (cc := cX1_number) (maxL := 2) (ret := (some .int)) (by decide) rfl ?_
  intro p e s m args below meth c s₁ B hml hv
  obtain ⟨rfl, hsz, hP, hK, hD0⟩ := hv
  have hx := B.exec
  have hb := B.bytes
  have hr := B.returns
  have hts := atoms_spec (ws := wsX1_number) B.pre
  have hown : s.vm.findClass RX1 = some m.cls := findClass_of_methodNamed B.named
  have hlocks := B.notSynchronized
  subst hsz
  have hD := hD0.self (sz := s.heap.size)
  generalize hAe : va_A (wX1 cy a v) s.heap.size = A at hD ⊢
  have hAe0 : ∀ q : Nat, s.heap.size ≤ q → A q := fun q h => by rw [← hAe]; exact Or.inr h
  have hS : va_S A s.heap s.heap [] := va_S.rf
  have hl := lv_entry ([.ref (a 0), .int x1]) (n := 2) (Nat.le_of_ble_eq_true rfl)
  rw [lg_entry_eq]
  generalize (lg_sl ([.ref (a 0), .int x1]) ++ List.replicate (2 - (lg_sl ([.ref (a 0), .int x1])).length) Slot.unset).toArray = ls at hl ⊢
  have hl : lv_has ls 2 [(0, .ref (a 0)), (1, .int x1)] := hl
  have lk0 := hts (Cond.fieldLink RX1 25 "MolesLawn$Mole" "air" "I") (List.mem_cons_of_mem _ (List.mem_append_left _ (List.mem_of_getElem? (i := 0) rfl)))
  have lk1 := hts (Cond.fieldLink RX1 22 "MolesLawn$Mole" "planned" "I") (List.mem_cons_of_mem _ (List.mem_append_left _ (List.mem_of_getElem? (i := 1) rfl)))
  have lk2 := hts (Cond.fieldLink RX1 9 "MolesLawn$Mole" "directions" "[I") (List.mem_cons_of_mem _ (List.mem_append_left _ (List.mem_of_getElem? (i := 2) rfl)))
  have lk3 := hts (Cond.fieldLink RX1 15 "MolesLawn$Mole" "trail" "[I") (List.mem_cons_of_mem _ (List.mem_append_left _ (List.mem_of_getElem? (i := 3) rfl)))
  have lk4 := hts (Cond.fieldLink RX1 18 "MolesLawn$Mole" "trailLength" "I") (List.mem_cons_of_mem _ (List.mem_append_left _ (List.mem_of_getElem? (i := 4) rfl)))
  have lk5 := hts (Cond.fieldLink RX1 28 "MolesLawn$Mole" "steps" "I") (List.mem_cons_of_mem _ (List.mem_append_left _ (List.mem_of_getElem? (i := 5) rfl)))
  have iK1 : ∀ w ∈ wsX10, w ∈ wsX1_number := fun _ h => (List.mem_cons_of_mem _ (List.mem_append_right _ h))
  unfold wp_X1_number at hq
  refine lv_iload_n hx hb dX1_number_0 rfl (lv_at hl 1 rfl) ?_
  obtain ⟨hqA, hqB⟩ := hq
  by_cases n0 : x1 = 0
  · have hq := hqA n0
    refine lv_tableIn (tgt := 40) (off := 39) hx hb dX1_number_1 (by rw [n0]; decide) (by rw [n0]; decide) (by rw [n0]; decide) (by decide) ?_
    refine lv_aload_n hx hb dX1_number_40 rfl (lv_at hl 0 rfl) ?_
    have hFc := xfree_same hS hAe0 (ws := (wX1 cy a v)) hD
    refine va_calli (va_runV (As := []) (rest := []) ⟨hx, hb, hml, hown, hts⟩ (c_X1_place l dC dI cy a _ v _ hq) (cwV 0 hts gX1_number_X1_place rfl rfl rfl (by decide +kernel) ⟨Nat.le_of_ble_eq_true rfl, Nat.le_of_ble_eq_true rfl⟩) ⟨xPre_blind, va_recv hK hP (ci := 1) (q0 := 0) rfl rfl, xPre_of hP hK hD⟩ rfl rfl hl.1 rfl (lv_room (Nat.le_of_ble_eq_true rfl)) dX1_number_41 ⟨Nat.le_of_ble_eq_true rfl, Nat.le_of_ble_eq_true rfl⟩) hS (fun q _ h => hFc q h) hFc (fun r41 u9 t H locs ht hvm hq hB hz1 hk1 hS => ?_)
    obtain ⟨hP1, -, hD1⟩ := hB
    rw [ht] at hP1
    have hP : va_P (dC, dI) vwCl (wX1 cy a v) H := hP1
    have hD : va_D A (wX1 cy a v) := hD1.weaken (fun _ q _ h => hFc q.1 h)
    exact W.iret (v := r41) hx hb hr (fun t ht hW => ⟨⟨r41, (), rfl, hq, (xAt_of hP hK hD ht hW)⟩, hS.F ht⟩) hS.2.2 dX1_number_44
  · have hq := hqB n0
    obtain ⟨hqA, hqB⟩ := hq
    by_cases n1 : x1 = 1
    · have hq := hqA n1
      refine lv_tableIn (tgt := 45) (off := 44) hx hb dX1_number_1 (by rw [n1]; decide) (by rw [n1]; decide) (by rw [n1]; decide) (by decide) ?_
      refine lv_aload_n hx hb dX1_number_45 rfl (lv_at hl 0 rfl) ?_
      refine va_get (D := (dC, dI)) (ci := 1) (v := .int (X1_air v)) (C := RX1) (T := TX1) (N := 7) hx hb hts iK1 hown hK hP 0 rfl rfl 4 (by decide) lk0 (fun _ h9 => h9) rfl dX1_number_46 ?_
      exact W.iret (v := (X1_air v)) hx hb hr (fun t ht hW => ⟨⟨(X1_air v), (), rfl, hq, (xAt_of hP hK hD ht hW)⟩, hS.F ht⟩) hS.2.2 dX1_number_49
    · have hq := hqB n1
      obtain ⟨hqA, hqB⟩ := hq
      by_cases n2 : x1 = 2
      · have hq := hqA n2
        refine lv_tableIn (tgt := 50) (off := 49) hx hb dX1_number_1 (by rw [n2]; decide) (by rw [n2]; decide) (by rw [n2]; decide) (by decide) ?_
        refine lv_aload_n hx hb dX1_number_50 rfl (lv_at hl 0 rfl) ?_
        refine va_get (D := (dC, dI)) (ci := 1) (v := .int (X1_planned v)) (C := RX1) (T := TX1) (N := 7) hx hb hts iK1 hown hK hP 0 rfl rfl 2 (by decide) lk1 (fun _ h9 => h9) rfl dX1_number_51 ?_
        exact W.iret (v := (X1_planned v)) hx hb hr (fun t ht hW => ⟨⟨(X1_planned v), (), rfl, hq, (xAt_of hP hK hD ht hW)⟩, hS.F ht⟩) hS.2.2 dX1_number_54
      · have hq := hqB n2
        obtain ⟨hqA, hqB⟩ := hq
        by_cases n3 : x1 = 3
        · have hq := hqA n3
          refine lv_tableIn (tgt := 55) (off := 54) hx hb dX1_number_1 (by rw [n3]; decide) (by rw [n3]; decide) (by rw [n3]; decide) (by decide) ?_
          refine lv_aload_n hx hb dX1_number_55 rfl (lv_at hl 0 rfl) ?_
          refine va_get (D := (dC, dI)) (ci := 1) (v := .int (X1_planned v)) (C := RX1) (T := TX1) (N := 7) hx hb hts iK1 hown hK hP 0 rfl rfl 2 (by decide) lk1 (fun _ h9 => h9) rfl dX1_number_56 ?_
          obtain ⟨hqA, hqB⟩ := hq
          refine lv_if_le (tgt := 71) hx hb dX1_number_59 (by decide) (fun c2 => ?_) (fun c2 => ?_)
          · have hq := hqA c2
            refine lv_iconst (v := (-1)) hx hb dX1_number_71 (by decide) ?_
            exact W.iret (v := (-1)) hx hb hr (fun t ht hW => ⟨⟨(-1), (), rfl, hq, (xAt_of hP hK hD ht hW)⟩, hS.F ht⟩) hS.2.2 dX1_number_72
          · have hq := hqB c2
            refine lv_aload_n hx hb dX1_number_62 rfl (lv_at hl 0 rfl) ?_
            refine va_get (D := (dC, dI)) (ci := 1) (v := .ref (a 1)) (C := RX1) (T := TX1) (N := 7) hx hb hts iK1 hown hK hP 0 rfl rfl 0 (by decide) lk2 (fun _ h9 => h9) rfl dX1_number_63 ?_
            refine lv_iconst (v := 0) hx hb dX1_number_66 (by decide) ?_
            obtain ⟨g1, hq⟩ := hq
            refine va_iald hx hb hK hP 1 0 rfl rfl g1 dX1_number_67 ?_
            refine lv_goto (tgt := 72) hx hb dX1_number_68 (by decide) ?_
            exact W.iret (v := ((X1_directions v) (0 : Int32).toNatClampNeg)) hx hb hr (fun t ht hW => ⟨⟨((X1_directions v) (0 : Int32).toNatClampNeg), (), rfl, hq, (xAt_of hP hK hD ht hW)⟩, hS.F ht⟩) hS.2.2 dX1_number_72
        · have hq := hqB n3
          obtain ⟨hqA, hqB⟩ := hq
          by_cases n4 : x1 = 4
          · have hq := hqA n4
            refine lv_tableIn (tgt := 73) (off := 72) hx hb dX1_number_1 (by rw [n4]; decide) (by rw [n4]; decide) (by rw [n4]; decide) (by decide) ?_
            refine lv_aload_n hx hb dX1_number_73 rfl (lv_at hl 0 rfl) ?_
            refine va_get (D := (dC, dI)) (ci := 1) (v := .ref (a 2)) (C := RX1) (T := TX1) (N := 7) hx hb hts iK1 hown hK hP 0 rfl rfl 1 (by decide) lk3 (fun _ h9 => h9) rfl dX1_number_74 ?_
            refine lv_iconst (v := 0) hx hb dX1_number_77 (by decide) ?_
            obtain ⟨g3, hq⟩ := hq
            refine va_iald hx hb hK hP 2 0 rfl rfl g3 dX1_number_78 ?_
            exact W.iret (v := ((X1_trail v) (0 : Int32).toNatClampNeg)) hx hb hr (fun t ht hW => ⟨⟨((X1_trail v) (0 : Int32).toNatClampNeg), (), rfl, hq, (xAt_of hP hK hD ht hW)⟩, hS.F ht⟩) hS.2.2 dX1_number_79
          · have hq := hqB n4
            obtain ⟨hqA, hqB⟩ := hq
            by_cases n5 : x1 = 5
            · have hq := hqA n5
              refine lv_tableIn (tgt := 80) (off := 79) hx hb dX1_number_1 (by rw [n5]; decide) (by rw [n5]; decide) (by rw [n5]; decide) (by decide) ?_
              refine lv_aload_n hx hb dX1_number_80 rfl (lv_at hl 0 rfl) ?_
              refine va_get (D := (dC, dI)) (ci := 1) (v := .int (X1_trailLength v)) (C := RX1) (T := TX1) (N := 7) hx hb hts iK1 hown hK hP 0 rfl rfl 3 (by decide) lk4 (fun _ h9 => h9) rfl dX1_number_81 ?_
              exact W.iret (v := (X1_trailLength v)) hx hb hr (fun t ht hW => ⟨⟨(X1_trailLength v), (), rfl, hq, (xAt_of hP hK hD ht hW)⟩, hS.F ht⟩) hS.2.2 dX1_number_84
            · have hq := hqB n5
              refine lv_tableOut (tgt := 85) hx hb dX1_number_1 (by have e0 := lv_neT n0 (show (0 : Int32).toInt = 0 from by decide); have e1 := lv_neT n1 (show (1 : Int32).toInt = 1 from by decide); have e2 := lv_neT n2 (show (2 : Int32).toInt = 2 from by decide); have e3 := lv_neT n3 (show (3 : Int32).toInt = 3 from by decide); have e4 := lv_neT n4 (show (4 : Int32).toInt = 4 from by decide); have e5 := lv_neT n5 (show (5 : Int32).toInt = 5 from by decide); omega) (by decide) ?_
              refine lv_aload_n hx hb dX1_number_85 rfl (lv_at hl 0 rfl) ?_
              refine va_get (D := (dC, dI)) (ci := 1) (v := .int (X1_steps v)) (C := RX1) (T := TX1) (N := 7) hx hb hts iK1 hown hK hP 0 rfl rfl 5 (by decide) lk5 (fun _ h9 => h9) rfl dX1_number_86 ?_
              exact W.iret (v := (X1_steps v)) hx hb hr (fun t ht hW => ⟨⟨(X1_steps v), (), rfl, hq, (xAt_of hP hK hD ht hW)⟩, hS.F ht⟩) hS.2.2 dX1_number_89
def wp_X1_addDirection (v : V_X1) (x1 : Int32) (Q : (Nat → Int32) → Int32 → Prop) : Prop :=
  ((20 ≤ (X1_planned v) → Q (X1_directions v) (X1_planned v)) ∧
  (¬ 20 ≤ (X1_planned v) → vp_in (X1_planned v) 20 ∧ Q (upd (X1_directions v) (X1_planned v).toNatClampNeg x1) ((X1_planned v) + 1)))
def q_X1_addDirection (dC : Nat → ClassId) (dI : Nat → Nat → Nat) (cy : Nat → ClassId) (a : Nat → Nat) (v : V_X1) (x1 : Int32) (Q : (Nat → Int32) → Int32 → Prop) (A : Nat → Prop) : Array Value → State → Outcome → State → Prop := va_Qv (fun (u : (Nat → Int32) × Int32) => Q u.1 u.2) (fun (u : (Nat → Int32) × Int32) t => xAt dC dI cy A (cX1 cy a u.1 (X1_trail v) u.2 (X1_trailLength v) (X1_air v) (X1_steps v) (X1_lost v)) t) A
set_option maxHeartbeats 4000000 in
set_option maxRecDepth 100000 in
theorem c_X1_addDirection (l : Launch) (dC : Nat → ClassId) (dI : Nat → Nat → Nat) (cy : Nat → ClassId) (a : Nat → Nat) (sz : Nat) (v : V_X1) (x1 : Int32) (Q : (Nat → Int32) → Int32 → Prop) (hq : wp_X1_addDirection v x1 Q) : Met l yX1_addDirection wsX1_addDirection ({ frames := 0, cells := 0, slots := 0, locals := 0 } : Room) (va_Pc [.ref (a 0), .int x1] (xPre dC dI cy (wX1 cy a v) sz)) (q_X1_addDirection dC dI cy a v x1 Q (va_A (wX1 cy a v) sz)) 0 0 (va_A (wX1 cy a v) sz) := by
  refine Met.ofW (cc := cX1_addDirection) (maxL := 2) (ret := none) (by decide) rfl ?_
  intro p e s m args below meth c s₁ B hml hv
  obtain ⟨rfl, hsz, hP, hK, hD0⟩ := hv
  have hx := B.exec
  have hb := B.bytes
  have hr := B.returns
  have hts := atoms_spec (ws := wsX1_addDirection) B.pre
  have hown : s.vm.findClass RX1 = some m.cls := findClass_of_methodNamed B.named
  have hlocks := B.notSynchronized
  subst hsz
  have hD := hD0.self (sz := s.heap.size)
  generalize hAe : va_A (wX1 cy a v) s.heap.size = A at hD ⊢
  have hAe0 : ∀ q : Nat, s.heap.size ≤ q → A q := fun q h => by rw [← hAe]; exact Or.inr h
  have hS : va_S A s.heap s.heap [] := va_S.rf
  have hl := lv_entry ([.ref (a 0), .int x1]) (n := 2) (Nat.le_of_ble_eq_true rfl)
  rw [lg_entry_eq]
  generalize (lg_sl ([.ref (a 0), .int x1]) ++ List.replicate (2 - (lg_sl ([.ref (a 0), .int x1])).length) Slot.unset).toArray = ls at hl ⊢
  have hl : lv_has ls 2 [(0, .ref (a 0)), (1, .int x1)] := hl
  have lk0 := hts (Cond.fieldLink RX1 22 "MolesLawn$Mole" "planned" "I") (List.mem_cons_of_mem _ (List.mem_append_left _ (List.mem_of_getElem? (i := 0) rfl)))
  have lk1 := hts (Cond.fieldLink RX1 9 "MolesLawn$Mole" "directions" "[I") (List.mem_cons_of_mem _ (List.mem_append_left _ (List.mem_of_getElem? (i := 1) rfl)))
  have iK1 : ∀ w ∈ wsX10, w ∈ wsX1_addDirection := fun _ h => (List.mem_cons_of_mem _ (List.mem_append_right _ h))
  unfold wp_X1_addDirection at hq
  refine lv_aload_n hx hb dX1_addDirection_0 rfl (lv_at hl 0 rfl) ?_
  refine va_get (D := (dC, dI)) (ci := 1) (v := .int (X1_planned v)) (C := RX1) (T := TX1) (N := 7) hx hb hts iK1 hown hK hP 0 rfl rfl 2 (by decide) lk0 (fun _ h9 => h9) rfl dX1_addDirection_1 ?_
  refine lv_bipush (v := 20) hx hb dX1_addDirection_4 (by decide) ?_
  obtain ⟨hqA, hqB⟩ := hq
  refine lv_icmp_ge (tgt := 29) hx hb dX1_addDirection_6 (by decide) (fun c2 => ?_) (fun c2 => ?_)
  · have hq := hqA c2
    exact W.vret hx hb hr (fun t ht hW => ⟨⟨((X1_directions v), (X1_planned v)), rfl, hq, (xAt_of hP hK hD ht hW)⟩, hS.F ht⟩) hS.2.2 dX1_addDirection_29
  · have hq := hqB c2
    refine lv_aload_n hx hb dX1_addDirection_9 rfl (lv_at hl 0 rfl) ?_
    refine va_get (D := (dC, dI)) (ci := 1) (v := .ref (a 1)) (C := RX1) (T := TX1) (N := 7) hx hb hts iK1 hown hK hP 0 rfl rfl 0 (by decide) lk1 (fun _ h9 => h9) rfl dX1_addDirection_10 ?_
    refine lv_aload_n hx hb dX1_addDirection_13 rfl (lv_at hl 0 rfl) ?_
    refine va_get (D := (dC, dI)) (ci := 1) (v := .int (X1_planned v)) (C := RX1) (T := TX1) (N := 7) hx hb hts iK1 hown hK hP 0 rfl rfl 2 (by decide) lk0 (fun _ h9 => h9) rfl dX1_addDirection_14 ?_
    refine lv_iload_n hx hb dX1_addDirection_17 rfl (lv_at hl 1 rfl) ?_
    obtain ⟨g1, hq⟩ := hq
    refine va_iast hx hb hK hP hD hS 1 0 rfl rfl g1 dX1_addDirection_18 (fun H locs hP hD hS => ?_)
    have hP : va_P (dC, dI) vwCl (cX1 cy a (upd (X1_directions v) (X1_planned v).toNatClampNeg x1) (X1_trail v) (X1_planned v) (X1_trailLength v) (X1_air v) (X1_steps v) (X1_lost v)) H := hP
    have hD : va_D A (cX1 cy a (upd (X1_directions v) (X1_planned v).toNatClampNeg x1) (X1_trail v) (X1_planned v) (X1_trailLength v) (X1_air v) (X1_steps v) (X1_lost v)) := hD
    refine lv_aload_n hx hb dX1_addDirection_19 rfl (lv_at hl 0 rfl) ?_
    refine lv_dup hx hb dX1_addDirection_20 rfl ?_
    refine va_get (D := (dC, dI)) (ci := 1) (v := .int (X1_planned v)) (C := RX1) (T := TX1) (N := 7) hx hb hts iK1 hown hK hP 0 rfl rfl 2 (by decide) lk0 (fun _ h9 => h9) rfl dX1_addDirection_21 ?_
    refine lv_iconst (v := 1) hx hb dX1_addDirection_24 (by decide) ?_
    refine lv_iadd hx hb dX1_addDirection_25 ?_
    refine va_put (D := (dC, dI)) (ci := 1) (v := .int ((X1_planned v) + 1)) (ty := .int) (C := RX1) (T := TX1) (N := 7) hx hb hts iK1 tyX1 tyX1_ok nmX1 hown hK hP hD hS 0 rfl rfl 2 (by decide) lk0 (fun _ h9 => h9) rfl (by decide +kernel) rfl rfl (Nat.le_of_ble_eq_true rfl) dX1_addDirection_26 (fun H locs hP hD hS => ?_)
    have hP : va_P (dC, dI) vwCl (cX1 cy a (upd (X1_directions v) (X1_planned v).toNatClampNeg x1) (X1_trail v) ((X1_planned v) + 1) (X1_trailLength v) (X1_air v) (X1_steps v) (X1_lost v)) H := hP
    have hD : va_D A (cX1 cy a (upd (X1_directions v) (X1_planned v).toNatClampNeg x1) (X1_trail v) ((X1_planned v) + 1) (X1_trailLength v) (X1_air v) (X1_steps v) (X1_lost v)) := hD
    exact W.vret hx hb hr (fun t ht hW => ⟨⟨((upd (X1_directions v) (X1_planned v).toNatClampNeg x1), ((X1_planned v) + 1)), rfl, hq, (xAt_of hP hK hD ht hW)⟩, hS.F ht⟩) hS.2.2 dX1_addDirection_29
def wb_X1_dropDirection_2 (v : V_X1)  (y2_1 : Int32) (z2_v_directions : (Nat → Int32)) (B2 : Int32 → (Nat → Int32) → Prop) (Q : (Nat → Int32) → Int32 → Prop) : Prop :=
  (((X1_planned v) ≤ y2_1 → (((X1_planned v) ≤ 0 → Q z2_v_directions 0) ∧
  (¬ (X1_planned v) ≤ 0 → Q z2_v_directions ((X1_planned v) - 1)))) ∧
  (¬ (X1_planned v) ≤ y2_1 → vp_in y2_1 20 ∧ vp_in (y2_1 - 1) 20 ∧ B2 (y2_1 + 1) (upd z2_v_directions (y2_1 - 1).toNatClampNeg (z2_v_directions y2_1.toNatClampNeg))))
def wp_X1_dropDirection_2 (v : V_X1)  (y2_1 : Int32) (z2_v_directions : (Nat → Int32)) (Q : (Nat → Int32) → Int32 → Prop) : Prop :=
  ∃ (I : Int32 → (Nat → Int32) → Prop) (μ : Int32 → (Nat → Int32) → Nat), I y2_1 z2_v_directions ∧ ∀ (s0 : Int32) (s1 : (Nat → Int32)), I s0 s1 → wb_X1_dropDirection_2 v  s0 s1 (fun t0 t1 => I t0 t1 ∧ μ t0 t1 < μ s0 s1) Q
def wp_X1_dropDirection (v : V_X1) (Q : (Nat → Int32) → Int32 → Prop) : Prop :=
  wp_X1_dropDirection_2 v  1 (X1_directions v) Q
def q_X1_dropDirection (dC : Nat → ClassId) (dI : Nat → Nat → Nat) (cy : Nat → ClassId) (a : Nat → Nat) (v : V_X1) (Q : (Nat → Int32) → Int32 → Prop) (A : Nat → Prop) : Array Value → State → Outcome → State → Prop := va_Qv (fun (u : (Nat → Int32) × Int32) => Q u.1 u.2) (fun (u : (Nat → Int32) × Int32) t => xAt dC dI cy A (cX1 cy a u.1 (X1_trail v) u.2 (X1_trailLength v) (X1_air v) (X1_steps v) (X1_lost v)) t) A
set_option maxHeartbeats 4000000 in
set_option maxRecDepth 100000 in
theorem c_X1_dropDirection (l : Launch) (dC : Nat → ClassId) (dI : Nat → Nat → Nat) (cy : Nat → ClassId) (a : Nat → Nat) (sz : Nat) (v : V_X1) (Q : (Nat → Int32) → Int32 → Prop) (hq : wp_X1_dropDirection v Q) : Met l yX1_dropDirection wsX1_dropDirection ({ frames := 0, cells := 0, slots := 0, locals := 0 } : Room) (va_Pc [.ref (a 0)] (xPre dC dI cy (wX1 cy a v) sz)) (q_X1_dropDirection dC dI cy a v Q (va_A (wX1 cy a v) sz)) 0 0 (va_A (wX1 cy a v) sz) := by
  refine Met.ofW (cc := cX1_dropDirection) (maxL := 2) (ret := none) (by decide) rfl ?_
  intro p e s m args below meth c s₁ B hml hv
  obtain ⟨rfl, hsz, hP, hK, hD0⟩ := hv
  have hx := B.exec
  have hb := B.bytes
  have hr := B.returns
  have hts := atoms_spec (ws := wsX1_dropDirection) B.pre
  have hown : s.vm.findClass RX1 = some m.cls := findClass_of_methodNamed B.named
  have hlocks := B.notSynchronized
  subst hsz
  have hD := hD0.self (sz := s.heap.size)
  generalize hAe : va_A (wX1 cy a v) s.heap.size = A at hD ⊢
  have hAe0 : ∀ q : Nat, s.heap.size ≤ q → A q := fun q h => by rw [← hAe]; exact Or.inr h
  have hS : va_S A s.heap s.heap [] := va_S.rf
  have hl := lv_entry ([.ref (a 0)]) (n := 2) (Nat.le_of_ble_eq_true rfl)
  rw [lg_entry_eq]
  generalize (lg_sl ([.ref (a 0)]) ++ List.replicate (2 - (lg_sl ([.ref (a 0)])).length) Slot.unset).toArray = ls at hl ⊢
  have hl : lv_has ls 2 [(0, .ref (a 0))] := hl
  have lk0 := hts (Cond.fieldLink RX1 22 "MolesLawn$Mole" "planned" "I") (List.mem_cons_of_mem _ (List.mem_append_left _ (List.mem_of_getElem? (i := 0) rfl)))
  have lk1 := hts (Cond.fieldLink RX1 9 "MolesLawn$Mole" "directions" "[I") (List.mem_cons_of_mem _ (List.mem_append_left _ (List.mem_of_getElem? (i := 1) rfl)))
  have iK1 : ∀ w ∈ wsX10, w ∈ wsX1_dropDirection := fun _ h => (List.mem_cons_of_mem _ (List.mem_append_right _ h))
  unfold wp_X1_dropDirection at hq
  have J2 : ∀  (y2_1 : Int32) (z2_v_directions : (Nat → Int32)) (H : Heap) (locs : List Loc) (ls : Array Slot), wp_X1_dropDirection_2 v  y2_1 z2_v_directions Q → va_P (dC, dI) vwCl (cX1 cy a z2_v_directions (X1_trail v) (X1_planned v) (X1_trailLength v) (X1_air v) (X1_steps v) (X1_lost v)) H → va_D A (cX1 cy a z2_v_directions (X1_trail v) (X1_planned v) (X1_trailLength v) (X1_air v) (X1_steps v) (X1_lost v)) → va_S A s.heap H locs → lv_has ls 2 [(0, .ref (a 0)), (1, .int y2_1)] → W p l e (headSpec wsX1_dropDirection ({ frames := 0, cells := 0, slots := 0, locals := 0 } : Room)).room s m ([.ref (a 0)] : List Value).toArray below meth c H locs 0 0 (MQ below (q_X1_dropDirection dC dI cy a v Q A) ([.ref (a 0)] : List Value).toArray s 0 0 A) (F0 m 2 ls []) := by
    intro  y2_1 z2_v_directions H locs ls hq hP hD hS hl
    obtain ⟨I2, μ2, h0, hs2⟩ := hq
    have key : ∀ (n : Nat) (y2_1 : Int32) (z2_v_directions : (Nat → Int32)) (H : Heap) (locs : List Loc) (ls : Array Slot), I2 y2_1 z2_v_directions → μ2 y2_1 z2_v_directions < n → va_P (dC, dI) vwCl (cX1 cy a z2_v_directions (X1_trail v) (X1_planned v) (X1_trailLength v) (X1_air v) (X1_steps v) (X1_lost v)) H → va_D A (cX1 cy a z2_v_directions (X1_trail v) (X1_planned v) (X1_trailLength v) (X1_air v) (X1_steps v) (X1_lost v)) → va_S A s.heap H locs → lv_has ls 2 [(0, .ref (a 0)), (1, .int y2_1)] → W p l e (headSpec wsX1_dropDirection ({ frames := 0, cells := 0, slots := 0, locals := 0 } : Room)).room s m ([.ref (a 0)] : List Value).toArray below meth c H locs 0 0 (MQ below (q_X1_dropDirection dC dI cy a v Q A) ([.ref (a 0)] : List Value).toArray s 0 0 A) (F0 m 2 ls []) := by
      intro n
      induction n with
      | zero => intro y2_1 z2_v_directions H locs ls _ hm; exact absurd hm (Nat.not_lt_zero _)
      | succ n ih =>
        intro y2_1 z2_v_directions H locs ls hI hm hP hD hS hl
        have hq := hs2 y2_1 z2_v_directions hI
        generalize hB2 : (fun (t0 : Int32) (t1 : (Nat → Int32)) => I2 t0 t1 ∧ μ2 t0 t1 < μ2 y2_1 z2_v_directions) = B2 at hq
        have bk2 : ∀ (y2_1 : Int32) (z2_v_directions : (Nat → Int32)) (H : Heap) (locs : List Loc) (ls : Array Slot), B2 y2_1 z2_v_directions → va_P (dC, dI) vwCl (cX1 cy a z2_v_directions (X1_trail v) (X1_planned v) (X1_trailLength v) (X1_air v) (X1_steps v) (X1_lost v)) H → va_D A (cX1 cy a z2_v_directions (X1_trail v) (X1_planned v) (X1_trailLength v) (X1_air v) (X1_steps v) (X1_lost v)) → va_S A s.heap H locs → lv_has ls 2 [(0, .ref (a 0)), (1, .int y2_1)] → W p l e (headSpec wsX1_dropDirection ({ frames := 0, cells := 0, slots := 0, locals := 0 } : Room)).room s m ([.ref (a 0)] : List Value).toArray below meth c H locs 0 0 (MQ below (q_X1_dropDirection dC dI cy a v Q A) ([.ref (a 0)] : List Value).toArray s 0 0 A) (F0 m 2 ls []) := by
          intro y2_1 z2_v_directions H locs ls h
          rw [← hB2] at h
          exact ih y2_1 z2_v_directions H locs ls h.1 (Nat.lt_of_lt_of_le h.2 (Nat.le_of_lt_succ hm))
        unfold wb_X1_dropDirection_2 at hq
        refine lv_iload_n hx hb dX1_dropDirection_2 rfl (lv_at hl 1 rfl) ?_
        refine lv_aload_n hx hb dX1_dropDirection_3 rfl (lv_at hl 0 rfl) ?_
        refine va_get (D := (dC, dI)) (ci := 1) (v := .int (X1_planned v)) (C := RX1) (T := TX1) (N := 7) hx hb hts iK1 hown hK hP 0 rfl rfl 2 (by decide) lk0 (fun _ h9 => h9) rfl dX1_dropDirection_4 ?_
        obtain ⟨hqA, hqB⟩ := hq
        refine lv_icmp_ge (tgt := 30) hx hb dX1_dropDirection_7 (by decide) (fun c4 => ?_) (fun c4 => ?_)
        · have hq := hqA c4
          refine lv_aload_n hx hb dX1_dropDirection_30 rfl (lv_at hl 0 rfl) ?_
          refine lv_aload_n hx hb dX1_dropDirection_31 rfl (lv_at hl 0 rfl) ?_
          refine va_get (D := (dC, dI)) (ci := 1) (v := .int (X1_planned v)) (C := RX1) (T := TX1) (N := 7) hx hb hts iK1 hown hK hP 0 rfl rfl 2 (by decide) lk0 (fun _ h9 => h9) rfl dX1_dropDirection_32 ?_
          obtain ⟨hqA, hqB⟩ := hq
          refine lv_if_le (tgt := 47) hx hb dX1_dropDirection_35 (by decide) (fun c1 => ?_) (fun c1 => ?_)
          · have hq := hqA c1
            refine lv_iconst (v := 0) hx hb dX1_dropDirection_47 (by decide) ?_
            refine va_put (D := (dC, dI)) (ci := 1) (v := .int 0) (ty := .int) (C := RX1) (T := TX1) (N := 7) hx hb hts iK1 tyX1 tyX1_ok nmX1 hown hK hP hD hS 0 rfl rfl 2 (by decide) lk0 (fun _ h9 => h9) rfl (by decide +kernel) rfl rfl (Nat.le_of_ble_eq_true rfl) dX1_dropDirection_48 (fun H locs hP hD hS => ?_)
            have hP : va_P (dC, dI) vwCl (cX1 cy a z2_v_directions (X1_trail v) 0 (X1_trailLength v) (X1_air v) (X1_steps v) (X1_lost v)) H := hP
            have hD : va_D A (cX1 cy a z2_v_directions (X1_trail v) 0 (X1_trailLength v) (X1_air v) (X1_steps v) (X1_lost v)) := hD
            exact W.vret hx hb hr (fun t ht hW => ⟨⟨(z2_v_directions, 0), rfl, hq, (xAt_of hP hK hD ht hW)⟩, hS.F ht⟩) hS.2.2 dX1_dropDirection_51
          · have hq := hqB c1
            refine lv_aload_n hx hb dX1_dropDirection_38 rfl (lv_at hl 0 rfl) ?_
            refine va_get (D := (dC, dI)) (ci := 1) (v := .int (X1_planned v)) (C := RX1) (T := TX1) (N := 7) hx hb hts iK1 hown hK hP 0 rfl rfl 2 (by decide) lk0 (fun _ h9 => h9) rfl dX1_dropDirection_39 ?_
            refine lv_iconst (v := 1) hx hb dX1_dropDirection_42 (by decide) ?_
            refine lv_isub hx hb dX1_dropDirection_43 ?_
            refine lv_goto (tgt := 48) hx hb dX1_dropDirection_44 (by decide) ?_
            refine va_put (D := (dC, dI)) (ci := 1) (v := .int ((X1_planned v) - 1)) (ty := .int) (C := RX1) (T := TX1) (N := 7) hx hb hts iK1 tyX1 tyX1_ok nmX1 hown hK hP hD hS 0 rfl rfl 2 (by decide) lk0 (fun _ h9 => h9) rfl (by decide +kernel) rfl rfl (Nat.le_of_ble_eq_true rfl) dX1_dropDirection_48 (fun H locs hP hD hS => ?_)
            have hP : va_P (dC, dI) vwCl (cX1 cy a z2_v_directions (X1_trail v) ((X1_planned v) - 1) (X1_trailLength v) (X1_air v) (X1_steps v) (X1_lost v)) H := hP
            have hD : va_D A (cX1 cy a z2_v_directions (X1_trail v) ((X1_planned v) - 1) (X1_trailLength v) (X1_air v) (X1_steps v) (X1_lost v)) := hD
            exact W.vret hx hb hr (fun t ht hW => ⟨⟨(z2_v_directions, ((X1_planned v) - 1)), rfl, hq, (xAt_of hP hK hD ht hW)⟩, hS.F ht⟩) hS.2.2 dX1_dropDirection_51
        · have hq := hqB c4
          refine lv_aload_n hx hb dX1_dropDirection_10 rfl (lv_at hl 0 rfl) ?_
          refine va_get (D := (dC, dI)) (ci := 1) (v := .ref (a 1)) (C := RX1) (T := TX1) (N := 7) hx hb hts iK1 hown hK hP 0 rfl rfl 0 (by decide) lk1 (fun _ h9 => h9) rfl dX1_dropDirection_11 ?_
          refine lv_iload_n hx hb dX1_dropDirection_14 rfl (lv_at hl 1 rfl) ?_
          refine lv_iconst (v := 1) hx hb dX1_dropDirection_15 (by decide) ?_
          refine lv_isub hx hb dX1_dropDirection_16 ?_
          refine lv_aload_n hx hb dX1_dropDirection_17 rfl (lv_at hl 0 rfl) ?_
          refine va_get (D := (dC, dI)) (ci := 1) (v := .ref (a 1)) (C := RX1) (T := TX1) (N := 7) hx hb hts iK1 hown hK hP 0 rfl rfl 0 (by decide) lk1 (fun _ h9 => h9) rfl dX1_dropDirection_18 ?_
          refine lv_iload_n hx hb dX1_dropDirection_21 rfl (lv_at hl 1 rfl) ?_
          obtain ⟨g2, hq⟩ := hq
          refine va_iald hx hb hK hP 1 0 rfl rfl g2 dX1_dropDirection_22 ?_
          obtain ⟨g3, hq⟩ := hq
          refine va_iast hx hb hK hP hD hS 1 0 rfl rfl g3 dX1_dropDirection_23 (fun H locs hP hD hS => ?_)
          have hP : va_P (dC, dI) vwCl (cX1 cy a (upd z2_v_directions (y2_1 - 1).toNatClampNeg (z2_v_directions y2_1.toNatClampNeg)) (X1_trail v) (X1_planned v) (X1_trailLength v) (X1_air v) (X1_steps v) (X1_lost v)) H := hP
          have hD : va_D A (cX1 cy a (upd z2_v_directions (y2_1 - 1).toNatClampNeg (z2_v_directions y2_1.toNatClampNeg)) (X1_trail v) (X1_planned v) (X1_trailLength v) (X1_air v) (X1_steps v) (X1_lost v)) := hD
          refine lv_iinc (v := (y2_1 + 1)) (lv' := [(1, .int (y2_1 + 1)), (0, .ref (a 0))]) hx hb dX1_dropDirection_24 hl (k := 1) rfl rfl (by decide) rfl (fun ls hl => ?_)
          refine lv_goto (tgt := 2) hx hb dX1_dropDirection_27 (by decide) ?_
          exact bk2 (y2_1 + 1) (upd z2_v_directions (y2_1 - 1).toNatClampNeg (z2_v_directions y2_1.toNatClampNeg)) _ _ _ hq hP hD hS (lv_sub hl [1, 0] rfl)
    exact key _ y2_1 z2_v_directions H locs ls h0 (Nat.lt_succ_self _) hP hD hS hl
  refine lv_iconst (v := 1) hx hb dX1_dropDirection_0 (by decide) ?_
  refine lv_istore_n (lv' := [(1, .int 1), (0, .ref (a 0))]) hx hb dX1_dropDirection_1 rfl hl (by decide) rfl (fun ls hl => ?_)
  exact J2  1 (X1_directions v) _ _ _ hq hP hD hS (lv_sub hl [1, 0] rfl)
def wp_X1_beginTrail (v : V_X1) (x1 : Int32) (Q : (Nat → Int32) → Int32 → Prop) : Prop :=
  vp_in 0 21 ∧ Q (upd (X1_trail v) (0 : Int32).toNatClampNeg x1) 1
def q_X1_beginTrail (dC : Nat → ClassId) (dI : Nat → Nat → Nat) (cy : Nat → ClassId) (a : Nat → Nat) (v : V_X1) (x1 : Int32) (Q : (Nat → Int32) → Int32 → Prop) (A : Nat → Prop) : Array Value → State → Outcome → State → Prop := va_Qv (fun (u : (Nat → Int32) × Int32) => Q u.1 u.2) (fun (u : (Nat → Int32) × Int32) t => xAt dC dI cy A (cX1 cy a (X1_directions v) u.1 (X1_planned v) u.2 (X1_air v) (X1_steps v) (X1_lost v)) t) A
set_option maxHeartbeats 4000000 in
set_option maxRecDepth 100000 in
theorem c_X1_beginTrail (l : Launch) (dC : Nat → ClassId) (dI : Nat → Nat → Nat) (cy : Nat → ClassId) (a : Nat → Nat) (sz : Nat) (v : V_X1) (x1 : Int32) (Q : (Nat → Int32) → Int32 → Prop) (hq : wp_X1_beginTrail v x1 Q) : Met l yX1_beginTrail wsX1_beginTrail ({ frames := 0, cells := 0, slots := 0, locals := 0 } : Room) (va_Pc [.ref (a 0), .int x1] (xPre dC dI cy (wX1 cy a v) sz)) (q_X1_beginTrail dC dI cy a v x1 Q (va_A (wX1 cy a v) sz)) 0 0 (va_A (wX1 cy a v) sz) := by
  refine Met.ofW (cc := cX1_beginTrail) (maxL := 2) (ret := none) (by decide) rfl ?_
  intro p e s m args below meth c s₁ B hml hv
  obtain ⟨rfl, hsz, hP, hK, hD0⟩ := hv
  have hx := B.exec
  have hb := B.bytes
  have hr := B.returns
  have hts := atoms_spec (ws := wsX1_beginTrail) B.pre
  have hown : s.vm.findClass RX1 = some m.cls := findClass_of_methodNamed B.named
  have hlocks := B.notSynchronized
  subst hsz
  have hD := hD0.self (sz := s.heap.size)
  generalize hAe : va_A (wX1 cy a v) s.heap.size = A at hD ⊢
  have hAe0 : ∀ q : Nat, s.heap.size ≤ q → A q := fun q h => by rw [← hAe]; exact Or.inr h
  have hS : va_S A s.heap s.heap [] := va_S.rf
  have hl := lv_entry ([.ref (a 0), .int x1]) (n := 2) (Nat.le_of_ble_eq_true rfl)
  rw [lg_entry_eq]
  generalize (lg_sl ([.ref (a 0), .int x1]) ++ List.replicate (2 - (lg_sl ([.ref (a 0), .int x1])).length) Slot.unset).toArray = ls at hl ⊢
  have hl : lv_has ls 2 [(0, .ref (a 0)), (1, .int x1)] := hl
  have lk0 := hts (Cond.fieldLink RX1 15 "MolesLawn$Mole" "trail" "[I") (List.mem_cons_of_mem _ (List.mem_append_left _ (List.mem_of_getElem? (i := 0) rfl)))
  have lk1 := hts (Cond.fieldLink RX1 18 "MolesLawn$Mole" "trailLength" "I") (List.mem_cons_of_mem _ (List.mem_append_left _ (List.mem_of_getElem? (i := 1) rfl)))
  have iK1 : ∀ w ∈ wsX10, w ∈ wsX1_beginTrail := fun _ h => (List.mem_cons_of_mem _ (List.mem_append_right _ h))
  unfold wp_X1_beginTrail at hq
  refine lv_aload_n hx hb dX1_beginTrail_0 rfl (lv_at hl 0 rfl) ?_
  refine va_get (D := (dC, dI)) (ci := 1) (v := .ref (a 2)) (C := RX1) (T := TX1) (N := 7) hx hb hts iK1 hown hK hP 0 rfl rfl 1 (by decide) lk0 (fun _ h9 => h9) rfl dX1_beginTrail_1 ?_
  refine lv_iconst (v := 0) hx hb dX1_beginTrail_4 (by decide) ?_
  refine lv_iload_n hx hb dX1_beginTrail_5 rfl (lv_at hl 1 rfl) ?_
  obtain ⟨g1, hq⟩ := hq
  refine va_iast hx hb hK hP hD hS 2 0 rfl rfl g1 dX1_beginTrail_6 (fun H locs hP hD hS => ?_)
  have hP : va_P (dC, dI) vwCl (cX1 cy a (X1_directions v) (upd (X1_trail v) (0 : Int32).toNatClampNeg x1) (X1_planned v) (X1_trailLength v) (X1_air v) (X1_steps v) (X1_lost v)) H := hP
  have hD : va_D A (cX1 cy a (X1_directions v) (upd (X1_trail v) (0 : Int32).toNatClampNeg x1) (X1_planned v) (X1_trailLength v) (X1_air v) (X1_steps v) (X1_lost v)) := hD
  refine lv_aload_n hx hb dX1_beginTrail_7 rfl (lv_at hl 0 rfl) ?_
  refine lv_iconst (v := 1) hx hb dX1_beginTrail_8 (by decide) ?_
  refine va_put (D := (dC, dI)) (ci := 1) (v := .int 1) (ty := .int) (C := RX1) (T := TX1) (N := 7) hx hb hts iK1 tyX1 tyX1_ok nmX1 hown hK hP hD hS 0 rfl rfl 3 (by decide) lk1 (fun _ h9 => h9) rfl (by decide +kernel) rfl rfl (Nat.le_of_ble_eq_true rfl) dX1_beginTrail_9 (fun H locs hP hD hS => ?_)
  have hP : va_P (dC, dI) vwCl (cX1 cy a (X1_directions v) (upd (X1_trail v) (0 : Int32).toNatClampNeg x1) (X1_planned v) 1 (X1_air v) (X1_steps v) (X1_lost v)) H := hP
  have hD : va_D A (cX1 cy a (X1_directions v) (upd (X1_trail v) (0 : Int32).toNatClampNeg x1) (X1_planned v) 1 (X1_air v) (X1_steps v) (X1_lost v)) := hD
  exact W.vret hx hb hr (fun t ht hW => ⟨⟨((upd (X1_trail v) (0 : Int32).toNatClampNeg x1), 1), rfl, hq, (xAt_of hP hK hD ht hW)⟩, hS.F ht⟩) hS.2.2 dX1_beginTrail_12
def wp_X1_go_29 (v : V_X1) (x1 : Int32) (z29_v_steps : Int32) (z29_v_trailLength : Int32) (Q : Int32 → (Nat → Int32) → Int32 → Prop) : Prop :=
  vp_in (z29_v_trailLength - 1) 21 ∧ Q z29_v_steps (upd (X1_trail v) (z29_v_trailLength - 1).toNatClampNeg x1) z29_v_trailLength
def wp_X1_go (v : V_X1) (x1 : Int32) (Q : Int32 → (Nat → Int32) → Int32 → Prop) : Prop :=
  ((21 ≤ (X1_trailLength v) → wp_X1_go_29 v x1 ((X1_steps v) + 1) (X1_trailLength v)  Q) ∧
  (¬ 21 ≤ (X1_trailLength v) → wp_X1_go_29 v x1 ((X1_steps v) + 1) ((X1_trailLength v) + 1)  Q))
def q_X1_go (dC : Nat → ClassId) (dI : Nat → Nat → Nat) (cy : Nat → ClassId) (a : Nat → Nat) (v : V_X1) (x1 : Int32) (Q : Int32 → (Nat → Int32) → Int32 → Prop) (A : Nat → Prop) : Array Value → State → Outcome → State → Prop := va_Qv (fun (u : Int32 × (Nat → Int32) × Int32) => Q u.1 u.2.1 u.2.2) (fun (u : Int32 × (Nat → Int32) × Int32) t => xAt dC dI cy A (cX1 cy a (X1_directions v) u.2.1 (X1_planned v) u.2.2 (X1_air v) u.1 (X1_lost v)) t) A
set_option maxHeartbeats 4000000 in
set_option maxRecDepth 100000 in
theorem c_X1_go (l : Launch) (dC : Nat → ClassId) (dI : Nat → Nat → Nat) (cy : Nat → ClassId) (a : Nat → Nat) (sz : Nat) (v : V_X1) (x1 : Int32) (Q : Int32 → (Nat → Int32) → Int32 → Prop) (hq : wp_X1_go v x1 Q) : Met l yX1_go wsX1_go ({ frames := 0, cells := 0, slots := 0, locals := 0 } : Room) (va_Pc [.ref (a 0), .int x1] (xPre dC dI cy (wX1 cy a v) sz)) (q_X1_go dC dI cy a v x1 Q (va_A (wX1 cy a v) sz)) 0 0 (va_A (wX1 cy a v) sz) := by
  refine Met.ofW (cc := cX1_go) (maxL := 2) (ret := none) (by decide) rfl ?_
  intro p e s m args below meth c s₁ B hml hv
  obtain ⟨rfl, hsz, hP, hK, hD0⟩ := hv
  have hx := B.exec
  have hb := B.bytes
  have hr := B.returns
  have hts := atoms_spec (ws := wsX1_go) B.pre
  have hown : s.vm.findClass RX1 = some m.cls := findClass_of_methodNamed B.named
  have hlocks := B.notSynchronized
  subst hsz
  have hD := hD0.self (sz := s.heap.size)
  generalize hAe : va_A (wX1 cy a v) s.heap.size = A at hD ⊢
  have hAe0 : ∀ q : Nat, s.heap.size ≤ q → A q := fun q h => by rw [← hAe]; exact Or.inr h
  have hS : va_S A s.heap s.heap [] := va_S.rf
  have hl := lv_entry ([.ref (a 0), .int x1]) (n := 2) (Nat.le_of_ble_eq_true rfl)
  rw [lg_entry_eq]
  generalize (lg_sl ([.ref (a 0), .int x1]) ++ List.replicate (2 - (lg_sl ([.ref (a 0), .int x1])).length) Slot.unset).toArray = ls at hl ⊢
  have hl : lv_has ls 2 [(0, .ref (a 0)), (1, .int x1)] := hl
  have lk0 := hts (Cond.fieldLink RX1 15 "MolesLawn$Mole" "trail" "[I") (List.mem_cons_of_mem _ (List.mem_append_left _ (List.mem_of_getElem? (i := 2) rfl)))
  have lk1 := hts (Cond.fieldLink RX1 18 "MolesLawn$Mole" "trailLength" "I") (List.mem_cons_of_mem _ (List.mem_append_left _ (List.mem_of_getElem? (i := 1) rfl)))
  have lk2 := hts (Cond.fieldLink RX1 28 "MolesLawn$Mole" "steps" "I") (List.mem_cons_of_mem _ (List.mem_append_left _ (List.mem_of_getElem? (i := 0) rfl)))
  have iK1 : ∀ w ∈ wsX10, w ∈ wsX1_go := fun _ h => (List.mem_cons_of_mem _ (List.mem_append_right _ h))
  unfold wp_X1_go at hq
  have J29 : ∀ (z29_v_steps : Int32) (z29_v_trailLength : Int32) (H : Heap) (locs : List Loc) (ls : Array Slot), wp_X1_go_29 v x1 z29_v_steps z29_v_trailLength Q → va_P (dC, dI) vwCl (cX1 cy a (X1_directions v) (X1_trail v) (X1_planned v) z29_v_trailLength (X1_air v) z29_v_steps (X1_lost v)) H → va_D A (cX1 cy a (X1_directions v) (X1_trail v) (X1_planned v) z29_v_trailLength (X1_air v) z29_v_steps (X1_lost v)) → va_S A s.heap H locs → lv_has ls 2 [(0, .ref (a 0)), (1, .int x1)] → W p l e (headSpec wsX1_go ({ frames := 0, cells := 0, slots := 0, locals := 0 } : Room)).room s m ([.ref (a 0), .int x1] : List Value).toArray below meth c H locs 0 0 (MQ below (q_X1_go dC dI cy a v x1 Q A) ([.ref (a 0), .int x1] : List Value).toArray s 0 0 A) (F0 m 29 ls []) := by
    intro z29_v_steps z29_v_trailLength H locs ls hq hP hD hS hl
    unfold wp_X1_go_29 at hq
    refine lv_aload_n hx hb dX1_go_29 rfl (lv_at hl 0 rfl) ?_
    refine va_get (D := (dC, dI)) (ci := 1) (v := .ref (a 2)) (C := RX1) (T := TX1) (N := 7) hx hb hts iK1 hown hK hP 0 rfl rfl 1 (by decide) lk0 (fun _ h9 => h9) rfl dX1_go_30 ?_
    refine lv_aload_n hx hb dX1_go_33 rfl (lv_at hl 0 rfl) ?_
    refine va_get (D := (dC, dI)) (ci := 1) (v := .int z29_v_trailLength) (C := RX1) (T := TX1) (N := 7) hx hb hts iK1 hown hK hP 0 rfl rfl 3 (by decide) lk1 (fun _ h9 => h9) rfl dX1_go_34 ?_
    refine lv_iconst (v := 1) hx hb dX1_go_37 (by decide) ?_
    refine lv_isub hx hb dX1_go_38 ?_
    refine lv_iload_n hx hb dX1_go_39 rfl (lv_at hl 1 rfl) ?_
    obtain ⟨g1, hq⟩ := hq
    refine va_iast hx hb hK hP hD hS 2 0 rfl rfl g1 dX1_go_40 (fun H locs hP hD hS => ?_)
    have hP : va_P (dC, dI) vwCl (cX1 cy a (X1_directions v) (upd (X1_trail v) (z29_v_trailLength - 1).toNatClampNeg x1) (X1_planned v) z29_v_trailLength (X1_air v) z29_v_steps (X1_lost v)) H := hP
    have hD : va_D A (cX1 cy a (X1_directions v) (upd (X1_trail v) (z29_v_trailLength - 1).toNatClampNeg x1) (X1_planned v) z29_v_trailLength (X1_air v) z29_v_steps (X1_lost v)) := hD
    exact W.vret hx hb hr (fun t ht hW => ⟨⟨(z29_v_steps, (upd (X1_trail v) (z29_v_trailLength - 1).toNatClampNeg x1), z29_v_trailLength), rfl, hq, (xAt_of hP hK hD ht hW)⟩, hS.F ht⟩) hS.2.2 dX1_go_41
  refine lv_aload_n hx hb dX1_go_0 rfl (lv_at hl 0 rfl) ?_
  refine lv_dup hx hb dX1_go_1 rfl ?_
  refine va_get (D := (dC, dI)) (ci := 1) (v := .int (X1_steps v)) (C := RX1) (T := TX1) (N := 7) hx hb hts iK1 hown hK hP 0 rfl rfl 5 (by decide) lk2 (fun _ h9 => h9) rfl dX1_go_2 ?_
  refine lv_iconst (v := 1) hx hb dX1_go_5 (by decide) ?_
  refine lv_iadd hx hb dX1_go_6 ?_
  refine va_put (D := (dC, dI)) (ci := 1) (v := .int ((X1_steps v) + 1)) (ty := .int) (C := RX1) (T := TX1) (N := 7) hx hb hts iK1 tyX1 tyX1_ok nmX1 hown hK hP hD hS 0 rfl rfl 5 (by decide) lk2 (fun _ h9 => h9) rfl (by decide +kernel) rfl rfl (Nat.le_of_ble_eq_true rfl) dX1_go_7 (fun H locs hP hD hS => ?_)
  have hP : va_P (dC, dI) vwCl (cX1 cy a (X1_directions v) (X1_trail v) (X1_planned v) (X1_trailLength v) (X1_air v) ((X1_steps v) + 1) (X1_lost v)) H := hP
  have hD : va_D A (cX1 cy a (X1_directions v) (X1_trail v) (X1_planned v) (X1_trailLength v) (X1_air v) ((X1_steps v) + 1) (X1_lost v)) := hD
  refine lv_aload_n hx hb dX1_go_10 rfl (lv_at hl 0 rfl) ?_
  refine va_get (D := (dC, dI)) (ci := 1) (v := .int (X1_trailLength v)) (C := RX1) (T := TX1) (N := 7) hx hb hts iK1 hown hK hP 0 rfl rfl 3 (by decide) lk1 (fun _ h9 => h9) rfl dX1_go_11 ?_
  refine lv_bipush (v := 21) hx hb dX1_go_14 (by decide) ?_
  obtain ⟨hqA, hqB⟩ := hq
  refine lv_icmp_ge (tgt := 29) hx hb dX1_go_16 (by decide) (fun c2 => ?_) (fun c2 => ?_)
  · have hq := hqA c2
    exact J29 ((X1_steps v) + 1) (X1_trailLength v)  _ _ _ hq hP hD hS (lv_sub hl [0, 1] rfl)
  · have hq := hqB c2
    refine lv_aload_n hx hb dX1_go_19 rfl (lv_at hl 0 rfl) ?_
    refine lv_dup hx hb dX1_go_20 rfl ?_
    refine va_get (D := (dC, dI)) (ci := 1) (v := .int (X1_trailLength v)) (C := RX1) (T := TX1) (N := 7) hx hb hts iK1 hown hK hP 0 rfl rfl 3 (by decide) lk1 (fun _ h9 => h9) rfl dX1_go_21 ?_
    refine lv_iconst (v := 1) hx hb dX1_go_24 (by decide) ?_
    refine lv_iadd hx hb dX1_go_25 ?_
    refine va_put (D := (dC, dI)) (ci := 1) (v := .int ((X1_trailLength v) + 1)) (ty := .int) (C := RX1) (T := TX1) (N := 7) hx hb hts iK1 tyX1 tyX1_ok nmX1 hown hK hP hD hS 0 rfl rfl 3 (by decide) lk1 (fun _ h9 => h9) rfl (by decide +kernel) rfl rfl (Nat.le_of_ble_eq_true rfl) dX1_go_26 (fun H locs hP hD hS => ?_)
    have hP : va_P (dC, dI) vwCl (cX1 cy a (X1_directions v) (X1_trail v) (X1_planned v) ((X1_trailLength v) + 1) (X1_air v) ((X1_steps v) + 1) (X1_lost v)) H := hP
    have hD : va_D A (cX1 cy a (X1_directions v) (X1_trail v) (X1_planned v) ((X1_trailLength v) + 1) (X1_air v) ((X1_steps v) + 1) (X1_lost v)) := hD
    exact J29 ((X1_steps v) + 1) ((X1_trailLength v) + 1)  _ _ _ hq hP hD hS (lv_sub hl [0, 1] rfl)
def wb_X1_firstIndex_2 (v : V_X1) (x1 : Int32)  (y2_2 : Int32) (B2 : Int32 → Prop) (Q : Int32 → Prop) : Prop :=
  (((X1_trailLength v) ≤ y2_2 → Q (-1)) ∧
  (¬ (X1_trailLength v) ≤ y2_2 → vp_in y2_2 21 ∧ ((((X1_trail v) y2_2.toNatClampNeg) = x1 → Q y2_2) ∧
  (¬ ((X1_trail v) y2_2.toNatClampNeg) = x1 → B2 (y2_2 + 1)))))
def wp_X1_firstIndex_2 (v : V_X1) (x1 : Int32)  (y2_2 : Int32) (Q : Int32 → Prop) : Prop :=
  ∃ (I : Int32 → Prop) (μ : Int32 → Nat), I y2_2 ∧ ∀ (s0 : Int32), I s0 → wb_X1_firstIndex_2 v x1  s0 (fun t0 => I t0 ∧ μ t0 < μ s0) Q
def wp_X1_firstIndex (v : V_X1) (x1 : Int32) (Q : Int32 → Prop) : Prop :=
  wp_X1_firstIndex_2 v x1  0 Q
def q_X1_firstIndex (dC : Nat → ClassId) (dI : Nat → Nat → Nat) (cy : Nat → ClassId) (a : Nat → Nat) (v : V_X1) (x1 : Int32) (Q : Int32 → Prop) (A : Nat → Prop) : Array Value → State → Outcome → State → Prop := va_Qi (fun (r : Int32) (u : Unit) => Q r ) (fun (u : Unit) t => xAt dC dI cy A (wX1 cy a v) t) A
set_option maxHeartbeats 4000000 in
set_option maxRecDepth 100000 in
theorem c_X1_firstIndex (l : Launch) (dC : Nat → ClassId) (dI : Nat → Nat → Nat) (cy : Nat → ClassId) (a : Nat → Nat) (sz : Nat) (v : V_X1) (x1 : Int32) (Q : Int32 → Prop) (hq : wp_X1_firstIndex v x1 Q) : Met l yX1_firstIndex wsX1_firstIndex ({ frames := 0, cells := 0, slots := 0, locals := 0 } : Room) (va_Pc [.ref (a 0), .int x1] (xPre dC dI cy (wX1 cy a v) sz)) (q_X1_firstIndex dC dI cy a v x1 Q (va_A (wX1 cy a v) sz)) 0 0 (va_A (wX1 cy a v) sz) := by
  refine Met.ofW (cc := cX1_firstIndex) (maxL := 3) (ret := (some .int)) (by decide) rfl ?_
  intro p e s m args below meth c s₁ B hml hv
  obtain ⟨rfl, hsz, hP, hK, hD0⟩ := hv
  have hx := B.exec
  have hb := B.bytes
  have hr := B.returns
  have hts := atoms_spec (ws := wsX1_firstIndex) B.pre
  have hown : s.vm.findClass RX1 = some m.cls := findClass_of_methodNamed B.named
  have hlocks := B.notSynchronized
  subst hsz
  have hD := hD0.self (sz := s.heap.size)
  generalize hAe : va_A (wX1 cy a v) s.heap.size = A at hD ⊢
  have hAe0 : ∀ q : Nat, s.heap.size ≤ q → A q := fun q h => by rw [← hAe]; exact Or.inr h
  have hS : va_S A s.heap s.heap [] := va_S.rf
  have hl := lv_entry ([.ref (a 0), .int x1]) (n := 3) (Nat.le_of_ble_eq_true rfl)
  rw [lg_entry_eq]
  generalize (lg_sl ([.ref (a 0), .int x1]) ++ List.replicate (3 - (lg_sl ([.ref (a 0), .int x1])).length) Slot.unset).toArray = ls at hl ⊢
  have hl : lv_has ls 3 [(0, .ref (a 0)), (1, .int x1)] := hl
  have lk0 := hts (Cond.fieldLink RX1 18 "MolesLawn$Mole" "trailLength" "I") (List.mem_cons_of_mem _ (List.mem_append_left _ (List.mem_of_getElem? (i := 0) rfl)))
  have lk1 := hts (Cond.fieldLink RX1 15 "MolesLawn$Mole" "trail" "[I") (List.mem_cons_of_mem _ (List.mem_append_left _ (List.mem_of_getElem? (i := 1) rfl)))
  have iK1 : ∀ w ∈ wsX10, w ∈ wsX1_firstIndex := fun _ h => (List.mem_cons_of_mem _ (List.mem_append_right _ h))
  unfold wp_X1_firstIndex at hq
  have J2 : ∀  (y2_2 : Int32) (H : Heap) (locs : List Loc) (ls : Array Slot), wp_X1_firstIndex_2 v x1  y2_2 Q → va_P (dC, dI) vwCl (wX1 cy a v) H → va_D A (wX1 cy a v) → va_S A s.heap H locs → lv_has ls 3 [(0, .ref (a 0)), (1, .int x1), (2, .int y2_2)] → W p l e (headSpec wsX1_firstIndex ({ frames := 0, cells := 0, slots := 0, locals := 0 } : Room)).room s m ([.ref (a 0), .int x1] : List Value).toArray below meth c H locs 0 0 (MQ below (q_X1_firstIndex dC dI cy a v x1 Q A) ([.ref (a 0), .int x1] : List Value).toArray s 0 0 A) (F0 m 2 ls []) := by
    intro  y2_2 H locs ls hq hP hD hS hl
    obtain ⟨I2, μ2, h0, hs2⟩ := hq
    have key : ∀ (n : Nat) (y2_2 : Int32) (H : Heap) (locs : List Loc) (ls : Array Slot), I2 y2_2 → μ2 y2_2 < n → va_P (dC, dI) vwCl (wX1 cy a v) H → va_D A (wX1 cy a v) → va_S A s.heap H locs → lv_has ls 3 [(0, .ref (a 0)), (1, .int x1), (2, .int y2_2)] → W p l e (headSpec wsX1_firstIndex ({ frames := 0, cells := 0, slots := 0, locals := 0 } : Room)).room s m ([.ref (a 0), .int x1] : List Value).toArray below meth c H locs 0 0 (MQ below (q_X1_firstIndex dC dI cy a v x1 Q A) ([.ref (a 0), .int x1] : List Value).toArray s 0 0 A) (F0 m 2 ls []) := by
      intro n
      induction n with
      | zero => intro y2_2 H locs ls _ hm; exact absurd hm (Nat.not_lt_zero _)
      | succ n ih =>
        intro y2_2 H locs ls hI hm hP hD hS hl
        have hq := hs2 y2_2 hI
        generalize hB2 : (fun (t0 : Int32) => I2 t0 ∧ μ2 t0 < μ2 y2_2) = B2 at hq
        have bk2 : ∀ (y2_2 : Int32) (H : Heap) (locs : List Loc) (ls : Array Slot), B2 y2_2 → va_P (dC, dI) vwCl (wX1 cy a v) H → va_D A (wX1 cy a v) → va_S A s.heap H locs → lv_has ls 3 [(0, .ref (a 0)), (1, .int x1), (2, .int y2_2)] → W p l e (headSpec wsX1_firstIndex ({ frames := 0, cells := 0, slots := 0, locals := 0 } : Room)).room s m ([.ref (a 0), .int x1] : List Value).toArray below meth c H locs 0 0 (MQ below (q_X1_firstIndex dC dI cy a v x1 Q A) ([.ref (a 0), .int x1] : List Value).toArray s 0 0 A) (F0 m 2 ls []) := by
          intro y2_2 H locs ls h
          rw [← hB2] at h
          exact ih y2_2 H locs ls h.1 (Nat.lt_of_lt_of_le h.2 (Nat.le_of_lt_succ hm))
        unfold wb_X1_firstIndex_2 at hq
        refine lv_iload_n hx hb dX1_firstIndex_2 rfl (lv_at hl 2 rfl) ?_
        refine lv_aload_n hx hb dX1_firstIndex_3 rfl (lv_at hl 0 rfl) ?_
        refine va_get (D := (dC, dI)) (ci := 1) (v := .int (X1_trailLength v)) (C := RX1) (T := TX1) (N := 7) hx hb hts iK1 hown hK hP 0 rfl rfl 3 (by decide) lk0 (fun _ h9 => h9) rfl dX1_firstIndex_4 ?_
        obtain ⟨hqA, hqB⟩ := hq
        refine lv_icmp_ge (tgt := 28) hx hb dX1_firstIndex_7 (by decide) (fun c3 => ?_) (fun c3 => ?_)
        · have hq := hqA c3
          refine lv_iconst (v := (-1)) hx hb dX1_firstIndex_28 (by decide) ?_
          exact W.iret (v := (-1)) hx hb hr (fun t ht hW => ⟨⟨(-1), (), rfl, hq, (xAt_of hP hK hD ht hW)⟩, hS.F ht⟩) hS.2.2 dX1_firstIndex_29
        · have hq := hqB c3
          refine lv_aload_n hx hb dX1_firstIndex_10 rfl (lv_at hl 0 rfl) ?_
          refine va_get (D := (dC, dI)) (ci := 1) (v := .ref (a 2)) (C := RX1) (T := TX1) (N := 7) hx hb hts iK1 hown hK hP 0 rfl rfl 1 (by decide) lk1 (fun _ h9 => h9) rfl dX1_firstIndex_11 ?_
          refine lv_iload_n hx hb dX1_firstIndex_14 rfl (lv_at hl 2 rfl) ?_
          obtain ⟨g1, hq⟩ := hq
          refine va_iald hx hb hK hP 2 0 rfl rfl g1 dX1_firstIndex_15 ?_
          refine lv_iload_n hx hb dX1_firstIndex_16 rfl (lv_at hl 1 rfl) ?_
          obtain ⟨hqA, hqB⟩ := hq
          refine lv_icmp_ne (tgt := 22) hx hb dX1_firstIndex_17 (by decide) (fun c2 => ?_) (fun c2 => ?_)
          · have hq := hqB c2
            refine lv_iinc (v := (y2_2 + 1)) (lv' := [(2, .int (y2_2 + 1)), (0, .ref (a 0)), (1, .int x1)]) hx hb dX1_firstIndex_22 hl (k := 2) rfl rfl (by decide) rfl (fun ls hl => ?_)
            refine lv_goto (tgt := 2) hx hb dX1_firstIndex_25 (by decide) ?_
            exact bk2 (y2_2 + 1) _ _ _ hq hP hD hS (lv_sub hl [1, 2, 0] rfl)
          · have hq := hqA c2
            refine lv_iload_n hx hb dX1_firstIndex_20 rfl (lv_at hl 2 rfl) ?_
            exact W.iret (v := y2_2) hx hb hr (fun t ht hW => ⟨⟨y2_2, (), rfl, hq, (xAt_of hP hK hD ht hW)⟩, hS.F ht⟩) hS.2.2 dX1_firstIndex_21
    exact key _ y2_2 H locs ls h0 (Nat.lt_succ_self _) hP hD hS hl
  refine lv_iconst (v := 0) hx hb dX1_firstIndex_0 (by decide) ?_
  refine lv_istore_n (lv' := [(2, .int 0), (0, .ref (a 0)), (1, .int x1)]) hx hb dX1_firstIndex_1 rfl hl (by decide) rfl (fun ls hl => ?_)
  exact J2  0 _ _ _ hq hP hD hS (lv_sub hl [1, 2, 0] rfl)
def wb_X1_dropBeforeLast_39 (v : V_X1) (x1 : Int32) (y39_2 : Int32) (z39_v_trailLength : Int32) (y39_3 : Int32) (z39_v_trail : (Nat → Int32)) (B39 : Int32 → (Nat → Int32) → Prop) (Q : (Nat → Int32) → Int32 → Prop) : Prop :=
  ((z39_v_trailLength ≤ y39_3 → Q z39_v_trail z39_v_trailLength) ∧
  (¬ z39_v_trailLength ≤ y39_3 → vp_in (y39_3 + y39_2) 21 ∧ vp_in y39_3 21 ∧ B39 (y39_3 + 1) (upd z39_v_trail y39_3.toNatClampNeg (z39_v_trail (y39_3 + y39_2).toNatClampNeg))))
def wp_X1_dropBeforeLast_39 (v : V_X1) (x1 : Int32) (y39_2 : Int32) (z39_v_trailLength : Int32) (y39_3 : Int32) (z39_v_trail : (Nat → Int32)) (Q : (Nat → Int32) → Int32 → Prop) : Prop :=
  ∃ (I : Int32 → (Nat → Int32) → Prop) (μ : Int32 → (Nat → Int32) → Nat), I y39_3 z39_v_trail ∧ ∀ (s0 : Int32) (s1 : (Nat → Int32)), I s0 s1 → wb_X1_dropBeforeLast_39 v x1 y39_2 z39_v_trailLength s0 s1 (fun t0 t1 => I t0 t1 ∧ μ t0 t1 < μ s0 s1) Q
def wp_X1_dropBeforeLast_27 (v : V_X1) (x1 : Int32) (y27_2 : Int32) (Q : (Nat → Int32) → Int32 → Prop) : Prop :=
  wp_X1_dropBeforeLast_39 v x1 y27_2 ((X1_trailLength v) - y27_2) 0 (X1_trail v) Q
def wb_X1_dropBeforeLast_7 (v : V_X1) (x1 : Int32)  (y7_2 : Int32) (B7 : Int32 → Prop) (Q : (Nat → Int32) → Int32 → Prop) : Prop :=
  ((y7_2 ≤ 0 → wp_X1_dropBeforeLast_27 v x1 y7_2  Q) ∧
  (¬ y7_2 ≤ 0 → vp_in y7_2 21 ∧ ((((X1_trail v) y7_2.toNatClampNeg) = x1 → wp_X1_dropBeforeLast_27 v x1 y7_2  Q) ∧
  (¬ ((X1_trail v) y7_2.toNatClampNeg) = x1 → B7 (y7_2 + (-1))))))
def wp_X1_dropBeforeLast_7 (v : V_X1) (x1 : Int32)  (y7_2 : Int32) (Q : (Nat → Int32) → Int32 → Prop) : Prop :=
  ∃ (I : Int32 → Prop) (μ : Int32 → Nat), I y7_2 ∧ ∀ (s0 : Int32), I s0 → wb_X1_dropBeforeLast_7 v x1  s0 (fun t0 => I t0 ∧ μ t0 < μ s0) Q
def wp_X1_dropBeforeLast (v : V_X1) (x1 : Int32) (Q : (Nat → Int32) → Int32 → Prop) : Prop :=
  wp_X1_dropBeforeLast_7 v x1  ((X1_trailLength v) - 1) Q
def q_X1_dropBeforeLast (dC : Nat → ClassId) (dI : Nat → Nat → Nat) (cy : Nat → ClassId) (a : Nat → Nat) (v : V_X1) (x1 : Int32) (Q : (Nat → Int32) → Int32 → Prop) (A : Nat → Prop) : Array Value → State → Outcome → State → Prop := va_Qv (fun (u : (Nat → Int32) × Int32) => Q u.1 u.2) (fun (u : (Nat → Int32) × Int32) t => xAt dC dI cy A (cX1 cy a (X1_directions v) u.1 (X1_planned v) u.2 (X1_air v) (X1_steps v) (X1_lost v)) t) A
set_option maxHeartbeats 4000000 in
set_option maxRecDepth 100000 in
theorem c_X1_dropBeforeLast (l : Launch) (dC : Nat → ClassId) (dI : Nat → Nat → Nat) (cy : Nat → ClassId) (a : Nat → Nat) (sz : Nat) (v : V_X1) (x1 : Int32) (Q : (Nat → Int32) → Int32 → Prop) (hq : wp_X1_dropBeforeLast v x1 Q) : Met l yX1_dropBeforeLast wsX1_dropBeforeLast ({ frames := 0, cells := 0, slots := 0, locals := 0 } : Room) (va_Pc [.ref (a 0), .int x1] (xPre dC dI cy (wX1 cy a v) sz)) (q_X1_dropBeforeLast dC dI cy a v x1 Q (va_A (wX1 cy a v) sz)) 0 0 (va_A (wX1 cy a v) sz) := by
  refine Met.ofW (cc := cX1_dropBeforeLast) (maxL := 4) (ret := none) (by decide) rfl ?_
  intro p e s m args below meth c s₁ B hml hv
  obtain ⟨rfl, hsz, hP, hK, hD0⟩ := hv
  have hx := B.exec
  have hb := B.bytes
  have hr := B.returns
  have hts := atoms_spec (ws := wsX1_dropBeforeLast) B.pre
  have hown : s.vm.findClass RX1 = some m.cls := findClass_of_methodNamed B.named
  have hlocks := B.notSynchronized
  subst hsz
  have hD := hD0.self (sz := s.heap.size)
  generalize hAe : va_A (wX1 cy a v) s.heap.size = A at hD ⊢
  have hAe0 : ∀ q : Nat, s.heap.size ≤ q → A q := fun q h => by rw [← hAe]; exact Or.inr h
  have hS : va_S A s.heap s.heap [] := va_S.rf
  have hl := lv_entry ([.ref (a 0), .int x1]) (n := 4) (Nat.le_of_ble_eq_true rfl)
  rw [lg_entry_eq]
  generalize (lg_sl ([.ref (a 0), .int x1]) ++ List.replicate (4 - (lg_sl ([.ref (a 0), .int x1])).length) Slot.unset).toArray = ls at hl ⊢
  have hl : lv_has ls 4 [(0, .ref (a 0)), (1, .int x1)] := hl
  have lk0 := hts (Cond.fieldLink RX1 18 "MolesLawn$Mole" "trailLength" "I") (List.mem_cons_of_mem _ (List.mem_append_left _ (List.mem_of_getElem? (i := 0) rfl)))
  have lk1 := hts (Cond.fieldLink RX1 15 "MolesLawn$Mole" "trail" "[I") (List.mem_cons_of_mem _ (List.mem_append_left _ (List.mem_of_getElem? (i := 1) rfl)))
  have iK1 : ∀ w ∈ wsX10, w ∈ wsX1_dropBeforeLast := fun _ h => (List.mem_cons_of_mem _ (List.mem_append_right _ h))
  unfold wp_X1_dropBeforeLast at hq
  have J39 : ∀ (y39_2 : Int32) (z39_v_trailLength : Int32) (y39_3 : Int32) (z39_v_trail : (Nat → Int32)) (H : Heap) (locs : List Loc) (ls : Array Slot), wp_X1_dropBeforeLast_39 v x1 y39_2 z39_v_trailLength y39_3 z39_v_trail Q → va_P (dC, dI) vwCl (cX1 cy a (X1_directions v) z39_v_trail (X1_planned v) z39_v_trailLength (X1_air v) (X1_steps v) (X1_lost v)) H → va_D A (cX1 cy a (X1_directions v) z39_v_trail (X1_planned v) z39_v_trailLength (X1_air v) (X1_steps v) (X1_lost v)) → va_S A s.heap H locs → lv_has ls 4 [(0, .ref (a 0)), (2, .int y39_2), (3, .int y39_3)] → W p l e (headSpec wsX1_dropBeforeLast ({ frames := 0, cells := 0, slots := 0, locals := 0 } : Room)).room s m ([.ref (a 0), .int x1] : List Value).toArray below meth c H locs 0 0 (MQ below (q_X1_dropBeforeLast dC dI cy a v x1 Q A) ([.ref (a 0), .int x1] : List Value).toArray s 0 0 A) (F0 m 39 ls []) := by
    intro y39_2 z39_v_trailLength y39_3 z39_v_trail H locs ls hq hP hD hS hl
    obtain ⟨I39, μ39, h0, hs39⟩ := hq
    have key : ∀ (n : Nat) (y39_3 : Int32) (z39_v_trail : (Nat → Int32)) (H : Heap) (locs : List Loc) (ls : Array Slot), I39 y39_3 z39_v_trail → μ39 y39_3 z39_v_trail < n → va_P (dC, dI) vwCl (cX1 cy a (X1_directions v) z39_v_trail (X1_planned v) z39_v_trailLength (X1_air v) (X1_steps v) (X1_lost v)) H → va_D A (cX1 cy a (X1_directions v) z39_v_trail (X1_planned v) z39_v_trailLength (X1_air v) (X1_steps v) (X1_lost v)) → va_S A s.heap H locs → lv_has ls 4 [(0, .ref (a 0)), (2, .int y39_2), (3, .int y39_3)] → W p l e (headSpec wsX1_dropBeforeLast ({ frames := 0, cells := 0, slots := 0, locals := 0 } : Room)).room s m ([.ref (a 0), .int x1] : List Value).toArray below meth c H locs 0 0 (MQ below (q_X1_dropBeforeLast dC dI cy a v x1 Q A) ([.ref (a 0), .int x1] : List Value).toArray s 0 0 A) (F0 m 39 ls []) := by
      intro n
      induction n with
      | zero => intro y39_3 z39_v_trail H locs ls _ hm; exact absurd hm (Nat.not_lt_zero _)
      | succ n ih =>
        intro y39_3 z39_v_trail H locs ls hI hm hP hD hS hl
        have hq := hs39 y39_3 z39_v_trail hI
        generalize hB39 : (fun (t0 : Int32) (t1 : (Nat → Int32)) => I39 t0 t1 ∧ μ39 t0 t1 < μ39 y39_3 z39_v_trail) = B39 at hq
        have bk39 : ∀ (y39_3 : Int32) (z39_v_trail : (Nat → Int32)) (H : Heap) (locs : List Loc) (ls : Array Slot), B39 y39_3 z39_v_trail → va_P (dC, dI) vwCl (cX1 cy a (X1_directions v) z39_v_trail (X1_planned v) z39_v_trailLength (X1_air v) (X1_steps v) (X1_lost v)) H → va_D A (cX1 cy a (X1_directions v) z39_v_trail (X1_planned v) z39_v_trailLength (X1_air v) (X1_steps v) (X1_lost v)) → va_S A s.heap H locs → lv_has ls 4 [(0, .ref (a 0)), (2, .int y39_2), (3, .int y39_3)] → W p l e (headSpec wsX1_dropBeforeLast ({ frames := 0, cells := 0, slots := 0, locals := 0 } : Room)).room s m ([.ref (a 0), .int x1] : List Value).toArray below meth c H locs 0 0 (MQ below (q_X1_dropBeforeLast dC dI cy a v x1 Q A) ([.ref (a 0), .int x1] : List Value).toArray s 0 0 A) (F0 m 39 ls []) := by
          intro y39_3 z39_v_trail H locs ls h
          rw [← hB39] at h
          exact ih y39_3 z39_v_trail H locs ls h.1 (Nat.lt_of_lt_of_le h.2 (Nat.le_of_lt_succ hm))
        unfold wb_X1_dropBeforeLast_39 at hq
        refine lv_iload_n hx hb dX1_dropBeforeLast_39 rfl (lv_at hl 2 rfl) ?_
        refine lv_aload_n hx hb dX1_dropBeforeLast_40 rfl (lv_at hl 0 rfl) ?_
        refine va_get (D := (dC, dI)) (ci := 1) (v := .int z39_v_trailLength) (C := RX1) (T := TX1) (N := 7) hx hb hts iK1 hown hK hP 0 rfl rfl 3 (by decide) lk0 (fun _ h9 => h9) rfl dX1_dropBeforeLast_41 ?_
        obtain ⟨hqA, hqB⟩ := hq
        refine lv_icmp_ge (tgt := 67) hx hb dX1_dropBeforeLast_44 (by decide) (fun c3 => ?_) (fun c3 => ?_)
        · have hq := hqA c3
          exact W.vret hx hb hr (fun t ht hW => ⟨⟨(z39_v_trail, z39_v_trailLength), rfl, hq, (xAt_of hP hK hD ht hW)⟩, hS.F ht⟩) hS.2.2 dX1_dropBeforeLast_67
        · have hq := hqB c3
          refine lv_aload_n hx hb dX1_dropBeforeLast_47 rfl (lv_at hl 0 rfl) ?_
          refine va_get (D := (dC, dI)) (ci := 1) (v := .ref (a 2)) (C := RX1) (T := TX1) (N := 7) hx hb hts iK1 hown hK hP 0 rfl rfl 1 (by decide) lk1 (fun _ h9 => h9) rfl dX1_dropBeforeLast_48 ?_
          refine lv_iload_n hx hb dX1_dropBeforeLast_51 rfl (lv_at hl 2 rfl) ?_
          refine lv_aload_n hx hb dX1_dropBeforeLast_52 rfl (lv_at hl 0 rfl) ?_
          refine va_get (D := (dC, dI)) (ci := 1) (v := .ref (a 2)) (C := RX1) (T := TX1) (N := 7) hx hb hts iK1 hown hK hP 0 rfl rfl 1 (by decide) lk1 (fun _ h9 => h9) rfl dX1_dropBeforeLast_53 ?_
          refine lv_iload_n hx hb dX1_dropBeforeLast_56 rfl (lv_at hl 2 rfl) ?_
          refine lv_iload_n hx hb dX1_dropBeforeLast_57 rfl (lv_at hl 1 rfl) ?_
          refine lv_iadd hx hb dX1_dropBeforeLast_58 ?_
          obtain ⟨g1, hq⟩ := hq
          refine va_iald hx hb hK hP 2 0 rfl rfl g1 dX1_dropBeforeLast_59 ?_
          obtain ⟨g2, hq⟩ := hq
          refine va_iast hx hb hK hP hD hS 2 0 rfl rfl g2 dX1_dropBeforeLast_60 (fun H locs hP hD hS => ?_)
          have hP : va_P (dC, dI) vwCl (cX1 cy a (X1_directions v) (upd z39_v_trail y39_3.toNatClampNeg (z39_v_trail (y39_3 + y39_2).toNatClampNeg)) (X1_planned v) z39_v_trailLength (X1_air v) (X1_steps v) (X1_lost v)) H := hP
          have hD : va_D A (cX1 cy a (X1_directions v) (upd z39_v_trail y39_3.toNatClampNeg (z39_v_trail (y39_3 + y39_2).toNatClampNeg)) (X1_planned v) z39_v_trailLength (X1_air v) (X1_steps v) (X1_lost v)) := hD
          refine lv_iinc (v := (y39_3 + 1)) (lv' := [(3, .int (y39_3 + 1)), (0, .ref (a 0)), (2, .int y39_2)]) hx hb dX1_dropBeforeLast_61 hl (k := 2) rfl rfl (by decide) rfl (fun ls hl => ?_)
          refine lv_goto (tgt := 39) hx hb dX1_dropBeforeLast_64 (by decide) ?_
          exact bk39 (y39_3 + 1) (upd z39_v_trail y39_3.toNatClampNeg (z39_v_trail (y39_3 + y39_2).toNatClampNeg)) _ _ _ hq hP hD hS (lv_sub hl [1, 2, 0] rfl)
    exact key _ y39_3 z39_v_trail H locs ls h0 (Nat.lt_succ_self _) hP hD hS hl
  have J27 : ∀ (y27_2 : Int32) (H : Heap) (locs : List Loc) (ls : Array Slot), wp_X1_dropBeforeLast_27 v x1 y27_2 Q → va_P (dC, dI) vwCl (wX1 cy a v) H → va_D A (wX1 cy a v) → va_S A s.heap H locs → lv_has ls 4 [(0, .ref (a 0)), (2, .int y27_2)] → W p l e (headSpec wsX1_dropBeforeLast ({ frames := 0, cells := 0, slots := 0, locals := 0 } : Room)).room s m ([.ref (a 0), .int x1] : List Value).toArray below meth c H locs 0 0 (MQ below (q_X1_dropBeforeLast dC dI cy a v x1 Q A) ([.ref (a 0), .int x1] : List Value).toArray s 0 0 A) (F0 m 27 ls []) := by
    intro y27_2 H locs ls hq hP hD hS hl
    unfold wp_X1_dropBeforeLast_27 at hq
    refine lv_aload_n hx hb dX1_dropBeforeLast_27 rfl (lv_at hl 0 rfl) ?_
    refine lv_dup hx hb dX1_dropBeforeLast_28 rfl ?_
    refine va_get (D := (dC, dI)) (ci := 1) (v := .int (X1_trailLength v)) (C := RX1) (T := TX1) (N := 7) hx hb hts iK1 hown hK hP 0 rfl rfl 3 (by decide) lk0 (fun _ h9 => h9) rfl dX1_dropBeforeLast_29 ?_
    refine lv_iload_n hx hb dX1_dropBeforeLast_32 rfl (lv_at hl 1 rfl) ?_
    refine lv_isub hx hb dX1_dropBeforeLast_33 ?_
    refine va_put (D := (dC, dI)) (ci := 1) (v := .int ((X1_trailLength v) - y27_2)) (ty := .int) (C := RX1) (T := TX1) (N := 7) hx hb hts iK1 tyX1 tyX1_ok nmX1 hown hK hP hD hS 0 rfl rfl 3 (by decide) lk0 (fun _ h9 => h9) rfl (by decide +kernel) rfl rfl (Nat.le_of_ble_eq_true rfl) dX1_dropBeforeLast_34 (fun H locs hP hD hS => ?_)
    have hP : va_P (dC, dI) vwCl (cX1 cy a (X1_directions v) (X1_trail v) (X1_planned v) ((X1_trailLength v) - y27_2) (X1_air v) (X1_steps v) (X1_lost v)) H := hP
    have hD : va_D A (cX1 cy a (X1_directions v) (X1_trail v) (X1_planned v) ((X1_trailLength v) - y27_2) (X1_air v) (X1_steps v) (X1_lost v)) := hD
    refine lv_iconst (v := 0) hx hb dX1_dropBeforeLast_37 (by decide) ?_
    refine lv_istore_n (lv' := [(3, .int 0), (0, .ref (a 0)), (2, .int y27_2)]) hx hb dX1_dropBeforeLast_38 rfl hl (by decide) rfl (fun ls hl => ?_)
    exact J39 y27_2 ((X1_trailLength v) - y27_2) 0 (X1_trail v) _ _ _ hq hP hD hS (lv_sub hl [1, 2, 0] rfl)
  have J7 : ∀  (y7_2 : Int32) (H : Heap) (locs : List Loc) (ls : Array Slot), wp_X1_dropBeforeLast_7 v x1  y7_2 Q → va_P (dC, dI) vwCl (wX1 cy a v) H → va_D A (wX1 cy a v) → va_S A s.heap H locs → lv_has ls 4 [(0, .ref (a 0)), (1, .int x1), (2, .int y7_2)] → W p l e (headSpec wsX1_dropBeforeLast ({ frames := 0, cells := 0, slots := 0, locals := 0 } : Room)).room s m ([.ref (a 0), .int x1] : List Value).toArray below meth c H locs 0 0 (MQ below (q_X1_dropBeforeLast dC dI cy a v x1 Q A) ([.ref (a 0), .int x1] : List Value).toArray s 0 0 A) (F0 m 7 ls []) := by
    intro  y7_2 H locs ls hq hP hD hS hl
    obtain ⟨I7, μ7, h0, hs7⟩ := hq
    have key : ∀ (n : Nat) (y7_2 : Int32) (H : Heap) (locs : List Loc) (ls : Array Slot), I7 y7_2 → μ7 y7_2 < n → va_P (dC, dI) vwCl (wX1 cy a v) H → va_D A (wX1 cy a v) → va_S A s.heap H locs → lv_has ls 4 [(0, .ref (a 0)), (1, .int x1), (2, .int y7_2)] → W p l e (headSpec wsX1_dropBeforeLast ({ frames := 0, cells := 0, slots := 0, locals := 0 } : Room)).room s m ([.ref (a 0), .int x1] : List Value).toArray below meth c H locs 0 0 (MQ below (q_X1_dropBeforeLast dC dI cy a v x1 Q A) ([.ref (a 0), .int x1] : List Value).toArray s 0 0 A) (F0 m 7 ls []) := by
      intro n
      induction n with
      | zero => intro y7_2 H locs ls _ hm; exact absurd hm (Nat.not_lt_zero _)
      | succ n ih =>
        intro y7_2 H locs ls hI hm hP hD hS hl
        have hq := hs7 y7_2 hI
        generalize hB7 : (fun (t0 : Int32) => I7 t0 ∧ μ7 t0 < μ7 y7_2) = B7 at hq
        have bk7 : ∀ (y7_2 : Int32) (H : Heap) (locs : List Loc) (ls : Array Slot), B7 y7_2 → va_P (dC, dI) vwCl (wX1 cy a v) H → va_D A (wX1 cy a v) → va_S A s.heap H locs → lv_has ls 4 [(0, .ref (a 0)), (1, .int x1), (2, .int y7_2)] → W p l e (headSpec wsX1_dropBeforeLast ({ frames := 0, cells := 0, slots := 0, locals := 0 } : Room)).room s m ([.ref (a 0), .int x1] : List Value).toArray below meth c H locs 0 0 (MQ below (q_X1_dropBeforeLast dC dI cy a v x1 Q A) ([.ref (a 0), .int x1] : List Value).toArray s 0 0 A) (F0 m 7 ls []) := by
          intro y7_2 H locs ls h
          rw [← hB7] at h
          exact ih y7_2 H locs ls h.1 (Nat.lt_of_lt_of_le h.2 (Nat.le_of_lt_succ hm))
        unfold wb_X1_dropBeforeLast_7 at hq
        refine lv_iload_n hx hb dX1_dropBeforeLast_7 rfl (lv_at hl 2 rfl) ?_
        obtain ⟨hqA, hqB⟩ := hq
        refine lv_if_le (tgt := 27) hx hb dX1_dropBeforeLast_8 (by decide) (fun c6 => ?_) (fun c6 => ?_)
        · have hq := hqA c6
          exact J27 y7_2  _ _ _ hq hP hD hS (lv_sub hl [0, 2] rfl)
        · have hq := hqB c6
          refine lv_aload_n hx hb dX1_dropBeforeLast_11 rfl (lv_at hl 0 rfl) ?_
          refine va_get (D := (dC, dI)) (ci := 1) (v := .ref (a 2)) (C := RX1) (T := TX1) (N := 7) hx hb hts iK1 hown hK hP 0 rfl rfl 1 (by decide) lk1 (fun _ h9 => h9) rfl dX1_dropBeforeLast_12 ?_
          refine lv_iload_n hx hb dX1_dropBeforeLast_15 rfl (lv_at hl 2 rfl) ?_
          obtain ⟨g4, hq⟩ := hq
          refine va_iald hx hb hK hP 2 0 rfl rfl g4 dX1_dropBeforeLast_16 ?_
          refine lv_iload_n hx hb dX1_dropBeforeLast_17 rfl (lv_at hl 1 rfl) ?_
          obtain ⟨hqA, hqB⟩ := hq
          refine lv_icmp_eq (tgt := 27) hx hb dX1_dropBeforeLast_18 (by decide) (fun c5 => ?_) (fun c5 => ?_)
          · have hq := hqA c5
            exact J27 y7_2  _ _ _ hq hP hD hS (lv_sub hl [0, 2] rfl)
          · have hq := hqB c5
            refine lv_iinc (v := (y7_2 + (-1))) (lv' := [(2, .int (y7_2 + (-1))), (0, .ref (a 0)), (1, .int x1)]) hx hb dX1_dropBeforeLast_21 hl (k := 2) rfl rfl (by decide) rfl (fun ls hl => ?_)
            refine lv_goto (tgt := 7) hx hb dX1_dropBeforeLast_24 (by decide) ?_
            exact bk7 (y7_2 + (-1)) _ _ _ hq hP hD hS (lv_sub hl [1, 2, 0] rfl)
    exact key _ y7_2 H locs ls h0 (Nat.lt_succ_self _) hP hD hS hl
  refine lv_aload_n hx hb dX1_dropBeforeLast_0 rfl (lv_at hl 0 rfl) ?_
  refine va_get (D := (dC, dI)) (ci := 1) (v := .int (X1_trailLength v)) (C := RX1) (T := TX1) (N := 7) hx hb hts iK1 hown hK hP 0 rfl rfl 3 (by decide) lk0 (fun _ h9 => h9) rfl dX1_dropBeforeLast_1 ?_
  refine lv_iconst (v := 1) hx hb dX1_dropBeforeLast_4 (by decide) ?_
  refine lv_isub hx hb dX1_dropBeforeLast_5 ?_
  refine lv_istore_n (lv' := [(2, .int ((X1_trailLength v) - 1)), (0, .ref (a 0)), (1, .int x1)]) hx hb dX1_dropBeforeLast_6 rfl hl (by decide) rfl (fun ls hl => ?_)
  exact J7  ((X1_trailLength v) - 1) _ _ _ hq hP hD hS (lv_sub hl [1, 2, 0] rfl)
def wp_X3_empty (v : V_X3) (Q : Int32 → Int32 → Prop) : Prop :=
  Q 0 0
def q_X3_empty (dC : Nat → ClassId) (dI : Nat → Nat → Nat) (cy : Nat → ClassId) (a : Nat → Nat) (v : V_X3) (Q : Int32 → Int32 → Prop) (A : Nat → Prop) : Array Value → State → Outcome → State → Prop := va_Qv (fun (u : Int32 × Int32) => Q u.1 u.2) (fun (u : Int32 × Int32) t => xAt dC dI cy A (cX3 cy a (X3_cells v) (X3_ends v) u.2 u.1) t) A
set_option maxHeartbeats 4000000 in
set_option maxRecDepth 100000 in
theorem c_X3_empty (l : Launch) (dC : Nat → ClassId) (dI : Nat → Nat → Nat) (cy : Nat → ClassId) (a : Nat → Nat) (sz : Nat) (v : V_X3) (Q : Int32 → Int32 → Prop) (hq : wp_X3_empty v Q) : Met l yX3_empty wsX3_empty ({ frames := 0, cells := 0, slots := 0, locals := 0 } : Room) (va_Pc [.ref (a 0)] (xPre dC dI cy (wX3 cy a v) sz)) (q_X3_empty dC dI cy a v Q (va_A (wX3 cy a v) sz)) 0 0 (va_A (wX3 cy a v) sz) := by
  refine Met.ofW (cc := cX3_empty) (maxL := 1) (ret := none) (by decide) rfl ?_
  intro p e s m args below meth c s₁ B hml hv
  obtain ⟨rfl, hsz, hP, hK, hD0⟩ := hv
  have hx := B.exec
  have hb := B.bytes
  have hr := B.returns
  have hts := atoms_spec (ws := wsX3_empty) B.pre
  have hown : s.vm.findClass RX3 = some m.cls := findClass_of_methodNamed B.named
  have hlocks := B.notSynchronized
  subst hsz
  have hD := hD0.self (sz := s.heap.size)
  generalize hAe : va_A (wX3 cy a v) s.heap.size = A at hD ⊢
  have hAe0 : ∀ q : Nat, s.heap.size ≤ q → A q := fun q h => by rw [← hAe]; exact Or.inr h
  have hS : va_S A s.heap s.heap [] := va_S.rf
  have hl := lv_entry ([.ref (a 0)]) (n := 1) (Nat.le_of_ble_eq_true rfl)
  rw [lg_entry_eq]
  generalize (lg_sl ([.ref (a 0)]) ++ List.replicate (1 - (lg_sl ([.ref (a 0)])).length) Slot.unset).toArray = ls at hl ⊢
  have hl : lv_has ls 1 [(0, .ref (a 0))] := hl
  have lk0 := hts (Cond.fieldLink RX3 18 "MolesLawn$Rows" "used" "I") (List.mem_cons_of_mem _ (List.mem_append_left _ (List.mem_of_getElem? (i := 0) rfl)))
  have lk1 := hts (Cond.fieldLink RX3 22 "MolesLawn$Rows" "size" "I") (List.mem_cons_of_mem _ (List.mem_append_left _ (List.mem_of_getElem? (i := 1) rfl)))
  have iK3 : ∀ w ∈ wsX30, w ∈ wsX3_empty := fun _ h => (List.mem_cons_of_mem _ (List.mem_append_right _ h))
  unfold wp_X3_empty at hq
  refine lv_aload_n hx hb dX3_empty_0 rfl (lv_at hl 0 rfl) ?_
  refine lv_iconst (v := 0) hx hb dX3_empty_1 (by decide) ?_
  refine va_put (D := (dC, dI)) (ci := 3) (v := .int 0) (ty := .int) (C := RX3) (T := TX3) (N := 4) hx hb hts iK3 tyX3 tyX3_ok nmX3 hown hK hP hD hS 0 rfl rfl 2 (by decide) lk0 (fun _ h9 => h9) rfl (by decide +kernel) rfl rfl (Nat.le_of_ble_eq_true rfl) dX3_empty_2 (fun H locs hP hD hS => ?_)
  have hP : va_P (dC, dI) vwCl (cX3 cy a (X3_cells v) (X3_ends v) 0 (X3_size v)) H := hP
  have hD : va_D A (cX3 cy a (X3_cells v) (X3_ends v) 0 (X3_size v)) := hD
  refine lv_aload_n hx hb dX3_empty_5 rfl (lv_at hl 0 rfl) ?_
  refine lv_iconst (v := 0) hx hb dX3_empty_6 (by decide) ?_
  refine va_put (D := (dC, dI)) (ci := 3) (v := .int 0) (ty := .int) (C := RX3) (T := TX3) (N := 4) hx hb hts iK3 tyX3 tyX3_ok nmX3 hown hK hP hD hS 0 rfl rfl 3 (by decide) lk1 (fun _ h9 => h9) rfl (by decide +kernel) rfl rfl (Nat.le_of_ble_eq_true rfl) dX3_empty_7 (fun H locs hP hD hS => ?_)
  have hP : va_P (dC, dI) vwCl (cX3 cy a (X3_cells v) (X3_ends v) 0 0) H := hP
  have hD : va_D A (cX3 cy a (X3_cells v) (X3_ends v) 0 0) := hD
  exact W.vret hx hb hr (fun t ht hW => ⟨⟨(0, 0), rfl, hq, (xAt_of hP hK hD ht hW)⟩, hS.F ht⟩) hS.2.2 dX3_empty_10
def wp_X3_copyFrom (v : V_X3) (w : V_X3) (Q : (Nat → Int32) → (Nat → Int32) → Int32 → Int32 → Prop) : Prop :=
  ¬ (X3_used w) < 0 ∧ (0 : Int32).toNatClampNeg + (X3_used w).toNatClampNeg ≤ 1024 ∧ ¬ (X3_size w) < 0 ∧ (0 : Int32).toNatClampNeg + (X3_size w).toNatClampNeg ≤ 512 ∧ Q (va_cpy (X3_cells w) (X3_cells v) (0 : Int32).toNatClampNeg (0 : Int32).toNatClampNeg (X3_used w).toNatClampNeg) (va_cpy (X3_ends w) (X3_ends v) (0 : Int32).toNatClampNeg (0 : Int32).toNatClampNeg (X3_size w).toNatClampNeg) (X3_size w) (X3_used w)
def q_X3_copyFrom (dC : Nat → ClassId) (dI : Nat → Nat → Nat) (cy : Nat → ClassId) (a d : Nat → Nat) (v : V_X3) (w : V_X3) (Q : (Nat → Int32) → (Nat → Int32) → Int32 → Int32 → Prop) (A : Nat → Prop) : Array Value → State → Outcome → State → Prop := va_Qv (fun (u : (Nat → Int32) × (Nat → Int32) × Int32 × Int32) => Q u.1 u.2.1 u.2.2.1 u.2.2.2) (fun (u : (Nat → Int32) × (Nat → Int32) × Int32 × Int32) t => xAt dC dI cy A (cX3 cy a u.1 u.2.1 u.2.2.2 u.2.2.1 ++ wX3 cy d w) t) A
set_option maxHeartbeats 4000000 in
set_option maxRecDepth 100000 in
theorem c_X3_copyFrom (l : Launch) (dC : Nat → ClassId) (dI : Nat → Nat → Nat) (cy : Nat → ClassId) (a d : Nat → Nat) (sz : Nat) (v : V_X3) (w : V_X3) (Q : (Nat → Int32) → (Nat → Int32) → Int32 → Int32 → Prop) (hq : wp_X3_copyFrom v w Q) : Met l yX3_copyFrom wsX3_copyFrom ({ frames := 1, cells := 0, slots := 0, locals := 26 } : Room) (va_Pc [.ref (a 0), .ref (d 0)] (xPre dC dI cy (wX3 cy a v ++ wX3 cy d w) sz)) (q_X3_copyFrom dC dI cy a d v w Q (va_A (wX3 cy a v ++ wX3 cy d w) sz)) 0 0 (va_A (wX3 cy a v ++ wX3 cy d w) sz) := by
  refine Met.ofW (cc := cX3_copyFrom) (maxL := 2) (ret := none) (by decide) rfl ?_
  intro p e s m args below meth c s₁ B hml hv
  obtain ⟨rfl, hsz, hP, hK, hD0⟩ := hv
  have hx := B.exec
  have hb := B.bytes
  have hr := B.returns
  have hts := atoms_spec (ws := wsX3_copyFrom) B.pre
  have hown : s.vm.findClass RX3 = some m.cls := findClass_of_methodNamed B.named
  have hlocks := B.notSynchronized
  subst hsz
  have hD := hD0.self (sz := s.heap.size)
  generalize hAe : va_A (wX3 cy a v ++ wX3 cy d w) s.heap.size = A at hD ⊢
  have hAe0 : ∀ q : Nat, s.heap.size ≤ q → A q := fun q h => by rw [← hAe]; exact Or.inr h
  have hS : va_S A s.heap s.heap [] := va_S.rf
  have hl := lv_entry ([.ref (a 0), .ref (d 0)]) (n := 2) (Nat.le_of_ble_eq_true rfl)
  rw [lg_entry_eq]
  generalize (lg_sl ([.ref (a 0), .ref (d 0)]) ++ List.replicate (2 - (lg_sl ([.ref (a 0), .ref (d 0)])).length) Slot.unset).toArray = ls at hl ⊢
  have hl : lv_has ls 2 [(0, .ref (a 0)), (1, .ref (d 0))] := hl
  have lk0 := hts (Cond.fieldLink RX3 18 "MolesLawn$Rows" "used" "I") (List.mem_cons_of_mem _ (List.mem_append_left _ (List.mem_of_getElem? (i := 0) rfl)))
  have lk1 := hts (Cond.fieldLink RX3 22 "MolesLawn$Rows" "size" "I") (List.mem_cons_of_mem _ (List.mem_append_left _ (List.mem_of_getElem? (i := 1) rfl)))
  have lk2 := hts (Cond.fieldLink RX3 9 "MolesLawn$Rows" "cells" "[I") (List.mem_cons_of_mem _ (List.mem_append_left _ (List.mem_of_getElem? (i := 2) rfl)))
  have lk3 := hts (Cond.methodLink RX3 25 arraycopyName) (List.mem_cons_of_mem _ (List.mem_append_left _ (List.mem_of_getElem? (i := 3) rfl)))
  have lk4 := hts (Cond.native arraycopyName) (List.mem_cons_of_mem _ (List.mem_append_left _ (List.mem_of_getElem? (i := 4) rfl)))
  have lk5 := hts (Cond.static arraycopyName) (List.mem_cons_of_mem _ (List.mem_append_left _ (List.mem_of_getElem? (i := 5) rfl)))
  have lk6 := hts (Cond.initialized "java/lang/System") (List.mem_cons_of_mem _ (List.mem_append_left _ (List.mem_of_getElem? (i := 6) rfl)))
  have lk7 := hts (Cond.fieldLink RX3 15 "MolesLawn$Rows" "ends" "[I") (List.mem_cons_of_mem _ (List.mem_append_left _ (List.mem_of_getElem? (i := 7) rfl)))
  have iK3 : ∀ w ∈ wsX30, w ∈ wsX3_copyFrom := fun _ h => (List.mem_cons_of_mem _ (List.mem_append_right _ h))
  unfold wp_X3_copyFrom at hq
  refine lv_aload_n hx hb dX3_copyFrom_0 rfl (lv_at hl 0 rfl) ?_
  refine lv_aload_n hx hb dX3_copyFrom_1 rfl (lv_at hl 1 rfl) ?_
  refine va_get (D := (dC, dI)) (ci := 3) (v := .int (X3_used w)) (C := RX3) (T := TX3) (N := 4) hx hb hts iK3 hown hK hP 3 rfl rfl 2 (by decide) lk0 (fun _ h9 => h9) rfl dX3_copyFrom_2 ?_
  refine va_put (D := (dC, dI)) (ci := 3) (v := .int (X3_used w)) (ty := .int) (C := RX3) (T := TX3) (N := 4) hx hb hts iK3 tyX3 tyX3_ok nmX3 hown hK hP hD hS 0 rfl rfl 2 (by decide) lk0 (fun _ h9 => h9) rfl (by decide +kernel) rfl rfl (Nat.le_of_ble_eq_true rfl) dX3_copyFrom_5 (fun H locs hP hD hS => ?_)
  have hP : va_P (dC, dI) vwCl (cX3 cy a (X3_cells v) (X3_ends v) (X3_used w) (X3_size v) ++ wX3 cy d w) H := hP
  have hD : va_D A (cX3 cy a (X3_cells v) (X3_ends v) (X3_used w) (X3_size v) ++ wX3 cy d w) := hD
  refine lv_aload_n hx hb dX3_copyFrom_8 rfl (lv_at hl 0 rfl) ?_
  refine lv_aload_n hx hb dX3_copyFrom_9 rfl (lv_at hl 1 rfl) ?_
  refine va_get (D := (dC, dI)) (ci := 3) (v := .int (X3_size w)) (C := RX3) (T := TX3) (N := 4) hx hb hts iK3 hown hK hP 3 rfl rfl 3 (by decide) lk1 (fun _ h9 => h9) rfl dX3_copyFrom_10 ?_
  refine va_put (D := (dC, dI)) (ci := 3) (v := .int (X3_size w)) (ty := .int) (C := RX3) (T := TX3) (N := 4) hx hb hts iK3 tyX3 tyX3_ok nmX3 hown hK hP hD hS 0 rfl rfl 3 (by decide) lk1 (fun _ h9 => h9) rfl (by decide +kernel) rfl rfl (Nat.le_of_ble_eq_true rfl) dX3_copyFrom_13 (fun H locs hP hD hS => ?_)
  have hP : va_P (dC, dI) vwCl (cX3 cy a (X3_cells v) (X3_ends v) (X3_used w) (X3_size w) ++ wX3 cy d w) H := hP
  have hD : va_D A (cX3 cy a (X3_cells v) (X3_ends v) (X3_used w) (X3_size w) ++ wX3 cy d w) := hD
  refine lv_aload_n hx hb dX3_copyFrom_16 rfl (lv_at hl 1 rfl) ?_
  refine va_get (D := (dC, dI)) (ci := 3) (v := .ref (d 1)) (C := RX3) (T := TX3) (N := 4) hx hb hts iK3 hown hK hP 3 rfl rfl 0 (by decide) lk2 (fun _ h9 => h9) rfl dX3_copyFrom_17 ?_
  refine lv_iconst (v := 0) hx hb dX3_copyFrom_20 (by decide) ?_
  refine lv_aload_n hx hb dX3_copyFrom_21 rfl (lv_at hl 0 rfl) ?_
  refine va_get (D := (dC, dI)) (ci := 3) (v := .ref (a 1)) (C := RX3) (T := TX3) (N := 4) hx hb hts iK3 hown hK hP 0 rfl rfl 0 (by decide) lk2 (fun _ h9 => h9) rfl dX3_copyFrom_22 ?_
  refine lv_iconst (v := 0) hx hb dX3_copyFrom_25 (by decide) ?_
  refine lv_aload_n hx hb dX3_copyFrom_26 rfl (lv_at hl 0 rfl) ?_
  refine va_get (D := (dC, dI)) (ci := 3) (v := .int (X3_used w)) (C := RX3) (T := TX3) (N := 4) hx hb hts iK3 hown hK hP 0 rfl rfl 2 (by decide) lk0 (fun _ h9 => h9) rfl dX3_copyFrom_27 ?_
  obtain ⟨g1, hq⟩ := hq
  obtain ⟨g2, hq⟩ := hq
  refine va_copyi hx hb (hml.trans hl.1.symm) hown lk3 lk4 lk5 lk6 hK hP hD hS 4 1 0 0 rfl rfl rfl rfl rfl (by decide) (by decide) g1 g2 g2 (fun _ _ => rfl) (Nat.le_of_ble_eq_true rfl) (by decide +kernel) dX3_copyFrom_30 (fun H locs hP hD hS => ?_)
  have hP : va_P (dC, dI) vwCl (cX3 cy a (va_cpy (X3_cells w) (X3_cells v) (0 : Int32).toNatClampNeg (0 : Int32).toNatClampNeg (X3_used w).toNatClampNeg) (X3_ends v) (X3_used w) (X3_size w) ++ wX3 cy d w) H := hP
  have hD : va_D A (cX3 cy a (va_cpy (X3_cells w) (X3_cells v) (0 : Int32).toNatClampNeg (0 : Int32).toNatClampNeg (X3_used w).toNatClampNeg) (X3_ends v) (X3_used w) (X3_size w) ++ wX3 cy d w) := hD
  refine lv_aload_n hx hb dX3_copyFrom_33 rfl (lv_at hl 1 rfl) ?_
  refine va_get (D := (dC, dI)) (ci := 3) (v := .ref (d 2)) (C := RX3) (T := TX3) (N := 4) hx hb hts iK3 hown hK hP 3 rfl rfl 1 (by decide) lk7 (fun _ h9 => h9) rfl dX3_copyFrom_34 ?_
  refine lv_iconst (v := 0) hx hb dX3_copyFrom_37 (by decide) ?_
  refine lv_aload_n hx hb dX3_copyFrom_38 rfl (lv_at hl 0 rfl) ?_
  refine va_get (D := (dC, dI)) (ci := 3) (v := .ref (a 2)) (C := RX3) (T := TX3) (N := 4) hx hb hts iK3 hown hK hP 0 rfl rfl 1 (by decide) lk7 (fun _ h9 => h9) rfl dX3_copyFrom_39 ?_
  refine lv_iconst (v := 0) hx hb dX3_copyFrom_42 (by decide) ?_
  refine lv_aload_n hx hb dX3_copyFrom_43 rfl (lv_at hl 0 rfl) ?_
  refine va_get (D := (dC, dI)) (ci := 3) (v := .int (X3_size w)) (C := RX3) (T := TX3) (N := 4) hx hb hts iK3 hown hK hP 0 rfl rfl 3 (by decide) lk1 (fun _ h9 => h9) rfl dX3_copyFrom_44 ?_
  obtain ⟨g3, hq⟩ := hq
  obtain ⟨g4, hq⟩ := hq
  refine va_copyi hx hb (hml.trans hl.1.symm) hown lk3 lk4 lk5 lk6 hK hP hD hS 5 2 0 0 rfl rfl rfl rfl rfl (by decide) (by decide) g3 g4 g4 (fun _ _ => rfl) (Nat.le_of_ble_eq_true rfl) (by decide +kernel) dX3_copyFrom_47 (fun H locs hP hD hS => ?_)
  have hP : va_P (dC, dI) vwCl (cX3 cy a (va_cpy (X3_cells w) (X3_cells v) (0 : Int32).toNatClampNeg (0 : Int32).toNatClampNeg (X3_used w).toNatClampNeg) (va_cpy (X3_ends w) (X3_ends v) (0 : Int32).toNatClampNeg (0 : Int32).toNatClampNeg (X3_size w).toNatClampNeg) (X3_used w) (X3_size w) ++ wX3 cy d w) H := hP
  have hD : va_D A (cX3 cy a (va_cpy (X3_cells w) (X3_cells v) (0 : Int32).toNatClampNeg (0 : Int32).toNatClampNeg (X3_used w).toNatClampNeg) (va_cpy (X3_ends w) (X3_ends v) (0 : Int32).toNatClampNeg (0 : Int32).toNatClampNeg (X3_size w).toNatClampNeg) (X3_used w) (X3_size w) ++ wX3 cy d w) := hD
  exact W.vret hx hb hr (fun t ht hW => ⟨⟨((va_cpy (X3_cells w) (X3_cells v) (0 : Int32).toNatClampNeg (0 : Int32).toNatClampNeg (X3_used w).toNatClampNeg), (va_cpy (X3_ends w) (X3_ends v) (0 : Int32).toNatClampNeg (0 : Int32).toNatClampNeg (X3_size w).toNatClampNeg), (X3_size w), (X3_used w)), rfl, hq, (xAt_of hP hK hD ht hW)⟩, hS.F ht⟩) hS.2.2 dX3_copyFrom_50
def wp_X3_from (v : V_X3) (x1 : Int32) (Q : Int32 → Prop) : Prop :=
  ((x1 ≤ 0 → Q 0) ∧
  (¬ x1 ≤ 0 → (((X3_size v) < x1 → Q 0) ∧
  (¬ (X3_size v) < x1 → vp_in (x1 - 1) 512 ∧ Q ((X3_ends v) (x1 - 1).toNatClampNeg)))))
def q_X3_from (dC : Nat → ClassId) (dI : Nat → Nat → Nat) (cy : Nat → ClassId) (a : Nat → Nat) (v : V_X3) (x1 : Int32) (Q : Int32 → Prop) (A : Nat → Prop) : Array Value → State → Outcome → State → Prop := va_Qi (fun (r : Int32) (u : Unit) => Q r ) (fun (u : Unit) t => xAt dC dI cy A (wX3 cy a v) t) A
set_option maxHeartbeats 4000000 in
set_option maxRecDepth 100000 in
theorem c_X3_from (l : Launch) (dC : Nat → ClassId) (dI : Nat → Nat → Nat) (cy : Nat → ClassId) (a : Nat → Nat) (sz : Nat) (v : V_X3) (x1 : Int32) (Q : Int32 → Prop) (hq : wp_X3_from v x1 Q) : Met l yX3_from wsX3_from ({ frames := 0, cells := 0, slots := 0, locals := 0 } : Room) (va_Pc [.ref (a 0), .int x1] (xPre dC dI cy (wX3 cy a v) sz)) (q_X3_from dC dI cy a v x1 Q (va_A (wX3 cy a v) sz)) 0 0 (va_A (wX3 cy a v) sz) := by
  refine Met.ofW (cc := cX3_from) (maxL := 2) (ret := (some .int)) (by decide) rfl ?_
  intro p e s m args below meth c s₁ B hml hv
  obtain ⟨rfl, hsz, hP, hK, hD0⟩ := hv
  have hx := B.exec
  have hb := B.bytes
  have hr := B.returns
  have hts := atoms_spec (ws := wsX3_from) B.pre
  have hown : s.vm.findClass RX3 = some m.cls := findClass_of_methodNamed B.named
  have hlocks := B.notSynchronized
  subst hsz
  have hD := hD0.self (sz := s.heap.size)
  generalize hAe : va_A (wX3 cy a v) s.heap.size = A at hD ⊢
  have hAe0 : ∀ q : Nat, s.heap.size ≤ q → A q := fun q h => by rw [← hAe]; exact Or.inr h
  have hS : va_S A s.heap s.heap [] := va_S.rf
  have hl := lv_entry ([.ref (a 0), .int x1]) (n := 2) (Nat.le_of_ble_eq_true rfl)
  rw [lg_entry_eq]
  generalize (lg_sl ([.ref (a 0), .int x1]) ++ List.replicate (2 - (lg_sl ([.ref (a 0), .int x1])).length) Slot.unset).toArray = ls at hl ⊢
  have hl : lv_has ls 2 [(0, .ref (a 0)), (1, .int x1)] := hl
  have lk0 := hts (Cond.fieldLink RX3 22 "MolesLawn$Rows" "size" "I") (List.mem_cons_of_mem _ (List.mem_append_left _ (List.mem_of_getElem? (i := 0) rfl)))
  have lk1 := hts (Cond.fieldLink RX3 15 "MolesLawn$Rows" "ends" "[I") (List.mem_cons_of_mem _ (List.mem_append_left _ (List.mem_of_getElem? (i := 1) rfl)))
  have iK3 : ∀ w ∈ wsX30, w ∈ wsX3_from := fun _ h => (List.mem_cons_of_mem _ (List.mem_append_right _ h))
  unfold wp_X3_from at hq
  refine lv_iload_n hx hb dX3_from_0 rfl (lv_at hl 1 rfl) ?_
  obtain ⟨hqA, hqB⟩ := hq
  refine lv_if_le (tgt := 23) hx hb dX3_from_1 (by decide) (fun c3 => ?_) (fun c3 => ?_)
  · have hq := hqA c3
    refine lv_iconst (v := 0) hx hb dX3_from_23 (by decide) ?_
    exact W.iret (v := 0) hx hb hr (fun t ht hW => ⟨⟨0, (), rfl, hq, (xAt_of hP hK hD ht hW)⟩, hS.F ht⟩) hS.2.2 dX3_from_24
  · have hq := hqB c3
    refine lv_iload_n hx hb dX3_from_4 rfl (lv_at hl 1 rfl) ?_
    refine lv_aload_n hx hb dX3_from_5 rfl (lv_at hl 0 rfl) ?_
    refine va_get (D := (dC, dI)) (ci := 3) (v := .int (X3_size v)) (C := RX3) (T := TX3) (N := 4) hx hb hts iK3 hown hK hP 0 rfl rfl 3 (by decide) lk0 (fun _ h9 => h9) rfl dX3_from_6 ?_
    obtain ⟨hqA, hqB⟩ := hq
    refine lv_icmp_gt (tgt := 23) hx hb dX3_from_9 (by decide) (fun c2 => ?_) (fun c2 => ?_)
    · have hq := hqA c2
      refine lv_iconst (v := 0) hx hb dX3_from_23 (by decide) ?_
      exact W.iret (v := 0) hx hb hr (fun t ht hW => ⟨⟨0, (), rfl, hq, (xAt_of hP hK hD ht hW)⟩, hS.F ht⟩) hS.2.2 dX3_from_24
    · have hq := hqB c2
      refine lv_aload_n hx hb dX3_from_12 rfl (lv_at hl 0 rfl) ?_
      refine va_get (D := (dC, dI)) (ci := 3) (v := .ref (a 2)) (C := RX3) (T := TX3) (N := 4) hx hb hts iK3 hown hK hP 0 rfl rfl 1 (by decide) lk1 (fun _ h9 => h9) rfl dX3_from_13 ?_
      refine lv_iload_n hx hb dX3_from_16 rfl (lv_at hl 1 rfl) ?_
      refine lv_iconst (v := 1) hx hb dX3_from_17 (by decide) ?_
      refine lv_isub hx hb dX3_from_18 ?_
      obtain ⟨g1, hq⟩ := hq
      refine va_iald hx hb hK hP 2 0 rfl rfl g1 dX3_from_19 ?_
      refine lv_goto (tgt := 24) hx hb dX3_from_20 (by decide) ?_
      exact W.iret (v := ((X3_ends v) (x1 - 1).toNatClampNeg)) hx hb hr (fun t ht hW => ⟨⟨((X3_ends v) (x1 - 1).toNatClampNeg), (), rfl, hq, (xAt_of hP hK hD ht hW)⟩, hS.F ht⟩) hS.2.2 dX3_from_24
def wp_X3_to (v : V_X3) (x1 : Int32) (Q : Int32 → Prop) : Prop :=
  ((x1 < 0 → Q 0) ∧
  (¬ x1 < 0 → (((X3_size v) ≤ x1 → Q 0) ∧
  (¬ (X3_size v) ≤ x1 → vp_in x1 512 ∧ Q ((X3_ends v) x1.toNatClampNeg)))))
def q_X3_to (dC : Nat → ClassId) (dI : Nat → Nat → Nat) (cy : Nat → ClassId) (a : Nat → Nat) (v : V_X3) (x1 : Int32) (Q : Int32 → Prop) (A : Nat → Prop) : Array Value → State → Outcome → State → Prop := va_Qi (fun (r : Int32) (u : Unit) => Q r ) (fun (u : Unit) t => xAt dC dI cy A (wX3 cy a v) t) A
set_option maxHeartbeats 4000000 in
set_option maxRecDepth 100000 in
theorem c_X3_to (l : Launch) (dC : Nat → ClassId) (dI : Nat → Nat → Nat) (cy : Nat → ClassId) (a : Nat → Nat) (sz : Nat) (v : V_X3) (x1 : Int32) (Q : Int32 → Prop) (hq : wp_X3_to v x1 Q) : Met l yX3_to wsX3_to ({ frames := 0, cells := 0, slots := 0, locals := 0 } : Room) (va_Pc [.ref (a 0), .int x1] (xPre dC dI cy (wX3 cy a v) sz)) (q_X3_to dC dI cy a v x1 Q (va_A (wX3 cy a v) sz)) 0 0 (va_A (wX3 cy a v) sz) := by
  refine Met.ofW (cc := cX3_to) (maxL := 2) (ret := (some .int)) (by decide) rfl ?_
  intro p e s m args below meth c s₁ B hml hv
  obtain ⟨rfl, hsz, hP, hK, hD0⟩ := hv
  have hx := B.exec
  have hb := B.bytes
  have hr := B.returns
  have hts := atoms_spec (ws := wsX3_to) B.pre
  have hown : s.vm.findClass RX3 = some m.cls := findClass_of_methodNamed B.named
  have hlocks := B.notSynchronized
  subst hsz
  have hD := hD0.self (sz := s.heap.size)
  generalize hAe : va_A (wX3 cy a v) s.heap.size = A at hD ⊢
  have hAe0 : ∀ q : Nat, s.heap.size ≤ q → A q := fun q h => by rw [← hAe]; exact Or.inr h
  have hS : va_S A s.heap s.heap [] := va_S.rf
  have hl := lv_entry ([.ref (a 0), .int x1]) (n := 2) (Nat.le_of_ble_eq_true rfl)
  rw [lg_entry_eq]
  generalize (lg_sl ([.ref (a 0), .int x1]) ++ List.replicate (2 - (lg_sl ([.ref (a 0), .int x1])).length) Slot.unset).toArray = ls at hl ⊢
  have hl : lv_has ls 2 [(0, .ref (a 0)), (1, .int x1)] := hl
  have lk0 := hts (Cond.fieldLink RX3 22 "MolesLawn$Rows" "size" "I") (List.mem_cons_of_mem _ (List.mem_append_left _ (List.mem_of_getElem? (i := 0) rfl)))
  have lk1 := hts (Cond.fieldLink RX3 15 "MolesLawn$Rows" "ends" "[I") (List.mem_cons_of_mem _ (List.mem_append_left _ (List.mem_of_getElem? (i := 1) rfl)))
  have iK3 : ∀ w ∈ wsX30, w ∈ wsX3_to := fun _ h => (List.mem_cons_of_mem _ (List.mem_append_right _ h))
  unfold wp_X3_to at hq
  refine lv_iload_n hx hb dX3_to_0 rfl (lv_at hl 1 rfl) ?_
  obtain ⟨hqA, hqB⟩ := hq
  refine lv_if_lt (tgt := 21) hx hb dX3_to_1 (by decide) (fun c3 => ?_) (fun c3 => ?_)
  · have hq := hqA c3
    refine lv_iconst (v := 0) hx hb dX3_to_21 (by decide) ?_
    exact W.iret (v := 0) hx hb hr (fun t ht hW => ⟨⟨0, (), rfl, hq, (xAt_of hP hK hD ht hW)⟩, hS.F ht⟩) hS.2.2 dX3_to_22
  · have hq := hqB c3
    refine lv_iload_n hx hb dX3_to_4 rfl (lv_at hl 1 rfl) ?_
    refine lv_aload_n hx hb dX3_to_5 rfl (lv_at hl 0 rfl) ?_
    refine va_get (D := (dC, dI)) (ci := 3) (v := .int (X3_size v)) (C := RX3) (T := TX3) (N := 4) hx hb hts iK3 hown hK hP 0 rfl rfl 3 (by decide) lk0 (fun _ h9 => h9) rfl dX3_to_6 ?_
    obtain ⟨hqA, hqB⟩ := hq
    refine lv_icmp_ge (tgt := 21) hx hb dX3_to_9 (by decide) (fun c2 => ?_) (fun c2 => ?_)
    · have hq := hqA c2
      refine lv_iconst (v := 0) hx hb dX3_to_21 (by decide) ?_
      exact W.iret (v := 0) hx hb hr (fun t ht hW => ⟨⟨0, (), rfl, hq, (xAt_of hP hK hD ht hW)⟩, hS.F ht⟩) hS.2.2 dX3_to_22
    · have hq := hqB c2
      refine lv_aload_n hx hb dX3_to_12 rfl (lv_at hl 0 rfl) ?_
      refine va_get (D := (dC, dI)) (ci := 3) (v := .ref (a 2)) (C := RX3) (T := TX3) (N := 4) hx hb hts iK3 hown hK hP 0 rfl rfl 1 (by decide) lk1 (fun _ h9 => h9) rfl dX3_to_13 ?_
      refine lv_iload_n hx hb dX3_to_16 rfl (lv_at hl 1 rfl) ?_
      obtain ⟨g1, hq⟩ := hq
      refine va_iald hx hb hK hP 2 0 rfl rfl g1 dX3_to_17 ?_
      refine lv_goto (tgt := 22) hx hb dX3_to_18 (by decide) ?_
      exact W.iret (v := ((X3_ends v) x1.toNatClampNeg)) hx hb hr (fun t ht hW => ⟨⟨((X3_ends v) x1.toNatClampNeg), (), rfl, hq, (xAt_of hP hK hD ht hW)⟩, hS.F ht⟩) hS.2.2 dX3_to_22
def wp_X3_at (v : V_X3) (x1 : Int32) (x2 : Int32) (Q : Int32 → Prop) : Prop :=
  ((x2 < 0 → Q (-1)) ∧
  (¬ x2 < 0 → wp_X3_to v x1 (fun r7 =>
  wp_X3_from v x1 (fun r12 =>
  (((r7 - r12) ≤ x2 → Q (-1)) ∧
  (¬ (r7 - r12) ≤ x2 → wp_X3_from v x1 (fun r25 =>
  vp_in (r25 + x2) 1024 ∧ Q ((X3_cells v) (r25 + x2).toNatClampNeg))))))))
def q_X3_at (dC : Nat → ClassId) (dI : Nat → Nat → Nat) (cy : Nat → ClassId) (a : Nat → Nat) (v : V_X3) (x1 : Int32) (x2 : Int32) (Q : Int32 → Prop) (A : Nat → Prop) : Array Value → State → Outcome → State → Prop := va_Qi (fun (r : Int32) (u : Unit) => Q r ) (fun (u : Unit) t => xAt dC dI cy A (wX3 cy a v) t) A
set_option maxHeartbeats 4000000 in
set_option maxRecDepth 100000 in
theorem c_X3_at (l : Launch) (dC : Nat → ClassId) (dI : Nat → Nat → Nat) (cy : Nat → ClassId) (a : Nat → Nat) (sz : Nat) (v : V_X3) (x1 : Int32) (x2 : Int32) (Q : Int32 → Prop) (hq : wp_X3_at v x1 x2 Q) : Met l yX3_at wsX3_at ({ frames := 1, cells := 0, slots := 0, locals := 21 } : Room) (va_Pc [.ref (a 0), .int x1, .int x2] (xPre dC dI cy (wX3 cy a v) sz)) (q_X3_at dC dI cy a v x1 x2 Q (va_A (wX3 cy a v) sz)) 0 0 (va_A (wX3 cy a v) sz) := by
  refine Met.ofW (cc := cX3_at) (maxL := 3) (ret := (some .int)) (by decide) rfl ?_
  intro p e s m args below meth c s₁ B hml hv
  obtain ⟨rfl, hsz, hP, hK, hD0⟩ := hv
  have hx := B.exec
  have hb := B.bytes
  have hr := B.returns
  have hts := atoms_spec (ws := wsX3_at) B.pre
  have hown : s.vm.findClass RX3 = some m.cls := findClass_of_methodNamed B.named
  have hlocks := B.notSynchronized
  subst hsz
  have hD := hD0.self (sz := s.heap.size)
  generalize hAe : va_A (wX3 cy a v) s.heap.size = A at hD ⊢
  have hAe0 : ∀ q : Nat, s.heap.size ≤ q → A q := fun q h => by rw [← hAe]; exact Or.inr h
  have hS : va_S A s.heap s.heap [] := va_S.rf
  have hl := lv_entry ([.ref (a 0), .int x1, .int x2]) (n := 3) (Nat.le_of_ble_eq_true rfl)
  rw [lg_entry_eq]
  generalize (lg_sl ([.ref (a 0), .int x1, .int x2]) ++ List.replicate (3 - (lg_sl ([.ref (a 0), .int x1, .int x2])).length) Slot.unset).toArray = ls at hl ⊢
  have hl : lv_has ls 3 [(0, .ref (a 0)), (1, .int x1), (2, .int x2)] := hl
  have lk0 := hts (Cond.fieldLink RX3 9 "MolesLawn$Rows" "cells" "[I") (List.mem_cons_of_mem _ (List.mem_append_left _ (List.mem_of_getElem? (i := 0) rfl)))
  have iK3 : ∀ w ∈ wsX30, w ∈ wsX3_at := fun _ h => (List.mem_cons_of_mem _ (List.mem_append_right _ h))
  unfold wp_X3_at at hq
  refine lv_iload_n hx hb dX3_at_0 rfl (lv_at hl 2 rfl) ?_
  obtain ⟨hqA, hqB⟩ := hq
  refine lv_if_lt (tgt := 34) hx hb dX3_at_1 (by decide) (fun c3 => ?_) (fun c3 => ?_)
  · have hq := hqA c3
    refine lv_iconst (v := (-1)) hx hb dX3_at_34 (by decide) ?_
    exact W.iret (v := (-1)) hx hb hr (fun t ht hW => ⟨⟨(-1), (), rfl, hq, (xAt_of hP hK hD ht hW)⟩, hS.F ht⟩) hS.2.2 dX3_at_35
  · have hq := hqB c3
    refine lv_iload_n hx hb dX3_at_4 rfl (lv_at hl 2 rfl) ?_
    refine lv_aload_n hx hb dX3_at_5 rfl (lv_at hl 0 rfl) ?_
    refine lv_iload_n hx hb dX3_at_6 rfl (lv_at hl 1 rfl) ?_
    have hFc := xfree_same hS hAe0 (ws := (wX3 cy a v)) hD
    refine va_calli (va_runV (As := [.int x1]) (rest := [.int x2]) ⟨hx, hb, hml, hown, hts⟩ (c_X3_to l dC dI cy a _ v x1 _ hq) (cwV 1 hts gX3_at_X3_to rfl rfl rfl (by decide +kernel) ⟨Nat.le_of_ble_eq_true rfl, Nat.le_of_ble_eq_true rfl⟩) ⟨xPre_blind, va_recv hK hP (ci := 3) (q0 := 0) rfl rfl, xPre_of hP hK hD⟩ rfl rfl hl.1 rfl (lv_room (Nat.le_of_ble_eq_true rfl)) dX3_at_7 ⟨Nat.le_of_ble_eq_true rfl, Nat.le_of_ble_eq_true rfl⟩) hS (fun q _ h => hFc q h) hFc (fun r7 u9 t H locs ht hvm hq hB hz1 hk1 hS => ?_)
    obtain ⟨hP1, -, hD1⟩ := hB
    rw [ht] at hP1
    have hP : va_P (dC, dI) vwCl (wX3 cy a v) H := hP1
    have hD : va_D A (wX3 cy a v) := hD1.weaken (fun _ q _ h => hFc q.1 h)
    refine lv_aload_n hx hb dX3_at_10 rfl (lv_at hl 0 rfl) ?_
    refine lv_iload_n hx hb dX3_at_11 rfl (lv_at hl 1 rfl) ?_
    have hFc := xfree_same hS hAe0 (ws := (wX3 cy a v)) hD
    refine va_calli (va_runV (As := [.int x1]) (rest := [.int r7, .int x2]) ⟨hx, hb, hml, hown, hts⟩ (c_X3_from l dC dI cy a _ v x1 _ hq) (cwV 1 hts gX3_at_X3_from rfl rfl rfl (by decide +kernel) ⟨Nat.le_of_ble_eq_true rfl, Nat.le_of_ble_eq_true rfl⟩) ⟨xPre_blind, va_recv hK hP (ci := 3) (q0 := 0) rfl rfl, xPre_of hP hK hD⟩ rfl rfl hl.1 rfl (lv_room (Nat.le_of_ble_eq_true rfl)) dX3_at_12 ⟨Nat.le_of_ble_eq_true rfl, Nat.le_of_ble_eq_true rfl⟩) hS (fun q _ h => hFc q h) hFc (fun r12 u9 t H locs ht hvm hq hB hz1 hk1 hS => ?_)
    obtain ⟨hP1, -, hD1⟩ := hB
    rw [ht] at hP1
    have hP : va_P (dC, dI) vwCl (wX3 cy a v) H := hP1
    have hD : va_D A (wX3 cy a v) := hD1.weaken (fun _ q _ h => hFc q.1 h)
    refine lv_isub hx hb dX3_at_15 ?_
    obtain ⟨hqA, hqB⟩ := hq
    refine lv_icmp_ge (tgt := 34) hx hb dX3_at_16 (by decide) (fun c2 => ?_) (fun c2 => ?_)
    · have hq := hqA c2
      refine lv_iconst (v := (-1)) hx hb dX3_at_34 (by decide) ?_
      exact W.iret (v := (-1)) hx hb hr (fun t ht hW => ⟨⟨(-1), (), rfl, hq, (xAt_of hP hK hD ht hW)⟩, hS.F ht⟩) hS.2.2 dX3_at_35
    · have hq := hqB c2
      refine lv_aload_n hx hb dX3_at_19 rfl (lv_at hl 0 rfl) ?_
      refine va_get (D := (dC, dI)) (ci := 3) (v := .ref (a 1)) (C := RX3) (T := TX3) (N := 4) hx hb hts iK3 hown hK hP 0 rfl rfl 0 (by decide) lk0 (fun _ h9 => h9) rfl dX3_at_20 ?_
      refine lv_aload_n hx hb dX3_at_23 rfl (lv_at hl 0 rfl) ?_
      refine lv_iload_n hx hb dX3_at_24 rfl (lv_at hl 1 rfl) ?_
      have hFc := xfree_same hS hAe0 (ws := (wX3 cy a v)) hD
      refine va_calli (va_runV (As := [.int x1]) (rest := [.ref (a 1)]) ⟨hx, hb, hml, hown, hts⟩ (c_X3_from l dC dI cy a _ v x1 _ hq) (cwV 1 hts gX3_at_X3_from rfl rfl rfl (by decide +kernel) ⟨Nat.le_of_ble_eq_true rfl, Nat.le_of_ble_eq_true rfl⟩) ⟨xPre_blind, va_recv hK hP (ci := 3) (q0 := 0) rfl rfl, xPre_of hP hK hD⟩ rfl rfl hl.1 rfl (lv_room (Nat.le_of_ble_eq_true rfl)) dX3_at_25 ⟨Nat.le_of_ble_eq_true rfl, Nat.le_of_ble_eq_true rfl⟩) hS (fun q _ h => hFc q h) hFc (fun r25 u9 t H locs ht hvm hq hB hz1 hk1 hS => ?_)
      obtain ⟨hP1, -, hD1⟩ := hB
      rw [ht] at hP1
      have hP : va_P (dC, dI) vwCl (wX3 cy a v) H := hP1
      have hD : va_D A (wX3 cy a v) := hD1.weaken (fun _ q _ h => hFc q.1 h)
      refine lv_iload_n hx hb dX3_at_28 rfl (lv_at hl 2 rfl) ?_
      refine lv_iadd hx hb dX3_at_29 ?_
      obtain ⟨g1, hq⟩ := hq
      refine va_iald hx hb hK hP 1 0 rfl rfl g1 dX3_at_30 ?_
      refine lv_goto (tgt := 35) hx hb dX3_at_31 (by decide) ?_
      exact W.iret (v := ((X3_cells v) (r25 + x2).toNatClampNeg)) hx hb hr (fun t ht hW => ⟨⟨((X3_cells v) (r25 + x2).toNatClampNeg), (), rfl, hq, (xAt_of hP hK hD ht hW)⟩, hS.F ht⟩) hS.2.2 dX3_at_35
def wp_X3_first (v : V_X3) (x1 : Int32) (Q : Int32 → Prop) : Prop :=
  wp_X3_at v x1 0 (fun r3 =>
  Q r3)
def q_X3_first (dC : Nat → ClassId) (dI : Nat → Nat → Nat) (cy : Nat → ClassId) (a : Nat → Nat) (v : V_X3) (x1 : Int32) (Q : Int32 → Prop) (A : Nat → Prop) : Array Value → State → Outcome → State → Prop := va_Qi (fun (r : Int32) (u : Unit) => Q r ) (fun (u : Unit) t => xAt dC dI cy A (wX3 cy a v) t) A
set_option maxHeartbeats 4000000 in
set_option maxRecDepth 100000 in
theorem c_X3_first (l : Launch) (dC : Nat → ClassId) (dI : Nat → Nat → Nat) (cy : Nat → ClassId) (a : Nat → Nat) (sz : Nat) (v : V_X3) (x1 : Int32) (Q : Int32 → Prop) (hq : wp_X3_first v x1 Q) : Met l yX3_first wsX3_first ({ frames := 2, cells := 0, slots := 0, locals := 43 } : Room) (va_Pc [.ref (a 0), .int x1] (xPre dC dI cy (wX3 cy a v) sz)) (q_X3_first dC dI cy a v x1 Q (va_A (wX3 cy a v) sz)) 0 0 (va_A (wX3 cy a v) sz) := by
  refine Met.ofW (cc := cX3_first) (maxL := 2) (ret := (some .int)) (by decide) rfl ?_
  intro p e s m args below meth c s₁ B hml hv
  obtain ⟨rfl, hsz, hP, hK, hD0⟩ := hv
  have hx := B.exec
  have hb := B.bytes
  have hr := B.returns
  have hts := atoms_spec (ws := wsX3_first) B.pre
  have hown : s.vm.findClass RX3 = some m.cls := findClass_of_methodNamed B.named
  have hlocks := B.notSynchronized
  subst hsz
  have hD := hD0.self (sz := s.heap.size)
  generalize hAe : va_A (wX3 cy a v) s.heap.size = A at hD ⊢
  have hAe0 : ∀ q : Nat, s.heap.size ≤ q → A q := fun q h => by rw [← hAe]; exact Or.inr h
  have hS : va_S A s.heap s.heap [] := va_S.rf
  have hl := lv_entry ([.ref (a 0), .int x1]) (n := 2) (Nat.le_of_ble_eq_true rfl)
  rw [lg_entry_eq]
  generalize (lg_sl ([.ref (a 0), .int x1]) ++ List.replicate (2 - (lg_sl ([.ref (a 0), .int x1])).length) Slot.unset).toArray = ls at hl ⊢
  have hl : lv_has ls 2 [(0, .ref (a 0)), (1, .int x1)] := hl
  unfold wp_X3_first at hq
  refine lv_aload_n hx hb dX3_first_0 rfl (lv_at hl 0 rfl) ?_
  refine lv_iload_n hx hb dX3_first_1 rfl (lv_at hl 1 rfl) ?_
  refine lv_iconst (v := 0) hx hb dX3_first_2 (by decide) ?_
  have hFc := xfree_same hS hAe0 (ws := (wX3 cy a v)) hD
  refine va_calli (va_runV (As := [.int x1, .int 0]) (rest := []) ⟨hx, hb, hml, hown, hts⟩ (c_X3_at l dC dI cy a _ v x1 0 _ hq) (cwV 2 hts gX3_first_X3_at rfl rfl rfl (by decide +kernel) ⟨Nat.le_of_ble_eq_true rfl, Nat.le_of_ble_eq_true rfl⟩) ⟨xPre_blind, va_recv hK hP (ci := 3) (q0 := 0) rfl rfl, xPre_of hP hK hD⟩ rfl rfl hl.1 rfl (lv_room (Nat.le_of_ble_eq_true rfl)) dX3_first_3 ⟨Nat.le_of_ble_eq_true rfl, Nat.le_of_ble_eq_true rfl⟩) hS (fun q _ h => hFc q h) hFc (fun r3 u9 t H locs ht hvm hq hB hz1 hk1 hS => ?_)
  obtain ⟨hP1, -, hD1⟩ := hB
  rw [ht] at hP1
  have hP : va_P (dC, dI) vwCl (wX3 cy a v) H := hP1
  have hD : va_D A (wX3 cy a v) := hD1.weaken (fun _ q _ h => hFc q.1 h)
  exact W.iret (v := r3) hx hb hr (fun t ht hW => ⟨⟨r3, (), rfl, hq, (xAt_of hP hK hD ht hW)⟩, hS.F ht⟩) hS.2.2 dX3_first_6
def wp_X3_last (v : V_X3) (x1 : Int32) (Q : Int32 → Prop) : Prop :=
  wp_X3_to v x1 (fun r4 =>
  wp_X3_from v x1 (fun r9 =>
  wp_X3_at v x1 ((r4 - r9) - 1) (fun r15 =>
  Q r15)))
def q_X3_last (dC : Nat → ClassId) (dI : Nat → Nat → Nat) (cy : Nat → ClassId) (a : Nat → Nat) (v : V_X3) (x1 : Int32) (Q : Int32 → Prop) (A : Nat → Prop) : Array Value → State → Outcome → State → Prop := va_Qi (fun (r : Int32) (u : Unit) => Q r ) (fun (u : Unit) t => xAt dC dI cy A (wX3 cy a v) t) A
set_option maxHeartbeats 4000000 in
set_option maxRecDepth 100000 in
theorem c_X3_last (l : Launch) (dC : Nat → ClassId) (dI : Nat → Nat → Nat) (cy : Nat → ClassId) (a : Nat → Nat) (sz : Nat) (v : V_X3) (x1 : Int32) (Q : Int32 → Prop) (hq : wp_X3_last v x1 Q) : Met l yX3_last wsX3_last ({ frames := 2, cells := 0, slots := 0, locals := 43 } : Room) (va_Pc [.ref (a 0), .int x1] (xPre dC dI cy (wX3 cy a v) sz)) (q_X3_last dC dI cy a v x1 Q (va_A (wX3 cy a v) sz)) 0 0 (va_A (wX3 cy a v) sz) := by
  refine Met.ofW (cc := cX3_last) (maxL := 2) (ret := (some .int)) (by decide) rfl ?_
  intro p e s m args below meth c s₁ B hml hv
  obtain ⟨rfl, hsz, hP, hK, hD0⟩ := hv
  have hx := B.exec
  have hb := B.bytes
  have hr := B.returns
  have hts := atoms_spec (ws := wsX3_last) B.pre
  have hown : s.vm.findClass RX3 = some m.cls := findClass_of_methodNamed B.named
  have hlocks := B.notSynchronized
  subst hsz
  have hD := hD0.self (sz := s.heap.size)
  generalize hAe : va_A (wX3 cy a v) s.heap.size = A at hD ⊢
  have hAe0 : ∀ q : Nat, s.heap.size ≤ q → A q := fun q h => by rw [← hAe]; exact Or.inr h
  have hS : va_S A s.heap s.heap [] := va_S.rf
  have hl := lv_entry ([.ref (a 0), .int x1]) (n := 2) (Nat.le_of_ble_eq_true rfl)
  rw [lg_entry_eq]
  generalize (lg_sl ([.ref (a 0), .int x1]) ++ List.replicate (2 - (lg_sl ([.ref (a 0), .int x1])).length) Slot.unset).toArray = ls at hl ⊢
  have hl : lv_has ls 2 [(0, .ref (a 0)), (1, .int x1)] := hl
  unfold wp_X3_last at hq
  refine lv_aload_n hx hb dX3_last_0 rfl (lv_at hl 0 rfl) ?_
  refine lv_iload_n hx hb dX3_last_1 rfl (lv_at hl 1 rfl) ?_
  refine lv_aload_n hx hb dX3_last_2 rfl (lv_at hl 0 rfl) ?_
  refine lv_iload_n hx hb dX3_last_3 rfl (lv_at hl 1 rfl) ?_
  have hFc := xfree_same hS hAe0 (ws := (wX3 cy a v)) hD
  refine va_calli (va_runV (As := [.int x1]) (rest := [.int x1, .ref (a 0)]) ⟨hx, hb, hml, hown, hts⟩ (c_X3_to l dC dI cy a _ v x1 _ hq) (cwV 1 hts gX3_last_X3_to rfl rfl rfl (by decide +kernel) ⟨Nat.le_of_ble_eq_true rfl, Nat.le_of_ble_eq_true rfl⟩) ⟨xPre_blind, va_recv hK hP (ci := 3) (q0 := 0) rfl rfl, xPre_of hP hK hD⟩ rfl rfl hl.1 rfl (lv_room (Nat.le_of_ble_eq_true rfl)) dX3_last_4 ⟨Nat.le_of_ble_eq_true rfl, Nat.le_of_ble_eq_true rfl⟩) hS (fun q _ h => hFc q h) hFc (fun r4 u9 t H locs ht hvm hq hB hz1 hk1 hS => ?_)
  obtain ⟨hP1, -, hD1⟩ := hB
  rw [ht] at hP1
  have hP : va_P (dC, dI) vwCl (wX3 cy a v) H := hP1
  have hD : va_D A (wX3 cy a v) := hD1.weaken (fun _ q _ h => hFc q.1 h)
  refine lv_aload_n hx hb dX3_last_7 rfl (lv_at hl 0 rfl) ?_
  refine lv_iload_n hx hb dX3_last_8 rfl (lv_at hl 1 rfl) ?_
  have hFc := xfree_same hS hAe0 (ws := (wX3 cy a v)) hD
  refine va_calli (va_runV (As := [.int x1]) (rest := [.int r4, .int x1, .ref (a 0)]) ⟨hx, hb, hml, hown, hts⟩ (c_X3_from l dC dI cy a _ v x1 _ hq) (cwV 1 hts gX3_last_X3_from rfl rfl rfl (by decide +kernel) ⟨Nat.le_of_ble_eq_true rfl, Nat.le_of_ble_eq_true rfl⟩) ⟨xPre_blind, va_recv hK hP (ci := 3) (q0 := 0) rfl rfl, xPre_of hP hK hD⟩ rfl rfl hl.1 rfl (lv_room (Nat.le_of_ble_eq_true rfl)) dX3_last_9 ⟨Nat.le_of_ble_eq_true rfl, Nat.le_of_ble_eq_true rfl⟩) hS (fun q _ h => hFc q h) hFc (fun r9 u9 t H locs ht hvm hq hB hz1 hk1 hS => ?_)
  obtain ⟨hP1, -, hD1⟩ := hB
  rw [ht] at hP1
  have hP : va_P (dC, dI) vwCl (wX3 cy a v) H := hP1
  have hD : va_D A (wX3 cy a v) := hD1.weaken (fun _ q _ h => hFc q.1 h)
  refine lv_isub hx hb dX3_last_12 ?_
  refine lv_iconst (v := 1) hx hb dX3_last_13 (by decide) ?_
  refine lv_isub hx hb dX3_last_14 ?_
  have hFc := xfree_same hS hAe0 (ws := (wX3 cy a v)) hD
  refine va_calli (va_runV (As := [.int x1, .int ((r4 - r9) - 1)]) (rest := []) ⟨hx, hb, hml, hown, hts⟩ (c_X3_at l dC dI cy a _ v x1 ((r4 - r9) - 1) _ hq) (cwV 2 hts gX3_last_X3_at rfl rfl rfl (by decide +kernel) ⟨Nat.le_of_ble_eq_true rfl, Nat.le_of_ble_eq_true rfl⟩) ⟨xPre_blind, va_recv hK hP (ci := 3) (q0 := 0) rfl rfl, xPre_of hP hK hD⟩ rfl rfl hl.1 rfl (lv_room (Nat.le_of_ble_eq_true rfl)) dX3_last_15 ⟨Nat.le_of_ble_eq_true rfl, Nat.le_of_ble_eq_true rfl⟩) hS (fun q _ h => hFc q h) hFc (fun r15 u9 t H locs ht hvm hq hB hz1 hk1 hS => ?_)
  obtain ⟨hP1, -, hD1⟩ := hB
  rw [ht] at hP1
  have hP : va_P (dC, dI) vwCl (wX3 cy a v) H := hP1
  have hD : va_D A (wX3 cy a v) := hD1.weaken (fun _ q _ h => hFc q.1 h)
  exact W.iret (v := r15) hx hb hr (fun t ht hW => ⟨⟨r15, (), rfl, hq, (xAt_of hP hK hD ht hW)⟩, hS.F ht⟩) hS.2.2 dX3_last_18
def wp_X3_number (v : V_X3) (x1 : Int32) (x2 : Int32) (Q : Int32 → Prop) : Prop :=
  ((x2 = 0 → wp_X3_first v x1 (fun r30 =>
  Q r30)) ∧
  (¬ x2 = 0 → ((x2 = 1 → wp_X3_last v x1 (fun r36 =>
  Q r36)) ∧
  (¬ x2 = 1 → wp_X3_to v x1 (fun r42 =>
  wp_X3_from v x1 (fun r47 =>
  Q (r42 - r47)))))))
def q_X3_number (dC : Nat → ClassId) (dI : Nat → Nat → Nat) (cy : Nat → ClassId) (a : Nat → Nat) (v : V_X3) (x1 : Int32) (x2 : Int32) (Q : Int32 → Prop) (A : Nat → Prop) : Array Value → State → Outcome → State → Prop := va_Qi (fun (r : Int32) (u : Unit) => Q r ) (fun (u : Unit) t => xAt dC dI cy A (wX3 cy a v) t) A
set_option maxHeartbeats 4000000 in
set_option maxRecDepth 100000 in
theorem c_X3_number (l : Launch) (dC : Nat → ClassId) (dI : Nat → Nat → Nat) (cy : Nat → ClassId) (a : Nat → Nat) (sz : Nat) (v : V_X3) (x1 : Int32) (x2 : Int32) (Q : Int32 → Prop) (hq : wp_X3_number v x1 x2 Q) : Met l yX3_number wsX3_number ({ frames := 3, cells := 0, slots := 0, locals := 64 } : Room) (va_Pc [.ref (a 0), .int x1, .int x2] (xPre dC dI cy (wX3 cy a v) sz)) (q_X3_number dC dI cy a v x1 x2 Q (va_A (wX3 cy a v) sz)) 0 0 (va_A (wX3 cy a v) sz) := by
  refine Met.ofW (cc := cX3_number) (maxL := 3) (ret := (some .int)) (by decide) rfl ?_
  intro p e s m args below meth c s₁ B hml hv
  obtain ⟨rfl, hsz, hP, hK, hD0⟩ := hv
  have hx := B.exec
  have hb := B.bytes
  have hr := B.returns
  have hts := atoms_spec (ws := wsX3_number) B.pre
  have hown : s.vm.findClass RX3 = some m.cls := findClass_of_methodNamed B.named
  have hlocks := B.notSynchronized
  subst hsz
  have hD := hD0.self (sz := s.heap.size)
  generalize hAe : va_A (wX3 cy a v) s.heap.size = A at hD ⊢
  have hAe0 : ∀ q : Nat, s.heap.size ≤ q → A q := fun q h => by rw [← hAe]; exact Or.inr h
  have hS : va_S A s.heap s.heap [] := va_S.rf
  have hl := lv_entry ([.ref (a 0), .int x1, .int x2]) (n := 3) (Nat.le_of_ble_eq_true rfl)
  rw [lg_entry_eq]
  generalize (lg_sl ([.ref (a 0), .int x1, .int x2]) ++ List.replicate (3 - (lg_sl ([.ref (a 0), .int x1, .int x2])).length) Slot.unset).toArray = ls at hl ⊢
  have hl : lv_has ls 3 [(0, .ref (a 0)), (1, .int x1), (2, .int x2)] := hl
  unfold wp_X3_number at hq
  refine lv_iload_n hx hb dX3_number_0 rfl (lv_at hl 2 rfl) ?_
  obtain ⟨hqA, hqB⟩ := hq
  by_cases n0 : x2 = 0
  · have hq := hqA n0
    refine lv_lookup (tgt := 28) (off := 27) hx hb dX3_number_1 (by decide) (by rw [n0]; decide) (by decide) ?_
    refine lv_aload_n hx hb dX3_number_28 rfl (lv_at hl 0 rfl) ?_
    refine lv_iload_n hx hb dX3_number_29 rfl (lv_at hl 1 rfl) ?_
    have hFc := xfree_same hS hAe0 (ws := (wX3 cy a v)) hD
    refine va_calli (va_runV (As := [.int x1]) (rest := []) ⟨hx, hb, hml, hown, hts⟩ (c_X3_first l dC dI cy a _ v x1 _ hq) (cwV 1 hts gX3_number_X3_first rfl rfl rfl (by decide +kernel) ⟨Nat.le_of_ble_eq_true rfl, Nat.le_of_ble_eq_true rfl⟩) ⟨xPre_blind, va_recv hK hP (ci := 3) (q0 := 0) rfl rfl, xPre_of hP hK hD⟩ rfl rfl hl.1 rfl (lv_room (Nat.le_of_ble_eq_true rfl)) dX3_number_30 ⟨Nat.le_of_ble_eq_true rfl, Nat.le_of_ble_eq_true rfl⟩) hS (fun q _ h => hFc q h) hFc (fun r30 u9 t H locs ht hvm hq hB hz1 hk1 hS => ?_)
    obtain ⟨hP1, -, hD1⟩ := hB
    rw [ht] at hP1
    have hP : va_P (dC, dI) vwCl (wX3 cy a v) H := hP1
    have hD : va_D A (wX3 cy a v) := hD1.weaken (fun _ q _ h => hFc q.1 h)
    exact W.iret (v := r30) hx hb hr (fun t ht hW => ⟨⟨r30, (), rfl, hq, (xAt_of hP hK hD ht hW)⟩, hS.F ht⟩) hS.2.2 dX3_number_33
  · have hq := hqB n0
    obtain ⟨hqA, hqB⟩ := hq
    by_cases n1 : x2 = 1
    · have hq := hqA n1
      refine lv_lookup (tgt := 34) (off := 33) hx hb dX3_number_1 (by decide) (by rw [n1]; decide) (by decide) ?_
      refine lv_aload_n hx hb dX3_number_34 rfl (lv_at hl 0 rfl) ?_
      refine lv_iload_n hx hb dX3_number_35 rfl (lv_at hl 1 rfl) ?_
      have hFc := xfree_same hS hAe0 (ws := (wX3 cy a v)) hD
      refine va_calli (va_runV (As := [.int x1]) (rest := []) ⟨hx, hb, hml, hown, hts⟩ (c_X3_last l dC dI cy a _ v x1 _ hq) (cwV 1 hts gX3_number_X3_last rfl rfl rfl (by decide +kernel) ⟨Nat.le_of_ble_eq_true rfl, Nat.le_of_ble_eq_true rfl⟩) ⟨xPre_blind, va_recv hK hP (ci := 3) (q0 := 0) rfl rfl, xPre_of hP hK hD⟩ rfl rfl hl.1 rfl (lv_room (Nat.le_of_ble_eq_true rfl)) dX3_number_36 ⟨Nat.le_of_ble_eq_true rfl, Nat.le_of_ble_eq_true rfl⟩) hS (fun q _ h => hFc q h) hFc (fun r36 u9 t H locs ht hvm hq hB hz1 hk1 hS => ?_)
      obtain ⟨hP1, -, hD1⟩ := hB
      rw [ht] at hP1
      have hP : va_P (dC, dI) vwCl (wX3 cy a v) H := hP1
      have hD : va_D A (wX3 cy a v) := hD1.weaken (fun _ q _ h => hFc q.1 h)
      exact W.iret (v := r36) hx hb hr (fun t ht hW => ⟨⟨r36, (), rfl, hq, (xAt_of hP hK hD ht hW)⟩, hS.F ht⟩) hS.2.2 dX3_number_39
    · have hq := hqB n1
      refine lv_lookup (tgt := 40) (off := 39) hx hb dX3_number_1 (by decide) (by show Op.lookupswitch.offset [(0, 27), (1, 33)] 39 _ = _; rw [lv_osw n0 (show (0 : Int32).toInt = 0 from by decide)]; rw [lv_osw n1 (show (1 : Int32).toInt = 1 from by decide)]; rfl) (by decide) ?_
      refine lv_aload_n hx hb dX3_number_40 rfl (lv_at hl 0 rfl) ?_
      refine lv_iload_n hx hb dX3_number_41 rfl (lv_at hl 1 rfl) ?_
      have hFc := xfree_same hS hAe0 (ws := (wX3 cy a v)) hD
      refine va_calli (va_runV (As := [.int x1]) (rest := []) ⟨hx, hb, hml, hown, hts⟩ (c_X3_to l dC dI cy a _ v x1 _ hq) (cwV 1 hts gX3_number_X3_to rfl rfl rfl (by decide +kernel) ⟨Nat.le_of_ble_eq_true rfl, Nat.le_of_ble_eq_true rfl⟩) ⟨xPre_blind, va_recv hK hP (ci := 3) (q0 := 0) rfl rfl, xPre_of hP hK hD⟩ rfl rfl hl.1 rfl (lv_room (Nat.le_of_ble_eq_true rfl)) dX3_number_42 ⟨Nat.le_of_ble_eq_true rfl, Nat.le_of_ble_eq_true rfl⟩) hS (fun q _ h => hFc q h) hFc (fun r42 u9 t H locs ht hvm hq hB hz1 hk1 hS => ?_)
      obtain ⟨hP1, -, hD1⟩ := hB
      rw [ht] at hP1
      have hP : va_P (dC, dI) vwCl (wX3 cy a v) H := hP1
      have hD : va_D A (wX3 cy a v) := hD1.weaken (fun _ q _ h => hFc q.1 h)
      refine lv_aload_n hx hb dX3_number_45 rfl (lv_at hl 0 rfl) ?_
      refine lv_iload_n hx hb dX3_number_46 rfl (lv_at hl 1 rfl) ?_
      have hFc := xfree_same hS hAe0 (ws := (wX3 cy a v)) hD
      refine va_calli (va_runV (As := [.int x1]) (rest := [.int r42]) ⟨hx, hb, hml, hown, hts⟩ (c_X3_from l dC dI cy a _ v x1 _ hq) (cwV 1 hts gX3_number_X3_from rfl rfl rfl (by decide +kernel) ⟨Nat.le_of_ble_eq_true rfl, Nat.le_of_ble_eq_true rfl⟩) ⟨xPre_blind, va_recv hK hP (ci := 3) (q0 := 0) rfl rfl, xPre_of hP hK hD⟩ rfl rfl hl.1 rfl (lv_room (Nat.le_of_ble_eq_true rfl)) dX3_number_47 ⟨Nat.le_of_ble_eq_true rfl, Nat.le_of_ble_eq_true rfl⟩) hS (fun q _ h => hFc q h) hFc (fun r47 u9 t H locs ht hvm hq hB hz1 hk1 hS => ?_)
      obtain ⟨hP1, -, hD1⟩ := hB
      rw [ht] at hP1
      have hP : va_P (dC, dI) vwCl (wX3 cy a v) H := hP1
      have hD : va_D A (wX3 cy a v) := hD1.weaken (fun _ q _ h => hFc q.1 h)
      refine lv_isub hx hb dX3_number_50 ?_
      exact W.iret (v := (r42 - r47)) hx hb hr (fun t ht hW => ⟨⟨(r42 - r47), (), rfl, hq, (xAt_of hP hK hD ht hW)⟩, hS.F ht⟩) hS.2.2 dX3_number_51
def wb_X3_firstIndex_13 (v : V_X3) (x1 : Int32) (x2 : Int32) (y13_3 : Int32) (y13_4 : Int32) (B13 : Int32 → Prop) (Q : Int32 → Prop) : Prop :=
  ((y13_3 ≤ y13_4 → Q (-1)) ∧
  (¬ y13_3 ≤ y13_4 → vp_in y13_4 1024 ∧ ((((X3_cells v) y13_4.toNatClampNeg) = x2 → Q y13_4) ∧
  (¬ ((X3_cells v) y13_4.toNatClampNeg) = x2 → B13 (y13_4 + 1)))))
def wp_X3_firstIndex_13 (v : V_X3) (x1 : Int32) (x2 : Int32) (y13_3 : Int32) (y13_4 : Int32) (Q : Int32 → Prop) : Prop :=
  ∃ (I : Int32 → Prop) (μ : Int32 → Nat), I y13_4 ∧ ∀ (s0 : Int32), I s0 → wb_X3_firstIndex_13 v x1 x2 y13_3 s0 (fun t0 => I t0 ∧ μ t0 < μ s0) Q
def wp_X3_firstIndex (v : V_X3) (x1 : Int32) (x2 : Int32) (Q : Int32 → Prop) : Prop :=
  wp_X3_to v x1 (fun r2 =>
  wp_X3_from v x1 (fun r8 =>
  wp_X3_firstIndex_13 v x1 x2 r2 r8 Q))
def q_X3_firstIndex (dC : Nat → ClassId) (dI : Nat → Nat → Nat) (cy : Nat → ClassId) (a : Nat → Nat) (v : V_X3) (x1 : Int32) (x2 : Int32) (Q : Int32 → Prop) (A : Nat → Prop) : Array Value → State → Outcome → State → Prop := va_Qi (fun (r : Int32) (u : Unit) => Q r ) (fun (u : Unit) t => xAt dC dI cy A (wX3 cy a v) t) A
set_option maxHeartbeats 4000000 in
set_option maxRecDepth 100000 in
theorem c_X3_firstIndex (l : Launch) (dC : Nat → ClassId) (dI : Nat → Nat → Nat) (cy : Nat → ClassId) (a : Nat → Nat) (sz : Nat) (v : V_X3) (x1 : Int32) (x2 : Int32) (Q : Int32 → Prop) (hq : wp_X3_firstIndex v x1 x2 Q) : Met l yX3_firstIndex wsX3_firstIndex ({ frames := 1, cells := 0, slots := 0, locals := 21 } : Room) (va_Pc [.ref (a 0), .int x1, .int x2] (xPre dC dI cy (wX3 cy a v) sz)) (q_X3_firstIndex dC dI cy a v x1 x2 Q (va_A (wX3 cy a v) sz)) 0 0 (va_A (wX3 cy a v) sz) := by
  refine Met.ofW (cc := cX3_firstIndex) (maxL := 5) (ret := (some .int)) (by decide) rfl ?_
  intro p e s m args below meth c s₁ B hml hv
  obtain ⟨rfl, hsz, hP, hK, hD0⟩ := hv
  have hx := B.exec
  have hb := B.bytes
  have hr := B.returns
  have hts := atoms_spec (ws := wsX3_firstIndex) B.pre
  have hown : s.vm.findClass RX3 = some m.cls := findClass_of_methodNamed B.named
  have hlocks := B.notSynchronized
  subst hsz
  have hD := hD0.self (sz := s.heap.size)
  generalize hAe : va_A (wX3 cy a v) s.heap.size = A at hD ⊢
  have hAe0 : ∀ q : Nat, s.heap.size ≤ q → A q := fun q h => by rw [← hAe]; exact Or.inr h
  have hS : va_S A s.heap s.heap [] := va_S.rf
  have hl := lv_entry ([.ref (a 0), .int x1, .int x2]) (n := 5) (Nat.le_of_ble_eq_true rfl)
  rw [lg_entry_eq]
  generalize (lg_sl ([.ref (a 0), .int x1, .int x2]) ++ List.replicate (5 - (lg_sl ([.ref (a 0), .int x1, .int x2])).length) Slot.unset).toArray = ls at hl ⊢
  have hl : lv_has ls 5 [(0, .ref (a 0)), (1, .int x1), (2, .int x2)] := hl
  have lk0 := hts (Cond.fieldLink RX3 9 "MolesLawn$Rows" "cells" "[I") (List.mem_cons_of_mem _ (List.mem_append_left _ (List.mem_of_getElem? (i := 0) rfl)))
  have iK3 : ∀ w ∈ wsX30, w ∈ wsX3_firstIndex := fun _ h => (List.mem_cons_of_mem _ (List.mem_append_right _ h))
  unfold wp_X3_firstIndex at hq
  have J13 : ∀ (y13_3 : Int32) (y13_4 : Int32) (H : Heap) (locs : List Loc) (ls : Array Slot), wp_X3_firstIndex_13 v x1 x2 y13_3 y13_4 Q → va_P (dC, dI) vwCl (wX3 cy a v) H → va_D A (wX3 cy a v) → va_S A s.heap H locs → lv_has ls 5 [(0, .ref (a 0)), (2, .int x2), (3, .int y13_3), (4, .int y13_4)] → W p l e (headSpec wsX3_firstIndex ({ frames := 1, cells := 0, slots := 0, locals := 21 } : Room)).room s m ([.ref (a 0), .int x1, .int x2] : List Value).toArray below meth c H locs 0 0 (MQ below (q_X3_firstIndex dC dI cy a v x1 x2 Q A) ([.ref (a 0), .int x1, .int x2] : List Value).toArray s 0 0 A) (F0 m 13 ls []) := by
    intro y13_3 y13_4 H locs ls hq hP hD hS hl
    obtain ⟨I13, μ13, h0, hs13⟩ := hq
    have key : ∀ (n : Nat) (y13_4 : Int32) (H : Heap) (locs : List Loc) (ls : Array Slot), I13 y13_4 → μ13 y13_4 < n → va_P (dC, dI) vwCl (wX3 cy a v) H → va_D A (wX3 cy a v) → va_S A s.heap H locs → lv_has ls 5 [(0, .ref (a 0)), (2, .int x2), (3, .int y13_3), (4, .int y13_4)] → W p l e (headSpec wsX3_firstIndex ({ frames := 1, cells := 0, slots := 0, locals := 21 } : Room)).room s m ([.ref (a 0), .int x1, .int x2] : List Value).toArray below meth c H locs 0 0 (MQ below (q_X3_firstIndex dC dI cy a v x1 x2 Q A) ([.ref (a 0), .int x1, .int x2] : List Value).toArray s 0 0 A) (F0 m 13 ls []) := by
      intro n
      induction n with
      | zero => intro y13_4 H locs ls _ hm; exact absurd hm (Nat.not_lt_zero _)
      | succ n ih =>
        intro y13_4 H locs ls hI hm hP hD hS hl
        have hq := hs13 y13_4 hI
        generalize hB13 : (fun (t0 : Int32) => I13 t0 ∧ μ13 t0 < μ13 y13_4) = B13 at hq
        have bk13 : ∀ (y13_4 : Int32) (H : Heap) (locs : List Loc) (ls : Array Slot), B13 y13_4 → va_P (dC, dI) vwCl (wX3 cy a v) H → va_D A (wX3 cy a v) → va_S A s.heap H locs → lv_has ls 5 [(0, .ref (a 0)), (2, .int x2), (3, .int y13_3), (4, .int y13_4)] → W p l e (headSpec wsX3_firstIndex ({ frames := 1, cells := 0, slots := 0, locals := 21 } : Room)).room s m ([.ref (a 0), .int x1, .int x2] : List Value).toArray below meth c H locs 0 0 (MQ below (q_X3_firstIndex dC dI cy a v x1 x2 Q A) ([.ref (a 0), .int x1, .int x2] : List Value).toArray s 0 0 A) (F0 m 13 ls []) := by
          intro y13_4 H locs ls h
          rw [← hB13] at h
          exact ih y13_4 H locs ls h.1 (Nat.lt_of_lt_of_le h.2 (Nat.le_of_lt_succ hm))
        unfold wb_X3_firstIndex_13 at hq
        refine lv_iload hx hb dX3_firstIndex_13 (lv_at hl 3 rfl) ?_
        refine lv_iload_n hx hb dX3_firstIndex_15 rfl (lv_at hl 2 rfl) ?_
        obtain ⟨hqA, hqB⟩ := hq
        refine lv_icmp_ge (tgt := 39) hx hb dX3_firstIndex_16 (by decide) (fun c3 => ?_) (fun c3 => ?_)
        · have hq := hqA c3
          refine lv_iconst (v := (-1)) hx hb dX3_firstIndex_39 (by decide) ?_
          exact W.iret (v := (-1)) hx hb hr (fun t ht hW => ⟨⟨(-1), (), rfl, hq, (xAt_of hP hK hD ht hW)⟩, hS.F ht⟩) hS.2.2 dX3_firstIndex_40
        · have hq := hqB c3
          refine lv_aload_n hx hb dX3_firstIndex_19 rfl (lv_at hl 0 rfl) ?_
          refine va_get (D := (dC, dI)) (ci := 3) (v := .ref (a 1)) (C := RX3) (T := TX3) (N := 4) hx hb hts iK3 hown hK hP 0 rfl rfl 0 (by decide) lk0 (fun _ h9 => h9) rfl dX3_firstIndex_20 ?_
          refine lv_iload hx hb dX3_firstIndex_23 (lv_at hl 3 rfl) ?_
          obtain ⟨g1, hq⟩ := hq
          refine va_iald hx hb hK hP 1 0 rfl rfl g1 dX3_firstIndex_25 ?_
          refine lv_iload_n hx hb dX3_firstIndex_26 rfl (lv_at hl 1 rfl) ?_
          obtain ⟨hqA, hqB⟩ := hq
          refine lv_icmp_ne (tgt := 33) hx hb dX3_firstIndex_27 (by decide) (fun c2 => ?_) (fun c2 => ?_)
          · have hq := hqB c2
            refine lv_iinc (v := (y13_4 + 1)) (lv' := [(4, .int (y13_4 + 1)), (0, .ref (a 0)), (2, .int x2), (3, .int y13_3)]) hx hb dX3_firstIndex_33 hl (k := 3) rfl rfl (by decide) rfl (fun ls hl => ?_)
            refine lv_goto (tgt := 13) hx hb dX3_firstIndex_36 (by decide) ?_
            exact bk13 (y13_4 + 1) _ _ _ hq hP hD hS (lv_sub hl [1, 2, 3, 0] rfl)
          · have hq := hqA c2
            refine lv_iload hx hb dX3_firstIndex_30 (lv_at hl 3 rfl) ?_
            exact W.iret (v := y13_4) hx hb hr (fun t ht hW => ⟨⟨y13_4, (), rfl, hq, (xAt_of hP hK hD ht hW)⟩, hS.F ht⟩) hS.2.2 dX3_firstIndex_32
    exact key _ y13_4 H locs ls h0 (Nat.lt_succ_self _) hP hD hS hl
  refine lv_aload_n hx hb dX3_firstIndex_0 rfl (lv_at hl 0 rfl) ?_
  refine lv_iload_n hx hb dX3_firstIndex_1 rfl (lv_at hl 1 rfl) ?_
  have hFc := xfree_same hS hAe0 (ws := (wX3 cy a v)) hD
  refine va_calli (va_runV (As := [.int x1]) (rest := []) ⟨hx, hb, hml, hown, hts⟩ (c_X3_to l dC dI cy a _ v x1 _ hq) (cwV 1 hts gX3_firstIndex_X3_to rfl rfl rfl (by decide +kernel) ⟨Nat.le_of_ble_eq_true rfl, Nat.le_of_ble_eq_true rfl⟩) ⟨xPre_blind, va_recv hK hP (ci := 3) (q0 := 0) rfl rfl, xPre_of hP hK hD⟩ rfl rfl hl.1 rfl (lv_room (Nat.le_of_ble_eq_true rfl)) dX3_firstIndex_2 ⟨Nat.le_of_ble_eq_true rfl, Nat.le_of_ble_eq_true rfl⟩) hS (fun q _ h => hFc q h) hFc (fun r2 u9 t H locs ht hvm hq hB hz1 hk1 hS => ?_)
  obtain ⟨hP1, -, hD1⟩ := hB
  rw [ht] at hP1
  have hP : va_P (dC, dI) vwCl (wX3 cy a v) H := hP1
  have hD : va_D A (wX3 cy a v) := hD1.weaken (fun _ q _ h => hFc q.1 h)
  refine lv_istore_n (lv' := [(3, .int r2), (0, .ref (a 0)), (1, .int x1), (2, .int x2)]) hx hb dX3_firstIndex_5 rfl hl (by decide) rfl (fun ls hl => ?_)
  refine lv_aload_n hx hb dX3_firstIndex_6 rfl (lv_at hl 1 rfl) ?_
  refine lv_iload_n hx hb dX3_firstIndex_7 rfl (lv_at hl 2 rfl) ?_
  have hFc := xfree_same hS hAe0 (ws := (wX3 cy a v)) hD
  refine va_calli (va_runV (As := [.int x1]) (rest := []) ⟨hx, hb, hml, hown, hts⟩ (c_X3_from l dC dI cy a _ v x1 _ hq) (cwV 1 hts gX3_firstIndex_X3_from rfl rfl rfl (by decide +kernel) ⟨Nat.le_of_ble_eq_true rfl, Nat.le_of_ble_eq_true rfl⟩) ⟨xPre_blind, va_recv hK hP (ci := 3) (q0 := 0) rfl rfl, xPre_of hP hK hD⟩ rfl rfl hl.1 rfl (lv_room (Nat.le_of_ble_eq_true rfl)) dX3_firstIndex_8 ⟨Nat.le_of_ble_eq_true rfl, Nat.le_of_ble_eq_true rfl⟩) hS (fun q _ h => hFc q h) hFc (fun r8 u9 t H locs ht hvm hq hB hz1 hk1 hS => ?_)
  obtain ⟨hP1, -, hD1⟩ := hB
  rw [ht] at hP1
  have hP : va_P (dC, dI) vwCl (wX3 cy a v) H := hP1
  have hD : va_D A (wX3 cy a v) := hD1.weaken (fun _ q _ h => hFc q.1 h)
  refine lv_istore (lv' := [(4, .int r8), (3, .int r2), (0, .ref (a 0)), (1, .int x1), (2, .int x2)]) hx hb dX3_firstIndex_11 hl (by decide) rfl (fun ls hl => ?_)
  exact J13 r2 r8 _ _ _ hq hP hD hS (lv_sub hl [2, 4, 1, 0] rfl)
def wb_X3_lastIndex_15 (v : V_X3) (x1 : Int32) (x2 : Int32) (y15_3 : Int32) (y15_4 : Int32) (B15 : Int32 → Prop) (Q : Int32 → Prop) : Prop :=
  ((y15_4 < y15_3 → Q (-1)) ∧
  (¬ y15_4 < y15_3 → vp_in y15_4 1024 ∧ ((((X3_cells v) y15_4.toNatClampNeg) = x2 → Q y15_4) ∧
  (¬ ((X3_cells v) y15_4.toNatClampNeg) = x2 → B15 (y15_4 + (-1))))))
def wp_X3_lastIndex_15 (v : V_X3) (x1 : Int32) (x2 : Int32) (y15_3 : Int32) (y15_4 : Int32) (Q : Int32 → Prop) : Prop :=
  ∃ (I : Int32 → Prop) (μ : Int32 → Nat), I y15_4 ∧ ∀ (s0 : Int32), I s0 → wb_X3_lastIndex_15 v x1 x2 y15_3 s0 (fun t0 => I t0 ∧ μ t0 < μ s0) Q
def wp_X3_lastIndex (v : V_X3) (x1 : Int32) (x2 : Int32) (Q : Int32 → Prop) : Prop :=
  wp_X3_from v x1 (fun r2 =>
  wp_X3_to v x1 (fun r8 =>
  wp_X3_lastIndex_15 v x1 x2 r2 (r8 - 1) Q))
def q_X3_lastIndex (dC : Nat → ClassId) (dI : Nat → Nat → Nat) (cy : Nat → ClassId) (a : Nat → Nat) (v : V_X3) (x1 : Int32) (x2 : Int32) (Q : Int32 → Prop) (A : Nat → Prop) : Array Value → State → Outcome → State → Prop := va_Qi (fun (r : Int32) (u : Unit) => Q r ) (fun (u : Unit) t => xAt dC dI cy A (wX3 cy a v) t) A
set_option maxHeartbeats 4000000 in
set_option maxRecDepth 100000 in
theorem c_X3_lastIndex (l : Launch) (dC : Nat → ClassId) (dI : Nat → Nat → Nat) (cy : Nat → ClassId) (a : Nat → Nat) (sz : Nat) (v : V_X3) (x1 : Int32) (x2 : Int32) (Q : Int32 → Prop) (hq : wp_X3_lastIndex v x1 x2 Q) : Met l yX3_lastIndex wsX3_lastIndex ({ frames := 1, cells := 0, slots := 0, locals := 21 } : Room) (va_Pc [.ref (a 0), .int x1, .int x2] (xPre dC dI cy (wX3 cy a v) sz)) (q_X3_lastIndex dC dI cy a v x1 x2 Q (va_A (wX3 cy a v) sz)) 0 0 (va_A (wX3 cy a v) sz) := by
  refine Met.ofW (cc := cX3_lastIndex) (maxL := 5) (ret := (some .int)) (by decide) rfl ?_
  intro p e s m args below meth c s₁ B hml hv
  obtain ⟨rfl, hsz, hP, hK, hD0⟩ := hv
  have hx := B.exec
  have hb := B.bytes
  have hr := B.returns
  have hts := atoms_spec (ws := wsX3_lastIndex) B.pre
  have hown : s.vm.findClass RX3 = some m.cls := findClass_of_methodNamed B.named
  have hlocks := B.notSynchronized
  subst hsz
  have hD := hD0.self (sz := s.heap.size)
  generalize hAe : va_A (wX3 cy a v) s.heap.size = A at hD ⊢
  have hAe0 : ∀ q : Nat, s.heap.size ≤ q → A q := fun q h => by rw [← hAe]; exact Or.inr h
  have hS : va_S A s.heap s.heap [] := va_S.rf
  have hl := lv_entry ([.ref (a 0), .int x1, .int x2]) (n := 5) (Nat.le_of_ble_eq_true rfl)
  rw [lg_entry_eq]
  generalize (lg_sl ([.ref (a 0), .int x1, .int x2]) ++ List.replicate (5 - (lg_sl ([.ref (a 0), .int x1, .int x2])).length) Slot.unset).toArray = ls at hl ⊢
  have hl : lv_has ls 5 [(0, .ref (a 0)), (1, .int x1), (2, .int x2)] := hl
  have lk0 := hts (Cond.fieldLink RX3 9 "MolesLawn$Rows" "cells" "[I") (List.mem_cons_of_mem _ (List.mem_append_left _ (List.mem_of_getElem? (i := 0) rfl)))
  have iK3 : ∀ w ∈ wsX30, w ∈ wsX3_lastIndex := fun _ h => (List.mem_cons_of_mem _ (List.mem_append_right _ h))
  unfold wp_X3_lastIndex at hq
  have J15 : ∀ (y15_3 : Int32) (y15_4 : Int32) (H : Heap) (locs : List Loc) (ls : Array Slot), wp_X3_lastIndex_15 v x1 x2 y15_3 y15_4 Q → va_P (dC, dI) vwCl (wX3 cy a v) H → va_D A (wX3 cy a v) → va_S A s.heap H locs → lv_has ls 5 [(0, .ref (a 0)), (2, .int x2), (3, .int y15_3), (4, .int y15_4)] → W p l e (headSpec wsX3_lastIndex ({ frames := 1, cells := 0, slots := 0, locals := 21 } : Room)).room s m ([.ref (a 0), .int x1, .int x2] : List Value).toArray below meth c H locs 0 0 (MQ below (q_X3_lastIndex dC dI cy a v x1 x2 Q A) ([.ref (a 0), .int x1, .int x2] : List Value).toArray s 0 0 A) (F0 m 15 ls []) := by
    intro y15_3 y15_4 H locs ls hq hP hD hS hl
    obtain ⟨I15, μ15, h0, hs15⟩ := hq
    have key : ∀ (n : Nat) (y15_4 : Int32) (H : Heap) (locs : List Loc) (ls : Array Slot), I15 y15_4 → μ15 y15_4 < n → va_P (dC, dI) vwCl (wX3 cy a v) H → va_D A (wX3 cy a v) → va_S A s.heap H locs → lv_has ls 5 [(0, .ref (a 0)), (2, .int x2), (3, .int y15_3), (4, .int y15_4)] → W p l e (headSpec wsX3_lastIndex ({ frames := 1, cells := 0, slots := 0, locals := 21 } : Room)).room s m ([.ref (a 0), .int x1, .int x2] : List Value).toArray below meth c H locs 0 0 (MQ below (q_X3_lastIndex dC dI cy a v x1 x2 Q A) ([.ref (a 0), .int x1, .int x2] : List Value).toArray s 0 0 A) (F0 m 15 ls []) := by
      intro n
      induction n with
      | zero => intro y15_4 H locs ls _ hm; exact absurd hm (Nat.not_lt_zero _)
      | succ n ih =>
        intro y15_4 H locs ls hI hm hP hD hS hl
        have hq := hs15 y15_4 hI
        generalize hB15 : (fun (t0 : Int32) => I15 t0 ∧ μ15 t0 < μ15 y15_4) = B15 at hq
        have bk15 : ∀ (y15_4 : Int32) (H : Heap) (locs : List Loc) (ls : Array Slot), B15 y15_4 → va_P (dC, dI) vwCl (wX3 cy a v) H → va_D A (wX3 cy a v) → va_S A s.heap H locs → lv_has ls 5 [(0, .ref (a 0)), (2, .int x2), (3, .int y15_3), (4, .int y15_4)] → W p l e (headSpec wsX3_lastIndex ({ frames := 1, cells := 0, slots := 0, locals := 21 } : Room)).room s m ([.ref (a 0), .int x1, .int x2] : List Value).toArray below meth c H locs 0 0 (MQ below (q_X3_lastIndex dC dI cy a v x1 x2 Q A) ([.ref (a 0), .int x1, .int x2] : List Value).toArray s 0 0 A) (F0 m 15 ls []) := by
          intro y15_4 H locs ls h
          rw [← hB15] at h
          exact ih y15_4 H locs ls h.1 (Nat.lt_of_lt_of_le h.2 (Nat.le_of_lt_succ hm))
        unfold wb_X3_lastIndex_15 at hq
        refine lv_iload hx hb dX3_lastIndex_15 (lv_at hl 3 rfl) ?_
        refine lv_iload_n hx hb dX3_lastIndex_17 rfl (lv_at hl 2 rfl) ?_
        obtain ⟨hqA, hqB⟩ := hq
        refine lv_icmp_lt (tgt := 41) hx hb dX3_lastIndex_18 (by decide) (fun c3 => ?_) (fun c3 => ?_)
        · have hq := hqA c3
          refine lv_iconst (v := (-1)) hx hb dX3_lastIndex_41 (by decide) ?_
          exact W.iret (v := (-1)) hx hb hr (fun t ht hW => ⟨⟨(-1), (), rfl, hq, (xAt_of hP hK hD ht hW)⟩, hS.F ht⟩) hS.2.2 dX3_lastIndex_42
        · have hq := hqB c3
          refine lv_aload_n hx hb dX3_lastIndex_21 rfl (lv_at hl 0 rfl) ?_
          refine va_get (D := (dC, dI)) (ci := 3) (v := .ref (a 1)) (C := RX3) (T := TX3) (N := 4) hx hb hts iK3 hown hK hP 0 rfl rfl 0 (by decide) lk0 (fun _ h9 => h9) rfl dX3_lastIndex_22 ?_
          refine lv_iload hx hb dX3_lastIndex_25 (lv_at hl 3 rfl) ?_
          obtain ⟨g1, hq⟩ := hq
          refine va_iald hx hb hK hP 1 0 rfl rfl g1 dX3_lastIndex_27 ?_
          refine lv_iload_n hx hb dX3_lastIndex_28 rfl (lv_at hl 1 rfl) ?_
          obtain ⟨hqA, hqB⟩ := hq
          refine lv_icmp_ne (tgt := 35) hx hb dX3_lastIndex_29 (by decide) (fun c2 => ?_) (fun c2 => ?_)
          · have hq := hqB c2
            refine lv_iinc (v := (y15_4 + (-1))) (lv' := [(4, .int (y15_4 + (-1))), (0, .ref (a 0)), (2, .int x2), (3, .int y15_3)]) hx hb dX3_lastIndex_35 hl (k := 3) rfl rfl (by decide) rfl (fun ls hl => ?_)
            refine lv_goto (tgt := 15) hx hb dX3_lastIndex_38 (by decide) ?_
            exact bk15 (y15_4 + (-1)) _ _ _ hq hP hD hS (lv_sub hl [1, 2, 3, 0] rfl)
          · have hq := hqA c2
            refine lv_iload hx hb dX3_lastIndex_32 (lv_at hl 3 rfl) ?_
            exact W.iret (v := y15_4) hx hb hr (fun t ht hW => ⟨⟨y15_4, (), rfl, hq, (xAt_of hP hK hD ht hW)⟩, hS.F ht⟩) hS.2.2 dX3_lastIndex_34
    exact key _ y15_4 H locs ls h0 (Nat.lt_succ_self _) hP hD hS hl
  refine lv_aload_n hx hb dX3_lastIndex_0 rfl (lv_at hl 0 rfl) ?_
  refine lv_iload_n hx hb dX3_lastIndex_1 rfl (lv_at hl 1 rfl) ?_
  have hFc := xfree_same hS hAe0 (ws := (wX3 cy a v)) hD
  refine va_calli (va_runV (As := [.int x1]) (rest := []) ⟨hx, hb, hml, hown, hts⟩ (c_X3_from l dC dI cy a _ v x1 _ hq) (cwV 1 hts gX3_lastIndex_X3_from rfl rfl rfl (by decide +kernel) ⟨Nat.le_of_ble_eq_true rfl, Nat.le_of_ble_eq_true rfl⟩) ⟨xPre_blind, va_recv hK hP (ci := 3) (q0 := 0) rfl rfl, xPre_of hP hK hD⟩ rfl rfl hl.1 rfl (lv_room (Nat.le_of_ble_eq_true rfl)) dX3_lastIndex_2 ⟨Nat.le_of_ble_eq_true rfl, Nat.le_of_ble_eq_true rfl⟩) hS (fun q _ h => hFc q h) hFc (fun r2 u9 t H locs ht hvm hq hB hz1 hk1 hS => ?_)
  obtain ⟨hP1, -, hD1⟩ := hB
  rw [ht] at hP1
  have hP : va_P (dC, dI) vwCl (wX3 cy a v) H := hP1
  have hD : va_D A (wX3 cy a v) := hD1.weaken (fun _ q _ h => hFc q.1 h)
  refine lv_istore_n (lv' := [(3, .int r2), (0, .ref (a 0)), (1, .int x1), (2, .int x2)]) hx hb dX3_lastIndex_5 rfl hl (by decide) rfl (fun ls hl => ?_)
  refine lv_aload_n hx hb dX3_lastIndex_6 rfl (lv_at hl 1 rfl) ?_
  refine lv_iload_n hx hb dX3_lastIndex_7 rfl (lv_at hl 2 rfl) ?_
  have hFc := xfree_same hS hAe0 (ws := (wX3 cy a v)) hD
  refine va_calli (va_runV (As := [.int x1]) (rest := []) ⟨hx, hb, hml, hown, hts⟩ (c_X3_to l dC dI cy a _ v x1 _ hq) (cwV 1 hts gX3_lastIndex_X3_to rfl rfl rfl (by decide +kernel) ⟨Nat.le_of_ble_eq_true rfl, Nat.le_of_ble_eq_true rfl⟩) ⟨xPre_blind, va_recv hK hP (ci := 3) (q0 := 0) rfl rfl, xPre_of hP hK hD⟩ rfl rfl hl.1 rfl (lv_room (Nat.le_of_ble_eq_true rfl)) dX3_lastIndex_8 ⟨Nat.le_of_ble_eq_true rfl, Nat.le_of_ble_eq_true rfl⟩) hS (fun q _ h => hFc q h) hFc (fun r8 u9 t H locs ht hvm hq hB hz1 hk1 hS => ?_)
  obtain ⟨hP1, -, hD1⟩ := hB
  rw [ht] at hP1
  have hP : va_P (dC, dI) vwCl (wX3 cy a v) H := hP1
  have hD : va_D A (wX3 cy a v) := hD1.weaken (fun _ q _ h => hFc q.1 h)
  refine lv_iconst (v := 1) hx hb dX3_lastIndex_11 (by decide) ?_
  refine lv_isub hx hb dX3_lastIndex_12 ?_
  refine lv_istore (lv' := [(4, .int (r8 - 1)), (3, .int r2), (0, .ref (a 0)), (1, .int x1), (2, .int x2)]) hx hb dX3_lastIndex_13 hl (by decide) rfl (fun ls hl => ?_)
  exact J15 r2 (r8 - 1) _ _ _ hq hP hD hS (lv_sub hl [2, 4, 1, 0] rfl)
def wp_X3_endsAt (v : V_X3) (x1 : Int32) (x2 : Int32) (Q : Int32 → Prop) : Prop :=
  wp_X3_first v x1 (fun r2 =>
  ((r2 = x2 → Q 1) ∧
  (¬ r2 = x2 → wp_X3_last v x1 (fun r11 =>
  ((r11 = x2 → Q 1) ∧
  (¬ r11 = x2 → Q 0))))))
def q_X3_endsAt (dC : Nat → ClassId) (dI : Nat → Nat → Nat) (cy : Nat → ClassId) (a : Nat → Nat) (v : V_X3) (x1 : Int32) (x2 : Int32) (Q : Int32 → Prop) (A : Nat → Prop) : Array Value → State → Outcome → State → Prop := va_Qi (fun (r : Int32) (u : Unit) => Q r ) (fun (u : Unit) t => xAt dC dI cy A (wX3 cy a v) t) A
set_option maxHeartbeats 4000000 in
set_option maxRecDepth 100000 in
theorem c_X3_endsAt (l : Launch) (dC : Nat → ClassId) (dI : Nat → Nat → Nat) (cy : Nat → ClassId) (a : Nat → Nat) (sz : Nat) (v : V_X3) (x1 : Int32) (x2 : Int32) (Q : Int32 → Prop) (hq : wp_X3_endsAt v x1 x2 Q) : Met l yX3_endsAt wsX3_endsAt ({ frames := 3, cells := 0, slots := 0, locals := 64 } : Room) (va_Pc [.ref (a 0), .int x1, .int x2] (xPre dC dI cy (wX3 cy a v) sz)) (q_X3_endsAt dC dI cy a v x1 x2 Q (va_A (wX3 cy a v) sz)) 0 0 (va_A (wX3 cy a v) sz) := by
  refine Met.ofW (cc := cX3_endsAt) (maxL := 3) (ret := (some .boolean)) (by decide) rfl ?_
  intro p e s m args below meth c s₁ B hml hv
  obtain ⟨rfl, hsz, hP, hK, hD0⟩ := hv
  have hx := B.exec
  have hb := B.bytes
  have hr := B.returns
  have hts := atoms_spec (ws := wsX3_endsAt) B.pre
  have hown : s.vm.findClass RX3 = some m.cls := findClass_of_methodNamed B.named
  have hlocks := B.notSynchronized
  subst hsz
  have hD := hD0.self (sz := s.heap.size)
  generalize hAe : va_A (wX3 cy a v) s.heap.size = A at hD ⊢
  have hAe0 : ∀ q : Nat, s.heap.size ≤ q → A q := fun q h => by rw [← hAe]; exact Or.inr h
  have hS : va_S A s.heap s.heap [] := va_S.rf
  have hl := lv_entry ([.ref (a 0), .int x1, .int x2]) (n := 3) (Nat.le_of_ble_eq_true rfl)
  rw [lg_entry_eq]
  generalize (lg_sl ([.ref (a 0), .int x1, .int x2]) ++ List.replicate (3 - (lg_sl ([.ref (a 0), .int x1, .int x2])).length) Slot.unset).toArray = ls at hl ⊢
  have hl : lv_has ls 3 [(0, .ref (a 0)), (1, .int x1), (2, .int x2)] := hl
  unfold wp_X3_endsAt at hq
  refine lv_aload_n hx hb dX3_endsAt_0 rfl (lv_at hl 0 rfl) ?_
  refine lv_iload_n hx hb dX3_endsAt_1 rfl (lv_at hl 1 rfl) ?_
  have hFc := xfree_same hS hAe0 (ws := (wX3 cy a v)) hD
  refine va_calli (va_runV (As := [.int x1]) (rest := []) ⟨hx, hb, hml, hown, hts⟩ (c_X3_first l dC dI cy a _ v x1 _ hq) (cwV 1 hts gX3_endsAt_X3_first rfl rfl rfl (by decide +kernel) ⟨Nat.le_of_ble_eq_true rfl, Nat.le_of_ble_eq_true rfl⟩) ⟨xPre_blind, va_recv hK hP (ci := 3) (q0 := 0) rfl rfl, xPre_of hP hK hD⟩ rfl rfl hl.1 rfl (lv_room (Nat.le_of_ble_eq_true rfl)) dX3_endsAt_2 ⟨Nat.le_of_ble_eq_true rfl, Nat.le_of_ble_eq_true rfl⟩) hS (fun q _ h => hFc q h) hFc (fun r2 u9 t H locs ht hvm hq hB hz1 hk1 hS => ?_)
  obtain ⟨hP1, -, hD1⟩ := hB
  rw [ht] at hP1
  have hP : va_P (dC, dI) vwCl (wX3 cy a v) H := hP1
  have hD : va_D A (wX3 cy a v) := hD1.weaken (fun _ q _ h => hFc q.1 h)
  refine lv_iload_n hx hb dX3_endsAt_5 rfl (lv_at hl 2 rfl) ?_
  obtain ⟨hqA, hqB⟩ := hq
  refine lv_icmp_eq (tgt := 18) hx hb dX3_endsAt_6 (by decide) (fun c2 => ?_) (fun c2 => ?_)
  · have hq := hqA c2
    refine lv_iconst (v := 1) hx hb dX3_endsAt_18 (by decide) ?_
    refine lv_goto (tgt := 23) hx hb dX3_endsAt_19 (by decide) ?_
    exact W.zret (v := 1) hx hb hr rfl (fun t ht hW => ⟨⟨1, (), rfl, hq, (xAt_of hP hK hD ht hW)⟩, hS.F ht⟩) hS.2.2 dX3_endsAt_23
  · have hq := hqB c2
    refine lv_aload_n hx hb dX3_endsAt_9 rfl (lv_at hl 0 rfl) ?_
    refine lv_iload_n hx hb dX3_endsAt_10 rfl (lv_at hl 1 rfl) ?_
    have hFc := xfree_same hS hAe0 (ws := (wX3 cy a v)) hD
    refine va_calli (va_runV (As := [.int x1]) (rest := []) ⟨hx, hb, hml, hown, hts⟩ (c_X3_last l dC dI cy a _ v x1 _ hq) (cwV 1 hts gX3_endsAt_X3_last rfl rfl rfl (by decide +kernel) ⟨Nat.le_of_ble_eq_true rfl, Nat.le_of_ble_eq_true rfl⟩) ⟨xPre_blind, va_recv hK hP (ci := 3) (q0 := 0) rfl rfl, xPre_of hP hK hD⟩ rfl rfl hl.1 rfl (lv_room (Nat.le_of_ble_eq_true rfl)) dX3_endsAt_11 ⟨Nat.le_of_ble_eq_true rfl, Nat.le_of_ble_eq_true rfl⟩) hS (fun q _ h => hFc q h) hFc (fun r11 u9 t H locs ht hvm hq hB hz1 hk1 hS => ?_)
    obtain ⟨hP1, -, hD1⟩ := hB
    rw [ht] at hP1
    have hP : va_P (dC, dI) vwCl (wX3 cy a v) H := hP1
    have hD : va_D A (wX3 cy a v) := hD1.weaken (fun _ q _ h => hFc q.1 h)
    refine lv_iload_n hx hb dX3_endsAt_14 rfl (lv_at hl 2 rfl) ?_
    obtain ⟨hqA, hqB⟩ := hq
    refine lv_icmp_ne (tgt := 22) hx hb dX3_endsAt_15 (by decide) (fun c1 => ?_) (fun c1 => ?_)
    · have hq := hqB c1
      refine lv_iconst (v := 0) hx hb dX3_endsAt_22 (by decide) ?_
      exact W.zret (v := 0) hx hb hr rfl (fun t ht hW => ⟨⟨0, (), rfl, hq, (xAt_of hP hK hD ht hW)⟩, hS.F ht⟩) hS.2.2 dX3_endsAt_23
    · have hq := hqA c1
      refine lv_iconst (v := 1) hx hb dX3_endsAt_18 (by decide) ?_
      refine lv_goto (tgt := 23) hx hb dX3_endsAt_19 (by decide) ?_
      exact W.zret (v := 1) hx hb hr rfl (fun t ht hW => ⟨⟨1, (), rfl, hq, (xAt_of hP hK hD ht hW)⟩, hS.F ht⟩) hS.2.2 dX3_endsAt_23
def wp_X3_otherEnd (v : V_X3) (x1 : Int32) (x2 : Int32) (Q : Int32 → Prop) : Prop :=
  wp_X3_first v x1 (fun r2 =>
  ((r2 = x2 → wp_X3_last v x1 (fun r11 =>
  Q r11)) ∧
  (¬ r2 = x2 → wp_X3_first v x1 (fun r19 =>
  Q r19))))
def q_X3_otherEnd (dC : Nat → ClassId) (dI : Nat → Nat → Nat) (cy : Nat → ClassId) (a : Nat → Nat) (v : V_X3) (x1 : Int32) (x2 : Int32) (Q : Int32 → Prop) (A : Nat → Prop) : Array Value → State → Outcome → State → Prop := va_Qi (fun (r : Int32) (u : Unit) => Q r ) (fun (u : Unit) t => xAt dC dI cy A (wX3 cy a v) t) A
set_option maxHeartbeats 4000000 in
set_option maxRecDepth 100000 in
theorem c_X3_otherEnd (l : Launch) (dC : Nat → ClassId) (dI : Nat → Nat → Nat) (cy : Nat → ClassId) (a : Nat → Nat) (sz : Nat) (v : V_X3) (x1 : Int32) (x2 : Int32) (Q : Int32 → Prop) (hq : wp_X3_otherEnd v x1 x2 Q) : Met l yX3_otherEnd wsX3_otherEnd ({ frames := 3, cells := 0, slots := 0, locals := 64 } : Room) (va_Pc [.ref (a 0), .int x1, .int x2] (xPre dC dI cy (wX3 cy a v) sz)) (q_X3_otherEnd dC dI cy a v x1 x2 Q (va_A (wX3 cy a v) sz)) 0 0 (va_A (wX3 cy a v) sz) := by
  refine Met.ofW (cc := cX3_otherEnd) (maxL := 3) (ret := (some .int)) (by decide) rfl ?_
  intro p e s m args below meth c s₁ B hml hv
  obtain ⟨rfl, hsz, hP, hK, hD0⟩ := hv
  have hx := B.exec
  have hb := B.bytes
  have hr := B.returns
  have hts := atoms_spec (ws := wsX3_otherEnd) B.pre
  have hown : s.vm.findClass RX3 = some m.cls := findClass_of_methodNamed B.named
  have hlocks := B.notSynchronized
  subst hsz
  have hD := hD0.self (sz := s.heap.size)
  generalize hAe : va_A (wX3 cy a v) s.heap.size = A at hD ⊢
  have hAe0 : ∀ q : Nat, s.heap.size ≤ q → A q := fun q h => by rw [← hAe]; exact Or.inr h
  have hS : va_S A s.heap s.heap [] := va_S.rf
  have hl := lv_entry ([.ref (a 0), .int x1, .int x2]) (n := 3) (Nat.le_of_ble_eq_true rfl)
  rw [lg_entry_eq]
  generalize (lg_sl ([.ref (a 0), .int x1, .int x2]) ++ List.replicate (3 - (lg_sl ([.ref (a 0), .int x1, .int x2])).length) Slot.unset).toArray = ls at hl ⊢
  have hl : lv_has ls 3 [(0, .ref (a 0)), (1, .int x1), (2, .int x2)] := hl
  unfold wp_X3_otherEnd at hq
  refine lv_aload_n hx hb dX3_otherEnd_0 rfl (lv_at hl 0 rfl) ?_
  refine lv_iload_n hx hb dX3_otherEnd_1 rfl (lv_at hl 1 rfl) ?_
  have hFc := xfree_same hS hAe0 (ws := (wX3 cy a v)) hD
  refine va_calli (va_runV (As := [.int x1]) (rest := []) ⟨hx, hb, hml, hown, hts⟩ (c_X3_first l dC dI cy a _ v x1 _ hq) (cwV 1 hts gX3_otherEnd_X3_first rfl rfl rfl (by decide +kernel) ⟨Nat.le_of_ble_eq_true rfl, Nat.le_of_ble_eq_true rfl⟩) ⟨xPre_blind, va_recv hK hP (ci := 3) (q0 := 0) rfl rfl, xPre_of hP hK hD⟩ rfl rfl hl.1 rfl (lv_room (Nat.le_of_ble_eq_true rfl)) dX3_otherEnd_2 ⟨Nat.le_of_ble_eq_true rfl, Nat.le_of_ble_eq_true rfl⟩) hS (fun q _ h => hFc q h) hFc (fun r2 u9 t H locs ht hvm hq hB hz1 hk1 hS => ?_)
  obtain ⟨hP1, -, hD1⟩ := hB
  rw [ht] at hP1
  have hP : va_P (dC, dI) vwCl (wX3 cy a v) H := hP1
  have hD : va_D A (wX3 cy a v) := hD1.weaken (fun _ q _ h => hFc q.1 h)
  refine lv_iload_n hx hb dX3_otherEnd_5 rfl (lv_at hl 2 rfl) ?_
  obtain ⟨hqA, hqB⟩ := hq
  refine lv_icmp_ne (tgt := 17) hx hb dX3_otherEnd_6 (by decide) (fun c1 => ?_) (fun c1 => ?_)
  · have hq := hqB c1
    refine lv_aload_n hx hb dX3_otherEnd_17 rfl (lv_at hl 0 rfl) ?_
    refine lv_iload_n hx hb dX3_otherEnd_18 rfl (lv_at hl 1 rfl) ?_
    have hFc := xfree_same hS hAe0 (ws := (wX3 cy a v)) hD
    refine va_calli (va_runV (As := [.int x1]) (rest := []) ⟨hx, hb, hml, hown, hts⟩ (c_X3_first l dC dI cy a _ v x1 _ hq) (cwV 1 hts gX3_otherEnd_X3_first rfl rfl rfl (by decide +kernel) ⟨Nat.le_of_ble_eq_true rfl, Nat.le_of_ble_eq_true rfl⟩) ⟨xPre_blind, va_recv hK hP (ci := 3) (q0 := 0) rfl rfl, xPre_of hP hK hD⟩ rfl rfl hl.1 rfl (lv_room (Nat.le_of_ble_eq_true rfl)) dX3_otherEnd_19 ⟨Nat.le_of_ble_eq_true rfl, Nat.le_of_ble_eq_true rfl⟩) hS (fun q _ h => hFc q h) hFc (fun r19 u9 t H locs ht hvm hq hB hz1 hk1 hS => ?_)
    obtain ⟨hP1, -, hD1⟩ := hB
    rw [ht] at hP1
    have hP : va_P (dC, dI) vwCl (wX3 cy a v) H := hP1
    have hD : va_D A (wX3 cy a v) := hD1.weaken (fun _ q _ h => hFc q.1 h)
    exact W.iret (v := r19) hx hb hr (fun t ht hW => ⟨⟨r19, (), rfl, hq, (xAt_of hP hK hD ht hW)⟩, hS.F ht⟩) hS.2.2 dX3_otherEnd_22
  · have hq := hqA c1
    refine lv_aload_n hx hb dX3_otherEnd_9 rfl (lv_at hl 0 rfl) ?_
    refine lv_iload_n hx hb dX3_otherEnd_10 rfl (lv_at hl 1 rfl) ?_
    have hFc := xfree_same hS hAe0 (ws := (wX3 cy a v)) hD
    refine va_calli (va_runV (As := [.int x1]) (rest := []) ⟨hx, hb, hml, hown, hts⟩ (c_X3_last l dC dI cy a _ v x1 _ hq) (cwV 1 hts gX3_otherEnd_X3_last rfl rfl rfl (by decide +kernel) ⟨Nat.le_of_ble_eq_true rfl, Nat.le_of_ble_eq_true rfl⟩) ⟨xPre_blind, va_recv hK hP (ci := 3) (q0 := 0) rfl rfl, xPre_of hP hK hD⟩ rfl rfl hl.1 rfl (lv_room (Nat.le_of_ble_eq_true rfl)) dX3_otherEnd_11 ⟨Nat.le_of_ble_eq_true rfl, Nat.le_of_ble_eq_true rfl⟩) hS (fun q _ h => hFc q h) hFc (fun r11 u9 t H locs ht hvm hq hB hz1 hk1 hS => ?_)
    obtain ⟨hP1, -, hD1⟩ := hB
    rw [ht] at hP1
    have hP : va_P (dC, dI) vwCl (wX3 cy a v) H := hP1
    have hD : va_D A (wX3 cy a v) := hD1.weaken (fun _ q _ h => hFc q.1 h)
    refine lv_goto (tgt := 22) hx hb dX3_otherEnd_14 (by decide) ?_
    exact W.iret (v := r11) hx hb hr (fun t ht hW => ⟨⟨r11, (), rfl, hq, (xAt_of hP hK hD ht hW)⟩, hS.F ht⟩) hS.2.2 dX3_otherEnd_22
def wb_X3_endingAt_2 (v : V_X3) (x1 : Int32) (x2 : Int32)  (y2_3 : Int32) (B2 : Int32 → Prop) (Q : Int32 → Prop) : Prop :=
  (((X3_size v) ≤ y2_3 → Q (-1)) ∧
  (¬ (X3_size v) ≤ y2_3 → wp_X3_endsAt v y2_3 x1 (fun r13 =>
  ((r13 = 0 → B2 (y2_3 + 1)) ∧
  (¬ r13 = 0 → Q y2_3)))))
def wp_X3_endingAt_2 (v : V_X3) (x1 : Int32) (x2 : Int32)  (y2_3 : Int32) (Q : Int32 → Prop) : Prop :=
  ∃ (I : Int32 → Prop) (μ : Int32 → Nat), I y2_3 ∧ ∀ (s0 : Int32), I s0 → wb_X3_endingAt_2 v x1 x2  s0 (fun t0 => I t0 ∧ μ t0 < μ s0) Q
def wp_X3_endingAt (v : V_X3) (x1 : Int32) (x2 : Int32) (Q : Int32 → Prop) : Prop :=
  wp_X3_endingAt_2 v x1 x2  x2 Q
def q_X3_endingAt (dC : Nat → ClassId) (dI : Nat → Nat → Nat) (cy : Nat → ClassId) (a : Nat → Nat) (v : V_X3) (x1 : Int32) (x2 : Int32) (Q : Int32 → Prop) (A : Nat → Prop) : Array Value → State → Outcome → State → Prop := va_Qi (fun (r : Int32) (u : Unit) => Q r ) (fun (u : Unit) t => xAt dC dI cy A (wX3 cy a v) t) A
set_option maxHeartbeats 4000000 in
set_option maxRecDepth 100000 in
theorem c_X3_endingAt (l : Launch) (dC : Nat → ClassId) (dI : Nat → Nat → Nat) (cy : Nat → ClassId) (a : Nat → Nat) (sz : Nat) (v : V_X3) (x1 : Int32) (x2 : Int32) (Q : Int32 → Prop) (hq : wp_X3_endingAt v x1 x2 Q) : Met l yX3_endingAt wsX3_endingAt ({ frames := 4, cells := 0, slots := 0, locals := 86 } : Room) (va_Pc [.ref (a 0), .int x1, .int x2] (xPre dC dI cy (wX3 cy a v) sz)) (q_X3_endingAt dC dI cy a v x1 x2 Q (va_A (wX3 cy a v) sz)) 0 0 (va_A (wX3 cy a v) sz) := by
  refine Met.ofW (cc := cX3_endingAt) (maxL := 4) (ret := (some .int)) (by decide) rfl ?_
  intro p e s m args below meth c s₁ B hml hv
  obtain ⟨rfl, hsz, hP, hK, hD0⟩ := hv
  have hx := B.exec
  have hb := B.bytes
  have hr := B.returns
  have hts := atoms_spec (ws := wsX3_endingAt) B.pre
  have hown : s.vm.findClass RX3 = some m.cls := findClass_of_methodNamed B.named
  have hlocks := B.notSynchronized
  subst hsz
  have hD := hD0.self (sz := s.heap.size)
  generalize hAe : va_A (wX3 cy a v) s.heap.size = A at hD ⊢
  have hAe0 : ∀ q : Nat, s.heap.size ≤ q → A q := fun q h => by rw [← hAe]; exact Or.inr h
  have hS : va_S A s.heap s.heap [] := va_S.rf
  have hl := lv_entry ([.ref (a 0), .int x1, .int x2]) (n := 4) (Nat.le_of_ble_eq_true rfl)
  rw [lg_entry_eq]
  generalize (lg_sl ([.ref (a 0), .int x1, .int x2]) ++ List.replicate (4 - (lg_sl ([.ref (a 0), .int x1, .int x2])).length) Slot.unset).toArray = ls at hl ⊢
  have hl : lv_has ls 4 [(0, .ref (a 0)), (1, .int x1), (2, .int x2)] := hl
  have lk0 := hts (Cond.fieldLink RX3 22 "MolesLawn$Rows" "size" "I") (List.mem_cons_of_mem _ (List.mem_append_left _ (List.mem_append_left _ (List.mem_of_getElem? (i := 0) rfl))))
  have iK3 : ∀ w ∈ wsX30, w ∈ wsX3_endingAt := fun _ h => (List.mem_cons_of_mem _ (List.mem_append_right _ h))
  unfold wp_X3_endingAt at hq
  have J2 : ∀  (y2_3 : Int32) (H : Heap) (locs : List Loc) (ls : Array Slot), wp_X3_endingAt_2 v x1 x2  y2_3 Q → va_P (dC, dI) vwCl (wX3 cy a v) H → va_D A (wX3 cy a v) → va_S A s.heap H locs → lv_has ls 4 [(0, .ref (a 0)), (1, .int x1), (3, .int y2_3)] → W p l e (headSpec wsX3_endingAt ({ frames := 4, cells := 0, slots := 0, locals := 86 } : Room)).room s m ([.ref (a 0), .int x1, .int x2] : List Value).toArray below meth c H locs 0 0 (MQ below (q_X3_endingAt dC dI cy a v x1 x2 Q A) ([.ref (a 0), .int x1, .int x2] : List Value).toArray s 0 0 A) (F0 m 2 ls []) := by
    intro  y2_3 H locs ls hq hP hD hS hl
    obtain ⟨I2, μ2, h0, hs2⟩ := hq
    have key : ∀ (n : Nat) (y2_3 : Int32) (H : Heap) (locs : List Loc) (ls : Array Slot), I2 y2_3 → μ2 y2_3 < n → va_P (dC, dI) vwCl (wX3 cy a v) H → va_D A (wX3 cy a v) → va_S A s.heap H locs → lv_has ls 4 [(0, .ref (a 0)), (1, .int x1), (3, .int y2_3)] → W p l e (headSpec wsX3_endingAt ({ frames := 4, cells := 0, slots := 0, locals := 86 } : Room)).room s m ([.ref (a 0), .int x1, .int x2] : List Value).toArray below meth c H locs 0 0 (MQ below (q_X3_endingAt dC dI cy a v x1 x2 Q A) ([.ref (a 0), .int x1, .int x2] : List Value).toArray s 0 0 A) (F0 m 2 ls []) := by
      intro n
      induction n with
      | zero => intro y2_3 H locs ls _ hm; exact absurd hm (Nat.not_lt_zero _)
      | succ n ih =>
        intro y2_3 H locs ls hI hm hP hD hS hl
        have hq := hs2 y2_3 hI
        generalize hB2 : (fun (t0 : Int32) => I2 t0 ∧ μ2 t0 < μ2 y2_3) = B2 at hq
        have bk2 : ∀ (y2_3 : Int32) (H : Heap) (locs : List Loc) (ls : Array Slot), B2 y2_3 → va_P (dC, dI) vwCl (wX3 cy a v) H → va_D A (wX3 cy a v) → va_S A s.heap H locs → lv_has ls 4 [(0, .ref (a 0)), (1, .int x1), (3, .int y2_3)] → W p l e (headSpec wsX3_endingAt ({ frames := 4, cells := 0, slots := 0, locals := 86 } : Room)).room s m ([.ref (a 0), .int x1, .int x2] : List Value).toArray below meth c H locs 0 0 (MQ below (q_X3_endingAt dC dI cy a v x1 x2 Q A) ([.ref (a 0), .int x1, .int x2] : List Value).toArray s 0 0 A) (F0 m 2 ls []) := by
          intro y2_3 H locs ls h
          rw [← hB2] at h
          exact ih y2_3 H locs ls h.1 (Nat.lt_of_lt_of_le h.2 (Nat.le_of_lt_succ hm))
        unfold wb_X3_endingAt_2 at hq
        refine lv_iload_n hx hb dX3_endingAt_2 rfl (lv_at hl 2 rfl) ?_
        refine lv_aload_n hx hb dX3_endingAt_3 rfl (lv_at hl 0 rfl) ?_
        refine va_get (D := (dC, dI)) (ci := 3) (v := .int (X3_size v)) (C := RX3) (T := TX3) (N := 4) hx hb hts iK3 hown hK hP 0 rfl rfl 3 (by decide) lk0 (fun _ h9 => h9) rfl dX3_endingAt_4 ?_
        obtain ⟨hqA, hqB⟩ := hq
        refine lv_icmp_ge (tgt := 27) hx hb dX3_endingAt_7 (by decide) (fun c2 => ?_) (fun c2 => ?_)
        · have hq := hqA c2
          refine lv_iconst (v := (-1)) hx hb dX3_endingAt_27 (by decide) ?_
          exact W.iret (v := (-1)) hx hb hr (fun t ht hW => ⟨⟨(-1), (), rfl, hq, (xAt_of hP hK hD ht hW)⟩, hS.F ht⟩) hS.2.2 dX3_endingAt_28
        · have hq := hqB c2
          refine lv_aload_n hx hb dX3_endingAt_10 rfl (lv_at hl 0 rfl) ?_
          refine lv_iload_n hx hb dX3_endingAt_11 rfl (lv_at hl 2 rfl) ?_
          refine lv_iload_n hx hb dX3_endingAt_12 rfl (lv_at hl 1 rfl) ?_
          have hFc := xfree_same hS hAe0 (ws := (wX3 cy a v)) hD
          refine va_calli (va_runV (As := [.int y2_3, .int x1]) (rest := []) ⟨hx, hb, hml, hown, hts⟩ (c_X3_endsAt l dC dI cy a _ v y2_3 x1 _ hq) (cwV 2 hts gX3_endingAt_X3_endsAt rfl rfl rfl (by decide +kernel) ⟨Nat.le_of_ble_eq_true rfl, Nat.le_of_ble_eq_true rfl⟩) ⟨xPre_blind, va_recv hK hP (ci := 3) (q0 := 0) rfl rfl, xPre_of hP hK hD⟩ rfl rfl hl.1 rfl (lv_room (Nat.le_of_ble_eq_true rfl)) dX3_endingAt_13 ⟨Nat.le_of_ble_eq_true rfl, Nat.le_of_ble_eq_true rfl⟩) hS (fun q _ h => hFc q h) hFc (fun r13 u9 t H locs ht hvm hq hB hz1 hk1 hS => ?_)
          obtain ⟨hP1, -, hD1⟩ := hB
          rw [ht] at hP1
          have hP : va_P (dC, dI) vwCl (wX3 cy a v) H := hP1
          have hD : va_D A (wX3 cy a v) := hD1.weaken (fun _ q _ h => hFc q.1 h)
          obtain ⟨hqA, hqB⟩ := hq
          refine lv_if_eq (tgt := 21) hx hb dX3_endingAt_16 (by decide) (fun c1 => ?_) (fun c1 => ?_)
          · have hq := hqA c1
            refine lv_iinc (v := (y2_3 + 1)) (lv' := [(3, .int (y2_3 + 1)), (0, .ref (a 0)), (1, .int x1)]) hx hb dX3_endingAt_21 hl (k := 2) rfl rfl (by decide) rfl (fun ls hl => ?_)
            refine lv_goto (tgt := 2) hx hb dX3_endingAt_24 (by decide) ?_
            exact bk2 (y2_3 + 1) _ _ _ hq hP hD hS (lv_sub hl [1, 2, 0] rfl)
          · have hq := hqB c1
            refine lv_iload_n hx hb dX3_endingAt_19 rfl (lv_at hl 2 rfl) ?_
            exact W.iret (v := y2_3) hx hb hr (fun t ht hW => ⟨⟨y2_3, (), rfl, hq, (xAt_of hP hK hD ht hW)⟩, hS.F ht⟩) hS.2.2 dX3_endingAt_20
    exact key _ y2_3 H locs ls h0 (Nat.lt_succ_self _) hP hD hS hl
  refine lv_iload_n hx hb dX3_endingAt_0 rfl (lv_at hl 2 rfl) ?_
  refine lv_istore_n (lv' := [(3, .int x2), (0, .ref (a 0)), (1, .int x1), (2, .int x2)]) hx hb dX3_endingAt_1 rfl hl (by decide) rfl (fun ls hl => ?_)
  exact J2  x2 _ _ _ hq hP hD hS (lv_sub hl [1, 2, 0] rfl)
def wp_X3_put (v : V_X3) (x1 : Int32) (Q : (Nat → Int32) → Int32 → Prop) : Prop :=
  ((1024 ≤ (X3_used v) → Q (X3_cells v) (X3_used v)) ∧
  (¬ 1024 ≤ (X3_used v) → vp_in (X3_used v) 1024 ∧ Q (upd (X3_cells v) (X3_used v).toNatClampNeg x1) ((X3_used v) + 1)))
def q_X3_put (dC : Nat → ClassId) (dI : Nat → Nat → Nat) (cy : Nat → ClassId) (a : Nat → Nat) (v : V_X3) (x1 : Int32) (Q : (Nat → Int32) → Int32 → Prop) (A : Nat → Prop) : Array Value → State → Outcome → State → Prop := va_Qv (fun (u : (Nat → Int32) × Int32) => Q u.1 u.2) (fun (u : (Nat → Int32) × Int32) t => xAt dC dI cy A (cX3 cy a u.1 (X3_ends v) u.2 (X3_size v)) t) A
set_option maxHeartbeats 4000000 in
set_option maxRecDepth 100000 in
theorem c_X3_put (l : Launch) (dC : Nat → ClassId) (dI : Nat → Nat → Nat) (cy : Nat → ClassId) (a : Nat → Nat) (sz : Nat) (v : V_X3) (x1 : Int32) (Q : (Nat → Int32) → Int32 → Prop) (hq : wp_X3_put v x1 Q) : Met l yX3_put wsX3_put ({ frames := 0, cells := 0, slots := 0, locals := 0 } : Room) (va_Pc [.ref (a 0), .int x1] (xPre dC dI cy (wX3 cy a v) sz)) (q_X3_put dC dI cy a v x1 Q (va_A (wX3 cy a v) sz)) 0 0 (va_A (wX3 cy a v) sz) := by
  refine Met.ofW (cc := cX3_put) (maxL := 2) (ret := none) (by decide) rfl ?_
  intro p e s m args below meth c s₁ B hml hv
  obtain ⟨rfl, hsz, hP, hK, hD0⟩ := hv
  have hx := B.exec
  have hb := B.bytes
  have hr := B.returns
  have hts := atoms_spec (ws := wsX3_put) B.pre
  have hown : s.vm.findClass RX3 = some m.cls := findClass_of_methodNamed B.named
  have hlocks := B.notSynchronized
  subst hsz
  have hD := hD0.self (sz := s.heap.size)
  generalize hAe : va_A (wX3 cy a v) s.heap.size = A at hD ⊢
  have hAe0 : ∀ q : Nat, s.heap.size ≤ q → A q := fun q h => by rw [← hAe]; exact Or.inr h
  have hS : va_S A s.heap s.heap [] := va_S.rf
  have hl := lv_entry ([.ref (a 0), .int x1]) (n := 2) (Nat.le_of_ble_eq_true rfl)
  rw [lg_entry_eq]
  generalize (lg_sl ([.ref (a 0), .int x1]) ++ List.replicate (2 - (lg_sl ([.ref (a 0), .int x1])).length) Slot.unset).toArray = ls at hl ⊢
  have hl : lv_has ls 2 [(0, .ref (a 0)), (1, .int x1)] := hl
  have lk0 := hts (Cond.fieldLink RX3 18 "MolesLawn$Rows" "used" "I") (List.mem_cons_of_mem _ (List.mem_append_left _ (List.mem_of_getElem? (i := 0) rfl)))
  have lk1 := hts (Cond.fieldLink RX3 9 "MolesLawn$Rows" "cells" "[I") (List.mem_cons_of_mem _ (List.mem_append_left _ (List.mem_of_getElem? (i := 1) rfl)))
  have iK3 : ∀ w ∈ wsX30, w ∈ wsX3_put := fun _ h => (List.mem_cons_of_mem _ (List.mem_append_right _ h))
  unfold wp_X3_put at hq
  refine lv_aload_n hx hb dX3_put_0 rfl (lv_at hl 0 rfl) ?_
  refine va_get (D := (dC, dI)) (ci := 3) (v := .int (X3_used v)) (C := RX3) (T := TX3) (N := 4) hx hb hts iK3 hown hK hP 0 rfl rfl 2 (by decide) lk0 (fun _ h9 => h9) rfl dX3_put_1 ?_
  refine lv_aload_n hx hb dX3_put_4 rfl (lv_at hl 0 rfl) ?_
  refine va_get (D := (dC, dI)) (ci := 3) (v := .ref (a 1)) (C := RX3) (T := TX3) (N := 4) hx hb hts iK3 hown hK hP 0 rfl rfl 0 (by decide) lk1 (fun _ h9 => h9) rfl dX3_put_5 ?_
  refine va_alen (v := 1024) hx hb hK hP 1 0 rfl rfl rfl dX3_put_8 ?_
  obtain ⟨hqA, hqB⟩ := hq
  refine lv_icmp_ge (tgt := 32) hx hb dX3_put_9 (by decide) (fun c2 => ?_) (fun c2 => ?_)
  · have hq := hqA c2
    exact W.vret hx hb hr (fun t ht hW => ⟨⟨((X3_cells v), (X3_used v)), rfl, hq, (xAt_of hP hK hD ht hW)⟩, hS.F ht⟩) hS.2.2 dX3_put_32
  · have hq := hqB c2
    refine lv_aload_n hx hb dX3_put_12 rfl (lv_at hl 0 rfl) ?_
    refine va_get (D := (dC, dI)) (ci := 3) (v := .ref (a 1)) (C := RX3) (T := TX3) (N := 4) hx hb hts iK3 hown hK hP 0 rfl rfl 0 (by decide) lk1 (fun _ h9 => h9) rfl dX3_put_13 ?_
    refine lv_aload_n hx hb dX3_put_16 rfl (lv_at hl 0 rfl) ?_
    refine va_get (D := (dC, dI)) (ci := 3) (v := .int (X3_used v)) (C := RX3) (T := TX3) (N := 4) hx hb hts iK3 hown hK hP 0 rfl rfl 2 (by decide) lk0 (fun _ h9 => h9) rfl dX3_put_17 ?_
    refine lv_iload_n hx hb dX3_put_20 rfl (lv_at hl 1 rfl) ?_
    obtain ⟨g1, hq⟩ := hq
    refine va_iast hx hb hK hP hD hS 1 0 rfl rfl g1 dX3_put_21 (fun H locs hP hD hS => ?_)
    have hP : va_P (dC, dI) vwCl (cX3 cy a (upd (X3_cells v) (X3_used v).toNatClampNeg x1) (X3_ends v) (X3_used v) (X3_size v)) H := hP
    have hD : va_D A (cX3 cy a (upd (X3_cells v) (X3_used v).toNatClampNeg x1) (X3_ends v) (X3_used v) (X3_size v)) := hD
    refine lv_aload_n hx hb dX3_put_22 rfl (lv_at hl 0 rfl) ?_
    refine lv_dup hx hb dX3_put_23 rfl ?_
    refine va_get (D := (dC, dI)) (ci := 3) (v := .int (X3_used v)) (C := RX3) (T := TX3) (N := 4) hx hb hts iK3 hown hK hP 0 rfl rfl 2 (by decide) lk0 (fun _ h9 => h9) rfl dX3_put_24 ?_
    refine lv_iconst (v := 1) hx hb dX3_put_27 (by decide) ?_
    refine lv_iadd hx hb dX3_put_28 ?_
    refine va_put (D := (dC, dI)) (ci := 3) (v := .int ((X3_used v) + 1)) (ty := .int) (C := RX3) (T := TX3) (N := 4) hx hb hts iK3 tyX3 tyX3_ok nmX3 hown hK hP hD hS 0 rfl rfl 2 (by decide) lk0 (fun _ h9 => h9) rfl (by decide +kernel) rfl rfl (Nat.le_of_ble_eq_true rfl) dX3_put_29 (fun H locs hP hD hS => ?_)
    have hP : va_P (dC, dI) vwCl (cX3 cy a (upd (X3_cells v) (X3_used v).toNatClampNeg x1) (X3_ends v) ((X3_used v) + 1) (X3_size v)) H := hP
    have hD : va_D A (cX3 cy a (upd (X3_cells v) (X3_used v).toNatClampNeg x1) (X3_ends v) ((X3_used v) + 1) (X3_size v)) := hD
    exact W.vret hx hb hr (fun t ht hW => ⟨⟨((upd (X3_cells v) (X3_used v).toNatClampNeg x1), ((X3_used v) + 1)), rfl, hq, (xAt_of hP hK hD ht hW)⟩, hS.F ht⟩) hS.2.2 dX3_put_32
def wp_X3_close (v : V_X3) (Q : (Nat → Int32) → Int32 → Prop) : Prop :=
  ((512 ≤ (X3_size v) → Q (X3_ends v) (X3_size v)) ∧
  (¬ 512 ≤ (X3_size v) → vp_in (X3_size v) 512 ∧ Q (upd (X3_ends v) (X3_size v).toNatClampNeg (X3_used v)) ((X3_size v) + 1)))
def q_X3_close (dC : Nat → ClassId) (dI : Nat → Nat → Nat) (cy : Nat → ClassId) (a : Nat → Nat) (v : V_X3) (Q : (Nat → Int32) → Int32 → Prop) (A : Nat → Prop) : Array Value → State → Outcome → State → Prop := va_Qv (fun (u : (Nat → Int32) × Int32) => Q u.1 u.2) (fun (u : (Nat → Int32) × Int32) t => xAt dC dI cy A (cX3 cy a (X3_cells v) u.1 (X3_used v) u.2) t) A
set_option maxHeartbeats 4000000 in
set_option maxRecDepth 100000 in
theorem c_X3_close (l : Launch) (dC : Nat → ClassId) (dI : Nat → Nat → Nat) (cy : Nat → ClassId) (a : Nat → Nat) (sz : Nat) (v : V_X3) (Q : (Nat → Int32) → Int32 → Prop) (hq : wp_X3_close v Q) : Met l yX3_close wsX3_close ({ frames := 0, cells := 0, slots := 0, locals := 0 } : Room) (va_Pc [.ref (a 0)] (xPre dC dI cy (wX3 cy a v) sz)) (q_X3_close dC dI cy a v Q (va_A (wX3 cy a v) sz)) 0 0 (va_A (wX3 cy a v) sz) := by
  refine Met.ofW (cc := cX3_close) (maxL := 1) (ret := none) (by decide) rfl ?_
  intro p e s m args below meth c s₁ B hml hv
  obtain ⟨rfl, hsz, hP, hK, hD0⟩ := hv
  have hx := B.exec
  have hb := B.bytes
  have hr := B.returns
  have hts := atoms_spec (ws := wsX3_close) B.pre
  have hown : s.vm.findClass RX3 = some m.cls := findClass_of_methodNamed B.named
  have hlocks := B.notSynchronized
  subst hsz
  have hD := hD0.self (sz := s.heap.size)
  generalize hAe : va_A (wX3 cy a v) s.heap.size = A at hD ⊢
  have hAe0 : ∀ q : Nat, s.heap.size ≤ q → A q := fun q h => by rw [← hAe]; exact Or.inr h
  have hS : va_S A s.heap s.heap [] := va_S.rf
  have hl := lv_entry ([.ref (a 0)]) (n := 1) (Nat.le_of_ble_eq_true rfl)
  rw [lg_entry_eq]
  generalize (lg_sl ([.ref (a 0)]) ++ List.replicate (1 - (lg_sl ([.ref (a 0)])).length) Slot.unset).toArray = ls at hl ⊢
  have hl : lv_has ls 1 [(0, .ref (a 0))] := hl
  have lk0 := hts (Cond.fieldLink RX3 22 "MolesLawn$Rows" "size" "I") (List.mem_cons_of_mem _ (List.mem_append_left _ (List.mem_of_getElem? (i := 0) rfl)))
  have lk1 := hts (Cond.fieldLink RX3 15 "MolesLawn$Rows" "ends" "[I") (List.mem_cons_of_mem _ (List.mem_append_left _ (List.mem_of_getElem? (i := 1) rfl)))
  have lk2 := hts (Cond.fieldLink RX3 18 "MolesLawn$Rows" "used" "I") (List.mem_cons_of_mem _ (List.mem_append_left _ (List.mem_of_getElem? (i := 2) rfl)))
  have iK3 : ∀ w ∈ wsX30, w ∈ wsX3_close := fun _ h => (List.mem_cons_of_mem _ (List.mem_append_right _ h))
  unfold wp_X3_close at hq
  refine lv_aload_n hx hb dX3_close_0 rfl (lv_at hl 0 rfl) ?_
  refine va_get (D := (dC, dI)) (ci := 3) (v := .int (X3_size v)) (C := RX3) (T := TX3) (N := 4) hx hb hts iK3 hown hK hP 0 rfl rfl 3 (by decide) lk0 (fun _ h9 => h9) rfl dX3_close_1 ?_
  refine lv_aload_n hx hb dX3_close_4 rfl (lv_at hl 0 rfl) ?_
  refine va_get (D := (dC, dI)) (ci := 3) (v := .ref (a 2)) (C := RX3) (T := TX3) (N := 4) hx hb hts iK3 hown hK hP 0 rfl rfl 1 (by decide) lk1 (fun _ h9 => h9) rfl dX3_close_5 ?_
  refine va_alen (v := 512) hx hb hK hP 2 0 rfl rfl rfl dX3_close_8 ?_
  obtain ⟨hqA, hqB⟩ := hq
  refine lv_icmp_ge (tgt := 35) hx hb dX3_close_9 (by decide) (fun c2 => ?_) (fun c2 => ?_)
  · have hq := hqA c2
    exact W.vret hx hb hr (fun t ht hW => ⟨⟨((X3_ends v), (X3_size v)), rfl, hq, (xAt_of hP hK hD ht hW)⟩, hS.F ht⟩) hS.2.2 dX3_close_35
  · have hq := hqB c2
    refine lv_aload_n hx hb dX3_close_12 rfl (lv_at hl 0 rfl) ?_
    refine va_get (D := (dC, dI)) (ci := 3) (v := .ref (a 2)) (C := RX3) (T := TX3) (N := 4) hx hb hts iK3 hown hK hP 0 rfl rfl 1 (by decide) lk1 (fun _ h9 => h9) rfl dX3_close_13 ?_
    refine lv_aload_n hx hb dX3_close_16 rfl (lv_at hl 0 rfl) ?_
    refine va_get (D := (dC, dI)) (ci := 3) (v := .int (X3_size v)) (C := RX3) (T := TX3) (N := 4) hx hb hts iK3 hown hK hP 0 rfl rfl 3 (by decide) lk0 (fun _ h9 => h9) rfl dX3_close_17 ?_
    refine lv_aload_n hx hb dX3_close_20 rfl (lv_at hl 0 rfl) ?_
    refine va_get (D := (dC, dI)) (ci := 3) (v := .int (X3_used v)) (C := RX3) (T := TX3) (N := 4) hx hb hts iK3 hown hK hP 0 rfl rfl 2 (by decide) lk2 (fun _ h9 => h9) rfl dX3_close_21 ?_
    obtain ⟨g1, hq⟩ := hq
    refine va_iast hx hb hK hP hD hS 2 0 rfl rfl g1 dX3_close_24 (fun H locs hP hD hS => ?_)
    have hP : va_P (dC, dI) vwCl (cX3 cy a (X3_cells v) (upd (X3_ends v) (X3_size v).toNatClampNeg (X3_used v)) (X3_used v) (X3_size v)) H := hP
    have hD : va_D A (cX3 cy a (X3_cells v) (upd (X3_ends v) (X3_size v).toNatClampNeg (X3_used v)) (X3_used v) (X3_size v)) := hD
    refine lv_aload_n hx hb dX3_close_25 rfl (lv_at hl 0 rfl) ?_
    refine lv_dup hx hb dX3_close_26 rfl ?_
    refine va_get (D := (dC, dI)) (ci := 3) (v := .int (X3_size v)) (C := RX3) (T := TX3) (N := 4) hx hb hts iK3 hown hK hP 0 rfl rfl 3 (by decide) lk0 (fun _ h9 => h9) rfl dX3_close_27 ?_
    refine lv_iconst (v := 1) hx hb dX3_close_30 (by decide) ?_
    refine lv_iadd hx hb dX3_close_31 ?_
    refine va_put (D := (dC, dI)) (ci := 3) (v := .int ((X3_size v) + 1)) (ty := .int) (C := RX3) (T := TX3) (N := 4) hx hb hts iK3 tyX3 tyX3_ok nmX3 hown hK hP hD hS 0 rfl rfl 3 (by decide) lk0 (fun _ h9 => h9) rfl (by decide +kernel) rfl rfl (Nat.le_of_ble_eq_true rfl) dX3_close_32 (fun H locs hP hD hS => ?_)
    have hP : va_P (dC, dI) vwCl (cX3 cy a (X3_cells v) (upd (X3_ends v) (X3_size v).toNatClampNeg (X3_used v)) (X3_used v) ((X3_size v) + 1)) H := hP
    have hD : va_D A (cX3 cy a (X3_cells v) (upd (X3_ends v) (X3_size v).toNatClampNeg (X3_used v)) (X3_used v) ((X3_size v) + 1)) := hD
    exact W.vret hx hb hr (fun t ht hW => ⟨⟨((upd (X3_ends v) (X3_size v).toNatClampNeg (X3_used v)), ((X3_size v) + 1)), rfl, hq, (xAt_of hP hK hD ht hW)⟩, hS.F ht⟩) hS.2.2 dX3_close_35
def wp_X3_addRow (v : V_X3) (nw : Nat) (w : (Nat → Int32)) (x2 : Int32) (x3 : Int32) (Q : (Nat → Int32) → (Nat → Int32) → Int32 → Int32 → Prop) : Prop :=
  ((x2 < 0 → Q (X3_cells v) (X3_ends v) (X3_size v) (X3_used v)) ∧
  (¬ x2 < 0 → (((x3 - x2) < 0 → Q (X3_cells v) (X3_ends v) (X3_size v) (X3_used v)) ∧
  (¬ (x3 - x2) < 0 → (((Int32.ofNat nw) < x3 → Q (X3_cells v) (X3_ends v) (X3_size v) (X3_used v)) ∧
  (¬ (Int32.ofNat nw) < x3 → ((512 ≤ (X3_size v) → Q (X3_cells v) (X3_ends v) (X3_size v) (X3_used v)) ∧
  (¬ 512 ≤ (X3_size v) → (((x3 - x2) ≤ (1024 - (X3_used v)) → ¬ x2 < 0 ∧ ¬ (X3_used v) < 0 ∧ ¬ (x3 - x2) < 0 ∧ x2.toNatClampNeg + (x3 - x2).toNatClampNeg ≤ nw ∧ (X3_used v).toNatClampNeg + (x3 - x2).toNatClampNeg ≤ 1024 ∧ vp_in (X3_size v) 512 ∧ Q (va_cpy w (X3_cells v) x2.toNatClampNeg (X3_used v).toNatClampNeg (x3 - x2).toNatClampNeg) (upd (X3_ends v) (X3_size v).toNatClampNeg ((X3_used v) + (x3 - x2))) ((X3_size v) + 1) ((X3_used v) + (x3 - x2))) ∧
  (¬ (x3 - x2) ≤ (1024 - (X3_used v)) → Q (X3_cells v) (X3_ends v) (X3_size v) (X3_used v)))))))))))
def q_X3_addRow (dC : Nat → ClassId) (dI : Nat → Nat → Nat) (cy : Nat → ClassId) (a d : Nat → Nat) (v : V_X3) (nw : Nat) (w : (Nat → Int32)) (x2 : Int32) (x3 : Int32) (Q : (Nat → Int32) → (Nat → Int32) → Int32 → Int32 → Prop) (A : Nat → Prop) : Array Value → State → Outcome → State → Prop := va_Qv (fun (u : (Nat → Int32) × (Nat → Int32) × Int32 × Int32) => Q u.1 u.2.1 u.2.2.1 u.2.2.2) (fun (u : (Nat → Int32) × (Nat → Int32) × Int32 × Int32) t => xAt dC dI cy A (cX3 cy a u.1 u.2.1 u.2.2.2 u.2.2.1 ++ cAI cy d nw w) t) A
set_option maxHeartbeats 4000000 in
set_option maxRecDepth 100000 in
theorem c_X3_addRow (l : Launch) (dC : Nat → ClassId) (dI : Nat → Nat → Nat) (cy : Nat → ClassId) (a d : Nat → Nat) (sz : Nat) (v : V_X3) (nw : Nat) (w : (Nat → Int32)) (x2 : Int32) (x3 : Int32) (Q : (Nat → Int32) → (Nat → Int32) → Int32 → Int32 → Prop) (hq : wp_X3_addRow v nw w x2 x3 Q) : Met l yX3_addRow wsX3_addRow ({ frames := 1, cells := 0, slots := 0, locals := 26 } : Room) (va_Pc [.ref (a 0), .ref (d 0), .int x2, .int x3] (xPre dC dI cy (wX3 cy a v ++ cAI cy d nw w) sz)) (q_X3_addRow dC dI cy a d v nw w x2 x3 Q (va_A (wX3 cy a v ++ cAI cy d nw w) sz)) 0 0 (va_A (wX3 cy a v ++ cAI cy d nw w) sz) := by
  refine Met.ofW (cc := cX3_addRow) (maxL := 5) (ret := none) (by decide) rfl ?_
  intro p e s m args below meth c s₁ B hml hv
  obtain ⟨rfl, hsz, hP, hK, hD0⟩ := hv
  have hx := B.exec
  have hb := B.bytes
  have hr := B.returns
  have hts := atoms_spec (ws := wsX3_addRow) B.pre
  have hown : s.vm.findClass RX3 = some m.cls := findClass_of_methodNamed B.named
  have hlocks := B.notSynchronized
  subst hsz
  have hD := hD0.self (sz := s.heap.size)
  generalize hAe : va_A (wX3 cy a v ++ cAI cy d nw w) s.heap.size = A at hD ⊢
  have hAe0 : ∀ q : Nat, s.heap.size ≤ q → A q := fun q h => by rw [← hAe]; exact Or.inr h
  have hS : va_S A s.heap s.heap [] := va_S.rf
  have hl := lv_entry ([.ref (a 0), .ref (d 0), .int x2, .int x3]) (n := 5) (Nat.le_of_ble_eq_true rfl)
  rw [lg_entry_eq]
  generalize (lg_sl ([.ref (a 0), .ref (d 0), .int x2, .int x3]) ++ List.replicate (5 - (lg_sl ([.ref (a 0), .ref (d 0), .int x2, .int x3])).length) Slot.unset).toArray = ls at hl ⊢
  have hl : lv_has ls 5 [(0, .ref (a 0)), (1, .ref (d 0)), (2, .int x2), (3, .int x3)] := hl
  have lk0 := hts (Cond.fieldLink RX3 22 "MolesLawn$Rows" "size" "I") (List.mem_cons_of_mem _ (List.mem_append_left _ (List.mem_of_getElem? (i := 0) rfl)))
  have lk1 := hts (Cond.fieldLink RX3 15 "MolesLawn$Rows" "ends" "[I") (List.mem_cons_of_mem _ (List.mem_append_left _ (List.mem_of_getElem? (i := 1) rfl)))
  have lk2 := hts (Cond.fieldLink RX3 9 "MolesLawn$Rows" "cells" "[I") (List.mem_cons_of_mem _ (List.mem_append_left _ (List.mem_of_getElem? (i := 2) rfl)))
  have lk3 := hts (Cond.fieldLink RX3 18 "MolesLawn$Rows" "used" "I") (List.mem_cons_of_mem _ (List.mem_append_left _ (List.mem_of_getElem? (i := 3) rfl)))
  have lk4 := hts (Cond.methodLink RX3 25 arraycopyName) (List.mem_cons_of_mem _ (List.mem_append_left _ (List.mem_of_getElem? (i := 4) rfl)))
  have lk5 := hts (Cond.native arraycopyName) (List.mem_cons_of_mem _ (List.mem_append_left _ (List.mem_of_getElem? (i := 5) rfl)))
  have lk6 := hts (Cond.static arraycopyName) (List.mem_cons_of_mem _ (List.mem_append_left _ (List.mem_of_getElem? (i := 6) rfl)))
  have lk7 := hts (Cond.initialized "java/lang/System") (List.mem_cons_of_mem _ (List.mem_append_left _ (List.mem_of_getElem? (i := 7) rfl)))
  have iK3 : ∀ w ∈ wsX30, w ∈ wsX3_addRow := fun _ h => (List.mem_cons_of_mem _ (List.mem_append_right _ h))
  unfold wp_X3_addRow at hq
  refine lv_iload_n hx hb dX3_addRow_0 rfl (lv_at hl 3 rfl) ?_
  refine lv_iload_n hx hb dX3_addRow_1 rfl (lv_at hl 2 rfl) ?_
  refine lv_isub hx hb dX3_addRow_2 ?_
  refine lv_istore (lv' := [(4, .int (x3 - x2)), (0, .ref (a 0)), (1, .ref (d 0)), (2, .int x2), (3, .int x3)]) hx hb dX3_addRow_3 hl (by decide) rfl (fun ls hl => ?_)
  refine lv_iload_n hx hb dX3_addRow_5 rfl (lv_at hl 3 rfl) ?_
  obtain ⟨hqA, hqB⟩ := hq
  refine lv_if_lt (tgt := 47) hx hb dX3_addRow_6 (by decide) (fun c11 => ?_) (fun c11 => ?_)
  · have hq := hqA c11
    exact W.vret hx hb hr (fun t ht hW => ⟨⟨((X3_cells v), (X3_ends v), (X3_size v), (X3_used v)), rfl, hq, (xAt_of hP hK hD ht hW)⟩, hS.F ht⟩) hS.2.2 dX3_addRow_47
  · have hq := hqB c11
    refine lv_iload hx hb dX3_addRow_9 (lv_at hl 0 rfl) ?_
    obtain ⟨hqA, hqB⟩ := hq
    refine lv_if_lt (tgt := 47) hx hb dX3_addRow_11 (by decide) (fun c10 => ?_) (fun c10 => ?_)
    · have hq := hqA c10
      exact W.vret hx hb hr (fun t ht hW => ⟨⟨((X3_cells v), (X3_ends v), (X3_size v), (X3_used v)), rfl, hq, (xAt_of hP hK hD ht hW)⟩, hS.F ht⟩) hS.2.2 dX3_addRow_47
    · have hq := hqB c10
      refine lv_iload_n hx hb dX3_addRow_14 rfl (lv_at hl 4 rfl) ?_
      refine lv_aload_n hx hb dX3_addRow_15 rfl (lv_at hl 2 rfl) ?_
      refine va_alen (v := (Int32.ofNat nw)) hx hb hK hP 3 0 rfl rfl rfl dX3_addRow_16 ?_
      obtain ⟨hqA, hqB⟩ := hq
      refine lv_icmp_gt (tgt := 47) hx hb dX3_addRow_17 (by decide) (fun c9 => ?_) (fun c9 => ?_)
      · have hq := hqA c9
        exact W.vret hx hb hr (fun t ht hW => ⟨⟨((X3_cells v), (X3_ends v), (X3_size v), (X3_used v)), rfl, hq, (xAt_of hP hK hD ht hW)⟩, hS.F ht⟩) hS.2.2 dX3_addRow_47
      · have hq := hqB c9
        refine lv_aload_n hx hb dX3_addRow_20 rfl (lv_at hl 1 rfl) ?_
        refine va_get (D := (dC, dI)) (ci := 3) (v := .int (X3_size v)) (C := RX3) (T := TX3) (N := 4) hx hb hts iK3 hown hK hP 0 rfl rfl 3 (by decide) lk0 (fun _ h9 => h9) rfl dX3_addRow_21 ?_
        refine lv_aload_n hx hb dX3_addRow_24 rfl (lv_at hl 1 rfl) ?_
        refine va_get (D := (dC, dI)) (ci := 3) (v := .ref (a 2)) (C := RX3) (T := TX3) (N := 4) hx hb hts iK3 hown hK hP 0 rfl rfl 1 (by decide) lk1 (fun _ h9 => h9) rfl dX3_addRow_25 ?_
        refine va_alen (v := 512) hx hb hK hP 2 0 rfl rfl rfl dX3_addRow_28 ?_
        obtain ⟨hqA, hqB⟩ := hq
        refine lv_icmp_ge (tgt := 47) hx hb dX3_addRow_29 (by decide) (fun c8 => ?_) (fun c8 => ?_)
        · have hq := hqA c8
          exact W.vret hx hb hr (fun t ht hW => ⟨⟨((X3_cells v), (X3_ends v), (X3_size v), (X3_used v)), rfl, hq, (xAt_of hP hK hD ht hW)⟩, hS.F ht⟩) hS.2.2 dX3_addRow_47
        · have hq := hqB c8
          refine lv_iload hx hb dX3_addRow_32 (lv_at hl 0 rfl) ?_
          refine lv_aload_n hx hb dX3_addRow_34 rfl (lv_at hl 1 rfl) ?_
          refine va_get (D := (dC, dI)) (ci := 3) (v := .ref (a 1)) (C := RX3) (T := TX3) (N := 4) hx hb hts iK3 hown hK hP 0 rfl rfl 0 (by decide) lk2 (fun _ h9 => h9) rfl dX3_addRow_35 ?_
          refine va_alen (v := 1024) hx hb hK hP 1 0 rfl rfl rfl dX3_addRow_38 ?_
          refine lv_aload_n hx hb dX3_addRow_39 rfl (lv_at hl 1 rfl) ?_
          refine va_get (D := (dC, dI)) (ci := 3) (v := .int (X3_used v)) (C := RX3) (T := TX3) (N := 4) hx hb hts iK3 hown hK hP 0 rfl rfl 2 (by decide) lk3 (fun _ h9 => h9) rfl dX3_addRow_40 ?_
          refine lv_isub hx hb dX3_addRow_43 ?_
          obtain ⟨hqA, hqB⟩ := hq
          refine lv_icmp_le (tgt := 48) hx hb dX3_addRow_44 (by decide) (fun c7 => ?_) (fun c7 => ?_)
          · have hq := hqA c7
            refine lv_aload_n hx hb dX3_addRow_48 rfl (lv_at hl 2 rfl) ?_
            refine lv_iload_n hx hb dX3_addRow_49 rfl (lv_at hl 3 rfl) ?_
            refine lv_aload_n hx hb dX3_addRow_50 rfl (lv_at hl 1 rfl) ?_
            refine va_get (D := (dC, dI)) (ci := 3) (v := .ref (a 1)) (C := RX3) (T := TX3) (N := 4) hx hb hts iK3 hown hK hP 0 rfl rfl 0 (by decide) lk2 (fun _ h9 => h9) rfl dX3_addRow_51 ?_
            refine lv_aload_n hx hb dX3_addRow_54 rfl (lv_at hl 1 rfl) ?_
            refine va_get (D := (dC, dI)) (ci := 3) (v := .int (X3_used v)) (C := RX3) (T := TX3) (N := 4) hx hb hts iK3 hown hK hP 0 rfl rfl 2 (by decide) lk3 (fun _ h9 => h9) rfl dX3_addRow_55 ?_
            refine lv_iload hx hb dX3_addRow_58 (lv_at hl 0 rfl) ?_
            obtain ⟨g1, hq⟩ := hq
            obtain ⟨g2, hq⟩ := hq
            obtain ⟨g3, hq⟩ := hq
            obtain ⟨g4, hq⟩ := hq
            obtain ⟨g5, hq⟩ := hq
            refine va_copyi hx hb (hml.trans hl.1.symm) hown lk4 lk5 lk6 lk7 hK hP hD hS 3 1 0 0 rfl rfl rfl rfl rfl g1 g2 g3 g4 g5 (fun _ _ => rfl) (Nat.le_of_ble_eq_true rfl) (by decide +kernel) dX3_addRow_60 (fun H locs hP hD hS => ?_)
            have hP : va_P (dC, dI) vwCl (cX3 cy a (va_cpy w (X3_cells v) x2.toNatClampNeg (X3_used v).toNatClampNeg (x3 - x2).toNatClampNeg) (X3_ends v) (X3_used v) (X3_size v) ++ cAI cy d nw w) H := hP
            have hD : va_D A (cX3 cy a (va_cpy w (X3_cells v) x2.toNatClampNeg (X3_used v).toNatClampNeg (x3 - x2).toNatClampNeg) (X3_ends v) (X3_used v) (X3_size v) ++ cAI cy d nw w) := hD
            refine lv_aload_n hx hb dX3_addRow_63 rfl (lv_at hl 1 rfl) ?_
            refine lv_dup hx hb dX3_addRow_64 rfl ?_
            refine va_get (D := (dC, dI)) (ci := 3) (v := .int (X3_used v)) (C := RX3) (T := TX3) (N := 4) hx hb hts iK3 hown hK hP 0 rfl rfl 2 (by decide) lk3 (fun _ h9 => h9) rfl dX3_addRow_65 ?_
            refine lv_iload hx hb dX3_addRow_68 (lv_at hl 0 rfl) ?_
            refine lv_iadd hx hb dX3_addRow_70 ?_
            refine va_put (D := (dC, dI)) (ci := 3) (v := .int ((X3_used v) + (x3 - x2))) (ty := .int) (C := RX3) (T := TX3) (N := 4) hx hb hts iK3 tyX3 tyX3_ok nmX3 hown hK hP hD hS 0 rfl rfl 2 (by decide) lk3 (fun _ h9 => h9) rfl (by decide +kernel) rfl rfl (Nat.le_of_ble_eq_true rfl) dX3_addRow_71 (fun H locs hP hD hS => ?_)
            have hP : va_P (dC, dI) vwCl (cX3 cy a (va_cpy w (X3_cells v) x2.toNatClampNeg (X3_used v).toNatClampNeg (x3 - x2).toNatClampNeg) (X3_ends v) ((X3_used v) + (x3 - x2)) (X3_size v) ++ cAI cy d nw w) H := hP
            have hD : va_D A (cX3 cy a (va_cpy w (X3_cells v) x2.toNatClampNeg (X3_used v).toNatClampNeg (x3 - x2).toNatClampNeg) (X3_ends v) ((X3_used v) + (x3 - x2)) (X3_size v) ++ cAI cy d nw w) := hD
            refine lv_aload_n hx hb dX3_addRow_74 rfl (lv_at hl 1 rfl) ?_
            refine va_get (D := (dC, dI)) (ci := 3) (v := .ref (a 2)) (C := RX3) (T := TX3) (N := 4) hx hb hts iK3 hown hK hP 0 rfl rfl 1 (by decide) lk1 (fun _ h9 => h9) rfl dX3_addRow_75 ?_
            refine lv_aload_n hx hb dX3_addRow_78 rfl (lv_at hl 1 rfl) ?_
            refine va_get (D := (dC, dI)) (ci := 3) (v := .int (X3_size v)) (C := RX3) (T := TX3) (N := 4) hx hb hts iK3 hown hK hP 0 rfl rfl 3 (by decide) lk0 (fun _ h9 => h9) rfl dX3_addRow_79 ?_
            refine lv_aload_n hx hb dX3_addRow_82 rfl (lv_at hl 1 rfl) ?_
            refine va_get (D := (dC, dI)) (ci := 3) (v := .int ((X3_used v) + (x3 - x2))) (C := RX3) (T := TX3) (N := 4) hx hb hts iK3 hown hK hP 0 rfl rfl 2 (by decide) lk3 (fun _ h9 => h9) rfl dX3_addRow_83 ?_
            obtain ⟨g6, hq⟩ := hq
            refine va_iast hx hb hK hP hD hS 2 0 rfl rfl g6 dX3_addRow_86 (fun H locs hP hD hS => ?_)
            have hP : va_P (dC, dI) vwCl (cX3 cy a (va_cpy w (X3_cells v) x2.toNatClampNeg (X3_used v).toNatClampNeg (x3 - x2).toNatClampNeg) (upd (X3_ends v) (X3_size v).toNatClampNeg ((X3_used v) + (x3 - x2))) ((X3_used v) + (x3 - x2)) (X3_size v) ++ cAI cy d nw w) H := hP
            have hD : va_D A (cX3 cy a (va_cpy w (X3_cells v) x2.toNatClampNeg (X3_used v).toNatClampNeg (x3 - x2).toNatClampNeg) (upd (X3_ends v) (X3_size v).toNatClampNeg ((X3_used v) + (x3 - x2))) ((X3_used v) + (x3 - x2)) (X3_size v) ++ cAI cy d nw w) := hD
            refine lv_aload_n hx hb dX3_addRow_87 rfl (lv_at hl 1 rfl) ?_
            refine lv_dup hx hb dX3_addRow_88 rfl ?_
            refine va_get (D := (dC, dI)) (ci := 3) (v := .int (X3_size v)) (C := RX3) (T := TX3) (N := 4) hx hb hts iK3 hown hK hP 0 rfl rfl 3 (by decide) lk0 (fun _ h9 => h9) rfl dX3_addRow_89 ?_
            refine lv_iconst (v := 1) hx hb dX3_addRow_92 (by decide) ?_
            refine lv_iadd hx hb dX3_addRow_93 ?_
            refine va_put (D := (dC, dI)) (ci := 3) (v := .int ((X3_size v) + 1)) (ty := .int) (C := RX3) (T := TX3) (N := 4) hx hb hts iK3 tyX3 tyX3_ok nmX3 hown hK hP hD hS 0 rfl rfl 3 (by decide) lk0 (fun _ h9 => h9) rfl (by decide +kernel) rfl rfl (Nat.le_of_ble_eq_true rfl) dX3_addRow_94 (fun H locs hP hD hS => ?_)
            have hP : va_P (dC, dI) vwCl (cX3 cy a (va_cpy w (X3_cells v) x2.toNatClampNeg (X3_used v).toNatClampNeg (x3 - x2).toNatClampNeg) (upd (X3_ends v) (X3_size v).toNatClampNeg ((X3_used v) + (x3 - x2))) ((X3_used v) + (x3 - x2)) ((X3_size v) + 1) ++ cAI cy d nw w) H := hP
            have hD : va_D A (cX3 cy a (va_cpy w (X3_cells v) x2.toNatClampNeg (X3_used v).toNatClampNeg (x3 - x2).toNatClampNeg) (upd (X3_ends v) (X3_size v).toNatClampNeg ((X3_used v) + (x3 - x2))) ((X3_used v) + (x3 - x2)) ((X3_size v) + 1) ++ cAI cy d nw w) := hD
            exact W.vret hx hb hr (fun t ht hW => ⟨⟨((va_cpy w (X3_cells v) x2.toNatClampNeg (X3_used v).toNatClampNeg (x3 - x2).toNatClampNeg), (upd (X3_ends v) (X3_size v).toNatClampNeg ((X3_used v) + (x3 - x2))), ((X3_size v) + 1), ((X3_used v) + (x3 - x2))), rfl, hq, (xAt_of hP hK hD ht hW)⟩, hS.F ht⟩) hS.2.2 dX3_addRow_97
          · have hq := hqB c7
            exact W.vret hx hb hr (fun t ht hW => ⟨⟨((X3_cells v), (X3_ends v), (X3_size v), (X3_used v)), rfl, hq, (xAt_of hP hK hD ht hW)⟩, hS.F ht⟩) hS.2.2 dX3_addRow_47
def wp_X2_reach_31 (v : V_X2) (x1 : Int32) (x2 : Int32) (x3 : Int32) (z31_v_distance : (Nat → Int32)) (Q : Int32 → (Nat → Int32) → Prop) : Prop :=
  vp_in x2 64 ∧ (((z31_v_distance x2.toNatClampNeg) = x3 → vp_in x1 64 ∧ (((z31_v_distance x1.toNatClampNeg) = (-1) → Q 1 (upd z31_v_distance x1.toNatClampNeg (x3 + 1))) ∧
  (¬ (z31_v_distance x1.toNatClampNeg) = (-1) → Q 0 z31_v_distance))) ∧
  (¬ (z31_v_distance x2.toNatClampNeg) = x3 → Q 0 z31_v_distance))
def wp_X2_reach (v : V_X2) (x1 : Int32) (x2 : Int32) (x3 : Int32) (Q : Int32 → (Nat → Int32) → Prop) : Prop :=
  vp_in x1 64 ∧ ((((X2_distance v) x1.toNatClampNeg) = x3 → vp_in x2 64 ∧ ((((X2_distance v) x2.toNatClampNeg) = (-1) → Q 1 (upd (X2_distance v) x2.toNatClampNeg (x3 + 1))) ∧
  (¬ ((X2_distance v) x2.toNatClampNeg) = (-1) → wp_X2_reach_31 v x1 x2 x3 (X2_distance v)  Q))) ∧
  (¬ ((X2_distance v) x1.toNatClampNeg) = x3 → wp_X2_reach_31 v x1 x2 x3 (X2_distance v)  Q))
def q_X2_reach (dC : Nat → ClassId) (dI : Nat → Nat → Nat) (cy : Nat → ClassId) (a : Nat → Nat) (v : V_X2) (x1 : Int32) (x2 : Int32) (x3 : Int32) (Q : Int32 → (Nat → Int32) → Prop) (A : Nat → Prop) : Array Value → State → Outcome → State → Prop := va_Qi (fun (r : Int32) (u : (Nat → Int32)) => Q r u) (fun (u : (Nat → Int32)) t => xAt dC dI cy A (cX2 cy a u (X2_group v)) t) A
set_option maxHeartbeats 4000000 in
set_option maxRecDepth 100000 in
theorem c_X2_reach (l : Launch) (dC : Nat → ClassId) (dI : Nat → Nat → Nat) (cy : Nat → ClassId) (a : Nat → Nat) (sz : Nat) (v : V_X2) (x1 : Int32) (x2 : Int32) (x3 : Int32) (Q : Int32 → (Nat → Int32) → Prop) (hq : wp_X2_reach v x1 x2 x3 Q) : Met l yX2_reach wsX2_reach ({ frames := 0, cells := 0, slots := 0, locals := 0 } : Room) (va_Pc [.ref (a 0), .int x1, .int x2, .int x3] (xPre dC dI cy (wX2 cy a v) sz)) (q_X2_reach dC dI cy a v x1 x2 x3 Q (va_A (wX2 cy a v) sz)) 0 0 (va_A (wX2 cy a v) sz) := by
  refine Met.ofW (cc := cX2_reach) (maxL := 4) (ret := (some .boolean)) (by decide) rfl ?_
  intro p e s m args below meth c s₁ B hml hv
  obtain ⟨rfl, hsz, hP, hK, hD0⟩ := hv
  have hx := B.exec
  have hb := B.bytes
  have hr := B.returns
  have hts := atoms_spec (ws := wsX2_reach) B.pre
  have hown : s.vm.findClass RX2 = some m.cls := findClass_of_methodNamed B.named
  have hlocks := B.notSynchronized
  subst hsz
  have hD := hD0.self (sz := s.heap.size)
  generalize hAe : va_A (wX2 cy a v) s.heap.size = A at hD ⊢
  have hAe0 : ∀ q : Nat, s.heap.size ≤ q → A q := fun q h => by rw [← hAe]; exact Or.inr h
  have hS : va_S A s.heap s.heap [] := va_S.rf
  have hl := lv_entry ([.ref (a 0), .int x1, .int x2, .int x3]) (n := 4) (Nat.le_of_ble_eq_true rfl)
  rw [lg_entry_eq]
  generalize (lg_sl ([.ref (a 0), .int x1, .int x2, .int x3]) ++ List.replicate (4 - (lg_sl ([.ref (a 0), .int x1, .int x2, .int x3])).length) Slot.unset).toArray = ls at hl ⊢
  have hl : lv_has ls 4 [(0, .ref (a 0)), (1, .int x1), (2, .int x2), (3, .int x3)] := hl
  have lk0 := hts (Cond.fieldLink RX2 9 "MolesLawn$Paths" "distance" "[I") (List.mem_cons_of_mem _ (List.mem_append_left _ (List.mem_of_getElem? (i := 0) rfl)))
  have iK2 : ∀ w ∈ wsX20, w ∈ wsX2_reach := fun _ h => (List.mem_cons_of_mem _ (List.mem_append_right _ h))
  unfold wp_X2_reach at hq
  have J31 : ∀ (z31_v_distance : (Nat → Int32)) (H : Heap) (locs : List Loc) (ls : Array Slot), wp_X2_reach_31 v x1 x2 x3 z31_v_distance Q → va_P (dC, dI) vwCl (cX2 cy a z31_v_distance (X2_group v)) H → va_D A (cX2 cy a z31_v_distance (X2_group v)) → va_S A s.heap H locs → lv_has ls 4 [(0, .ref (a 0)), (1, .int x1), (2, .int x2), (3, .int x3)] → W p l e (headSpec wsX2_reach ({ frames := 0, cells := 0, slots := 0, locals := 0 } : Room)).room s m ([.ref (a 0), .int x1, .int x2, .int x3] : List Value).toArray below meth c H locs 0 0 (MQ below (q_X2_reach dC dI cy a v x1 x2 x3 Q A) ([.ref (a 0), .int x1, .int x2, .int x3] : List Value).toArray s 0 0 A) (F0 m 31 ls []) := by
    intro z31_v_distance H locs ls hq hP hD hS hl
    unfold wp_X2_reach_31 at hq
    refine lv_aload_n hx hb dX2_reach_31 rfl (lv_at hl 0 rfl) ?_
    refine va_get (D := (dC, dI)) (ci := 2) (v := .ref (a 1)) (C := RX2) (T := TX2) (N := 2) hx hb hts iK2 hown hK hP 0 rfl rfl 0 (by decide) lk0 (fun _ h9 => h9) rfl dX2_reach_32 ?_
    refine lv_iload_n hx hb dX2_reach_35 rfl (lv_at hl 2 rfl) ?_
    obtain ⟨g1, hq⟩ := hq
    refine va_iald hx hb hK hP 1 0 rfl rfl g1 dX2_reach_36 ?_
    refine lv_iload_n hx hb dX2_reach_37 rfl (lv_at hl 3 rfl) ?_
    obtain ⟨hqA, hqB⟩ := hq
    refine lv_icmp_ne (tgt := 62) hx hb dX2_reach_38 (by decide) (fun c4 => ?_) (fun c4 => ?_)
    · have hq := hqB c4
      refine lv_iconst (v := 0) hx hb dX2_reach_62 (by decide) ?_
      exact W.zret (v := 0) hx hb hr rfl (fun t ht hW => ⟨⟨0, z31_v_distance, rfl, hq, (xAt_of hP hK hD ht hW)⟩, hS.F ht⟩) hS.2.2 dX2_reach_63
    · have hq := hqA c4
      refine lv_aload_n hx hb dX2_reach_41 rfl (lv_at hl 0 rfl) ?_
      refine va_get (D := (dC, dI)) (ci := 2) (v := .ref (a 1)) (C := RX2) (T := TX2) (N := 2) hx hb hts iK2 hown hK hP 0 rfl rfl 0 (by decide) lk0 (fun _ h9 => h9) rfl dX2_reach_42 ?_
      refine lv_iload_n hx hb dX2_reach_45 rfl (lv_at hl 1 rfl) ?_
      obtain ⟨g2, hq⟩ := hq
      refine va_iald hx hb hK hP 1 0 rfl rfl g2 dX2_reach_46 ?_
      refine lv_iconst (v := (-1)) hx hb dX2_reach_47 (by decide) ?_
      obtain ⟨hqA, hqB⟩ := hq
      refine lv_icmp_ne (tgt := 62) hx hb dX2_reach_48 (by decide) (fun c3 => ?_) (fun c3 => ?_)
      · have hq := hqB c3
        refine lv_iconst (v := 0) hx hb dX2_reach_62 (by decide) ?_
        exact W.zret (v := 0) hx hb hr rfl (fun t ht hW => ⟨⟨0, z31_v_distance, rfl, hq, (xAt_of hP hK hD ht hW)⟩, hS.F ht⟩) hS.2.2 dX2_reach_63
      · have hq := hqA c3
        refine lv_aload_n hx hb dX2_reach_51 rfl (lv_at hl 0 rfl) ?_
        refine va_get (D := (dC, dI)) (ci := 2) (v := .ref (a 1)) (C := RX2) (T := TX2) (N := 2) hx hb hts iK2 hown hK hP 0 rfl rfl 0 (by decide) lk0 (fun _ h9 => h9) rfl dX2_reach_52 ?_
        refine lv_iload_n hx hb dX2_reach_55 rfl (lv_at hl 1 rfl) ?_
        refine lv_iload_n hx hb dX2_reach_56 rfl (lv_at hl 3 rfl) ?_
        refine lv_iconst (v := 1) hx hb dX2_reach_57 (by decide) ?_
        refine lv_iadd hx hb dX2_reach_58 ?_
        refine va_iast hx hb hK hP hD hS 1 0 rfl rfl g2 dX2_reach_59 (fun H locs hP hD hS => ?_)
        have hP : va_P (dC, dI) vwCl (cX2 cy a (upd z31_v_distance x1.toNatClampNeg (x3 + 1)) (X2_group v)) H := hP
        have hD : va_D A (cX2 cy a (upd z31_v_distance x1.toNatClampNeg (x3 + 1)) (X2_group v)) := hD
        refine lv_iconst (v := 1) hx hb dX2_reach_60 (by decide) ?_
        exact W.zret (v := 1) hx hb hr rfl (fun t ht hW => ⟨⟨1, (upd z31_v_distance x1.toNatClampNeg (x3 + 1)), rfl, hq, (xAt_of hP hK hD ht hW)⟩, hS.F ht⟩) hS.2.2 dX2_reach_61
  refine lv_aload_n hx hb dX2_reach_0 rfl (lv_at hl 0 rfl) ?_
  refine va_get (D := (dC, dI)) (ci := 2) (v := .ref (a 1)) (C := RX2) (T := TX2) (N := 2) hx hb hts iK2 hown hK hP 0 rfl rfl 0 (by decide) lk0 (fun _ h9 => h9) rfl dX2_reach_1 ?_
  refine lv_iload_n hx hb dX2_reach_4 rfl (lv_at hl 1 rfl) ?_
  obtain ⟨g5, hq⟩ := hq
  refine va_iald hx hb hK hP 1 0 rfl rfl g5 dX2_reach_5 ?_
  refine lv_iload_n hx hb dX2_reach_6 rfl (lv_at hl 3 rfl) ?_
  obtain ⟨hqA, hqB⟩ := hq
  refine lv_icmp_ne (tgt := 31) hx hb dX2_reach_7 (by decide) (fun c8 => ?_) (fun c8 => ?_)
  · have hq := hqB c8
    exact J31 (X2_distance v)  _ _ _ hq hP hD hS (lv_sub hl [0, 1, 2, 3] rfl)
  · have hq := hqA c8
    refine lv_aload_n hx hb dX2_reach_10 rfl (lv_at hl 0 rfl) ?_
    refine va_get (D := (dC, dI)) (ci := 2) (v := .ref (a 1)) (C := RX2) (T := TX2) (N := 2) hx hb hts iK2 hown hK hP 0 rfl rfl 0 (by decide) lk0 (fun _ h9 => h9) rfl dX2_reach_11 ?_
    refine lv_iload_n hx hb dX2_reach_14 rfl (lv_at hl 2 rfl) ?_
    obtain ⟨g6, hq⟩ := hq
    refine va_iald hx hb hK hP 1 0 rfl rfl g6 dX2_reach_15 ?_
    refine lv_iconst (v := (-1)) hx hb dX2_reach_16 (by decide) ?_
    obtain ⟨hqA, hqB⟩ := hq
    refine lv_icmp_ne (tgt := 31) hx hb dX2_reach_17 (by decide) (fun c7 => ?_) (fun c7 => ?_)
    · have hq := hqB c7
      exact J31 (X2_distance v)  _ _ _ hq hP hD hS (lv_sub hl [0, 1, 2, 3] rfl)
    · have hq := hqA c7
      refine lv_aload_n hx hb dX2_reach_20 rfl (lv_at hl 0 rfl) ?_
      refine va_get (D := (dC, dI)) (ci := 2) (v := .ref (a 1)) (C := RX2) (T := TX2) (N := 2) hx hb hts iK2 hown hK hP 0 rfl rfl 0 (by decide) lk0 (fun _ h9 => h9) rfl dX2_reach_21 ?_
      refine lv_iload_n hx hb dX2_reach_24 rfl (lv_at hl 2 rfl) ?_
      refine lv_iload_n hx hb dX2_reach_25 rfl (lv_at hl 3 rfl) ?_
      refine lv_iconst (v := 1) hx hb dX2_reach_26 (by decide) ?_
      refine lv_iadd hx hb dX2_reach_27 ?_
      refine va_iast hx hb hK hP hD hS 1 0 rfl rfl g6 dX2_reach_28 (fun H locs hP hD hS => ?_)
      have hP : va_P (dC, dI) vwCl (cX2 cy a (upd (X2_distance v) x2.toNatClampNeg (x3 + 1)) (X2_group v)) H := hP
      have hD : va_D A (cX2 cy a (upd (X2_distance v) x2.toNatClampNeg (x3 + 1)) (X2_group v)) := hD
      refine lv_iconst (v := 1) hx hb dX2_reach_29 (by decide) ?_
      exact W.zret (v := 1) hx hb hr rfl (fun t ht hW => ⟨⟨1, (upd (X2_distance v) x2.toNatClampNeg (x3 + 1)), rfl, hq, (xAt_of hP hK hD ht hW)⟩, hS.F ht⟩) hS.2.2 dX2_reach_30
def wp_X2_isTuft (x0 : Int32) (Q : Int32 → Prop) : Prop :=
  ((x0 < 0 → Q 0) ∧
  (¬ x0 < 0 → ((64 ≤ x0 → Q 0) ∧
  (¬ 64 ≤ x0 → Q 1))))
def q_X2_isTuft (dC : Nat → ClassId) (dI : Nat → Nat → Nat) (cy : Nat → ClassId)  (x0 : Int32) (Q : Int32 → Prop) (A : Nat → Prop) : Array Value → State → Outcome → State → Prop := va_Qi (fun (r : Int32) (u : Unit) => Q r ) (fun (u : Unit) t => xAt dC dI cy A ([] : va_W) t) A
set_option maxHeartbeats 4000000 in
set_option maxRecDepth 100000 in
theorem c_X2_isTuft (l : Launch) (dC : Nat → ClassId) (dI : Nat → Nat → Nat) (cy : Nat → ClassId)  (sz : Nat) (x0 : Int32) (Q : Int32 → Prop) (hq : wp_X2_isTuft x0 Q) : Met l yX2_isTuft wsX2_isTuft ({ frames := 0, cells := 0, slots := 0, locals := 0 } : Room) (va_Pc [.int x0] (xPre dC dI cy ([] : va_W) sz)) (q_X2_isTuft dC dI cy  x0 Q (va_A ([] : va_W) sz)) 0 0 (va_A ([] : va_W) sz) := by
  refine Met.ofW (cc := cX2_isTuft) (maxL := 1) (ret := (some .boolean)) (by decide) rfl ?_
  intro p e s m args below meth c s₁ B hml hv
  obtain ⟨rfl, hsz, hP, hK, hD0⟩ := hv
  have hx := B.exec
  have hb := B.bytes
  have hr := B.returns
  have hts := atoms_spec (ws := wsX2_isTuft) B.pre
  have hown : s.vm.findClass RX2 = some m.cls := findClass_of_methodNamed B.named
  have hlocks := B.notSynchronized
  subst hsz
  have hD := hD0.self (sz := s.heap.size)
  generalize hAe : va_A ([] : va_W) s.heap.size = A at hD ⊢
  have hAe0 : ∀ q : Nat, s.heap.size ≤ q → A q := fun q h => by rw [← hAe]; exact Or.inr h
  have hS : va_S A s.heap s.heap [] := va_S.rf
  have hl := lv_entry ([.int x0]) (n := 1) (Nat.le_of_ble_eq_true rfl)
  rw [lg_entry_eq]
  generalize (lg_sl ([.int x0]) ++ List.replicate (1 - (lg_sl ([.int x0])).length) Slot.unset).toArray = ls at hl ⊢
  have hl : lv_has ls 1 [(0, .int x0)] := hl
  unfold wp_X2_isTuft at hq
  refine lv_iload_n hx hb dX2_isTuft_0 rfl (lv_at hl 0 rfl) ?_
  obtain ⟨hqA, hqB⟩ := hq
  refine lv_if_lt (tgt := 14) hx hb dX2_isTuft_1 (by decide) (fun c2 => ?_) (fun c2 => ?_)
  · have hq := hqA c2
    refine lv_iconst (v := 0) hx hb dX2_isTuft_14 (by decide) ?_
    exact W.zret (v := 0) hx hb hr rfl (fun t ht hW => ⟨⟨0, (), rfl, hq, (xAt_of hP hK hD ht hW)⟩, hS.F ht⟩) hS.2.2 dX2_isTuft_15
  · have hq := hqB c2
    refine lv_iload_n hx hb dX2_isTuft_4 rfl (lv_at hl 0 rfl) ?_
    refine lv_bipush (v := 64) hx hb dX2_isTuft_5 (by decide) ?_
    obtain ⟨hqA, hqB⟩ := hq
    refine lv_icmp_ge (tgt := 14) hx hb dX2_isTuft_7 (by decide) (fun c1 => ?_) (fun c1 => ?_)
    · have hq := hqA c1
      refine lv_iconst (v := 0) hx hb dX2_isTuft_14 (by decide) ?_
      exact W.zret (v := 0) hx hb hr rfl (fun t ht hW => ⟨⟨0, (), rfl, hq, (xAt_of hP hK hD ht hW)⟩, hS.F ht⟩) hS.2.2 dX2_isTuft_15
    · have hq := hqB c1
      refine lv_iconst (v := 1) hx hb dX2_isTuft_10 (by decide) ?_
      refine lv_goto (tgt := 15) hx hb dX2_isTuft_11 (by decide) ?_
      exact W.zret (v := 1) hx hb hr rfl (fun t ht hW => ⟨⟨1, (), rfl, hq, (xAt_of hP hK hD ht hW)⟩, hS.F ht⟩) hS.2.2 dX2_isTuft_15
def wb_X2_uniteGroups_2 (v : V_X2) (x1 : Int32) (x2 : Int32)  (y2_3 : Int32) (z2_v_group : (Nat → Int32)) (B2 : Int32 → (Nat → Int32) → Prop) (Q : (Nat → Int32) → Prop) : Prop :=
  ((64 ≤ y2_3 → Q z2_v_group) ∧
  (¬ 64 ≤ y2_3 → vp_in y2_3 64 ∧ (((z2_v_group y2_3.toNatClampNeg) = x2 → B2 (y2_3 + 1) (upd z2_v_group y2_3.toNatClampNeg x1)) ∧
  (¬ (z2_v_group y2_3.toNatClampNeg) = x2 → B2 (y2_3 + 1) z2_v_group))))
def wp_X2_uniteGroups_2 (v : V_X2) (x1 : Int32) (x2 : Int32)  (y2_3 : Int32) (z2_v_group : (Nat → Int32)) (Q : (Nat → Int32) → Prop) : Prop :=
  ∃ (I : Int32 → (Nat → Int32) → Prop) (μ : Int32 → (Nat → Int32) → Nat), I y2_3 z2_v_group ∧ ∀ (s0 : Int32) (s1 : (Nat → Int32)), I s0 s1 → wb_X2_uniteGroups_2 v x1 x2  s0 s1 (fun t0 t1 => I t0 t1 ∧ μ t0 t1 < μ s0 s1) Q
def wp_X2_uniteGroups (v : V_X2) (x1 : Int32) (x2 : Int32) (Q : (Nat → Int32) → Prop) : Prop :=
  wp_X2_uniteGroups_2 v x1 x2  0 (X2_group v) Q
def q_X2_uniteGroups (dC : Nat → ClassId) (dI : Nat → Nat → Nat) (cy : Nat → ClassId) (a : Nat → Nat) (v : V_X2) (x1 : Int32) (x2 : Int32) (Q : (Nat → Int32) → Prop) (A : Nat → Prop) : Array Value → State → Outcome → State → Prop := va_Qv (fun (u : (Nat → Int32)) => Q u) (fun (u : (Nat → Int32)) t => xAt dC dI cy A (cX2 cy a (X2_distance v) u) t) A
set_option maxHeartbeats 4000000 in
set_option maxRecDepth 100000 in
theorem c_X2_uniteGroups (l : Launch) (dC : Nat → ClassId) (dI : Nat → Nat → Nat) (cy : Nat → ClassId) (a : Nat → Nat) (sz : Nat) (v : V_X2) (x1 : Int32) (x2 : Int32) (Q : (Nat → Int32) → Prop) (hq : wp_X2_uniteGroups v x1 x2 Q) : Met l yX2_uniteGroups wsX2_uniteGroups ({ frames := 0, cells := 0, slots := 0, locals := 0 } : Room) (va_Pc [.ref (a 0), .int x1, .int x2] (xPre dC dI cy (wX2 cy a v) sz)) (q_X2_uniteGroups dC dI cy a v x1 x2 Q (va_A (wX2 cy a v) sz)) 0 0 (va_A (wX2 cy a v) sz) := by
  refine Met.ofW (cc := cX2_uniteGroups) (maxL := 4) (ret := none) (by decide) rfl ?_
  intro p e s m args below meth c s₁ B hml hv
  obtain ⟨rfl, hsz, hP, hK, hD0⟩ := hv
  have hx := B.exec
  have hb := B.bytes
  have hr := B.returns
  have hts := atoms_spec (ws := wsX2_uniteGroups) B.pre
  have hown : s.vm.findClass RX2 = some m.cls := findClass_of_methodNamed B.named
  have hlocks := B.notSynchronized
  subst hsz
  have hD := hD0.self (sz := s.heap.size)
  generalize hAe : va_A (wX2 cy a v) s.heap.size = A at hD ⊢
  have hAe0 : ∀ q : Nat, s.heap.size ≤ q → A q := fun q h => by rw [← hAe]; exact Or.inr h
  have hS : va_S A s.heap s.heap [] := va_S.rf
  have hl := lv_entry ([.ref (a 0), .int x1, .int x2]) (n := 4) (Nat.le_of_ble_eq_true rfl)
  rw [lg_entry_eq]
  generalize (lg_sl ([.ref (a 0), .int x1, .int x2]) ++ List.replicate (4 - (lg_sl ([.ref (a 0), .int x1, .int x2])).length) Slot.unset).toArray = ls at hl ⊢
  have hl : lv_has ls 4 [(0, .ref (a 0)), (1, .int x1), (2, .int x2)] := hl
  have lk0 := hts (Cond.fieldLink RX2 15 "MolesLawn$Paths" "group" "[I") (List.mem_cons_of_mem _ (List.mem_append_left _ (List.mem_of_getElem? (i := 0) rfl)))
  have iK2 : ∀ w ∈ wsX20, w ∈ wsX2_uniteGroups := fun _ h => (List.mem_cons_of_mem _ (List.mem_append_right _ h))
  unfold wp_X2_uniteGroups at hq
  have J2 : ∀  (y2_3 : Int32) (z2_v_group : (Nat → Int32)) (H : Heap) (locs : List Loc) (ls : Array Slot), wp_X2_uniteGroups_2 v x1 x2  y2_3 z2_v_group Q → va_P (dC, dI) vwCl (cX2 cy a (X2_distance v) z2_v_group) H → va_D A (cX2 cy a (X2_distance v) z2_v_group) → va_S A s.heap H locs → lv_has ls 4 [(0, .ref (a 0)), (1, .int x1), (2, .int x2), (3, .int y2_3)] → W p l e (headSpec wsX2_uniteGroups ({ frames := 0, cells := 0, slots := 0, locals := 0 } : Room)).room s m ([.ref (a 0), .int x1, .int x2] : List Value).toArray below meth c H locs 0 0 (MQ below (q_X2_uniteGroups dC dI cy a v x1 x2 Q A) ([.ref (a 0), .int x1, .int x2] : List Value).toArray s 0 0 A) (F0 m 2 ls []) := by
    intro  y2_3 z2_v_group H locs ls hq hP hD hS hl
    obtain ⟨I2, μ2, h0, hs2⟩ := hq
    have key : ∀ (n : Nat) (y2_3 : Int32) (z2_v_group : (Nat → Int32)) (H : Heap) (locs : List Loc) (ls : Array Slot), I2 y2_3 z2_v_group → μ2 y2_3 z2_v_group < n → va_P (dC, dI) vwCl (cX2 cy a (X2_distance v) z2_v_group) H → va_D A (cX2 cy a (X2_distance v) z2_v_group) → va_S A s.heap H locs → lv_has ls 4 [(0, .ref (a 0)), (1, .int x1), (2, .int x2), (3, .int y2_3)] → W p l e (headSpec wsX2_uniteGroups ({ frames := 0, cells := 0, slots := 0, locals := 0 } : Room)).room s m ([.ref (a 0), .int x1, .int x2] : List Value).toArray below meth c H locs 0 0 (MQ below (q_X2_uniteGroups dC dI cy a v x1 x2 Q A) ([.ref (a 0), .int x1, .int x2] : List Value).toArray s 0 0 A) (F0 m 2 ls []) := by
      intro n
      induction n with
      | zero => intro y2_3 z2_v_group H locs ls _ hm; exact absurd hm (Nat.not_lt_zero _)
      | succ n ih =>
        intro y2_3 z2_v_group H locs ls hI hm hP hD hS hl
        have hq := hs2 y2_3 z2_v_group hI
        generalize hB2 : (fun (t0 : Int32) (t1 : (Nat → Int32)) => I2 t0 t1 ∧ μ2 t0 t1 < μ2 y2_3 z2_v_group) = B2 at hq
        have bk2 : ∀ (y2_3 : Int32) (z2_v_group : (Nat → Int32)) (H : Heap) (locs : List Loc) (ls : Array Slot), B2 y2_3 z2_v_group → va_P (dC, dI) vwCl (cX2 cy a (X2_distance v) z2_v_group) H → va_D A (cX2 cy a (X2_distance v) z2_v_group) → va_S A s.heap H locs → lv_has ls 4 [(0, .ref (a 0)), (1, .int x1), (2, .int x2), (3, .int y2_3)] → W p l e (headSpec wsX2_uniteGroups ({ frames := 0, cells := 0, slots := 0, locals := 0 } : Room)).room s m ([.ref (a 0), .int x1, .int x2] : List Value).toArray below meth c H locs 0 0 (MQ below (q_X2_uniteGroups dC dI cy a v x1 x2 Q A) ([.ref (a 0), .int x1, .int x2] : List Value).toArray s 0 0 A) (F0 m 2 ls []) := by
          intro y2_3 z2_v_group H locs ls h
          rw [← hB2] at h
          exact ih y2_3 z2_v_group H locs ls h.1 (Nat.lt_of_lt_of_le h.2 (Nat.le_of_lt_succ hm))
        unfold wb_X2_uniteGroups_2 at hq
        refine lv_iload_n hx hb dX2_uniteGroups_2 rfl (lv_at hl 3 rfl) ?_
        refine lv_bipush (v := 64) hx hb dX2_uniteGroups_3 (by decide) ?_
        obtain ⟨hqA, hqB⟩ := hq
        refine lv_icmp_ge (tgt := 31) hx hb dX2_uniteGroups_5 (by decide) (fun c3 => ?_) (fun c3 => ?_)
        · have hq := hqA c3
          exact W.vret hx hb hr (fun t ht hW => ⟨⟨z2_v_group, rfl, hq, (xAt_of hP hK hD ht hW)⟩, hS.F ht⟩) hS.2.2 dX2_uniteGroups_31
        · have hq := hqB c3
          refine lv_aload_n hx hb dX2_uniteGroups_8 rfl (lv_at hl 0 rfl) ?_
          refine va_get (D := (dC, dI)) (ci := 2) (v := .ref (a 2)) (C := RX2) (T := TX2) (N := 2) hx hb hts iK2 hown hK hP 0 rfl rfl 1 (by decide) lk0 (fun _ h9 => h9) rfl dX2_uniteGroups_9 ?_
          refine lv_iload_n hx hb dX2_uniteGroups_12 rfl (lv_at hl 3 rfl) ?_
          obtain ⟨g1, hq⟩ := hq
          refine va_iald hx hb hK hP 2 0 rfl rfl g1 dX2_uniteGroups_13 ?_
          refine lv_iload_n hx hb dX2_uniteGroups_14 rfl (lv_at hl 2 rfl) ?_
          obtain ⟨hqA, hqB⟩ := hq
          refine lv_icmp_ne (tgt := 25) hx hb dX2_uniteGroups_15 (by decide) (fun c2 => ?_) (fun c2 => ?_)
          · have hq := hqB c2
            refine lv_iinc (v := (y2_3 + 1)) (lv' := [(3, .int (y2_3 + 1)), (0, .ref (a 0)), (1, .int x1), (2, .int x2)]) hx hb dX2_uniteGroups_25 hl (k := 3) rfl rfl (by decide) rfl (fun ls hl => ?_)
            refine lv_goto (tgt := 2) hx hb dX2_uniteGroups_28 (by decide) ?_
            exact bk2 (y2_3 + 1) z2_v_group _ _ _ hq hP hD hS (lv_sub hl [1, 2, 3, 0] rfl)
          · have hq := hqA c2
            refine lv_aload_n hx hb dX2_uniteGroups_18 rfl (lv_at hl 0 rfl) ?_
            refine va_get (D := (dC, dI)) (ci := 2) (v := .ref (a 2)) (C := RX2) (T := TX2) (N := 2) hx hb hts iK2 hown hK hP 0 rfl rfl 1 (by decide) lk0 (fun _ h9 => h9) rfl dX2_uniteGroups_19 ?_
            refine lv_iload_n hx hb dX2_uniteGroups_22 rfl (lv_at hl 3 rfl) ?_
            refine lv_iload_n hx hb dX2_uniteGroups_23 rfl (lv_at hl 1 rfl) ?_
            refine va_iast hx hb hK hP hD hS 2 0 rfl rfl g1 dX2_uniteGroups_24 (fun H locs hP hD hS => ?_)
            have hP : va_P (dC, dI) vwCl (cX2 cy a (X2_distance v) (upd z2_v_group y2_3.toNatClampNeg x1)) H := hP
            have hD : va_D A (cX2 cy a (X2_distance v) (upd z2_v_group y2_3.toNatClampNeg x1)) := hD
            refine lv_iinc (v := (y2_3 + 1)) (lv' := [(3, .int (y2_3 + 1)), (0, .ref (a 0)), (1, .int x1), (2, .int x2)]) hx hb dX2_uniteGroups_25 hl (k := 3) rfl rfl (by decide) rfl (fun ls hl => ?_)
            refine lv_goto (tgt := 2) hx hb dX2_uniteGroups_28 (by decide) ?_
            exact bk2 (y2_3 + 1) (upd z2_v_group y2_3.toNatClampNeg x1) _ _ _ hq hP hD hS (lv_sub hl [1, 2, 3, 0] rfl)
    exact key _ y2_3 z2_v_group H locs ls h0 (Nat.lt_succ_self _) hP hD hS hl
  refine lv_iconst (v := 0) hx hb dX2_uniteGroups_0 (by decide) ?_
  refine lv_istore_n (lv' := [(3, .int 0), (0, .ref (a 0)), (1, .int x1), (2, .int x2)]) hx hb dX2_uniteGroups_1 rfl hl (by decide) rfl (fun ls hl => ?_)
  exact J2  0 (X2_group v) _ _ _ hq hP hD hS (lv_sub hl [1, 2, 3, 0] rfl)
def wp_X6_tuftAt (x0 : Int32) (x1 : Int32) (Q : Int32 → Prop) : Prop :=
  ((x0 < 0 → Q (-1)) ∧
  (¬ x0 < 0 → ((8 ≤ x0 → Q (-1)) ∧
  (¬ 8 ≤ x0 → ((x1 < 0 → Q (-1)) ∧
  (¬ x1 < 0 → ((x1 < 8 → Q ((x0 * 8) + x1)) ∧
  (¬ x1 < 8 → Q (-1)))))))))
def q_X6_tuftAt (dC : Nat → ClassId) (dI : Nat → Nat → Nat) (cy : Nat → ClassId)  (x0 : Int32) (x1 : Int32) (Q : Int32 → Prop) (A : Nat → Prop) : Array Value → State → Outcome → State → Prop := va_Qi (fun (r : Int32) (u : Unit) => Q r ) (fun (u : Unit) t => xAt dC dI cy A ([] : va_W) t) A
set_option maxHeartbeats 4000000 in
set_option maxRecDepth 100000 in
theorem c_X6_tuftAt (l : Launch) (dC : Nat → ClassId) (dI : Nat → Nat → Nat) (cy : Nat → ClassId)  (sz : Nat) (x0 : Int32) (x1 : Int32) (Q : Int32 → Prop) (hq : wp_X6_tuftAt x0 x1 Q) : Met l yX6_tuftAt wsX6_tuftAt ({ frames := 0, cells := 0, slots := 0, locals := 0 } : Room) (va_Pc [.int x0, .int x1] (xPre dC dI cy ([] : va_W) sz)) (q_X6_tuftAt dC dI cy  x0 x1 Q (va_A ([] : va_W) sz)) 0 0 (va_A ([] : va_W) sz) := by
  refine Met.ofW (cc := cX6_tuftAt) (maxL := 2) (ret := (some .int)) (by decide) rfl ?_
  intro p e s m args below meth c s₁ B hml hv
  obtain ⟨rfl, hsz, hP, hK, hD0⟩ := hv
  have hx := B.exec
  have hb := B.bytes
  have hr := B.returns
  have hts := atoms_spec (ws := wsX6_tuftAt) B.pre
  have hown : s.vm.findClass RX6 = some m.cls := findClass_of_methodNamed B.named
  have hlocks := B.notSynchronized
  subst hsz
  have hD := hD0.self (sz := s.heap.size)
  generalize hAe : va_A ([] : va_W) s.heap.size = A at hD ⊢
  have hAe0 : ∀ q : Nat, s.heap.size ≤ q → A q := fun q h => by rw [← hAe]; exact Or.inr h
  have hS : va_S A s.heap s.heap [] := va_S.rf
  have hl := lv_entry ([.int x0, .int x1]) (n := 2) (Nat.le_of_ble_eq_true rfl)
  rw [lg_entry_eq]
  generalize (lg_sl ([.int x0, .int x1]) ++ List.replicate (2 - (lg_sl ([.int x0, .int x1])).length) Slot.unset).toArray = ls at hl ⊢
  have hl : lv_has ls 2 [(0, .int x0), (1, .int x1)] := hl
  unfold wp_X6_tuftAt at hq
  refine lv_iload_n hx hb dX6_tuftAt_0 rfl (lv_at hl 0 rfl) ?_
  obtain ⟨hqA, hqB⟩ := hq
  refine lv_if_lt (tgt := 20) hx hb dX6_tuftAt_1 (by decide) (fun c4 => ?_) (fun c4 => ?_)
  · have hq := hqA c4
    refine lv_iconst (v := (-1)) hx hb dX6_tuftAt_20 (by decide) ?_
    exact W.iret (v := (-1)) hx hb hr (fun t ht hW => ⟨⟨(-1), (), rfl, hq, (xAt_of hP hK hD ht hW)⟩, hS.F ht⟩) hS.2.2 dX6_tuftAt_21
  · have hq := hqB c4
    refine lv_iload_n hx hb dX6_tuftAt_4 rfl (lv_at hl 0 rfl) ?_
    refine lv_bipush (v := 8) hx hb dX6_tuftAt_5 (by decide) ?_
    obtain ⟨hqA, hqB⟩ := hq
    refine lv_icmp_ge (tgt := 20) hx hb dX6_tuftAt_7 (by decide) (fun c3 => ?_) (fun c3 => ?_)
    · have hq := hqA c3
      refine lv_iconst (v := (-1)) hx hb dX6_tuftAt_20 (by decide) ?_
      exact W.iret (v := (-1)) hx hb hr (fun t ht hW => ⟨⟨(-1), (), rfl, hq, (xAt_of hP hK hD ht hW)⟩, hS.F ht⟩) hS.2.2 dX6_tuftAt_21
    · have hq := hqB c3
      refine lv_iload_n hx hb dX6_tuftAt_10 rfl (lv_at hl 1 rfl) ?_
      obtain ⟨hqA, hqB⟩ := hq
      refine lv_if_lt (tgt := 20) hx hb dX6_tuftAt_11 (by decide) (fun c2 => ?_) (fun c2 => ?_)
      · have hq := hqA c2
        refine lv_iconst (v := (-1)) hx hb dX6_tuftAt_20 (by decide) ?_
        exact W.iret (v := (-1)) hx hb hr (fun t ht hW => ⟨⟨(-1), (), rfl, hq, (xAt_of hP hK hD ht hW)⟩, hS.F ht⟩) hS.2.2 dX6_tuftAt_21
      · have hq := hqB c2
        refine lv_iload_n hx hb dX6_tuftAt_14 rfl (lv_at hl 1 rfl) ?_
        refine lv_bipush (v := 8) hx hb dX6_tuftAt_15 (by decide) ?_
        obtain ⟨hqA, hqB⟩ := hq
        refine lv_icmp_lt (tgt := 22) hx hb dX6_tuftAt_17 (by decide) (fun c1 => ?_) (fun c1 => ?_)
        · have hq := hqA c1
          refine lv_iload_n hx hb dX6_tuftAt_22 rfl (lv_at hl 0 rfl) ?_
          refine lv_bipush (v := 8) hx hb dX6_tuftAt_23 (by decide) ?_
          refine lv_imul hx hb dX6_tuftAt_25 ?_
          refine lv_iload_n hx hb dX6_tuftAt_26 rfl (lv_at hl 1 rfl) ?_
          refine lv_iadd hx hb dX6_tuftAt_27 ?_
          exact W.iret (v := ((x0 * 8) + x1)) hx hb hr (fun t ht hW => ⟨⟨((x0 * 8) + x1), (), rfl, hq, (xAt_of hP hK hD ht hW)⟩, hS.F ht⟩) hS.2.2 dX6_tuftAt_28
        · have hq := hqB c1
          refine lv_iconst (v := (-1)) hx hb dX6_tuftAt_20 (by decide) ?_
          exact W.iret (v := (-1)) hx hb hr (fun t ht hW => ⟨⟨(-1), (), rfl, hq, (xAt_of hP hK hD ht hW)⟩, hS.F ht⟩) hS.2.2 dX6_tuftAt_21
def wp_X6_stepFrom (x0 : Int32) (x1 : Int32) (Q : Int32 → Prop) : Prop :=
  ((x1 < 0 → Q (-1)) ∧
  (¬ x1 < 0 → ((x1 ≤ 3 → vp_in x1 4 ∧ wp_X6_tuftAt ((x0 / 8) + (tab_ROW_STEP x1.toNatClampNeg)) ((x0 - x0 / 8 * 8) + (tab_COLUMN_STEP x1.toNatClampNeg)) (fun r31 =>
  Q r31)) ∧
  (¬ x1 ≤ 3 → Q (-1)))))
def q_X6_stepFrom (dC : Nat → ClassId) (dI : Nat → Nat → Nat) (cy : Nat → ClassId)  (x0 : Int32) (x1 : Int32) (Q : Int32 → Prop) (A : Nat → Prop) : Array Value → State → Outcome → State → Prop := va_Qi (fun (r : Int32) (u : Unit) => Q r ) (fun (u : Unit) t => xAt dC dI cy A ([] : va_W) t) A
set_option maxHeartbeats 4000000 in
set_option maxRecDepth 100000 in
theorem c_X6_stepFrom (l : Launch) (dC : Nat → ClassId) (dI : Nat → Nat → Nat) (cy : Nat → ClassId)  (sz : Nat) (x0 : Int32) (x1 : Int32) (Q : Int32 → Prop) (hq : wp_X6_stepFrom x0 x1 Q) : Met l yX6_stepFrom wsX6_stepFrom ({ frames := 1, cells := 0, slots := 0, locals := 21 } : Room) (va_Pc [.int x0, .int x1] (xPreE dC dI cy ([] : va_W) sz)) (q_X6_stepFrom dC dI cy  x0 x1 Q (va_A ([] : va_W) sz)) 0 0 (va_A ([] : va_W) sz) := by
  refine Met.ofW (cc := cX6_stepFrom) (maxL := 2) (ret := (some .int)) (by decide) rfl ?_
  intro p e s m args below meth c s₁ B hml hv
  obtain ⟨rfl, hsz, hP, hK, hD0, hE⟩ := hv
  have hx := B.exec
  have hb := B.bytes
  have hr := B.returns
  have hts := atoms_spec (ws := wsX6_stepFrom) B.pre
  have hown : s.vm.findClass RX6 = some m.cls := findClass_of_methodNamed B.named
  have hlocks := B.notSynchronized
  subst hsz
  have hD := hD0.self (sz := s.heap.size)
  generalize hAe : va_A ([] : va_W) s.heap.size = A at hD hE ⊢
  have hAe0 : ∀ q : Nat, s.heap.size ≤ q → A q := fun q h => by rw [← hAe]; exact Or.inr h
  have hS : va_S A s.heap s.heap [] := va_S.rf
  have hl := lv_entry ([.int x0, .int x1]) (n := 2) (Nat.le_of_ble_eq_true rfl)
  rw [lg_entry_eq]
  generalize (lg_sl ([.int x0, .int x1]) ++ List.replicate (2 - (lg_sl ([.int x0, .int x1])).length) Slot.unset).toArray = ls at hl ⊢
  have hl : lv_has ls 2 [(0, .int x0), (1, .int x1)] := hl
  have lk0 := hts (Cond.fieldLink RX6 334 "MolesLawn" "ROW_STEP" "[I") (List.mem_cons_of_mem _ (List.mem_of_getElem? (i := 0) rfl))
  have lk1 := hts (Cond.fieldLink RX6 337 "MolesLawn" "COLUMN_STEP" "[I") (List.mem_cons_of_mem _ (List.mem_of_getElem? (i := 1) rfl))
  obtain ⟨tCOLUMN_STEP, hzCOLUMN_STEP, htCOLUMN_STEP⟩ := hE.2.2.2.1
  obtain ⟨tROW_STEP, hzROW_STEP, htROW_STEP⟩ := hE.2.2.1
  unfold wp_X6_stepFrom at hq
  refine lv_iload_n hx hb dX6_stepFrom_0 rfl (lv_at hl 1 rfl) ?_
  obtain ⟨hqA, hqB⟩ := hq
  refine lv_if_lt (tgt := 9) hx hb dX6_stepFrom_1 (by decide) (fun c3 => ?_) (fun c3 => ?_)
  · have hq := hqA c3
    refine lv_iconst (v := (-1)) hx hb dX6_stepFrom_9 (by decide) ?_
    exact W.iret (v := (-1)) hx hb hr (fun t ht hW => ⟨⟨(-1), (), rfl, hq, (xAt_of hP hK hD ht hW)⟩, hS.F ht⟩) hS.2.2 dX6_stepFrom_10
  · have hq := hqB c3
    refine lv_iload_n hx hb dX6_stepFrom_4 rfl (lv_at hl 1 rfl) ?_
    refine lv_iconst (v := 3) hx hb dX6_stepFrom_5 (by decide) ?_
    obtain ⟨hqA, hqB⟩ := hq
    refine lv_icmp_le (tgt := 11) hx hb dX6_stepFrom_6 (by decide) (fun c2 => ?_) (fun c2 => ?_)
    · have hq := hqA c2
      refine lv_iload_n hx hb dX6_stepFrom_11 rfl (lv_at hl 0 rfl) ?_
      refine lv_bipush (v := 8) hx hb dX6_stepFrom_12 (by decide) ?_
      refine lv_idiv hx hb dX6_stepFrom_14 (by decide) ?_
      refine va_gets (C := "MolesLawn") (n := "ROW_STEP") (d := "[I") (v := .ref tROW_STEP) hx hb hzROW_STEP hS hown lk0 (fun _ h9 => h9) dX6_stepFrom_15 ?_
      refine lv_iload_n hx hb dX6_stepFrom_18 rfl (lv_at hl 1 rfl) ?_
      obtain ⟨g1, hq⟩ := hq
      refine va_ti (t := tROW_STEP) (N := 4) hx hb htROW_STEP hS g1 rfl dX6_stepFrom_19 ?_
      refine lv_iadd hx hb dX6_stepFrom_20 ?_
      refine lv_iload_n hx hb dX6_stepFrom_21 rfl (lv_at hl 0 rfl) ?_
      refine lv_bipush (v := 8) hx hb dX6_stepFrom_22 (by decide) ?_
      refine lv_irem hx hb dX6_stepFrom_24 (by decide) ?_
      refine va_gets (C := "MolesLawn") (n := "COLUMN_STEP") (d := "[I") (v := .ref tCOLUMN_STEP) hx hb hzCOLUMN_STEP hS hown lk1 (fun _ h9 => h9) dX6_stepFrom_25 ?_
      refine lv_iload_n hx hb dX6_stepFrom_28 rfl (lv_at hl 1 rfl) ?_
      refine va_ti (t := tCOLUMN_STEP) (N := 4) hx hb htCOLUMN_STEP hS g1 rfl dX6_stepFrom_29 ?_
      refine lv_iadd hx hb dX6_stepFrom_30 ?_
      have hFc := xfree_none hS hAe0
      refine va_calli (va_runS (As := [.int ((x0 / 8) + (tab_ROW_STEP x1.toNatClampNeg)), .int ((x0 - x0 / 8 * 8) + (tab_COLUMN_STEP x1.toNatClampNeg))]) (rest := []) ⟨hx, hb, hml, hown, hts⟩ (c_X6_tuftAt l dC dI cy  _ ((x0 / 8) + (tab_ROW_STEP x1.toNatClampNeg)) ((x0 - x0 / 8 * 8) + (tab_COLUMN_STEP x1.toNatClampNeg)) _ hq) (va_cwS 2 hts gX6_stepFrom_X6_tuftAt rfl rfl rfl (by decide +kernel) ⟨Nat.le_of_ble_eq_true rfl, Nat.le_of_ble_eq_true rfl⟩) ⟨xPre_blind, xPre_of xP_nil hK (xD_nil (A := A))⟩ rfl rfl hl.1 rfl (lv_room (Nat.le_of_ble_eq_true rfl)) dX6_stepFrom_31 ⟨Nat.le_of_ble_eq_true rfl, Nat.le_of_ble_eq_true rfl⟩) hS (fun q _ h => hFc q h) hFc (fun r31 u9 t H locs ht hvm hq hB hz1 hk1 hS => ?_)
      have hP := xj_none hP hk1
      exact W.iret (v := r31) hx hb hr (fun t ht hW => ⟨⟨r31, (), rfl, hq, (xAt_of hP hK hD ht hW)⟩, hS.F ht⟩) hS.2.2 dX6_stepFrom_34
    · have hq := hqB c2
      refine lv_iconst (v := (-1)) hx hb dX6_stepFrom_9 (by decide) ?_
      exact W.iret (v := (-1)) hx hb hr (fun t ht hW => ⟨⟨(-1), (), rfl, hq, (xAt_of hP hK hD ht hW)⟩, hS.F ht⟩) hS.2.2 dX6_stepFrom_10
def wp_X6_neighbour (x0 : Int32) (x1 : Int32) (Q : Int32 → Prop) : Prop :=
  ((x1 < 0 → Q (-1)) ∧
  (¬ x1 < 0 → ((x1 < 8 → vp_in x1 8 ∧ wp_X6_tuftAt ((x0 / 8) + (tab_ROW_BESIDE x1.toNatClampNeg)) ((x0 - x0 / 8 * 8) + (tab_COLUMN_BESIDE x1.toNatClampNeg)) (fun r32 =>
  Q r32)) ∧
  (¬ x1 < 8 → Q (-1)))))
def q_X6_neighbour (dC : Nat → ClassId) (dI : Nat → Nat → Nat) (cy : Nat → ClassId)  (x0 : Int32) (x1 : Int32) (Q : Int32 → Prop) (A : Nat → Prop) : Array Value → State → Outcome → State → Prop := va_Qi (fun (r : Int32) (u : Unit) => Q r ) (fun (u : Unit) t => xAt dC dI cy A ([] : va_W) t) A
set_option maxHeartbeats 4000000 in
set_option maxRecDepth 100000 in
theorem c_X6_neighbour (l : Launch) (dC : Nat → ClassId) (dI : Nat → Nat → Nat) (cy : Nat → ClassId)  (sz : Nat) (x0 : Int32) (x1 : Int32) (Q : Int32 → Prop) (hq : wp_X6_neighbour x0 x1 Q) : Met l yX6_neighbour wsX6_neighbour ({ frames := 1, cells := 0, slots := 0, locals := 21 } : Room) (va_Pc [.int x0, .int x1] (xPreE dC dI cy ([] : va_W) sz)) (q_X6_neighbour dC dI cy  x0 x1 Q (va_A ([] : va_W) sz)) 0 0 (va_A ([] : va_W) sz) := by
  refine Met.ofW (cc := cX6_neighbour) (maxL := 2) (ret := (some .int)) (by decide) rfl ?_
  intro p e s m args below meth c s₁ B hml hv
  obtain ⟨rfl, hsz, hP, hK, hD0, hE⟩ := hv
  have hx := B.exec
  have hb := B.bytes
  have hr := B.returns
  have hts := atoms_spec (ws := wsX6_neighbour) B.pre
  have hown : s.vm.findClass RX6 = some m.cls := findClass_of_methodNamed B.named
  have hlocks := B.notSynchronized
  subst hsz
  have hD := hD0.self (sz := s.heap.size)
  generalize hAe : va_A ([] : va_W) s.heap.size = A at hD hE ⊢
  have hAe0 : ∀ q : Nat, s.heap.size ≤ q → A q := fun q h => by rw [← hAe]; exact Or.inr h
  have hS : va_S A s.heap s.heap [] := va_S.rf
  have hl := lv_entry ([.int x0, .int x1]) (n := 2) (Nat.le_of_ble_eq_true rfl)
  rw [lg_entry_eq]
  generalize (lg_sl ([.int x0, .int x1]) ++ List.replicate (2 - (lg_sl ([.int x0, .int x1])).length) Slot.unset).toArray = ls at hl ⊢
  have hl : lv_has ls 2 [(0, .int x0), (1, .int x1)] := hl
  have lk0 := hts (Cond.fieldLink RX6 343 "MolesLawn" "ROW_BESIDE" "[I") (List.mem_cons_of_mem _ (List.mem_of_getElem? (i := 0) rfl))
  have lk1 := hts (Cond.fieldLink RX6 346 "MolesLawn" "COLUMN_BESIDE" "[I") (List.mem_cons_of_mem _ (List.mem_of_getElem? (i := 1) rfl))
  obtain ⟨tCOLUMN_BESIDE, hzCOLUMN_BESIDE, htCOLUMN_BESIDE⟩ := hE.2.2.2.2.2
  obtain ⟨tROW_BESIDE, hzROW_BESIDE, htROW_BESIDE⟩ := hE.2.2.2.2.1
  unfold wp_X6_neighbour at hq
  refine lv_iload_n hx hb dX6_neighbour_0 rfl (lv_at hl 1 rfl) ?_
  obtain ⟨hqA, hqB⟩ := hq
  refine lv_if_lt (tgt := 10) hx hb dX6_neighbour_1 (by decide) (fun c3 => ?_) (fun c3 => ?_)
  · have hq := hqA c3
    refine lv_iconst (v := (-1)) hx hb dX6_neighbour_10 (by decide) ?_
    exact W.iret (v := (-1)) hx hb hr (fun t ht hW => ⟨⟨(-1), (), rfl, hq, (xAt_of hP hK hD ht hW)⟩, hS.F ht⟩) hS.2.2 dX6_neighbour_11
  · have hq := hqB c3
    refine lv_iload_n hx hb dX6_neighbour_4 rfl (lv_at hl 1 rfl) ?_
    refine lv_bipush (v := 8) hx hb dX6_neighbour_5 (by decide) ?_
    obtain ⟨hqA, hqB⟩ := hq
    refine lv_icmp_lt (tgt := 12) hx hb dX6_neighbour_7 (by decide) (fun c2 => ?_) (fun c2 => ?_)
    · have hq := hqA c2
      refine lv_iload_n hx hb dX6_neighbour_12 rfl (lv_at hl 0 rfl) ?_
      refine lv_bipush (v := 8) hx hb dX6_neighbour_13 (by decide) ?_
      refine lv_idiv hx hb dX6_neighbour_15 (by decide) ?_
      refine va_gets (C := "MolesLawn") (n := "ROW_BESIDE") (d := "[I") (v := .ref tROW_BESIDE) hx hb hzROW_BESIDE hS hown lk0 (fun _ h9 => h9) dX6_neighbour_16 ?_
      refine lv_iload_n hx hb dX6_neighbour_19 rfl (lv_at hl 1 rfl) ?_
      obtain ⟨g1, hq⟩ := hq
      refine va_ti (t := tROW_BESIDE) (N := 8) hx hb htROW_BESIDE hS g1 rfl dX6_neighbour_20 ?_
      refine lv_iadd hx hb dX6_neighbour_21 ?_
      refine lv_iload_n hx hb dX6_neighbour_22 rfl (lv_at hl 0 rfl) ?_
      refine lv_bipush (v := 8) hx hb dX6_neighbour_23 (by decide) ?_
      refine lv_irem hx hb dX6_neighbour_25 (by decide) ?_
      refine va_gets (C := "MolesLawn") (n := "COLUMN_BESIDE") (d := "[I") (v := .ref tCOLUMN_BESIDE) hx hb hzCOLUMN_BESIDE hS hown lk1 (fun _ h9 => h9) dX6_neighbour_26 ?_
      refine lv_iload_n hx hb dX6_neighbour_29 rfl (lv_at hl 1 rfl) ?_
      refine va_ti (t := tCOLUMN_BESIDE) (N := 8) hx hb htCOLUMN_BESIDE hS g1 rfl dX6_neighbour_30 ?_
      refine lv_iadd hx hb dX6_neighbour_31 ?_
      have hFc := xfree_none hS hAe0
      refine va_calli (va_runS (As := [.int ((x0 / 8) + (tab_ROW_BESIDE x1.toNatClampNeg)), .int ((x0 - x0 / 8 * 8) + (tab_COLUMN_BESIDE x1.toNatClampNeg))]) (rest := []) ⟨hx, hb, hml, hown, hts⟩ (c_X6_tuftAt l dC dI cy  _ ((x0 / 8) + (tab_ROW_BESIDE x1.toNatClampNeg)) ((x0 - x0 / 8 * 8) + (tab_COLUMN_BESIDE x1.toNatClampNeg)) _ hq) (va_cwS 2 hts gX6_neighbour_X6_tuftAt rfl rfl rfl (by decide +kernel) ⟨Nat.le_of_ble_eq_true rfl, Nat.le_of_ble_eq_true rfl⟩) ⟨xPre_blind, xPre_of xP_nil hK (xD_nil (A := A))⟩ rfl rfl hl.1 rfl (lv_room (Nat.le_of_ble_eq_true rfl)) dX6_neighbour_32 ⟨Nat.le_of_ble_eq_true rfl, Nat.le_of_ble_eq_true rfl⟩) hS (fun q _ h => hFc q h) hFc (fun r32 u9 t H locs ht hvm hq hB hz1 hk1 hS => ?_)
      have hP := xj_none hP hk1
      exact W.iret (v := r32) hx hb hr (fun t ht hW => ⟨⟨r32, (), rfl, hq, (xAt_of hP hK hD ht hW)⟩, hS.F ht⟩) hS.2.2 dX6_neighbour_35
    · have hq := hqB c2
      refine lv_iconst (v := (-1)) hx hb dX6_neighbour_10 (by decide) ?_
      exact W.iret (v := (-1)) hx hb hr (fun t ht hW => ⟨⟨(-1), (), rfl, hq, (xAt_of hP hK hD ht hW)⟩, hS.F ht⟩) hS.2.2 dX6_neighbour_11
