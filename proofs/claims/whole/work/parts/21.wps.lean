/-! for work on the mathematics alone: what 20.base says of it -/
def bz (x : Int32) : Prop := x = 0 ∨ x = 1
def tab_ROW_STEP : Nat → Int32 := fun j => match j with
  | 0 => -1
  | 1 => 0
  | 2 => 1
  | _ => 0
def tab_COLUMN_STEP : Nat → Int32 := fun j => match j with
  | 0 => 0
  | 1 => 1
  | 2 => 0
  | _ => -1
def tab_ROW_BESIDE : Nat → Int32 := fun j => match j with
  | 0 => -1
  | 1 => -1
  | 2 => -1
  | 3 => 0
  | 4 => 0
  | 5 => 1
  | 6 => 1
  | _ => 1
def tab_COLUMN_BESIDE : Nat → Int32 := fun j => match j with
  | 0 => -1
  | 1 => 0
  | 2 => 1
  | 3 => -1
  | 4 => 1
  | 5 => -1
  | 6 => 0
  | _ => 1
abbrev V_X1 : Type := (Nat → Int32) × (Nat → Int32) × Int32 × Int32 × Int32 × Int32 × Int32
abbrev X1_directions (v : V_X1) : Nat → Int32 := v.1
abbrev X1_trail (v : V_X1) : Nat → Int32 := v.2.1
abbrev X1_planned (v : V_X1) : Int32 := v.2.2.1
abbrev X1_trailLength (v : V_X1) : Int32 := v.2.2.2.1
abbrev X1_air (v : V_X1) : Int32 := v.2.2.2.2.1
abbrev X1_steps (v : V_X1) : Int32 := v.2.2.2.2.2.1
abbrev X1_lost (v : V_X1) : Int32 := v.2.2.2.2.2.2
abbrev X1_s0 (v : V_X1) (x : Nat → Int32) : V_X1 := (x, v.2.1, v.2.2.1, v.2.2.2.1, v.2.2.2.2.1, v.2.2.2.2.2.1, v.2.2.2.2.2.2)
abbrev X1_s1 (v : V_X1) (x : Nat → Int32) : V_X1 := (v.1, x, v.2.2.1, v.2.2.2.1, v.2.2.2.2.1, v.2.2.2.2.2.1, v.2.2.2.2.2.2)
abbrev X1_s2 (v : V_X1) (x : Int32) : V_X1 := (v.1, v.2.1, x, v.2.2.2.1, v.2.2.2.2.1, v.2.2.2.2.2.1, v.2.2.2.2.2.2)
abbrev X1_s3 (v : V_X1) (x : Int32) : V_X1 := (v.1, v.2.1, v.2.2.1, x, v.2.2.2.2.1, v.2.2.2.2.2.1, v.2.2.2.2.2.2)
abbrev X1_s4 (v : V_X1) (x : Int32) : V_X1 := (v.1, v.2.1, v.2.2.1, v.2.2.2.1, x, v.2.2.2.2.2.1, v.2.2.2.2.2.2)
abbrev X1_s5 (v : V_X1) (x : Int32) : V_X1 := (v.1, v.2.1, v.2.2.1, v.2.2.2.1, v.2.2.2.2.1, x, v.2.2.2.2.2.2)
abbrev X1_s6 (v : V_X1) (x : Int32) : V_X1 := (v.1, v.2.1, v.2.2.1, v.2.2.2.1, v.2.2.2.2.1, v.2.2.2.2.2.1, x)
abbrev V_X3 : Type := (Nat → Int32) × (Nat → Int32) × Int32 × Int32
abbrev X3_cells (v : V_X3) : Nat → Int32 := v.1
abbrev X3_ends (v : V_X3) : Nat → Int32 := v.2.1
abbrev X3_used (v : V_X3) : Int32 := v.2.2.1
abbrev X3_size (v : V_X3) : Int32 := v.2.2.2
abbrev X3_s0 (v : V_X3) (x : Nat → Int32) : V_X3 := (x, v.2.1, v.2.2.1, v.2.2.2)
abbrev X3_s1 (v : V_X3) (x : Nat → Int32) : V_X3 := (v.1, x, v.2.2.1, v.2.2.2)
abbrev X3_s2 (v : V_X3) (x : Int32) : V_X3 := (v.1, v.2.1, x, v.2.2.2)
abbrev X3_s3 (v : V_X3) (x : Int32) : V_X3 := (v.1, v.2.1, v.2.2.1, x)
abbrev V_X5 : Type := (Nat → Int32) × Int32
abbrev X5_codes (v : V_X5) : Nat → Int32 := v.1
abbrev X5_length (v : V_X5) : Int32 := v.2
abbrev X5_s0 (v : V_X5) (x : Nat → Int32) : V_X5 := (x, v.2)
abbrev X5_s1 (v : V_X5) (x : Int32) : V_X5 := (v.1, x)
abbrev V_X2 : Type := (Nat → Int32) × (Nat → Int32)
abbrev X2_distance (v : V_X2) : Nat → Int32 := v.1
abbrev X2_group (v : V_X2) : Nat → Int32 := v.2
abbrev X2_s0 (v : V_X2) (x : Nat → Int32) : V_X2 := (x, v.2)
abbrev X2_s1 (v : V_X2) (x : Nat → Int32) : V_X2 := (v.1, x)
abbrev V_X4 : Type := (Nat → Int32) × (Nat → Int32) × (Nat → Int32) × (Nat → Int32)
abbrev X4_hollow (v : V_X4) : Nat → Int32 := v.1
abbrev X4_crossings (v : V_X4) : Nat → Int32 := v.2.1
abbrev X4_sure (v : V_X4) : Nat → Int32 := v.2.2.1
abbrev X4_seenBy (v : V_X4) : Nat → Int32 := v.2.2.2
abbrev X4_s0 (v : V_X4) (x : Nat → Int32) : V_X4 := (x, v.2.1, v.2.2.1, v.2.2.2)
abbrev X4_s1 (v : V_X4) (x : Nat → Int32) : V_X4 := (v.1, x, v.2.2.1, v.2.2.2)
abbrev X4_s2 (v : V_X4) (x : Nat → Int32) : V_X4 := (v.1, v.2.1, x, v.2.2.2)
abbrev X4_s3 (v : V_X4) (x : Nat → Int32) : V_X4 := (v.1, v.2.1, v.2.2.1, x)
abbrev V_X0 : Type := (Nat → Int32) × (Nat → Int32) × (Nat → Int32) × (Nat → Int32) × V_X3 × (Nat → Nat) × (Nat → V_X1) × Int32 × Int32 × Int32 × Int32 × Int32 × Int32 × Int32
abbrev X0_mounds (v : V_X0) : Nat → Int32 := v.1
abbrev X0_opened (v : V_X0) : Nat → Int32 := v.2.1
abbrev X0_roots (v : V_X0) : Nat → Int32 := v.2.2.1
abbrev X0_traps (v : V_X0) : Nat → Int32 := v.2.2.2.1
abbrev X0_tunnels (v : V_X0) : V_X3 := v.2.2.2.2.1
abbrev X0_molesR (v : V_X0) : Nat → Nat := v.2.2.2.2.2.1
abbrev X0_moles (v : V_X0) : Nat → V_X1 := v.2.2.2.2.2.2.1
abbrev X0_moleCount (v : V_X0) : Int32 := v.2.2.2.2.2.2.2.1
abbrev X0_fullAir (v : V_X0) : Int32 := v.2.2.2.2.2.2.2.2.1
abbrev X0_beats (v : V_X0) : Int32 := v.2.2.2.2.2.2.2.2.2.1
abbrev X0_caught (v : V_X0) : Int32 := v.2.2.2.2.2.2.2.2.2.2.1
abbrev X0_gnawed (v : V_X0) : Int32 := v.2.2.2.2.2.2.2.2.2.2.2.1
abbrev X0_risen (v : V_X0) : Int32 := v.2.2.2.2.2.2.2.2.2.2.2.2.1
abbrev X0_fallen (v : V_X0) : Int32 := v.2.2.2.2.2.2.2.2.2.2.2.2.2
abbrev X0_s0 (v : V_X0) (x : Nat → Int32) : V_X0 := (x, v.2.1, v.2.2.1, v.2.2.2.1, v.2.2.2.2.1, v.2.2.2.2.2.1, v.2.2.2.2.2.2.1, v.2.2.2.2.2.2.2.1, v.2.2.2.2.2.2.2.2.1, v.2.2.2.2.2.2.2.2.2.1, v.2.2.2.2.2.2.2.2.2.2.1, v.2.2.2.2.2.2.2.2.2.2.2.1, v.2.2.2.2.2.2.2.2.2.2.2.2.1, v.2.2.2.2.2.2.2.2.2.2.2.2.2)
abbrev X0_s1 (v : V_X0) (x : Nat → Int32) : V_X0 := (v.1, x, v.2.2.1, v.2.2.2.1, v.2.2.2.2.1, v.2.2.2.2.2.1, v.2.2.2.2.2.2.1, v.2.2.2.2.2.2.2.1, v.2.2.2.2.2.2.2.2.1, v.2.2.2.2.2.2.2.2.2.1, v.2.2.2.2.2.2.2.2.2.2.1, v.2.2.2.2.2.2.2.2.2.2.2.1, v.2.2.2.2.2.2.2.2.2.2.2.2.1, v.2.2.2.2.2.2.2.2.2.2.2.2.2)
abbrev X0_s2 (v : V_X0) (x : Nat → Int32) : V_X0 := (v.1, v.2.1, x, v.2.2.2.1, v.2.2.2.2.1, v.2.2.2.2.2.1, v.2.2.2.2.2.2.1, v.2.2.2.2.2.2.2.1, v.2.2.2.2.2.2.2.2.1, v.2.2.2.2.2.2.2.2.2.1, v.2.2.2.2.2.2.2.2.2.2.1, v.2.2.2.2.2.2.2.2.2.2.2.1, v.2.2.2.2.2.2.2.2.2.2.2.2.1, v.2.2.2.2.2.2.2.2.2.2.2.2.2)
abbrev X0_s3 (v : V_X0) (x : Nat → Int32) : V_X0 := (v.1, v.2.1, v.2.2.1, x, v.2.2.2.2.1, v.2.2.2.2.2.1, v.2.2.2.2.2.2.1, v.2.2.2.2.2.2.2.1, v.2.2.2.2.2.2.2.2.1, v.2.2.2.2.2.2.2.2.2.1, v.2.2.2.2.2.2.2.2.2.2.1, v.2.2.2.2.2.2.2.2.2.2.2.1, v.2.2.2.2.2.2.2.2.2.2.2.2.1, v.2.2.2.2.2.2.2.2.2.2.2.2.2)
abbrev X0_s4 (v : V_X0) (x : V_X3) : V_X0 := (v.1, v.2.1, v.2.2.1, v.2.2.2.1, x, v.2.2.2.2.2.1, v.2.2.2.2.2.2.1, v.2.2.2.2.2.2.2.1, v.2.2.2.2.2.2.2.2.1, v.2.2.2.2.2.2.2.2.2.1, v.2.2.2.2.2.2.2.2.2.2.1, v.2.2.2.2.2.2.2.2.2.2.2.1, v.2.2.2.2.2.2.2.2.2.2.2.2.1, v.2.2.2.2.2.2.2.2.2.2.2.2.2)
abbrev X0_s5 (v : V_X0) (x : Nat → Nat) : V_X0 := (v.1, v.2.1, v.2.2.1, v.2.2.2.1, v.2.2.2.2.1, x, v.2.2.2.2.2.2.1, v.2.2.2.2.2.2.2.1, v.2.2.2.2.2.2.2.2.1, v.2.2.2.2.2.2.2.2.2.1, v.2.2.2.2.2.2.2.2.2.2.1, v.2.2.2.2.2.2.2.2.2.2.2.1, v.2.2.2.2.2.2.2.2.2.2.2.2.1, v.2.2.2.2.2.2.2.2.2.2.2.2.2)
abbrev X0_s6 (v : V_X0) (x : Nat → V_X1) : V_X0 := (v.1, v.2.1, v.2.2.1, v.2.2.2.1, v.2.2.2.2.1, v.2.2.2.2.2.1, x, v.2.2.2.2.2.2.2.1, v.2.2.2.2.2.2.2.2.1, v.2.2.2.2.2.2.2.2.2.1, v.2.2.2.2.2.2.2.2.2.2.1, v.2.2.2.2.2.2.2.2.2.2.2.1, v.2.2.2.2.2.2.2.2.2.2.2.2.1, v.2.2.2.2.2.2.2.2.2.2.2.2.2)
abbrev X0_s7 (v : V_X0) (x : Int32) : V_X0 := (v.1, v.2.1, v.2.2.1, v.2.2.2.1, v.2.2.2.2.1, v.2.2.2.2.2.1, v.2.2.2.2.2.2.1, x, v.2.2.2.2.2.2.2.2.1, v.2.2.2.2.2.2.2.2.2.1, v.2.2.2.2.2.2.2.2.2.2.1, v.2.2.2.2.2.2.2.2.2.2.2.1, v.2.2.2.2.2.2.2.2.2.2.2.2.1, v.2.2.2.2.2.2.2.2.2.2.2.2.2)
abbrev X0_s8 (v : V_X0) (x : Int32) : V_X0 := (v.1, v.2.1, v.2.2.1, v.2.2.2.1, v.2.2.2.2.1, v.2.2.2.2.2.1, v.2.2.2.2.2.2.1, v.2.2.2.2.2.2.2.1, x, v.2.2.2.2.2.2.2.2.2.1, v.2.2.2.2.2.2.2.2.2.2.1, v.2.2.2.2.2.2.2.2.2.2.2.1, v.2.2.2.2.2.2.2.2.2.2.2.2.1, v.2.2.2.2.2.2.2.2.2.2.2.2.2)
abbrev X0_s9 (v : V_X0) (x : Int32) : V_X0 := (v.1, v.2.1, v.2.2.1, v.2.2.2.1, v.2.2.2.2.1, v.2.2.2.2.2.1, v.2.2.2.2.2.2.1, v.2.2.2.2.2.2.2.1, v.2.2.2.2.2.2.2.2.1, x, v.2.2.2.2.2.2.2.2.2.2.1, v.2.2.2.2.2.2.2.2.2.2.2.1, v.2.2.2.2.2.2.2.2.2.2.2.2.1, v.2.2.2.2.2.2.2.2.2.2.2.2.2)
abbrev X0_s10 (v : V_X0) (x : Int32) : V_X0 := (v.1, v.2.1, v.2.2.1, v.2.2.2.1, v.2.2.2.2.1, v.2.2.2.2.2.1, v.2.2.2.2.2.2.1, v.2.2.2.2.2.2.2.1, v.2.2.2.2.2.2.2.2.1, v.2.2.2.2.2.2.2.2.2.1, x, v.2.2.2.2.2.2.2.2.2.2.2.1, v.2.2.2.2.2.2.2.2.2.2.2.2.1, v.2.2.2.2.2.2.2.2.2.2.2.2.2)
abbrev X0_s11 (v : V_X0) (x : Int32) : V_X0 := (v.1, v.2.1, v.2.2.1, v.2.2.2.1, v.2.2.2.2.1, v.2.2.2.2.2.1, v.2.2.2.2.2.2.1, v.2.2.2.2.2.2.2.1, v.2.2.2.2.2.2.2.2.1, v.2.2.2.2.2.2.2.2.2.1, v.2.2.2.2.2.2.2.2.2.2.1, x, v.2.2.2.2.2.2.2.2.2.2.2.2.1, v.2.2.2.2.2.2.2.2.2.2.2.2.2)
abbrev X0_s12 (v : V_X0) (x : Int32) : V_X0 := (v.1, v.2.1, v.2.2.1, v.2.2.2.1, v.2.2.2.2.1, v.2.2.2.2.2.1, v.2.2.2.2.2.2.1, v.2.2.2.2.2.2.2.1, v.2.2.2.2.2.2.2.2.1, v.2.2.2.2.2.2.2.2.2.1, v.2.2.2.2.2.2.2.2.2.2.1, v.2.2.2.2.2.2.2.2.2.2.2.1, x, v.2.2.2.2.2.2.2.2.2.2.2.2.2)
abbrev X0_s13 (v : V_X0) (x : Int32) : V_X0 := (v.1, v.2.1, v.2.2.1, v.2.2.2.1, v.2.2.2.2.1, v.2.2.2.2.2.1, v.2.2.2.2.2.2.1, v.2.2.2.2.2.2.2.1, v.2.2.2.2.2.2.2.2.1, v.2.2.2.2.2.2.2.2.2.1, v.2.2.2.2.2.2.2.2.2.2.1, v.2.2.2.2.2.2.2.2.2.2.2.1, v.2.2.2.2.2.2.2.2.2.2.2.2.1, x)
abbrev V_X6 : Type := V_X0 × V_X0 × V_X0 × (Nat → Nat) × (Nat → V_X0) × V_X5 × V_X4 × V_X2 × Int32 × Int32 × V_X3
abbrev X6_lawn (v : V_X6) : V_X0 := v.1
abbrev X6_snapshot (v : V_X6) : V_X0 := v.2.1
abbrev X6_trial (v : V_X6) : V_X0 := v.2.2.1
abbrev X6_savedR (v : V_X6) : Nat → Nat := v.2.2.2.1
abbrev X6_saved (v : V_X6) : Nat → V_X0 := v.2.2.2.2.1
abbrev X6_text (v : V_X6) : V_X5 := v.2.2.2.2.2.1
abbrev X6_survey (v : V_X6) : V_X4 := v.2.2.2.2.2.2.1
abbrev X6_paths (v : V_X6) : V_X2 := v.2.2.2.2.2.2.2.1
abbrev X6_snapshotTaken (v : V_X6) : Int32 := v.2.2.2.2.2.2.2.2.1
abbrev X6_savedCount (v : V_X6) : Int32 := v.2.2.2.2.2.2.2.2.2.1
abbrev X6_spareR (v : V_X6) : V_X3 := v.2.2.2.2.2.2.2.2.2.2
abbrev X6_s0 (v : V_X6) (x : V_X0) : V_X6 := (x, v.2.1, v.2.2.1, v.2.2.2.1, v.2.2.2.2.1, v.2.2.2.2.2.1, v.2.2.2.2.2.2.1, v.2.2.2.2.2.2.2.1, v.2.2.2.2.2.2.2.2.1, v.2.2.2.2.2.2.2.2.2.1, v.2.2.2.2.2.2.2.2.2.2)
abbrev X6_s1 (v : V_X6) (x : V_X0) : V_X6 := (v.1, x, v.2.2.1, v.2.2.2.1, v.2.2.2.2.1, v.2.2.2.2.2.1, v.2.2.2.2.2.2.1, v.2.2.2.2.2.2.2.1, v.2.2.2.2.2.2.2.2.1, v.2.2.2.2.2.2.2.2.2.1, v.2.2.2.2.2.2.2.2.2.2)
abbrev X6_s2 (v : V_X6) (x : V_X0) : V_X6 := (v.1, v.2.1, x, v.2.2.2.1, v.2.2.2.2.1, v.2.2.2.2.2.1, v.2.2.2.2.2.2.1, v.2.2.2.2.2.2.2.1, v.2.2.2.2.2.2.2.2.1, v.2.2.2.2.2.2.2.2.2.1, v.2.2.2.2.2.2.2.2.2.2)
abbrev X6_s3 (v : V_X6) (x : Nat → Nat) : V_X6 := (v.1, v.2.1, v.2.2.1, x, v.2.2.2.2.1, v.2.2.2.2.2.1, v.2.2.2.2.2.2.1, v.2.2.2.2.2.2.2.1, v.2.2.2.2.2.2.2.2.1, v.2.2.2.2.2.2.2.2.2.1, v.2.2.2.2.2.2.2.2.2.2)
abbrev X6_s4 (v : V_X6) (x : Nat → V_X0) : V_X6 := (v.1, v.2.1, v.2.2.1, v.2.2.2.1, x, v.2.2.2.2.2.1, v.2.2.2.2.2.2.1, v.2.2.2.2.2.2.2.1, v.2.2.2.2.2.2.2.2.1, v.2.2.2.2.2.2.2.2.2.1, v.2.2.2.2.2.2.2.2.2.2)
abbrev X6_s5 (v : V_X6) (x : V_X5) : V_X6 := (v.1, v.2.1, v.2.2.1, v.2.2.2.1, v.2.2.2.2.1, x, v.2.2.2.2.2.2.1, v.2.2.2.2.2.2.2.1, v.2.2.2.2.2.2.2.2.1, v.2.2.2.2.2.2.2.2.2.1, v.2.2.2.2.2.2.2.2.2.2)
abbrev X6_s6 (v : V_X6) (x : V_X4) : V_X6 := (v.1, v.2.1, v.2.2.1, v.2.2.2.1, v.2.2.2.2.1, v.2.2.2.2.2.1, x, v.2.2.2.2.2.2.2.1, v.2.2.2.2.2.2.2.2.1, v.2.2.2.2.2.2.2.2.2.1, v.2.2.2.2.2.2.2.2.2.2)
abbrev X6_s7 (v : V_X6) (x : V_X2) : V_X6 := (v.1, v.2.1, v.2.2.1, v.2.2.2.1, v.2.2.2.2.1, v.2.2.2.2.2.1, v.2.2.2.2.2.2.1, x, v.2.2.2.2.2.2.2.2.1, v.2.2.2.2.2.2.2.2.2.1, v.2.2.2.2.2.2.2.2.2.2)
abbrev X6_s8 (v : V_X6) (x : Int32) : V_X6 := (v.1, v.2.1, v.2.2.1, v.2.2.2.1, v.2.2.2.2.1, v.2.2.2.2.2.1, v.2.2.2.2.2.2.1, v.2.2.2.2.2.2.2.1, x, v.2.2.2.2.2.2.2.2.2.1, v.2.2.2.2.2.2.2.2.2.2)
abbrev X6_s9 (v : V_X6) (x : Int32) : V_X6 := (v.1, v.2.1, v.2.2.1, v.2.2.2.1, v.2.2.2.2.1, v.2.2.2.2.2.1, v.2.2.2.2.2.2.1, v.2.2.2.2.2.2.2.1, v.2.2.2.2.2.2.2.2.1, x, v.2.2.2.2.2.2.2.2.2.2)
abbrev X6_s10 (v : V_X6) (x : V_X3) : V_X6 := (v.1, v.2.1, v.2.2.1, v.2.2.2.1, v.2.2.2.2.1, v.2.2.2.2.2.1, v.2.2.2.2.2.2.1, v.2.2.2.2.2.2.2.1, v.2.2.2.2.2.2.2.2.1, v.2.2.2.2.2.2.2.2.2.1, x)
abbrev V_X7 : Type := (Nat → Int32) × (Nat → Int32) × (Nat → Int32) × Int32 × (Nat → Int32) × Int32 × (Nat → Int32) × Int32 × Int32 × (Nat → Int32) × Int32 × Int32 × (Nat → Int32) × (Nat → Int32) × (Nat → Int32) × Int64
abbrev X7_s (v : V_X7) : Nat → Int32 := v.1
abbrev X7_aside (v : V_X7) : Nat → Int32 := v.2.1
abbrev X7_kept (v : V_X7) : Nat → Int32 := v.2.2.1
abbrev X7_isKept (v : V_X7) : Int32 := v.2.2.2.1
abbrev X7_saved (v : V_X7) : Nat → Int32 := v.2.2.2.2.1
abbrev X7_savedMany (v : V_X7) : Int32 := v.2.2.2.2.2.1
abbrev X7_text (v : V_X7) : Nat → Int32 := v.2.2.2.2.2.2.1
abbrev X7_length (v : V_X7) : Int32 := v.2.2.2.2.2.2.2.1
abbrev X7_thrown (v : V_X7) : Int32 := v.2.2.2.2.2.2.2.2.1
abbrev X7_joint (v : V_X7) : Nat → Int32 := v.2.2.2.2.2.2.2.2.2.1
abbrev X7_position (v : V_X7) : Int32 := v.2.2.2.2.2.2.2.2.2.2.1
abbrev X7_isWrong (v : V_X7) : Int32 := v.2.2.2.2.2.2.2.2.2.2.2.1
abbrev X7_isHollow (v : V_X7) : Nat → Int32 := v.2.2.2.2.2.2.2.2.2.2.2.2.1
abbrev X7_sure (v : V_X7) : Nat → Int32 := v.2.2.2.2.2.2.2.2.2.2.2.2.2.1
abbrev X7_away (v : V_X7) : Nat → Int32 := v.2.2.2.2.2.2.2.2.2.2.2.2.2.2.1
abbrev X7_digested (v : V_X7) : Int64 := v.2.2.2.2.2.2.2.2.2.2.2.2.2.2.2
abbrev X7_s0 (v : V_X7) (x : Nat → Int32) : V_X7 := (x, v.2.1, v.2.2.1, v.2.2.2.1, v.2.2.2.2.1, v.2.2.2.2.2.1, v.2.2.2.2.2.2.1, v.2.2.2.2.2.2.2.1, v.2.2.2.2.2.2.2.2.1, v.2.2.2.2.2.2.2.2.2.1, v.2.2.2.2.2.2.2.2.2.2.1, v.2.2.2.2.2.2.2.2.2.2.2.1, v.2.2.2.2.2.2.2.2.2.2.2.2.1, v.2.2.2.2.2.2.2.2.2.2.2.2.2.1, v.2.2.2.2.2.2.2.2.2.2.2.2.2.2.1, v.2.2.2.2.2.2.2.2.2.2.2.2.2.2.2)
abbrev X7_s1 (v : V_X7) (x : Nat → Int32) : V_X7 := (v.1, x, v.2.2.1, v.2.2.2.1, v.2.2.2.2.1, v.2.2.2.2.2.1, v.2.2.2.2.2.2.1, v.2.2.2.2.2.2.2.1, v.2.2.2.2.2.2.2.2.1, v.2.2.2.2.2.2.2.2.2.1, v.2.2.2.2.2.2.2.2.2.2.1, v.2.2.2.2.2.2.2.2.2.2.2.1, v.2.2.2.2.2.2.2.2.2.2.2.2.1, v.2.2.2.2.2.2.2.2.2.2.2.2.2.1, v.2.2.2.2.2.2.2.2.2.2.2.2.2.2.1, v.2.2.2.2.2.2.2.2.2.2.2.2.2.2.2)
abbrev X7_s2 (v : V_X7) (x : Nat → Int32) : V_X7 := (v.1, v.2.1, x, v.2.2.2.1, v.2.2.2.2.1, v.2.2.2.2.2.1, v.2.2.2.2.2.2.1, v.2.2.2.2.2.2.2.1, v.2.2.2.2.2.2.2.2.1, v.2.2.2.2.2.2.2.2.2.1, v.2.2.2.2.2.2.2.2.2.2.1, v.2.2.2.2.2.2.2.2.2.2.2.1, v.2.2.2.2.2.2.2.2.2.2.2.2.1, v.2.2.2.2.2.2.2.2.2.2.2.2.2.1, v.2.2.2.2.2.2.2.2.2.2.2.2.2.2.1, v.2.2.2.2.2.2.2.2.2.2.2.2.2.2.2)
abbrev X7_s3 (v : V_X7) (x : Int32) : V_X7 := (v.1, v.2.1, v.2.2.1, x, v.2.2.2.2.1, v.2.2.2.2.2.1, v.2.2.2.2.2.2.1, v.2.2.2.2.2.2.2.1, v.2.2.2.2.2.2.2.2.1, v.2.2.2.2.2.2.2.2.2.1, v.2.2.2.2.2.2.2.2.2.2.1, v.2.2.2.2.2.2.2.2.2.2.2.1, v.2.2.2.2.2.2.2.2.2.2.2.2.1, v.2.2.2.2.2.2.2.2.2.2.2.2.2.1, v.2.2.2.2.2.2.2.2.2.2.2.2.2.2.1, v.2.2.2.2.2.2.2.2.2.2.2.2.2.2.2)
abbrev X7_s4 (v : V_X7) (x : Nat → Int32) : V_X7 := (v.1, v.2.1, v.2.2.1, v.2.2.2.1, x, v.2.2.2.2.2.1, v.2.2.2.2.2.2.1, v.2.2.2.2.2.2.2.1, v.2.2.2.2.2.2.2.2.1, v.2.2.2.2.2.2.2.2.2.1, v.2.2.2.2.2.2.2.2.2.2.1, v.2.2.2.2.2.2.2.2.2.2.2.1, v.2.2.2.2.2.2.2.2.2.2.2.2.1, v.2.2.2.2.2.2.2.2.2.2.2.2.2.1, v.2.2.2.2.2.2.2.2.2.2.2.2.2.2.1, v.2.2.2.2.2.2.2.2.2.2.2.2.2.2.2)
abbrev X7_s5 (v : V_X7) (x : Int32) : V_X7 := (v.1, v.2.1, v.2.2.1, v.2.2.2.1, v.2.2.2.2.1, x, v.2.2.2.2.2.2.1, v.2.2.2.2.2.2.2.1, v.2.2.2.2.2.2.2.2.1, v.2.2.2.2.2.2.2.2.2.1, v.2.2.2.2.2.2.2.2.2.2.1, v.2.2.2.2.2.2.2.2.2.2.2.1, v.2.2.2.2.2.2.2.2.2.2.2.2.1, v.2.2.2.2.2.2.2.2.2.2.2.2.2.1, v.2.2.2.2.2.2.2.2.2.2.2.2.2.2.1, v.2.2.2.2.2.2.2.2.2.2.2.2.2.2.2)
abbrev X7_s6 (v : V_X7) (x : Nat → Int32) : V_X7 := (v.1, v.2.1, v.2.2.1, v.2.2.2.1, v.2.2.2.2.1, v.2.2.2.2.2.1, x, v.2.2.2.2.2.2.2.1, v.2.2.2.2.2.2.2.2.1, v.2.2.2.2.2.2.2.2.2.1, v.2.2.2.2.2.2.2.2.2.2.1, v.2.2.2.2.2.2.2.2.2.2.2.1, v.2.2.2.2.2.2.2.2.2.2.2.2.1, v.2.2.2.2.2.2.2.2.2.2.2.2.2.1, v.2.2.2.2.2.2.2.2.2.2.2.2.2.2.1, v.2.2.2.2.2.2.2.2.2.2.2.2.2.2.2)
abbrev X7_s7 (v : V_X7) (x : Int32) : V_X7 := (v.1, v.2.1, v.2.2.1, v.2.2.2.1, v.2.2.2.2.1, v.2.2.2.2.2.1, v.2.2.2.2.2.2.1, x, v.2.2.2.2.2.2.2.2.1, v.2.2.2.2.2.2.2.2.2.1, v.2.2.2.2.2.2.2.2.2.2.1, v.2.2.2.2.2.2.2.2.2.2.2.1, v.2.2.2.2.2.2.2.2.2.2.2.2.1, v.2.2.2.2.2.2.2.2.2.2.2.2.2.1, v.2.2.2.2.2.2.2.2.2.2.2.2.2.2.1, v.2.2.2.2.2.2.2.2.2.2.2.2.2.2.2)
abbrev X7_s8 (v : V_X7) (x : Int32) : V_X7 := (v.1, v.2.1, v.2.2.1, v.2.2.2.1, v.2.2.2.2.1, v.2.2.2.2.2.1, v.2.2.2.2.2.2.1, v.2.2.2.2.2.2.2.1, x, v.2.2.2.2.2.2.2.2.2.1, v.2.2.2.2.2.2.2.2.2.2.1, v.2.2.2.2.2.2.2.2.2.2.2.1, v.2.2.2.2.2.2.2.2.2.2.2.2.1, v.2.2.2.2.2.2.2.2.2.2.2.2.2.1, v.2.2.2.2.2.2.2.2.2.2.2.2.2.2.1, v.2.2.2.2.2.2.2.2.2.2.2.2.2.2.2)
abbrev X7_s9 (v : V_X7) (x : Nat → Int32) : V_X7 := (v.1, v.2.1, v.2.2.1, v.2.2.2.1, v.2.2.2.2.1, v.2.2.2.2.2.1, v.2.2.2.2.2.2.1, v.2.2.2.2.2.2.2.1, v.2.2.2.2.2.2.2.2.1, x, v.2.2.2.2.2.2.2.2.2.2.1, v.2.2.2.2.2.2.2.2.2.2.2.1, v.2.2.2.2.2.2.2.2.2.2.2.2.1, v.2.2.2.2.2.2.2.2.2.2.2.2.2.1, v.2.2.2.2.2.2.2.2.2.2.2.2.2.2.1, v.2.2.2.2.2.2.2.2.2.2.2.2.2.2.2)
abbrev X7_s10 (v : V_X7) (x : Int32) : V_X7 := (v.1, v.2.1, v.2.2.1, v.2.2.2.1, v.2.2.2.2.1, v.2.2.2.2.2.1, v.2.2.2.2.2.2.1, v.2.2.2.2.2.2.2.1, v.2.2.2.2.2.2.2.2.1, v.2.2.2.2.2.2.2.2.2.1, x, v.2.2.2.2.2.2.2.2.2.2.2.1, v.2.2.2.2.2.2.2.2.2.2.2.2.1, v.2.2.2.2.2.2.2.2.2.2.2.2.2.1, v.2.2.2.2.2.2.2.2.2.2.2.2.2.2.1, v.2.2.2.2.2.2.2.2.2.2.2.2.2.2.2)
abbrev X7_s11 (v : V_X7) (x : Int32) : V_X7 := (v.1, v.2.1, v.2.2.1, v.2.2.2.1, v.2.2.2.2.1, v.2.2.2.2.2.1, v.2.2.2.2.2.2.1, v.2.2.2.2.2.2.2.1, v.2.2.2.2.2.2.2.2.1, v.2.2.2.2.2.2.2.2.2.1, v.2.2.2.2.2.2.2.2.2.2.1, x, v.2.2.2.2.2.2.2.2.2.2.2.2.1, v.2.2.2.2.2.2.2.2.2.2.2.2.2.1, v.2.2.2.2.2.2.2.2.2.2.2.2.2.2.1, v.2.2.2.2.2.2.2.2.2.2.2.2.2.2.2)
abbrev X7_s12 (v : V_X7) (x : Nat → Int32) : V_X7 := (v.1, v.2.1, v.2.2.1, v.2.2.2.1, v.2.2.2.2.1, v.2.2.2.2.2.1, v.2.2.2.2.2.2.1, v.2.2.2.2.2.2.2.1, v.2.2.2.2.2.2.2.2.1, v.2.2.2.2.2.2.2.2.2.1, v.2.2.2.2.2.2.2.2.2.2.1, v.2.2.2.2.2.2.2.2.2.2.2.1, x, v.2.2.2.2.2.2.2.2.2.2.2.2.2.1, v.2.2.2.2.2.2.2.2.2.2.2.2.2.2.1, v.2.2.2.2.2.2.2.2.2.2.2.2.2.2.2)
abbrev X7_s13 (v : V_X7) (x : Nat → Int32) : V_X7 := (v.1, v.2.1, v.2.2.1, v.2.2.2.1, v.2.2.2.2.1, v.2.2.2.2.2.1, v.2.2.2.2.2.2.1, v.2.2.2.2.2.2.2.1, v.2.2.2.2.2.2.2.2.1, v.2.2.2.2.2.2.2.2.2.1, v.2.2.2.2.2.2.2.2.2.2.1, v.2.2.2.2.2.2.2.2.2.2.2.1, v.2.2.2.2.2.2.2.2.2.2.2.2.1, x, v.2.2.2.2.2.2.2.2.2.2.2.2.2.2.1, v.2.2.2.2.2.2.2.2.2.2.2.2.2.2.2)
abbrev X7_s14 (v : V_X7) (x : Nat → Int32) : V_X7 := (v.1, v.2.1, v.2.2.1, v.2.2.2.1, v.2.2.2.2.1, v.2.2.2.2.2.1, v.2.2.2.2.2.2.1, v.2.2.2.2.2.2.2.1, v.2.2.2.2.2.2.2.2.1, v.2.2.2.2.2.2.2.2.2.1, v.2.2.2.2.2.2.2.2.2.2.1, v.2.2.2.2.2.2.2.2.2.2.2.1, v.2.2.2.2.2.2.2.2.2.2.2.2.1, v.2.2.2.2.2.2.2.2.2.2.2.2.2.1, x, v.2.2.2.2.2.2.2.2.2.2.2.2.2.2.2)
abbrev X7_s15 (v : V_X7) (x : Int64) : V_X7 := (v.1, v.2.1, v.2.2.1, v.2.2.2.1, v.2.2.2.2.1, v.2.2.2.2.2.1, v.2.2.2.2.2.2.1, v.2.2.2.2.2.2.2.1, v.2.2.2.2.2.2.2.2.1, v.2.2.2.2.2.2.2.2.2.1, v.2.2.2.2.2.2.2.2.2.2.1, v.2.2.2.2.2.2.2.2.2.2.2.1, v.2.2.2.2.2.2.2.2.2.2.2.2.1, v.2.2.2.2.2.2.2.2.2.2.2.2.2.1, v.2.2.2.2.2.2.2.2.2.2.2.2.2.2.1, x)
def wp_X1_copyFrom (v : V_X1) (w : V_X1) (Q : Int32 → (Nat → Int32) → Int32 → Int32 → (Nat → Int32) → Int32 → Prop) : Prop :=
  ¬ (X1_planned w) < 0 ∧ (0 : Int32).toNatClampNeg + (X1_planned w).toNatClampNeg ≤ 20 ∧ ¬ (X1_trailLength w) < 0 ∧ (0 : Int32).toNatClampNeg + (X1_trailLength w).toNatClampNeg ≤ 21 ∧ Q (X1_air w) (va_cpy (X1_directions w) (X1_directions v) (0 : Int32).toNatClampNeg (0 : Int32).toNatClampNeg (X1_planned w).toNatClampNeg) (X1_planned w) (X1_steps w) (va_cpy (X1_trail w) (X1_trail v) (0 : Int32).toNatClampNeg (0 : Int32).toNatClampNeg (X1_trailLength w).toNatClampNeg) (X1_trailLength w)
def wp_X1_place (v : V_X1) (Q : Int32 → Prop) : Prop :=
  vp_in ((X1_trailLength v) - 1) 21 ∧ Q ((X1_trail v) ((X1_trailLength v) - 1).toNatClampNeg)
def wp_X1_number (v : V_X1) (x1 : Int32) (Q : Int32 → Prop) : Prop :=
  ((x1 = 0 → wp_X1_place v (fun r41 =>
  Q r41)) ∧
  (¬ x1 = 0 → ((x1 = 1 → Q (X1_air v)) ∧
  (¬ x1 = 1 → ((x1 = 2 → Q (X1_planned v)) ∧
  (¬ x1 = 2 → ((x1 = 3 → (((X1_planned v) ≤ 0 → Q (-1)) ∧
  (¬ (X1_planned v) ≤ 0 → vp_in 0 20 ∧ Q ((X1_directions v) (0 : Int32).toNatClampNeg)))) ∧
  (¬ x1 = 3 → ((x1 = 4 → vp_in 0 21 ∧ Q ((X1_trail v) (0 : Int32).toNatClampNeg)) ∧
  (¬ x1 = 4 → ((x1 = 5 → Q (X1_trailLength v)) ∧
  (¬ x1 = 5 → Q (X1_steps v)))))))))))))
def wp_X1_addDirection (v : V_X1) (x1 : Int32) (Q : (Nat → Int32) → Int32 → Prop) : Prop :=
  ((20 ≤ (X1_planned v) → Q (X1_directions v) (X1_planned v)) ∧
  (¬ 20 ≤ (X1_planned v) → vp_in (X1_planned v) 20 ∧ Q (upd (X1_directions v) (X1_planned v).toNatClampNeg x1) ((X1_planned v) + 1)))
def wb_X1_dropDirection_2 (v : V_X1)  (y2_1 : Int32) (z2_v_directions : (Nat → Int32)) (B2 : Int32 → (Nat → Int32) → Prop) (Q : (Nat → Int32) → Int32 → Prop) : Prop :=
  (((X1_planned v) ≤ y2_1 → (((X1_planned v) ≤ 0 → Q z2_v_directions 0) ∧
  (¬ (X1_planned v) ≤ 0 → Q z2_v_directions ((X1_planned v) - 1)))) ∧
  (¬ (X1_planned v) ≤ y2_1 → vp_in y2_1 20 ∧ vp_in (y2_1 - 1) 20 ∧ B2 (y2_1 + 1) (upd z2_v_directions (y2_1 - 1).toNatClampNeg (z2_v_directions y2_1.toNatClampNeg))))
def wp_X1_dropDirection_2 (v : V_X1)  (y2_1 : Int32) (z2_v_directions : (Nat → Int32)) (Q : (Nat → Int32) → Int32 → Prop) : Prop :=
  ∃ (I : Int32 → (Nat → Int32) → Prop) (μ : Int32 → (Nat → Int32) → Nat), I y2_1 z2_v_directions ∧ ∀ (s0 : Int32) (s1 : (Nat → Int32)), I s0 s1 → wb_X1_dropDirection_2 v  s0 s1 (fun t0 t1 => I t0 t1 ∧ μ t0 t1 < μ s0 s1) Q
def wp_X1_dropDirection (v : V_X1) (Q : (Nat → Int32) → Int32 → Prop) : Prop :=
  wp_X1_dropDirection_2 v  1 (X1_directions v) Q
def wp_X1_beginTrail (v : V_X1) (x1 : Int32) (Q : (Nat → Int32) → Int32 → Prop) : Prop :=
  vp_in 0 21 ∧ Q (upd (X1_trail v) (0 : Int32).toNatClampNeg x1) 1
def wp_X1_go_29 (v : V_X1) (x1 : Int32) (z29_v_steps : Int32) (z29_v_trailLength : Int32) (Q : Int32 → (Nat → Int32) → Int32 → Prop) : Prop :=
  vp_in (z29_v_trailLength - 1) 21 ∧ Q z29_v_steps (upd (X1_trail v) (z29_v_trailLength - 1).toNatClampNeg x1) z29_v_trailLength
def wp_X1_go (v : V_X1) (x1 : Int32) (Q : Int32 → (Nat → Int32) → Int32 → Prop) : Prop :=
  ((21 ≤ (X1_trailLength v) → wp_X1_go_29 v x1 ((X1_steps v) + 1) (X1_trailLength v)  Q) ∧
  (¬ 21 ≤ (X1_trailLength v) → wp_X1_go_29 v x1 ((X1_steps v) + 1) ((X1_trailLength v) + 1)  Q))
def wb_X1_firstIndex_2 (v : V_X1) (x1 : Int32)  (y2_2 : Int32) (B2 : Int32 → Prop) (Q : Int32 → Prop) : Prop :=
  (((X1_trailLength v) ≤ y2_2 → Q (-1)) ∧
  (¬ (X1_trailLength v) ≤ y2_2 → vp_in y2_2 21 ∧ ((((X1_trail v) y2_2.toNatClampNeg) = x1 → Q y2_2) ∧
  (¬ ((X1_trail v) y2_2.toNatClampNeg) = x1 → B2 (y2_2 + 1)))))
def wp_X1_firstIndex_2 (v : V_X1) (x1 : Int32)  (y2_2 : Int32) (Q : Int32 → Prop) : Prop :=
  ∃ (I : Int32 → Prop) (μ : Int32 → Nat), I y2_2 ∧ ∀ (s0 : Int32), I s0 → wb_X1_firstIndex_2 v x1  s0 (fun t0 => I t0 ∧ μ t0 < μ s0) Q
def wp_X1_firstIndex (v : V_X1) (x1 : Int32) (Q : Int32 → Prop) : Prop :=
  wp_X1_firstIndex_2 v x1  0 Q
def wb_X1_dropBeforeLast_39 (v : V_X1) (x1 : Int32) (y39_2 : Int32) (z39_v_trailLength : Int32) (y39_3 : Int32) (z39_v_trail : (Nat → Int32)) (B39 : Int32 → (Nat → Int32) → Prop) (Q : (Nat → Int32) → Int32 → Prop) : Prop :=
  ((z39_v_trailLength ≤ y39_3 → Q z39_v_trail z39_v_trailLength) ∧
  (¬ z39_v_trailLength ≤ y39_3 → vp_in (y39_3 + y39_2) 21 ∧ vp_in y39_3 21 ∧ B39 (y39_3 + 1) (upd z39_v_trail y39_3.toNatClampNeg (z39_v_trail (y39_3 + y39_2).toNatClampNeg))))
def wp_X1_dropBeforeLast_39 (v : V_X1) (x1 : Int32) (y39_2 : Int32) (z39_v_trailLength : Int32) (y39_3 : Int32) (z39_v_trail : (Nat → Int32)) (Q : (Nat → Int32) → Int32 → Prop) : Prop :=
  ∃ (I : Int32 → (Nat → Int32) → Prop) (μ : Int32 → (Nat → Int32) → Nat), I y39_3 z39_v_trail ∧ ∀ (s0 : Int32) (s1 : (Nat → Int32)), I s0 s1 → wb_X1_dropBeforeLast_39 v x1 y39_2 z39_v_trailLength s0 s1 (fun t0 t1 => I t0 t1 ∧ μ t0 t1 < μ s0 s1) Q
def wp_X1_dropBeforeLast_27 (v : V_X1) (x1 : Int32) (y27_2 : Int32) (Q : (Nat → Int32) → Int32 → Prop) : Prop :=
  wp_X1_dropBeforeLast_39 v x1 y27_2 ((X1_trailLength v) - y27_2) 0 (X1_trail v) Q
def wb_X1_dropBeforeLast_7 (v : V_X1) (x1 : Int32)  (y7_2 : Int32) (B7 : Int32 → Prop) (Q : (Nat → Int32) → Int32 → Prop) : Prop :=
  ((y7_2 ≤ 0 → wp_X1_dropBeforeLast_27 v x1 y7_2  Q) ∧
  (¬ y7_2 ≤ 0 → vp_in y7_2 21 ∧ ((((X1_trail v) y7_2.toNatClampNeg) = x1 → wp_X1_dropBeforeLast_27 v x1 y7_2  Q) ∧
  (¬ ((X1_trail v) y7_2.toNatClampNeg) = x1 → B7 (y7_2 + (-1))))))
def wp_X1_dropBeforeLast_7 (v : V_X1) (x1 : Int32)  (y7_2 : Int32) (Q : (Nat → Int32) → Int32 → Prop) : Prop :=
  ∃ (I : Int32 → Prop) (μ : Int32 → Nat), I y7_2 ∧ ∀ (s0 : Int32), I s0 → wb_X1_dropBeforeLast_7 v x1  s0 (fun t0 => I t0 ∧ μ t0 < μ s0) Q
def wp_X1_dropBeforeLast (v : V_X1) (x1 : Int32) (Q : (Nat → Int32) → Int32 → Prop) : Prop :=
  wp_X1_dropBeforeLast_7 v x1  ((X1_trailLength v) - 1) Q
def wp_X3_empty (v : V_X3) (Q : Int32 → Int32 → Prop) : Prop :=
  Q 0 0
def wp_X3_copyFrom (v : V_X3) (w : V_X3) (Q : (Nat → Int32) → (Nat → Int32) → Int32 → Int32 → Prop) : Prop :=
  ¬ (X3_used w) < 0 ∧ (0 : Int32).toNatClampNeg + (X3_used w).toNatClampNeg ≤ 1024 ∧ ¬ (X3_size w) < 0 ∧ (0 : Int32).toNatClampNeg + (X3_size w).toNatClampNeg ≤ 512 ∧ Q (va_cpy (X3_cells w) (X3_cells v) (0 : Int32).toNatClampNeg (0 : Int32).toNatClampNeg (X3_used w).toNatClampNeg) (va_cpy (X3_ends w) (X3_ends v) (0 : Int32).toNatClampNeg (0 : Int32).toNatClampNeg (X3_size w).toNatClampNeg) (X3_size w) (X3_used w)
def wp_X3_from (v : V_X3) (x1 : Int32) (Q : Int32 → Prop) : Prop :=
  ((x1 ≤ 0 → Q 0) ∧
  (¬ x1 ≤ 0 → (((X3_size v) < x1 → Q 0) ∧
  (¬ (X3_size v) < x1 → vp_in (x1 - 1) 512 ∧ Q ((X3_ends v) (x1 - 1).toNatClampNeg)))))
def wp_X3_to (v : V_X3) (x1 : Int32) (Q : Int32 → Prop) : Prop :=
  ((x1 < 0 → Q 0) ∧
  (¬ x1 < 0 → (((X3_size v) ≤ x1 → Q 0) ∧
  (¬ (X3_size v) ≤ x1 → vp_in x1 512 ∧ Q ((X3_ends v) x1.toNatClampNeg)))))
def wp_X3_at (v : V_X3) (x1 : Int32) (x2 : Int32) (Q : Int32 → Prop) : Prop :=
  ((x2 < 0 → Q (-1)) ∧
  (¬ x2 < 0 → wp_X3_to v x1 (fun r7 =>
  wp_X3_from v x1 (fun r12 =>
  (((r7 - r12) ≤ x2 → Q (-1)) ∧
  (¬ (r7 - r12) ≤ x2 → wp_X3_from v x1 (fun r25 =>
  vp_in (r25 + x2) 1024 ∧ Q ((X3_cells v) (r25 + x2).toNatClampNeg))))))))
def wp_X3_first (v : V_X3) (x1 : Int32) (Q : Int32 → Prop) : Prop :=
  wp_X3_at v x1 0 (fun r3 =>
  Q r3)
def wp_X3_last (v : V_X3) (x1 : Int32) (Q : Int32 → Prop) : Prop :=
  wp_X3_to v x1 (fun r4 =>
  wp_X3_from v x1 (fun r9 =>
  wp_X3_at v x1 ((r4 - r9) - 1) (fun r15 =>
  Q r15)))
def wp_X3_number (v : V_X3) (x1 : Int32) (x2 : Int32) (Q : Int32 → Prop) : Prop :=
  ((x2 = 0 → wp_X3_first v x1 (fun r30 =>
  Q r30)) ∧
  (¬ x2 = 0 → ((x2 = 1 → wp_X3_last v x1 (fun r36 =>
  Q r36)) ∧
  (¬ x2 = 1 → wp_X3_to v x1 (fun r42 =>
  wp_X3_from v x1 (fun r47 =>
  Q (r42 - r47)))))))
def wb_X3_firstIndex_13 (v : V_X3) (x1 : Int32) (x2 : Int32) (y13_3 : Int32) (y13_4 : Int32) (B13 : Int32 → Prop) (Q : Int32 → Prop) : Prop :=
  ((y13_3 ≤ y13_4 → Q (-1)) ∧
  (¬ y13_3 ≤ y13_4 → vp_in y13_4 1024 ∧ ((((X3_cells v) y13_4.toNatClampNeg) = x2 → Q y13_4) ∧
  (¬ ((X3_cells v) y13_4.toNatClampNeg) = x2 → B13 (y13_4 + 1)))))
def wp_X3_firstIndex_13 (v : V_X3) (x1 : Int32) (x2 : Int32) (y13_3 : Int32) (y13_4 : Int32) (Q : Int32 → Prop) : Prop :=
  ∃ (I : Int32 → Prop) (μ : Int32 → Nat), I y13_4 ∧ ∀ (s0 : Int32), I s0 → wb_X3_firstIndex_13 v x1 x2 y13_3 s0 (fun t0 => I t0 ∧ μ t0 < μ s0) Q
def wp_X3_firstIndex (v : V_X3) (x1 : Int32) (x2 : Int32) (Q : Int32 → Prop) : Prop :=
  wp_X3_to v x1 (fun r2 =>
  wp_X3_from v x1 (fun r8 =>
  wp_X3_firstIndex_13 v x1 x2 r2 r8 Q))
def wb_X3_lastIndex_15 (v : V_X3) (x1 : Int32) (x2 : Int32) (y15_3 : Int32) (y15_4 : Int32) (B15 : Int32 → Prop) (Q : Int32 → Prop) : Prop :=
  ((y15_4 < y15_3 → Q (-1)) ∧
  (¬ y15_4 < y15_3 → vp_in y15_4 1024 ∧ ((((X3_cells v) y15_4.toNatClampNeg) = x2 → Q y15_4) ∧
  (¬ ((X3_cells v) y15_4.toNatClampNeg) = x2 → B15 (y15_4 + (-1))))))
def wp_X3_lastIndex_15 (v : V_X3) (x1 : Int32) (x2 : Int32) (y15_3 : Int32) (y15_4 : Int32) (Q : Int32 → Prop) : Prop :=
  ∃ (I : Int32 → Prop) (μ : Int32 → Nat), I y15_4 ∧ ∀ (s0 : Int32), I s0 → wb_X3_lastIndex_15 v x1 x2 y15_3 s0 (fun t0 => I t0 ∧ μ t0 < μ s0) Q
def wp_X3_lastIndex (v : V_X3) (x1 : Int32) (x2 : Int32) (Q : Int32 → Prop) : Prop :=
  wp_X3_from v x1 (fun r2 =>
  wp_X3_to v x1 (fun r8 =>
  wp_X3_lastIndex_15 v x1 x2 r2 (r8 - 1) Q))
def wp_X3_endsAt (v : V_X3) (x1 : Int32) (x2 : Int32) (Q : Int32 → Prop) : Prop :=
  wp_X3_first v x1 (fun r2 =>
  ((r2 = x2 → Q 1) ∧
  (¬ r2 = x2 → wp_X3_last v x1 (fun r11 =>
  ((r11 = x2 → Q 1) ∧
  (¬ r11 = x2 → Q 0))))))
def wp_X3_otherEnd (v : V_X3) (x1 : Int32) (x2 : Int32) (Q : Int32 → Prop) : Prop :=
  wp_X3_first v x1 (fun r2 =>
  ((r2 = x2 → wp_X3_last v x1 (fun r11 =>
  Q r11)) ∧
  (¬ r2 = x2 → wp_X3_first v x1 (fun r19 =>
  Q r19))))
def wb_X3_endingAt_2 (v : V_X3) (x1 : Int32) (x2 : Int32)  (y2_3 : Int32) (B2 : Int32 → Prop) (Q : Int32 → Prop) : Prop :=
  (((X3_size v) ≤ y2_3 → Q (-1)) ∧
  (¬ (X3_size v) ≤ y2_3 → wp_X3_endsAt v y2_3 x1 (fun r13 =>
  ((r13 = 0 → B2 (y2_3 + 1)) ∧
  (¬ r13 = 0 → Q y2_3)))))
def wp_X3_endingAt_2 (v : V_X3) (x1 : Int32) (x2 : Int32)  (y2_3 : Int32) (Q : Int32 → Prop) : Prop :=
  ∃ (I : Int32 → Prop) (μ : Int32 → Nat), I y2_3 ∧ ∀ (s0 : Int32), I s0 → wb_X3_endingAt_2 v x1 x2  s0 (fun t0 => I t0 ∧ μ t0 < μ s0) Q
def wp_X3_endingAt (v : V_X3) (x1 : Int32) (x2 : Int32) (Q : Int32 → Prop) : Prop :=
  wp_X3_endingAt_2 v x1 x2  x2 Q
def wp_X3_put (v : V_X3) (x1 : Int32) (Q : (Nat → Int32) → Int32 → Prop) : Prop :=
  ((1024 ≤ (X3_used v) → Q (X3_cells v) (X3_used v)) ∧
  (¬ 1024 ≤ (X3_used v) → vp_in (X3_used v) 1024 ∧ Q (upd (X3_cells v) (X3_used v).toNatClampNeg x1) ((X3_used v) + 1)))
def wp_X3_close (v : V_X3) (Q : (Nat → Int32) → Int32 → Prop) : Prop :=
  ((512 ≤ (X3_size v) → Q (X3_ends v) (X3_size v)) ∧
  (¬ 512 ≤ (X3_size v) → vp_in (X3_size v) 512 ∧ Q (upd (X3_ends v) (X3_size v).toNatClampNeg (X3_used v)) ((X3_size v) + 1)))
def wp_X3_addRow (v : V_X3) (nw : Nat) (w : (Nat → Int32)) (x2 : Int32) (x3 : Int32) (Q : (Nat → Int32) → (Nat → Int32) → Int32 → Int32 → Prop) : Prop :=
  ((x2 < 0 → Q (X3_cells v) (X3_ends v) (X3_size v) (X3_used v)) ∧
  (¬ x2 < 0 → (((x3 - x2) < 0 → Q (X3_cells v) (X3_ends v) (X3_size v) (X3_used v)) ∧
  (¬ (x3 - x2) < 0 → (((Int32.ofNat nw) < x3 → Q (X3_cells v) (X3_ends v) (X3_size v) (X3_used v)) ∧
  (¬ (Int32.ofNat nw) < x3 → ((512 ≤ (X3_size v) → Q (X3_cells v) (X3_ends v) (X3_size v) (X3_used v)) ∧
  (¬ 512 ≤ (X3_size v) → (((x3 - x2) ≤ (1024 - (X3_used v)) → ¬ x2 < 0 ∧ ¬ (X3_used v) < 0 ∧ ¬ (x3 - x2) < 0 ∧ x2.toNatClampNeg + (x3 - x2).toNatClampNeg ≤ nw ∧ (X3_used v).toNatClampNeg + (x3 - x2).toNatClampNeg ≤ 1024 ∧ vp_in (X3_size v) 512 ∧ Q (va_cpy w (X3_cells v) x2.toNatClampNeg (X3_used v).toNatClampNeg (x3 - x2).toNatClampNeg) (upd (X3_ends v) (X3_size v).toNatClampNeg ((X3_used v) + (x3 - x2))) ((X3_size v) + 1) ((X3_used v) + (x3 - x2))) ∧
  (¬ (x3 - x2) ≤ (1024 - (X3_used v)) → Q (X3_cells v) (X3_ends v) (X3_size v) (X3_used v)))))))))))
def wp_X5_put (v : V_X5) (x1 : Int32) (Q : (Nat → Int32) → Int32 → Prop) : Prop :=
  ((60 ≤ (X5_length v) → Q (X5_codes v) (X5_length v)) ∧
  (¬ 60 ≤ (X5_length v) → vp_in (X5_length v) 60 ∧ Q (upd (X5_codes v) (X5_length v).toNatClampNeg x1) ((X5_length v) + 1)))
def wp_X5_directionOf (x0 : Int32) (Q : Int32 → Prop) : Prop :=
  ((x0 = 101 → Q 1) ∧
  (¬ x0 = 101 → ((x0 = 110 → Q 0) ∧
  (¬ x0 = 110 → ((x0 = 115 → Q 2) ∧
  (¬ x0 = 115 → ((x0 = 119 → Q 3) ∧
  (¬ x0 = 119 → Q (-1)))))))))
def wp_X5_dueBehind (x0 : Int32) (x1 : Int32) (Q : Int32 → Prop) : Prop :=
  ((x0 = 0 → ((x1 < 48 → Q (-1)) ∧
  (¬ x1 < 48 → ((51 < x1 → Q (-1)) ∧
  (¬ 51 < x1 → Q 1))))) ∧
  (¬ x0 = 0 → ((x0 = 1 → ((x1 = 58 → Q 2) ∧
  (¬ x1 = 58 → Q (-1)))) ∧
  (¬ x0 = 1 → ((x0 = 2 → wp_X5_directionOf x1 (fun r59 =>
  ((r59 = (-1) → Q (-1)) ∧
  (¬ r59 = (-1) → Q 3)))) ∧
  (¬ x0 = 2 → ((x1 = 59 → Q 0) ∧
  (¬ x1 = 59 → wp_X5_directionOf x1 (fun r83 =>
  ((r83 = (-1) → Q (-1)) ∧
  (¬ r83 = (-1) → Q 3)))))))))))
def wb_X5_firstFault_4 (v : V_X5)  (y4_1 : Int32) (y4_2 : Int32) (B4 : Int32 → Int32 → Prop) (Q : Int32 → Prop) : Prop :=
  (((X5_length v) ≤ y4_2 → Q (X5_length v)) ∧
  (¬ (X5_length v) ≤ y4_2 → vp_in y4_2 60 ∧ wp_X5_dueBehind y4_1 ((X5_codes v) y4_2.toNatClampNeg) (fun r19 =>
  ((r19 = (-1) → Q y4_2) ∧
  (¬ r19 = (-1) → B4 r19 (y4_2 + 1))))))
def wp_X5_firstFault_4 (v : V_X5)  (y4_1 : Int32) (y4_2 : Int32) (Q : Int32 → Prop) : Prop :=
  ∃ (I : Int32 → Int32 → Prop) (μ : Int32 → Int32 → Nat), I y4_1 y4_2 ∧ ∀ (s0 : Int32) (s1 : Int32), I s0 s1 → wb_X5_firstFault_4 v  s0 s1 (fun t0 t1 => I t0 t1 ∧ μ t0 t1 < μ s0 s1) Q
def wp_X5_firstFault (v : V_X5) (Q : Int32 → Prop) : Prop :=
  wp_X5_firstFault_4 v  0 0 Q
def wp_X5_isComplete_34 (v : V_X5) (y34_1 : Int32) (Q : Int32 → Prop) : Prop :=
  ((y34_1 = 3 → Q 1) ∧
  (¬ y34_1 = 3 → Q 0))
def wb_X5_isComplete_4 (v : V_X5)  (y4_1 : Int32) (y4_2 : Int32) (B4 : Int32 → Int32 → Prop) (Q : Int32 → Prop) : Prop :=
  (((X5_length v) ≤ y4_2 → wp_X5_isComplete_34 v y4_1  Q) ∧
  (¬ (X5_length v) ≤ y4_2 → ((y4_1 = (-1) → wp_X5_isComplete_34 v y4_1  Q) ∧
  (¬ y4_1 = (-1) → vp_in y4_2 60 ∧ wp_X5_dueBehind y4_1 ((X5_codes v) y4_2.toNatClampNeg) (fun r24 =>
  B4 r24 (y4_2 + 1))))))
def wp_X5_isComplete_4 (v : V_X5)  (y4_1 : Int32) (y4_2 : Int32) (Q : Int32 → Prop) : Prop :=
  ∃ (I : Int32 → Int32 → Prop) (μ : Int32 → Int32 → Nat), I y4_1 y4_2 ∧ ∀ (s0 : Int32) (s1 : Int32), I s0 s1 → wb_X5_isComplete_4 v  s0 s1 (fun t0 t1 => I t0 t1 ∧ μ t0 t1 < μ s0 s1) Q
def wp_X5_isComplete (v : V_X5) (Q : Int32 → Prop) : Prop :=
  wp_X5_isComplete_4 v  0 0 Q
def wp_X2_reach_31 (v : V_X2) (x1 : Int32) (x2 : Int32) (x3 : Int32) (z31_v_distance : (Nat → Int32)) (Q : Int32 → (Nat → Int32) → Prop) : Prop :=
  vp_in x2 64 ∧ (((z31_v_distance x2.toNatClampNeg) = x3 → vp_in x1 64 ∧ (((z31_v_distance x1.toNatClampNeg) = (-1) → Q 1 (upd z31_v_distance x1.toNatClampNeg (x3 + 1))) ∧
  (¬ (z31_v_distance x1.toNatClampNeg) = (-1) → Q 0 z31_v_distance))) ∧
  (¬ (z31_v_distance x2.toNatClampNeg) = x3 → Q 0 z31_v_distance))
def wp_X2_reach (v : V_X2) (x1 : Int32) (x2 : Int32) (x3 : Int32) (Q : Int32 → (Nat → Int32) → Prop) : Prop :=
  vp_in x1 64 ∧ ((((X2_distance v) x1.toNatClampNeg) = x3 → vp_in x2 64 ∧ ((((X2_distance v) x2.toNatClampNeg) = (-1) → Q 1 (upd (X2_distance v) x2.toNatClampNeg (x3 + 1))) ∧
  (¬ ((X2_distance v) x2.toNatClampNeg) = (-1) → wp_X2_reach_31 v x1 x2 x3 (X2_distance v)  Q))) ∧
  (¬ ((X2_distance v) x1.toNatClampNeg) = x3 → wp_X2_reach_31 v x1 x2 x3 (X2_distance v)  Q))
def wp_X2_isTuft (x0 : Int32) (Q : Int32 → Prop) : Prop :=
  ((x0 < 0 → Q 0) ∧
  (¬ x0 < 0 → ((64 ≤ x0 → Q 0) ∧
  (¬ 64 ≤ x0 → Q 1))))
def wb_X2_uniteGroups_2 (v : V_X2) (x1 : Int32) (x2 : Int32)  (y2_3 : Int32) (z2_v_group : (Nat → Int32)) (B2 : Int32 → (Nat → Int32) → Prop) (Q : (Nat → Int32) → Prop) : Prop :=
  ((64 ≤ y2_3 → Q z2_v_group) ∧
  (¬ 64 ≤ y2_3 → vp_in y2_3 64 ∧ (((z2_v_group y2_3.toNatClampNeg) = x2 → B2 (y2_3 + 1) (upd z2_v_group y2_3.toNatClampNeg x1)) ∧
  (¬ (z2_v_group y2_3.toNatClampNeg) = x2 → B2 (y2_3 + 1) z2_v_group))))
def wp_X2_uniteGroups_2 (v : V_X2) (x1 : Int32) (x2 : Int32)  (y2_3 : Int32) (z2_v_group : (Nat → Int32)) (Q : (Nat → Int32) → Prop) : Prop :=
  ∃ (I : Int32 → (Nat → Int32) → Prop) (μ : Int32 → (Nat → Int32) → Nat), I y2_3 z2_v_group ∧ ∀ (s0 : Int32) (s1 : (Nat → Int32)), I s0 s1 → wb_X2_uniteGroups_2 v x1 x2  s0 s1 (fun t0 t1 => I t0 t1 ∧ μ t0 t1 < μ s0 s1) Q
def wp_X2_uniteGroups (v : V_X2) (x1 : Int32) (x2 : Int32) (Q : (Nat → Int32) → Prop) : Prop :=
  wp_X2_uniteGroups_2 v x1 x2  0 (X2_group v) Q
def wp_X6_tuftAt (x0 : Int32) (x1 : Int32) (Q : Int32 → Prop) : Prop :=
  ((x0 < 0 → Q (-1)) ∧
  (¬ x0 < 0 → ((8 ≤ x0 → Q (-1)) ∧
  (¬ 8 ≤ x0 → ((x1 < 0 → Q (-1)) ∧
  (¬ x1 < 0 → ((x1 < 8 → Q ((x0 * 8) + x1)) ∧
  (¬ x1 < 8 → Q (-1)))))))))
def wp_X6_stepFrom (x0 : Int32) (x1 : Int32) (Q : Int32 → Prop) : Prop :=
  ((x1 < 0 → Q (-1)) ∧
  (¬ x1 < 0 → ((x1 ≤ 3 → vp_in x1 4 ∧ wp_X6_tuftAt ((x0 / 8) + (tab_ROW_STEP x1.toNatClampNeg)) ((x0 - x0 / 8 * 8) + (tab_COLUMN_STEP x1.toNatClampNeg)) (fun r31 =>
  Q r31)) ∧
  (¬ x1 ≤ 3 → Q (-1)))))
def wp_X6_neighbour (x0 : Int32) (x1 : Int32) (Q : Int32 → Prop) : Prop :=
  ((x1 < 0 → Q (-1)) ∧
  (¬ x1 < 0 → ((x1 < 8 → vp_in x1 8 ∧ wp_X6_tuftAt ((x0 / 8) + (tab_ROW_BESIDE x1.toNatClampNeg)) ((x0 - x0 / 8 * 8) + (tab_COLUMN_BESIDE x1.toNatClampNeg)) (fun r32 =>
  Q r32)) ∧
  (¬ x1 < 8 → Q (-1)))))
def wb_X4_hollowCount_4 (v : V_X4)  (y4_1 : Int32) (y4_2 : Int32) (B4 : Int32 → Int32 → Prop) (Q : Int32 → Prop) : Prop :=
  ((64 ≤ y4_2 → Q y4_1) ∧
  (¬ 64 ≤ y4_2 → vp_in y4_2 64 ∧ B4 (y4_1 + ((X4_hollow v) y4_2.toNatClampNeg)) (y4_2 + 1)))
def wp_X4_hollowCount_4 (v : V_X4)  (y4_1 : Int32) (y4_2 : Int32) (Q : Int32 → Prop) : Prop :=
  ∃ (I : Int32 → Int32 → Prop) (μ : Int32 → Int32 → Nat), I y4_1 y4_2 ∧ ∀ (s0 : Int32) (s1 : Int32), I s0 s1 → wb_X4_hollowCount_4 v  s0 s1 (fun t0 t1 => I t0 t1 ∧ μ t0 t1 < μ s0 s1) Q
def wp_X4_hollowCount (v : V_X4) (Q : Int32 → Prop) : Prop :=
  wp_X4_hollowCount_4 v  0 0 Q
def wb_X4_countBeside_6 (nw : Nat) (w : (Nat → Int32)) (x2 : Int32) (x3 : Int32)  (y6_4 : Int32) (y6_5 : Int32) (B6 : Int32 → Int32 → Prop) (Q : Int32 → Prop) : Prop :=
  ((8 ≤ y6_5 → Q y6_4) ∧
  (¬ 8 ≤ y6_5 → wp_X6_neighbour x2 y6_5 (fun r16 =>
  ((r16 = (-1) → B6 y6_4 (y6_5 + 1)) ∧
  (¬ r16 = (-1) → vp_in r16 nw ∧ (((w r16.toNatClampNeg) = x3 → B6 (y6_4 + 1) (y6_5 + 1)) ∧
  (¬ (w r16.toNatClampNeg) = x3 → B6 y6_4 (y6_5 + 1))))))))
def wp_X4_countBeside_6 (nw : Nat) (w : (Nat → Int32)) (x2 : Int32) (x3 : Int32)  (y6_4 : Int32) (y6_5 : Int32) (Q : Int32 → Prop) : Prop :=
  ∃ (I : Int32 → Int32 → Prop) (μ : Int32 → Int32 → Nat), I y6_4 y6_5 ∧ ∀ (s0 : Int32) (s1 : Int32), I s0 s1 → wb_X4_countBeside_6 nw w x2 x3  s0 s1 (fun t0 t1 => I t0 t1 ∧ μ t0 t1 < μ s0 s1) Q
def wp_X4_countBeside (nw : Nat) (w : (Nat → Int32)) (x2 : Int32) (x3 : Int32) (Q : Int32 → Prop) : Prop :=
  wp_X4_countBeside_6 nw w x2 x3  0 0 Q
def wb_X4_readTunnel_13 (v : V_X4) (w : V_X3) (x2 : Int32) (y13_3 : Int32) (y13_4 : Int32) (z13_v_crossings : (Nat → Int32)) (z13_v_hollow : (Nat → Int32)) (z13_v_seenBy : (Nat → Int32)) (B13 : Int32 → (Nat → Int32) → (Nat → Int32) → (Nat → Int32) → Prop) (Q : (Nat → Int32) → (Nat → Int32) → (Nat → Int32) → Prop) : Prop :=
  ((y13_3 ≤ y13_4 → Q z13_v_crossings z13_v_hollow z13_v_seenBy) ∧
  (¬ y13_3 ≤ y13_4 → vp_in y13_4 1024 ∧ vp_in ((X3_cells w) y13_4.toNatClampNeg) 64 ∧ (((z13_v_seenBy ((X3_cells w) y13_4.toNatClampNeg).toNatClampNeg) = x2 → B13 (y13_4 + 1) z13_v_crossings z13_v_hollow z13_v_seenBy) ∧
  (¬ (z13_v_seenBy ((X3_cells w) y13_4.toNatClampNeg).toNatClampNeg) = x2 → B13 (y13_4 + 1) (upd z13_v_crossings ((X3_cells w) y13_4.toNatClampNeg).toNatClampNeg ((z13_v_crossings ((X3_cells w) y13_4.toNatClampNeg).toNatClampNeg) + 1)) (upd z13_v_hollow ((X3_cells w) y13_4.toNatClampNeg).toNatClampNeg 1) (upd z13_v_seenBy ((X3_cells w) y13_4.toNatClampNeg).toNatClampNeg x2)))))
def wp_X4_readTunnel_13 (v : V_X4) (w : V_X3) (x2 : Int32) (y13_3 : Int32) (y13_4 : Int32) (z13_v_crossings : (Nat → Int32)) (z13_v_hollow : (Nat → Int32)) (z13_v_seenBy : (Nat → Int32)) (Q : (Nat → Int32) → (Nat → Int32) → (Nat → Int32) → Prop) : Prop :=
  ∃ (I : Int32 → (Nat → Int32) → (Nat → Int32) → (Nat → Int32) → Prop) (μ : Int32 → (Nat → Int32) → (Nat → Int32) → (Nat → Int32) → Nat), I y13_4 z13_v_crossings z13_v_hollow z13_v_seenBy ∧ ∀ (s0 : Int32) (s1 : (Nat → Int32)) (s2 : (Nat → Int32)) (s3 : (Nat → Int32)), I s0 s1 s2 s3 → wb_X4_readTunnel_13 v w x2 y13_3 s0 s1 s2 s3 (fun t0 t1 t2 t3 => I t0 t1 t2 t3 ∧ μ t0 t1 t2 t3 < μ s0 s1 s2 s3) Q
def wp_X4_readTunnel (v : V_X4) (w : V_X3) (x2 : Int32) (Q : (Nat → Int32) → (Nat → Int32) → (Nat → Int32) → Prop) : Prop :=
  wp_X3_to w x2 (fun r2 =>
  wp_X3_from w x2 (fun r8 =>
  wp_X4_readTunnel_13 v w x2 r2 r8 (X4_crossings v) (X4_hollow v) (X4_seenBy v) Q))
def wb_X4_readTrail_2 (v : V_X4) (w : V_X1)  (y2_2 : Int32) (z2_v_hollow : (Nat → Int32)) (B2 : Int32 → (Nat → Int32) → Prop) (Q : (Nat → Int32) → Prop) : Prop :=
  (((X1_trailLength w) ≤ y2_2 → Q z2_v_hollow) ∧
  (¬ (X1_trailLength w) ≤ y2_2 → vp_in y2_2 21 ∧ vp_in ((X1_trail w) y2_2.toNatClampNeg) 64 ∧ B2 (y2_2 + 1) (upd z2_v_hollow ((X1_trail w) y2_2.toNatClampNeg).toNatClampNeg 1)))
def wp_X4_readTrail_2 (v : V_X4) (w : V_X1)  (y2_2 : Int32) (z2_v_hollow : (Nat → Int32)) (Q : (Nat → Int32) → Prop) : Prop :=
  ∃ (I : Int32 → (Nat → Int32) → Prop) (μ : Int32 → (Nat → Int32) → Nat), I y2_2 z2_v_hollow ∧ ∀ (s0 : Int32) (s1 : (Nat → Int32)), I s0 s1 → wb_X4_readTrail_2 v w  s0 s1 (fun t0 t1 => I t0 t1 ∧ μ t0 t1 < μ s0 s1) Q
def wp_X4_readTrail (v : V_X4) (w : V_X1) (Q : (Nat → Int32) → Prop) : Prop :=
  wp_X4_readTrail_2 v w  0 (X4_hollow v) Q
def wb_X4_markUnknownBeside_2 (v : V_X4) (x1 : Int32) (x2 : Int32)  (y2_3 : Int32) (z2_v_sure : (Nat → Int32)) (B2 : Int32 → (Nat → Int32) → Prop) (Q : (Nat → Int32) → Prop) : Prop :=
  ((8 ≤ y2_3 → Q z2_v_sure) ∧
  (¬ 8 ≤ y2_3 → wp_X6_neighbour x1 y2_3 (fun r10 =>
  ((r10 = (-1) → B2 (y2_3 + 1) z2_v_sure) ∧
  (¬ r10 = (-1) → vp_in r10 64 ∧ (((z2_v_sure r10.toNatClampNeg) = (-1) → B2 (y2_3 + 1) (upd z2_v_sure r10.toNatClampNeg x2)) ∧
  (¬ (z2_v_sure r10.toNatClampNeg) = (-1) → B2 (y2_3 + 1) z2_v_sure)))))))
def wp_X4_markUnknownBeside_2 (v : V_X4) (x1 : Int32) (x2 : Int32)  (y2_3 : Int32) (z2_v_sure : (Nat → Int32)) (Q : (Nat → Int32) → Prop) : Prop :=
  ∃ (I : Int32 → (Nat → Int32) → Prop) (μ : Int32 → (Nat → Int32) → Nat), I y2_3 z2_v_sure ∧ ∀ (s0 : Int32) (s1 : (Nat → Int32)), I s0 s1 → wb_X4_markUnknownBeside_2 v x1 x2  s0 s1 (fun t0 t1 => I t0 t1 ∧ μ t0 t1 < μ s0 s1) Q
def wp_X4_markUnknownBeside (v : V_X4) (x1 : Int32) (x2 : Int32) (Q : (Nat → Int32) → Prop) : Prop :=
  wp_X4_markUnknownBeside_2 v x1 x2  0 (X4_sure v) Q
def wp_X4_concludeAt (v : V_X4) (x1 : Int32) (Q : Int32 → (Nat → Int32) → Prop) : Prop :=
  wp_X4_countBeside 64 (X4_sure v) x1 (-1) (fun r7 =>
  ((r7 = 0 → Q 0 (X4_sure v)) ∧
  (¬ r7 = 0 → wp_X4_countBeside 64 (X4_hollow v) x1 1 (fun r24 =>
  wp_X4_countBeside 64 (X4_sure v) x1 1 (fun r35 =>
  ((r35 = r24 → wp_X4_markUnknownBeside v x1 0 (fun z49_v_sure =>
  Q 1 z49_v_sure)) ∧
  (¬ r35 = r24 → (((r35 + r7) = r24 → wp_X4_markUnknownBeside v x1 1 (fun z65_v_sure =>
  Q 1 z65_v_sure)) ∧
  (¬ (r35 + r7) = r24 → Q 0 (X4_sure v))))))))))
def wb_X0_moundCount_4 (v : V_X0)  (y4_1 : Int32) (y4_2 : Int32) (B4 : Int32 → Int32 → Prop) (Q : Int32 → Prop) : Prop :=
  ((64 ≤ y4_2 → Q y4_1) ∧
  (¬ 64 ≤ y4_2 → vp_in y4_2 64 ∧ ((((X0_mounds v) y4_2.toNatClampNeg) = 0 → B4 (y4_1 + 0) (y4_2 + 1)) ∧
  (¬ ((X0_mounds v) y4_2.toNatClampNeg) = 0 → B4 (y4_1 + 1) (y4_2 + 1)))))
def wp_X0_moundCount_4 (v : V_X0)  (y4_1 : Int32) (y4_2 : Int32) (Q : Int32 → Prop) : Prop :=
  ∃ (I : Int32 → Int32 → Prop) (μ : Int32 → Int32 → Nat), I y4_1 y4_2 ∧ ∀ (s0 : Int32) (s1 : Int32), I s0 s1 → wb_X0_moundCount_4 v  s0 s1 (fun t0 t1 => I t0 t1 ∧ μ t0 t1 < μ s0 s1) Q
def wp_X0_moundCount (v : V_X0) (Q : Int32 → Prop) : Prop :=
  wp_X0_moundCount_4 v  0 0 Q
def wb_X0_openedCount_4 (v : V_X0)  (y4_1 : Int32) (y4_2 : Int32) (B4 : Int32 → Int32 → Prop) (Q : Int32 → Prop) : Prop :=
  ((64 ≤ y4_2 → Q y4_1) ∧
  (¬ 64 ≤ y4_2 → vp_in y4_2 64 ∧ ((((X0_opened v) y4_2.toNatClampNeg) = 0 → B4 (y4_1 + 0) (y4_2 + 1)) ∧
  (¬ ((X0_opened v) y4_2.toNatClampNeg) = 0 → B4 (y4_1 + 1) (y4_2 + 1)))))
def wp_X0_openedCount_4 (v : V_X0)  (y4_1 : Int32) (y4_2 : Int32) (Q : Int32 → Prop) : Prop :=
  ∃ (I : Int32 → Int32 → Prop) (μ : Int32 → Int32 → Nat), I y4_1 y4_2 ∧ ∀ (s0 : Int32) (s1 : Int32), I s0 s1 → wb_X0_openedCount_4 v  s0 s1 (fun t0 t1 => I t0 t1 ∧ μ t0 t1 < μ s0 s1) Q
def wp_X0_openedCount (v : V_X0) (Q : Int32 → Prop) : Prop :=
  wp_X0_openedCount_4 v  0 0 Q
def wb_X0_rootCount_4 (v : V_X0)  (y4_1 : Int32) (y4_2 : Int32) (B4 : Int32 → Int32 → Prop) (Q : Int32 → Prop) : Prop :=
  ((64 ≤ y4_2 → Q y4_1) ∧
  (¬ 64 ≤ y4_2 → vp_in y4_2 64 ∧ ((((X0_roots v) y4_2.toNatClampNeg) ≤ 0 → B4 (y4_1 + 0) (y4_2 + 1)) ∧
  (¬ ((X0_roots v) y4_2.toNatClampNeg) ≤ 0 → B4 (y4_1 + 1) (y4_2 + 1)))))
def wp_X0_rootCount_4 (v : V_X0)  (y4_1 : Int32) (y4_2 : Int32) (Q : Int32 → Prop) : Prop :=
  ∃ (I : Int32 → Int32 → Prop) (μ : Int32 → Int32 → Nat), I y4_1 y4_2 ∧ ∀ (s0 : Int32) (s1 : Int32), I s0 s1 → wb_X0_rootCount_4 v  s0 s1 (fun t0 t1 => I t0 t1 ∧ μ t0 t1 < μ s0 s1) Q
def wp_X0_rootCount (v : V_X0) (Q : Int32 → Prop) : Prop :=
  wp_X0_rootCount_4 v  0 0 Q
def wb_X0_trapCount_4 (v : V_X0)  (y4_1 : Int32) (y4_2 : Int32) (B4 : Int32 → Int32 → Prop) (Q : Int32 → Prop) : Prop :=
  ((64 ≤ y4_2 → Q y4_1) ∧
  (¬ 64 ≤ y4_2 → vp_in y4_2 64 ∧ ((((X0_traps v) y4_2.toNatClampNeg) = (-1) → B4 (y4_1 + 0) (y4_2 + 1)) ∧
  (¬ ((X0_traps v) y4_2.toNatClampNeg) = (-1) → B4 (y4_1 + 1) (y4_2 + 1)))))
def wp_X0_trapCount_4 (v : V_X0)  (y4_1 : Int32) (y4_2 : Int32) (Q : Int32 → Prop) : Prop :=
  ∃ (I : Int32 → Int32 → Prop) (μ : Int32 → Int32 → Nat), I y4_1 y4_2 ∧ ∀ (s0 : Int32) (s1 : Int32), I s0 s1 → wb_X0_trapCount_4 v  s0 s1 (fun t0 t1 => I t0 t1 ∧ μ t0 t1 < μ s0 s1) Q
def wp_X0_trapCount (v : V_X0) (Q : Int32 → Prop) : Prop :=
  wp_X0_trapCount_4 v  0 0 Q
def wb_X0_lowestMound_2 (v : V_X0)  (y2_1 : Int32) (B2 : Int32 → Prop) (Q : Int32 → Prop) : Prop :=
  ((64 ≤ y2_1 → Q (-1)) ∧
  (¬ 64 ≤ y2_1 → vp_in y2_1 64 ∧ ((((X0_mounds v) y2_1.toNatClampNeg) = 0 → B2 (y2_1 + 1)) ∧
  (¬ ((X0_mounds v) y2_1.toNatClampNeg) = 0 → Q y2_1))))
def wp_X0_lowestMound_2 (v : V_X0)  (y2_1 : Int32) (Q : Int32 → Prop) : Prop :=
  ∃ (I : Int32 → Prop) (μ : Int32 → Nat), I y2_1 ∧ ∀ (s0 : Int32), I s0 → wb_X0_lowestMound_2 v  s0 (fun t0 => I t0 ∧ μ t0 < μ s0) Q
def wp_X0_lowestMound (v : V_X0) (Q : Int32 → Prop) : Prop :=
  wp_X0_lowestMound_2 v  0 Q
def wb_X0_molesAt_4 (v : V_X0) (x1 : Int32)  (y4_2 : Int32) (y4_3 : Int32) (B4 : Int32 → Int32 → Prop) (Q : Int32 → Prop) : Prop :=
  (((X0_moleCount v) ≤ y4_3 → Q y4_2) ∧
  (¬ (X0_moleCount v) ≤ y4_3 → vp_in y4_3 4 ∧ ((X0_molesR v) y4_3.toNatClampNeg) < 4 ∧ wp_X1_place ((X0_moles v) ((X0_molesR v) y4_3.toNatClampNeg)) (fun r19 =>
  ((r19 = x1 → B4 (y4_2 + 1) (y4_3 + 1)) ∧
  (¬ r19 = x1 → B4 (y4_2 + 0) (y4_3 + 1))))))
def wp_X0_molesAt_4 (v : V_X0) (x1 : Int32)  (y4_2 : Int32) (y4_3 : Int32) (Q : Int32 → Prop) : Prop :=
  ∃ (I : Int32 → Int32 → Prop) (μ : Int32 → Int32 → Nat), I y4_2 y4_3 ∧ ∀ (s0 : Int32) (s1 : Int32), I s0 s1 → wb_X0_molesAt_4 v x1  s0 s1 (fun t0 t1 => I t0 t1 ∧ μ t0 t1 < μ s0 s1) Q
def wp_X0_molesAt (v : V_X0) (x1 : Int32) (Q : Int32 → Prop) : Prop :=
  wp_X0_molesAt_4 v x1  0 0 Q
def wb_X0_trailBeginsAt_2 (v : V_X0) (x1 : Int32)  (y2_2 : Int32) (B2 : Int32 → Prop) (Q : Int32 → Prop) : Prop :=
  (((X0_moleCount v) ≤ y2_2 → Q 0) ∧
  (¬ (X0_moleCount v) ≤ y2_2 → vp_in y2_2 4 ∧ ((X0_molesR v) y2_2.toNatClampNeg) < 4 ∧ vp_in 0 21 ∧ ((((X1_trail ((X0_moles v) ((X0_molesR v) y2_2.toNatClampNeg))) (0 : Int32).toNatClampNeg) = x1 → Q 1) ∧
  (¬ ((X1_trail ((X0_moles v) ((X0_molesR v) y2_2.toNatClampNeg))) (0 : Int32).toNatClampNeg) = x1 → B2 (y2_2 + 1)))))
def wp_X0_trailBeginsAt_2 (v : V_X0) (x1 : Int32)  (y2_2 : Int32) (Q : Int32 → Prop) : Prop :=
  ∃ (I : Int32 → Prop) (μ : Int32 → Nat), I y2_2 ∧ ∀ (s0 : Int32), I s0 → wb_X0_trailBeginsAt_2 v x1  s0 (fun t0 => I t0 ∧ μ t0 < μ s0) Q
def wp_X0_trailBeginsAt (v : V_X0) (x1 : Int32) (Q : Int32 → Prop) : Prop :=
  wp_X0_trailBeginsAt_2 v x1  0 Q
def wp_X0_hasRoomInPlan (v : V_X0) (x1 : Int32) (Q : Int32 → Prop) : Prop :=
  ((x1 < 0 → Q 0) ∧
  (¬ x1 < 0 → (((X0_moleCount v) ≤ x1 → Q 0) ∧
  (¬ (X0_moleCount v) ≤ x1 → vp_in x1 4 ∧ ((X0_molesR v) x1.toNatClampNeg) < 4 ∧ ((20 ≤ (X1_planned ((X0_moles v) ((X0_molesR v) x1.toNatClampNeg))) → Q 0) ∧
  (¬ 20 ≤ (X1_planned ((X0_moles v) ((X0_molesR v) x1.toNatClampNeg))) → Q 1))))))
def wb_X0_hasPlans_2 (v : V_X0)  (y2_1 : Int32) (B2 : Int32 → Prop) (Q : Int32 → Prop) : Prop :=
  (((X0_moleCount v) ≤ y2_1 → Q 0) ∧
  (¬ (X0_moleCount v) ≤ y2_1 → vp_in y2_1 4 ∧ ((X0_molesR v) y2_1.toNatClampNeg) < 4 ∧ (((X1_planned ((X0_moles v) ((X0_molesR v) y2_1.toNatClampNeg))) ≤ 0 → B2 (y2_1 + 1)) ∧
  (¬ (X1_planned ((X0_moles v) ((X0_molesR v) y2_1.toNatClampNeg))) ≤ 0 → Q 1))))
def wp_X0_hasPlans_2 (v : V_X0)  (y2_1 : Int32) (Q : Int32 → Prop) : Prop :=
  ∃ (I : Int32 → Prop) (μ : Int32 → Nat), I y2_1 ∧ ∀ (s0 : Int32), I s0 → wb_X0_hasPlans_2 v  s0 (fun t0 => I t0 ∧ μ t0 < μ s0) Q
def wp_X0_hasPlans (v : V_X0) (Q : Int32 → Prop) : Prop :=
  wp_X0_hasPlans_2 v  0 Q
def wb_X0_setFullAir_7 (v : V_X0) (x1 : Int32) (z7_v_fullAir : Int32) (y7_2 : Int32) (z7_v_moles : (Nat → V_X1)) (B7 : Int32 → (Nat → V_X1) → Prop) (Q : Int32 → (Nat → V_X1) → Prop) : Prop :=
  (((X0_moleCount v) ≤ y7_2 → Q z7_v_fullAir z7_v_moles) ∧
  (¬ (X0_moleCount v) ≤ y7_2 → vp_in y7_2 4 ∧ ((X0_molesR v) y7_2.toNatClampNeg) < 4 ∧ B7 (y7_2 + 1) (va_up z7_v_moles ((X0_molesR v) y7_2.toNatClampNeg) (X1_s4 (z7_v_moles ((X0_molesR v) y7_2.toNatClampNeg)) (if x1 < (X1_air (z7_v_moles ((X0_molesR v) y7_2.toNatClampNeg))) then x1 else (X1_air (z7_v_moles ((X0_molesR v) y7_2.toNatClampNeg))))))))
def wp_X0_setFullAir_7 (v : V_X0) (x1 : Int32) (z7_v_fullAir : Int32) (y7_2 : Int32) (z7_v_moles : (Nat → V_X1)) (Q : Int32 → (Nat → V_X1) → Prop) : Prop :=
  ∃ (I : Int32 → (Nat → V_X1) → Prop) (μ : Int32 → (Nat → V_X1) → Nat), I y7_2 z7_v_moles ∧ ∀ (s0 : Int32) (s1 : (Nat → V_X1)), I s0 s1 → wb_X0_setFullAir_7 v x1 z7_v_fullAir s0 s1 (fun t0 t1 => I t0 t1 ∧ μ t0 t1 < μ s0 s1) Q
def wp_X0_setFullAir (v : V_X0) (x1 : Int32) (Q : Int32 → (Nat → V_X1) → Prop) : Prop :=
  wp_X0_setFullAir_7 v x1 x1 0 (X0_moles v) Q
def wb_X0_copyFrom_81 (v : V_X0) (w : V_X0) (z81_v_moleCount : Int32) (z81_v_mounds : (Nat → Int32)) (z81_v_opened : (Nat → Int32)) (z81_v_roots : (Nat → Int32)) (z81_v_traps : (Nat → Int32)) (z81_v_tunnels : V_X3) (y81_2 : Int32) (z81_v_moles : (Nat → V_X1)) (B81 : Int32 → (Nat → V_X1) → Prop) (Q : Int32 → Int32 → Int32 → Int32 → Int32 → Int32 → (Nat → V_X1) → (Nat → Int32) → (Nat → Int32) → Int32 → (Nat → Int32) → (Nat → Int32) → V_X3 → Prop) : Prop :=
  ((z81_v_moleCount ≤ y81_2 → Q (X0_beats w) (X0_caught w) (X0_fallen w) (X0_fullAir w) (X0_gnawed w) z81_v_moleCount z81_v_moles z81_v_mounds z81_v_opened (X0_risen w) z81_v_roots z81_v_traps z81_v_tunnels) ∧
  (¬ z81_v_moleCount ≤ y81_2 → vp_in y81_2 4 ∧ ((X0_molesR v) y81_2.toNatClampNeg) < 4 ∧ ((X0_molesR w) y81_2.toNatClampNeg) < 4 ∧ wp_X1_copyFrom (z81_v_moles ((X0_molesR v) y81_2.toNatClampNeg)) ((X0_moles w) ((X0_molesR w) y81_2.toNatClampNeg)) (fun z101_v_air z101_v_directions z101_v_planned z101_v_steps z101_v_trail z101_v_trailLength =>
  B81 (y81_2 + 1) (va_up z81_v_moles ((X0_molesR v) y81_2.toNatClampNeg) (z101_v_directions, z101_v_trail, z101_v_planned, z101_v_trailLength, z101_v_air, z101_v_steps, (X1_lost (z81_v_moles ((X0_molesR v) y81_2.toNatClampNeg))))))))
def wp_X0_copyFrom_81 (v : V_X0) (w : V_X0) (z81_v_moleCount : Int32) (z81_v_mounds : (Nat → Int32)) (z81_v_opened : (Nat → Int32)) (z81_v_roots : (Nat → Int32)) (z81_v_traps : (Nat → Int32)) (z81_v_tunnels : V_X3) (y81_2 : Int32) (z81_v_moles : (Nat → V_X1)) (Q : Int32 → Int32 → Int32 → Int32 → Int32 → Int32 → (Nat → V_X1) → (Nat → Int32) → (Nat → Int32) → Int32 → (Nat → Int32) → (Nat → Int32) → V_X3 → Prop) : Prop :=
  ∃ (I : Int32 → (Nat → V_X1) → Prop) (μ : Int32 → (Nat → V_X1) → Nat), I y81_2 z81_v_moles ∧ ∀ (s0 : Int32) (s1 : (Nat → V_X1)), I s0 s1 → wb_X0_copyFrom_81 v w z81_v_moleCount z81_v_mounds z81_v_opened z81_v_roots z81_v_traps z81_v_tunnels s0 s1 (fun t0 t1 => I t0 t1 ∧ μ t0 t1 < μ s0 s1) Q
def wp_X0_copyFrom (v : V_X0) (w : V_X0) (Q : Int32 → Int32 → Int32 → Int32 → Int32 → Int32 → (Nat → V_X1) → (Nat → Int32) → (Nat → Int32) → Int32 → (Nat → Int32) → (Nat → Int32) → V_X3 → Prop) : Prop :=
  (∀ i : Nat, i < (64 : Int32).toNatClampNeg → bz ((X0_mounds w) ((0 : Int32).toNatClampNeg + i))) ∧ (∀ i : Nat, i < (64 : Int32).toNatClampNeg → bz ((X0_opened w) ((0 : Int32).toNatClampNeg + i))) ∧ wp_X3_copyFrom (X0_tunnels v) (X0_tunnels w) (fun z68_v_cells z68_v_ends z68_v_size z68_v_used =>
  wp_X0_copyFrom_81 v w (X0_moleCount w) (va_cpy (X0_mounds w) (X0_mounds v) (0 : Int32).toNatClampNeg (0 : Int32).toNatClampNeg (64 : Int32).toNatClampNeg) (va_cpy (X0_opened w) (X0_opened v) (0 : Int32).toNatClampNeg (0 : Int32).toNatClampNeg (64 : Int32).toNatClampNeg) (va_cpy (X0_roots w) (X0_roots v) (0 : Int32).toNatClampNeg (0 : Int32).toNatClampNeg (64 : Int32).toNatClampNeg) (va_cpy (X0_traps w) (X0_traps v) (0 : Int32).toNatClampNeg (0 : Int32).toNatClampNeg (64 : Int32).toNatClampNeg) (z68_v_cells, z68_v_ends, z68_v_used, z68_v_size) 0 (X0_moles v) Q)
def wb_X0_catchMole_19 (v : V_X0) (x1 : Int32) (j19_2 : Nat) (z19_v_moleCount : Int32) (y19_3 : Int32) (z19_v_molesR : (Nat → Nat)) (B19 : Int32 → (Nat → Nat) → Prop) (Q : Int32 → Int32 → (Nat → Nat) → Prop) : Prop :=
  ((z19_v_moleCount ≤ y19_3 → vp_in z19_v_moleCount 4 ∧ j19_2 < 4 ∧ Q ((X0_caught v) + 1) z19_v_moleCount (va_up z19_v_molesR z19_v_moleCount.toNatClampNeg j19_2)) ∧
  (¬ z19_v_moleCount ≤ y19_3 → vp_in (y19_3 + 1) 4 ∧ (z19_v_molesR (y19_3 + 1).toNatClampNeg) < 4 ∧ vp_in y19_3 4 ∧ B19 (y19_3 + 1) (va_up z19_v_molesR y19_3.toNatClampNeg (z19_v_molesR (y19_3 + 1).toNatClampNeg))))
def wp_X0_catchMole_19 (v : V_X0) (x1 : Int32) (j19_2 : Nat) (z19_v_moleCount : Int32) (y19_3 : Int32) (z19_v_molesR : (Nat → Nat)) (Q : Int32 → Int32 → (Nat → Nat) → Prop) : Prop :=
  ∃ (I : Int32 → (Nat → Nat) → Prop) (μ : Int32 → (Nat → Nat) → Nat), I y19_3 z19_v_molesR ∧ ∀ (s0 : Int32) (s1 : (Nat → Nat)), I s0 s1 → wb_X0_catchMole_19 v x1 j19_2 z19_v_moleCount s0 s1 (fun t0 t1 => I t0 t1 ∧ μ t0 t1 < μ s0 s1) Q
def wp_X0_catchMole (v : V_X0) (x1 : Int32) (Q : Int32 → Int32 → (Nat → Nat) → Prop) : Prop :=
  vp_in x1 4 ∧ ((X0_molesR v) x1.toNatClampNeg) < 4 ∧ wp_X0_catchMole_19 v x1 ((X0_molesR v) x1.toNatClampNeg) ((X0_moleCount v) - 1) x1 (X0_molesR v) Q
def wp_X0_finishTrail_30 (v : V_X0) (j1 : Nat) (y30_2 : Int32) (z30_v_tunnels : V_X3) (Q : (Nat → V_X1) → V_X3 → Prop) : Prop :=
  j1 < 4 ∧ wp_X1_beginTrail ((X0_moles v) j1) y30_2 (fun z32_v_trail z32_v_trailLength =>
  Q (va_up (X0_moles v) j1 ((X1_directions ((X0_moles v) j1)), z32_v_trail, (X1_planned ((X0_moles v) j1)), z32_v_trailLength, (X0_fullAir v), (X1_steps ((X0_moles v) j1)), (X1_lost ((X0_moles v) j1)))) z30_v_tunnels)
def wp_X0_finishTrail (v : V_X0) (j1 : Nat) (Q : (Nat → V_X1) → V_X3 → Prop) : Prop :=
  j1 < 4 ∧ wp_X1_place ((X0_moles v) j1) (fun r1 =>
  wp_X1_firstIndex ((X0_moles v) j1) r1 (fun r7 =>
  ((r7 ≤ 0 → wp_X0_finishTrail_30 v j1 r1 (X0_tunnels v)  Q) ∧
  (¬ r7 ≤ 0 → wp_X3_addRow (X0_tunnels v) 21 (X1_trail ((X0_moles v) j1)) 0 (r7 + 1) (fun z27_v_cells z27_v_ends z27_v_size z27_v_used =>
  wp_X0_finishTrail_30 v j1 r1 (z27_v_cells, z27_v_ends, z27_v_used, z27_v_size)  Q)))))
def wb_X0_splitTunnels_9 (v : V_X0) (u : V_X3) (x1 : Int32)  (y9_2 : Int32) (z9_u_cells : (Nat → Int32)) (z9_u_ends : (Nat → Int32)) (z9_u_size : Int32) (z9_u_used : Int32) (B9 : Int32 → (Nat → Int32) → (Nat → Int32) → Int32 → Int32 → Prop) (Q : (Nat → Int32) → (Nat → Int32) → Int32 → Int32 → V_X3 → Prop) : Prop :=
  (((X3_size (X0_tunnels v)) ≤ y9_2 → wp_X3_copyFrom (X0_tunnels v) (z9_u_cells, z9_u_ends, z9_u_used, z9_u_size) (fun z138_v_cells z138_v_ends z138_v_size z138_v_used =>
  Q z9_u_cells z9_u_ends z9_u_size z9_u_used (z138_v_cells, z138_v_ends, z138_v_used, z138_v_size))) ∧
  (¬ (X3_size (X0_tunnels v)) ≤ y9_2 → wp_X3_firstIndex (X0_tunnels v) y9_2 x1 (fun r26 =>
  ((r26 = (-1) → wp_X3_from (X0_tunnels v) y9_2 (fun r51 =>
  wp_X3_to (X0_tunnels v) y9_2 (fun r59 =>
  wp_X3_addRow (z9_u_cells, z9_u_ends, z9_u_used, z9_u_size) 1024 (X3_cells (X0_tunnels v)) r51 r59 (fun z62_v_cells z62_v_ends z62_v_size z62_v_used =>
  B9 (y9_2 + 1) z62_v_cells z62_v_ends z62_v_size z62_v_used)))) ∧
  (¬ r26 = (-1) → wp_X3_from (X0_tunnels v) y9_2 (fun r84 =>
  wp_X3_addRow (z9_u_cells, z9_u_ends, z9_u_used, z9_u_size) 1024 (X3_cells (X0_tunnels v)) r84 (r26 + 1) (fun z90_v_cells z90_v_ends z90_v_size z90_v_used =>
  wp_X3_lastIndex (X0_tunnels v) y9_2 x1 (fun r110 =>
  wp_X3_to (X0_tunnels v) y9_2 (fun r118 =>
  wp_X3_addRow (z90_v_cells, z90_v_ends, z90_v_used, z90_v_size) 1024 (X3_cells (X0_tunnels v)) r110 r118 (fun z121_v_cells z121_v_ends z121_v_size z121_v_used =>
  B9 (y9_2 + 1) z121_v_cells z121_v_ends z121_v_size z121_v_used))))))))))
def wp_X0_splitTunnels_9 (v : V_X0) (u : V_X3) (x1 : Int32)  (y9_2 : Int32) (z9_u_cells : (Nat → Int32)) (z9_u_ends : (Nat → Int32)) (z9_u_size : Int32) (z9_u_used : Int32) (Q : (Nat → Int32) → (Nat → Int32) → Int32 → Int32 → V_X3 → Prop) : Prop :=
  ∃ (I : Int32 → (Nat → Int32) → (Nat → Int32) → Int32 → Int32 → Prop) (μ : Int32 → (Nat → Int32) → (Nat → Int32) → Int32 → Int32 → Nat), I y9_2 z9_u_cells z9_u_ends z9_u_size z9_u_used ∧ ∀ (s0 : Int32) (s1 : (Nat → Int32)) (s2 : (Nat → Int32)) (s3 : Int32) (s4 : Int32), I s0 s1 s2 s3 s4 → wb_X0_splitTunnels_9 v u x1  s0 s1 s2 s3 s4 (fun t0 t1 t2 t3 t4 => I t0 t1 t2 t3 t4 ∧ μ t0 t1 t2 t3 t4 < μ s0 s1 s2 s3 s4) Q
def wp_X0_splitTunnels (v : V_X0) (u : V_X3) (x1 : Int32) (Q : (Nat → Int32) → (Nat → Int32) → Int32 → Int32 → V_X3 → Prop) : Prop :=
  wp_X3_empty u (fun z4_v_size z4_v_used =>
  wp_X0_splitTunnels_9 v u x1  0 (X3_cells u) (X3_ends u) z4_v_size z4_v_used Q)
def wb_X0_ensureMound_34 (v : V_X0) (u : V_X3) (x1 : Int32) (z34_u_cells : (Nat → Int32)) (z34_u_ends : (Nat → Int32)) (z34_u_size : Int32) (z34_u_used : Int32) (z34_v_mounds : (Nat → Int32)) (z34_v_risen : Int32) (y34_2 : Int32) (z34_v_moles : (Nat → V_X1)) (z34_v_tunnels : V_X3) (B34 : Int32 → (Nat → V_X1) → V_X3 → Prop) (Q : (Nat → Int32) → (Nat → Int32) → Int32 → Int32 → (Nat → V_X1) → (Nat → Int32) → Int32 → V_X3 → Prop) : Prop :=
  (((X0_moleCount v) ≤ y34_2 → Q z34_u_cells z34_u_ends z34_u_size z34_u_used z34_v_moles z34_v_mounds z34_v_risen z34_v_tunnels) ∧
  (¬ (X0_moleCount v) ≤ y34_2 → vp_in y34_2 4 ∧ ((X0_molesR v) y34_2.toNatClampNeg) < 4 ∧ wp_X1_firstIndex (z34_v_moles ((X0_molesR v) y34_2.toNatClampNeg)) x1 (fun r51 =>
  ((r51 ≤ 0 → B34 (y34_2 + 1) z34_v_moles z34_v_tunnels) ∧
  (¬ r51 ≤ 0 → wp_X3_addRow z34_v_tunnels 21 (X1_trail (z34_v_moles ((X0_molesR v) y34_2.toNatClampNeg))) 0 (r51 + 1) (fun z74_v_cells z74_v_ends z74_v_size z74_v_used =>
  wp_X1_dropBeforeLast (z34_v_moles ((X0_molesR v) y34_2.toNatClampNeg)) x1 (fun z79_v_trail z79_v_trailLength =>
  B34 (y34_2 + 1) (va_up z34_v_moles ((X0_molesR v) y34_2.toNatClampNeg) (X1_s3 (X1_s1 (z34_v_moles ((X0_molesR v) y34_2.toNatClampNeg)) z79_v_trail) z79_v_trailLength)) (z74_v_cells, z74_v_ends, z74_v_used, z74_v_size))))))))
def wp_X0_ensureMound_34 (v : V_X0) (u : V_X3) (x1 : Int32) (z34_u_cells : (Nat → Int32)) (z34_u_ends : (Nat → Int32)) (z34_u_size : Int32) (z34_u_used : Int32) (z34_v_mounds : (Nat → Int32)) (z34_v_risen : Int32) (y34_2 : Int32) (z34_v_moles : (Nat → V_X1)) (z34_v_tunnels : V_X3) (Q : (Nat → Int32) → (Nat → Int32) → Int32 → Int32 → (Nat → V_X1) → (Nat → Int32) → Int32 → V_X3 → Prop) : Prop :=
  ∃ (I : Int32 → (Nat → V_X1) → V_X3 → Prop) (μ : Int32 → (Nat → V_X1) → V_X3 → Nat), I y34_2 z34_v_moles z34_v_tunnels ∧ ∀ (s0 : Int32) (s1 : (Nat → V_X1)) (s2 : V_X3), I s0 s1 s2 → wb_X0_ensureMound_34 v u x1 z34_u_cells z34_u_ends z34_u_size z34_u_used z34_v_mounds z34_v_risen s0 s1 s2 (fun t0 t1 t2 => I t0 t1 t2 ∧ μ t0 t1 t2 < μ s0 s1 s2) Q
def wp_X0_ensureMound (v : V_X0) (u : V_X3) (x1 : Int32) (Q : (Nat → Int32) → (Nat → Int32) → Int32 → Int32 → (Nat → V_X1) → (Nat → Int32) → Int32 → V_X3 → Prop) : Prop :=
  vp_in x1 64 ∧ ((((X0_mounds v) x1.toNatClampNeg) = 0 → wp_X0_splitTunnels (X0_s12 (X0_s0 v (upd (X0_mounds v) x1.toNatClampNeg 1)) ((X0_risen v) + 1)) u x1 (fun z29_u_cells z29_u_ends z29_u_size z29_u_used z29_v_tunnels =>
  wp_X0_ensureMound_34 v u x1 z29_u_cells z29_u_ends z29_u_size z29_u_used (upd (X0_mounds v) x1.toNatClampNeg 1) ((X0_risen v) + 1) 0 (X0_moles v) z29_v_tunnels Q)) ∧
  (¬ ((X0_mounds v) x1.toNatClampNeg) = 0 → Q (X3_cells u) (X3_ends u) (X3_size u) (X3_used u) (X0_moles v) (X0_mounds v) (X0_risen v) (X0_tunnels v)))
def wp_X0_welcome (v : V_X0) (u : V_X3) (x1 : Int32) (Q : Int32 → (Nat → Int32) → (Nat → Int32) → Int32 → Int32 → Int32 → (Nat → V_X1) → (Nat → Int32) → Int32 → V_X3 → Prop) : Prop :=
  (((X0_moleCount v) < 4 → wp_X0_ensureMound v u x1 (fun z12_u_cells z12_u_ends z12_u_size z12_u_used z12_v_moles z12_v_mounds z12_v_risen z12_v_tunnels =>
  vp_in (X0_moleCount v) 4 ∧ ((X0_molesR v) (X0_moleCount v).toNatClampNeg) < 4 ∧ wp_X1_beginTrail (z12_v_moles ((X0_molesR v) (X0_moleCount v).toNatClampNeg)) x1 (fun z27_v_trail z27_v_trailLength =>
  Q (((X0_moleCount v) + 1) - 1) z12_u_cells z12_u_ends z12_u_size z12_u_used ((X0_moleCount v) + 1) (va_up z12_v_moles ((X0_molesR v) (X0_moleCount v).toNatClampNeg) ((X1_directions (z12_v_moles ((X0_molesR v) (X0_moleCount v).toNatClampNeg))), z27_v_trail, 0, z27_v_trailLength, (X0_fullAir v), 0, (X1_lost (z12_v_moles ((X0_molesR v) (X0_moleCount v).toNatClampNeg))))) z12_v_mounds z12_v_risen z12_v_tunnels))) ∧
  (¬ (X0_moleCount v) < 4 → Q (-1) (X3_cells u) (X3_ends u) (X3_size u) (X3_used u) (X0_moleCount v) (X0_moles v) (X0_mounds v) (X0_risen v) (X0_tunnels v)))
def wb_X0_dropTunnels_17 (v : V_X0) (u : V_X3) (x1 : Int32) (y17_2 : Int32) (y17_3 : Int32) (z17_u_cells : (Nat → Int32)) (z17_u_ends : (Nat → Int32)) (z17_u_size : Int32) (z17_u_used : Int32) (B17 : Int32 → (Nat → Int32) → (Nat → Int32) → Int32 → Int32 → Prop) (Q : (Nat → Int32) → (Nat → Int32) → Int32 → Int32 → Int32 → V_X3 → Prop) : Prop :=
  (((X3_size (X0_tunnels v)) ≤ y17_3 → wp_X3_copyFrom (X0_tunnels v) (z17_u_cells, z17_u_ends, z17_u_used, z17_u_size) (fun z85_v_cells z85_v_ends z85_v_size z85_v_used =>
  Q z17_u_cells z17_u_ends z17_u_size z17_u_used ((X0_fallen v) + (y17_2 - z85_v_size)) (z85_v_cells, z85_v_ends, z85_v_used, z85_v_size))) ∧
  (¬ (X3_size (X0_tunnels v)) ≤ y17_3 → wp_X3_firstIndex (X0_tunnels v) y17_3 x1 (fun r34 =>
  ((r34 = (-1) → wp_X3_from (X0_tunnels v) y17_3 (fun r57 =>
  wp_X3_to (X0_tunnels v) y17_3 (fun r65 =>
  wp_X3_addRow (z17_u_cells, z17_u_ends, z17_u_used, z17_u_size) 1024 (X3_cells (X0_tunnels v)) r57 r65 (fun z68_v_cells z68_v_ends z68_v_size z68_v_used =>
  B17 (y17_3 + 1) z68_v_cells z68_v_ends z68_v_size z68_v_used)))) ∧
  (¬ r34 = (-1) → B17 (y17_3 + 1) z17_u_cells z17_u_ends z17_u_size z17_u_used)))))
def wp_X0_dropTunnels_17 (v : V_X0) (u : V_X3) (x1 : Int32) (y17_2 : Int32) (y17_3 : Int32) (z17_u_cells : (Nat → Int32)) (z17_u_ends : (Nat → Int32)) (z17_u_size : Int32) (z17_u_used : Int32) (Q : (Nat → Int32) → (Nat → Int32) → Int32 → Int32 → Int32 → V_X3 → Prop) : Prop :=
  ∃ (I : Int32 → (Nat → Int32) → (Nat → Int32) → Int32 → Int32 → Prop) (μ : Int32 → (Nat → Int32) → (Nat → Int32) → Int32 → Int32 → Nat), I y17_3 z17_u_cells z17_u_ends z17_u_size z17_u_used ∧ ∀ (s0 : Int32) (s1 : (Nat → Int32)) (s2 : (Nat → Int32)) (s3 : Int32) (s4 : Int32), I s0 s1 s2 s3 s4 → wb_X0_dropTunnels_17 v u x1 y17_2 s0 s1 s2 s3 s4 (fun t0 t1 t2 t3 t4 => I t0 t1 t2 t3 t4 ∧ μ t0 t1 t2 t3 t4 < μ s0 s1 s2 s3 s4) Q
def wp_X0_dropTunnels (v : V_X0) (u : V_X3) (x1 : Int32) (Q : (Nat → Int32) → (Nat → Int32) → Int32 → Int32 → Int32 → V_X3 → Prop) : Prop :=
  wp_X3_empty u (fun z12_v_size z12_v_used =>
  wp_X0_dropTunnels_17 v u x1 (X3_size (X0_tunnels v)) 0 (X3_cells u) (X3_ends u) z12_v_size z12_v_used Q)
def wb_X0_dropTrails_58 (v : V_X0) (u : V_X3) (x1 : Int32)  (y58_2 : Int32) (z58_u_cells : (Nat → Int32)) (z58_u_ends : (Nat → Int32)) (z58_u_size : Int32) (z58_u_used : Int32) (z58_v_moles : (Nat → V_X1)) (z58_v_mounds : (Nat → Int32)) (z58_v_risen : Int32) (z58_v_tunnels : V_X3) (B58 : Int32 → (Nat → Int32) → (Nat → Int32) → Int32 → Int32 → (Nat → V_X1) → (Nat → Int32) → Int32 → V_X3 → Prop) (Q : (Nat → Int32) → (Nat → Int32) → Int32 → Int32 → (Nat → V_X1) → (Nat → Int32) → Int32 → V_X3 → Prop) : Prop :=
  (((X0_moleCount v) ≤ y58_2 → Q z58_u_cells z58_u_ends z58_u_size z58_u_used z58_v_moles z58_v_mounds z58_v_risen z58_v_tunnels) ∧
  (¬ (X0_moleCount v) ≤ y58_2 → vp_in y58_2 4 ∧ ((X0_molesR v) y58_2.toNatClampNeg) < 4 ∧ (((X1_lost (z58_v_moles ((X0_molesR v) y58_2.toNatClampNeg))) = 0 → B58 (y58_2 + 1) z58_u_cells z58_u_ends z58_u_size z58_u_used z58_v_moles z58_v_mounds z58_v_risen z58_v_tunnels) ∧
  (¬ (X1_lost (z58_v_moles ((X0_molesR v) y58_2.toNatClampNeg))) = 0 → wp_X1_place (X1_s6 (z58_v_moles ((X0_molesR v) y58_2.toNatClampNeg)) 0) (fun r87 =>
  wp_X0_ensureMound (z58_v_mounds, (X0_opened v), (X0_roots v), (X0_traps v), z58_v_tunnels, (X0_molesR v), (va_up z58_v_moles ((X0_molesR v) y58_2.toNatClampNeg) (X1_s6 (z58_v_moles ((X0_molesR v) y58_2.toNatClampNeg)) 0)), (X0_moleCount v), (X0_fullAir v), (X0_beats v), (X0_caught v), (X0_gnawed v), z58_v_risen, (X0_fallen v)) (z58_u_cells, z58_u_ends, z58_u_used, z58_u_size) r87 (fun z90_u_cells z90_u_ends z90_u_size z90_u_used z90_v_moles z90_v_mounds z90_v_risen z90_v_tunnels =>
  B58 (y58_2 + 1) z90_u_cells z90_u_ends z90_u_size z90_u_used (va_up z90_v_moles ((X0_molesR v) y58_2.toNatClampNeg) (X1_s4 (z90_v_moles ((X0_molesR v) y58_2.toNatClampNeg)) (X0_fullAir v))) z90_v_mounds z90_v_risen z90_v_tunnels))))))
def wp_X0_dropTrails_58 (v : V_X0) (u : V_X3) (x1 : Int32)  (y58_2 : Int32) (z58_u_cells : (Nat → Int32)) (z58_u_ends : (Nat → Int32)) (z58_u_size : Int32) (z58_u_used : Int32) (z58_v_moles : (Nat → V_X1)) (z58_v_mounds : (Nat → Int32)) (z58_v_risen : Int32) (z58_v_tunnels : V_X3) (Q : (Nat → Int32) → (Nat → Int32) → Int32 → Int32 → (Nat → V_X1) → (Nat → Int32) → Int32 → V_X3 → Prop) : Prop :=
  ∃ (I : Int32 → (Nat → Int32) → (Nat → Int32) → Int32 → Int32 → (Nat → V_X1) → (Nat → Int32) → Int32 → V_X3 → Prop) (μ : Int32 → (Nat → Int32) → (Nat → Int32) → Int32 → Int32 → (Nat → V_X1) → (Nat → Int32) → Int32 → V_X3 → Nat), I y58_2 z58_u_cells z58_u_ends z58_u_size z58_u_used z58_v_moles z58_v_mounds z58_v_risen z58_v_tunnels ∧ ∀ (s0 : Int32) (s1 : (Nat → Int32)) (s2 : (Nat → Int32)) (s3 : Int32) (s4 : Int32) (s5 : (Nat → V_X1)) (s6 : (Nat → Int32)) (s7 : Int32) (s8 : V_X3), I s0 s1 s2 s3 s4 s5 s6 s7 s8 → wb_X0_dropTrails_58 v u x1  s0 s1 s2 s3 s4 s5 s6 s7 s8 (fun t0 t1 t2 t3 t4 t5 t6 t7 t8 => I t0 t1 t2 t3 t4 t5 t6 t7 t8 ∧ μ t0 t1 t2 t3 t4 t5 t6 t7 t8 < μ s0 s1 s2 s3 s4 s5 s6 s7 s8) Q
def wp_X0_dropTrails_32 (v : V_X0) (u : V_X3) (x1 : Int32) (y2_2 : Int32) (z2_v_moles : (Nat → V_X1)) (B2 : Int32 → (Nat → V_X1) → Prop) (j32_3 : Nat) (k32_0 : Int32) (h32_1 : Nat) (Q : (Nat → Int32) → (Nat → Int32) → Int32 → Int32 → (Nat → V_X1) → (Nat → Int32) → Int32 → V_X3 → Prop) : Prop :=
  bz k32_0 ∧ h32_1 < 4 ∧ j32_3 < 4 ∧ (((X1_lost ((va_up z2_v_moles h32_1 (X1_s6 (z2_v_moles h32_1) k32_0)) j32_3)) = 0 → B2 (y2_2 + 1) (va_up z2_v_moles h32_1 (X1_s6 (z2_v_moles h32_1) k32_0))) ∧
  (¬ (X1_lost ((va_up z2_v_moles h32_1 (X1_s6 (z2_v_moles h32_1) k32_0)) j32_3)) = 0 → wp_X1_place ((va_up z2_v_moles h32_1 (X1_s6 (z2_v_moles h32_1) k32_0)) j32_3) (fun r44 =>
  wp_X1_beginTrail ((va_up z2_v_moles h32_1 (X1_s6 (z2_v_moles h32_1) k32_0)) j32_3) r44 (fun z47_v_trail z47_v_trailLength =>
  B2 (y2_2 + 1) (va_up (va_up z2_v_moles h32_1 (X1_s6 (z2_v_moles h32_1) k32_0)) j32_3 (X1_s3 (X1_s1 ((va_up z2_v_moles h32_1 (X1_s6 (z2_v_moles h32_1) k32_0)) j32_3) z47_v_trail) z47_v_trailLength))))))
def wb_X0_dropTrails_2 (v : V_X0) (u : V_X3) (x1 : Int32)  (y2_2 : Int32) (z2_v_moles : (Nat → V_X1)) (B2 : Int32 → (Nat → V_X1) → Prop) (Q : (Nat → Int32) → (Nat → Int32) → Int32 → Int32 → (Nat → V_X1) → (Nat → Int32) → Int32 → V_X3 → Prop) : Prop :=
  (((X0_moleCount v) ≤ y2_2 → wp_X0_dropTrails_58 v u x1  0 (X3_cells u) (X3_ends u) (X3_size u) (X3_used u) z2_v_moles (X0_mounds v) (X0_risen v) (X0_tunnels v) Q) ∧
  (¬ (X0_moleCount v) ≤ y2_2 → vp_in y2_2 4 ∧ ((X0_molesR v) y2_2.toNatClampNeg) < 4 ∧ wp_X1_firstIndex (z2_v_moles ((X0_molesR v) y2_2.toNatClampNeg)) x1 (fun r20 =>
  ((r20 = (-1) → wp_X0_dropTrails_32 v u x1 y2_2 z2_v_moles B2 ((X0_molesR v) y2_2.toNatClampNeg) 0 ((X0_molesR v) y2_2.toNatClampNeg)  Q) ∧
  (¬ r20 = (-1) → wp_X0_dropTrails_32 v u x1 y2_2 z2_v_moles B2 ((X0_molesR v) y2_2.toNatClampNeg) 1 ((X0_molesR v) y2_2.toNatClampNeg)  Q)))))
def wp_X0_dropTrails_2 (v : V_X0) (u : V_X3) (x1 : Int32)  (y2_2 : Int32) (z2_v_moles : (Nat → V_X1)) (Q : (Nat → Int32) → (Nat → Int32) → Int32 → Int32 → (Nat → V_X1) → (Nat → Int32) → Int32 → V_X3 → Prop) : Prop :=
  ∃ (I : Int32 → (Nat → V_X1) → Prop) (μ : Int32 → (Nat → V_X1) → Nat), I y2_2 z2_v_moles ∧ ∀ (s0 : Int32) (s1 : (Nat → V_X1)), I s0 s1 → wb_X0_dropTrails_2 v u x1  s0 s1 (fun t0 t1 => I t0 t1 ∧ μ t0 t1 < μ s0 s1) Q
def wp_X0_dropTrails (v : V_X0) (u : V_X3) (x1 : Int32) (Q : (Nat → Int32) → (Nat → Int32) → Int32 → Int32 → (Nat → V_X1) → (Nat → Int32) → Int32 → V_X3 → Prop) : Prop :=
  wp_X0_dropTrails_2 v u x1  0 (X0_moles v) Q
def wb_X0_digUp_33 (v : V_X0) (u : V_X3) (x1 : Int32) (y33_2 : Int32) (z33_v_opened : (Nat → Int32)) (z33_v_roots : (Nat → Int32)) (z33_v_traps : (Nat → Int32)) (y33_3 : Int32) (z33_v_caught : Int32) (z33_v_moleCount : Int32) (z33_v_molesR : (Nat → Nat)) (B33 : Int32 → Int32 → Int32 → (Nat → Nat) → Prop) (Q : Int32 → (Nat → Int32) → (Nat → Int32) → Int32 → Int32 → Int32 → Int32 → Int32 → (Nat → V_X1) → (Nat → Nat) → (Nat → Int32) → (Nat → Int32) → Int32 → (Nat → Int32) → (Nat → Int32) → V_X3 → Prop) : Prop :=
  ((y33_3 < 0 → vp_in x1 64 ∧ wp_X0_dropTunnels ((upd (X0_mounds v) x1.toNatClampNeg 0), z33_v_opened, z33_v_roots, z33_v_traps, (X0_tunnels v), z33_v_molesR, (X0_moles v), z33_v_moleCount, (X0_fullAir v), (X0_beats v), z33_v_caught, (X0_gnawed v), (X0_risen v), (X0_fallen v)) u x1 (fun z70_u_cells z70_u_ends z70_u_size z70_u_used z70_v_fallen z70_v_tunnels =>
  wp_X0_dropTrails ((upd (X0_mounds v) x1.toNatClampNeg 0), z33_v_opened, z33_v_roots, z33_v_traps, z70_v_tunnels, z33_v_molesR, (X0_moles v), z33_v_moleCount, (X0_fullAir v), (X0_beats v), z33_v_caught, (X0_gnawed v), (X0_risen v), z70_v_fallen) (z70_u_cells, z70_u_ends, z70_u_used, z70_u_size) x1 (fun z75_u_cells z75_u_ends z75_u_size z75_u_used z75_v_moles z75_v_mounds z75_v_risen z75_v_tunnels =>
  Q (z33_v_caught - y33_2) z75_u_cells z75_u_ends z75_u_size z75_u_used z33_v_caught z70_v_fallen z33_v_moleCount z75_v_moles z33_v_molesR z75_v_mounds z33_v_opened z75_v_risen z33_v_roots z33_v_traps z75_v_tunnels))) ∧
  (¬ y33_3 < 0 → vp_in y33_3 4 ∧ (z33_v_molesR y33_3.toNatClampNeg) < 4 ∧ wp_X1_place ((X0_moles v) (z33_v_molesR y33_3.toNatClampNeg)) (fun r43 =>
  ((r43 = x1 → wp_X0_catchMole ((X0_mounds v), z33_v_opened, z33_v_roots, z33_v_traps, (X0_tunnels v), z33_v_molesR, (X0_moles v), z33_v_moleCount, (X0_fullAir v), (X0_beats v), z33_v_caught, (X0_gnawed v), (X0_risen v), (X0_fallen v)) y33_3 (fun z52_v_caught z52_v_moleCount z52_v_molesR =>
  B33 (y33_3 + (-1)) z52_v_caught z52_v_moleCount z52_v_molesR)) ∧
  (¬ r43 = x1 → B33 (y33_3 + (-1)) z33_v_caught z33_v_moleCount z33_v_molesR)))))
def wp_X0_digUp_33 (v : V_X0) (u : V_X3) (x1 : Int32) (y33_2 : Int32) (z33_v_opened : (Nat → Int32)) (z33_v_roots : (Nat → Int32)) (z33_v_traps : (Nat → Int32)) (y33_3 : Int32) (z33_v_caught : Int32) (z33_v_moleCount : Int32) (z33_v_molesR : (Nat → Nat)) (Q : Int32 → (Nat → Int32) → (Nat → Int32) → Int32 → Int32 → Int32 → Int32 → Int32 → (Nat → V_X1) → (Nat → Nat) → (Nat → Int32) → (Nat → Int32) → Int32 → (Nat → Int32) → (Nat → Int32) → V_X3 → Prop) : Prop :=
  ∃ (I : Int32 → Int32 → Int32 → (Nat → Nat) → Prop) (μ : Int32 → Int32 → Int32 → (Nat → Nat) → Nat), I y33_3 z33_v_caught z33_v_moleCount z33_v_molesR ∧ ∀ (s0 : Int32) (s1 : Int32) (s2 : Int32) (s3 : (Nat → Nat)), I s0 s1 s2 s3 → wb_X0_digUp_33 v u x1 y33_2 z33_v_opened z33_v_roots z33_v_traps s0 s1 s2 s3 (fun t0 t1 t2 t3 => I t0 t1 t2 t3 ∧ μ t0 t1 t2 t3 < μ s0 s1 s2 s3) Q
def wp_X0_digUp (v : V_X0) (u : V_X3) (x1 : Int32) (Q : Int32 → (Nat → Int32) → (Nat → Int32) → Int32 → Int32 → Int32 → Int32 → Int32 → (Nat → V_X1) → (Nat → Nat) → (Nat → Int32) → (Nat → Int32) → Int32 → (Nat → Int32) → (Nat → Int32) → V_X3 → Prop) : Prop :=
  vp_in x1 64 ∧ wp_X0_digUp_33 v u x1 (X0_caught v) (upd (X0_opened v) x1.toNatClampNeg 1) (upd (X0_roots v) x1.toNatClampNeg 0) (upd (X0_traps v) x1.toNatClampNeg (-1)) ((X0_moleCount v) - 1) (X0_caught v) (X0_moleCount v) (X0_molesR v) Q
def wp_X0_putJoined_144 (v : V_X0) (u : V_X3) (x1 : Int32) (x2 : Int32) (x3 : Int32) (y111_4 : Int32) (y111_5 : Int32) (y111_6 : Int32) (z111_u_cells : (Nat → Int32)) (z111_u_used : Int32) (B111 : Int32 → (Nat → Int32) → Int32 → Prop) (k144_0 : Int32) (k144_1 : Int32) (Q : (Nat → Int32) → (Nat → Int32) → Int32 → Int32 → Prop) : Prop :=
  wp_X3_at (X0_tunnels v) k144_1 k144_0 (fun r144 =>
  wp_X3_put (X3_s2 (X3_s0 u z111_u_cells) z111_u_used) r144 (fun z147_v_cells z147_v_used =>
  B111 (y111_6 + 1) z147_v_cells z147_v_used))
def wb_X0_putJoined_111 (v : V_X0) (u : V_X3) (x1 : Int32) (x2 : Int32) (x3 : Int32) (y111_4 : Int32) (y111_5 : Int32) (y111_6 : Int32) (z111_u_cells : (Nat → Int32)) (z111_u_used : Int32) (B111 : Int32 → (Nat → Int32) → Int32 → Prop) (Q : (Nat → Int32) → (Nat → Int32) → Int32 → Int32 → Prop) : Prop :=
  ((y111_4 ≤ y111_6 → wp_X3_close (X3_s2 (X3_s0 u z111_u_cells) z111_u_used) (fun z160_v_ends z160_v_size =>
  Q z111_u_cells z160_v_ends z160_v_size z111_u_used)) ∧
  (¬ y111_4 ≤ y111_6 → ((y111_5 = 0 → wp_X0_putJoined_144 v u x1 x2 x3 y111_4 y111_5 y111_6 z111_u_cells z111_u_used B111 ((y111_4 - 1) - y111_6) x2  Q) ∧
  (¬ y111_5 = 0 → wp_X0_putJoined_144 v u x1 x2 x3 y111_4 y111_5 y111_6 z111_u_cells z111_u_used B111 y111_6 x2  Q))))
def wp_X0_putJoined_111 (v : V_X0) (u : V_X3) (x1 : Int32) (x2 : Int32) (x3 : Int32) (y111_4 : Int32) (y111_5 : Int32) (y111_6 : Int32) (z111_u_cells : (Nat → Int32)) (z111_u_used : Int32) (Q : (Nat → Int32) → (Nat → Int32) → Int32 → Int32 → Prop) : Prop :=
  ∃ (I : Int32 → (Nat → Int32) → Int32 → Prop) (μ : Int32 → (Nat → Int32) → Int32 → Nat), I y111_6 z111_u_cells z111_u_used ∧ ∀ (s0 : Int32) (s1 : (Nat → Int32)) (s2 : Int32), I s0 s1 s2 → wb_X0_putJoined_111 v u x1 x2 x3 y111_4 y111_5 s0 s1 s2 (fun t0 t1 t2 => I t0 t1 t2 ∧ μ t0 t1 t2 < μ s0 s1 s2) Q
def wp_X0_putJoined_66 (v : V_X0) (u : V_X3) (x1 : Int32) (x2 : Int32) (x3 : Int32) (y33_4 : Int32) (y33_5 : Int32) (y33_6 : Int32) (z33_u_cells : (Nat → Int32)) (z33_u_used : Int32) (B33 : Int32 → (Nat → Int32) → Int32 → Prop) (k66_0 : Int32) (k66_1 : Int32) (Q : (Nat → Int32) → (Nat → Int32) → Int32 → Int32 → Prop) : Prop :=
  wp_X3_at (X0_tunnels v) k66_1 k66_0 (fun r66 =>
  wp_X3_put (X3_s2 (X3_s0 u z33_u_cells) z33_u_used) r66 (fun z69_v_cells z69_v_used =>
  B33 (y33_6 + 1) z69_v_cells z69_v_used))
def wb_X0_putJoined_33 (v : V_X0) (u : V_X3) (x1 : Int32) (x2 : Int32) (x3 : Int32) (y33_4 : Int32) (y33_5 : Int32) (y33_6 : Int32) (z33_u_cells : (Nat → Int32)) (z33_u_used : Int32) (B33 : Int32 → (Nat → Int32) → Int32 → Prop) (Q : (Nat → Int32) → (Nat → Int32) → Int32 → Int32 → Prop) : Prop :=
  ((y33_4 ≤ y33_6 → wp_X3_number (X0_tunnels v) x2 2 (fun r84 =>
  wp_X3_first (X0_tunnels v) x2 (fun r94 =>
  ((r94 = x3 → wp_X0_putJoined_111 v u x1 x2 x3 r84 1 1 z33_u_cells z33_u_used Q) ∧
  (¬ r94 = x3 → wp_X0_putJoined_111 v u x1 x2 x3 r84 0 1 z33_u_cells z33_u_used Q))))) ∧
  (¬ y33_4 ≤ y33_6 → ((y33_5 = 0 → wp_X0_putJoined_66 v u x1 x2 x3 y33_4 y33_5 y33_6 z33_u_cells z33_u_used B33 ((y33_4 - 1) - y33_6) x1  Q) ∧
  (¬ y33_5 = 0 → wp_X0_putJoined_66 v u x1 x2 x3 y33_4 y33_5 y33_6 z33_u_cells z33_u_used B33 y33_6 x1  Q))))
def wp_X0_putJoined_33 (v : V_X0) (u : V_X3) (x1 : Int32) (x2 : Int32) (x3 : Int32) (y33_4 : Int32) (y33_5 : Int32) (y33_6 : Int32) (z33_u_cells : (Nat → Int32)) (z33_u_used : Int32) (Q : (Nat → Int32) → (Nat → Int32) → Int32 → Int32 → Prop) : Prop :=
  ∃ (I : Int32 → (Nat → Int32) → Int32 → Prop) (μ : Int32 → (Nat → Int32) → Int32 → Nat), I y33_6 z33_u_cells z33_u_used ∧ ∀ (s0 : Int32) (s1 : (Nat → Int32)) (s2 : Int32), I s0 s1 s2 → wb_X0_putJoined_33 v u x1 x2 x3 y33_4 y33_5 s0 s1 s2 (fun t0 t1 t2 => I t0 t1 t2 ∧ μ t0 t1 t2 < μ s0 s1 s2) Q
def wp_X0_putJoined (v : V_X0) (u : V_X3) (x1 : Int32) (x2 : Int32) (x3 : Int32) (Q : (Nat → Int32) → (Nat → Int32) → Int32 → Int32 → Prop) : Prop :=
  wp_X3_number (X0_tunnels v) x1 2 (fun r6 =>
  wp_X3_last (X0_tunnels v) x1 (fun r16 =>
  ((r16 = x3 → wp_X0_putJoined_33 v u x1 x2 x3 r6 1 0 (X3_cells u) (X3_used u) Q) ∧
  (¬ r16 = x3 → wp_X0_putJoined_33 v u x1 x2 x3 r6 0 0 (X3_cells u) (X3_used u) Q))))
def wb_X0_joinTunnels_10 (v : V_X0) (u : V_X3) (x1 : Int32) (x2 : Int32) (x3 : Int32)  (y10_4 : Int32) (z10_u_cells : (Nat → Int32)) (z10_u_ends : (Nat → Int32)) (z10_u_size : Int32) (z10_u_used : Int32) (B10 : Int32 → (Nat → Int32) → (Nat → Int32) → Int32 → Int32 → Prop) (Q : (Nat → Int32) → (Nat → Int32) → Int32 → Int32 → V_X3 → Prop) : Prop :=
  (((X3_size (X0_tunnels v)) ≤ y10_4 → wp_X3_copyFrom (X0_tunnels v) (z10_u_cells, z10_u_ends, z10_u_used, z10_u_size) (fun z90_v_cells z90_v_ends z90_v_size z90_v_used =>
  Q z10_u_cells z10_u_ends z10_u_size z10_u_used (z90_v_cells, z90_v_ends, z90_v_used, z90_v_size))) ∧
  (¬ (X3_size (X0_tunnels v)) ≤ y10_4 → ((y10_4 = x1 → wp_X0_putJoined v (z10_u_cells, z10_u_ends, z10_u_used, z10_u_size) x1 x2 x3 (fun z32_u_cells z32_u_ends z32_u_size z32_u_used =>
  B10 (y10_4 + 1) z32_u_cells z32_u_ends z32_u_size z32_u_used)) ∧
  (¬ y10_4 = x1 → ((y10_4 = x2 → B10 (y10_4 + 1) z10_u_cells z10_u_ends z10_u_size z10_u_used) ∧
  (¬ y10_4 = x2 → wp_X3_from (X0_tunnels v) y10_4 (fun r61 =>
  wp_X3_to (X0_tunnels v) y10_4 (fun r70 =>
  wp_X3_addRow (z10_u_cells, z10_u_ends, z10_u_used, z10_u_size) 1024 (X3_cells (X0_tunnels v)) r61 r70 (fun z73_v_cells z73_v_ends z73_v_size z73_v_used =>
  B10 (y10_4 + 1) z73_v_cells z73_v_ends z73_v_size z73_v_used)))))))))
def wp_X0_joinTunnels_10 (v : V_X0) (u : V_X3) (x1 : Int32) (x2 : Int32) (x3 : Int32)  (y10_4 : Int32) (z10_u_cells : (Nat → Int32)) (z10_u_ends : (Nat → Int32)) (z10_u_size : Int32) (z10_u_used : Int32) (Q : (Nat → Int32) → (Nat → Int32) → Int32 → Int32 → V_X3 → Prop) : Prop :=
  ∃ (I : Int32 → (Nat → Int32) → (Nat → Int32) → Int32 → Int32 → Prop) (μ : Int32 → (Nat → Int32) → (Nat → Int32) → Int32 → Int32 → Nat), I y10_4 z10_u_cells z10_u_ends z10_u_size z10_u_used ∧ ∀ (s0 : Int32) (s1 : (Nat → Int32)) (s2 : (Nat → Int32)) (s3 : Int32) (s4 : Int32), I s0 s1 s2 s3 s4 → wb_X0_joinTunnels_10 v u x1 x2 x3  s0 s1 s2 s3 s4 (fun t0 t1 t2 t3 t4 => I t0 t1 t2 t3 t4 ∧ μ t0 t1 t2 t3 t4 < μ s0 s1 s2 s3 s4) Q
def wp_X0_joinTunnels (v : V_X0) (u : V_X3) (x1 : Int32) (x2 : Int32) (x3 : Int32) (Q : (Nat → Int32) → (Nat → Int32) → Int32 → Int32 → V_X3 → Prop) : Prop :=
  wp_X3_empty u (fun z4_v_size z4_v_used =>
  wp_X0_joinTunnels_10 v u x1 x2 x3  0 (X3_cells u) (X3_ends u) z4_v_size z4_v_used Q)
def wp_X0_rakeOff_114 (v : V_X0) (u : V_X3) (x1 : Int32) (y114_2 : Int32) (z114_u_cells : (Nat → Int32)) (z114_u_ends : (Nat → Int32)) (z114_u_size : Int32) (z114_u_used : Int32) (z114_v_mounds : (Nat → Int32)) (z114_v_tunnels : V_X3) (Q : Int32 → (Nat → Int32) → (Nat → Int32) → Int32 → Int32 → Int32 → (Nat → Int32) → V_X3 → Prop) : Prop :=
  wp_X0_dropTunnels (X0_s4 (X0_s0 v z114_v_mounds) z114_v_tunnels) (z114_u_cells, z114_u_ends, z114_u_used, z114_u_size) x1 (fun z116_u_cells z116_u_ends z116_u_size z116_u_used z116_v_fallen z116_v_tunnels =>
  Q (y114_2 - (X3_size z116_v_tunnels)) z116_u_cells z116_u_ends z116_u_size z116_u_used z116_v_fallen z114_v_mounds z116_v_tunnels)
def wp_X0_rakeOff_74 (v : V_X0) (u : V_X3) (x1 : Int32) (y74_2 : Int32) (y74_3 : Int32) (y74_4 : Int32) (z74_v_mounds : (Nat → Int32)) (k74_0 : Int32) (Q : Int32 → (Nat → Int32) → (Nat → Int32) → Int32 → Int32 → Int32 → (Nat → Int32) → V_X3 → Prop) : Prop :=
  ((k74_0 = 0 → wp_X0_rakeOff_114 v u x1 y74_2 (X3_cells u) (X3_ends u) (X3_size u) (X3_used u) z74_v_mounds (X0_tunnels v)  Q) ∧
  (¬ k74_0 = 0 → wp_X3_otherEnd (X0_tunnels v) y74_3 x1 (fun r87 =>
  wp_X3_otherEnd (X0_tunnels v) y74_4 x1 (fun r97 =>
  ((r87 = r97 → wp_X0_rakeOff_114 v u x1 y74_2 (X3_cells u) (X3_ends u) (X3_size u) (X3_used u) z74_v_mounds (X0_tunnels v)  Q) ∧
  (¬ r87 = r97 → wp_X0_joinTunnels (X0_s0 v z74_v_mounds) u y74_3 y74_4 x1 (fun z108_u_cells z108_u_ends z108_u_size z108_u_used z108_v_tunnels =>
  Q (y74_2 - (X3_size z108_v_tunnels)) z108_u_cells z108_u_ends z108_u_size z108_u_used (X0_fallen v) z74_v_mounds z108_v_tunnels)))))))
def wp_X0_rakeOff_73 (v : V_X0) (u : V_X3) (x1 : Int32) (y73_2 : Int32) (y73_3 : Int32) (y73_4 : Int32) (z73_v_mounds : (Nat → Int32)) (Q : Int32 → (Nat → Int32) → (Nat → Int32) → Int32 → Int32 → Int32 → (Nat → Int32) → V_X3 → Prop) : Prop :=
  wp_X0_rakeOff_74 v u x1 y73_2 y73_3 y73_4 z73_v_mounds 0  Q
def wp_X0_rakeOff_45 (v : V_X0) (u : V_X3) (x1 : Int32) (y45_2 : Int32) (y45_3 : Int32) (z45_v_mounds : (Nat → Int32)) (k45_0 : Int32) (Q : Int32 → (Nat → Int32) → (Nat → Int32) → Int32 → Int32 → Int32 → (Nat → Int32) → V_X3 → Prop) : Prop :=
  ((k45_0 = (-1) → wp_X0_rakeOff_73 v u x1 y45_2 y45_3 k45_0 z45_v_mounds  Q) ∧
  (¬ k45_0 = (-1) → wp_X3_endingAt (X0_tunnels v) x1 (k45_0 + 1) (fun r62 =>
  ((r62 = (-1) → wp_X0_rakeOff_74 v u x1 y45_2 y45_3 k45_0 z45_v_mounds 1  Q) ∧
  (¬ r62 = (-1) → wp_X0_rakeOff_73 v u x1 y45_2 y45_3 k45_0 z45_v_mounds  Q)))))
def wp_X0_rakeOff (v : V_X0) (u : V_X3) (x1 : Int32) (Q : Int32 → (Nat → Int32) → (Nat → Int32) → Int32 → Int32 → Int32 → (Nat → Int32) → V_X3 → Prop) : Prop :=
  vp_in x1 64 ∧ wp_X3_endingAt (X0_tunnels v) x1 0 (fun r21 =>
  ((r21 = (-1) → wp_X0_rakeOff_45 v u x1 (X3_size (X0_tunnels v)) r21 (upd (X0_mounds v) x1.toNatClampNeg 0) (-1)  Q) ∧
  (¬ r21 = (-1) → wp_X3_endingAt (X0_tunnels v) x1 (r21 + 1) (fun r42 =>
  wp_X0_rakeOff_45 v u x1 (X3_size (X0_tunnels v)) r21 (upd (X0_mounds v) x1.toNatClampNeg 0) r42  Q))))
def wp_X0_staysAfterTurn_135 (v : V_X0) (u : V_X3) (x1 : Int32) (j135_2 : Nat) (z135_v_caught : Int32) (z135_v_gnawed : Int32) (z135_v_moleCount : Int32) (z135_v_moles : (Nat → V_X1)) (z135_v_molesR : (Nat → Nat)) (z135_v_roots : (Nat → Int32)) (z135_v_traps : (Nat → Int32)) (z135_v_tunnels : V_X3) (Q : Int32 → (Nat → Int32) → (Nat → Int32) → Int32 → Int32 → Int32 → Int32 → Int32 → (Nat → V_X1) → (Nat → Nat) → (Nat → Int32) → Int32 → (Nat → Int32) → (Nat → Int32) → V_X3 → Prop) : Prop :=
  j135_2 < 4 ∧ ((0 < (X1_air (z135_v_moles j135_2)) → Q 1 (X3_cells u) (X3_ends u) (X3_size u) (X3_used u) z135_v_caught z135_v_gnawed z135_v_moleCount z135_v_moles z135_v_molesR (X0_mounds v) (X0_risen v) z135_v_roots z135_v_traps z135_v_tunnels) ∧
  (¬ 0 < (X1_air (z135_v_moles j135_2)) → wp_X1_place (z135_v_moles j135_2) (fun r144 =>
  wp_X0_ensureMound ((X0_mounds v), (X0_opened v), z135_v_roots, z135_v_traps, z135_v_tunnels, z135_v_molesR, z135_v_moles, z135_v_moleCount, (X0_fullAir v), (X0_beats v), z135_v_caught, z135_v_gnawed, (X0_risen v), (X0_fallen v)) u r144 (fun z147_u_cells z147_u_ends z147_u_size z147_u_used z147_v_moles z147_v_mounds z147_v_risen z147_v_tunnels =>
  Q 1 z147_u_cells z147_u_ends z147_u_size z147_u_used z135_v_caught z135_v_gnawed z135_v_moleCount (va_up z147_v_moles j135_2 (X1_s4 (z147_v_moles j135_2) (X0_fullAir v))) z135_v_molesR z147_v_mounds z147_v_risen z135_v_roots z135_v_traps z147_v_tunnels))))
def wp_X0_staysAfterTurn (v : V_X0) (u : V_X3) (x1 : Int32) (Q : Int32 → (Nat → Int32) → (Nat → Int32) → Int32 → Int32 → Int32 → Int32 → Int32 → (Nat → V_X1) → (Nat → Nat) → (Nat → Int32) → Int32 → (Nat → Int32) → (Nat → Int32) → V_X3 → Prop) : Prop :=
  vp_in x1 4 ∧ ((X0_molesR v) x1.toNatClampNeg) < 4 ∧ (((X1_planned ((X0_moles v) ((X0_molesR v) x1.toNatClampNeg))) = 0 → Q 1 (X3_cells u) (X3_ends u) (X3_size u) (X3_used u) (X0_caught v) (X0_gnawed v) (X0_moleCount v) (X0_moles v) (X0_molesR v) (X0_mounds v) (X0_risen v) (X0_roots v) (X0_traps v) (X0_tunnels v)) ∧
  (¬ (X1_planned ((X0_moles v) ((X0_molesR v) x1.toNatClampNeg))) = 0 → wp_X1_place ((X0_moles v) ((X0_molesR v) x1.toNatClampNeg)) (fun r17 =>
  vp_in 0 20 ∧ wp_X6_stepFrom r17 ((X1_directions ((X0_moles v) ((X0_molesR v) x1.toNatClampNeg))) (0 : Int32).toNatClampNeg) (fun r26 =>
  ((r26 = (-1) → wp_X1_dropDirection ((X0_moles v) ((X0_molesR v) x1.toNatClampNeg)) (fun z36_v_directions z36_v_planned =>
  Q 1 (X3_cells u) (X3_ends u) (X3_size u) (X3_used u) (X0_caught v) (X0_gnawed v) (X0_moleCount v) (va_up (X0_moles v) ((X0_molesR v) x1.toNatClampNeg) (X1_s2 (X1_s0 ((X0_moles v) ((X0_molesR v) x1.toNatClampNeg)) z36_v_directions) z36_v_planned)) (X0_molesR v) (X0_mounds v) (X0_risen v) (X0_roots v) (X0_traps v) (X0_tunnels v))) ∧
  (¬ r26 = (-1) → vp_in r26 64 ∧ ((((X0_roots v) r26.toNatClampNeg) ≤ 0 → wp_X1_dropDirection (X1_s4 ((X0_moles v) ((X0_molesR v) x1.toNatClampNeg)) ((X1_air ((X0_moles v) ((X0_molesR v) x1.toNatClampNeg))) - 1)) (fun z84_v_directions z84_v_planned =>
  wp_X1_go (z84_v_directions, (X1_trail ((X0_moles v) ((X0_molesR v) x1.toNatClampNeg))), z84_v_planned, (X1_trailLength ((X0_moles v) ((X0_molesR v) x1.toNatClampNeg))), ((X1_air ((X0_moles v) ((X0_molesR v) x1.toNatClampNeg))) - 1), (X1_steps ((X0_moles v) ((X0_molesR v) x1.toNatClampNeg))), (X1_lost ((X0_moles v) ((X0_molesR v) x1.toNatClampNeg)))) r26 (fun z89_v_steps z89_v_trail z89_v_trailLength =>
  ((((X0_traps v) r26.toNatClampNeg) = 0 → wp_X0_catchMole (X0_s6 (X0_s3 v (upd (X0_traps v) r26.toNatClampNeg (-1))) (va_up (X0_moles v) ((X0_molesR v) x1.toNatClampNeg) (z84_v_directions, z89_v_trail, z84_v_planned, z89_v_trailLength, ((X1_air ((X0_moles v) ((X0_molesR v) x1.toNatClampNeg))) - 1), z89_v_steps, (X1_lost ((X0_moles v) ((X0_molesR v) x1.toNatClampNeg)))))) x1 (fun z114_v_caught z114_v_moleCount z114_v_molesR =>
  Q 0 (X3_cells u) (X3_ends u) (X3_size u) (X3_used u) z114_v_caught (X0_gnawed v) z114_v_moleCount (va_up (X0_moles v) ((X0_molesR v) x1.toNatClampNeg) (z84_v_directions, z89_v_trail, z84_v_planned, z89_v_trailLength, ((X1_air ((X0_moles v) ((X0_molesR v) x1.toNatClampNeg))) - 1), z89_v_steps, (X1_lost ((X0_moles v) ((X0_molesR v) x1.toNatClampNeg))))) z114_v_molesR (X0_mounds v) (X0_risen v) (X0_roots v) (upd (X0_traps v) r26.toNatClampNeg (-1)) (X0_tunnels v))) ∧
  (¬ ((X0_traps v) r26.toNatClampNeg) = 0 → ((((X0_mounds v) r26.toNatClampNeg) = 0 → wp_X0_staysAfterTurn_135 v u x1 ((X0_molesR v) x1.toNatClampNeg) (X0_caught v) (X0_gnawed v) (X0_moleCount v) (va_up (X0_moles v) ((X0_molesR v) x1.toNatClampNeg) (z84_v_directions, z89_v_trail, z84_v_planned, z89_v_trailLength, ((X1_air ((X0_moles v) ((X0_molesR v) x1.toNatClampNeg))) - 1), z89_v_steps, (X1_lost ((X0_moles v) ((X0_molesR v) x1.toNatClampNeg))))) (X0_molesR v) (X0_roots v) (upd (X0_traps v) r26.toNatClampNeg (-1)) (X0_tunnels v)  Q) ∧
  (¬ ((X0_mounds v) r26.toNatClampNeg) = 0 → wp_X0_finishTrail (X0_s6 (X0_s3 v (upd (X0_traps v) r26.toNatClampNeg (-1))) (va_up (X0_moles v) ((X0_molesR v) x1.toNatClampNeg) (z84_v_directions, z89_v_trail, z84_v_planned, z89_v_trailLength, ((X1_air ((X0_moles v) ((X0_molesR v) x1.toNatClampNeg))) - 1), z89_v_steps, (X1_lost ((X0_moles v) ((X0_molesR v) x1.toNatClampNeg)))))) ((X0_molesR v) x1.toNatClampNeg) (fun z130_v_moles z130_v_tunnels =>
  Q 1 (X3_cells u) (X3_ends u) (X3_size u) (X3_used u) (X0_caught v) (X0_gnawed v) (X0_moleCount v) z130_v_moles (X0_molesR v) (X0_mounds v) (X0_risen v) (X0_roots v) (upd (X0_traps v) r26.toNatClampNeg (-1)) z130_v_tunnels)))))))) ∧
  (¬ ((X0_roots v) r26.toNatClampNeg) ≤ 0 → wp_X0_staysAfterTurn_135 v u x1 ((X0_molesR v) x1.toNatClampNeg) (X0_caught v) ((X0_gnawed v) + 1) (X0_moleCount v) (va_up (X0_moles v) ((X0_molesR v) x1.toNatClampNeg) (X1_s4 ((X0_moles v) ((X0_molesR v) x1.toNatClampNeg)) ((X1_air ((X0_moles v) ((X0_molesR v) x1.toNatClampNeg))) - 1))) (X0_molesR v) (upd (X0_roots v) r26.toNatClampNeg (((X0_roots v) r26.toNatClampNeg) - 1)) (X0_traps v) (X0_tunnels v)  Q))))))))
def wb_X0_beat_50 (v : V_X0) (u : V_X3) (z50_v_beats : Int32) (y50_1 : Int32) (y50_2 : Int32) (z50_u_cells : (Nat → Int32)) (z50_u_ends : (Nat → Int32)) (z50_u_size : Int32) (z50_u_used : Int32) (z50_v_caught : Int32) (z50_v_gnawed : Int32) (z50_v_moleCount : Int32) (z50_v_moles : (Nat → V_X1)) (z50_v_molesR : (Nat → Nat)) (z50_v_mounds : (Nat → Int32)) (z50_v_risen : Int32) (z50_v_roots : (Nat → Int32)) (z50_v_traps : (Nat → Int32)) (z50_v_tunnels : V_X3) (B50 : Int32 → Int32 → (Nat → Int32) → (Nat → Int32) → Int32 → Int32 → Int32 → Int32 → Int32 → (Nat → V_X1) → (Nat → Nat) → (Nat → Int32) → Int32 → (Nat → Int32) → (Nat → Int32) → V_X3 → Prop) (Q : (Nat → Int32) → (Nat → Int32) → Int32 → Int32 → Int32 → Int32 → Int32 → Int32 → (Nat → V_X1) → (Nat → Nat) → (Nat → Int32) → Int32 → (Nat → Int32) → (Nat → Int32) → V_X3 → Prop) : Prop :=
  ((y50_2 ≤ 0 → Q z50_u_cells z50_u_ends z50_u_size z50_u_used z50_v_beats z50_v_caught z50_v_gnawed z50_v_moleCount z50_v_moles z50_v_molesR z50_v_mounds z50_v_risen z50_v_roots z50_v_traps z50_v_tunnels) ∧
  (¬ y50_2 ≤ 0 → ((z50_v_moleCount ≤ y50_1 → B50 y50_1 (y50_2 + (-1)) z50_u_cells z50_u_ends z50_u_size z50_u_used z50_v_caught z50_v_gnawed z50_v_moleCount z50_v_moles z50_v_molesR z50_v_mounds z50_v_risen z50_v_roots z50_v_traps z50_v_tunnels) ∧
  (¬ z50_v_moleCount ≤ y50_1 → wp_X0_staysAfterTurn (z50_v_mounds, (X0_opened v), z50_v_roots, z50_v_traps, z50_v_tunnels, z50_v_molesR, z50_v_moles, z50_v_moleCount, (X0_fullAir v), z50_v_beats, z50_v_caught, z50_v_gnawed, z50_v_risen, (X0_fallen v)) (z50_u_cells, z50_u_ends, z50_u_used, z50_u_size) y50_1 (fun r64 z64_u_cells z64_u_ends z64_u_size z64_u_used z64_v_caught z64_v_gnawed z64_v_moleCount z64_v_moles z64_v_molesR z64_v_mounds z64_v_risen z64_v_roots z64_v_traps z64_v_tunnels =>
  ((r64 = 0 → B50 y50_1 (y50_2 + (-1)) z64_u_cells z64_u_ends z64_u_size z64_u_used z64_v_caught z64_v_gnawed z64_v_moleCount z64_v_moles z64_v_molesR z64_v_mounds z64_v_risen z64_v_roots z64_v_traps z64_v_tunnels) ∧
  (¬ r64 = 0 → B50 (y50_1 + 1) (y50_2 + (-1)) z64_u_cells z64_u_ends z64_u_size z64_u_used z64_v_caught z64_v_gnawed z64_v_moleCount z64_v_moles z64_v_molesR z64_v_mounds z64_v_risen z64_v_roots z64_v_traps z64_v_tunnels)))))))
def wp_X0_beat_50 (v : V_X0) (u : V_X3) (z50_v_beats : Int32) (y50_1 : Int32) (y50_2 : Int32) (z50_u_cells : (Nat → Int32)) (z50_u_ends : (Nat → Int32)) (z50_u_size : Int32) (z50_u_used : Int32) (z50_v_caught : Int32) (z50_v_gnawed : Int32) (z50_v_moleCount : Int32) (z50_v_moles : (Nat → V_X1)) (z50_v_molesR : (Nat → Nat)) (z50_v_mounds : (Nat → Int32)) (z50_v_risen : Int32) (z50_v_roots : (Nat → Int32)) (z50_v_traps : (Nat → Int32)) (z50_v_tunnels : V_X3) (Q : (Nat → Int32) → (Nat → Int32) → Int32 → Int32 → Int32 → Int32 → Int32 → Int32 → (Nat → V_X1) → (Nat → Nat) → (Nat → Int32) → Int32 → (Nat → Int32) → (Nat → Int32) → V_X3 → Prop) : Prop :=
  ∃ (I : Int32 → Int32 → (Nat → Int32) → (Nat → Int32) → Int32 → Int32 → Int32 → Int32 → Int32 → (Nat → V_X1) → (Nat → Nat) → (Nat → Int32) → Int32 → (Nat → Int32) → (Nat → Int32) → V_X3 → Prop) (μ : Int32 → Int32 → (Nat → Int32) → (Nat → Int32) → Int32 → Int32 → Int32 → Int32 → Int32 → (Nat → V_X1) → (Nat → Nat) → (Nat → Int32) → Int32 → (Nat → Int32) → (Nat → Int32) → V_X3 → Nat), I y50_1 y50_2 z50_u_cells z50_u_ends z50_u_size z50_u_used z50_v_caught z50_v_gnawed z50_v_moleCount z50_v_moles z50_v_molesR z50_v_mounds z50_v_risen z50_v_roots z50_v_traps z50_v_tunnels ∧ ∀ (s0 : Int32) (s1 : Int32) (s2 : (Nat → Int32)) (s3 : (Nat → Int32)) (s4 : Int32) (s5 : Int32) (s6 : Int32) (s7 : Int32) (s8 : Int32) (s9 : (Nat → V_X1)) (s10 : (Nat → Nat)) (s11 : (Nat → Int32)) (s12 : Int32) (s13 : (Nat → Int32)) (s14 : (Nat → Int32)) (s15 : V_X3), I s0 s1 s2 s3 s4 s5 s6 s7 s8 s9 s10 s11 s12 s13 s14 s15 → wb_X0_beat_50 v u z50_v_beats s0 s1 s2 s3 s4 s5 s6 s7 s8 s9 s10 s11 s12 s13 s14 s15 (fun t0 t1 t2 t3 t4 t5 t6 t7 t8 t9 t10 t11 t12 t13 t14 t15 => I t0 t1 t2 t3 t4 t5 t6 t7 t8 t9 t10 t11 t12 t13 t14 t15 ∧ μ t0 t1 t2 t3 t4 t5 t6 t7 t8 t9 t10 t11 t12 t13 t14 t15 < μ s0 s1 s2 s3 s4 s5 s6 s7 s8 s9 s10 s11 s12 s13 s14 s15) Q
def wb_X0_beat_12 (v : V_X0) (u : V_X3) (z12_v_beats : Int32) (y12_1 : Int32) (z12_v_traps : (Nat → Int32)) (B12 : Int32 → (Nat → Int32) → Prop) (Q : (Nat → Int32) → (Nat → Int32) → Int32 → Int32 → Int32 → Int32 → Int32 → Int32 → (Nat → V_X1) → (Nat → Nat) → (Nat → Int32) → Int32 → (Nat → Int32) → (Nat → Int32) → V_X3 → Prop) : Prop :=
  ((64 ≤ y12_1 → wp_X0_beat_50 v u z12_v_beats 0 (X0_moleCount v) (X3_cells u) (X3_ends u) (X3_size u) (X3_used u) (X0_caught v) (X0_gnawed v) (X0_moleCount v) (X0_moles v) (X0_molesR v) (X0_mounds v) (X0_risen v) (X0_roots v) z12_v_traps (X0_tunnels v) Q) ∧
  (¬ 64 ≤ y12_1 → vp_in y12_1 64 ∧ (((z12_v_traps y12_1.toNatClampNeg) ≤ 0 → B12 (y12_1 + 1) z12_v_traps) ∧
  (¬ (z12_v_traps y12_1.toNatClampNeg) ≤ 0 → B12 (y12_1 + 1) (upd z12_v_traps y12_1.toNatClampNeg ((z12_v_traps y12_1.toNatClampNeg) - 1))))))
def wp_X0_beat_12 (v : V_X0) (u : V_X3) (z12_v_beats : Int32) (y12_1 : Int32) (z12_v_traps : (Nat → Int32)) (Q : (Nat → Int32) → (Nat → Int32) → Int32 → Int32 → Int32 → Int32 → Int32 → Int32 → (Nat → V_X1) → (Nat → Nat) → (Nat → Int32) → Int32 → (Nat → Int32) → (Nat → Int32) → V_X3 → Prop) : Prop :=
  ∃ (I : Int32 → (Nat → Int32) → Prop) (μ : Int32 → (Nat → Int32) → Nat), I y12_1 z12_v_traps ∧ ∀ (s0 : Int32) (s1 : (Nat → Int32)), I s0 s1 → wb_X0_beat_12 v u z12_v_beats s0 s1 (fun t0 t1 => I t0 t1 ∧ μ t0 t1 < μ s0 s1) Q
def wp_X0_beat (v : V_X0) (u : V_X3) (Q : (Nat → Int32) → (Nat → Int32) → Int32 → Int32 → Int32 → Int32 → Int32 → Int32 → (Nat → V_X1) → (Nat → Nat) → (Nat → Int32) → Int32 → (Nat → Int32) → (Nat → Int32) → V_X3 → Prop) : Prop :=
  wp_X0_beat_12 v u ((X0_beats v) + 1) 0 (X0_traps v) Q
def wb_X4_findSure_58 (v : V_X4) (w : V_X0) (y43_2 : Int32) (y43_3 : Int32) (z43_v_sure : (Nat → Int32)) (B43 : Int32 → Int32 → (Nat → Int32) → Prop)  (y58_2 : Int32) (y58_4 : Int32) (z58_v_sure : (Nat → Int32)) (B58 : Int32 → Int32 → (Nat → Int32) → Prop) (Q : (Nat → Int32) → Prop) : Prop :=
  ((64 ≤ y58_4 → B43 y58_2 (y43_3 + 1) z58_v_sure) ∧
  (¬ 64 ≤ y58_4 → vp_in y58_4 64 ∧ ((((X0_opened w) y58_4.toNatClampNeg) = 0 → B58 y58_2 (y58_4 + 1) z58_v_sure) ∧
  (¬ ((X0_opened w) y58_4.toNatClampNeg) = 0 → wp_X4_concludeAt (X4_s2 v z58_v_sure) y58_4 (fun r78 z78_v_sure =>
  ((r78 = 0 → B58 y58_2 (y58_4 + 1) z78_v_sure) ∧
  (¬ r78 = 0 → B58 1 (y58_4 + 1) z78_v_sure)))))))
def wp_X4_findSure_58 (v : V_X4) (w : V_X0) (y43_2 : Int32) (y43_3 : Int32) (z43_v_sure : (Nat → Int32)) (B43 : Int32 → Int32 → (Nat → Int32) → Prop)  (y58_2 : Int32) (y58_4 : Int32) (z58_v_sure : (Nat → Int32)) (Q : (Nat → Int32) → Prop) : Prop :=
  ∃ (I : Int32 → Int32 → (Nat → Int32) → Prop) (μ : Int32 → Int32 → (Nat → Int32) → Nat), I y58_2 y58_4 z58_v_sure ∧ ∀ (s0 : Int32) (s1 : Int32) (s2 : (Nat → Int32)), I s0 s1 s2 → wb_X4_findSure_58 v w y43_2 y43_3 z43_v_sure B43  s0 s1 s2 (fun t0 t1 t2 => I t0 t1 t2 ∧ μ t0 t1 t2 < μ s0 s1 s2) Q
def wb_X4_findSure_43 (v : V_X4) (w : V_X0)  (y43_2 : Int32) (y43_3 : Int32) (z43_v_sure : (Nat → Int32)) (B43 : Int32 → Int32 → (Nat → Int32) → Prop) (Q : (Nat → Int32) → Prop) : Prop :=
  ((y43_2 = 0 → Q z43_v_sure) ∧
  (¬ y43_2 = 0 → ((64 < y43_3 → Q z43_v_sure) ∧
  (¬ 64 < y43_3 → wp_X4_findSure_58 v w y43_2 y43_3 z43_v_sure B43  0 0 z43_v_sure Q))))
def wp_X4_findSure_43 (v : V_X4) (w : V_X0)  (y43_2 : Int32) (y43_3 : Int32) (z43_v_sure : (Nat → Int32)) (Q : (Nat → Int32) → Prop) : Prop :=
  ∃ (I : Int32 → Int32 → (Nat → Int32) → Prop) (μ : Int32 → Int32 → (Nat → Int32) → Nat), I y43_2 y43_3 z43_v_sure ∧ ∀ (s0 : Int32) (s1 : Int32) (s2 : (Nat → Int32)), I s0 s1 s2 → wb_X4_findSure_43 v w  s0 s1 s2 (fun t0 t1 t2 => I t0 t1 t2 ∧ μ t0 t1 t2 < μ s0 s1 s2) Q
def wb_X4_findSure_2 (v : V_X4) (w : V_X0)  (y2_2 : Int32) (z2_v_sure : (Nat → Int32)) (B2 : Int32 → (Nat → Int32) → Prop) (Q : (Nat → Int32) → Prop) : Prop :=
  ((64 ≤ y2_2 → wp_X4_findSure_43 v w  1 0 z2_v_sure Q) ∧
  (¬ 64 ≤ y2_2 → vp_in y2_2 64 ∧ ((((X0_opened w) y2_2.toNatClampNeg) = 0 → B2 (y2_2 + 1) (upd z2_v_sure y2_2.toNatClampNeg (-1))) ∧
  (¬ ((X0_opened w) y2_2.toNatClampNeg) = 0 → B2 (y2_2 + 1) (upd z2_v_sure y2_2.toNatClampNeg ((X4_hollow v) y2_2.toNatClampNeg))))))
def wp_X4_findSure_2 (v : V_X4) (w : V_X0)  (y2_2 : Int32) (z2_v_sure : (Nat → Int32)) (Q : (Nat → Int32) → Prop) : Prop :=
  ∃ (I : Int32 → (Nat → Int32) → Prop) (μ : Int32 → (Nat → Int32) → Nat), I y2_2 z2_v_sure ∧ ∀ (s0 : Int32) (s1 : (Nat → Int32)), I s0 s1 → wb_X4_findSure_2 v w  s0 s1 (fun t0 t1 => I t0 t1 ∧ μ t0 t1 < μ s0 s1) Q
def wp_X4_findSure (v : V_X4) (w : V_X0) (Q : (Nat → Int32) → Prop) : Prop :=
  wp_X4_findSure_2 v w  0 (X4_sure v) Q
def wb_X4_read_65 (v : V_X4) (w : V_X0) (z65_v_crossings : (Nat → Int32)) (z65_v_seenBy : (Nat → Int32)) (y65_2 : Int32) (z65_v_hollow : (Nat → Int32)) (B65 : Int32 → (Nat → Int32) → Prop) (Q : (Nat → Int32) → (Nat → Int32) → (Nat → Int32) → (Nat → Int32) → Prop) : Prop :=
  (((X0_moleCount w) ≤ y65_2 → wp_X4_findSure (z65_v_hollow, z65_v_crossings, (X4_sure v), z65_v_seenBy) w (fun z91_v_sure =>
  Q z65_v_crossings z65_v_hollow z65_v_seenBy z91_v_sure)) ∧
  (¬ (X0_moleCount w) ≤ y65_2 → vp_in y65_2 4 ∧ ((X0_molesR w) y65_2.toNatClampNeg) < 4 ∧ wp_X4_readTrail (z65_v_hollow, z65_v_crossings, (X4_sure v), z65_v_seenBy) ((X0_moles w) ((X0_molesR w) y65_2.toNatClampNeg)) (fun z80_v_hollow =>
  B65 (y65_2 + 1) z80_v_hollow)))
def wp_X4_read_65 (v : V_X4) (w : V_X0) (z65_v_crossings : (Nat → Int32)) (z65_v_seenBy : (Nat → Int32)) (y65_2 : Int32) (z65_v_hollow : (Nat → Int32)) (Q : (Nat → Int32) → (Nat → Int32) → (Nat → Int32) → (Nat → Int32) → Prop) : Prop :=
  ∃ (I : Int32 → (Nat → Int32) → Prop) (μ : Int32 → (Nat → Int32) → Nat), I y65_2 z65_v_hollow ∧ ∀ (s0 : Int32) (s1 : (Nat → Int32)), I s0 s1 → wb_X4_read_65 v w z65_v_crossings z65_v_seenBy s0 s1 (fun t0 t1 => I t0 t1 ∧ μ t0 t1 < μ s0 s1) Q
def wb_X4_read_37 (v : V_X4) (w : V_X0)  (y37_2 : Int32) (z37_v_crossings : (Nat → Int32)) (z37_v_hollow : (Nat → Int32)) (z37_v_seenBy : (Nat → Int32)) (B37 : Int32 → (Nat → Int32) → (Nat → Int32) → (Nat → Int32) → Prop) (Q : (Nat → Int32) → (Nat → Int32) → (Nat → Int32) → (Nat → Int32) → Prop) : Prop :=
  (((X3_size (X0_tunnels w)) ≤ y37_2 → wp_X4_read_65 v w z37_v_crossings z37_v_seenBy 0 z37_v_hollow Q) ∧
  (¬ (X3_size (X0_tunnels w)) ≤ y37_2 → wp_X4_readTunnel (z37_v_hollow, z37_v_crossings, (X4_sure v), z37_v_seenBy) (X0_tunnels w) y37_2 (fun z54_v_crossings z54_v_hollow z54_v_seenBy =>
  B37 (y37_2 + 1) z54_v_crossings z54_v_hollow z54_v_seenBy)))
def wp_X4_read_37 (v : V_X4) (w : V_X0)  (y37_2 : Int32) (z37_v_crossings : (Nat → Int32)) (z37_v_hollow : (Nat → Int32)) (z37_v_seenBy : (Nat → Int32)) (Q : (Nat → Int32) → (Nat → Int32) → (Nat → Int32) → (Nat → Int32) → Prop) : Prop :=
  ∃ (I : Int32 → (Nat → Int32) → (Nat → Int32) → (Nat → Int32) → Prop) (μ : Int32 → (Nat → Int32) → (Nat → Int32) → (Nat → Int32) → Nat), I y37_2 z37_v_crossings z37_v_hollow z37_v_seenBy ∧ ∀ (s0 : Int32) (s1 : (Nat → Int32)) (s2 : (Nat → Int32)) (s3 : (Nat → Int32)), I s0 s1 s2 s3 → wb_X4_read_37 v w  s0 s1 s2 s3 (fun t0 t1 t2 t3 => I t0 t1 t2 t3 ∧ μ t0 t1 t2 t3 < μ s0 s1 s2 s3) Q
def wb_X4_read_2 (v : V_X4) (w : V_X0)  (y2_2 : Int32) (z2_v_crossings : (Nat → Int32)) (z2_v_hollow : (Nat → Int32)) (z2_v_seenBy : (Nat → Int32)) (B2 : Int32 → (Nat → Int32) → (Nat → Int32) → (Nat → Int32) → Prop) (Q : (Nat → Int32) → (Nat → Int32) → (Nat → Int32) → (Nat → Int32) → Prop) : Prop :=
  ((64 ≤ y2_2 → wp_X4_read_37 v w  0 z2_v_crossings z2_v_hollow z2_v_seenBy Q) ∧
  (¬ 64 ≤ y2_2 → vp_in y2_2 64 ∧ B2 (y2_2 + 1) (upd z2_v_crossings y2_2.toNatClampNeg 0) (upd z2_v_hollow y2_2.toNatClampNeg 0) (upd z2_v_seenBy y2_2.toNatClampNeg (-1))))
def wp_X4_read_2 (v : V_X4) (w : V_X0)  (y2_2 : Int32) (z2_v_crossings : (Nat → Int32)) (z2_v_hollow : (Nat → Int32)) (z2_v_seenBy : (Nat → Int32)) (Q : (Nat → Int32) → (Nat → Int32) → (Nat → Int32) → (Nat → Int32) → Prop) : Prop :=
  ∃ (I : Int32 → (Nat → Int32) → (Nat → Int32) → (Nat → Int32) → Prop) (μ : Int32 → (Nat → Int32) → (Nat → Int32) → (Nat → Int32) → Nat), I y2_2 z2_v_crossings z2_v_hollow z2_v_seenBy ∧ ∀ (s0 : Int32) (s1 : (Nat → Int32)) (s2 : (Nat → Int32)) (s3 : (Nat → Int32)), I s0 s1 s2 s3 → wb_X4_read_2 v w  s0 s1 s2 s3 (fun t0 t1 t2 t3 => I t0 t1 t2 t3 ∧ μ t0 t1 t2 t3 < μ s0 s1 s2 s3) Q
def wp_X4_read (v : V_X4) (w : V_X0) (Q : (Nat → Int32) → (Nat → Int32) → (Nat → Int32) → (Nat → Int32) → Prop) : Prop :=
  wp_X4_read_2 v w  0 (X4_crossings v) (X4_hollow v) (X4_seenBy v) Q
def wb_X2_measure_59 (v : V_X2) (w : V_X0) (x2 : Int32) (y43_3 : Int32) (y43_4 : Int32) (z43_v_distance : (Nat → Int32)) (B43 : Int32 → Int32 → (Nat → Int32) → Prop)  (y59_3 : Int32) (y59_5 : Int32) (z59_v_distance : (Nat → Int32)) (B59 : Int32 → Int32 → (Nat → Int32) → Prop) (Q : (Nat → Int32) → Prop) : Prop :=
  (((X3_size (X0_tunnels w)) ≤ y59_5 → B43 y59_3 (y43_4 + 1) z59_v_distance) ∧
  (¬ (X3_size (X0_tunnels w)) ≤ y59_5 → wp_X3_first (X0_tunnels w) y59_5 (fun r77 =>
  wp_X3_last (X0_tunnels w) y59_5 (fun r88 =>
  wp_X2_isTuft r77 (fun r95 =>
  ((r95 = 0 → B59 y59_3 (y59_5 + 1) z59_v_distance) ∧
  (¬ r95 = 0 → wp_X2_isTuft r88 (fun r103 =>
  ((r103 = 0 → B59 y59_3 (y59_5 + 1) z59_v_distance) ∧
  (¬ r103 = 0 → wp_X2_reach (X2_s0 v z59_v_distance) r77 r88 y43_4 (fun r116 z116_v_distance =>
  ((r116 = 0 → B59 y59_3 (y59_5 + 1) z116_v_distance) ∧
  (¬ r116 = 0 → B59 1 (y59_5 + 1) z116_v_distance)))))))))))))
def wp_X2_measure_59 (v : V_X2) (w : V_X0) (x2 : Int32) (y43_3 : Int32) (y43_4 : Int32) (z43_v_distance : (Nat → Int32)) (B43 : Int32 → Int32 → (Nat → Int32) → Prop)  (y59_3 : Int32) (y59_5 : Int32) (z59_v_distance : (Nat → Int32)) (Q : (Nat → Int32) → Prop) : Prop :=
  ∃ (I : Int32 → Int32 → (Nat → Int32) → Prop) (μ : Int32 → Int32 → (Nat → Int32) → Nat), I y59_3 y59_5 z59_v_distance ∧ ∀ (s0 : Int32) (s1 : Int32) (s2 : (Nat → Int32)), I s0 s1 s2 → wb_X2_measure_59 v w x2 y43_3 y43_4 z43_v_distance B43  s0 s1 s2 (fun t0 t1 t2 => I t0 t1 t2 ∧ μ t0 t1 t2 < μ s0 s1 s2) Q
def wb_X2_measure_43 (v : V_X2) (w : V_X0) (x2 : Int32)  (y43_3 : Int32) (y43_4 : Int32) (z43_v_distance : (Nat → Int32)) (B43 : Int32 → Int32 → (Nat → Int32) → Prop) (Q : (Nat → Int32) → Prop) : Prop :=
  ((y43_3 = 0 → Q z43_v_distance) ∧
  (¬ y43_3 = 0 → ((64 ≤ y43_4 → Q z43_v_distance) ∧
  (¬ 64 ≤ y43_4 → wp_X2_measure_59 v w x2 y43_3 y43_4 z43_v_distance B43  0 0 z43_v_distance Q))))
def wp_X2_measure_43 (v : V_X2) (w : V_X0) (x2 : Int32)  (y43_3 : Int32) (y43_4 : Int32) (z43_v_distance : (Nat → Int32)) (Q : (Nat → Int32) → Prop) : Prop :=
  ∃ (I : Int32 → Int32 → (Nat → Int32) → Prop) (μ : Int32 → Int32 → (Nat → Int32) → Nat), I y43_3 y43_4 z43_v_distance ∧ ∀ (s0 : Int32) (s1 : Int32) (s2 : (Nat → Int32)), I s0 s1 s2 → wb_X2_measure_43 v w x2  s0 s1 s2 (fun t0 t1 t2 => I t0 t1 t2 ∧ μ t0 t1 t2 < μ s0 s1 s2) Q
def wb_X2_measure_2 (v : V_X2) (w : V_X0) (x2 : Int32)  (y2_3 : Int32) (z2_v_distance : (Nat → Int32)) (B2 : Int32 → (Nat → Int32) → Prop) (Q : (Nat → Int32) → Prop) : Prop :=
  ((64 ≤ y2_3 → vp_in x2 64 ∧ ((((X0_mounds w) x2.toNatClampNeg) = 0 → Q z2_v_distance) ∧
  (¬ ((X0_mounds w) x2.toNatClampNeg) = 0 → wp_X2_measure_43 v w x2  1 0 (upd z2_v_distance x2.toNatClampNeg 0) Q))) ∧
  (¬ 64 ≤ y2_3 → vp_in y2_3 64 ∧ B2 (y2_3 + 1) (upd z2_v_distance y2_3.toNatClampNeg (-1))))
def wp_X2_measure_2 (v : V_X2) (w : V_X0) (x2 : Int32)  (y2_3 : Int32) (z2_v_distance : (Nat → Int32)) (Q : (Nat → Int32) → Prop) : Prop :=
  ∃ (I : Int32 → (Nat → Int32) → Prop) (μ : Int32 → (Nat → Int32) → Nat), I y2_3 z2_v_distance ∧ ∀ (s0 : Int32) (s1 : (Nat → Int32)), I s0 s1 → wb_X2_measure_2 v w x2  s0 s1 (fun t0 t1 => I t0 t1 ∧ μ t0 t1 < μ s0 s1) Q
def wp_X2_measure (v : V_X2) (w : V_X0) (x2 : Int32) (Q : (Nat → Int32) → Prop) : Prop :=
  wp_X2_measure_2 v w x2  0 (X2_distance v) Q
def wb_X2_groupCount_28 (v : V_X2) (w : V_X0)  (y28_2 : Int32) (y28_3 : Int32) (z28_v_group : (Nat → Int32)) (B28 : Int32 → Int32 → (Nat → Int32) → Prop) (Q : Int32 → (Nat → Int32) → Prop) : Prop :=
  (((X3_size (X0_tunnels w)) ≤ y28_3 → Q y28_2 z28_v_group) ∧
  (¬ (X3_size (X0_tunnels w)) ≤ y28_3 → wp_X3_first (X0_tunnels w) y28_3 (fun r44 =>
  wp_X3_last (X0_tunnels w) y28_3 (fun r54 =>
  wp_X2_isTuft r44 (fun r61 =>
  ((r61 = 0 → B28 y28_2 (y28_3 + 1) z28_v_group) ∧
  (¬ r61 = 0 → wp_X2_isTuft r54 (fun r69 =>
  ((r69 = 0 → B28 y28_2 (y28_3 + 1) z28_v_group) ∧
  (¬ r69 = 0 → vp_in r44 64 ∧ vp_in r54 64 ∧ (((z28_v_group r44.toNatClampNeg) = (z28_v_group r54.toNatClampNeg) → B28 y28_2 (y28_3 + 1) z28_v_group) ∧
  (¬ (z28_v_group r44.toNatClampNeg) = (z28_v_group r54.toNatClampNeg) → wp_X2_uniteGroups (X2_s1 v z28_v_group) (z28_v_group r44.toNatClampNeg) (z28_v_group r54.toNatClampNeg) (fun z107_v_group =>
  B28 (y28_2 + (-1)) (y28_3 + 1) z107_v_group)))))))))))))
def wp_X2_groupCount_28 (v : V_X2) (w : V_X0)  (y28_2 : Int32) (y28_3 : Int32) (z28_v_group : (Nat → Int32)) (Q : Int32 → (Nat → Int32) → Prop) : Prop :=
  ∃ (I : Int32 → Int32 → (Nat → Int32) → Prop) (μ : Int32 → Int32 → (Nat → Int32) → Nat), I y28_2 y28_3 z28_v_group ∧ ∀ (s0 : Int32) (s1 : Int32) (s2 : (Nat → Int32)), I s0 s1 s2 → wb_X2_groupCount_28 v w  s0 s1 s2 (fun t0 t1 t2 => I t0 t1 t2 ∧ μ t0 t1 t2 < μ s0 s1 s2) Q
def wb_X2_groupCount_2 (v : V_X2) (w : V_X0)  (y2_2 : Int32) (z2_v_group : (Nat → Int32)) (B2 : Int32 → (Nat → Int32) → Prop) (Q : Int32 → (Nat → Int32) → Prop) : Prop :=
  ((64 ≤ y2_2 → wp_X0_moundCount w (fun r22 =>
  wp_X2_groupCount_28 v w  r22 0 z2_v_group Q)) ∧
  (¬ 64 ≤ y2_2 → vp_in y2_2 64 ∧ B2 (y2_2 + 1) (upd z2_v_group y2_2.toNatClampNeg y2_2)))
def wp_X2_groupCount_2 (v : V_X2) (w : V_X0)  (y2_2 : Int32) (z2_v_group : (Nat → Int32)) (Q : Int32 → (Nat → Int32) → Prop) : Prop :=
  ∃ (I : Int32 → (Nat → Int32) → Prop) (μ : Int32 → (Nat → Int32) → Nat), I y2_2 z2_v_group ∧ ∀ (s0 : Int32) (s1 : (Nat → Int32)), I s0 s1 → wb_X2_groupCount_2 v w  s0 s1 (fun t0 t1 => I t0 t1 ∧ μ t0 t1 < μ s0 s1) Q
def wp_X2_groupCount (v : V_X2) (w : V_X0) (Q : Int32 → (Nat → Int32) → Prop) : Prop :=
  wp_X2_groupCount_2 v w  0 (X2_group v) Q
def wp_X6_saveState_56 (v : V_X6) (z56_v_savedCount : Int32) (z56_v_savedR : (Nat → Nat)) (Q : (Nat → V_X0) → Int32 → (Nat → Nat) → Prop) : Prop :=
  vp_in z56_v_savedCount 6 ∧ (z56_v_savedR z56_v_savedCount.toNatClampNeg) < 6 ∧ wp_X0_copyFrom ((X6_saved v) (z56_v_savedR z56_v_savedCount.toNatClampNeg)) (X6_lawn v) (fun z69_v_beats z69_v_caught z69_v_fallen z69_v_fullAir z69_v_gnawed z69_v_moleCount z69_v_moles z69_v_mounds z69_v_opened z69_v_risen z69_v_roots z69_v_traps z69_v_tunnels =>
  Q (va_up (X6_saved v) (z56_v_savedR z56_v_savedCount.toNatClampNeg) (z69_v_mounds, z69_v_opened, z69_v_roots, z69_v_traps, z69_v_tunnels, (X0_molesR ((X6_saved v) (z56_v_savedR z56_v_savedCount.toNatClampNeg))), z69_v_moles, z69_v_moleCount, z69_v_fullAir, z69_v_beats, z69_v_caught, z69_v_gnawed, z69_v_risen, z69_v_fallen)) (z56_v_savedCount + 1) z56_v_savedR)
def wb_X6_saveState_18 (v : V_X6) (j18_1 : Nat) (y18_2 : Int32) (z18_v_savedR : (Nat → Nat)) (B18 : Int32 → (Nat → Nat) → Prop) (Q : (Nat → V_X0) → Int32 → (Nat → Nat) → Prop) : Prop :=
  ((6 ≤ y18_2 → vp_in 5 6 ∧ j18_1 < 6 ∧ wp_X6_saveState_56 v 5 (va_up z18_v_savedR (5 : Int32).toNatClampNeg j18_1)  Q) ∧
  (¬ 6 ≤ y18_2 → vp_in y18_2 6 ∧ (z18_v_savedR y18_2.toNatClampNeg) < 6 ∧ vp_in (y18_2 - 1) 6 ∧ B18 (y18_2 + 1) (va_up z18_v_savedR (y18_2 - 1).toNatClampNeg (z18_v_savedR y18_2.toNatClampNeg))))
def wp_X6_saveState_18 (v : V_X6) (j18_1 : Nat) (y18_2 : Int32) (z18_v_savedR : (Nat → Nat)) (Q : (Nat → V_X0) → Int32 → (Nat → Nat) → Prop) : Prop :=
  ∃ (I : Int32 → (Nat → Nat) → Prop) (μ : Int32 → (Nat → Nat) → Nat), I y18_2 z18_v_savedR ∧ ∀ (s0 : Int32) (s1 : (Nat → Nat)), I s0 s1 → wb_X6_saveState_18 v j18_1 s0 s1 (fun t0 t1 => I t0 t1 ∧ μ t0 t1 < μ s0 s1) Q
def wp_X6_saveState (v : V_X6) (Q : (Nat → V_X0) → Int32 → (Nat → Nat) → Prop) : Prop :=
  (((X6_savedCount v) < 6 → wp_X6_saveState_56 v (X6_savedCount v) (X6_savedR v)  Q) ∧
  (¬ (X6_savedCount v) < 6 → vp_in 0 6 ∧ ((X6_savedR v) (0 : Int32).toNatClampNeg) < 6 ∧ wp_X6_saveState_18 v ((X6_savedR v) (0 : Int32).toNatClampNeg) 1 (X6_savedR v) Q))
def wp_X6_numberOfTuft (v : V_X6) (x1 : Int32) (x2 : Int32) (Q : Int32 → Prop) : Prop :=
  ((x2 = 0 → vp_in x1 64 ∧ ((((X0_mounds (X6_lawn v)) x1.toNatClampNeg) = 0 → Q 0) ∧
  (¬ ((X0_mounds (X6_lawn v)) x1.toNatClampNeg) = 0 → Q 1))) ∧
  (¬ x2 = 0 → ((x2 = 1 → vp_in x1 64 ∧ Q ((X0_roots (X6_lawn v)) x1.toNatClampNeg)) ∧
  (¬ x2 = 1 → ((x2 = 2 → vp_in x1 64 ∧ Q ((X0_traps (X6_lawn v)) x1.toNatClampNeg)) ∧
  (¬ x2 = 2 → ((x2 = 3 → vp_in x1 64 ∧ Q ((X4_hollow (X6_survey v)) x1.toNatClampNeg)) ∧
  (¬ x2 = 3 → ((x2 = 4 → wp_X4_countBeside 64 (X4_hollow (X6_survey v)) x1 1 (fun r109 =>
  Q r109)) ∧
  (¬ x2 = 4 → ((x2 = 5 → vp_in x1 64 ∧ ((((X0_opened (X6_lawn v)) x1.toNatClampNeg) = 0 → Q 0) ∧
  (¬ ((X0_opened (X6_lawn v)) x1.toNatClampNeg) = 0 → Q 1))) ∧
  (¬ x2 = 5 → ((x2 = 6 → vp_in x1 64 ∧ Q ((X4_sure (X6_survey v)) x1.toNatClampNeg)) ∧
  (¬ x2 = 6 → ((x2 = 7 → vp_in x1 64 ∧ Q ((X4_crossings (X6_survey v)) x1.toNatClampNeg)) ∧
  (¬ x2 = 7 → wp_X0_molesAt (X6_lawn v) x1 (fun r156 =>
  Q r156)))))))))))))))))
def wp_X6_numberOfAll (v : V_X6) (x1 : Int32) (Q : Int32 → V_X2 → Prop) : Prop :=
  ((x1 = 0 → Q (X0_beats (X6_lawn v)) (X6_paths v)) ∧
  (¬ x1 = 0 → ((x1 = 1 → Q (X0_moleCount (X6_lawn v)) (X6_paths v)) ∧
  (¬ x1 = 1 → ((x1 = 2 → Q (X0_caught (X6_lawn v)) (X6_paths v)) ∧
  (¬ x1 = 2 → ((x1 = 3 → wp_X0_moundCount (X6_lawn v) (fun r100 =>
  Q r100 (X6_paths v))) ∧
  (¬ x1 = 3 → ((x1 = 4 → Q (X3_size (X0_tunnels (X6_lawn v))) (X6_paths v)) ∧
  (¬ x1 = 4 → ((x1 = 5 → wp_X4_hollowCount (X6_survey v) (fun r119 =>
  Q r119 (X6_paths v))) ∧
  (¬ x1 = 5 → ((x1 = 6 → wp_X0_openedCount (X6_lawn v) (fun r127 =>
  Q r127 (X6_paths v))) ∧
  (¬ x1 = 6 → ((x1 = 7 → wp_X0_trapCount (X6_lawn v) (fun r135 =>
  Q r135 (X6_paths v))) ∧
  (¬ x1 = 7 → ((x1 = 8 → wp_X0_rootCount (X6_lawn v) (fun r143 =>
  Q r143 (X6_paths v))) ∧
  (¬ x1 = 8 → ((x1 = 9 → Q (X0_gnawed (X6_lawn v)) (X6_paths v)) ∧
  (¬ x1 = 9 → ((x1 = 10 → Q (X0_risen (X6_lawn v)) (X6_paths v)) ∧
  (¬ x1 = 10 → ((x1 = 11 → Q (X0_fallen (X6_lawn v)) (X6_paths v)) ∧
  (¬ x1 = 11 → ((x1 = 12 → wp_X2_groupCount (X6_paths v) (X6_lawn v) (fun r179 z179_v_group =>
  Q r179 (X2_s1 (X6_paths v) z179_v_group))) ∧
  (¬ x1 = 12 → ((x1 = 13 → Q (X0_fullAir (X6_lawn v)) (X6_paths v)) ∧
  (¬ x1 = 13 → Q (X6_savedCount v) (X6_paths v)))))))))))))))))))))))))))))
def wb_X6_mostCrossed_6 (v : V_X6)  (y6_1 : Int32) (y6_2 : Int32) (y6_3 : Int32) (B6 : Int32 → Int32 → Int32 → Prop) (Q : Int32 → Prop) : Prop :=
  ((64 ≤ y6_3 → Q y6_1) ∧
  (¬ 64 ≤ y6_3 → vp_in y6_3 64 ∧ ((((X0_opened (X6_lawn v)) y6_3.toNatClampNeg) = 0 → ((((X4_crossings (X6_survey v)) y6_3.toNatClampNeg) ≤ y6_2 → B6 y6_1 y6_2 (y6_3 + 1)) ∧
  (¬ ((X4_crossings (X6_survey v)) y6_3.toNatClampNeg) ≤ y6_2 → B6 y6_3 ((X4_crossings (X6_survey v)) y6_3.toNatClampNeg) (y6_3 + 1)))) ∧
  (¬ ((X0_opened (X6_lawn v)) y6_3.toNatClampNeg) = 0 → B6 y6_1 y6_2 (y6_3 + 1)))))
def wp_X6_mostCrossed_6 (v : V_X6)  (y6_1 : Int32) (y6_2 : Int32) (y6_3 : Int32) (Q : Int32 → Prop) : Prop :=
  ∃ (I : Int32 → Int32 → Int32 → Prop) (μ : Int32 → Int32 → Int32 → Nat), I y6_1 y6_2 y6_3 ∧ ∀ (s0 : Int32) (s1 : Int32) (s2 : Int32), I s0 s1 s2 → wb_X6_mostCrossed_6 v  s0 s1 s2 (fun t0 t1 t2 => I t0 t1 t2 ∧ μ t0 t1 t2 < μ s0 s1 s2) Q
def wp_X6_mostCrossed (v : V_X6) (Q : Int32 → Prop) : Prop :=
  wp_X6_mostCrossed_6 v  (-1) 0 0 Q
def wb_X6_tryBeats_13 (v : V_X6) (x1 : Int32)  (y13_2 : Int32) (z13_v_spareR : V_X3) (z13_v_trial : V_X0) (B13 : Int32 → V_X3 → V_X0 → Prop) (Q : V_X3 → V_X0 → Prop) : Prop :=
  ((x1 ≤ y13_2 → Q z13_v_spareR z13_v_trial) ∧
  (¬ x1 ≤ y13_2 → wp_X0_beat z13_v_trial z13_v_spareR (fun z22_u_cells z22_u_ends z22_u_size z22_u_used z22_v_beats z22_v_caught z22_v_gnawed z22_v_moleCount z22_v_moles z22_v_molesR z22_v_mounds z22_v_risen z22_v_roots z22_v_traps z22_v_tunnels =>
  B13 (y13_2 + 1) (z22_u_cells, z22_u_ends, z22_u_used, z22_u_size) (z22_v_mounds, (X0_opened z13_v_trial), z22_v_roots, z22_v_traps, z22_v_tunnels, z22_v_molesR, z22_v_moles, z22_v_moleCount, (X0_fullAir z13_v_trial), z22_v_beats, z22_v_caught, z22_v_gnawed, z22_v_risen, (X0_fallen z13_v_trial)))))
def wp_X6_tryBeats_13 (v : V_X6) (x1 : Int32)  (y13_2 : Int32) (z13_v_spareR : V_X3) (z13_v_trial : V_X0) (Q : V_X3 → V_X0 → Prop) : Prop :=
  ∃ (I : Int32 → V_X3 → V_X0 → Prop) (μ : Int32 → V_X3 → V_X0 → Nat), I y13_2 z13_v_spareR z13_v_trial ∧ ∀ (s0 : Int32) (s1 : V_X3) (s2 : V_X0), I s0 s1 s2 → wb_X6_tryBeats_13 v x1  s0 s1 s2 (fun t0 t1 t2 => I t0 t1 t2 ∧ μ t0 t1 t2 < μ s0 s1 s2) Q
def wp_X6_tryBeats (v : V_X6) (x1 : Int32) (Q : V_X3 → V_X0 → Prop) : Prop :=
  wp_X0_copyFrom (X6_trial v) (X6_lawn v) (fun z8_v_beats z8_v_caught z8_v_fallen z8_v_fullAir z8_v_gnawed z8_v_moleCount z8_v_moles z8_v_mounds z8_v_opened z8_v_risen z8_v_roots z8_v_traps z8_v_tunnels =>
  wp_X6_tryBeats_13 v x1  0 (X6_spareR v) (z8_v_mounds, z8_v_opened, z8_v_roots, z8_v_traps, z8_v_tunnels, (X0_molesR (X6_trial v)), z8_v_moles, z8_v_moleCount, z8_v_fullAir, z8_v_beats, z8_v_caught, z8_v_gnawed, z8_v_risen, z8_v_fallen) Q)
def wp_X6_numberOfTrial (v : V_X6) (x1 : Int32) (Q : Int32 → Prop) : Prop :=
  ((x1 = 0 → Q ((X0_risen (X6_trial v)) - (X0_risen (X6_lawn v)))) ∧
  (¬ x1 = 0 → ((x1 = 1 → Q (X3_size (X0_tunnels (X6_trial v)))) ∧
  (¬ x1 = 1 → Q ((X0_caught (X6_trial v)) - (X0_caught (X6_lawn v)))))))
def wb_X6_beatsToMound_13 (v : V_X6)  (y13_1 : Int32) (z13_v_spareR : V_X3) (z13_v_trial : V_X0) (B13 : Int32 → V_X3 → V_X0 → Prop) (Q : Int32 → V_X3 → V_X0 → Prop) : Prop :=
  ((100 < y13_1 → Q (-1) z13_v_spareR z13_v_trial) ∧
  (¬ 100 < y13_1 → wp_X0_hasPlans z13_v_trial (fun r23 =>
  ((r23 = 0 → Q (-1) z13_v_spareR z13_v_trial) ∧
  (¬ r23 = 0 → wp_X0_beat z13_v_trial z13_v_spareR (fun z33_u_cells z33_u_ends z33_u_size z33_u_used z33_v_beats z33_v_caught z33_v_gnawed z33_v_moleCount z33_v_moles z33_v_molesR z33_v_mounds z33_v_risen z33_v_roots z33_v_traps z33_v_tunnels =>
  ((z33_v_risen ≤ (X0_risen (X6_lawn v)) → B13 (y13_1 + 1) (z33_u_cells, z33_u_ends, z33_u_used, z33_u_size) (z33_v_mounds, (X0_opened z13_v_trial), z33_v_roots, z33_v_traps, z33_v_tunnels, z33_v_molesR, z33_v_moles, z33_v_moleCount, (X0_fullAir z13_v_trial), z33_v_beats, z33_v_caught, z33_v_gnawed, z33_v_risen, (X0_fallen z13_v_trial))) ∧
  (¬ z33_v_risen ≤ (X0_risen (X6_lawn v)) → Q y13_1 (z33_u_cells, z33_u_ends, z33_u_used, z33_u_size) (z33_v_mounds, (X0_opened z13_v_trial), z33_v_roots, z33_v_traps, z33_v_tunnels, z33_v_molesR, z33_v_moles, z33_v_moleCount, (X0_fullAir z13_v_trial), z33_v_beats, z33_v_caught, z33_v_gnawed, z33_v_risen, (X0_fallen z13_v_trial))))))))))
def wp_X6_beatsToMound_13 (v : V_X6)  (y13_1 : Int32) (z13_v_spareR : V_X3) (z13_v_trial : V_X0) (Q : Int32 → V_X3 → V_X0 → Prop) : Prop :=
  ∃ (I : Int32 → V_X3 → V_X0 → Prop) (μ : Int32 → V_X3 → V_X0 → Nat), I y13_1 z13_v_spareR z13_v_trial ∧ ∀ (s0 : Int32) (s1 : V_X3) (s2 : V_X0), I s0 s1 s2 → wb_X6_beatsToMound_13 v  s0 s1 s2 (fun t0 t1 t2 => I t0 t1 t2 ∧ μ t0 t1 t2 < μ s0 s1 s2) Q
def wp_X6_beatsToMound (v : V_X6) (Q : Int32 → V_X3 → V_X0 → Prop) : Prop :=
  wp_X0_copyFrom (X6_trial v) (X6_lawn v) (fun z8_v_beats z8_v_caught z8_v_fallen z8_v_fullAir z8_v_gnawed z8_v_moleCount z8_v_moles z8_v_mounds z8_v_opened z8_v_risen z8_v_roots z8_v_traps z8_v_tunnels =>
  wp_X6_beatsToMound_13 v  1 (X6_spareR v) (z8_v_mounds, z8_v_opened, z8_v_roots, z8_v_traps, z8_v_tunnels, (X0_molesR (X6_trial v)), z8_v_moles, z8_v_moleCount, z8_v_fullAir, z8_v_beats, z8_v_caught, z8_v_gnawed, z8_v_risen, z8_v_fallen) Q)
def wb_X6_hashTufts_15 (v : V_X6) (x1 : Int64) (y5_3 : Int64) (y5_5 : Int32) (B5 : Int64 → Int32 → Prop)  (y15_3 : Int64) (y15_6 : Int32) (B15 : Int64 → Int32 → Prop) (Q : Int64 → Prop) : Prop :=
  ((8 < y15_6 → B5 y15_3 (y5_5 + 1)) ∧
  (¬ 8 < y15_6 → wp_X6_numberOfTuft v y5_5 y15_6 (fun r32 =>
  B15 ((31 * y15_3) + (r32.toInt64)) (y15_6 + 1))))
def wp_X6_hashTufts_15 (v : V_X6) (x1 : Int64) (y5_3 : Int64) (y5_5 : Int32) (B5 : Int64 → Int32 → Prop)  (y15_3 : Int64) (y15_6 : Int32) (Q : Int64 → Prop) : Prop :=
  ∃ (I : Int64 → Int32 → Prop) (μ : Int64 → Int32 → Nat), I y15_3 y15_6 ∧ ∀ (s0 : Int64) (s1 : Int32), I s0 s1 → wb_X6_hashTufts_15 v x1 y5_3 y5_5 B5  s0 s1 (fun t0 t1 => I t0 t1 ∧ μ t0 t1 < μ s0 s1) Q
def wb_X6_hashTufts_5 (v : V_X6) (x1 : Int64)  (y5_3 : Int64) (y5_5 : Int32) (B5 : Int64 → Int32 → Prop) (Q : Int64 → Prop) : Prop :=
  ((64 ≤ y5_5 → Q y5_3) ∧
  (¬ 64 ≤ y5_5 → wp_X6_hashTufts_15 v x1 y5_3 y5_5 B5  y5_3 0 Q))
def wp_X6_hashTufts_5 (v : V_X6) (x1 : Int64)  (y5_3 : Int64) (y5_5 : Int32) (Q : Int64 → Prop) : Prop :=
  ∃ (I : Int64 → Int32 → Prop) (μ : Int64 → Int32 → Nat), I y5_3 y5_5 ∧ ∀ (s0 : Int64) (s1 : Int32), I s0 s1 → wb_X6_hashTufts_5 v x1  s0 s1 (fun t0 t1 => I t0 t1 ∧ μ t0 t1 < μ s0 s1) Q
def wp_X6_hashTufts (v : V_X6) (x1 : Int64) (Q : Int64 → Prop) : Prop :=
  wp_X6_hashTufts_5 v x1  x1 0 Q
def wb_X6_hashMoles_20 (v : V_X6) (x1 : Int64) (y5_3 : Int64) (y5_5 : Int32) (B5 : Int64 → Int32 → Prop)  (y20_3 : Int64) (y20_6 : Int32) (B20 : Int64 → Int32 → Prop) (Q : Int64 → Prop) : Prop :=
  ((6 < y20_6 → B5 y20_3 (y5_5 + 1)) ∧
  (¬ 6 < y20_6 → vp_in y5_5 4 ∧ ((X0_molesR (X6_lawn v)) y5_5.toNatClampNeg) < 4 ∧ wp_X1_number ((X0_moles (X6_lawn v)) ((X0_molesR (X6_lawn v)) y5_5.toNatClampNeg)) y20_6 (fun r44 =>
  B20 ((31 * y20_3) + (r44.toInt64)) (y20_6 + 1))))
def wp_X6_hashMoles_20 (v : V_X6) (x1 : Int64) (y5_3 : Int64) (y5_5 : Int32) (B5 : Int64 → Int32 → Prop)  (y20_3 : Int64) (y20_6 : Int32) (Q : Int64 → Prop) : Prop :=
  ∃ (I : Int64 → Int32 → Prop) (μ : Int64 → Int32 → Nat), I y20_3 y20_6 ∧ ∀ (s0 : Int64) (s1 : Int32), I s0 s1 → wb_X6_hashMoles_20 v x1 y5_3 y5_5 B5  s0 s1 (fun t0 t1 => I t0 t1 ∧ μ t0 t1 < μ s0 s1) Q
def wb_X6_hashMoles_5 (v : V_X6) (x1 : Int64)  (y5_3 : Int64) (y5_5 : Int32) (B5 : Int64 → Int32 → Prop) (Q : Int64 → Prop) : Prop :=
  (((X0_moleCount (X6_lawn v)) ≤ y5_5 → Q y5_3) ∧
  (¬ (X0_moleCount (X6_lawn v)) ≤ y5_5 → wp_X6_hashMoles_20 v x1 y5_3 y5_5 B5  y5_3 0 Q))
def wp_X6_hashMoles_5 (v : V_X6) (x1 : Int64)  (y5_3 : Int64) (y5_5 : Int32) (Q : Int64 → Prop) : Prop :=
  ∃ (I : Int64 → Int32 → Prop) (μ : Int64 → Int32 → Nat), I y5_3 y5_5 ∧ ∀ (s0 : Int64) (s1 : Int32), I s0 s1 → wb_X6_hashMoles_5 v x1  s0 s1 (fun t0 t1 => I t0 t1 ∧ μ t0 t1 < μ s0 s1) Q
def wp_X6_hashMoles (v : V_X6) (x1 : Int64) (Q : Int64 → Prop) : Prop :=
  wp_X6_hashMoles_5 v x1  x1 0 Q
def wb_X6_hashTunnels_69 (v : V_X6) (x1 : Int64) (y14_3 : Int64) (y14_6 : Int32) (B14 : Int64 → Int32 → Prop) (y69_7 : Int32) (y69_3 : Int64) (y69_8 : Int32) (B69 : Int64 → Int32 → Prop) (Q : Int64 → Prop) : Prop :=
  ((y69_7 ≤ y69_8 → B14 y69_3 (y14_6 + 1)) ∧
  (¬ y69_7 ≤ y69_8 → wp_X3_at (X0_tunnels (X6_lawn v)) y14_6 y69_8 (fun r87 =>
  B69 ((31 * y69_3) + (r87.toInt64)) (y69_8 + 1))))
def wp_X6_hashTunnels_69 (v : V_X6) (x1 : Int64) (y14_3 : Int64) (y14_6 : Int32) (B14 : Int64 → Int32 → Prop) (y69_7 : Int32) (y69_3 : Int64) (y69_8 : Int32) (Q : Int64 → Prop) : Prop :=
  ∃ (I : Int64 → Int32 → Prop) (μ : Int64 → Int32 → Nat), I y69_3 y69_8 ∧ ∀ (s0 : Int64) (s1 : Int32), I s0 s1 → wb_X6_hashTunnels_69 v x1 y14_3 y14_6 B14 y69_7 s0 s1 (fun t0 t1 => I t0 t1 ∧ μ t0 t1 < μ s0 s1) Q
def wb_X6_hashTunnels_27 (v : V_X6) (x1 : Int64) (y14_3 : Int64) (y14_6 : Int32) (B14 : Int64 → Int32 → Prop)  (y27_3 : Int64) (y27_7 : Int32) (B27 : Int64 → Int32 → Prop) (Q : Int64 → Prop) : Prop :=
  ((2 < y27_7 → wp_X3_number (X0_tunnels (X6_lawn v)) y14_6 2 (fun r61 =>
  wp_X6_hashTunnels_69 v x1 y14_3 y14_6 B14 r61 y27_3 0 Q)) ∧
  (¬ 2 < y27_7 → wp_X3_number (X0_tunnels (X6_lawn v)) y14_6 y27_7 (fun r44 =>
  B27 ((31 * y27_3) + (r44.toInt64)) (y27_7 + 1))))
def wp_X6_hashTunnels_27 (v : V_X6) (x1 : Int64) (y14_3 : Int64) (y14_6 : Int32) (B14 : Int64 → Int32 → Prop)  (y27_3 : Int64) (y27_7 : Int32) (Q : Int64 → Prop) : Prop :=
  ∃ (I : Int64 → Int32 → Prop) (μ : Int64 → Int32 → Nat), I y27_3 y27_7 ∧ ∀ (s0 : Int64) (s1 : Int32), I s0 s1 → wb_X6_hashTunnels_27 v x1 y14_3 y14_6 B14  s0 s1 (fun t0 t1 => I t0 t1 ∧ μ t0 t1 < μ s0 s1) Q
def wb_X6_hashTunnels_14 (v : V_X6) (x1 : Int64)  (y14_3 : Int64) (y14_6 : Int32) (B14 : Int64 → Int32 → Prop) (Q : Int64 → Prop) : Prop :=
  (((X3_size (X0_tunnels (X6_lawn v))) ≤ y14_6 → Q y14_3) ∧
  (¬ (X3_size (X0_tunnels (X6_lawn v))) ≤ y14_6 → wp_X6_hashTunnels_27 v x1 y14_3 y14_6 B14  y14_3 0 Q))
def wp_X6_hashTunnels_14 (v : V_X6) (x1 : Int64)  (y14_3 : Int64) (y14_6 : Int32) (Q : Int64 → Prop) : Prop :=
  ∃ (I : Int64 → Int32 → Prop) (μ : Int64 → Int32 → Nat), I y14_3 y14_6 ∧ ∀ (s0 : Int64) (s1 : Int32), I s0 s1 → wb_X6_hashTunnels_14 v x1  s0 s1 (fun t0 t1 => I t0 t1 ∧ μ t0 t1 < μ s0 s1) Q
def wp_X6_hashTunnels (v : V_X6) (x1 : Int64) (Q : Int64 → Prop) : Prop :=
  wp_X6_hashTunnels_14 v x1  x1 0 Q
def wb_X6_hashPaths_35 (v : V_X6) (x1 : Int64) (z35_v_paths : V_X2) (y35_3 : Int64) (y35_6 : Int32) (B35 : Int64 → Int32 → Prop) (Q : Int64 → V_X2 → Prop) : Prop :=
  ((64 ≤ y35_6 → Q y35_3 z35_v_paths) ∧
  (¬ 64 ≤ y35_6 → vp_in y35_6 64 ∧ ((((X0_mounds (X6_lawn v)) y35_6.toNatClampNeg) = 0 → B35 y35_3 (y35_6 + 1)) ∧
  (¬ ((X0_mounds (X6_lawn v)) y35_6.toNatClampNeg) = 0 → B35 ((31 * y35_3) + (((X2_distance z35_v_paths) y35_6.toNatClampNeg).toInt64)) (y35_6 + 1)))))
def wp_X6_hashPaths_35 (v : V_X6) (x1 : Int64) (z35_v_paths : V_X2) (y35_3 : Int64) (y35_6 : Int32) (Q : Int64 → V_X2 → Prop) : Prop :=
  ∃ (I : Int64 → Int32 → Prop) (μ : Int64 → Int32 → Nat), I y35_3 y35_6 ∧ ∀ (s0 : Int64) (s1 : Int32), I s0 s1 → wb_X6_hashPaths_35 v x1 z35_v_paths s0 s1 (fun t0 t1 => I t0 t1 ∧ μ t0 t1 < μ s0 s1) Q
def wp_X6_hashPaths (v : V_X6) (x1 : Int64) (Q : Int64 → V_X2 → Prop) : Prop :=
  wp_X0_lowestMound (X6_lawn v) (fun r6 =>
  ((r6 = (-1) → Q x1 (X6_paths v)) ∧
  (¬ r6 = (-1) → wp_X2_measure (X6_paths v) (X6_lawn v) r6 (fun z29_v_distance =>
  wp_X6_hashPaths_35 v x1 (X2_s0 (X6_paths v) z29_v_distance) x1 0 Q))))
def wb_X6_hashDigging_5 (v : V_X6) (x1 : Int64)  (y5_3 : Int64) (y5_5 : Int32) (B5 : Int64 → Int32 → Prop) (Q : Int64 → Prop) : Prop :=
  ((64 ≤ y5_5 → wp_X6_mostCrossed v (fun r42 =>
  Q ((31 * y5_3) + (r42.toInt64)))) ∧
  (¬ 64 ≤ y5_5 → vp_in y5_5 64 ∧ B5 ((31 * y5_3) + (((X4_crossings (X6_survey v)) y5_5.toNatClampNeg).toInt64)) (y5_5 + 1)))
def wp_X6_hashDigging_5 (v : V_X6) (x1 : Int64)  (y5_3 : Int64) (y5_5 : Int32) (Q : Int64 → Prop) : Prop :=
  ∃ (I : Int64 → Int32 → Prop) (μ : Int64 → Int32 → Nat), I y5_3 y5_5 ∧ ∀ (s0 : Int64) (s1 : Int32), I s0 s1 → wb_X6_hashDigging_5 v x1  s0 s1 (fun t0 t1 => I t0 t1 ∧ μ t0 t1 < μ s0 s1) Q
def wp_X6_hashDigging (v : V_X6) (x1 : Int64) (Q : Int64 → Prop) : Prop :=
  wp_X6_hashDigging_5 v x1  x1 0 Q
def wp_X6_bitsOfShare_28 (x0 : Int32) (y28_1 : Int32) (Q : Int64 → Prop) : Prop :=
  Q (((((1023 + y28_1) - 6).toInt64) <<< ((52 : Int32).toInt64 &&& 63)) ||| (((x0.toInt64) - ((1 : Int64) <<< (y28_1.toInt64 &&& 63))) <<< ((52 - y28_1).toInt64 &&& 63)))
def wb_X6_bitsOfShare_8 (x0 : Int32)  (y8_1 : Int32) (B8 : Int32 → Prop) (Q : Int64 → Prop) : Prop :=
  ((30 ≤ y8_1 → wp_X6_bitsOfShare_28 x0 y8_1  Q) ∧
  (¬ 30 ≤ y8_1 → (((x0 >>> ((y8_1 + 1) &&& 31)) = 0 → wp_X6_bitsOfShare_28 x0 y8_1  Q) ∧
  (¬ (x0 >>> ((y8_1 + 1) &&& 31)) = 0 → B8 (y8_1 + 1)))))
def wp_X6_bitsOfShare_8 (x0 : Int32)  (y8_1 : Int32) (Q : Int64 → Prop) : Prop :=
  ∃ (I : Int32 → Prop) (μ : Int32 → Nat), I y8_1 ∧ ∀ (s0 : Int32), I s0 → wb_X6_bitsOfShare_8 x0  s0 (fun t0 => I t0 ∧ μ t0 < μ s0) Q
def wp_X6_bitsOfShare (x0 : Int32) (Q : Int64 → Prop) : Prop :=
  ((0 < x0 → wp_X6_bitsOfShare_8 x0  0 Q) ∧
  (¬ 0 < x0 → Q 0))
def wp_X6_firstError (v : V_X6) (Q : Int32 → Prop) : Prop :=
  wp_X5_firstFault (X6_text v) (fun r4 =>
  Q r4)
def wp_X6_clearBuffer (v : V_X6) (Q : Int32 → V_X5 → Prop) : Prop :=
  Q (X5_length (X6_text v)) (X5_s1 (X6_text v) 0)
def wp_X6_keep (v : V_X6) (Q : Int32 → V_X0 → Int32 → Prop) : Prop :=
  wp_X0_copyFrom (X6_snapshot v) (X6_lawn v) (fun z8_v_beats z8_v_caught z8_v_fallen z8_v_fullAir z8_v_gnawed z8_v_moleCount z8_v_moles z8_v_mounds z8_v_opened z8_v_risen z8_v_roots z8_v_traps z8_v_tunnels =>
  Q (X3_size (X0_tunnels (X6_lawn v))) (z8_v_mounds, z8_v_opened, z8_v_roots, z8_v_traps, z8_v_tunnels, (X0_molesR (X6_snapshot v)), z8_v_moles, z8_v_moleCount, z8_v_fullAir, z8_v_beats, z8_v_caught, z8_v_gnawed, z8_v_risen, z8_v_fallen) 1)
def wp_X6_bestDig (v : V_X6) (Q : Int32 → V_X4 → Prop) : Prop :=
  wp_X4_read (X6_survey v) (X6_lawn v) (fun z8_v_crossings z8_v_hollow z8_v_seenBy z8_v_sure =>
  wp_X6_mostCrossed (X6_s6 v (z8_v_hollow, z8_v_crossings, z8_v_sure, z8_v_seenBy)) (fun r12 =>
  Q r12 (z8_v_hollow, z8_v_crossings, z8_v_sure, z8_v_seenBy)))
def wp_X6_nextMound (v : V_X6) (Q : Int32 → V_X3 → V_X0 → Prop) : Prop :=
  wp_X6_beatsToMound v (fun r1 z1_v_spareR z1_v_trial =>
  Q r1 z1_v_spareR z1_v_trial)
def wp_X6_hollowShare (v : V_X6) (Q : UInt64 → V_X4 → Prop) : Prop :=
  wp_X4_read (X6_survey v) (X6_lawn v) (fun z8_v_crossings z8_v_hollow z8_v_seenBy z8_v_sure =>
  wp_X4_hollowCount (z8_v_hollow, z8_v_crossings, z8_v_sure, z8_v_seenBy) (fun r15 =>
  vf_n64 (FP.ddiv (FP.i2d r15) 4634204016564240384) ∧ Q (FP.ddiv (FP.i2d r15) 4634204016564240384) (z8_v_hollow, z8_v_crossings, z8_v_sure, z8_v_seenBy)))
def wb_X6_digest_149 (v : V_X6) (z149_v_paths : V_X2) (z149_v_spareR : V_X3) (z149_v_survey : V_X4) (z149_v_trial : V_X0) (y149_1 : Int64) (y149_3 : Int32) (B149 : Int64 → Int32 → Prop) (Q : Int64 → V_X2 → V_X3 → V_X4 → V_X0 → Prop) : Prop :=
  (((X5_length (X6_text v)) ≤ y149_3 → Q y149_1 z149_v_paths z149_v_spareR z149_v_survey z149_v_trial) ∧
  (¬ (X5_length (X6_text v)) ≤ y149_3 → vp_in y149_3 60 ∧ B149 ((31 * y149_1) + (((X5_codes (X6_text v)) y149_3.toNatClampNeg).toInt64)) (y149_3 + 1)))
def wp_X6_digest_149 (v : V_X6) (z149_v_paths : V_X2) (z149_v_spareR : V_X3) (z149_v_survey : V_X4) (z149_v_trial : V_X0) (y149_1 : Int64) (y149_3 : Int32) (Q : Int64 → V_X2 → V_X3 → V_X4 → V_X0 → Prop) : Prop :=
  ∃ (I : Int64 → Int32 → Prop) (μ : Int64 → Int32 → Nat), I y149_1 y149_3 ∧ ∀ (s0 : Int64) (s1 : Int32), I s0 s1 → wb_X6_digest_149 v z149_v_paths z149_v_spareR z149_v_survey z149_v_trial s0 s1 (fun t0 t1 => I t0 t1 ∧ μ t0 t1 < μ s0 s1) Q
def wb_X6_digest_79 (v : V_X6) (z79_v_paths : V_X2) (z79_v_spareR : V_X3) (z79_v_survey : V_X4) (z79_v_trial : V_X0) (y79_1 : Int64) (y79_3 : Int32) (B79 : Int64 → Int32 → Prop) (Q : Int64 → V_X2 → V_X3 → V_X4 → V_X0 → Prop) : Prop :=
  ((2 < y79_3 → wp_X6_beatsToMound ((X6_lawn v), (X6_snapshot v), z79_v_trial, (X6_savedR v), (X6_saved v), (X6_text v), z79_v_survey, z79_v_paths, (X6_snapshotTaken v), (X6_savedCount v), z79_v_spareR) (fun r109 z109_v_spareR z109_v_trial =>
  wp_X4_hollowCount z79_v_survey (fun r124 =>
  wp_X6_bitsOfShare r124 (fun r127 =>
  wp_X6_digest_149 v z79_v_paths z109_v_spareR z79_v_survey z109_v_trial ((31 * ((31 * ((31 * y79_1) + (r109.toInt64))) + r127)) + ((X5_length (X6_text v)).toInt64)) 0 Q)))) ∧
  (¬ 2 < y79_3 → wp_X6_numberOfTrial ((X6_lawn v), (X6_snapshot v), z79_v_trial, (X6_savedR v), (X6_saved v), (X6_text v), z79_v_survey, z79_v_paths, (X6_snapshotTaken v), (X6_savedCount v), z79_v_spareR) y79_3 (fun r91 =>
  B79 ((31 * y79_1) + (r91.toInt64)) (y79_3 + 1))))
def wp_X6_digest_79 (v : V_X6) (z79_v_paths : V_X2) (z79_v_spareR : V_X3) (z79_v_survey : V_X4) (z79_v_trial : V_X0) (y79_1 : Int64) (y79_3 : Int32) (Q : Int64 → V_X2 → V_X3 → V_X4 → V_X0 → Prop) : Prop :=
  ∃ (I : Int64 → Int32 → Prop) (μ : Int64 → Int32 → Nat), I y79_1 y79_3 ∧ ∀ (s0 : Int64) (s1 : Int32), I s0 s1 → wb_X6_digest_79 v z79_v_paths z79_v_spareR z79_v_survey z79_v_trial s0 s1 (fun t0 t1 => I t0 t1 ∧ μ t0 t1 < μ s0 s1) Q
def wb_X6_digest_17 (v : V_X6) (z17_v_survey : V_X4) (y17_1 : Int64) (y17_3 : Int32) (z17_v_paths : V_X2) (B17 : Int64 → Int32 → V_X2 → Prop) (Q : Int64 → V_X2 → V_X3 → V_X4 → V_X0 → Prop) : Prop :=
  ((14 < y17_3 → wp_X6_hashTufts (X6_s7 (X6_s6 v z17_v_survey) z17_v_paths) y17_1 (fun r44 =>
  wp_X6_hashMoles (X6_s7 (X6_s6 v z17_v_survey) z17_v_paths) r44 (fun r50 =>
  wp_X6_hashTunnels (X6_s7 (X6_s6 v z17_v_survey) z17_v_paths) r50 (fun r56 =>
  wp_X6_hashPaths (X6_s7 (X6_s6 v z17_v_survey) z17_v_paths) r56 (fun r62 z62_v_paths =>
  wp_X6_hashDigging (X6_s7 (X6_s6 v z17_v_survey) z62_v_paths) r62 (fun r68 =>
  wp_X6_tryBeats (X6_s7 (X6_s6 v z17_v_survey) z62_v_paths) 5 (fun z74_v_spareR z74_v_trial =>
  wp_X6_digest_79 v z62_v_paths z74_v_spareR z17_v_survey z74_v_trial r68 0 Q))))))) ∧
  (¬ 14 < y17_3 → wp_X6_numberOfAll (X6_s7 (X6_s6 v z17_v_survey) z17_v_paths) y17_3 (fun r30 z30_v_paths =>
  B17 ((31 * y17_1) + (r30.toInt64)) (y17_3 + 1) z30_v_paths)))
def wp_X6_digest_17 (v : V_X6) (z17_v_survey : V_X4) (y17_1 : Int64) (y17_3 : Int32) (z17_v_paths : V_X2) (Q : Int64 → V_X2 → V_X3 → V_X4 → V_X0 → Prop) : Prop :=
  ∃ (I : Int64 → Int32 → V_X2 → Prop) (μ : Int64 → Int32 → V_X2 → Nat), I y17_1 y17_3 z17_v_paths ∧ ∀ (s0 : Int64) (s1 : Int32) (s2 : V_X2), I s0 s1 s2 → wb_X6_digest_17 v z17_v_survey s0 s1 s2 (fun t0 t1 t2 => I t0 t1 t2 ∧ μ t0 t1 t2 < μ s0 s1 s2) Q
def wp_X6_digest (v : V_X6) (Q : Int64 → V_X2 → V_X3 → V_X4 → V_X0 → Prop) : Prop :=
  wp_X4_read (X6_survey v) (X6_lawn v) (fun z8_v_crossings z8_v_hollow z8_v_seenBy z8_v_sure =>
  wp_X6_digest_17 v (z8_v_hollow, z8_v_crossings, z8_v_sure, z8_v_seenBy) 3631 0 (X6_paths v) Q)
def wp_X6_checkTuft (v : V_X6) (x1 : Int32) (Q : Prop) (QX : String → Prop) : Prop :=
  ((x1 < 0 → QX "java/lang/IndexOutOfBoundsException") ∧
  (¬ x1 < 0 → ((x1 < 64 → Q) ∧
  (¬ x1 < 64 → QX "java/lang/IndexOutOfBoundsException"))))
def wp_X6_checkMole (v : V_X6) (x1 : Int32) (Q : Prop) (QX : String → Prop) : Prop :=
  ((x1 < 0 → QX "java/lang/IndexOutOfBoundsException") ∧
  (¬ x1 < 0 → ((x1 < (X0_moleCount (X6_lawn v)) → Q) ∧
  (¬ x1 < (X0_moleCount (X6_lawn v)) → QX "java/lang/IndexOutOfBoundsException"))))
def wp_X6_checkTunnel (v : V_X6) (x1 : Int32) (Q : Prop) (QX : String → Prop) : Prop :=
  ((x1 < 0 → QX "java/lang/IndexOutOfBoundsException") ∧
  (¬ x1 < 0 → ((x1 < (X3_size (X0_tunnels (X6_lawn v))) → Q) ∧
  (¬ x1 < (X3_size (X0_tunnels (X6_lawn v))) → QX "java/lang/IndexOutOfBoundsException"))))
def wp_X6_checkBeats (v : V_X6) (x1 : Int32) (Q : Prop) (QX : String → Prop) : Prop :=
  ((x1 < 1 → QX "java/lang/IllegalArgumentException") ∧
  (¬ x1 < 1 → ((x1 ≤ 30 → Q) ∧
  (¬ x1 ≤ 30 → QX "java/lang/IllegalArgumentException"))))
def wp_X6_checkWhat (v : V_X6) (x1 : Int32) (x2 : Int32) (Q : Prop) (QX : String → Prop) : Prop :=
  ((x1 < 0 → QX "java/lang/IllegalArgumentException") ∧
  (¬ x1 < 0 → ((x1 ≤ x2 → Q) ∧
  (¬ x1 ≤ x2 → QX "java/lang/IllegalArgumentException"))))
def wp_X6_mole (v : V_X6) (x1 : Int32) (Q : Int32 → V_X0 → (Nat → V_X0) → Int32 → (Nat → Nat) → V_X3 → Prop) (QX : String → Prop) : Prop :=
  wp_X6_checkTuft v x1 (((4 ≤ (X0_moleCount (X6_lawn v)) → QX "java/lang/IllegalStateException") ∧
  (¬ 4 ≤ (X0_moleCount (X6_lawn v)) → vp_in x1 64 ∧ ((((X0_roots (X6_lawn v)) x1.toNatClampNeg) ≤ 0 → wp_X6_saveState v (fun z39_v_saved z39_v_savedCount z39_v_savedR =>
  wp_X0_welcome (X6_lawn v) (X6_spareR v) x1 (fun r47 z47_u_cells z47_u_ends z47_u_size z47_u_used z47_v_moleCount z47_v_moles z47_v_mounds z47_v_risen z47_v_tunnels =>
  Q r47 (z47_v_mounds, (X0_opened (X6_lawn v)), (X0_roots (X6_lawn v)), (X0_traps (X6_lawn v)), z47_v_tunnels, (X0_molesR (X6_lawn v)), z47_v_moles, z47_v_moleCount, (X0_fullAir (X6_lawn v)), (X0_beats (X6_lawn v)), (X0_caught (X6_lawn v)), (X0_gnawed (X6_lawn v)), z47_v_risen, (X0_fallen (X6_lawn v))) z39_v_saved z39_v_savedCount z39_v_savedR (z47_u_cells, z47_u_ends, z47_u_used, z47_u_size)))) ∧
  (¬ ((X0_roots (X6_lawn v)) x1.toNatClampNeg) ≤ 0 → QX "java/lang/IllegalStateException"))))) QX
def wp_X6_plan (v : V_X6) (x1 : Int32) (x2 : Int32) (Q : Int32 → V_X0 → (Nat → V_X0) → Int32 → (Nat → Nat) → Prop) (QX : String → Prop) : Prop :=
  wp_X6_checkMole v x1 (((x2 < 0 → QX "java/lang/IllegalArgumentException") ∧
  (¬ x2 < 0 → ((x2 ≤ 3 → vp_in x1 4 ∧ ((X0_molesR (X6_lawn v)) x1.toNatClampNeg) < 4 ∧ (((X1_planned ((X0_moles (X6_lawn v)) ((X0_molesR (X6_lawn v)) x1.toNatClampNeg))) < 20 → wp_X6_saveState v (fun z52_v_saved z52_v_savedCount z52_v_savedR =>
  wp_X1_addDirection ((X0_moles (X6_lawn v)) ((X0_molesR (X6_lawn v)) x1.toNatClampNeg)) x2 (fun z65_v_directions z65_v_planned =>
  Q z65_v_planned (X0_s6 (X6_lawn v) (va_up (X0_moles (X6_lawn v)) ((X0_molesR (X6_lawn v)) x1.toNatClampNeg) (X1_s2 (X1_s0 ((X0_moles (X6_lawn v)) ((X0_molesR (X6_lawn v)) x1.toNatClampNeg)) z65_v_directions) z65_v_planned))) z52_v_saved z52_v_savedCount z52_v_savedR))) ∧
  (¬ (X1_planned ((X0_moles (X6_lawn v)) ((X0_molesR (X6_lawn v)) x1.toNatClampNeg))) < 20 → QX "java/lang/IllegalStateException"))) ∧
  (¬ x2 ≤ 3 → QX "java/lang/IllegalArgumentException"))))) QX
def wp_X6_rest (v : V_X6) (x1 : Int32) (Q : Int32 → V_X0 → (Nat → V_X0) → Int32 → (Nat → Nat) → Prop) (QX : String → Prop) : Prop :=
  wp_X6_checkMole v x1 (wp_X6_saveState v (fun z6_v_saved z6_v_savedCount z6_v_savedR =>
  vp_in x1 4 ∧ ((X0_molesR (X6_lawn v)) x1.toNatClampNeg) < 4 ∧ Q (X1_planned ((X0_moles (X6_lawn v)) ((X0_molesR (X6_lawn v)) x1.toNatClampNeg))) (X0_s6 (X6_lawn v) (va_up (X0_moles (X6_lawn v)) ((X0_molesR (X6_lawn v)) x1.toNatClampNeg) (X1_s2 ((X0_moles (X6_lawn v)) ((X0_molesR (X6_lawn v)) x1.toNatClampNeg)) 0))) z6_v_saved z6_v_savedCount z6_v_savedR)) QX
def wb_X6_pass_19 (v : V_X6) (x1 : Int32) (y19_2 : Int32) (z19_v_saved : (Nat → V_X0)) (z19_v_savedCount : Int32) (z19_v_savedR : (Nat → Nat)) (y19_3 : Int32) (z19_v_lawn : V_X0) (z19_v_spareR : V_X3) (B19 : Int32 → V_X0 → V_X3 → Prop) (Q : Int32 → V_X0 → (Nat → V_X0) → Int32 → (Nat → Nat) → V_X3 → Prop) (QX : String → Prop) : Prop :=
  ((x1 ≤ y19_3 → Q ((X0_risen z19_v_lawn) - y19_2) z19_v_lawn z19_v_saved z19_v_savedCount z19_v_savedR z19_v_spareR) ∧
  (¬ x1 ≤ y19_3 → wp_X0_beat z19_v_lawn z19_v_spareR (fun z28_u_cells z28_u_ends z28_u_size z28_u_used z28_v_beats z28_v_caught z28_v_gnawed z28_v_moleCount z28_v_moles z28_v_molesR z28_v_mounds z28_v_risen z28_v_roots z28_v_traps z28_v_tunnels =>
  B19 (y19_3 + 1) (z28_v_mounds, (X0_opened z19_v_lawn), z28_v_roots, z28_v_traps, z28_v_tunnels, z28_v_molesR, z28_v_moles, z28_v_moleCount, (X0_fullAir z19_v_lawn), z28_v_beats, z28_v_caught, z28_v_gnawed, z28_v_risen, (X0_fallen z19_v_lawn)) (z28_u_cells, z28_u_ends, z28_u_used, z28_u_size))))
def wp_X6_pass_19 (v : V_X6) (x1 : Int32) (y19_2 : Int32) (z19_v_saved : (Nat → V_X0)) (z19_v_savedCount : Int32) (z19_v_savedR : (Nat → Nat)) (y19_3 : Int32) (z19_v_lawn : V_X0) (z19_v_spareR : V_X3) (Q : Int32 → V_X0 → (Nat → V_X0) → Int32 → (Nat → Nat) → V_X3 → Prop) (QX : String → Prop) : Prop :=
  ∃ (I : Int32 → V_X0 → V_X3 → Prop) (μ : Int32 → V_X0 → V_X3 → Nat), I y19_3 z19_v_lawn z19_v_spareR ∧ ∀ (s0 : Int32) (s1 : V_X0) (s2 : V_X3), I s0 s1 s2 → wb_X6_pass_19 v x1 y19_2 z19_v_saved z19_v_savedCount z19_v_savedR s0 s1 s2 (fun t0 t1 t2 => I t0 t1 t2 ∧ μ t0 t1 t2 < μ s0 s1 s2) Q QX
def wp_X6_pass (v : V_X6) (x1 : Int32) (Q : Int32 → V_X0 → (Nat → V_X0) → Int32 → (Nat → Nat) → V_X3 → Prop) (QX : String → Prop) : Prop :=
  wp_X6_checkBeats v x1 (wp_X6_saveState v (fun z6_v_saved z6_v_savedCount z6_v_savedR =>
  wp_X6_pass_19 v x1 (X0_risen (X6_lawn v)) z6_v_saved z6_v_savedCount z6_v_savedR 0 (X6_lawn v) (X6_spareR v) Q QX)) QX
def wp_X6_root (v : V_X6) (x1 : Int32) (x2 : Int32) (Q : Int32 → V_X0 → (Nat → V_X0) → Int32 → (Nat → Nat) → Prop) (QX : String → Prop) : Prop :=
  wp_X6_checkTuft v x1 (((x2 < 0 → QX "java/lang/IllegalArgumentException") ∧
  (¬ x2 < 0 → ((x2 ≤ 9 → wp_X6_saveState v (fun z26_v_saved z26_v_savedCount z26_v_savedR =>
  vp_in x1 64 ∧ Q ((X0_roots (X6_lawn v)) x1.toNatClampNeg) (X0_s2 (X6_lawn v) (upd (X0_roots (X6_lawn v)) x1.toNatClampNeg x2)) z26_v_saved z26_v_savedCount z26_v_savedR)) ∧
  (¬ x2 ≤ 9 → QX "java/lang/IllegalArgumentException"))))) QX
def wp_X6_trap (v : V_X6) (x1 : Int32) (x2 : Int32) (Q : Int32 → V_X0 → (Nat → V_X0) → Int32 → (Nat → Nat) → Prop) (QX : String → Prop) : Prop :=
  wp_X6_checkTuft v x1 (((x2 < 0 → QX "java/lang/IllegalArgumentException") ∧
  (¬ x2 < 0 → ((x2 ≤ 20 → vp_in x1 64 ∧ ((((X0_traps (X6_lawn v)) x1.toNatClampNeg) = (-1) → wp_X6_saveState v (fun z49_v_saved z49_v_savedCount z49_v_savedR =>
  wp_X0_trapCount (X0_s3 (X6_lawn v) (upd (X0_traps (X6_lawn v)) x1.toNatClampNeg x2)) (fun r66 =>
  Q r66 (X0_s3 (X6_lawn v) (upd (X0_traps (X6_lawn v)) x1.toNatClampNeg x2)) z49_v_saved z49_v_savedCount z49_v_savedR))) ∧
  (¬ ((X0_traps (X6_lawn v)) x1.toNatClampNeg) = (-1) → QX "java/lang/IllegalStateException"))) ∧
  (¬ x2 ≤ 20 → QX "java/lang/IllegalArgumentException"))))) QX
def wp_X6_dig (v : V_X6) (x1 : Int32) (Q : Int32 → V_X0 → (Nat → V_X0) → Int32 → (Nat → Nat) → V_X3 → Prop) (QX : String → Prop) : Prop :=
  wp_X6_checkTuft v x1 (wp_X6_saveState v (fun z6_v_saved z6_v_savedCount z6_v_savedR =>
  wp_X0_digUp (X6_lawn v) (X6_spareR v) x1 (fun r14 z14_u_cells z14_u_ends z14_u_size z14_u_used z14_v_caught z14_v_fallen z14_v_moleCount z14_v_moles z14_v_molesR z14_v_mounds z14_v_opened z14_v_risen z14_v_roots z14_v_traps z14_v_tunnels =>
  Q r14 (z14_v_mounds, z14_v_opened, z14_v_roots, z14_v_traps, z14_v_tunnels, z14_v_molesR, z14_v_moles, z14_v_moleCount, (X0_fullAir (X6_lawn v)), (X0_beats (X6_lawn v)), z14_v_caught, (X0_gnawed (X6_lawn v)), z14_v_risen, z14_v_fallen) z6_v_saved z6_v_savedCount z6_v_savedR (z14_u_cells, z14_u_ends, z14_u_used, z14_u_size)))) QX
def wp_X6_rake (v : V_X6) (x1 : Int32) (Q : Int32 → V_X0 → (Nat → V_X0) → Int32 → (Nat → Nat) → V_X3 → Prop) (QX : String → Prop) : Prop :=
  wp_X6_checkTuft v x1 (vp_in x1 64 ∧ ((((X0_mounds (X6_lawn v)) x1.toNatClampNeg) = 0 → QX "java/lang/IllegalStateException") ∧
  (¬ ((X0_mounds (X6_lawn v)) x1.toNatClampNeg) = 0 → wp_X0_trailBeginsAt (X6_lawn v) x1 (fun r22 =>
  ((r22 = 0 → wp_X6_saveState v (fun z39_v_saved z39_v_savedCount z39_v_savedR =>
  wp_X0_rakeOff (X6_lawn v) (X6_spareR v) x1 (fun r47 z47_u_cells z47_u_ends z47_u_size z47_u_used z47_v_fallen z47_v_mounds z47_v_tunnels =>
  Q r47 (z47_v_mounds, (X0_opened (X6_lawn v)), (X0_roots (X6_lawn v)), (X0_traps (X6_lawn v)), z47_v_tunnels, (X0_molesR (X6_lawn v)), (X0_moles (X6_lawn v)), (X0_moleCount (X6_lawn v)), (X0_fullAir (X6_lawn v)), (X0_beats (X6_lawn v)), (X0_caught (X6_lawn v)), (X0_gnawed (X6_lawn v)), (X0_risen (X6_lawn v)), z47_v_fallen) z39_v_saved z39_v_savedCount z39_v_savedR (z47_u_cells, z47_u_ends, z47_u_used, z47_u_size)))) ∧
  (¬ r22 = 0 → QX "java/lang/IllegalStateException")))))) QX
def wp_X6_set (v : V_X6) (x1 : Int32) (Q : Int32 → V_X0 → (Nat → V_X0) → Int32 → (Nat → Nat) → Prop) (QX : String → Prop) : Prop :=
  ((x1 < 2 → QX "java/lang/IllegalArgumentException") ∧
  (¬ x1 < 2 → ((x1 ≤ 20 → wp_X6_saveState v (fun z22_v_saved z22_v_savedCount z22_v_savedR =>
  wp_X0_setFullAir (X6_lawn v) x1 (fun z38_v_fullAir z38_v_moles =>
  Q (X0_fullAir (X6_lawn v)) (X0_s8 (X0_s6 (X6_lawn v) z38_v_moles) z38_v_fullAir) z22_v_saved z22_v_savedCount z22_v_savedR))) ∧
  (¬ x1 ≤ 20 → QX "java/lang/IllegalArgumentException"))))
def wp_X6_append (v : V_X6) (x1 : Int32) (Q : Int32 → V_X5 → Prop) (QX : String → Prop) : Prop :=
  ((x1 < 33 → QX "java/lang/IllegalArgumentException") ∧
  (¬ x1 < 33 → ((x1 ≤ 126 → (((X5_length (X6_text v)) < 60 → wp_X5_put (X6_text v) x1 (fun z49_v_codes z49_v_length =>
  Q z49_v_length (X5_s1 (X5_s0 (X6_text v) z49_v_codes) z49_v_length))) ∧
  (¬ (X5_length (X6_text v)) < 60 → QX "java/lang/IllegalStateException"))) ∧
  (¬ x1 ≤ 126 → QX "java/lang/IllegalArgumentException"))))
def wp_X6_plans_99 (v : V_X6) (z30_v_saved : (Nat → V_X0)) (z30_v_savedCount : Int32) (z30_v_savedR : (Nat → Nat)) (y30_1 : Int32) (y30_2 : Int32) (y30_3 : Int32) (z30_v_lawn : V_X0) (B30 : Int32 → Int32 → Int32 → V_X0 → Prop) (y99_2 : Int32) (y99_4 : Int32) (Q : Int32 → V_X0 → (Nat → V_X0) → Int32 → (Nat → Nat) → V_X5 → Prop) (QX : String → Prop) : Prop :=
  ((y99_4 = (-1) → B30 y30_1 y99_2 (y30_3 + 1) z30_v_lawn) ∧
  (¬ y99_4 = (-1) → wp_X0_hasRoomInPlan z30_v_lawn y99_2 (fun r110 =>
  ((r110 = 0 → B30 y30_1 y99_2 (y30_3 + 1) z30_v_lawn) ∧
  (¬ r110 = 0 → vp_in y99_2 4 ∧ ((X0_molesR z30_v_lawn) y99_2.toNatClampNeg) < 4 ∧ wp_X1_addDirection ((X0_moles z30_v_lawn) ((X0_molesR z30_v_lawn) y99_2.toNatClampNeg)) y99_4 (fun z127_v_directions z127_v_planned =>
  B30 (y30_1 + 1) y99_2 (y30_3 + 1) (X0_s6 z30_v_lawn (va_up (X0_moles z30_v_lawn) ((X0_molesR z30_v_lawn) y99_2.toNatClampNeg) (X1_s2 (X1_s0 ((X0_moles z30_v_lawn) ((X0_molesR z30_v_lawn) y99_2.toNatClampNeg)) z127_v_directions) z127_v_planned)))))))))
def wb_X6_plans_30 (v : V_X6) (z30_v_saved : (Nat → V_X0)) (z30_v_savedCount : Int32) (z30_v_savedR : (Nat → Nat)) (y30_1 : Int32) (y30_2 : Int32) (y30_3 : Int32) (z30_v_lawn : V_X0) (B30 : Int32 → Int32 → Int32 → V_X0 → Prop) (Q : Int32 → V_X0 → (Nat → V_X0) → Int32 → (Nat → Nat) → V_X5 → Prop) (QX : String → Prop) : Prop :=
  (((X5_length (X6_text v)) ≤ y30_3 → Q y30_1 z30_v_lawn z30_v_saved z30_v_savedCount z30_v_savedR (X5_s1 (X6_text v) 0)) ∧
  (¬ (X5_length (X6_text v)) ≤ y30_3 → vp_in y30_3 60 ∧ wp_X5_directionOf ((X5_codes (X6_text v)) y30_3.toNatClampNeg) (fun r50 =>
  ((((X5_codes (X6_text v)) y30_3.toNatClampNeg) < 48 → wp_X6_plans_99 v z30_v_saved z30_v_savedCount z30_v_savedR y30_1 y30_2 y30_3 z30_v_lawn B30 y30_2 r50  Q QX) ∧
  (¬ ((X5_codes (X6_text v)) y30_3.toNatClampNeg) < 48 → ((51 < ((X5_codes (X6_text v)) y30_3.toNatClampNeg) → wp_X6_plans_99 v z30_v_saved z30_v_savedCount z30_v_savedR y30_1 y30_2 y30_3 z30_v_lawn B30 y30_2 r50  Q QX) ∧
  (¬ 51 < ((X5_codes (X6_text v)) y30_3.toNatClampNeg) → B30 y30_1 (((X5_codes (X6_text v)) y30_3.toNatClampNeg) - 48) (y30_3 + 1) z30_v_lawn)))))))
def wp_X6_plans_30 (v : V_X6) (z30_v_saved : (Nat → V_X0)) (z30_v_savedCount : Int32) (z30_v_savedR : (Nat → Nat)) (y30_1 : Int32) (y30_2 : Int32) (y30_3 : Int32) (z30_v_lawn : V_X0) (Q : Int32 → V_X0 → (Nat → V_X0) → Int32 → (Nat → Nat) → V_X5 → Prop) (QX : String → Prop) : Prop :=
  ∃ (I : Int32 → Int32 → Int32 → V_X0 → Prop) (μ : Int32 → Int32 → Int32 → V_X0 → Nat), I y30_1 y30_2 y30_3 z30_v_lawn ∧ ∀ (s0 : Int32) (s1 : Int32) (s2 : Int32) (s3 : V_X0), I s0 s1 s2 s3 → wb_X6_plans_30 v z30_v_saved z30_v_savedCount z30_v_savedR s0 s1 s2 s3 (fun t0 t1 t2 t3 => I t0 t1 t2 t3 ∧ μ t0 t1 t2 t3 < μ s0 s1 s2 s3) Q QX
def wp_X6_plans (v : V_X6) (Q : Int32 → V_X0 → (Nat → V_X0) → Int32 → (Nat → Nat) → V_X5 → Prop) (QX : String → Prop) : Prop :=
  wp_X5_isComplete (X6_text v) (fun r4 =>
  ((r4 = 0 → QX "java/lang/IllegalArgumentException") ∧
  (¬ r4 = 0 → wp_X6_saveState v (fun z21_v_saved z21_v_savedCount z21_v_savedR =>
  wp_X6_plans_30 v z21_v_saved z21_v_savedCount z21_v_savedR 0 (-1) 0 (X6_lawn v) Q QX))))
def wp_X6_undo (v : V_X6) (Q : Int32 → V_X0 → Int32 → Prop) (QX : String → Prop) : Prop :=
  ((0 < (X6_savedCount v) → vp_in ((X6_savedCount v) - 1) 6 ∧ ((X6_savedR v) ((X6_savedCount v) - 1).toNatClampNeg) < 6 ∧ wp_X0_copyFrom (X6_lawn v) ((X6_saved v) ((X6_savedR v) ((X6_savedCount v) - 1).toNatClampNeg)) (fun z40_v_beats z40_v_caught z40_v_fallen z40_v_fullAir z40_v_gnawed z40_v_moleCount z40_v_moles z40_v_mounds z40_v_opened z40_v_risen z40_v_roots z40_v_traps z40_v_tunnels =>
  Q ((X6_savedCount v) - 1) (z40_v_mounds, z40_v_opened, z40_v_roots, z40_v_traps, z40_v_tunnels, (X0_molesR (X6_lawn v)), z40_v_moles, z40_v_moleCount, z40_v_fullAir, z40_v_beats, z40_v_caught, z40_v_gnawed, z40_v_risen, z40_v_fallen) ((X6_savedCount v) - 1))) ∧
  (¬ 0 < (X6_savedCount v) → QX "java/lang/IllegalStateException"))
def wp_X6_restore (v : V_X6) (Q : Int32 → V_X0 → (Nat → V_X0) → Int32 → (Nat → Nat) → Prop) (QX : String → Prop) : Prop :=
  (((X6_snapshotTaken v) = 0 → QX "java/lang/IllegalStateException") ∧
  (¬ (X6_snapshotTaken v) = 0 → wp_X6_saveState v (fun z18_v_saved z18_v_savedCount z18_v_savedR =>
  wp_X0_copyFrom (X6_lawn v) (X6_snapshot v) (fun z29_v_beats z29_v_caught z29_v_fallen z29_v_fullAir z29_v_gnawed z29_v_moleCount z29_v_moles z29_v_mounds z29_v_opened z29_v_risen z29_v_roots z29_v_traps z29_v_tunnels =>
  Q (X3_size z29_v_tunnels) (z29_v_mounds, z29_v_opened, z29_v_roots, z29_v_traps, z29_v_tunnels, (X0_molesR (X6_lawn v)), z29_v_moles, z29_v_moleCount, z29_v_fullAir, z29_v_beats, z29_v_caught, z29_v_gnawed, z29_v_risen, z29_v_fallen) z18_v_saved z18_v_savedCount z18_v_savedR))))
def wp_X6_tuft (v : V_X6) (x1 : Int32) (x2 : Int32) (Q : Int32 → V_X4 → Prop) (QX : String → Prop) : Prop :=
  wp_X6_checkTuft v x1 (wp_X6_checkWhat v x2 8 (wp_X4_read (X6_survey v) (X6_lawn v) (fun z20_v_crossings z20_v_hollow z20_v_seenBy z20_v_sure =>
  wp_X6_numberOfTuft (X6_s6 v (z20_v_hollow, z20_v_crossings, z20_v_sure, z20_v_seenBy)) x1 x2 (fun r26 =>
  Q r26 (z20_v_hollow, z20_v_crossings, z20_v_sure, z20_v_seenBy)))) QX) QX
def wp_X6_moleOf (v : V_X6) (x1 : Int32) (x2 : Int32) (Q : Int32 → Prop) (QX : String → Prop) : Prop :=
  wp_X6_checkMole v x1 (wp_X6_checkWhat v x2 6 (vp_in x1 4 ∧ ((X0_molesR (X6_lawn v)) x1.toNatClampNeg) < 4 ∧ wp_X1_number ((X0_moles (X6_lawn v)) ((X0_molesR (X6_lawn v)) x1.toNatClampNeg)) x2 (fun r22 =>
  Q r22)) QX) QX
def wp_X6_tunnel (v : V_X6) (x1 : Int32) (x2 : Int32) (Q : Int32 → Prop) (QX : String → Prop) : Prop :=
  wp_X6_checkTunnel v x1 (wp_X6_checkWhat v x2 2 (wp_X3_number (X0_tunnels (X6_lawn v)) x1 x2 (fun r20 =>
  Q r20)) QX) QX
def wp_X6_cell (v : V_X6) (x1 : Int32) (x2 : Int32) (Q : Int32 → Prop) (QX : String → Prop) : Prop :=
  wp_X6_checkTunnel v x1 (((0 ≤ x2 → wp_X3_at (X0_tunnels (X6_lawn v)) x1 x2 (fun r28 =>
  Q r28)) ∧
  (¬ 0 ≤ x2 → QX "java/lang/IllegalArgumentException"))) QX
def wp_X6_count (v : V_X6) (x1 : Int32) (Q : Int32 → V_X2 → V_X4 → Prop) (QX : String → Prop) : Prop :=
  wp_X6_checkWhat v x1 14 (wp_X4_read (X6_survey v) (X6_lawn v) (fun z15_v_crossings z15_v_hollow z15_v_seenBy z15_v_sure =>
  wp_X6_numberOfAll (X6_s6 v (z15_v_hollow, z15_v_crossings, z15_v_sure, z15_v_seenBy)) x1 (fun r20 z20_v_paths =>
  Q r20 z20_v_paths (z15_v_hollow, z15_v_crossings, z15_v_sure, z15_v_seenBy)))) QX
def wp_X6_joined (v : V_X6) (x1 : Int32) (x2 : Int32) (Q : Int32 → V_X2 → Prop) (QX : String → Prop) : Prop :=
  wp_X6_checkTuft v x1 (wp_X6_checkTuft v x2 (wp_X2_measure (X6_paths v) (X6_lawn v) x1 (fun z19_v_distance =>
  vp_in x2 64 ∧ (((z19_v_distance x2.toNatClampNeg) = (-1) → Q 0 (X2_s0 (X6_paths v) z19_v_distance)) ∧
  (¬ (z19_v_distance x2.toNatClampNeg) = (-1) → Q 1 (X2_s0 (X6_paths v) z19_v_distance))))) QX) QX
def wp_X6_fewest (v : V_X6) (x1 : Int32) (x2 : Int32) (Q : Int32 → V_X2 → Prop) (QX : String → Prop) : Prop :=
  wp_X6_checkTuft v x1 (wp_X6_checkTuft v x2 (wp_X2_measure (X6_paths v) (X6_lawn v) x1 (fun z19_v_distance =>
  vp_in x2 64 ∧ Q (z19_v_distance x2.toNatClampNeg) (X2_s0 (X6_paths v) z19_v_distance))) QX) QX
def wp_X6_ifDug (v : V_X6) (x1 : Int32) (x2 : Int32) (Q : Int32 → V_X3 → V_X4 → V_X0 → Prop) (QX : String → Prop) : Prop :=
  wp_X6_checkTuft v x1 (wp_X6_checkWhat v x2 2 (wp_X0_copyFrom (X6_trial v) (X6_lawn v) (fun z19_v_beats z19_v_caught z19_v_fallen z19_v_fullAir z19_v_gnawed z19_v_moleCount z19_v_moles z19_v_mounds z19_v_opened z19_v_risen z19_v_roots z19_v_traps z19_v_tunnels =>
  wp_X0_digUp (z19_v_mounds, z19_v_opened, z19_v_roots, z19_v_traps, z19_v_tunnels, (X0_molesR (X6_trial v)), z19_v_moles, z19_v_moleCount, z19_v_fullAir, z19_v_beats, z19_v_caught, z19_v_gnawed, z19_v_risen, z19_v_fallen) (X6_spareR v) x1 (fun r27 z27_u_cells z27_u_ends z27_u_size z27_u_used z27_v_caught z27_v_fallen z27_v_moleCount z27_v_moles z27_v_molesR z27_v_mounds z27_v_opened z27_v_risen z27_v_roots z27_v_traps z27_v_tunnels =>
  ((x2 = 0 → Q (z27_v_fallen - (X0_fallen (X6_lawn v))) (z27_u_cells, z27_u_ends, z27_u_used, z27_u_size) (X6_survey v) (z27_v_mounds, z27_v_opened, z27_v_roots, z27_v_traps, z27_v_tunnels, z27_v_molesR, z27_v_moles, z27_v_moleCount, z19_v_fullAir, z19_v_beats, z27_v_caught, z19_v_gnawed, z27_v_risen, z27_v_fallen)) ∧
  (¬ x2 = 0 → ((x2 = 1 → Q r27 (z27_u_cells, z27_u_ends, z27_u_used, z27_u_size) (X6_survey v) (z27_v_mounds, z27_v_opened, z27_v_roots, z27_v_traps, z27_v_tunnels, z27_v_molesR, z27_v_moles, z27_v_moleCount, z19_v_fullAir, z19_v_beats, z27_v_caught, z19_v_gnawed, z27_v_risen, z27_v_fallen)) ∧
  (¬ x2 = 1 → wp_X4_read (X6_survey v) (z27_v_mounds, z27_v_opened, z27_v_roots, z27_v_traps, z27_v_tunnels, z27_v_molesR, z27_v_moles, z27_v_moleCount, z19_v_fullAir, z19_v_beats, z27_v_caught, z19_v_gnawed, z27_v_risen, z27_v_fallen) (fun z66_v_crossings z66_v_hollow z66_v_seenBy z66_v_sure =>
  wp_X4_hollowCount (z66_v_hollow, z66_v_crossings, z66_v_sure, z66_v_seenBy) (fun r73 =>
  Q r73 (z27_u_cells, z27_u_ends, z27_u_used, z27_u_size) (z66_v_hollow, z66_v_crossings, z66_v_sure, z66_v_seenBy) (z27_v_mounds, z27_v_opened, z27_v_roots, z27_v_traps, z27_v_tunnels, z27_v_molesR, z27_v_moles, z27_v_moleCount, z19_v_fullAir, z19_v_beats, z27_v_caught, z19_v_gnawed, z27_v_risen, z27_v_fallen)))))))))) QX) QX
def wp_X6_ifPassed (v : V_X6) (x1 : Int32) (x2 : Int32) (Q : Int32 → V_X3 → V_X0 → Prop) (QX : String → Prop) : Prop :=
  wp_X6_checkBeats v x1 (wp_X6_checkWhat v x2 2 (wp_X6_tryBeats v x1 (fun z13_v_spareR z13_v_trial =>
  wp_X6_numberOfTrial (X6_s10 (X6_s2 v z13_v_trial) z13_v_spareR) x2 (fun r18 =>
  Q r18 z13_v_spareR z13_v_trial))) QX) QX
def wp_X7_thrown (v : V_X7) (Q : Int32 → Prop) : Prop :=
  Q (X7_thrown v)
def wp_X7_in (x0 : Int32) (x1 : Int32) (x2 : Int32) (Q : Int32 → Prop) : Prop :=
  ((x0 < x1 → Q 0) ∧
  (¬ x0 < x1 → ((x2 < x0 → Q 0) ∧
  (¬ x2 < x0 → Q 1))))
def wp_X7_holds (v : V_X7) (x1 : Int32) (Q : Int32 → Int32 → Prop) : Prop :=
  ((x1 = 0 → Q 1 x1) ∧
  (¬ x1 = 0 → Q 0 x1))
def wp_X7_isTuft (x0 : Int32) (Q : Int32 → Prop) : Prop :=
  wp_X7_in x0 0 63 (fun r4 =>
  bz r4 ∧ Q r4)
def wp_X7_isMole (v : V_X7) (x1 : Int32) (Q : Int32 → Prop) : Prop :=
  vp_in 1 1472 ∧ wp_X7_in x1 0 (((X7_s v) (1 : Int32).toNatClampNeg) - 1) (fun r10 =>
  bz r10 ∧ Q r10)
def wp_X7_of (x0 : Int32) (x1 : Int32) (Q : Int32 → Prop) : Prop :=
  Q ((264 + (46 * x0)) + x1)
def wp_X7_hasMound (v : V_X7) (x1 : Int32) (Q : Int32 → Prop) : Prop :=
  vp_in (8 + x1) 1472 ∧ ((((X7_s v) (8 + x1).toNatClampNeg) = 1 → Q 1) ∧
  (¬ ((X7_s v) (8 + x1).toNatClampNeg) = 1 → Q 0))
def wb_X7_save_52 (v : V_X7) (z52_v_savedMany : Int32) (y52_1 : Int32) (z52_v_saved : (Nat → Int32)) (B52 : Int32 → (Nat → Int32) → Prop) (Q : (Nat → Int32) → Int32 → Prop) : Prop :=
  ((1472 ≤ y52_1 → Q z52_v_saved (z52_v_savedMany + 1)) ∧
  (¬ 1472 ≤ y52_1 → vp_in y52_1 1472 ∧ vp_in ((1472 * z52_v_savedMany) + y52_1) 8832 ∧ B52 (y52_1 + 1) (upd z52_v_saved ((1472 * z52_v_savedMany) + y52_1).toNatClampNeg ((X7_s v) y52_1.toNatClampNeg))))
def wp_X7_save_52 (v : V_X7) (z52_v_savedMany : Int32) (y52_1 : Int32) (z52_v_saved : (Nat → Int32)) (Q : (Nat → Int32) → Int32 → Prop) : Prop :=
  ∃ (I : Int32 → (Nat → Int32) → Prop) (μ : Int32 → (Nat → Int32) → Nat), I y52_1 z52_v_saved ∧ ∀ (s0 : Int32) (s1 : (Nat → Int32)), I s0 s1 → wb_X7_save_52 v z52_v_savedMany s0 s1 (fun t0 t1 => I t0 t1 ∧ μ t0 t1 < μ s0 s1) Q
def wb_X7_save_11 (v : V_X7)  (y11_1 : Int32) (z11_v_saved : (Nat → Int32)) (B11 : Int32 → (Nat → Int32) → Prop) (Q : (Nat → Int32) → Int32 → Prop) : Prop :=
  ((7360 ≤ y11_1 → wp_X7_save_52 v ((X7_savedMany v) - 1) 0 z11_v_saved Q) ∧
  (¬ 7360 ≤ y11_1 → vp_in (1472 + y11_1) 8832 ∧ vp_in y11_1 8832 ∧ B11 (y11_1 + 1) (upd z11_v_saved y11_1.toNatClampNeg (z11_v_saved (1472 + y11_1).toNatClampNeg))))
def wp_X7_save_11 (v : V_X7)  (y11_1 : Int32) (z11_v_saved : (Nat → Int32)) (Q : (Nat → Int32) → Int32 → Prop) : Prop :=
  ∃ (I : Int32 → (Nat → Int32) → Prop) (μ : Int32 → (Nat → Int32) → Nat), I y11_1 z11_v_saved ∧ ∀ (s0 : Int32) (s1 : (Nat → Int32)), I s0 s1 → wb_X7_save_11 v  s0 s1 (fun t0 t1 => I t0 t1 ∧ μ t0 t1 < μ s0 s1) Q
def wp_X7_save (v : V_X7) (Q : (Nat → Int32) → Int32 → Prop) : Prop :=
  (((X7_savedMany v) = 6 → wp_X7_save_11 v  0 (X7_saved v) Q) ∧
  (¬ (X7_savedMany v) = 6 → wp_X7_save_52 v (X7_savedMany v) 0 (X7_saved v) Q))
def wb_X7_putAside_2 (v : V_X7)  (y2_1 : Int32) (z2_v_aside : (Nat → Int32)) (B2 : Int32 → (Nat → Int32) → Prop) (Q : (Nat → Int32) → Prop) : Prop :=
  ((1472 ≤ y2_1 → Q z2_v_aside) ∧
  (¬ 1472 ≤ y2_1 → vp_in y2_1 1472 ∧ B2 (y2_1 + 1) (upd z2_v_aside y2_1.toNatClampNeg ((X7_s v) y2_1.toNatClampNeg))))
def wp_X7_putAside_2 (v : V_X7)  (y2_1 : Int32) (z2_v_aside : (Nat → Int32)) (Q : (Nat → Int32) → Prop) : Prop :=
  ∃ (I : Int32 → (Nat → Int32) → Prop) (μ : Int32 → (Nat → Int32) → Nat), I y2_1 z2_v_aside ∧ ∀ (s0 : Int32) (s1 : (Nat → Int32)), I s0 s1 → wb_X7_putAside_2 v  s0 s1 (fun t0 t1 => I t0 t1 ∧ μ t0 t1 < μ s0 s1) Q
def wp_X7_putAside (v : V_X7) (Q : (Nat → Int32) → Prop) : Prop :=
  wp_X7_putAside_2 v  0 (X7_aside v) Q
def wb_X7_putBack_2 (v : V_X7)  (y2_1 : Int32) (z2_v_s : (Nat → Int32)) (B2 : Int32 → (Nat → Int32) → Prop) (Q : (Nat → Int32) → Prop) : Prop :=
  ((1472 ≤ y2_1 → Q z2_v_s) ∧
  (¬ 1472 ≤ y2_1 → vp_in y2_1 1472 ∧ B2 (y2_1 + 1) (upd z2_v_s y2_1.toNatClampNeg ((X7_aside v) y2_1.toNatClampNeg))))
def wp_X7_putBack_2 (v : V_X7)  (y2_1 : Int32) (z2_v_s : (Nat → Int32)) (Q : (Nat → Int32) → Prop) : Prop :=
  ∃ (I : Int32 → (Nat → Int32) → Prop) (μ : Int32 → (Nat → Int32) → Nat), I y2_1 z2_v_s ∧ ∀ (s0 : Int32) (s1 : (Nat → Int32)), I s0 s1 → wb_X7_putBack_2 v  s0 s1 (fun t0 t1 => I t0 t1 ∧ μ t0 t1 < μ s0 s1) Q
def wp_X7_putBack (v : V_X7) (Q : (Nat → Int32) → Prop) : Prop :=
  wp_X7_putBack_2 v  0 (X7_s v) Q
def wp_X7_tuftAt (v : V_X7) (x1 : Int32) (Q : Int32 → Prop) : Prop :=
  vp_in (448 + x1) 1472 ∧ Q (((X7_s v) (448 + x1).toNatClampNeg) - ((X7_s v) (448 + x1).toNatClampNeg) / 64 * 64)
def wb_X7_endFrom_2 (v : V_X7) (x1 : Int32)  (y2_2 : Int32) (B2 : Int32 → Prop) (Q : Int32 → Prop) : Prop :=
  vp_in (448 + y2_2) 1472 ∧ ((64 ≤ ((X7_s v) (448 + y2_2).toNatClampNeg) → Q y2_2) ∧
  (¬ 64 ≤ ((X7_s v) (448 + y2_2).toNatClampNeg) → B2 (y2_2 + 1)))
def wp_X7_endFrom_2 (v : V_X7) (x1 : Int32)  (y2_2 : Int32) (Q : Int32 → Prop) : Prop :=
  ∃ (I : Int32 → Prop) (μ : Int32 → Nat), I y2_2 ∧ ∀ (s0 : Int32), I s0 → wb_X7_endFrom_2 v x1  s0 (fun t0 => I t0 ∧ μ t0 < μ s0) Q
def wp_X7_endFrom (v : V_X7) (x1 : Int32) (Q : Int32 → Prop) : Prop :=
  wp_X7_endFrom_2 v x1  x1 Q
def wb_X7_tunnels_4 (v : V_X7)  (y4_1 : Int32) (y4_2 : Int32) (B4 : Int32 → Int32 → Prop) (Q : Int32 → Prop) : Prop :=
  vp_in 7 1472 ∧ ((((X7_s v) (7 : Int32).toNatClampNeg) ≤ y4_2 → Q y4_1) ∧
  (¬ ((X7_s v) (7 : Int32).toNatClampNeg) ≤ y4_2 → vp_in (448 + y4_2) 1472 ∧ ((64 ≤ ((X7_s v) (448 + y4_2).toNatClampNeg) → B4 (y4_1 + 1) (y4_2 + 1)) ∧
  (¬ 64 ≤ ((X7_s v) (448 + y4_2).toNatClampNeg) → B4 (y4_1 + 0) (y4_2 + 1)))))
def wp_X7_tunnels_4 (v : V_X7)  (y4_1 : Int32) (y4_2 : Int32) (Q : Int32 → Prop) : Prop :=
  ∃ (I : Int32 → Int32 → Prop) (μ : Int32 → Int32 → Nat), I y4_1 y4_2 ∧ ∀ (s0 : Int32) (s1 : Int32), I s0 s1 → wb_X7_tunnels_4 v  s0 s1 (fun t0 t1 => I t0 t1 ∧ μ t0 t1 < μ s0 s1) Q
def wp_X7_tunnels (v : V_X7) (Q : Int32 → Prop) : Prop :=
  wp_X7_tunnels_4 v  0 0 Q
def wb_X7_beginOf_4 (v : V_X7) (x1 : Int32)  (y4_2 : Int32) (y4_3 : Int32) (B4 : Int32 → Int32 → Prop) (Q : Int32 → Prop) : Prop :=
  ((x1 ≤ y4_3 → Q y4_2) ∧
  (¬ x1 ≤ y4_3 → wp_X7_endFrom v y4_2 (fun r11 =>
  B4 (r11 + 1) (y4_3 + 1))))
def wp_X7_beginOf_4 (v : V_X7) (x1 : Int32)  (y4_2 : Int32) (y4_3 : Int32) (Q : Int32 → Prop) : Prop :=
  ∃ (I : Int32 → Int32 → Prop) (μ : Int32 → Int32 → Nat), I y4_2 y4_3 ∧ ∀ (s0 : Int32) (s1 : Int32), I s0 s1 → wb_X7_beginOf_4 v x1  s0 s1 (fun t0 t1 => I t0 t1 ∧ μ t0 t1 < μ s0 s1) Q
def wp_X7_beginOf (v : V_X7) (x1 : Int32) (Q : Int32 → Prop) : Prop :=
  wp_X7_beginOf_4 v x1  0 0 Q
def wb_X7_shifts_111 (v : V_X7) (x1 : Int32) (x2 : Int32)  (y111_3 : Int32) (z111_v_s : (Nat → Int32)) (B111 : Int32 → (Nat → Int32) → Prop) (Q : (Nat → Int32) → Prop) : Prop :=
  vp_in 7 1472 ∧ ((((z111_v_s (7 : Int32).toNatClampNeg) - x2) ≤ y111_3 → Q z111_v_s) ∧
  (¬ ((z111_v_s (7 : Int32).toNatClampNeg) - x2) ≤ y111_3 → vp_in (448 + y111_3) 1472 ∧ B111 (y111_3 + 1) (upd z111_v_s (448 + y111_3).toNatClampNeg 0)))
def wp_X7_shifts_111 (v : V_X7) (x1 : Int32) (x2 : Int32)  (y111_3 : Int32) (z111_v_s : (Nat → Int32)) (Q : (Nat → Int32) → Prop) : Prop :=
  ∃ (I : Int32 → (Nat → Int32) → Prop) (μ : Int32 → (Nat → Int32) → Nat), I y111_3 z111_v_s ∧ ∀ (s0 : Int32) (s1 : (Nat → Int32)), I s0 s1 → wb_X7_shifts_111 v x1 x2  s0 s1 (fun t0 t1 => I t0 t1 ∧ μ t0 t1 < μ s0 s1) Q
def wp_X7_shifts_92 (v : V_X7) (x1 : Int32) (x2 : Int32) (z92_v_s : (Nat → Int32)) (Q : (Nat → Int32) → Prop) : Prop :=
  vp_in 7 1472 ∧ wp_X7_shifts_111 v x1 x2  ((upd z92_v_s (7 : Int32).toNatClampNeg ((z92_v_s (7 : Int32).toNatClampNeg) + x2)) (7 : Int32).toNatClampNeg) (upd z92_v_s (7 : Int32).toNatClampNeg ((z92_v_s (7 : Int32).toNatClampNeg) + x2)) Q
def wb_X7_shifts_49 (v : V_X7) (x1 : Int32) (x2 : Int32)  (y49_3 : Int32) (z49_v_s : (Nat → Int32)) (B49 : Int32 → (Nat → Int32) → Prop) (Q : (Nat → Int32) → Prop) : Prop :=
  vp_in 7 1472 ∧ (((z49_v_s (7 : Int32).toNatClampNeg) ≤ y49_3 → wp_X7_shifts_92 v x1 x2 z49_v_s  Q) ∧
  (¬ (z49_v_s (7 : Int32).toNatClampNeg) ≤ y49_3 → ((0 ≤ x2 → wp_X7_shifts_92 v x1 x2 z49_v_s  Q) ∧
  (¬ 0 ≤ x2 → vp_in (448 + y49_3) 1472 ∧ vp_in ((448 + y49_3) + x2) 1472 ∧ B49 (y49_3 + 1) (upd z49_v_s ((448 + y49_3) + x2).toNatClampNeg (z49_v_s (448 + y49_3).toNatClampNeg))))))
def wp_X7_shifts_49 (v : V_X7) (x1 : Int32) (x2 : Int32)  (y49_3 : Int32) (z49_v_s : (Nat → Int32)) (Q : (Nat → Int32) → Prop) : Prop :=
  ∃ (I : Int32 → (Nat → Int32) → Prop) (μ : Int32 → (Nat → Int32) → Nat), I y49_3 z49_v_s ∧ ∀ (s0 : Int32) (s1 : (Nat → Int32)), I s0 s1 → wb_X7_shifts_49 v x1 x2  s0 s1 (fun t0 t1 => I t0 t1 ∧ μ t0 t1 < μ s0 s1) Q
def wb_X7_shifts_10 (v : V_X7) (x1 : Int32) (x2 : Int32)  (y10_3 : Int32) (z10_v_s : (Nat → Int32)) (B10 : Int32 → (Nat → Int32) → Prop) (Q : (Nat → Int32) → Prop) : Prop :=
  ((y10_3 < x1 → wp_X7_shifts_49 v x1 x2  x1 z10_v_s Q) ∧
  (¬ y10_3 < x1 → ((x2 ≤ 0 → wp_X7_shifts_49 v x1 x2  x1 z10_v_s Q) ∧
  (¬ x2 ≤ 0 → vp_in (448 + y10_3) 1472 ∧ vp_in ((448 + y10_3) + x2) 1472 ∧ B10 (y10_3 + (-1)) (upd z10_v_s ((448 + y10_3) + x2).toNatClampNeg (z10_v_s (448 + y10_3).toNatClampNeg))))))
def wp_X7_shifts_10 (v : V_X7) (x1 : Int32) (x2 : Int32)  (y10_3 : Int32) (z10_v_s : (Nat → Int32)) (Q : (Nat → Int32) → Prop) : Prop :=
  ∃ (I : Int32 → (Nat → Int32) → Prop) (μ : Int32 → (Nat → Int32) → Nat), I y10_3 z10_v_s ∧ ∀ (s0 : Int32) (s1 : (Nat → Int32)), I s0 s1 → wb_X7_shifts_10 v x1 x2  s0 s1 (fun t0 t1 => I t0 t1 ∧ μ t0 t1 < μ s0 s1) Q
def wp_X7_shifts (v : V_X7) (x1 : Int32) (x2 : Int32) (Q : (Nat → Int32) → Prop) : Prop :=
  vp_in 7 1472 ∧ wp_X7_shifts_10 v x1 x2  (((X7_s v) (7 : Int32).toNatClampNeg) - 1) (X7_s v) Q
def wb_X7_find_6 (v : V_X7) (x1 : Int32) (x2 : Int32) (x3 : Int32) (x4 : Int32)  (y6_5 : Int32) (y6_6 : Int32) (B6 : Int32 → Int32 → Prop) (Q : Int32 → Prop) : Prop :=
  ((x3 < y6_6 → Q y6_5) ∧
  (¬ x3 < y6_6 → wp_X7_tuftAt v y6_6 (fun r15 =>
  ((r15 = x1 → ((x4 = 0 → ((y6_5 = (-1) → B6 y6_6 (y6_6 + 1)) ∧
  (¬ y6_5 = (-1) → B6 y6_5 (y6_6 + 1)))) ∧
  (¬ x4 = 0 → B6 y6_6 (y6_6 + 1)))) ∧
  (¬ r15 = x1 → B6 y6_5 (y6_6 + 1))))))
def wp_X7_find_6 (v : V_X7) (x1 : Int32) (x2 : Int32) (x3 : Int32) (x4 : Int32)  (y6_5 : Int32) (y6_6 : Int32) (Q : Int32 → Prop) : Prop :=
  ∃ (I : Int32 → Int32 → Prop) (μ : Int32 → Int32 → Nat), I y6_5 y6_6 ∧ ∀ (s0 : Int32) (s1 : Int32), I s0 s1 → wb_X7_find_6 v x1 x2 x3 x4  s0 s1 (fun t0 t1 => I t0 t1 ∧ μ t0 t1 < μ s0 s1) Q
def wp_X7_find (v : V_X7) (x1 : Int32) (x2 : Int32) (x3 : Int32) (x4 : Int32) (Q : Int32 → Prop) : Prop :=
  wp_X7_find_6 v x1 x2 x3 x4  (-1) x2 Q
def wp_X7_splits_106 (v : V_X7) (x1 : Int32) (y2_2 : Int32) (z2_v_s : (Nat → Int32)) (B2 : Int32 → (Nat → Int32) → Prop) (y106_4 : Int32) (z106_v_s : (Nat → Int32)) (Q : (Nat → Int32) → Prop) : Prop :=
  wp_X7_endFrom (X7_s0 v z106_v_s) (y106_4 + 1) (fun r111 =>
  B2 (r111 + 1) z106_v_s)
def wb_X7_splits_2 (v : V_X7) (x1 : Int32)  (y2_2 : Int32) (z2_v_s : (Nat → Int32)) (B2 : Int32 → (Nat → Int32) → Prop) (Q : (Nat → Int32) → Prop) : Prop :=
  vp_in 7 1472 ∧ (((z2_v_s (7 : Int32).toNatClampNeg) ≤ y2_2 → Q z2_v_s) ∧
  (¬ (z2_v_s (7 : Int32).toNatClampNeg) ≤ y2_2 → wp_X7_endFrom (X7_s0 v z2_v_s) y2_2 (fun r15 =>
  wp_X7_find (X7_s0 v z2_v_s) x1 y2_2 r15 0 (fun r24 =>
  ((r24 = (-1) → B2 (r15 + 1) z2_v_s) ∧
  (¬ r24 = (-1) → wp_X7_find (X7_s0 v z2_v_s) x1 y2_2 r15 1 (fun r40 =>
  vp_in (448 + r24) 1472 ∧ ((r24 = r40 → wp_X7_shifts (X7_s0 v (upd z2_v_s (448 + r24).toNatClampNeg (x1 + 64))) (r24 + 1) 1 (fun z73_v_s =>
  vp_in ((448 + r24) + 1) 1472 ∧ wp_X7_splits_106 v x1 y2_2 z2_v_s B2 r24 (upd z73_v_s ((448 + r24) + 1).toNatClampNeg x1)  Q)) ∧
  (¬ r24 = r40 → wp_X7_shifts (X7_s0 v (upd z2_v_s (448 + r24).toNatClampNeg (x1 + 64))) r40 ((r24 + 1) - r40) (fun z103_v_s =>
  wp_X7_splits_106 v x1 y2_2 z2_v_s B2 r24 z103_v_s  Q))))))))))
def wp_X7_splits_2 (v : V_X7) (x1 : Int32)  (y2_2 : Int32) (z2_v_s : (Nat → Int32)) (Q : (Nat → Int32) → Prop) : Prop :=
  ∃ (I : Int32 → (Nat → Int32) → Prop) (μ : Int32 → (Nat → Int32) → Nat), I y2_2 z2_v_s ∧ ∀ (s0 : Int32) (s1 : (Nat → Int32)), I s0 s1 → wb_X7_splits_2 v x1  s0 s1 (fun t0 t1 => I t0 t1 ∧ μ t0 t1 < μ s0 s1) Q
def wp_X7_splits (v : V_X7) (x1 : Int32) (Q : (Nat → Int32) → Prop) : Prop :=
  wp_X7_splits_2 v x1  0 (X7_s v) Q
def wp_X7_fallsIn_64 (v : V_X7) (x1 : Int32) (y4_2 : Int32) (y4_3 : Int32) (z4_v_s : (Nat → Int32)) (B4 : Int32 → Int32 → (Nat → Int32) → Prop) (y64_2 : Int32) (y64_4 : Int32) (y64_5 : Int32) (z64_v_s : (Nat → Int32)) (Q : Int32 → (Nat → Int32) → Prop) : Prop :=
  ((y64_5 = 0 → B4 y64_2 (y64_4 + 1) z64_v_s) ∧
  (¬ y64_5 = 0 → B4 y64_2 y4_3 z64_v_s))
def wp_X7_fallsIn_40 (v : V_X7) (x1 : Int32) (y4_2 : Int32) (y4_3 : Int32) (z4_v_s : (Nat → Int32)) (B4 : Int32 → Int32 → (Nat → Int32) → Prop) (y40_4 : Int32) (k40_0 : Int32) (Q : Int32 → (Nat → Int32) → Prop) : Prop :=
  ((k40_0 = 0 → wp_X7_fallsIn_64 v x1 y4_2 y4_3 z4_v_s B4 y4_2 y40_4 k40_0 z4_v_s  Q) ∧
  (¬ k40_0 = 0 → wp_X7_shifts (X7_s0 v z4_v_s) (y40_4 + 1) ((y4_3 - y40_4) - 1) (fun z58_v_s =>
  wp_X7_fallsIn_64 v x1 y4_2 y4_3 z4_v_s B4 (y4_2 + 1) y40_4 k40_0 z58_v_s  Q)))
def wb_X7_fallsIn_4 (v : V_X7) (x1 : Int32)  (y4_2 : Int32) (y4_3 : Int32) (z4_v_s : (Nat → Int32)) (B4 : Int32 → Int32 → (Nat → Int32) → Prop) (Q : Int32 → (Nat → Int32) → Prop) : Prop :=
  vp_in 7 1472 ∧ (((z4_v_s (7 : Int32).toNatClampNeg) ≤ y4_3 → vp_in 5 1472 ∧ Q y4_2 (upd z4_v_s (5 : Int32).toNatClampNeg ((z4_v_s (5 : Int32).toNatClampNeg) + y4_2))) ∧
  (¬ (z4_v_s (7 : Int32).toNatClampNeg) ≤ y4_3 → wp_X7_endFrom (X7_s0 v z4_v_s) y4_3 (fun r17 =>
  wp_X7_find (X7_s0 v z4_v_s) x1 y4_3 r17 0 (fun r28 =>
  ((r28 = (-1) → wp_X7_fallsIn_40 v x1 y4_2 y4_3 z4_v_s B4 r17 0  Q) ∧
  (¬ r28 = (-1) → wp_X7_fallsIn_40 v x1 y4_2 y4_3 z4_v_s B4 r17 1  Q))))))
def wp_X7_fallsIn_4 (v : V_X7) (x1 : Int32)  (y4_2 : Int32) (y4_3 : Int32) (z4_v_s : (Nat → Int32)) (Q : Int32 → (Nat → Int32) → Prop) : Prop :=
  ∃ (I : Int32 → Int32 → (Nat → Int32) → Prop) (μ : Int32 → Int32 → (Nat → Int32) → Nat), I y4_2 y4_3 z4_v_s ∧ ∀ (s0 : Int32) (s1 : Int32) (s2 : (Nat → Int32)), I s0 s1 s2 → wb_X7_fallsIn_4 v x1  s0 s1 s2 (fun t0 t1 t2 => I t0 t1 t2 ∧ μ t0 t1 t2 < μ s0 s1 s2) Q
def wp_X7_fallsIn (v : V_X7) (x1 : Int32) (Q : Int32 → (Nat → Int32) → Prop) : Prop :=
  wp_X7_fallsIn_4 v x1  0 0 (X7_s v) Q
def wb_X7_inTrail_6 (v : V_X7) (x1 : Int32) (x2 : Int32) (x3 : Int32)  (y6_4 : Int32) (y6_5 : Int32) (B6 : Int32 → Int32 → Prop) (Q : Int32 → Prop) : Prop :=
  wp_X7_of x1 23 (fun r15 =>
  vp_in r15 1472 ∧ ((((X7_s v) r15.toNatClampNeg) ≤ y6_5 → Q y6_4) ∧
  (¬ ((X7_s v) r15.toNatClampNeg) ≤ y6_5 → wp_X7_of x1 (24 + y6_5) (fun r32 =>
  vp_in r32 1472 ∧ ((((X7_s v) r32.toNatClampNeg) = x2 → ((x3 = 0 → ((y6_4 = (-1) → B6 y6_5 (y6_5 + 1)) ∧
  (¬ y6_4 = (-1) → B6 y6_4 (y6_5 + 1)))) ∧
  (¬ x3 = 0 → B6 y6_5 (y6_5 + 1)))) ∧
  (¬ ((X7_s v) r32.toNatClampNeg) = x2 → B6 y6_4 (y6_5 + 1)))))))
def wp_X7_inTrail_6 (v : V_X7) (x1 : Int32) (x2 : Int32) (x3 : Int32)  (y6_4 : Int32) (y6_5 : Int32) (Q : Int32 → Prop) : Prop :=
  ∃ (I : Int32 → Int32 → Prop) (μ : Int32 → Int32 → Nat), I y6_4 y6_5 ∧ ∀ (s0 : Int32) (s1 : Int32), I s0 s1 → wb_X7_inTrail_6 v x1 x2 x3  s0 s1 (fun t0 t1 => I t0 t1 ∧ μ t0 t1 < μ s0 s1) Q
def wp_X7_inTrail (v : V_X7) (x1 : Int32) (x2 : Int32) (x3 : Int32) (Q : Int32 → Prop) : Prop :=
  wp_X7_inTrail_6 v x1 x2 x3  (-1) 0 Q
def wp_X7_digs_46 (v : V_X7) (x1 : Int32) (x2 : Int32) (y2_3 : Int32) (z2_v_s : (Nat → Int32)) (B2 : Int32 → (Nat → Int32) → Prop) (k46_0 : Int32) (k46_1 : Int32) (k46_2 : Int32) (Q : (Nat → Int32) → Prop) : Prop :=
  vp_in k46_2 1472 ∧ vp_in 7 1472 ∧ B2 (y2_3 + 1) (upd (upd z2_v_s k46_2.toNatClampNeg (k46_1 + k46_0)) (7 : Int32).toNatClampNeg (((upd z2_v_s k46_2.toNatClampNeg (k46_1 + k46_0)) (7 : Int32).toNatClampNeg) + 1))
def wb_X7_digs_2 (v : V_X7) (x1 : Int32) (x2 : Int32)  (y2_3 : Int32) (z2_v_s : (Nat → Int32)) (B2 : Int32 → (Nat → Int32) → Prop) (Q : (Nat → Int32) → Prop) : Prop :=
  ((x2 < y2_3 → Q z2_v_s) ∧
  (¬ x2 < y2_3 → vp_in 7 1472 ∧ wp_X7_of x1 (24 + y2_3) (fun r31 =>
  vp_in r31 1472 ∧ ((y2_3 = x2 → wp_X7_digs_46 v x1 x2 y2_3 z2_v_s B2 64 (z2_v_s r31.toNatClampNeg) (448 + (z2_v_s (7 : Int32).toNatClampNeg))  Q) ∧
  (¬ y2_3 = x2 → wp_X7_digs_46 v x1 x2 y2_3 z2_v_s B2 0 (z2_v_s r31.toNatClampNeg) (448 + (z2_v_s (7 : Int32).toNatClampNeg))  Q)))))
def wp_X7_digs_2 (v : V_X7) (x1 : Int32) (x2 : Int32)  (y2_3 : Int32) (z2_v_s : (Nat → Int32)) (Q : (Nat → Int32) → Prop) : Prop :=
  ∃ (I : Int32 → (Nat → Int32) → Prop) (μ : Int32 → (Nat → Int32) → Nat), I y2_3 z2_v_s ∧ ∀ (s0 : Int32) (s1 : (Nat → Int32)), I s0 s1 → wb_X7_digs_2 v x1 x2  s0 s1 (fun t0 t1 => I t0 t1 ∧ μ t0 t1 < μ s0 s1) Q
def wp_X7_digs (v : V_X7) (x1 : Int32) (x2 : Int32) (Q : (Nat → Int32) → Prop) : Prop :=
  wp_X7_digs_2 v x1 x2  0 (X7_s v) Q
def wp_X7_beginsTrail (v : V_X7) (x1 : Int32) (Q : (Nat → Int32) → Prop) : Prop :=
  wp_X7_of x1 23 (fun r7 =>
  vp_in r7 1472 ∧ wp_X7_of x1 24 (fun r19 =>
  wp_X7_of x1 0 (fun r28 =>
  vp_in r28 1472 ∧ vp_in r19 1472 ∧ wp_X7_of x1 1 (fun r39 =>
  vp_in 6 1472 ∧ vp_in r39 1472 ∧ Q (upd (upd (upd (X7_s v) r7.toNatClampNeg 1) r19.toNatClampNeg ((upd (X7_s v) r7.toNatClampNeg 1) r28.toNatClampNeg)) r39.toNatClampNeg ((upd (upd (X7_s v) r7.toNatClampNeg 1) r19.toNatClampNeg ((upd (X7_s v) r7.toNatClampNeg 1) r28.toNatClampNeg)) (6 : Int32).toNatClampNeg))))))
def wb_X7_comesUp_83 (v : V_X7) (x1 : Int32) (y27_2 : Int32) (z27_v_s : (Nat → Int32)) (B27 : Int32 → (Nat → Int32) → Prop) (y83_4 : Int32) (y83_5 : Int32) (z83_v_s : (Nat → Int32)) (B83 : Int32 → (Nat → Int32) → Prop) (Q : (Nat → Int32) → Prop) : Prop :=
  wp_X7_of y27_2 23 (fun r92 =>
  vp_in r92 1472 ∧ (((z83_v_s r92.toNatClampNeg) ≤ y83_5 → B27 (y27_2 + 1) z83_v_s) ∧
  (¬ (z83_v_s r92.toNatClampNeg) ≤ y83_5 → wp_X7_of y27_2 (24 + y83_5) (fun r109 =>
  wp_X7_of y27_2 ((24 + y83_5) + y83_4) (fun r125 =>
  vp_in r125 1472 ∧ vp_in r109 1472 ∧ B83 (y83_5 + 1) (upd z83_v_s r109.toNatClampNeg (z83_v_s r125.toNatClampNeg)))))))
def wp_X7_comesUp_83 (v : V_X7) (x1 : Int32) (y27_2 : Int32) (z27_v_s : (Nat → Int32)) (B27 : Int32 → (Nat → Int32) → Prop) (y83_4 : Int32) (y83_5 : Int32) (z83_v_s : (Nat → Int32)) (Q : (Nat → Int32) → Prop) : Prop :=
  ∃ (I : Int32 → (Nat → Int32) → Prop) (μ : Int32 → (Nat → Int32) → Nat), I y83_5 z83_v_s ∧ ∀ (s0 : Int32) (s1 : (Nat → Int32)), I s0 s1 → wb_X7_comesUp_83 v x1 y27_2 z27_v_s B27 y83_4 s0 s1 (fun t0 t1 => I t0 t1 ∧ μ t0 t1 < μ s0 s1) Q
def wb_X7_comesUp_27 (v : V_X7) (x1 : Int32)  (y27_2 : Int32) (z27_v_s : (Nat → Int32)) (B27 : Int32 → (Nat → Int32) → Prop) (Q : (Nat → Int32) → Prop) : Prop :=
  vp_in 1 1472 ∧ (((z27_v_s (1 : Int32).toNatClampNeg) ≤ y27_2 → Q z27_v_s) ∧
  (¬ (z27_v_s (1 : Int32).toNatClampNeg) ≤ y27_2 → wp_X7_inTrail (X7_s0 v z27_v_s) y27_2 x1 0 (fun r41 =>
  ((r41 ≤ 0 → B27 (y27_2 + 1) z27_v_s) ∧
  (¬ r41 ≤ 0 → wp_X7_inTrail (X7_s0 v z27_v_s) y27_2 x1 1 (fun r53 =>
  wp_X7_digs (X7_s0 v z27_v_s) y27_2 r41 (fun z61_v_s =>
  wp_X7_of y27_2 23 (fun r71 =>
  vp_in r71 1472 ∧ wp_X7_comesUp_83 v x1 y27_2 z27_v_s B27 r53 0 (upd z61_v_s r71.toNatClampNeg ((z61_v_s r71.toNatClampNeg) - r53)) Q))))))))
def wp_X7_comesUp_27 (v : V_X7) (x1 : Int32)  (y27_2 : Int32) (z27_v_s : (Nat → Int32)) (Q : (Nat → Int32) → Prop) : Prop :=
  ∃ (I : Int32 → (Nat → Int32) → Prop) (μ : Int32 → (Nat → Int32) → Nat), I y27_2 z27_v_s ∧ ∀ (s0 : Int32) (s1 : (Nat → Int32)), I s0 s1 → wb_X7_comesUp_27 v x1  s0 s1 (fun t0 t1 => I t0 t1 ∧ μ t0 t1 < μ s0 s1) Q
def wp_X7_comesUp (v : V_X7) (x1 : Int32) (Q : (Nat → Int32) → Prop) : Prop :=
  vp_in (8 + x1) 1472 ∧ vp_in 4 1472 ∧ wp_X7_splits (X7_s0 v (upd (upd (X7_s v) (8 + x1).toNatClampNeg 1) (4 : Int32).toNatClampNeg (((upd (X7_s v) (8 + x1).toNatClampNeg 1) (4 : Int32).toNatClampNeg) + 1))) x1 (fun z22_v_s =>
  wp_X7_comesUp_27 v x1  0 z22_v_s Q)
def wp_X7_finishes_29 (v : V_X7) (x1 : Int32) (z29_v_s : (Nat → Int32)) (Q : (Nat → Int32) → Prop) : Prop :=
  wp_X7_beginsTrail (X7_s0 v z29_v_s) x1 (fun z31_v_s =>
  Q z31_v_s)
def wp_X7_finishes (v : V_X7) (x1 : Int32) (Q : (Nat → Int32) → Prop) : Prop :=
  wp_X7_of x1 0 (fun r6 =>
  vp_in r6 1472 ∧ wp_X7_inTrail v x1 ((X7_s v) r6.toNatClampNeg) 0 (fun r15 =>
  ((r15 ≤ 0 → wp_X7_finishes_29 v x1 (X7_s v)  Q) ∧
  (¬ r15 ≤ 0 → wp_X7_digs v x1 r15 (fun z26_v_s =>
  wp_X7_finishes_29 v x1 z26_v_s  Q)))))
def wb_X7_isCaught_63 (v : V_X7) (x1 : Int32)  (y63_2 : Int32) (z63_v_s : (Nat → Int32)) (B63 : Int32 → (Nat → Int32) → Prop) (Q : (Nat → Int32) → Prop) : Prop :=
  ((46 ≤ y63_2 → Q z63_v_s) ∧
  (¬ 46 ≤ y63_2 → vp_in 1 1472 ∧ wp_X7_of (z63_v_s (1 : Int32).toNatClampNeg) y63_2 (fun r80 =>
  vp_in r80 1472 ∧ B63 (y63_2 + 1) (upd z63_v_s r80.toNatClampNeg 0))))
def wp_X7_isCaught_63 (v : V_X7) (x1 : Int32)  (y63_2 : Int32) (z63_v_s : (Nat → Int32)) (Q : (Nat → Int32) → Prop) : Prop :=
  ∃ (I : Int32 → (Nat → Int32) → Prop) (μ : Int32 → (Nat → Int32) → Nat), I y63_2 z63_v_s ∧ ∀ (s0 : Int32) (s1 : (Nat → Int32)), I s0 s1 → wb_X7_isCaught_63 v x1  s0 s1 (fun t0 t1 => I t0 t1 ∧ μ t0 t1 < μ s0 s1) Q
def wb_X7_isCaught_26 (v : V_X7) (x1 : Int32)  (y26_2 : Int32) (z26_v_s : (Nat → Int32)) (B26 : Int32 → (Nat → Int32) → Prop) (Q : (Nat → Int32) → Prop) : Prop :=
  vp_in 1 1472 ∧ wp_X7_of (z26_v_s (1 : Int32).toNatClampNeg) 0 (fun r34 =>
  ((r34 ≤ y26_2 → wp_X7_isCaught_63 v x1  0 z26_v_s Q) ∧
  (¬ r34 ≤ y26_2 → vp_in (y26_2 + 46) 1472 ∧ vp_in y26_2 1472 ∧ B26 (y26_2 + 1) (upd z26_v_s y26_2.toNatClampNeg (z26_v_s (y26_2 + 46).toNatClampNeg)))))
def wp_X7_isCaught_26 (v : V_X7) (x1 : Int32)  (y26_2 : Int32) (z26_v_s : (Nat → Int32)) (Q : (Nat → Int32) → Prop) : Prop :=
  ∃ (I : Int32 → (Nat → Int32) → Prop) (μ : Int32 → (Nat → Int32) → Nat), I y26_2 z26_v_s ∧ ∀ (s0 : Int32) (s1 : (Nat → Int32)), I s0 s1 → wb_X7_isCaught_26 v x1  s0 s1 (fun t0 t1 => I t0 t1 ∧ μ t0 t1 < μ s0 s1) Q
def wp_X7_isCaught (v : V_X7) (x1 : Int32) (Q : (Nat → Int32) → Prop) : Prop :=
  vp_in 1 1472 ∧ vp_in 2 1472 ∧ wp_X7_of x1 0 (fun r22 =>
  wp_X7_isCaught_26 v x1  r22 (upd (upd (X7_s v) (1 : Int32).toNatClampNeg (((X7_s v) (1 : Int32).toNatClampNeg) - 1)) (2 : Int32).toNatClampNeg (((upd (X7_s v) (1 : Int32).toNatClampNeg (((X7_s v) (1 : Int32).toNatClampNeg) - 1)) (2 : Int32).toNatClampNeg) + 1)) Q)
def wp_X7_rowStep (x0 : Int32) (Q : Int32 → Prop) : Prop :=
  ((x0 = 0 → Q (-1)) ∧
  (¬ x0 = 0 → ((x0 = 2 → Q 1) ∧
  (¬ x0 = 2 → Q 0))))
def wp_X7_columnStep (x0 : Int32) (Q : Int32 → Prop) : Prop :=
  ((x0 = 3 → Q (-1)) ∧
  (¬ x0 = 3 → ((x0 = 1 → Q 1) ∧
  (¬ x0 = 1 → Q 0))))
def wb_X7_takesOff_16 (v : V_X7) (x1 : Int32)  (y16_2 : Int32) (z16_v_s : (Nat → Int32)) (B16 : Int32 → (Nat → Int32) → Prop) (Q : (Nat → Int32) → Prop) : Prop :=
  wp_X7_of x1 2 (fun r23 =>
  vp_in r23 1472 ∧ (((z16_v_s r23.toNatClampNeg) ≤ y16_2 → wp_X7_of x1 2 (fun r74 =>
  vp_in r74 1472 ∧ wp_X7_of x1 (3 + (z16_v_s r74.toNatClampNeg)) (fun r79 =>
  vp_in r79 1472 ∧ Q (upd z16_v_s r79.toNatClampNeg 0)))) ∧
  (¬ (z16_v_s r23.toNatClampNeg) ≤ y16_2 → wp_X7_of x1 (3 + y16_2) (fun r38 =>
  wp_X7_of x1 ((3 + y16_2) + 1) (fun r51 =>
  vp_in r51 1472 ∧ vp_in r38 1472 ∧ B16 (y16_2 + 1) (upd z16_v_s r38.toNatClampNeg (z16_v_s r51.toNatClampNeg)))))))
def wp_X7_takesOff_16 (v : V_X7) (x1 : Int32)  (y16_2 : Int32) (z16_v_s : (Nat → Int32)) (Q : (Nat → Int32) → Prop) : Prop :=
  ∃ (I : Int32 → (Nat → Int32) → Prop) (μ : Int32 → (Nat → Int32) → Nat), I y16_2 z16_v_s ∧ ∀ (s0 : Int32) (s1 : (Nat → Int32)), I s0 s1 → wb_X7_takesOff_16 v x1  s0 s1 (fun t0 t1 => I t0 t1 ∧ μ t0 t1 < μ s0 s1) Q
def wp_X7_takesOff (v : V_X7) (x1 : Int32) (Q : (Nat → Int32) → Prop) : Prop :=
  wp_X7_of x1 2 (fun r6 =>
  vp_in r6 1472 ∧ wp_X7_takesOff_16 v x1  0 (upd (X7_s v) r6.toNatClampNeg (((X7_s v) r6.toNatClampNeg) - 1)) Q)
def wp_X7_goes_88 (v : V_X7) (x1 : Int32) (x2 : Int32) (z88_v_s : (Nat → Int32)) (k88_0 : Int32) (Q : Int32 → (Nat → Int32) → Prop) : Prop :=
  vp_in (136 + x2) 1472 ∧ ((k88_0 = 0 → bz k88_0 ∧ Q k88_0 (upd z88_v_s (136 + x2).toNatClampNeg (-1))) ∧
  (¬ k88_0 = 0 → wp_X7_isCaught (X7_s0 v (upd z88_v_s (136 + x2).toNatClampNeg (-1))) x1 (fun z106_v_s =>
  bz k88_0 ∧ Q k88_0 z106_v_s)))
def wp_X7_goes (v : V_X7) (x1 : Int32) (x2 : Int32) (Q : Int32 → (Nat → Int32) → Prop) : Prop :=
  wp_X7_takesOff v x1 (fun z2_v_s =>
  wp_X7_of x1 0 (fun r11 =>
  vp_in r11 1472 ∧ wp_X7_of x1 23 (fun r30 =>
  vp_in r30 1472 ∧ wp_X7_of x1 (24 + ((upd z2_v_s r11.toNatClampNeg x2) r30.toNatClampNeg)) (fun r35 =>
  vp_in r35 1472 ∧ wp_X7_of x1 23 (fun r47 =>
  vp_in r47 1472 ∧ wp_X7_of x1 45 (fun r62 =>
  vp_in r62 1472 ∧ vp_in (136 + x2) 1472 ∧ ((((upd (upd (upd (upd z2_v_s r11.toNatClampNeg x2) r35.toNatClampNeg x2) r47.toNatClampNeg (((upd (upd z2_v_s r11.toNatClampNeg x2) r35.toNatClampNeg x2) r47.toNatClampNeg) + 1)) r62.toNatClampNeg (((upd (upd (upd z2_v_s r11.toNatClampNeg x2) r35.toNatClampNeg x2) r47.toNatClampNeg (((upd (upd z2_v_s r11.toNatClampNeg x2) r35.toNatClampNeg x2) r47.toNatClampNeg) + 1)) r62.toNatClampNeg) + 1)) (136 + x2).toNatClampNeg) = 0 → wp_X7_goes_88 v x1 x2 (upd (upd (upd (upd z2_v_s r11.toNatClampNeg x2) r35.toNatClampNeg x2) r47.toNatClampNeg (((upd (upd z2_v_s r11.toNatClampNeg x2) r35.toNatClampNeg x2) r47.toNatClampNeg) + 1)) r62.toNatClampNeg (((upd (upd (upd z2_v_s r11.toNatClampNeg x2) r35.toNatClampNeg x2) r47.toNatClampNeg (((upd (upd z2_v_s r11.toNatClampNeg x2) r35.toNatClampNeg x2) r47.toNatClampNeg) + 1)) r62.toNatClampNeg) + 1)) 1  Q) ∧
  (¬ ((upd (upd (upd (upd z2_v_s r11.toNatClampNeg x2) r35.toNatClampNeg x2) r47.toNatClampNeg (((upd (upd z2_v_s r11.toNatClampNeg x2) r35.toNatClampNeg x2) r47.toNatClampNeg) + 1)) r62.toNatClampNeg (((upd (upd (upd z2_v_s r11.toNatClampNeg x2) r35.toNatClampNeg x2) r47.toNatClampNeg (((upd (upd z2_v_s r11.toNatClampNeg x2) r35.toNatClampNeg x2) r47.toNatClampNeg) + 1)) r62.toNatClampNeg) + 1)) (136 + x2).toNatClampNeg) = 0 → wp_X7_goes_88 v x1 x2 (upd (upd (upd (upd z2_v_s r11.toNatClampNeg x2) r35.toNatClampNeg x2) r47.toNatClampNeg (((upd (upd z2_v_s r11.toNatClampNeg x2) r35.toNatClampNeg x2) r47.toNatClampNeg) + 1)) r62.toNatClampNeg (((upd (upd (upd z2_v_s r11.toNatClampNeg x2) r35.toNatClampNeg x2) r47.toNatClampNeg (((upd (upd z2_v_s r11.toNatClampNeg x2) r35.toNatClampNeg x2) r47.toNatClampNeg) + 1)) r62.toNatClampNeg) + 1)) 0  Q))))))))
def wp_X7_tries_134 (v : V_X7) (x1 : Int32) (x2 : Int32) (z134_v_s : (Nat → Int32)) (Q : Int32 → (Nat → Int32) → Prop) : Prop :=
  wp_X7_of x1 1 (fun r140 =>
  vp_in 6 1472 ∧ vp_in r140 1472 ∧ Q 0 (upd z134_v_s r140.toNatClampNeg (z134_v_s (6 : Int32).toNatClampNeg)))
def wp_X7_tries_106 (v : V_X7) (x1 : Int32) (x2 : Int32) (y106_4 : Int32) (z106_v_s : (Nat → Int32)) (Q : Int32 → (Nat → Int32) → Prop) : Prop :=
  wp_X7_of x1 1 (fun r112 =>
  vp_in r112 1472 ∧ (((z106_v_s r112.toNatClampNeg) = 0 → wp_X7_hasMound (X7_s0 v z106_v_s) y106_4 (fun r122 =>
  ((r122 = 0 → wp_X7_comesUp (X7_s0 v z106_v_s) y106_4 (fun z131_v_s =>
  wp_X7_tries_134 v x1 x2 z131_v_s  Q)) ∧
  (¬ r122 = 0 → wp_X7_tries_134 v x1 x2 z106_v_s  Q)))) ∧
  (¬ (z106_v_s r112.toNatClampNeg) = 0 → Q 0 z106_v_s)))
def wp_X7_tries_73 (v : V_X7) (x1 : Int32) (x2 : Int32) (y73_3 : Int32) (z73_v_s : (Nat → Int32)) (Q : Int32 → (Nat → Int32) → Prop) : Prop :=
  wp_X7_of x1 0 (fun r79 =>
  vp_in r79 1472 ∧ ((y73_3 = 0 → wp_X7_hasMound (X7_s0 v z73_v_s) (z73_v_s r79.toNatClampNeg) (fun r92 =>
  ((r92 = 0 → wp_X7_tries_106 v x1 x2 (z73_v_s r79.toNatClampNeg) z73_v_s  Q) ∧
  (¬ r92 = 0 → wp_X7_finishes (X7_s0 v z73_v_s) x1 (fun z100_v_s =>
  Q 0 z100_v_s))))) ∧
  (¬ y73_3 = 0 → wp_X7_tries_106 v x1 x2 (z73_v_s r79.toNatClampNeg) z73_v_s  Q)))
def wp_X7_tries_31 (v : V_X7) (x1 : Int32) (x2 : Int32) (z31_v_s : (Nat → Int32)) (k31_0 : Int32) (Q : Int32 → (Nat → Int32) → Prop) : Prop :=
  ((k31_0 = 0 → wp_X7_goes (X7_s0 v z31_v_s) x1 x2 (fun r65 z65_v_s =>
  ((r65 = 0 → wp_X7_tries_73 v x1 x2 k31_0 z65_v_s  Q) ∧
  (¬ r65 = 0 → Q 1 z65_v_s)))) ∧
  (¬ k31_0 = 0 → vp_in (72 + x2) 1472 ∧ vp_in 3 1472 ∧ wp_X7_tries_73 v x1 x2 k31_0 (upd (upd z31_v_s (72 + x2).toNatClampNeg ((z31_v_s (72 + x2).toNatClampNeg) - 1)) (3 : Int32).toNatClampNeg (((upd z31_v_s (72 + x2).toNatClampNeg ((z31_v_s (72 + x2).toNatClampNeg) - 1)) (3 : Int32).toNatClampNeg) + 1))  Q))
def wp_X7_tries (v : V_X7) (x1 : Int32) (x2 : Int32) (Q : Int32 → (Nat → Int32) → Prop) : Prop :=
  wp_X7_of x1 1 (fun r6 =>
  vp_in r6 1472 ∧ vp_in (72 + x2) 1472 ∧ ((((upd (X7_s v) r6.toNatClampNeg (((X7_s v) r6.toNatClampNeg) - 1)) (72 + x2).toNatClampNeg) ≤ 0 → wp_X7_tries_31 v x1 x2 (upd (X7_s v) r6.toNatClampNeg (((X7_s v) r6.toNatClampNeg) - 1)) 0  Q) ∧
  (¬ ((upd (X7_s v) r6.toNatClampNeg (((X7_s v) r6.toNatClampNeg) - 1)) (72 + x2).toNatClampNeg) ≤ 0 → wp_X7_tries_31 v x1 x2 (upd (X7_s v) r6.toNatClampNeg (((X7_s v) r6.toNatClampNeg) - 1)) 1  Q)))
def wp_X7_acts_86 (v : V_X7) (x1 : Int32)  (Q : Int32 → (Nat → Int32) → Prop) : Prop :=
  wp_X7_takesOff v x1 (fun z88_v_s =>
  Q 0 z88_v_s)
def wp_X7_acts (v : V_X7) (x1 : Int32) (Q : Int32 → (Nat → Int32) → Prop) : Prop :=
  wp_X7_of x1 2 (fun r6 =>
  vp_in r6 1472 ∧ ((((X7_s v) r6.toNatClampNeg) = 0 → Q 0 (X7_s v)) ∧
  (¬ ((X7_s v) r6.toNatClampNeg) = 0 → wp_X7_of x1 3 (fun r21 =>
  vp_in r21 1472 ∧ wp_X7_of x1 0 (fun r32 =>
  vp_in r32 1472 ∧ wp_X7_rowStep ((X7_s v) r21.toNatClampNeg) (fun r40 =>
  wp_X7_of x1 0 (fun r51 =>
  vp_in r51 1472 ∧ wp_X7_columnStep ((X7_s v) r21.toNatClampNeg) (fun r59 =>
  wp_X7_in ((((X7_s v) r32.toNatClampNeg) / 8) + r40) 0 7 (fun r69 =>
  ((r69 = 0 → wp_X7_acts_86 v x1   Q) ∧
  (¬ r69 = 0 → wp_X7_in ((((X7_s v) r51.toNatClampNeg) - ((X7_s v) r51.toNatClampNeg) / 8 * 8) + r59) 0 7 (fun r80 =>
  ((r80 = 0 → wp_X7_acts_86 v x1   Q) ∧
  (¬ r80 = 0 → wp_X7_tries v x1 ((8 * ((((X7_s v) r32.toNatClampNeg) / 8) + r40)) + ((((X7_s v) r51.toNatClampNeg) - ((X7_s v) r51.toNatClampNeg) / 8 * 8) + r59)) (fun r102 z102_v_s =>
  bz r102 ∧ Q r102 z102_v_s)))))))))))))))
def wb_X7_beat_47 (v : V_X7)  (y47_1 : Int32) (z47_v_s : (Nat → Int32)) (B47 : Int32 → (Nat → Int32) → Prop) (Q : (Nat → Int32) → Prop) : Prop :=
  vp_in 1 1472 ∧ (((z47_v_s (1 : Int32).toNatClampNeg) ≤ y47_1 → vp_in 0 1472 ∧ Q (upd z47_v_s (0 : Int32).toNatClampNeg ((z47_v_s (0 : Int32).toNatClampNeg) + 1))) ∧
  (¬ (z47_v_s (1 : Int32).toNatClampNeg) ≤ y47_1 → wp_X7_acts (X7_s0 v z47_v_s) y47_1 (fun r60 z60_v_s =>
  ((r60 = 0 → B47 (y47_1 + 1) z60_v_s) ∧
  (¬ r60 = 0 → B47 (y47_1 + 0) z60_v_s)))))
def wp_X7_beat_47 (v : V_X7)  (y47_1 : Int32) (z47_v_s : (Nat → Int32)) (Q : (Nat → Int32) → Prop) : Prop :=
  ∃ (I : Int32 → (Nat → Int32) → Prop) (μ : Int32 → (Nat → Int32) → Nat), I y47_1 z47_v_s ∧ ∀ (s0 : Int32) (s1 : (Nat → Int32)), I s0 s1 → wb_X7_beat_47 v  s0 s1 (fun t0 t1 => I t0 t1 ∧ μ t0 t1 < μ s0 s1) Q
def wb_X7_beat_2 (v : V_X7)  (y2_1 : Int32) (z2_v_s : (Nat → Int32)) (B2 : Int32 → (Nat → Int32) → Prop) (Q : (Nat → Int32) → Prop) : Prop :=
  ((64 ≤ y2_1 → wp_X7_beat_47 v  0 z2_v_s Q) ∧
  (¬ 64 ≤ y2_1 → vp_in (136 + y2_1) 1472 ∧ (((z2_v_s (136 + y2_1).toNatClampNeg) ≤ 0 → B2 (y2_1 + 1) (upd z2_v_s (136 + y2_1).toNatClampNeg ((z2_v_s (136 + y2_1).toNatClampNeg) - 0))) ∧
  (¬ (z2_v_s (136 + y2_1).toNatClampNeg) ≤ 0 → B2 (y2_1 + 1) (upd z2_v_s (136 + y2_1).toNatClampNeg ((z2_v_s (136 + y2_1).toNatClampNeg) - 1))))))
def wp_X7_beat_2 (v : V_X7)  (y2_1 : Int32) (z2_v_s : (Nat → Int32)) (Q : (Nat → Int32) → Prop) : Prop :=
  ∃ (I : Int32 → (Nat → Int32) → Prop) (μ : Int32 → (Nat → Int32) → Nat), I y2_1 z2_v_s ∧ ∀ (s0 : Int32) (s1 : (Nat → Int32)), I s0 s1 → wb_X7_beat_2 v  s0 s1 (fun t0 t1 => I t0 t1 ∧ μ t0 t1 < μ s0 s1) Q
def wp_X7_beat (v : V_X7) (Q : (Nat → Int32) → Prop) : Prop :=
  wp_X7_beat_2 v  0 (X7_s v) Q
def wb_X7_beats_9 (v : V_X7) (x1 : Int32) (y9_2 : Int32) (y9_3 : Int32) (z9_v_s : (Nat → Int32)) (B9 : Int32 → (Nat → Int32) → Prop) (Q : Int32 → (Nat → Int32) → Prop) : Prop :=
  ((x1 ≤ y9_3 → vp_in 4 1472 ∧ Q ((z9_v_s (4 : Int32).toNatClampNeg) - y9_2) z9_v_s) ∧
  (¬ x1 ≤ y9_3 → wp_X7_beat (X7_s0 v z9_v_s) (fun z15_v_s =>
  B9 (y9_3 + 1) z15_v_s)))
def wp_X7_beats_9 (v : V_X7) (x1 : Int32) (y9_2 : Int32) (y9_3 : Int32) (z9_v_s : (Nat → Int32)) (Q : Int32 → (Nat → Int32) → Prop) : Prop :=
  ∃ (I : Int32 → (Nat → Int32) → Prop) (μ : Int32 → (Nat → Int32) → Nat), I y9_3 z9_v_s ∧ ∀ (s0 : Int32) (s1 : (Nat → Int32)), I s0 s1 → wb_X7_beats_9 v x1 y9_2 s0 s1 (fun t0 t1 => I t0 t1 ∧ μ t0 t1 < μ s0 s1) Q
def wp_X7_beats (v : V_X7) (x1 : Int32) (Q : Int32 → (Nat → Int32) → Prop) : Prop :=
  vp_in 4 1472 ∧ wp_X7_beats_9 v x1 ((X7_s v) (4 : Int32).toNatClampNeg) 0 (X7_s v) Q
def wp_X7_lays (v : V_X7) (x1 : Int32) (x2 : Int32) (Q : Int32 → (Nat → Int32) → (Nat → Int32) → Int32 → Prop) : Prop :=
  wp_X7_save v (fun z1_v_saved z1_v_savedMany =>
  vp_in x1 1472 ∧ Q ((X7_s v) x1.toNatClampNeg) (upd (X7_s v) x1.toNatClampNeg x2) z1_v_saved z1_v_savedMany)
def wp_X7_mole_64 (v : V_X7) (x1 : Int32) (z64_v_s : (Nat → Int32)) (z64_v_saved : (Nat → Int32)) (z64_v_savedMany : Int32) (z64_v_thrown : Int32) (Q : Int32 → (Nat → Int32) → (Nat → Int32) → Int32 → Int32 → Prop) : Prop :=
  vp_in 1 1472 ∧ wp_X7_of (z64_v_s (1 : Int32).toNatClampNeg) 0 (fun r87 =>
  vp_in r87 1472 ∧ wp_X7_beginsTrail ((upd (upd z64_v_s (1 : Int32).toNatClampNeg ((z64_v_s (1 : Int32).toNatClampNeg) + 1)) r87.toNatClampNeg x1), (X7_aside v), (X7_kept v), (X7_isKept v), z64_v_saved, z64_v_savedMany, (X7_text v), (X7_length v), z64_v_thrown, (X7_joint v), (X7_position v), (X7_isWrong v), (X7_isHollow v), (X7_sure v), (X7_away v), (X7_digested v)) (z64_v_s (1 : Int32).toNatClampNeg) (fun z94_v_s =>
  Q (z64_v_s (1 : Int32).toNatClampNeg) z94_v_s z64_v_saved z64_v_savedMany z64_v_thrown))
def wp_X7_mole_39 (v : V_X7) (x1 : Int32) (k39_0 : Int32) (Q : Int32 → (Nat → Int32) → (Nat → Int32) → Int32 → Int32 → Prop) : Prop :=
  wp_X7_holds v k39_0 (fun r39 z39_v_thrown =>
  ((r39 = 0 → Q 0 (X7_s v) (X7_saved v) (X7_savedMany v) z39_v_thrown) ∧
  (¬ r39 = 0 → wp_X7_save (X7_s8 v z39_v_thrown) (fun z48_v_saved z48_v_savedMany =>
  wp_X7_hasMound ((X7_s v), (X7_aside v), (X7_kept v), (X7_isKept v), z48_v_saved, z48_v_savedMany, (X7_text v), (X7_length v), z39_v_thrown, (X7_joint v), (X7_position v), (X7_isWrong v), (X7_isHollow v), (X7_sure v), (X7_away v), (X7_digested v)) x1 (fun r53 =>
  ((r53 = 0 → wp_X7_comesUp ((X7_s v), (X7_aside v), (X7_kept v), (X7_isKept v), z48_v_saved, z48_v_savedMany, (X7_text v), (X7_length v), z39_v_thrown, (X7_joint v), (X7_position v), (X7_isWrong v), (X7_isHollow v), (X7_sure v), (X7_away v), (X7_digested v)) x1 (fun z61_v_s =>
  wp_X7_mole_64 v x1 z61_v_s z48_v_saved z48_v_savedMany z39_v_thrown  Q)) ∧
  (¬ r53 = 0 → wp_X7_mole_64 v x1 (X7_s v) z48_v_saved z48_v_savedMany z39_v_thrown  Q)))))))
def wp_X7_mole_34 (v : V_X7) (x1 : Int32)  (Q : Int32 → (Nat → Int32) → (Nat → Int32) → Int32 → Int32 → Prop) : Prop :=
  wp_X7_mole_39 v x1 2  Q
def wp_X7_mole (v : V_X7) (x1 : Int32) (Q : Int32 → (Nat → Int32) → (Nat → Int32) → Int32 → Int32 → Prop) : Prop :=
  wp_X7_isTuft x1 (fun r2 =>
  ((r2 = 0 → wp_X7_mole_39 v x1 1  Q) ∧
  (¬ r2 = 0 → vp_in 1 1472 ∧ ((((X7_s v) (1 : Int32).toNatClampNeg) = 4 → wp_X7_mole_34 v x1   Q) ∧
  (¬ ((X7_s v) (1 : Int32).toNatClampNeg) = 4 → vp_in (72 + x1) 1472 ∧ ((((X7_s v) (72 + x1).toNatClampNeg) ≤ 0 → wp_X7_mole_39 v x1 0  Q) ∧
  (¬ ((X7_s v) (72 + x1).toNatClampNeg) ≤ 0 → wp_X7_mole_34 v x1   Q)))))))
def wp_X7_putsPlan_28 (v : V_X7) (x1 : Int32) (x2 : Int32) (k28_0 : Int32) (Q : Int32 → (Nat → Int32) → Prop) : Prop :=
  ((k28_0 = 0 → bz k28_0 ∧ Q k28_0 (X7_s v)) ∧
  (¬ k28_0 = 0 → wp_X7_of x1 2 (fun r45 =>
  vp_in r45 1472 ∧ wp_X7_of x1 (3 + ((X7_s v) r45.toNatClampNeg)) (fun r50 =>
  vp_in r50 1472 ∧ wp_X7_of x1 2 (fun r61 =>
  vp_in r61 1472 ∧ bz k28_0 ∧ Q k28_0 (upd (upd (X7_s v) r50.toNatClampNeg x2) r61.toNatClampNeg (((upd (X7_s v) r50.toNatClampNeg x2) r61.toNatClampNeg) + 1)))))))
def wp_X7_putsPlan_27 (v : V_X7) (x1 : Int32) (x2 : Int32)  (Q : Int32 → (Nat → Int32) → Prop) : Prop :=
  wp_X7_putsPlan_28 v x1 x2 0  Q
def wp_X7_putsPlan (v : V_X7) (x1 : Int32) (x2 : Int32) (Q : Int32 → (Nat → Int32) → Prop) : Prop :=
  wp_X7_isMole v x1 (fun r2 =>
  ((r2 = 0 → wp_X7_putsPlan_27 v x1 x2   Q) ∧
  (¬ r2 = 0 → wp_X7_of x1 2 (fun r14 =>
  vp_in r14 1472 ∧ ((20 ≤ ((X7_s v) r14.toNatClampNeg) → wp_X7_putsPlan_27 v x1 x2   Q) ∧
  (¬ 20 ≤ ((X7_s v) r14.toNatClampNeg) → wp_X7_putsPlan_28 v x1 x2 1  Q))))))
def wp_X7_plan_46 (v : V_X7) (x1 : Int32) (x2 : Int32) (k46_0 : Int32) (Q : Int32 → (Nat → Int32) → (Nat → Int32) → Int32 → Int32 → Prop) : Prop :=
  wp_X7_holds v k46_0 (fun r46 z46_v_thrown =>
  ((r46 = 0 → Q 0 (X7_s v) (X7_saved v) (X7_savedMany v) z46_v_thrown) ∧
  (¬ r46 = 0 → wp_X7_save (X7_s8 v z46_v_thrown) (fun z55_v_saved z55_v_savedMany =>
  wp_X7_putsPlan ((X7_s v), (X7_aside v), (X7_kept v), (X7_isKept v), z55_v_saved, z55_v_savedMany, (X7_text v), (X7_length v), z46_v_thrown, (X7_joint v), (X7_position v), (X7_isWrong v), (X7_isHollow v), (X7_sure v), (X7_away v), (X7_digested v)) x1 x2 (fun r61 z61_v_s =>
  wp_X7_of x1 2 (fun r71 =>
  vp_in r71 1472 ∧ Q (z61_v_s r71.toNatClampNeg) z61_v_s z55_v_saved z55_v_savedMany z46_v_thrown))))))
def wp_X7_plan (v : V_X7) (x1 : Int32) (x2 : Int32) (Q : Int32 → (Nat → Int32) → (Nat → Int32) → Int32 → Int32 → Prop) : Prop :=
  wp_X7_isMole v x1 (fun r3 =>
  ((r3 = 0 → wp_X7_plan_46 v x1 x2 1  Q) ∧
  (¬ r3 = 0 → wp_X7_in x2 0 3 (fun r16 =>
  ((r16 = 0 → wp_X7_plan_46 v x1 x2 2  Q) ∧
  (¬ r16 = 0 → wp_X7_of x1 2 (fun r32 =>
  vp_in r32 1472 ∧ ((((X7_s v) r32.toNatClampNeg) = 20 → wp_X7_plan_46 v x1 x2 3  Q) ∧
  (¬ ((X7_s v) r32.toNatClampNeg) = 20 → wp_X7_plan_46 v x1 x2 0  Q)))))))))
def wb_X7_rest_39 (v : V_X7) (x1 : Int32) (y39_2 : Int32) (z39_v_saved : (Nat → Int32)) (z39_v_savedMany : Int32) (z39_v_thrown : Int32) (y39_3 : Int32) (z39_v_s : (Nat → Int32)) (B39 : Int32 → (Nat → Int32) → Prop) (Q : Int32 → (Nat → Int32) → (Nat → Int32) → Int32 → Int32 → Prop) : Prop :=
  ((y39_2 ≤ y39_3 → Q y39_2 z39_v_s z39_v_saved z39_v_savedMany z39_v_thrown) ∧
  (¬ y39_2 ≤ y39_3 → wp_X7_takesOff (z39_v_s, (X7_aside v), (X7_kept v), (X7_isKept v), z39_v_saved, z39_v_savedMany, (X7_text v), (X7_length v), z39_v_thrown, (X7_joint v), (X7_position v), (X7_isWrong v), (X7_isHollow v), (X7_sure v), (X7_away v), (X7_digested v)) x1 (fun z46_v_s =>
  B39 (y39_3 + 1) z46_v_s)))
def wp_X7_rest_39 (v : V_X7) (x1 : Int32) (y39_2 : Int32) (z39_v_saved : (Nat → Int32)) (z39_v_savedMany : Int32) (z39_v_thrown : Int32) (y39_3 : Int32) (z39_v_s : (Nat → Int32)) (Q : Int32 → (Nat → Int32) → (Nat → Int32) → Int32 → Int32 → Prop) : Prop :=
  ∃ (I : Int32 → (Nat → Int32) → Prop) (μ : Int32 → (Nat → Int32) → Nat), I y39_3 z39_v_s ∧ ∀ (s0 : Int32) (s1 : (Nat → Int32)), I s0 s1 → wb_X7_rest_39 v x1 y39_2 z39_v_saved z39_v_savedMany z39_v_thrown s0 s1 (fun t0 t1 => I t0 t1 ∧ μ t0 t1 < μ s0 s1) Q
def wp_X7_rest_14 (v : V_X7) (x1 : Int32) (k14_0 : Int32) (Q : Int32 → (Nat → Int32) → (Nat → Int32) → Int32 → Int32 → Prop) : Prop :=
  wp_X7_holds v k14_0 (fun r14 z14_v_thrown =>
  ((r14 = 0 → Q 0 (X7_s v) (X7_saved v) (X7_savedMany v) z14_v_thrown) ∧
  (¬ r14 = 0 → wp_X7_save (X7_s8 v z14_v_thrown) (fun z23_v_saved z23_v_savedMany =>
  wp_X7_of x1 2 (fun r32 =>
  vp_in r32 1472 ∧ wp_X7_rest_39 v x1 ((X7_s v) r32.toNatClampNeg) z23_v_saved z23_v_savedMany z14_v_thrown 0 (X7_s v) Q)))))
def wp_X7_rest (v : V_X7) (x1 : Int32) (Q : Int32 → (Nat → Int32) → (Nat → Int32) → Int32 → Int32 → Prop) : Prop :=
  wp_X7_isMole v x1 (fun r3 =>
  ((r3 = 0 → wp_X7_rest_14 v x1 1  Q) ∧
  (¬ r3 = 0 → wp_X7_rest_14 v x1 0  Q)))
def wp_X7_pass_16 (v : V_X7) (x1 : Int32) (k16_0 : Int32) (Q : Int32 → (Nat → Int32) → (Nat → Int32) → Int32 → Int32 → Prop) : Prop :=
  wp_X7_holds v k16_0 (fun r16 z16_v_thrown =>
  ((r16 = 0 → Q 0 (X7_s v) (X7_saved v) (X7_savedMany v) z16_v_thrown) ∧
  (¬ r16 = 0 → wp_X7_save (X7_s8 v z16_v_thrown) (fun z25_v_saved z25_v_savedMany =>
  wp_X7_beats ((X7_s v), (X7_aside v), (X7_kept v), (X7_isKept v), z25_v_saved, z25_v_savedMany, (X7_text v), (X7_length v), z16_v_thrown, (X7_joint v), (X7_position v), (X7_isWrong v), (X7_isHollow v), (X7_sure v), (X7_away v), (X7_digested v)) x1 (fun r30 z30_v_s =>
  Q r30 z30_v_s z25_v_saved z25_v_savedMany z16_v_thrown)))))
def wp_X7_pass (v : V_X7) (x1 : Int32) (Q : Int32 → (Nat → Int32) → (Nat → Int32) → Int32 → Int32 → Prop) : Prop :=
  wp_X7_in x1 1 30 (fun r5 =>
  ((r5 = 0 → wp_X7_pass_16 v x1 1  Q) ∧
  (¬ r5 = 0 → wp_X7_pass_16 v x1 0  Q)))
def wp_X7_root_27 (v : V_X7) (x1 : Int32) (x2 : Int32) (k27_0 : Int32) (Q : Int32 → (Nat → Int32) → (Nat → Int32) → Int32 → Int32 → Prop) : Prop :=
  wp_X7_holds v k27_0 (fun r27 z27_v_thrown =>
  ((r27 = 0 → Q 0 (X7_s v) (X7_saved v) (X7_savedMany v) z27_v_thrown) ∧
  (¬ r27 = 0 → wp_X7_lays (X7_s8 v z27_v_thrown) (72 + x1) x2 (fun r39 z39_v_s z39_v_saved z39_v_savedMany =>
  Q r39 z39_v_s z39_v_saved z39_v_savedMany z27_v_thrown))))
def wp_X7_root (v : V_X7) (x1 : Int32) (x2 : Int32) (Q : Int32 → (Nat → Int32) → (Nat → Int32) → Int32 → Int32 → Prop) : Prop :=
  wp_X7_isTuft x1 (fun r2 =>
  ((r2 = 0 → wp_X7_root_27 v x1 x2 1  Q) ∧
  (¬ r2 = 0 → wp_X7_in x2 0 9 (fun r16 =>
  ((r16 = 0 → wp_X7_root_27 v x1 x2 2  Q) ∧
  (¬ r16 = 0 → wp_X7_root_27 v x1 x2 0  Q))))))
def wb_X7_traps_4 (v : V_X7)  (y4_1 : Int32) (y4_2 : Int32) (B4 : Int32 → Int32 → Prop) (Q : Int32 → Prop) : Prop :=
  ((64 ≤ y4_2 → Q y4_1) ∧
  (¬ 64 ≤ y4_2 → vp_in (136 + y4_2) 1472 ∧ ((((X7_s v) (136 + y4_2).toNatClampNeg) = (-1) → B4 (y4_1 + 0) (y4_2 + 1)) ∧
  (¬ ((X7_s v) (136 + y4_2).toNatClampNeg) = (-1) → B4 (y4_1 + 1) (y4_2 + 1)))))
def wp_X7_traps_4 (v : V_X7)  (y4_1 : Int32) (y4_2 : Int32) (Q : Int32 → Prop) : Prop :=
  ∃ (I : Int32 → Int32 → Prop) (μ : Int32 → Int32 → Nat), I y4_1 y4_2 ∧ ∀ (s0 : Int32) (s1 : Int32), I s0 s1 → wb_X7_traps_4 v  s0 s1 (fun t0 t1 => I t0 t1 ∧ μ t0 t1 < μ s0 s1) Q
def wp_X7_traps (v : V_X7) (Q : Int32 → Prop) : Prop :=
  wp_X7_traps_4 v  0 0 Q
def wp_X7_trap_45 (v : V_X7) (x1 : Int32) (x2 : Int32) (k45_0 : Int32) (Q : Int32 → (Nat → Int32) → (Nat → Int32) → Int32 → Int32 → Prop) : Prop :=
  wp_X7_holds v k45_0 (fun r45 z45_v_thrown =>
  ((r45 = 0 → Q 0 (X7_s v) (X7_saved v) (X7_savedMany v) z45_v_thrown) ∧
  (¬ r45 = 0 → wp_X7_lays (X7_s8 v z45_v_thrown) (136 + x1) x2 (fun r60 z60_v_s z60_v_saved z60_v_savedMany =>
  wp_X7_traps (z60_v_s, (X7_aside v), (X7_kept v), (X7_isKept v), z60_v_saved, z60_v_savedMany, (X7_text v), (X7_length v), z45_v_thrown, (X7_joint v), (X7_position v), (X7_isWrong v), (X7_isHollow v), (X7_sure v), (X7_away v), (X7_digested v)) (fun r65 =>
  Q r65 z60_v_s z60_v_saved z60_v_savedMany z45_v_thrown)))))
def wp_X7_trap (v : V_X7) (x1 : Int32) (x2 : Int32) (Q : Int32 → (Nat → Int32) → (Nat → Int32) → Int32 → Int32 → Prop) : Prop :=
  wp_X7_isTuft x1 (fun r2 =>
  ((r2 = 0 → wp_X7_trap_45 v x1 x2 1  Q) ∧
  (¬ r2 = 0 → wp_X7_in x2 0 20 (fun r16 =>
  ((r16 = 0 → wp_X7_trap_45 v x1 x2 2  Q) ∧
  (¬ r16 = 0 → vp_in (136 + x1) 1472 ∧ ((((X7_s v) (136 + x1).toNatClampNeg) = (-1) → wp_X7_trap_45 v x1 x2 0  Q) ∧
  (¬ ((X7_s v) (136 + x1).toNatClampNeg) = (-1) → wp_X7_trap_45 v x1 x2 3  Q))))))))
def wp_X7_dug_215 (v : V_X7) (x1 : Int32) (y156_2 : Int32) (y156_4 : Int32) (z156_v_s : (Nat → Int32)) (B156 : Int32 → (Nat → Int32) → Prop) (z215_v_s : (Nat → Int32)) (Q : Int32 → (Nat → Int32) → Prop) : Prop :=
  wp_X7_beginsTrail (X7_s0 v z215_v_s) y156_4 (fun z218_v_s =>
  B156 (y156_4 + 1) z218_v_s)
def wb_X7_dug_156 (v : V_X7) (x1 : Int32) (y156_2 : Int32) (y156_4 : Int32) (z156_v_s : (Nat → Int32)) (B156 : Int32 → (Nat → Int32) → Prop) (Q : Int32 → (Nat → Int32) → Prop) : Prop :=
  vp_in 1 1472 ∧ (((z156_v_s (1 : Int32).toNatClampNeg) ≤ y156_4 → vp_in 2 1472 ∧ Q ((z156_v_s (2 : Int32).toNatClampNeg) - y156_2) z156_v_s) ∧
  (¬ (z156_v_s (1 : Int32).toNatClampNeg) ≤ y156_4 → wp_X7_of y156_4 23 (fun r175 =>
  vp_in r175 1472 ∧ (((z156_v_s r175.toNatClampNeg) = 0 → wp_X7_of y156_4 0 (fun r190 =>
  vp_in r190 1472 ∧ wp_X7_hasMound (X7_s0 v z156_v_s) (z156_v_s r190.toNatClampNeg) (fun r194 =>
  ((r194 = 0 → wp_X7_of y156_4 0 (fun r208 =>
  vp_in r208 1472 ∧ wp_X7_comesUp (X7_s0 v z156_v_s) (z156_v_s r208.toNatClampNeg) (fun z212_v_s =>
  wp_X7_dug_215 v x1 y156_2 y156_4 z156_v_s B156 z212_v_s  Q))) ∧
  (¬ r194 = 0 → wp_X7_dug_215 v x1 y156_2 y156_4 z156_v_s B156 z156_v_s  Q))))) ∧
  (¬ (z156_v_s r175.toNatClampNeg) = 0 → B156 (y156_4 + 1) z156_v_s)))))
def wp_X7_dug_156 (v : V_X7) (x1 : Int32) (y156_2 : Int32) (y156_4 : Int32) (z156_v_s : (Nat → Int32)) (Q : Int32 → (Nat → Int32) → Prop) : Prop :=
  ∃ (I : Int32 → (Nat → Int32) → Prop) (μ : Int32 → (Nat → Int32) → Nat), I y156_4 z156_v_s ∧ ∀ (s0 : Int32) (s1 : (Nat → Int32)), I s0 s1 → wb_X7_dug_156 v x1 y156_2 s0 s1 (fun t0 t1 => I t0 t1 ∧ μ t0 t1 < μ s0 s1) Q
def wb_X7_dug_96 (v : V_X7) (x1 : Int32) (y96_2 : Int32) (y96_4 : Int32) (z96_v_s : (Nat → Int32)) (B96 : Int32 → (Nat → Int32) → Prop) (Q : Int32 → (Nat → Int32) → Prop) : Prop :=
  vp_in 1 1472 ∧ (((z96_v_s (1 : Int32).toNatClampNeg) ≤ y96_4 → wp_X7_dug_156 v x1 y96_2 0 z96_v_s Q) ∧
  (¬ (z96_v_s (1 : Int32).toNatClampNeg) ≤ y96_4 → wp_X7_of y96_4 23 (fun r115 =>
  wp_X7_inTrail (X7_s0 v z96_v_s) y96_4 x1 0 (fun r123 =>
  ((r123 = (-1) → wp_X7_of y96_4 23 (fun r138 =>
  vp_in r138 1472 ∧ vp_in r115 1472 ∧ B96 (y96_4 + 1) (upd z96_v_s r115.toNatClampNeg (z96_v_s r138.toNatClampNeg)))) ∧
  (¬ r123 = (-1) → vp_in r115 1472 ∧ B96 (y96_4 + 1) (upd z96_v_s r115.toNatClampNeg 0)))))))
def wp_X7_dug_96 (v : V_X7) (x1 : Int32) (y96_2 : Int32) (y96_4 : Int32) (z96_v_s : (Nat → Int32)) (Q : Int32 → (Nat → Int32) → Prop) : Prop :=
  ∃ (I : Int32 → (Nat → Int32) → Prop) (μ : Int32 → (Nat → Int32) → Nat), I y96_4 z96_v_s ∧ ∀ (s0 : Int32) (s1 : (Nat → Int32)), I s0 s1 → wb_X7_dug_96 v x1 y96_2 s0 s1 (fun t0 t1 => I t0 t1 ∧ μ t0 t1 < μ s0 s1) Q
def wb_X7_dug_48 (v : V_X7) (x1 : Int32) (y48_2 : Int32) (y48_3 : Int32) (z48_v_s : (Nat → Int32)) (B48 : Int32 → (Nat → Int32) → Prop) (Q : Int32 → (Nat → Int32) → Prop) : Prop :=
  ((y48_3 < 0 → vp_in (8 + x1) 1472 ∧ wp_X7_fallsIn (X7_s0 v (upd z48_v_s (8 + x1).toNatClampNeg 0)) x1 (fun r89 z89_v_s =>
  wp_X7_dug_96 v x1 y48_2 0 z89_v_s Q)) ∧
  (¬ y48_3 < 0 → wp_X7_of y48_3 0 (fun r58 =>
  vp_in r58 1472 ∧ (((z48_v_s r58.toNatClampNeg) = x1 → wp_X7_isCaught (X7_s0 v z48_v_s) y48_3 (fun z68_v_s =>
  B48 (y48_3 + (-1)) z68_v_s)) ∧
  (¬ (z48_v_s r58.toNatClampNeg) = x1 → B48 (y48_3 + (-1)) z48_v_s)))))
def wp_X7_dug_48 (v : V_X7) (x1 : Int32) (y48_2 : Int32) (y48_3 : Int32) (z48_v_s : (Nat → Int32)) (Q : Int32 → (Nat → Int32) → Prop) : Prop :=
  ∃ (I : Int32 → (Nat → Int32) → Prop) (μ : Int32 → (Nat → Int32) → Nat), I y48_3 z48_v_s ∧ ∀ (s0 : Int32) (s1 : (Nat → Int32)), I s0 s1 → wb_X7_dug_48 v x1 y48_2 s0 s1 (fun t0 t1 => I t0 t1 ∧ μ t0 t1 < μ s0 s1) Q
def wp_X7_dug (v : V_X7) (x1 : Int32) (Q : Int32 → (Nat → Int32) → Prop) : Prop :=
  vp_in (200 + x1) 1472 ∧ vp_in (72 + x1) 1472 ∧ vp_in (136 + x1) 1472 ∧ vp_in 2 1472 ∧ vp_in 1 1472 ∧ wp_X7_dug_48 v x1 ((upd (upd (upd (X7_s v) (200 + x1).toNatClampNeg 1) (72 + x1).toNatClampNeg 0) (136 + x1).toNatClampNeg (-1)) (2 : Int32).toNatClampNeg) (((upd (upd (upd (X7_s v) (200 + x1).toNatClampNeg 1) (72 + x1).toNatClampNeg 0) (136 + x1).toNatClampNeg (-1)) (1 : Int32).toNatClampNeg) - 1) (upd (upd (upd (X7_s v) (200 + x1).toNatClampNeg 1) (72 + x1).toNatClampNeg 0) (136 + x1).toNatClampNeg (-1)) Q
def wp_X7_dig_13 (v : V_X7) (x1 : Int32) (k13_0 : Int32) (Q : Int32 → (Nat → Int32) → (Nat → Int32) → Int32 → Int32 → Prop) : Prop :=
  wp_X7_holds v k13_0 (fun r13 z13_v_thrown =>
  ((r13 = 0 → Q 0 (X7_s v) (X7_saved v) (X7_savedMany v) z13_v_thrown) ∧
  (¬ r13 = 0 → wp_X7_save (X7_s8 v z13_v_thrown) (fun z22_v_saved z22_v_savedMany =>
  wp_X7_dug ((X7_s v), (X7_aside v), (X7_kept v), (X7_isKept v), z22_v_saved, z22_v_savedMany, (X7_text v), (X7_length v), z13_v_thrown, (X7_joint v), (X7_position v), (X7_isWrong v), (X7_isHollow v), (X7_sure v), (X7_away v), (X7_digested v)) x1 (fun r27 z27_v_s =>
  Q r27 z27_v_s z22_v_saved z22_v_savedMany z13_v_thrown)))))
def wp_X7_dig (v : V_X7) (x1 : Int32) (Q : Int32 → (Nat → Int32) → (Nat → Int32) → Int32 → Int32 → Prop) : Prop :=
  wp_X7_isTuft x1 (fun r2 =>
  ((r2 = 0 → wp_X7_dig_13 v x1 1  Q) ∧
  (¬ r2 = 0 → wp_X7_dig_13 v x1 0  Q)))
def wp_X7_endsAt (v : V_X7) (x1 : Int32) (x2 : Int32) (Q : Int32 → Prop) : Prop :=
  wp_X7_tuftAt v x1 (fun r2 =>
  ((r2 = x2 → Q 1) ∧
  (¬ r2 = x2 → wp_X7_endFrom v x1 (fun r12 =>
  wp_X7_tuftAt v r12 (fun r15 =>
  ((r15 = x2 → Q 1) ∧
  (¬ r15 = x2 → Q 0)))))))
def wp_X7_otherEnd (v : V_X7) (x1 : Int32) (x2 : Int32) (Q : Int32 → Prop) : Prop :=
  wp_X7_tuftAt v x1 (fun r2 =>
  ((r2 = x2 → wp_X7_endFrom v x1 (fun r12 =>
  wp_X7_tuftAt v r12 (fun r15 =>
  Q r15))) ∧
  (¬ r2 = x2 → wp_X7_tuftAt v x1 (fun r23 =>
  Q r23))))
def wp_X7_nextEnding_33 (v : V_X7) (x1 : Int32) (x2 : Int32) (y33_3 : Int32) (Q : Int32 → Prop) : Prop :=
  vp_in 7 1472 ∧ ((((X7_s v) (7 : Int32).toNatClampNeg) ≤ y33_3 → Q (-1)) ∧
  (¬ ((X7_s v) (7 : Int32).toNatClampNeg) ≤ y33_3 → Q y33_3))
def wb_X7_nextEnding_2 (v : V_X7) (x1 : Int32) (x2 : Int32)  (y2_3 : Int32) (B2 : Int32 → Prop) (Q : Int32 → Prop) : Prop :=
  vp_in 7 1472 ∧ ((((X7_s v) (7 : Int32).toNatClampNeg) ≤ y2_3 → wp_X7_nextEnding_33 v x1 x2 y2_3  Q) ∧
  (¬ ((X7_s v) (7 : Int32).toNatClampNeg) ≤ y2_3 → wp_X7_endsAt v y2_3 x2 (fun r16 =>
  ((r16 = 0 → wp_X7_endFrom v y2_3 (fun r24 =>
  B2 (r24 + 1))) ∧
  (¬ r16 = 0 → wp_X7_nextEnding_33 v x1 x2 y2_3  Q)))))
def wp_X7_nextEnding_2 (v : V_X7) (x1 : Int32) (x2 : Int32)  (y2_3 : Int32) (Q : Int32 → Prop) : Prop :=
  ∃ (I : Int32 → Prop) (μ : Int32 → Nat), I y2_3 ∧ ∀ (s0 : Int32), I s0 → wb_X7_nextEnding_2 v x1 x2  s0 (fun t0 => I t0 ∧ μ t0 < μ s0) Q
def wp_X7_nextEnding (v : V_X7) (x1 : Int32) (x2 : Int32) (Q : Int32 → Prop) : Prop :=
  wp_X7_nextEnding_2 v x1 x2  x1 Q
def wb_X7_endingAt_9 (v : V_X7) (x1 : Int32)  (y9_2 : Int32) (y9_3 : Int32) (B9 : Int32 → Int32 → Prop) (Q : Int32 → Prop) : Prop :=
  ((y9_3 = (-1) → Q y9_2) ∧
  (¬ y9_3 = (-1) → wp_X7_endFrom v y9_3 (fun r20 =>
  wp_X7_nextEnding v (r20 + 1) x1 (fun r26 =>
  B9 (y9_2 + 1) r26))))
def wp_X7_endingAt_9 (v : V_X7) (x1 : Int32)  (y9_2 : Int32) (y9_3 : Int32) (Q : Int32 → Prop) : Prop :=
  ∃ (I : Int32 → Int32 → Prop) (μ : Int32 → Int32 → Nat), I y9_2 y9_3 ∧ ∀ (s0 : Int32) (s1 : Int32), I s0 s1 → wb_X7_endingAt_9 v x1  s0 s1 (fun t0 t1 => I t0 t1 ∧ μ t0 t1 < μ s0 s1) Q
def wp_X7_endingAt (v : V_X7) (x1 : Int32) (Q : Int32 → Prop) : Prop :=
  wp_X7_nextEnding v 0 x1 (fun r5 =>
  wp_X7_endingAt_9 v x1  0 r5 Q)
def wb_X7_joins_182 (v : V_X7) (x1 : Int32) (x2 : Int32) (x3 : Int32) (y182_6 : Int32) (z182_v_joint : (Nat → Int32)) (y182_8 : Int32) (z182_v_s : (Nat → Int32)) (B182 : Int32 → (Nat → Int32) → Prop) (Q : (Nat → Int32) → (Nat → Int32) → Prop) : Prop :=
  ((y182_6 ≤ y182_8 → Q z182_v_joint z182_v_s) ∧
  (¬ y182_6 ≤ y182_8 → vp_in y182_8 1024 ∧ ((y182_8 = (y182_6 - 1) → vp_in ((448 + x1) + y182_8) 1472 ∧ B182 (y182_8 + 1) (upd z182_v_s ((448 + x1) + y182_8).toNatClampNeg ((z182_v_joint y182_8.toNatClampNeg) + 64))) ∧
  (¬ y182_8 = (y182_6 - 1) → vp_in ((448 + x1) + y182_8) 1472 ∧ B182 (y182_8 + 1) (upd z182_v_s ((448 + x1) + y182_8).toNatClampNeg ((z182_v_joint y182_8.toNatClampNeg) + 0))))))
def wp_X7_joins_182 (v : V_X7) (x1 : Int32) (x2 : Int32) (x3 : Int32) (y182_6 : Int32) (z182_v_joint : (Nat → Int32)) (y182_8 : Int32) (z182_v_s : (Nat → Int32)) (Q : (Nat → Int32) → (Nat → Int32) → Prop) : Prop :=
  ∃ (I : Int32 → (Nat → Int32) → Prop) (μ : Int32 → (Nat → Int32) → Nat), I y182_8 z182_v_s ∧ ∀ (s0 : Int32) (s1 : (Nat → Int32)), I s0 s1 → wb_X7_joins_182 v x1 x2 x3 y182_6 z182_v_joint s0 s1 (fun t0 t1 => I t0 t1 ∧ μ t0 t1 < μ s0 s1) Q
def wp_X7_joins_135 (v : V_X7) (x1 : Int32) (x2 : Int32) (x3 : Int32) (y102_4 : Int32) (y102_5 : Int32) (y102_7 : Int32) (y102_6 : Int32) (y102_8 : Int32) (z102_v_joint : (Nat → Int32)) (B102 : Int32 → Int32 → (Nat → Int32) → Prop) (k135_0 : Int32) (k135_2 : Int32) (Q : (Nat → Int32) → (Nat → Int32) → Prop) : Prop :=
  wp_X7_tuftAt (X7_s9 v z102_v_joint) k135_0 (fun r135 =>
  vp_in k135_2 1024 ∧ B102 (y102_6 + 1) (y102_8 + 1) (upd z102_v_joint k135_2.toNatClampNeg r135))
def wb_X7_joins_102 (v : V_X7) (x1 : Int32) (x2 : Int32) (x3 : Int32) (y102_4 : Int32) (y102_5 : Int32) (y102_7 : Int32) (y102_6 : Int32) (y102_8 : Int32) (z102_v_joint : (Nat → Int32)) (B102 : Int32 → Int32 → (Nat → Int32) → Prop) (Q : (Nat → Int32) → (Nat → Int32) → Prop) : Prop :=
  (((y102_5 - x2) < y102_8 → wp_X7_shifts (X7_s9 v z102_v_joint) (y102_5 + 1) ((x2 - y102_5) - 1) (fun z159_v_s =>
  wp_X7_shifts (X7_s9 (X7_s0 v z159_v_s) z102_v_joint) (y102_4 + 1) (y102_6 - ((y102_4 - x1) + 1)) (fun z176_v_s =>
  wp_X7_joins_182 v x1 x2 x3 y102_6 z102_v_joint 0 z176_v_s Q))) ∧
  (¬ (y102_5 - x2) < y102_8 → ((y102_7 = 0 → wp_X7_joins_135 v x1 x2 x3 y102_4 y102_5 y102_7 y102_6 y102_8 z102_v_joint B102 (y102_5 - y102_8) y102_6  Q) ∧
  (¬ y102_7 = 0 → wp_X7_joins_135 v x1 x2 x3 y102_4 y102_5 y102_7 y102_6 y102_8 z102_v_joint B102 (x2 + y102_8) y102_6  Q))))
def wp_X7_joins_102 (v : V_X7) (x1 : Int32) (x2 : Int32) (x3 : Int32) (y102_4 : Int32) (y102_5 : Int32) (y102_7 : Int32) (y102_6 : Int32) (y102_8 : Int32) (z102_v_joint : (Nat → Int32)) (Q : (Nat → Int32) → (Nat → Int32) → Prop) : Prop :=
  ∃ (I : Int32 → Int32 → (Nat → Int32) → Prop) (μ : Int32 → Int32 → (Nat → Int32) → Nat), I y102_6 y102_8 z102_v_joint ∧ ∀ (s0 : Int32) (s1 : Int32) (s2 : (Nat → Int32)), I s0 s1 s2 → wb_X7_joins_102 v x1 x2 x3 y102_4 y102_5 y102_7 s0 s1 s2 (fun t0 t1 t2 => I t0 t1 t2 ∧ μ t0 t1 t2 < μ s0 s1 s2) Q
def wp_X7_joins_70 (v : V_X7) (x1 : Int32) (x2 : Int32) (x3 : Int32) (y37_4 : Int32) (y37_5 : Int32) (y37_7 : Int32) (y37_6 : Int32) (y37_8 : Int32) (z37_v_joint : (Nat → Int32)) (B37 : Int32 → Int32 → (Nat → Int32) → Prop) (k70_0 : Int32) (k70_2 : Int32) (Q : (Nat → Int32) → (Nat → Int32) → Prop) : Prop :=
  wp_X7_tuftAt (X7_s9 v z37_v_joint) k70_0 (fun r70 =>
  vp_in k70_2 1024 ∧ B37 (y37_6 + 1) (y37_8 + 1) (upd z37_v_joint k70_2.toNatClampNeg r70))
def wb_X7_joins_37 (v : V_X7) (x1 : Int32) (x2 : Int32) (x3 : Int32) (y37_4 : Int32) (y37_5 : Int32) (y37_7 : Int32) (y37_6 : Int32) (y37_8 : Int32) (z37_v_joint : (Nat → Int32)) (B37 : Int32 → Int32 → (Nat → Int32) → Prop) (Q : (Nat → Int32) → (Nat → Int32) → Prop) : Prop :=
  (((y37_4 - x1) < y37_8 → wp_X7_tuftAt (X7_s9 v z37_v_joint) x2 (fun r85 =>
  ((r85 = x3 → wp_X7_joins_102 v x1 x2 x3 y37_4 y37_5 1 y37_6 1 z37_v_joint Q) ∧
  (¬ r85 = x3 → wp_X7_joins_102 v x1 x2 x3 y37_4 y37_5 0 y37_6 1 z37_v_joint Q)))) ∧
  (¬ (y37_4 - x1) < y37_8 → ((y37_7 = 0 → wp_X7_joins_70 v x1 x2 x3 y37_4 y37_5 y37_7 y37_6 y37_8 z37_v_joint B37 (y37_4 - y37_8) y37_6  Q) ∧
  (¬ y37_7 = 0 → wp_X7_joins_70 v x1 x2 x3 y37_4 y37_5 y37_7 y37_6 y37_8 z37_v_joint B37 (x1 + y37_8) y37_6  Q))))
def wp_X7_joins_37 (v : V_X7) (x1 : Int32) (x2 : Int32) (x3 : Int32) (y37_4 : Int32) (y37_5 : Int32) (y37_7 : Int32) (y37_6 : Int32) (y37_8 : Int32) (z37_v_joint : (Nat → Int32)) (Q : (Nat → Int32) → (Nat → Int32) → Prop) : Prop :=
  ∃ (I : Int32 → Int32 → (Nat → Int32) → Prop) (μ : Int32 → Int32 → (Nat → Int32) → Nat), I y37_6 y37_8 z37_v_joint ∧ ∀ (s0 : Int32) (s1 : Int32) (s2 : (Nat → Int32)), I s0 s1 s2 → wb_X7_joins_37 v x1 x2 x3 y37_4 y37_5 y37_7 s0 s1 s2 (fun t0 t1 t2 => I t0 t1 t2 ∧ μ t0 t1 t2 < μ s0 s1 s2) Q
def wp_X7_joins (v : V_X7) (x1 : Int32) (x2 : Int32) (x3 : Int32) (Q : (Nat → Int32) → (Nat → Int32) → Prop) : Prop :=
  wp_X7_endFrom v x1 (fun r2 =>
  wp_X7_endFrom v x2 (fun r9 =>
  wp_X7_tuftAt v r2 (fun r20 =>
  ((r20 = x3 → wp_X7_joins_37 v x1 x2 x3 r2 r9 1 0 0 (X7_joint v) Q) ∧
  (¬ r20 = x3 → wp_X7_joins_37 v x1 x2 x3 r2 r9 0 0 0 (X7_joint v) Q)))))
def wb_X7_beginsTrailAt_4 (v : V_X7) (x1 : Int32)  (y4_2 : Int32) (y4_3 : Int32) (B4 : Int32 → Int32 → Prop) (Q : Int32 → Prop) : Prop :=
  vp_in 1 1472 ∧ ((((X7_s v) (1 : Int32).toNatClampNeg) ≤ y4_3 → bz y4_2 ∧ Q y4_2) ∧
  (¬ ((X7_s v) (1 : Int32).toNatClampNeg) ≤ y4_3 → ((y4_2 = 0 → wp_X7_of y4_3 24 (fun r25 =>
  vp_in r25 1472 ∧ ((((X7_s v) r25.toNatClampNeg) = x1 → B4 1 (y4_3 + 1)) ∧
  (¬ ((X7_s v) r25.toNatClampNeg) = x1 → B4 0 (y4_3 + 1))))) ∧
  (¬ y4_2 = 0 → B4 1 (y4_3 + 1)))))
def wp_X7_beginsTrailAt_4 (v : V_X7) (x1 : Int32)  (y4_2 : Int32) (y4_3 : Int32) (Q : Int32 → Prop) : Prop :=
  ∃ (I : Int32 → Int32 → Prop) (μ : Int32 → Int32 → Nat), I y4_2 y4_3 ∧ ∀ (s0 : Int32) (s1 : Int32), I s0 s1 → wb_X7_beginsTrailAt_4 v x1  s0 s1 (fun t0 t1 => I t0 t1 ∧ μ t0 t1 < μ s0 s1) Q
def wp_X7_beginsTrailAt (v : V_X7) (x1 : Int32) (Q : Int32 → Prop) : Prop :=
  wp_X7_beginsTrailAt_4 v x1  0 0 Q
def wp_X7_rake_117 (v : V_X7) (x1 : Int32) (z117_v_joint : (Nat → Int32)) (z117_v_s : (Nat → Int32)) (z117_v_saved : (Nat → Int32)) (z117_v_savedMany : Int32) (z117_v_thrown : Int32) (Q : Int32 → (Nat → Int32) → (Nat → Int32) → (Nat → Int32) → Int32 → Int32 → Prop) : Prop :=
  wp_X7_fallsIn (z117_v_s, (X7_aside v), (X7_kept v), (X7_isKept v), z117_v_saved, z117_v_savedMany, (X7_text v), (X7_length v), z117_v_thrown, z117_v_joint, (X7_position v), (X7_isWrong v), (X7_isHollow v), (X7_sure v), (X7_away v), (X7_digested v)) x1 (fun r119 z119_v_s =>
  Q r119 z117_v_joint z119_v_s z117_v_saved z117_v_savedMany z117_v_thrown)
def wp_X7_rake_83 (v : V_X7) (x1 : Int32) (y83_2 : Int32) (z83_v_s : (Nat → Int32)) (z83_v_saved : (Nat → Int32)) (z83_v_savedMany : Int32) (z83_v_thrown : Int32) (k83_0 : Int32) (Q : Int32 → (Nat → Int32) → (Nat → Int32) → (Nat → Int32) → Int32 → Int32 → Prop) : Prop :=
  wp_X7_endingAt (z83_v_s, (X7_aside v), (X7_kept v), (X7_isKept v), z83_v_saved, z83_v_savedMany, (X7_text v), (X7_length v), z83_v_thrown, (X7_joint v), (X7_position v), (X7_isWrong v), (X7_isHollow v), (X7_sure v), (X7_away v), (X7_digested v)) x1 (fun r86 =>
  ((r86 = 2 → wp_X7_otherEnd (z83_v_s, (X7_aside v), (X7_kept v), (X7_isKept v), z83_v_saved, z83_v_savedMany, (X7_text v), (X7_length v), z83_v_thrown, (X7_joint v), (X7_position v), (X7_isWrong v), (X7_isHollow v), (X7_sure v), (X7_away v), (X7_digested v)) y83_2 x1 (fun r96 =>
  wp_X7_otherEnd (z83_v_s, (X7_aside v), (X7_kept v), (X7_isKept v), z83_v_saved, z83_v_savedMany, (X7_text v), (X7_length v), z83_v_thrown, (X7_joint v), (X7_position v), (X7_isWrong v), (X7_isHollow v), (X7_sure v), (X7_away v), (X7_digested v)) k83_0 x1 (fun r102 =>
  ((r96 = r102 → wp_X7_rake_117 v x1 (X7_joint v) z83_v_s z83_v_saved z83_v_savedMany z83_v_thrown  Q) ∧
  (¬ r96 = r102 → wp_X7_joins (z83_v_s, (X7_aside v), (X7_kept v), (X7_isKept v), z83_v_saved, z83_v_savedMany, (X7_text v), (X7_length v), z83_v_thrown, (X7_joint v), (X7_position v), (X7_isWrong v), (X7_isHollow v), (X7_sure v), (X7_away v), (X7_digested v)) y83_2 k83_0 x1 (fun z112_v_joint z112_v_s =>
  Q 1 z112_v_joint z112_v_s z83_v_saved z83_v_savedMany z83_v_thrown)))))) ∧
  (¬ r86 = 2 → wp_X7_rake_117 v x1 (X7_joint v) z83_v_s z83_v_saved z83_v_savedMany z83_v_thrown  Q)))
def wp_X7_rake_33 (v : V_X7) (x1 : Int32) (k33_0 : Int32) (Q : Int32 → (Nat → Int32) → (Nat → Int32) → (Nat → Int32) → Int32 → Int32 → Prop) : Prop :=
  wp_X7_holds v k33_0 (fun r33 z33_v_thrown =>
  ((r33 = 0 → Q 0 (X7_joint v) (X7_s v) (X7_saved v) (X7_savedMany v) z33_v_thrown) ∧
  (¬ r33 = 0 → wp_X7_save (X7_s8 v z33_v_thrown) (fun z42_v_saved z42_v_savedMany =>
  vp_in (8 + x1) 1472 ∧ wp_X7_nextEnding ((upd (X7_s v) (8 + x1).toNatClampNeg 0), (X7_aside v), (X7_kept v), (X7_isKept v), z42_v_saved, z42_v_savedMany, (X7_text v), (X7_length v), z33_v_thrown, (X7_joint v), (X7_position v), (X7_isWrong v), (X7_isHollow v), (X7_sure v), (X7_away v), (X7_digested v)) 0 x1 (fun r58 =>
  ((r58 = (-1) → wp_X7_rake_83 v x1 r58 (upd (X7_s v) (8 + x1).toNatClampNeg 0) z42_v_saved z42_v_savedMany z33_v_thrown (-1)  Q) ∧
  (¬ r58 = (-1) → wp_X7_endFrom ((upd (X7_s v) (8 + x1).toNatClampNeg 0), (X7_aside v), (X7_kept v), (X7_isKept v), z42_v_saved, z42_v_savedMany, (X7_text v), (X7_length v), z33_v_thrown, (X7_joint v), (X7_position v), (X7_isWrong v), (X7_isHollow v), (X7_sure v), (X7_away v), (X7_digested v)) r58 (fun r74 =>
  wp_X7_nextEnding ((upd (X7_s v) (8 + x1).toNatClampNeg 0), (X7_aside v), (X7_kept v), (X7_isKept v), z42_v_saved, z42_v_savedMany, (X7_text v), (X7_length v), z33_v_thrown, (X7_joint v), (X7_position v), (X7_isWrong v), (X7_isHollow v), (X7_sure v), (X7_away v), (X7_digested v)) (r74 + 1) x1 (fun r80 =>
  wp_X7_rake_83 v x1 r58 (upd (X7_s v) (8 + x1).toNatClampNeg 0) z42_v_saved z42_v_savedMany z33_v_thrown r80  Q)))))))))
def wp_X7_rake_28 (v : V_X7) (x1 : Int32)  (Q : Int32 → (Nat → Int32) → (Nat → Int32) → (Nat → Int32) → Int32 → Int32 → Prop) : Prop :=
  wp_X7_rake_33 v x1 2  Q
def wp_X7_rake (v : V_X7) (x1 : Int32) (Q : Int32 → (Nat → Int32) → (Nat → Int32) → (Nat → Int32) → Int32 → Int32 → Prop) : Prop :=
  wp_X7_isTuft x1 (fun r2 =>
  ((r2 = 0 → wp_X7_rake_33 v x1 1  Q) ∧
  (¬ r2 = 0 → wp_X7_hasMound v x1 (fun r14 =>
  ((r14 = 0 → wp_X7_rake_28 v x1   Q) ∧
  (¬ r14 = 0 → wp_X7_beginsTrailAt v x1 (fun r22 =>
  ((r22 = 0 → wp_X7_rake_33 v x1 0  Q) ∧
  (¬ r22 = 0 → wp_X7_rake_28 v x1   Q)))))))))
def wb_X7_set_34 (v : V_X7) (x1 : Int32) (y34_2 : Int32) (z34_v_saved : (Nat → Int32)) (z34_v_savedMany : Int32) (z34_v_thrown : Int32) (y34_3 : Int32) (z34_v_s : (Nat → Int32)) (B34 : Int32 → (Nat → Int32) → Prop) (Q : Int32 → (Nat → Int32) → (Nat → Int32) → Int32 → Int32 → Prop) : Prop :=
  vp_in 1 1472 ∧ (((z34_v_s (1 : Int32).toNatClampNeg) ≤ y34_3 → Q y34_2 z34_v_s z34_v_saved z34_v_savedMany z34_v_thrown) ∧
  (¬ (z34_v_s (1 : Int32).toNatClampNeg) ≤ y34_3 → wp_X7_of y34_3 1 (fun r50 =>
  wp_X7_of y34_3 1 (fun r59 =>
  vp_in r59 1472 ∧ (((z34_v_s r59.toNatClampNeg) ≤ x1 → wp_X7_of y34_3 1 (fun r77 =>
  vp_in r77 1472 ∧ vp_in r50 1472 ∧ B34 (y34_3 + 1) (upd z34_v_s r50.toNatClampNeg (z34_v_s r77.toNatClampNeg)))) ∧
  (¬ (z34_v_s r59.toNatClampNeg) ≤ x1 → vp_in r50 1472 ∧ B34 (y34_3 + 1) (upd z34_v_s r50.toNatClampNeg x1)))))))
def wp_X7_set_34 (v : V_X7) (x1 : Int32) (y34_2 : Int32) (z34_v_saved : (Nat → Int32)) (z34_v_savedMany : Int32) (z34_v_thrown : Int32) (y34_3 : Int32) (z34_v_s : (Nat → Int32)) (Q : Int32 → (Nat → Int32) → (Nat → Int32) → Int32 → Int32 → Prop) : Prop :=
  ∃ (I : Int32 → (Nat → Int32) → Prop) (μ : Int32 → (Nat → Int32) → Nat), I y34_3 z34_v_s ∧ ∀ (s0 : Int32) (s1 : (Nat → Int32)), I s0 s1 → wb_X7_set_34 v x1 y34_2 z34_v_saved z34_v_savedMany z34_v_thrown s0 s1 (fun t0 t1 => I t0 t1 ∧ μ t0 t1 < μ s0 s1) Q
def wp_X7_set_16 (v : V_X7) (x1 : Int32) (k16_0 : Int32) (Q : Int32 → (Nat → Int32) → (Nat → Int32) → Int32 → Int32 → Prop) : Prop :=
  wp_X7_holds v k16_0 (fun r16 z16_v_thrown =>
  ((r16 = 0 → Q 0 (X7_s v) (X7_saved v) (X7_savedMany v) z16_v_thrown) ∧
  (¬ r16 = 0 → wp_X7_lays (X7_s8 v z16_v_thrown) 6 x1 (fun r28 z28_v_s z28_v_saved z28_v_savedMany =>
  wp_X7_set_34 v x1 r28 z28_v_saved z28_v_savedMany z16_v_thrown 0 z28_v_s Q))))
def wp_X7_set (v : V_X7) (x1 : Int32) (Q : Int32 → (Nat → Int32) → (Nat → Int32) → Int32 → Int32 → Prop) : Prop :=
  wp_X7_in x1 2 20 (fun r5 =>
  ((r5 = 0 → wp_X7_set_16 v x1 1  Q) ∧
  (¬ r5 = 0 → wp_X7_set_16 v x1 0  Q)))
def wp_X7_append_30 (v : V_X7) (x1 : Int32) (k30_0 : Int32) (Q : Int32 → Int32 → (Nat → Int32) → Int32 → Prop) : Prop :=
  wp_X7_holds v k30_0 (fun r30 z30_v_thrown =>
  ((r30 = 0 → Q 0 (X7_length v) (X7_text v) z30_v_thrown) ∧
  (¬ r30 = 0 → vp_in (X7_length v) 60 ∧ Q ((X7_length v) + 1) ((X7_length v) + 1) (upd (X7_text v) (X7_length v).toNatClampNeg x1) z30_v_thrown)))
def wp_X7_append (v : V_X7) (x1 : Int32) (Q : Int32 → Int32 → (Nat → Int32) → Int32 → Prop) : Prop :=
  wp_X7_in x1 33 126 (fun r6 =>
  ((r6 = 0 → wp_X7_append_30 v x1 1  Q) ∧
  (¬ r6 = 0 → (((X7_length v) = 60 → wp_X7_append_30 v x1 2  Q) ∧
  (¬ (X7_length v) = 60 → wp_X7_append_30 v x1 0  Q)))))
def wp_X7_clearBuffer (v : V_X7) (Q : Int32 → Int32 → Int32 → Prop) : Prop :=
  Q (X7_length v) 0 0
def wp_X7_directionOf (x0 : Int32) (Q : Int32 → Prop) : Prop :=
  ((x0 = 110 → Q 0) ∧
  (¬ x0 = 110 → ((x0 = 101 → Q 1) ∧
  (¬ x0 = 101 → ((x0 = 115 → Q 2) ∧
  (¬ x0 = 115 → ((x0 = 119 → Q 3) ∧
  (¬ x0 = 119 → Q (-1)))))))))
def wp_X7_isDirection (v : V_X7) (Q : Int32 → Prop) : Prop :=
  (((X7_isWrong v) = 0 → (((X7_length v) ≤ (X7_position v) → Q 0) ∧
  (¬ (X7_length v) ≤ (X7_position v) → vp_in (X7_position v) 60 ∧ wp_X7_directionOf ((X7_text v) (X7_position v).toNatClampNeg) (fun r27 =>
  ((r27 = (-1) → Q 0) ∧
  (¬ r27 = (-1) → Q 1)))))) ∧
  (¬ (X7_isWrong v) = 0 → Q 0))
def wp_X7_takes_47 (v : V_X7) (x1 : Int32) (x2 : Int32) (y47_3 : Int32) (k47_0 : Int32) (Q : Int32 → Int32 → Int32 → Prop) : Prop :=
  bz k47_0 ∧ ((k47_0 = 0 → Q (y47_3 - x1) k47_0 ((X7_position v) + 1)) ∧
  (¬ k47_0 = 0 → Q (y47_3 - x1) k47_0 ((X7_position v) + 0)))
def wp_X7_takes_42 (v : V_X7) (x1 : Int32) (x2 : Int32) (y42_3 : Int32) (Q : Int32 → Int32 → Int32 → Prop) : Prop :=
  wp_X7_takes_47 v x1 x2 y42_3 1  Q
def wp_X7_takes_24 (v : V_X7) (x1 : Int32) (x2 : Int32) (k24_0 : Int32) (Q : Int32 → Int32 → Int32 → Prop) : Prop :=
  (((X7_isWrong v) = 0 → wp_X7_in k24_0 x1 x2 (fun r36 =>
  ((r36 = 0 → wp_X7_takes_42 v x1 x2 k24_0  Q) ∧
  (¬ r36 = 0 → wp_X7_takes_47 v x1 x2 k24_0 0  Q)))) ∧
  (¬ (X7_isWrong v) = 0 → wp_X7_takes_42 v x1 x2 k24_0  Q))
def wp_X7_takes (v : V_X7) (x1 : Int32) (x2 : Int32) (Q : Int32 → Int32 → Int32 → Prop) : Prop :=
  (((X7_length v) ≤ (X7_position v) → wp_X7_takes_24 v x1 x2 0  Q) ∧
  (¬ (X7_length v) ≤ (X7_position v) → vp_in (X7_position v) 60 ∧ wp_X7_takes_24 v x1 x2 ((X7_text v) (X7_position v).toNatClampNeg)  Q))
def wp_X7_reads_137 (v : V_X7) (x1 : Int32) (y14_2 : Int32) (y14_3 : Int32) (z14_v_isWrong : Int32) (z14_v_position : Int32) (z14_v_s : (Nat → Int32)) (B14 : Int32 → Int32 → Int32 → Int32 → (Nat → Int32) → Prop) (y137_2 : Int32) (z137_v_isWrong : Int32) (z137_v_position : Int32) (z137_v_s : (Nat → Int32)) (k137_0 : Int32) (Q : Int32 → Int32 → Int32 → (Nat → Int32) → Prop) : Prop :=
  ((k137_0 = 0 → B14 y137_2 k137_0 z137_v_isWrong z137_v_position z137_v_s) ∧
  (¬ k137_0 = 0 → wp_X7_takes (z137_v_s, (X7_aside v), (X7_kept v), (X7_isKept v), (X7_saved v), (X7_savedMany v), (X7_text v), (X7_length v), (X7_thrown v), (X7_joint v), z137_v_position, z137_v_isWrong, (X7_isHollow v), (X7_sure v), (X7_away v), (X7_digested v)) 59 59 (fun r147 z147_v_isWrong z147_v_position =>
  ((z147_v_isWrong = 0 → B14 y137_2 1 z147_v_isWrong z147_v_position z137_v_s) ∧
  (¬ z147_v_isWrong = 0 → B14 y137_2 0 z147_v_isWrong z147_v_position z137_v_s)))))
def wp_X7_reads_136 (v : V_X7) (x1 : Int32) (y14_2 : Int32) (y14_3 : Int32) (z14_v_isWrong : Int32) (z14_v_position : Int32) (z14_v_s : (Nat → Int32)) (B14 : Int32 → Int32 → Int32 → Int32 → (Nat → Int32) → Prop) (y136_2 : Int32) (z136_v_isWrong : Int32) (z136_v_position : Int32) (z136_v_s : (Nat → Int32)) (Q : Int32 → Int32 → Int32 → (Nat → Int32) → Prop) : Prop :=
  wp_X7_reads_137 v x1 y14_2 y14_3 z14_v_isWrong z14_v_position z14_v_s B14 y136_2 z136_v_isWrong z136_v_position z136_v_s 0  Q
def wp_X7_reads_99 (v : V_X7) (x1 : Int32) (y14_2 : Int32) (y14_3 : Int32) (z14_v_isWrong : Int32) (z14_v_position : Int32) (z14_v_s : (Nat → Int32)) (B14 : Int32 → Int32 → Int32 → Int32 → (Nat → Int32) → Prop) (y61_4 : Int32) (z61_v_isWrong : Int32) (y61_2 : Int32) (z61_v_position : Int32) (z61_v_s : (Nat → Int32)) (B61 : Int32 → Int32 → (Nat → Int32) → Prop) (z99_v_s : (Nat → Int32)) (k99_0 : Int32) (k99_1 : Int32) (Q : Int32 → Int32 → Int32 → (Nat → Int32) → Prop) : Prop :=
  B61 (k99_1 + k99_0) (z61_v_position + 1) z99_v_s
def wp_X7_reads_98 (v : V_X7) (x1 : Int32) (y14_2 : Int32) (y14_3 : Int32) (z14_v_isWrong : Int32) (z14_v_position : Int32) (z14_v_s : (Nat → Int32)) (B14 : Int32 → Int32 → Int32 → Int32 → (Nat → Int32) → Prop) (y61_4 : Int32) (z61_v_isWrong : Int32) (y61_2 : Int32) (z61_v_position : Int32) (z61_v_s : (Nat → Int32)) (B61 : Int32 → Int32 → (Nat → Int32) → Prop) (z98_v_s : (Nat → Int32)) (k98_0 : Int32) (Q : Int32 → Int32 → Int32 → (Nat → Int32) → Prop) : Prop :=
  wp_X7_reads_99 v x1 y14_2 y14_3 z14_v_isWrong z14_v_position z14_v_s B14 y61_4 z61_v_isWrong y61_2 z61_v_position z61_v_s B61 z98_v_s 0 k98_0  Q
def wb_X7_reads_61 (v : V_X7) (x1 : Int32) (y14_2 : Int32) (y14_3 : Int32) (z14_v_isWrong : Int32) (z14_v_position : Int32) (z14_v_s : (Nat → Int32)) (B14 : Int32 → Int32 → Int32 → Int32 → (Nat → Int32) → Prop) (y61_4 : Int32) (z61_v_isWrong : Int32) (y61_2 : Int32) (z61_v_position : Int32) (z61_v_s : (Nat → Int32)) (B61 : Int32 → Int32 → (Nat → Int32) → Prop) (Q : Int32 → Int32 → Int32 → (Nat → Int32) → Prop) : Prop :=
  wp_X7_isDirection (z61_v_s, (X7_aside v), (X7_kept v), (X7_isKept v), (X7_saved v), (X7_savedMany v), (X7_text v), (X7_length v), (X7_thrown v), (X7_joint v), z61_v_position, z61_v_isWrong, (X7_isHollow v), (X7_sure v), (X7_away v), (X7_digested v)) (fun r62 =>
  ((r62 = 0 → ((z61_v_isWrong = 0 → (((X7_length v) ≤ z61_v_position → wp_X7_reads_136 v x1 y14_2 y14_3 z14_v_isWrong z14_v_position z14_v_s B14 y61_2 z61_v_isWrong z61_v_position z61_v_s  Q) ∧
  (¬ (X7_length v) ≤ z61_v_position → wp_X7_reads_137 v x1 y14_2 y14_3 z14_v_isWrong z14_v_position z14_v_s B14 y61_2 z61_v_isWrong z61_v_position z61_v_s 1  Q))) ∧
  (¬ z61_v_isWrong = 0 → wp_X7_reads_136 v x1 y14_2 y14_3 z14_v_isWrong z14_v_position z14_v_s B14 y61_2 z61_v_isWrong z61_v_position z61_v_s  Q))) ∧
  (¬ r62 = 0 → ((x1 = 0 → wp_X7_reads_98 v x1 y14_2 y14_3 z14_v_isWrong z14_v_position z14_v_s B14 y61_4 z61_v_isWrong y61_2 z61_v_position z61_v_s B61 z61_v_s y61_2  Q) ∧
  (¬ x1 = 0 → vp_in z61_v_position 60 ∧ wp_X7_directionOf ((X7_text v) z61_v_position.toNatClampNeg) (fun r85 =>
  wp_X7_putsPlan (z61_v_s, (X7_aside v), (X7_kept v), (X7_isKept v), (X7_saved v), (X7_savedMany v), (X7_text v), (X7_length v), (X7_thrown v), (X7_joint v), z61_v_position, z61_v_isWrong, (X7_isHollow v), (X7_sure v), (X7_away v), (X7_digested v)) y61_4 r85 (fun r88 z88_v_s =>
  ((r88 = 0 → wp_X7_reads_98 v x1 y14_2 y14_3 z14_v_isWrong z14_v_position z14_v_s B14 y61_4 z61_v_isWrong y61_2 z61_v_position z61_v_s B61 z88_v_s y61_2  Q) ∧
  (¬ r88 = 0 → wp_X7_reads_99 v x1 y14_2 y14_3 z14_v_isWrong z14_v_position z14_v_s B14 y61_4 z61_v_isWrong y61_2 z61_v_position z61_v_s B61 z88_v_s 1 y61_2  Q)))))))))
def wp_X7_reads_61 (v : V_X7) (x1 : Int32) (y14_2 : Int32) (y14_3 : Int32) (z14_v_isWrong : Int32) (z14_v_position : Int32) (z14_v_s : (Nat → Int32)) (B14 : Int32 → Int32 → Int32 → Int32 → (Nat → Int32) → Prop) (y61_4 : Int32) (z61_v_isWrong : Int32) (y61_2 : Int32) (z61_v_position : Int32) (z61_v_s : (Nat → Int32)) (Q : Int32 → Int32 → Int32 → (Nat → Int32) → Prop) : Prop :=
  ∃ (I : Int32 → Int32 → (Nat → Int32) → Prop) (μ : Int32 → Int32 → (Nat → Int32) → Nat), I y61_2 z61_v_position z61_v_s ∧ ∀ (s0 : Int32) (s1 : Int32) (s2 : (Nat → Int32)), I s0 s1 s2 → wb_X7_reads_61 v x1 y14_2 y14_3 z14_v_isWrong z14_v_position z14_v_s B14 y61_4 z61_v_isWrong s0 s1 s2 (fun t0 t1 t2 => I t0 t1 t2 ∧ μ t0 t1 t2 < μ s0 s1 s2) Q
def wb_X7_reads_14 (v : V_X7) (x1 : Int32)  (y14_2 : Int32) (y14_3 : Int32) (z14_v_isWrong : Int32) (z14_v_position : Int32) (z14_v_s : (Nat → Int32)) (B14 : Int32 → Int32 → Int32 → Int32 → (Nat → Int32) → Prop) (Q : Int32 → Int32 → Int32 → (Nat → Int32) → Prop) : Prop :=
  ((y14_3 = 0 → Q y14_2 z14_v_isWrong z14_v_position z14_v_s) ∧
  (¬ y14_3 = 0 → wp_X7_takes (z14_v_s, (X7_aside v), (X7_kept v), (X7_isKept v), (X7_saved v), (X7_savedMany v), (X7_text v), (X7_length v), (X7_thrown v), (X7_joint v), z14_v_position, z14_v_isWrong, (X7_isHollow v), (X7_sure v), (X7_away v), (X7_digested v)) 48 51 (fun r23 z23_v_isWrong z23_v_position =>
  wp_X7_takes (z14_v_s, (X7_aside v), (X7_kept v), (X7_isKept v), (X7_saved v), (X7_savedMany v), (X7_text v), (X7_length v), (X7_thrown v), (X7_joint v), z23_v_position, z23_v_isWrong, (X7_isHollow v), (X7_sure v), (X7_away v), (X7_digested v)) 58 58 (fun r33 z33_v_isWrong z33_v_position =>
  ((z33_v_isWrong = 0 → wp_X7_isDirection (z14_v_s, (X7_aside v), (X7_kept v), (X7_isKept v), (X7_saved v), (X7_savedMany v), (X7_text v), (X7_length v), (X7_thrown v), (X7_joint v), z33_v_position, z33_v_isWrong, (X7_isHollow v), (X7_sure v), (X7_away v), (X7_digested v)) (fun r47 =>
  ((r47 = 0 → wp_X7_reads_61 v x1 y14_2 y14_3 z14_v_isWrong z14_v_position z14_v_s B14 r23 1 y14_2 z33_v_position z14_v_s Q) ∧
  (¬ r47 = 0 → wp_X7_reads_61 v x1 y14_2 y14_3 z14_v_isWrong z14_v_position z14_v_s B14 r23 0 y14_2 z33_v_position z14_v_s Q)))) ∧
  (¬ z33_v_isWrong = 0 → wp_X7_reads_61 v x1 y14_2 y14_3 z14_v_isWrong z14_v_position z14_v_s B14 r23 1 y14_2 z33_v_position z14_v_s Q))))))
def wp_X7_reads_14 (v : V_X7) (x1 : Int32)  (y14_2 : Int32) (y14_3 : Int32) (z14_v_isWrong : Int32) (z14_v_position : Int32) (z14_v_s : (Nat → Int32)) (Q : Int32 → Int32 → Int32 → (Nat → Int32) → Prop) : Prop :=
  ∃ (I : Int32 → Int32 → Int32 → Int32 → (Nat → Int32) → Prop) (μ : Int32 → Int32 → Int32 → Int32 → (Nat → Int32) → Nat), I y14_2 y14_3 z14_v_isWrong z14_v_position z14_v_s ∧ ∀ (s0 : Int32) (s1 : Int32) (s2 : Int32) (s3 : Int32) (s4 : (Nat → Int32)), I s0 s1 s2 s3 s4 → wb_X7_reads_14 v x1  s0 s1 s2 s3 s4 (fun t0 t1 t2 t3 t4 => I t0 t1 t2 t3 t4 ∧ μ t0 t1 t2 t3 t4 < μ s0 s1 s2 s3 s4) Q
def wp_X7_reads (v : V_X7) (x1 : Int32) (Q : Int32 → Int32 → Int32 → (Nat → Int32) → Prop) : Prop :=
  wp_X7_reads_14 v x1  0 1 0 0 (X7_s v) Q
def wp_X7_firstError (v : V_X7) (Q : Int32 → Int32 → Int32 → (Nat → Int32) → Int32 → Prop) : Prop :=
  wp_X7_reads (X7_s8 v 0) 0 (fun r7 z7_v_isWrong z7_v_position z7_v_s =>
  ((z7_v_isWrong = 0 → Q (X7_length v) z7_v_isWrong z7_v_position z7_v_s 0) ∧
  (¬ z7_v_isWrong = 0 → Q z7_v_position z7_v_isWrong z7_v_position z7_v_s 0)))
def wp_X7_plans_19 (v : V_X7) (z19_v_isWrong : Int32) (z19_v_position : Int32) (z19_v_s : (Nat → Int32)) (k19_0 : Int32) (Q : Int32 → Int32 → Int32 → Int32 → (Nat → Int32) → (Nat → Int32) → Int32 → Int32 → Prop) : Prop :=
  wp_X7_holds (z19_v_s, (X7_aside v), (X7_kept v), (X7_isKept v), (X7_saved v), (X7_savedMany v), (X7_text v), (X7_length v), (X7_thrown v), (X7_joint v), z19_v_position, z19_v_isWrong, (X7_isHollow v), (X7_sure v), (X7_away v), (X7_digested v)) k19_0 (fun r19 z19_v_thrown =>
  ((r19 = 0 → Q 0 z19_v_isWrong (X7_length v) z19_v_position z19_v_s (X7_saved v) (X7_savedMany v) z19_v_thrown) ∧
  (¬ r19 = 0 → wp_X7_save (z19_v_s, (X7_aside v), (X7_kept v), (X7_isKept v), (X7_saved v), (X7_savedMany v), (X7_text v), (X7_length v), z19_v_thrown, (X7_joint v), z19_v_position, z19_v_isWrong, (X7_isHollow v), (X7_sure v), (X7_away v), (X7_digested v)) (fun z28_v_saved z28_v_savedMany =>
  wp_X7_reads (z19_v_s, (X7_aside v), (X7_kept v), (X7_isKept v), z28_v_saved, z28_v_savedMany, (X7_text v), (X7_length v), z19_v_thrown, (X7_joint v), z19_v_position, z19_v_isWrong, (X7_isHollow v), (X7_sure v), (X7_away v), (X7_digested v)) 1 (fun r33 z33_v_isWrong z33_v_position z33_v_s =>
  Q r33 z33_v_isWrong 0 z33_v_position z33_v_s z28_v_saved z28_v_savedMany z19_v_thrown)))))
def wp_X7_plans (v : V_X7) (Q : Int32 → Int32 → Int32 → Int32 → (Nat → Int32) → (Nat → Int32) → Int32 → Int32 → Prop) : Prop :=
  wp_X7_reads v 0 (fun r2 z2_v_isWrong z2_v_position z2_v_s =>
  ((z2_v_isWrong = 0 → wp_X7_plans_19 v z2_v_isWrong z2_v_position z2_v_s 0  Q) ∧
  (¬ z2_v_isWrong = 0 → wp_X7_plans_19 v z2_v_isWrong z2_v_position z2_v_s 1  Q)))
def wb_X7_undo_33 (v : V_X7) (z33_v_savedMany : Int32) (z33_v_thrown : Int32) (y33_1 : Int32) (z33_v_s : (Nat → Int32)) (B33 : Int32 → (Nat → Int32) → Prop) (Q : Int32 → (Nat → Int32) → Int32 → Int32 → Prop) : Prop :=
  ((1472 ≤ y33_1 → Q z33_v_savedMany z33_v_s z33_v_savedMany z33_v_thrown) ∧
  (¬ 1472 ≤ y33_1 → vp_in ((1472 * z33_v_savedMany) + y33_1) 8832 ∧ vp_in y33_1 1472 ∧ B33 (y33_1 + 1) (upd z33_v_s y33_1.toNatClampNeg ((X7_saved v) ((1472 * z33_v_savedMany) + y33_1).toNatClampNeg))))
def wp_X7_undo_33 (v : V_X7) (z33_v_savedMany : Int32) (z33_v_thrown : Int32) (y33_1 : Int32) (z33_v_s : (Nat → Int32)) (Q : Int32 → (Nat → Int32) → Int32 → Int32 → Prop) : Prop :=
  ∃ (I : Int32 → (Nat → Int32) → Prop) (μ : Int32 → (Nat → Int32) → Nat), I y33_1 z33_v_s ∧ ∀ (s0 : Int32) (s1 : (Nat → Int32)), I s0 s1 → wb_X7_undo_33 v z33_v_savedMany z33_v_thrown s0 s1 (fun t0 t1 => I t0 t1 ∧ μ t0 t1 < μ s0 s1) Q
def wp_X7_undo_13 (v : V_X7) (k13_0 : Int32) (Q : Int32 → (Nat → Int32) → Int32 → Int32 → Prop) : Prop :=
  wp_X7_holds v k13_0 (fun r13 z13_v_thrown =>
  ((r13 = 0 → Q 0 (X7_s v) (X7_savedMany v) z13_v_thrown) ∧
  (¬ r13 = 0 → wp_X7_undo_33 v ((X7_savedMany v) - 1) z13_v_thrown 0 (X7_s v) Q)))
def wp_X7_undo (v : V_X7) (Q : Int32 → (Nat → Int32) → Int32 → Int32 → Prop) : Prop :=
  (((X7_savedMany v) ≤ 0 → wp_X7_undo_13 v 1  Q) ∧
  (¬ (X7_savedMany v) ≤ 0 → wp_X7_undo_13 v 0  Q))
def wb_X7_keep_7 (v : V_X7) (z7_v_thrown : Int32) (y7_1 : Int32) (z7_v_kept : (Nat → Int32)) (B7 : Int32 → (Nat → Int32) → Prop) (Q : Int32 → Int32 → (Nat → Int32) → Int32 → Prop) : Prop :=
  ((1472 ≤ y7_1 → wp_X7_tunnels ((X7_s v), (X7_aside v), z7_v_kept, 1, (X7_saved v), (X7_savedMany v), (X7_text v), (X7_length v), z7_v_thrown, (X7_joint v), (X7_position v), (X7_isWrong v), (X7_isHollow v), (X7_sure v), (X7_away v), (X7_digested v)) (fun r38 =>
  Q r38 1 z7_v_kept z7_v_thrown)) ∧
  (¬ 1472 ≤ y7_1 → vp_in y7_1 1472 ∧ B7 (y7_1 + 1) (upd z7_v_kept y7_1.toNatClampNeg ((X7_s v) y7_1.toNatClampNeg))))
def wp_X7_keep_7 (v : V_X7) (z7_v_thrown : Int32) (y7_1 : Int32) (z7_v_kept : (Nat → Int32)) (Q : Int32 → Int32 → (Nat → Int32) → Int32 → Prop) : Prop :=
  ∃ (I : Int32 → (Nat → Int32) → Prop) (μ : Int32 → (Nat → Int32) → Nat), I y7_1 z7_v_kept ∧ ∀ (s0 : Int32) (s1 : (Nat → Int32)), I s0 s1 → wb_X7_keep_7 v z7_v_thrown s0 s1 (fun t0 t1 => I t0 t1 ∧ μ t0 t1 < μ s0 s1) Q
def wp_X7_keep (v : V_X7) (Q : Int32 → Int32 → (Nat → Int32) → Int32 → Prop) : Prop :=
  wp_X7_keep_7 v 0 0 (X7_kept v) Q
def wb_X7_restore_27 (v : V_X7) (z27_v_saved : (Nat → Int32)) (z27_v_savedMany : Int32) (z27_v_thrown : Int32) (y27_1 : Int32) (z27_v_s : (Nat → Int32)) (B27 : Int32 → (Nat → Int32) → Prop) (Q : Int32 → (Nat → Int32) → (Nat → Int32) → Int32 → Int32 → Prop) : Prop :=
  ((1472 ≤ y27_1 → wp_X7_tunnels (z27_v_s, (X7_aside v), (X7_kept v), (X7_isKept v), z27_v_saved, z27_v_savedMany, (X7_text v), (X7_length v), z27_v_thrown, (X7_joint v), (X7_position v), (X7_isWrong v), (X7_isHollow v), (X7_sure v), (X7_away v), (X7_digested v)) (fun r53 =>
  Q r53 z27_v_s z27_v_saved z27_v_savedMany z27_v_thrown)) ∧
  (¬ 1472 ≤ y27_1 → vp_in y27_1 1472 ∧ B27 (y27_1 + 1) (upd z27_v_s y27_1.toNatClampNeg ((X7_kept v) y27_1.toNatClampNeg))))
def wp_X7_restore_27 (v : V_X7) (z27_v_saved : (Nat → Int32)) (z27_v_savedMany : Int32) (z27_v_thrown : Int32) (y27_1 : Int32) (z27_v_s : (Nat → Int32)) (Q : Int32 → (Nat → Int32) → (Nat → Int32) → Int32 → Int32 → Prop) : Prop :=
  ∃ (I : Int32 → (Nat → Int32) → Prop) (μ : Int32 → (Nat → Int32) → Nat), I y27_1 z27_v_s ∧ ∀ (s0 : Int32) (s1 : (Nat → Int32)), I s0 s1 → wb_X7_restore_27 v z27_v_saved z27_v_savedMany z27_v_thrown s0 s1 (fun t0 t1 => I t0 t1 ∧ μ t0 t1 < μ s0 s1) Q
def wp_X7_restore_13 (v : V_X7) (k13_0 : Int32) (Q : Int32 → (Nat → Int32) → (Nat → Int32) → Int32 → Int32 → Prop) : Prop :=
  wp_X7_holds v k13_0 (fun r13 z13_v_thrown =>
  ((r13 = 0 → Q 0 (X7_s v) (X7_saved v) (X7_savedMany v) z13_v_thrown) ∧
  (¬ r13 = 0 → wp_X7_save (X7_s8 v z13_v_thrown) (fun z22_v_saved z22_v_savedMany =>
  wp_X7_restore_27 v z22_v_saved z22_v_savedMany z13_v_thrown 0 (X7_s v) Q))))
def wp_X7_restore (v : V_X7) (Q : Int32 → (Nat → Int32) → (Nat → Int32) → Int32 → Int32 → Prop) : Prop :=
  (((X7_isKept v) = 0 → wp_X7_restore_13 v 1  Q) ∧
  (¬ (X7_isKept v) = 0 → wp_X7_restore_13 v 0  Q))
def wb_X7_layHollow_65 (v : V_X7) (y53_1 : Int32) (z53_v_isHollow : (Nat → Int32)) (B53 : Int32 → (Nat → Int32) → Prop)  (y65_2 : Int32) (z65_v_isHollow : (Nat → Int32)) (B65 : Int32 → (Nat → Int32) → Prop) (Q : (Nat → Int32) → Prop) : Prop :=
  wp_X7_of y53_1 23 (fun r73 =>
  vp_in r73 1472 ∧ ((((X7_s v) r73.toNatClampNeg) ≤ y65_2 → B53 (y53_1 + 1) z65_v_isHollow) ∧
  (¬ ((X7_s v) r73.toNatClampNeg) ≤ y65_2 → wp_X7_of y53_1 (24 + y65_2) (fun r93 =>
  vp_in r93 1472 ∧ vp_in ((X7_s v) r93.toNatClampNeg) 64 ∧ B65 (y65_2 + 1) (upd z65_v_isHollow ((X7_s v) r93.toNatClampNeg).toNatClampNeg 1)))))
def wp_X7_layHollow_65 (v : V_X7) (y53_1 : Int32) (z53_v_isHollow : (Nat → Int32)) (B53 : Int32 → (Nat → Int32) → Prop)  (y65_2 : Int32) (z65_v_isHollow : (Nat → Int32)) (Q : (Nat → Int32) → Prop) : Prop :=
  ∃ (I : Int32 → (Nat → Int32) → Prop) (μ : Int32 → (Nat → Int32) → Nat), I y65_2 z65_v_isHollow ∧ ∀ (s0 : Int32) (s1 : (Nat → Int32)), I s0 s1 → wb_X7_layHollow_65 v y53_1 z53_v_isHollow B53  s0 s1 (fun t0 t1 => I t0 t1 ∧ μ t0 t1 < μ s0 s1) Q
def wb_X7_layHollow_53 (v : V_X7)  (y53_1 : Int32) (z53_v_isHollow : (Nat → Int32)) (B53 : Int32 → (Nat → Int32) → Prop) (Q : (Nat → Int32) → Prop) : Prop :=
  vp_in 1 1472 ∧ ((((X7_s v) (1 : Int32).toNatClampNeg) ≤ y53_1 → Q z53_v_isHollow) ∧
  (¬ ((X7_s v) (1 : Int32).toNatClampNeg) ≤ y53_1 → wp_X7_layHollow_65 v y53_1 z53_v_isHollow B53  0 z53_v_isHollow Q))
def wp_X7_layHollow_53 (v : V_X7)  (y53_1 : Int32) (z53_v_isHollow : (Nat → Int32)) (Q : (Nat → Int32) → Prop) : Prop :=
  ∃ (I : Int32 → (Nat → Int32) → Prop) (μ : Int32 → (Nat → Int32) → Nat), I y53_1 z53_v_isHollow ∧ ∀ (s0 : Int32) (s1 : (Nat → Int32)), I s0 s1 → wb_X7_layHollow_53 v  s0 s1 (fun t0 t1 => I t0 t1 ∧ μ t0 t1 < μ s0 s1) Q
def wb_X7_layHollow_23 (v : V_X7)  (y23_1 : Int32) (z23_v_isHollow : (Nat → Int32)) (B23 : Int32 → (Nat → Int32) → Prop) (Q : (Nat → Int32) → Prop) : Prop :=
  vp_in 7 1472 ∧ ((((X7_s v) (7 : Int32).toNatClampNeg) ≤ y23_1 → wp_X7_layHollow_53 v  0 z23_v_isHollow Q) ∧
  (¬ ((X7_s v) (7 : Int32).toNatClampNeg) ≤ y23_1 → wp_X7_tuftAt (X7_s12 v z23_v_isHollow) y23_1 (fun r40 =>
  vp_in r40 64 ∧ B23 (y23_1 + 1) (upd z23_v_isHollow r40.toNatClampNeg 1))))
def wp_X7_layHollow_23 (v : V_X7)  (y23_1 : Int32) (z23_v_isHollow : (Nat → Int32)) (Q : (Nat → Int32) → Prop) : Prop :=
  ∃ (I : Int32 → (Nat → Int32) → Prop) (μ : Int32 → (Nat → Int32) → Nat), I y23_1 z23_v_isHollow ∧ ∀ (s0 : Int32) (s1 : (Nat → Int32)), I s0 s1 → wb_X7_layHollow_23 v  s0 s1 (fun t0 t1 => I t0 t1 ∧ μ t0 t1 < μ s0 s1) Q
def wb_X7_layHollow_2 (v : V_X7)  (y2_1 : Int32) (z2_v_isHollow : (Nat → Int32)) (B2 : Int32 → (Nat → Int32) → Prop) (Q : (Nat → Int32) → Prop) : Prop :=
  ((64 ≤ y2_1 → wp_X7_layHollow_23 v  0 z2_v_isHollow Q) ∧
  (¬ 64 ≤ y2_1 → vp_in y2_1 64 ∧ B2 (y2_1 + 1) (upd z2_v_isHollow y2_1.toNatClampNeg 0)))
def wp_X7_layHollow_2 (v : V_X7)  (y2_1 : Int32) (z2_v_isHollow : (Nat → Int32)) (Q : (Nat → Int32) → Prop) : Prop :=
  ∃ (I : Int32 → (Nat → Int32) → Prop) (μ : Int32 → (Nat → Int32) → Nat), I y2_1 z2_v_isHollow ∧ ∀ (s0 : Int32) (s1 : (Nat → Int32)), I s0 s1 → wb_X7_layHollow_2 v  s0 s1 (fun t0 t1 => I t0 t1 ∧ μ t0 t1 < μ s0 s1) Q
def wp_X7_layHollow (v : V_X7) (Q : (Nat → Int32) → Prop) : Prop :=
  wp_X7_layHollow_2 v  0 (X7_isHollow v) Q
def wb_X7_hollow_8 (v : V_X7) (z8_v_isHollow : (Nat → Int32)) (y8_1 : Int32) (y8_2 : Int32) (B8 : Int32 → Int32 → Prop) (Q : Int32 → (Nat → Int32) → Prop) : Prop :=
  ((64 ≤ y8_2 → Q y8_1 z8_v_isHollow) ∧
  (¬ 64 ≤ y8_2 → vp_in y8_2 64 ∧ (((z8_v_isHollow y8_2.toNatClampNeg) = 0 → B8 (y8_1 + 0) (y8_2 + 1)) ∧
  (¬ (z8_v_isHollow y8_2.toNatClampNeg) = 0 → B8 (y8_1 + 1) (y8_2 + 1)))))
def wp_X7_hollow_8 (v : V_X7) (z8_v_isHollow : (Nat → Int32)) (y8_1 : Int32) (y8_2 : Int32) (Q : Int32 → (Nat → Int32) → Prop) : Prop :=
  ∃ (I : Int32 → Int32 → Prop) (μ : Int32 → Int32 → Nat), I y8_1 y8_2 ∧ ∀ (s0 : Int32) (s1 : Int32), I s0 s1 → wb_X7_hollow_8 v z8_v_isHollow s0 s1 (fun t0 t1 => I t0 t1 ∧ μ t0 t1 < μ s0 s1) Q
def wp_X7_hollow (v : V_X7) (Q : Int32 → (Nat → Int32) → Prop) : Prop :=
  wp_X7_layHollow v (fun z1_v_isHollow =>
  wp_X7_hollow_8 v z1_v_isHollow 0 0 Q)
def wp_X7_areBeside (x0 : Int32) (x1 : Int32) (Q : Int32 → Prop) : Prop :=
  ((x0 = x1 → Q 0) ∧
  (¬ x0 = x1 → wp_X7_in ((x0 / 8) - (x1 / 8)) (-1) 1 (fun r16 =>
  ((r16 = 0 → Q 0) ∧
  (¬ r16 = 0 → wp_X7_in ((x0 - x0 / 8 * 8) - (x1 - x1 / 8 * 8)) (-1) 1 (fun r33 =>
  ((r33 = 0 → Q 0) ∧
  (¬ r33 = 0 → Q 1))))))))
def wb_X7_numberOf_4 (v : V_X7) (x1 : Int32)  (y4_2 : Int32) (y4_3 : Int32) (B4 : Int32 → Int32 → Prop) (Q : Int32 → Prop) : Prop :=
  ((64 ≤ y4_3 → Q y4_2) ∧
  (¬ 64 ≤ y4_3 → wp_X7_areBeside x1 y4_3 (fun r13 =>
  ((r13 = 0 → B4 (y4_2 + 0) (y4_3 + 1)) ∧
  (¬ r13 = 0 → vp_in y4_3 64 ∧ ((((X7_isHollow v) y4_3.toNatClampNeg) = 0 → B4 (y4_2 + 0) (y4_3 + 1)) ∧
  (¬ ((X7_isHollow v) y4_3.toNatClampNeg) = 0 → B4 (y4_2 + 1) (y4_3 + 1))))))))
def wp_X7_numberOf_4 (v : V_X7) (x1 : Int32)  (y4_2 : Int32) (y4_3 : Int32) (Q : Int32 → Prop) : Prop :=
  ∃ (I : Int32 → Int32 → Prop) (μ : Int32 → Int32 → Nat), I y4_2 y4_3 ∧ ∀ (s0 : Int32) (s1 : Int32), I s0 s1 → wb_X7_numberOf_4 v x1  s0 s1 (fun t0 t1 => I t0 t1 ∧ μ t0 t1 < μ s0 s1) Q
def wp_X7_numberOf (v : V_X7) (x1 : Int32) (Q : Int32 → Prop) : Prop :=
  wp_X7_numberOf_4 v x1  0 0 Q
def wb_X7_besideWith_5 (v : V_X7) (x1 : Int32) (x2 : Int32)  (y5_3 : Int32) (y5_4 : Int32) (B5 : Int32 → Int32 → Prop) (Q : Int32 → Prop) : Prop :=
  ((64 ≤ y5_4 → Q y5_3) ∧
  (¬ 64 ≤ y5_4 → wp_X7_areBeside x1 y5_4 (fun r16 =>
  ((r16 = 0 → B5 (y5_3 + 0) (y5_4 + 1)) ∧
  (¬ r16 = 0 → vp_in y5_4 64 ∧ ((((X7_sure v) y5_4.toNatClampNeg) = x2 → B5 (y5_3 + 1) (y5_4 + 1)) ∧
  (¬ ((X7_sure v) y5_4.toNatClampNeg) = x2 → B5 (y5_3 + 0) (y5_4 + 1))))))))
def wp_X7_besideWith_5 (v : V_X7) (x1 : Int32) (x2 : Int32)  (y5_3 : Int32) (y5_4 : Int32) (Q : Int32 → Prop) : Prop :=
  ∃ (I : Int32 → Int32 → Prop) (μ : Int32 → Int32 → Nat), I y5_3 y5_4 ∧ ∀ (s0 : Int32) (s1 : Int32), I s0 s1 → wb_X7_besideWith_5 v x1 x2  s0 s1 (fun t0 t1 => I t0 t1 ∧ μ t0 t1 < μ s0 s1) Q
def wp_X7_besideWith (v : V_X7) (x1 : Int32) (x2 : Int32) (Q : Int32 → Prop) : Prop :=
  wp_X7_besideWith_5 v x1 x2  0 0 Q
def wp_X7_finds_93 (v : V_X7) (x1 : Int32) (y43_2 : Int32) (y43_4 : Int32) (y43_5 : Int32) (z43_v_sure : (Nat → Int32)) (B43 : Int32 → (Nat → Int32) → Prop) (k93_0 : Int32) (Q : Int32 → (Nat → Int32) → Prop) : Prop :=
  vp_in y43_5 64 ∧ vp_in k93_0 64 ∧ B43 (y43_5 + 1) (upd z43_v_sure k93_0.toNatClampNeg (z43_v_sure y43_5.toNatClampNeg))
def wb_X7_finds_43 (v : V_X7) (x1 : Int32) (y43_2 : Int32) (y43_4 : Int32) (y43_5 : Int32) (z43_v_sure : (Nat → Int32)) (B43 : Int32 → (Nat → Int32) → Prop) (Q : Int32 → (Nat → Int32) → Prop) : Prop :=
  ((64 ≤ y43_5 → bz y43_4 ∧ Q y43_4 z43_v_sure) ∧
  (¬ 64 ≤ y43_5 → ((y43_4 = 0 → bz y43_4 ∧ Q y43_4 z43_v_sure) ∧
  (¬ y43_4 = 0 → wp_X7_areBeside x1 y43_5 (fun r64 =>
  ((r64 = 0 → wp_X7_finds_93 v x1 y43_2 y43_4 y43_5 z43_v_sure B43 y43_5  Q) ∧
  (¬ r64 = 0 → vp_in y43_5 64 ∧ (((z43_v_sure y43_5.toNatClampNeg) = (-1) → ((y43_2 = 0 → B43 (y43_5 + 1) (upd z43_v_sure y43_5.toNatClampNeg 0)) ∧
  (¬ y43_2 = 0 → B43 (y43_5 + 1) (upd z43_v_sure y43_5.toNatClampNeg 1)))) ∧
  (¬ (z43_v_sure y43_5.toNatClampNeg) = (-1) → wp_X7_finds_93 v x1 y43_2 y43_4 y43_5 z43_v_sure B43 y43_5  Q)))))))))
def wp_X7_finds_43 (v : V_X7) (x1 : Int32) (y43_2 : Int32) (y43_4 : Int32) (y43_5 : Int32) (z43_v_sure : (Nat → Int32)) (Q : Int32 → (Nat → Int32) → Prop) : Prop :=
  ∃ (I : Int32 → (Nat → Int32) → Prop) (μ : Int32 → (Nat → Int32) → Nat), I y43_5 z43_v_sure ∧ ∀ (s0 : Int32) (s1 : (Nat → Int32)), I s0 s1 → wb_X7_finds_43 v x1 y43_2 y43_4 s0 s1 (fun t0 t1 => I t0 t1 ∧ μ t0 t1 < μ s0 s1) Q
def wp_X7_finds_37 (v : V_X7) (x1 : Int32) (y37_2 : Int32) (Q : Int32 → (Nat → Int32) → Prop) : Prop :=
  wp_X7_finds_43 v x1 y37_2 0 0 (X7_sure v) Q
def wp_X7_finds_33 (v : V_X7) (x1 : Int32) (y33_2 : Int32) (Q : Int32 → (Nat → Int32) → Prop) : Prop :=
  wp_X7_finds_43 v x1 y33_2 1 0 (X7_sure v) Q
def wp_X7_finds (v : V_X7) (x1 : Int32) (Q : Int32 → (Nat → Int32) → Prop) : Prop :=
  wp_X7_numberOf v x1 (fun r2 =>
  wp_X7_besideWith v x1 1 (fun r8 =>
  wp_X7_besideWith v x1 (-1) (fun r16 =>
  ((r16 ≤ 0 → wp_X7_finds_37 v x1 (r2 - r8)  Q) ∧
  (¬ r16 ≤ 0 → (((r2 - r8) = 0 → wp_X7_finds_33 v x1 (r2 - r8)  Q) ∧
  (¬ (r2 - r8) = 0 → (((r2 - r8) = r16 → wp_X7_finds_33 v x1 (r2 - r8)  Q) ∧
  (¬ (r2 - r8) = r16 → wp_X7_finds_37 v x1 (r2 - r8)  Q)))))))))
def wp_X7_laySure_98 (v : V_X7) (z57_v_isHollow : (Nat → Int32)) (y57_1 : Int32) (z57_v_sure : (Nat → Int32)) (B57 : Int32 → (Nat → Int32) → Prop) (y65_1 : Int32) (y65_2 : Int32) (z65_v_sure : (Nat → Int32)) (B65 : Int32 → Int32 → (Nat → Int32) → Prop) (z98_v_sure : (Nat → Int32)) (k98_0 : Int32) (Q : (Nat → Int32) → (Nat → Int32) → Prop) : Prop :=
  ((y65_1 = 0 → ((k98_0 = 0 → B65 0 (y65_2 + 1) z98_v_sure) ∧
  (¬ k98_0 = 0 → B65 1 (y65_2 + 1) z98_v_sure))) ∧
  (¬ y65_1 = 0 → B65 1 (y65_2 + 1) z98_v_sure))
def wp_X7_laySure_97 (v : V_X7) (z57_v_isHollow : (Nat → Int32)) (y57_1 : Int32) (z57_v_sure : (Nat → Int32)) (B57 : Int32 → (Nat → Int32) → Prop) (y65_1 : Int32) (y65_2 : Int32) (z65_v_sure : (Nat → Int32)) (B65 : Int32 → Int32 → (Nat → Int32) → Prop) (z97_v_sure : (Nat → Int32)) (Q : (Nat → Int32) → (Nat → Int32) → Prop) : Prop :=
  wp_X7_laySure_98 v z57_v_isHollow y57_1 z57_v_sure B57 y65_1 y65_2 z65_v_sure B65 z97_v_sure 0  Q
def wb_X7_laySure_65 (v : V_X7) (z57_v_isHollow : (Nat → Int32)) (y57_1 : Int32) (z57_v_sure : (Nat → Int32)) (B57 : Int32 → (Nat → Int32) → Prop)  (y65_1 : Int32) (y65_2 : Int32) (z65_v_sure : (Nat → Int32)) (B65 : Int32 → Int32 → (Nat → Int32) → Prop) (Q : (Nat → Int32) → (Nat → Int32) → Prop) : Prop :=
  ((64 ≤ y65_2 → B57 y65_1 z65_v_sure) ∧
  (¬ 64 ≤ y65_2 → vp_in (200 + y65_2) 1472 ∧ ((((X7_s v) (200 + y65_2).toNatClampNeg) = 1 → wp_X7_finds (X7_s13 (X7_s12 v z57_v_isHollow) z65_v_sure) y65_2 (fun r87 z87_v_sure =>
  ((r87 = 0 → wp_X7_laySure_97 v z57_v_isHollow y57_1 z57_v_sure B57 y65_1 y65_2 z65_v_sure B65 z87_v_sure  Q) ∧
  (¬ r87 = 0 → wp_X7_laySure_98 v z57_v_isHollow y57_1 z57_v_sure B57 y65_1 y65_2 z65_v_sure B65 z87_v_sure 1  Q)))) ∧
  (¬ ((X7_s v) (200 + y65_2).toNatClampNeg) = 1 → wp_X7_laySure_97 v z57_v_isHollow y57_1 z57_v_sure B57 y65_1 y65_2 z65_v_sure B65 z65_v_sure  Q))))
def wp_X7_laySure_65 (v : V_X7) (z57_v_isHollow : (Nat → Int32)) (y57_1 : Int32) (z57_v_sure : (Nat → Int32)) (B57 : Int32 → (Nat → Int32) → Prop)  (y65_1 : Int32) (y65_2 : Int32) (z65_v_sure : (Nat → Int32)) (Q : (Nat → Int32) → (Nat → Int32) → Prop) : Prop :=
  ∃ (I : Int32 → Int32 → (Nat → Int32) → Prop) (μ : Int32 → Int32 → (Nat → Int32) → Nat), I y65_1 y65_2 z65_v_sure ∧ ∀ (s0 : Int32) (s1 : Int32) (s2 : (Nat → Int32)), I s0 s1 s2 → wb_X7_laySure_65 v z57_v_isHollow y57_1 z57_v_sure B57  s0 s1 s2 (fun t0 t1 t2 => I t0 t1 t2 ∧ μ t0 t1 t2 < μ s0 s1 s2) Q
def wb_X7_laySure_57 (v : V_X7) (z57_v_isHollow : (Nat → Int32)) (y57_1 : Int32) (z57_v_sure : (Nat → Int32)) (B57 : Int32 → (Nat → Int32) → Prop) (Q : (Nat → Int32) → (Nat → Int32) → Prop) : Prop :=
  ((y57_1 = 0 → Q z57_v_isHollow z57_v_sure) ∧
  (¬ y57_1 = 0 → wp_X7_laySure_65 v z57_v_isHollow y57_1 z57_v_sure B57  0 0 z57_v_sure Q))
def wp_X7_laySure_57 (v : V_X7) (z57_v_isHollow : (Nat → Int32)) (y57_1 : Int32) (z57_v_sure : (Nat → Int32)) (Q : (Nat → Int32) → (Nat → Int32) → Prop) : Prop :=
  ∃ (I : Int32 → (Nat → Int32) → Prop) (μ : Int32 → (Nat → Int32) → Nat), I y57_1 z57_v_sure ∧ ∀ (s0 : Int32) (s1 : (Nat → Int32)), I s0 s1 → wb_X7_laySure_57 v z57_v_isHollow s0 s1 (fun t0 t1 => I t0 t1 ∧ μ t0 t1 < μ s0 s1) Q
def wb_X7_laySure_6 (v : V_X7) (z6_v_isHollow : (Nat → Int32)) (y6_1 : Int32) (z6_v_sure : (Nat → Int32)) (B6 : Int32 → (Nat → Int32) → Prop) (Q : (Nat → Int32) → (Nat → Int32) → Prop) : Prop :=
  ((64 ≤ y6_1 → wp_X7_laySure_57 v z6_v_isHollow 1 z6_v_sure Q) ∧
  (¬ 64 ≤ y6_1 → vp_in (200 + y6_1) 1472 ∧ ((((X7_s v) (200 + y6_1).toNatClampNeg) = 0 → vp_in y6_1 64 ∧ B6 (y6_1 + 1) (upd z6_v_sure y6_1.toNatClampNeg (-1))) ∧
  (¬ ((X7_s v) (200 + y6_1).toNatClampNeg) = 0 → vp_in y6_1 64 ∧ (((z6_v_isHollow y6_1.toNatClampNeg) = 0 → B6 (y6_1 + 1) (upd z6_v_sure y6_1.toNatClampNeg 0)) ∧
  (¬ (z6_v_isHollow y6_1.toNatClampNeg) = 0 → B6 (y6_1 + 1) (upd z6_v_sure y6_1.toNatClampNeg 1)))))))
def wp_X7_laySure_6 (v : V_X7) (z6_v_isHollow : (Nat → Int32)) (y6_1 : Int32) (z6_v_sure : (Nat → Int32)) (Q : (Nat → Int32) → (Nat → Int32) → Prop) : Prop :=
  ∃ (I : Int32 → (Nat → Int32) → Prop) (μ : Int32 → (Nat → Int32) → Nat), I y6_1 z6_v_sure ∧ ∀ (s0 : Int32) (s1 : (Nat → Int32)), I s0 s1 → wb_X7_laySure_6 v z6_v_isHollow s0 s1 (fun t0 t1 => I t0 t1 ∧ μ t0 t1 < μ s0 s1) Q
def wp_X7_laySure (v : V_X7) (Q : (Nat → Int32) → (Nat → Int32) → Prop) : Prop :=
  wp_X7_layHollow v (fun z1_v_isHollow =>
  wp_X7_laySure_6 v z1_v_isHollow 0 (X7_sure v) Q)
def wp_X7_tunnelsWith_37 (v : V_X7) (x1 : Int32) (y4_2 : Int32) (y4_3 : Int32) (B4 : Int32 → Int32 → Prop) (k37_0 : Int32) (k37_1 : Int32) (Q : Int32 → Prop) : Prop :=
  wp_X7_endFrom v y4_3 (fun r41 =>
  B4 (k37_1 + k37_0) (r41 + 1))
def wb_X7_tunnelsWith_4 (v : V_X7) (x1 : Int32)  (y4_2 : Int32) (y4_3 : Int32) (B4 : Int32 → Int32 → Prop) (Q : Int32 → Prop) : Prop :=
  vp_in 7 1472 ∧ ((((X7_s v) (7 : Int32).toNatClampNeg) ≤ y4_3 → Q y4_2) ∧
  (¬ ((X7_s v) (7 : Int32).toNatClampNeg) ≤ y4_3 → wp_X7_endFrom v y4_3 (fun r21 =>
  wp_X7_find v x1 y4_3 r21 0 (fun r25 =>
  ((r25 = (-1) → wp_X7_tunnelsWith_37 v x1 y4_2 y4_3 B4 0 y4_2  Q) ∧
  (¬ r25 = (-1) → wp_X7_tunnelsWith_37 v x1 y4_2 y4_3 B4 1 y4_2  Q))))))
def wp_X7_tunnelsWith_4 (v : V_X7) (x1 : Int32)  (y4_2 : Int32) (y4_3 : Int32) (Q : Int32 → Prop) : Prop :=
  ∃ (I : Int32 → Int32 → Prop) (μ : Int32 → Int32 → Nat), I y4_2 y4_3 ∧ ∀ (s0 : Int32) (s1 : Int32), I s0 s1 → wb_X7_tunnelsWith_4 v x1  s0 s1 (fun t0 t1 => I t0 t1 ∧ μ t0 t1 < μ s0 s1) Q
def wp_X7_tunnelsWith (v : V_X7) (x1 : Int32) (Q : Int32 → Prop) : Prop :=
  wp_X7_tunnelsWith_4 v x1  0 0 Q
def wb_X7_molesAt_4 (v : V_X7) (x1 : Int32)  (y4_2 : Int32) (y4_3 : Int32) (B4 : Int32 → Int32 → Prop) (Q : Int32 → Prop) : Prop :=
  vp_in 1 1472 ∧ ((((X7_s v) (1 : Int32).toNatClampNeg) ≤ y4_3 → Q y4_2) ∧
  (¬ ((X7_s v) (1 : Int32).toNatClampNeg) ≤ y4_3 → wp_X7_of y4_3 0 (fun r21 =>
  vp_in r21 1472 ∧ ((((X7_s v) r21.toNatClampNeg) = x1 → B4 (y4_2 + 1) (y4_3 + 1)) ∧
  (¬ ((X7_s v) r21.toNatClampNeg) = x1 → B4 (y4_2 + 0) (y4_3 + 1))))))
def wp_X7_molesAt_4 (v : V_X7) (x1 : Int32)  (y4_2 : Int32) (y4_3 : Int32) (Q : Int32 → Prop) : Prop :=
  ∃ (I : Int32 → Int32 → Prop) (μ : Int32 → Int32 → Nat), I y4_2 y4_3 ∧ ∀ (s0 : Int32) (s1 : Int32), I s0 s1 → wb_X7_molesAt_4 v x1  s0 s1 (fun t0 t1 => I t0 t1 ∧ μ t0 t1 < μ s0 s1) Q
def wp_X7_molesAt (v : V_X7) (x1 : Int32) (Q : Int32 → Prop) : Prop :=
  wp_X7_molesAt_4 v x1  0 0 Q
def wp_X7_toldOfTuft (v : V_X7) (x1 : Int32) (x2 : Int32) (Q : Int32 → (Nat → Int32) → (Nat → Int32) → Prop) : Prop :=
  ((x2 = 0 → vp_in (8 + x1) 1472 ∧ Q ((X7_s v) (8 + x1).toNatClampNeg) (X7_isHollow v) (X7_sure v)) ∧
  (¬ x2 = 0 → ((x2 = 1 → vp_in (72 + x1) 1472 ∧ Q ((X7_s v) (72 + x1).toNatClampNeg) (X7_isHollow v) (X7_sure v)) ∧
  (¬ x2 = 1 → ((x2 = 2 → vp_in (136 + x1) 1472 ∧ Q ((X7_s v) (136 + x1).toNatClampNeg) (X7_isHollow v) (X7_sure v)) ∧
  (¬ x2 = 2 → ((x2 = 3 → wp_X7_layHollow v (fun z80_v_isHollow =>
  vp_in x1 64 ∧ (((z80_v_isHollow x1.toNatClampNeg) = 0 → Q 0 z80_v_isHollow (X7_sure v)) ∧
  (¬ (z80_v_isHollow x1.toNatClampNeg) = 0 → Q 1 z80_v_isHollow (X7_sure v))))) ∧
  (¬ x2 = 3 → ((x2 = 4 → wp_X7_layHollow v (fun z99_v_isHollow =>
  wp_X7_numberOf (X7_s12 v z99_v_isHollow) x1 (fun r104 =>
  Q r104 z99_v_isHollow (X7_sure v)))) ∧
  (¬ x2 = 4 → ((x2 = 5 → vp_in (200 + x1) 1472 ∧ Q ((X7_s v) (200 + x1).toNatClampNeg) (X7_isHollow v) (X7_sure v)) ∧
  (¬ x2 = 5 → ((x2 = 6 → wp_X7_laySure v (fun z120_v_isHollow z120_v_sure =>
  vp_in x1 64 ∧ Q (z120_v_sure x1.toNatClampNeg) z120_v_isHollow z120_v_sure)) ∧
  (¬ x2 = 6 → ((x2 = 7 → wp_X7_tunnelsWith v x1 (fun r132 =>
  Q r132 (X7_isHollow v) (X7_sure v))) ∧
  (¬ x2 = 7 → wp_X7_molesAt v x1 (fun r138 =>
  Q r138 (X7_isHollow v) (X7_sure v))))))))))))))))))
def wp_X7_tuft_27 (v : V_X7) (x1 : Int32) (x2 : Int32) (k27_0 : Int32) (Q : Int32 → (Nat → Int32) → (Nat → Int32) → Int32 → Prop) : Prop :=
  wp_X7_holds v k27_0 (fun r27 z27_v_thrown =>
  ((r27 = 0 → Q 0 (X7_isHollow v) (X7_sure v) z27_v_thrown) ∧
  (¬ r27 = 0 → wp_X7_toldOfTuft (X7_s8 v z27_v_thrown) x1 x2 (fun r36 z36_v_isHollow z36_v_sure =>
  Q r36 z36_v_isHollow z36_v_sure z27_v_thrown))))
def wp_X7_tuft (v : V_X7) (x1 : Int32) (x2 : Int32) (Q : Int32 → (Nat → Int32) → (Nat → Int32) → Int32 → Prop) : Prop :=
  wp_X7_isTuft x1 (fun r2 =>
  ((r2 = 0 → wp_X7_tuft_27 v x1 x2 1  Q) ∧
  (¬ r2 = 0 → wp_X7_in x2 0 8 (fun r16 =>
  ((r16 = 0 → wp_X7_tuft_27 v x1 x2 2  Q) ∧
  (¬ r16 = 0 → wp_X7_tuft_27 v x1 x2 0  Q))))))
def wp_X7_toldOfMole (v : V_X7) (x1 : Int32) (x2 : Int32) (Q : Int32 → Prop) : Prop :=
  ((x2 = 0 → wp_X7_of x1 x2 (fun r46 =>
  vp_in r46 1472 ∧ Q ((X7_s v) r46.toNatClampNeg))) ∧
  (¬ x2 = 0 → ((x2 = 1 → wp_X7_of x1 x2 (fun r46 =>
  vp_in r46 1472 ∧ Q ((X7_s v) r46.toNatClampNeg))) ∧
  (¬ x2 = 1 → ((x2 = 2 → wp_X7_of x1 x2 (fun r46 =>
  vp_in r46 1472 ∧ Q ((X7_s v) r46.toNatClampNeg))) ∧
  (¬ x2 = 2 → ((x2 = 3 → wp_X7_of x1 2 (fun r57 =>
  vp_in r57 1472 ∧ ((((X7_s v) r57.toNatClampNeg) = 0 → Q (-1)) ∧
  (¬ ((X7_s v) r57.toNatClampNeg) = 0 → wp_X7_of x1 3 (fun r74 =>
  vp_in r74 1472 ∧ Q ((X7_s v) r74.toNatClampNeg)))))) ∧
  (¬ x2 = 3 → ((x2 = 4 → wp_X7_of x1 24 (fun r86 =>
  vp_in r86 1472 ∧ Q ((X7_s v) r86.toNatClampNeg))) ∧
  (¬ x2 = 4 → ((x2 = 5 → wp_X7_of x1 23 (fun r98 =>
  vp_in r98 1472 ∧ Q ((X7_s v) r98.toNatClampNeg))) ∧
  (¬ x2 = 5 → wp_X7_of x1 45 (fun r110 =>
  vp_in r110 1472 ∧ Q ((X7_s v) r110.toNatClampNeg))))))))))))))
def wp_X7_moleOf_28 (v : V_X7) (x1 : Int32) (x2 : Int32) (k28_0 : Int32) (Q : Int32 → Int32 → Prop) : Prop :=
  wp_X7_holds v k28_0 (fun r28 z28_v_thrown =>
  ((r28 = 0 → Q 0 z28_v_thrown) ∧
  (¬ r28 = 0 → wp_X7_toldOfMole (X7_s8 v z28_v_thrown) x1 x2 (fun r37 =>
  Q r37 z28_v_thrown))))
def wp_X7_moleOf (v : V_X7) (x1 : Int32) (x2 : Int32) (Q : Int32 → Int32 → Prop) : Prop :=
  wp_X7_isMole v x1 (fun r3 =>
  ((r3 = 0 → wp_X7_moleOf_28 v x1 x2 1  Q) ∧
  (¬ r3 = 0 → wp_X7_in x2 0 6 (fun r17 =>
  ((r17 = 0 → wp_X7_moleOf_28 v x1 x2 2  Q) ∧
  (¬ r17 = 0 → wp_X7_moleOf_28 v x1 x2 0  Q))))))
def wp_X7_isTunnel (v : V_X7) (x1 : Int32) (Q : Int32 → Prop) : Prop :=
  wp_X7_tunnels v (fun r3 =>
  wp_X7_in x1 0 (r3 - 1) (fun r8 =>
  bz r8 ∧ Q r8))
def wp_X7_toldOfTunnel (v : V_X7) (x1 : Int32) (x2 : Int32) (Q : Int32 → Prop) : Prop :=
  wp_X7_beginOf v x1 (fun r2 =>
  wp_X7_endFrom v r2 (fun r8 =>
  ((x2 = 0 → wp_X7_tuftAt v r2 (fun r19 =>
  Q r19)) ∧
  (¬ x2 = 0 → ((x2 = 1 → wp_X7_tuftAt v r8 (fun r33 =>
  Q r33)) ∧
  (¬ x2 = 1 → Q ((r8 - r2) + 1)))))))
def wp_X7_tunnel_27 (v : V_X7) (x1 : Int32) (x2 : Int32) (k27_0 : Int32) (Q : Int32 → Int32 → Prop) : Prop :=
  wp_X7_holds v k27_0 (fun r27 z27_v_thrown =>
  ((r27 = 0 → Q 0 z27_v_thrown) ∧
  (¬ r27 = 0 → wp_X7_toldOfTunnel (X7_s8 v z27_v_thrown) x1 x2 (fun r36 =>
  Q r36 z27_v_thrown))))
def wp_X7_tunnel (v : V_X7) (x1 : Int32) (x2 : Int32) (Q : Int32 → Int32 → Prop) : Prop :=
  wp_X7_isTunnel v x1 (fun r3 =>
  ((r3 = 0 → wp_X7_tunnel_27 v x1 x2 1  Q) ∧
  (¬ r3 = 0 → wp_X7_in x2 0 2 (fun r16 =>
  ((r16 = 0 → wp_X7_tunnel_27 v x1 x2 2  Q) ∧
  (¬ r16 = 0 → wp_X7_tunnel_27 v x1 x2 0  Q))))))
def wp_X7_cellOf (v : V_X7) (x1 : Int32) (x2 : Int32) (Q : Int32 → Prop) : Prop :=
  wp_X7_toldOfTunnel v x1 2 (fun r4 =>
  ((r4 ≤ x2 → Q (-1)) ∧
  (¬ r4 ≤ x2 → wp_X7_beginOf v x1 (fun r13 =>
  wp_X7_tuftAt v (r13 + x2) (fun r18 =>
  Q r18)))))
def wp_X7_cell_22 (v : V_X7) (x1 : Int32) (x2 : Int32) (k22_0 : Int32) (Q : Int32 → Int32 → Prop) : Prop :=
  wp_X7_holds v k22_0 (fun r22 z22_v_thrown =>
  ((r22 = 0 → Q 0 z22_v_thrown) ∧
  (¬ r22 = 0 → wp_X7_cellOf (X7_s8 v z22_v_thrown) x1 x2 (fun r31 =>
  Q r31 z22_v_thrown))))
def wp_X7_cell (v : V_X7) (x1 : Int32) (x2 : Int32) (Q : Int32 → Int32 → Prop) : Prop :=
  wp_X7_isTunnel v x1 (fun r3 =>
  ((r3 = 0 → wp_X7_cell_22 v x1 x2 1  Q) ∧
  (¬ r3 = 0 → ((0 ≤ x2 → wp_X7_cell_22 v x1 x2 0  Q) ∧
  (¬ 0 ≤ x2 → wp_X7_cell_22 v x1 x2 2  Q)))))
def wp_X7_layAway_228 (v : V_X7) (x1 : Int32) (y42_2 : Int32) (z42_v_away : (Nat → Int32)) (B42 : Int32 → (Nat → Int32) → Prop) (y50_2 : Int32) (y50_3 : Int32) (z50_v_away : (Nat → Int32)) (B50 : Int32 → Int32 → (Nat → Int32) → Prop) (z228_v_away : (Nat → Int32)) (k228_0 : Int32) (Q : (Nat → Int32) → Prop) : Prop :=
  wp_X7_endFrom (X7_s14 v z228_v_away) y50_3 (fun r231 =>
  B50 k228_0 (r231 + 1) z228_v_away)
def wp_X7_layAway_223 (v : V_X7) (x1 : Int32) (y42_2 : Int32) (z42_v_away : (Nat → Int32)) (B42 : Int32 → (Nat → Int32) → Prop) (y50_2 : Int32) (y50_3 : Int32) (z50_v_away : (Nat → Int32)) (B50 : Int32 → Int32 → (Nat → Int32) → Prop) (z223_v_away : (Nat → Int32)) (Q : (Nat → Int32) → Prop) : Prop :=
  wp_X7_layAway_228 v x1 y42_2 z42_v_away B42 y50_2 y50_3 z50_v_away B50 z223_v_away 1  Q
def wp_X7_layAway_213 (v : V_X7) (x1 : Int32) (y42_2 : Int32) (z42_v_away : (Nat → Int32)) (B42 : Int32 → (Nat → Int32) → Prop) (y50_2 : Int32) (y50_3 : Int32) (z50_v_away : (Nat → Int32)) (B50 : Int32 → Int32 → (Nat → Int32) → Prop) (y213_6 : Int32) (z213_v_away : (Nat → Int32)) (k213_0 : Int32) (k213_1 : Int32) (Q : (Nat → Int32) → Prop) : Prop :=
  vp_in k213_1 64 ∧ ((y50_2 = 0 → ((y213_6 = 0 → wp_X7_layAway_228 v x1 y42_2 z42_v_away B42 y50_2 y50_3 z50_v_away B50 (upd z213_v_away k213_1.toNatClampNeg k213_0) 0  Q) ∧
  (¬ y213_6 = 0 → wp_X7_layAway_223 v x1 y42_2 z42_v_away B42 y50_2 y50_3 z50_v_away B50 (upd z213_v_away k213_1.toNatClampNeg k213_0)  Q))) ∧
  (¬ y50_2 = 0 → wp_X7_layAway_223 v x1 y42_2 z42_v_away B42 y50_2 y50_3 z50_v_away B50 (upd z213_v_away k213_1.toNatClampNeg k213_0)  Q))
def wp_X7_layAway_168 (v : V_X7) (x1 : Int32) (y42_2 : Int32) (z42_v_away : (Nat → Int32)) (B42 : Int32 → (Nat → Int32) → Prop) (y50_2 : Int32) (y50_3 : Int32) (z50_v_away : (Nat → Int32)) (B50 : Int32 → Int32 → (Nat → Int32) → Prop) (y168_4 : Int32) (y168_5 : Int32) (y168_6 : Int32) (k168_0 : Int32) (k168_1 : Int32) (Q : (Nat → Int32) → Prop) : Prop :=
  vp_in k168_1 64 ∧ vp_in y168_5 64 ∧ vp_in y168_4 64 ∧ ((((upd z50_v_away k168_1.toNatClampNeg k168_0) y168_4.toNatClampNeg) ≤ (((upd z50_v_away k168_1.toNatClampNeg k168_0) y168_5.toNatClampNeg) + 1) → wp_X7_layAway_213 v x1 y42_2 z42_v_away B42 y50_2 y50_3 z50_v_away B50 y168_6 (upd z50_v_away k168_1.toNatClampNeg k168_0) ((upd z50_v_away k168_1.toNatClampNeg k168_0) y168_4.toNatClampNeg) y168_4  Q) ∧
  (¬ ((upd z50_v_away k168_1.toNatClampNeg k168_0) y168_4.toNatClampNeg) ≤ (((upd z50_v_away k168_1.toNatClampNeg k168_0) y168_5.toNatClampNeg) + 1) → wp_X7_layAway_213 v x1 y42_2 z42_v_away B42 y50_2 y50_3 z50_v_away B50 y168_6 (upd z50_v_away k168_1.toNatClampNeg k168_0) (((upd z50_v_away k168_1.toNatClampNeg k168_0) y168_5.toNatClampNeg) + 1) y168_4  Q))
def wp_X7_layAway_122 (v : V_X7) (x1 : Int32) (y42_2 : Int32) (z42_v_away : (Nat → Int32)) (B42 : Int32 → (Nat → Int32) → Prop) (y50_2 : Int32) (y50_3 : Int32) (z50_v_away : (Nat → Int32)) (B50 : Int32 → Int32 → (Nat → Int32) → Prop) (y122_4 : Int32) (y122_5 : Int32) (k122_0 : Int32) (Q : (Nat → Int32) → Prop) : Prop :=
  vp_in y122_4 64 ∧ vp_in y122_5 64 ∧ (((z50_v_away y122_5.toNatClampNeg) ≤ ((z50_v_away y122_4.toNatClampNeg) + 1) → wp_X7_layAway_168 v x1 y42_2 z42_v_away B42 y50_2 y50_3 z50_v_away B50 y122_4 y122_5 k122_0 (z50_v_away y122_5.toNatClampNeg) y122_5  Q) ∧
  (¬ (z50_v_away y122_5.toNatClampNeg) ≤ ((z50_v_away y122_4.toNatClampNeg) + 1) → wp_X7_layAway_168 v x1 y42_2 z42_v_away B42 y50_2 y50_3 z50_v_away B50 y122_4 y122_5 k122_0 ((z50_v_away y122_4.toNatClampNeg) + 1) y122_5  Q))
def wp_X7_layAway_117 (v : V_X7) (x1 : Int32) (y42_2 : Int32) (z42_v_away : (Nat → Int32)) (B42 : Int32 → (Nat → Int32) → Prop) (y50_2 : Int32) (y50_3 : Int32) (z50_v_away : (Nat → Int32)) (B50 : Int32 → Int32 → (Nat → Int32) → Prop) (y117_4 : Int32) (y117_5 : Int32) (Q : (Nat → Int32) → Prop) : Prop :=
  wp_X7_layAway_122 v x1 y42_2 z42_v_away B42 y50_2 y50_3 z50_v_away B50 y117_4 y117_5 1  Q
def wb_X7_layAway_50 (v : V_X7) (x1 : Int32) (y42_2 : Int32) (z42_v_away : (Nat → Int32)) (B42 : Int32 → (Nat → Int32) → Prop)  (y50_2 : Int32) (y50_3 : Int32) (z50_v_away : (Nat → Int32)) (B50 : Int32 → Int32 → (Nat → Int32) → Prop) (Q : (Nat → Int32) → Prop) : Prop :=
  vp_in 7 1472 ∧ ((((X7_s v) (7 : Int32).toNatClampNeg) ≤ y50_3 → B42 y50_2 z50_v_away) ∧
  (¬ ((X7_s v) (7 : Int32).toNatClampNeg) ≤ y50_3 → wp_X7_tuftAt (X7_s14 v z50_v_away) y50_3 (fun r63 =>
  wp_X7_endFrom (X7_s14 v z50_v_away) y50_3 (fun r71 =>
  wp_X7_tuftAt (X7_s14 v z50_v_away) r71 (fun r74 =>
  vp_in r63 64 ∧ vp_in r74 64 ∧ ((((z50_v_away r63.toNatClampNeg) + 1) < (z50_v_away r74.toNatClampNeg) → wp_X7_layAway_117 v x1 y42_2 z42_v_away B42 y50_2 y50_3 z50_v_away B50 r63 r74  Q) ∧
  (¬ ((z50_v_away r63.toNatClampNeg) + 1) < (z50_v_away r74.toNatClampNeg) → (((z50_v_away r63.toNatClampNeg) ≤ ((z50_v_away r74.toNatClampNeg) + 1) → wp_X7_layAway_122 v x1 y42_2 z42_v_away B42 y50_2 y50_3 z50_v_away B50 r63 r74 0  Q) ∧
  (¬ (z50_v_away r63.toNatClampNeg) ≤ ((z50_v_away r74.toNatClampNeg) + 1) → wp_X7_layAway_117 v x1 y42_2 z42_v_away B42 y50_2 y50_3 z50_v_away B50 r63 r74  Q)))))))))
def wp_X7_layAway_50 (v : V_X7) (x1 : Int32) (y42_2 : Int32) (z42_v_away : (Nat → Int32)) (B42 : Int32 → (Nat → Int32) → Prop)  (y50_2 : Int32) (y50_3 : Int32) (z50_v_away : (Nat → Int32)) (Q : (Nat → Int32) → Prop) : Prop :=
  ∃ (I : Int32 → Int32 → (Nat → Int32) → Prop) (μ : Int32 → Int32 → (Nat → Int32) → Nat), I y50_2 y50_3 z50_v_away ∧ ∀ (s0 : Int32) (s1 : Int32) (s2 : (Nat → Int32)), I s0 s1 s2 → wb_X7_layAway_50 v x1 y42_2 z42_v_away B42  s0 s1 s2 (fun t0 t1 t2 => I t0 t1 t2 ∧ μ t0 t1 t2 < μ s0 s1 s2) Q
def wb_X7_layAway_42 (v : V_X7) (x1 : Int32)  (y42_2 : Int32) (z42_v_away : (Nat → Int32)) (B42 : Int32 → (Nat → Int32) → Prop) (Q : (Nat → Int32) → Prop) : Prop :=
  ((y42_2 = 0 → Q z42_v_away) ∧
  (¬ y42_2 = 0 → wp_X7_layAway_50 v x1 y42_2 z42_v_away B42  0 0 z42_v_away Q))
def wp_X7_layAway_42 (v : V_X7) (x1 : Int32)  (y42_2 : Int32) (z42_v_away : (Nat → Int32)) (Q : (Nat → Int32) → Prop) : Prop :=
  ∃ (I : Int32 → (Nat → Int32) → Prop) (μ : Int32 → (Nat → Int32) → Nat), I y42_2 z42_v_away ∧ ∀ (s0 : Int32) (s1 : (Nat → Int32)), I s0 s1 → wb_X7_layAway_42 v x1  s0 s1 (fun t0 t1 => I t0 t1 ∧ μ t0 t1 < μ s0 s1) Q
def wb_X7_layAway_2 (v : V_X7) (x1 : Int32)  (y2_2 : Int32) (z2_v_away : (Nat → Int32)) (B2 : Int32 → (Nat → Int32) → Prop) (Q : (Nat → Int32) → Prop) : Prop :=
  ((64 ≤ y2_2 → wp_X7_layAway_42 v x1  1 z2_v_away Q) ∧
  (¬ 64 ≤ y2_2 → ((y2_2 = x1 → wp_X7_hasMound (X7_s14 v z2_v_away) y2_2 (fun r20 =>
  ((r20 = 0 → vp_in y2_2 64 ∧ B2 (y2_2 + 1) (upd z2_v_away y2_2.toNatClampNeg 1000)) ∧
  (¬ r20 = 0 → vp_in y2_2 64 ∧ B2 (y2_2 + 1) (upd z2_v_away y2_2.toNatClampNeg 0))))) ∧
  (¬ y2_2 = x1 → vp_in y2_2 64 ∧ B2 (y2_2 + 1) (upd z2_v_away y2_2.toNatClampNeg 1000)))))
def wp_X7_layAway_2 (v : V_X7) (x1 : Int32)  (y2_2 : Int32) (z2_v_away : (Nat → Int32)) (Q : (Nat → Int32) → Prop) : Prop :=
  ∃ (I : Int32 → (Nat → Int32) → Prop) (μ : Int32 → (Nat → Int32) → Nat), I y2_2 z2_v_away ∧ ∀ (s0 : Int32) (s1 : (Nat → Int32)), I s0 s1 → wb_X7_layAway_2 v x1  s0 s1 (fun t0 t1 => I t0 t1 ∧ μ t0 t1 < μ s0 s1) Q
def wp_X7_layAway (v : V_X7) (x1 : Int32) (Q : (Nat → Int32) → Prop) : Prop :=
  wp_X7_layAway_2 v x1  0 (X7_away v) Q
def wb_X7_groups_24 (v : V_X7) (y4_1 : Int32) (y4_2 : Int32) (z4_v_away : (Nat → Int32)) (B4 : Int32 → Int32 → (Nat → Int32) → Prop) (z24_v_away : (Nat → Int32)) (y24_3 : Int32) (y24_4 : Int32) (B24 : Int32 → Int32 → Prop) (Q : Int32 → (Nat → Int32) → Prop) : Prop :=
  ((y4_2 ≤ y24_4 → ((y24_3 = 0 → B4 (y4_1 + 0) (y4_2 + 1) z24_v_away) ∧
  (¬ y24_3 = 0 → B4 (y4_1 + 1) (y4_2 + 1) z24_v_away))) ∧
  (¬ y4_2 ≤ y24_4 → ((y24_3 = 0 → B24 0 (y24_4 + 1)) ∧
  (¬ y24_3 = 0 → vp_in y24_4 64 ∧ (((z24_v_away y24_4.toNatClampNeg) = 1000 → B24 1 (y24_4 + 1)) ∧
  (¬ (z24_v_away y24_4.toNatClampNeg) = 1000 → B24 0 (y24_4 + 1)))))))
def wp_X7_groups_24 (v : V_X7) (y4_1 : Int32) (y4_2 : Int32) (z4_v_away : (Nat → Int32)) (B4 : Int32 → Int32 → (Nat → Int32) → Prop) (z24_v_away : (Nat → Int32)) (y24_3 : Int32) (y24_4 : Int32) (Q : Int32 → (Nat → Int32) → Prop) : Prop :=
  ∃ (I : Int32 → Int32 → Prop) (μ : Int32 → Int32 → Nat), I y24_3 y24_4 ∧ ∀ (s0 : Int32) (s1 : Int32), I s0 s1 → wb_X7_groups_24 v y4_1 y4_2 z4_v_away B4 z24_v_away s0 s1 (fun t0 t1 => I t0 t1 ∧ μ t0 t1 < μ s0 s1) Q
def wb_X7_groups_4 (v : V_X7)  (y4_1 : Int32) (y4_2 : Int32) (z4_v_away : (Nat → Int32)) (B4 : Int32 → Int32 → (Nat → Int32) → Prop) (Q : Int32 → (Nat → Int32) → Prop) : Prop :=
  ((64 ≤ y4_2 → Q y4_1 z4_v_away) ∧
  (¬ 64 ≤ y4_2 → wp_X7_layAway (X7_s14 v z4_v_away) y4_2 (fun z12_v_away =>
  wp_X7_hasMound (X7_s14 v z12_v_away) y4_2 (fun r17 =>
  wp_X7_groups_24 v y4_1 y4_2 z4_v_away B4 z12_v_away r17 0 Q))))
def wp_X7_groups_4 (v : V_X7)  (y4_1 : Int32) (y4_2 : Int32) (z4_v_away : (Nat → Int32)) (Q : Int32 → (Nat → Int32) → Prop) : Prop :=
  ∃ (I : Int32 → Int32 → (Nat → Int32) → Prop) (μ : Int32 → Int32 → (Nat → Int32) → Nat), I y4_1 y4_2 z4_v_away ∧ ∀ (s0 : Int32) (s1 : Int32) (s2 : (Nat → Int32)), I s0 s1 s2 → wb_X7_groups_4 v  s0 s1 s2 (fun t0 t1 t2 => I t0 t1 t2 ∧ μ t0 t1 t2 < μ s0 s1 s2) Q
def wp_X7_groups (v : V_X7) (Q : Int32 → (Nat → Int32) → Prop) : Prop :=
  wp_X7_groups_4 v  0 0 (X7_away v) Q
def wb_X7_sumOf_4 (v : V_X7) (x1 : Int32)  (y4_2 : Int32) (y4_3 : Int32) (B4 : Int32 → Int32 → Prop) (Q : Int32 → Prop) : Prop :=
  ((64 ≤ y4_3 → Q y4_2) ∧
  (¬ 64 ≤ y4_3 → vp_in (x1 + y4_3) 1472 ∧ ((((X7_s v) (x1 + y4_3).toNatClampNeg) ≤ 0 → B4 (y4_2 + 0) (y4_3 + 1)) ∧
  (¬ ((X7_s v) (x1 + y4_3).toNatClampNeg) ≤ 0 → B4 (y4_2 + 1) (y4_3 + 1)))))
def wp_X7_sumOf_4 (v : V_X7) (x1 : Int32)  (y4_2 : Int32) (y4_3 : Int32) (Q : Int32 → Prop) : Prop :=
  ∃ (I : Int32 → Int32 → Prop) (μ : Int32 → Int32 → Nat), I y4_2 y4_3 ∧ ∀ (s0 : Int32) (s1 : Int32), I s0 s1 → wb_X7_sumOf_4 v x1  s0 s1 (fun t0 t1 => I t0 t1 ∧ μ t0 t1 < μ s0 s1) Q
def wp_X7_sumOf (v : V_X7) (x1 : Int32) (Q : Int32 → Prop) : Prop :=
  wp_X7_sumOf_4 v x1  0 0 Q
def wp_X7_counted (v : V_X7) (x1 : Int32) (Q : Int32 → (Nat → Int32) → (Nat → Int32) → Prop) : Prop :=
  ((x1 = 0 → vp_in x1 1472 ∧ Q ((X7_s v) x1.toNatClampNeg) (X7_away v) (X7_isHollow v)) ∧
  (¬ x1 = 0 → ((x1 = 1 → vp_in x1 1472 ∧ Q ((X7_s v) x1.toNatClampNeg) (X7_away v) (X7_isHollow v)) ∧
  (¬ x1 = 1 → ((x1 = 2 → vp_in x1 1472 ∧ Q ((X7_s v) x1.toNatClampNeg) (X7_away v) (X7_isHollow v)) ∧
  (¬ x1 = 2 → ((x1 = 3 → wp_X7_sumOf v 8 (fun r82 =>
  Q r82 (X7_away v) (X7_isHollow v))) ∧
  (¬ x1 = 3 → ((x1 = 4 → wp_X7_tunnels v (fun r87 =>
  Q r87 (X7_away v) (X7_isHollow v))) ∧
  (¬ x1 = 4 → ((x1 = 5 → wp_X7_hollow v (fun r92 z92_v_isHollow =>
  Q r92 (X7_away v) z92_v_isHollow)) ∧
  (¬ x1 = 5 → ((x1 = 6 → wp_X7_sumOf v 200 (fun r100 =>
  Q r100 (X7_away v) (X7_isHollow v))) ∧
  (¬ x1 = 6 → ((x1 = 7 → wp_X7_traps v (fun r105 =>
  Q r105 (X7_away v) (X7_isHollow v))) ∧
  (¬ x1 = 7 → ((x1 = 8 → wp_X7_sumOf v 72 (fun r112 =>
  Q r112 (X7_away v) (X7_isHollow v))) ∧
  (¬ x1 = 8 → ((x1 = 9 → vp_in ((3 + x1) - 9) 1472 ∧ Q ((X7_s v) ((3 + x1) - 9).toNatClampNeg) (X7_away v) (X7_isHollow v)) ∧
  (¬ x1 = 9 → ((x1 = 10 → vp_in ((3 + x1) - 9) 1472 ∧ Q ((X7_s v) ((3 + x1) - 9).toNatClampNeg) (X7_away v) (X7_isHollow v)) ∧
  (¬ x1 = 10 → ((x1 = 11 → vp_in ((3 + x1) - 9) 1472 ∧ Q ((X7_s v) ((3 + x1) - 9).toNatClampNeg) (X7_away v) (X7_isHollow v)) ∧
  (¬ x1 = 11 → ((x1 = 12 → wp_X7_groups v (fun r129 z129_v_away =>
  Q r129 z129_v_away (X7_isHollow v))) ∧
  (¬ x1 = 12 → ((x1 = 13 → vp_in 6 1472 ∧ Q ((X7_s v) (6 : Int32).toNatClampNeg) (X7_away v) (X7_isHollow v)) ∧
  (¬ x1 = 13 → Q (X7_savedMany v) (X7_away v) (X7_isHollow v)))))))))))))))))))))))))))))
def wp_X7_count_16 (v : V_X7) (x1 : Int32) (k16_0 : Int32) (Q : Int32 → (Nat → Int32) → (Nat → Int32) → Int32 → Prop) : Prop :=
  wp_X7_holds v k16_0 (fun r16 z16_v_thrown =>
  ((r16 = 0 → Q 0 (X7_away v) (X7_isHollow v) z16_v_thrown) ∧
  (¬ r16 = 0 → wp_X7_counted (X7_s8 v z16_v_thrown) x1 (fun r24 z24_v_away z24_v_isHollow =>
  Q r24 z24_v_away z24_v_isHollow z16_v_thrown))))
def wp_X7_count (v : V_X7) (x1 : Int32) (Q : Int32 → (Nat → Int32) → (Nat → Int32) → Int32 → Prop) : Prop :=
  wp_X7_in x1 0 14 (fun r5 =>
  ((r5 = 0 → wp_X7_count_16 v x1 1  Q) ∧
  (¬ r5 = 0 → wp_X7_count_16 v x1 0  Q)))
def wp_X7_fewestTo (v : V_X7) (x1 : Int32) (x2 : Int32) (Q : Int32 → (Nat → Int32) → Prop) : Prop :=
  wp_X7_layAway v x1 (fun z2_v_away =>
  wp_X7_hasMound (X7_s14 v z2_v_away) x2 (fun r7 =>
  ((r7 = 0 → Q (-1) z2_v_away) ∧
  (¬ r7 = 0 → vp_in x2 64 ∧ ((1000 ≤ (z2_v_away x2.toNatClampNeg) → Q (-1) z2_v_away) ∧
  (¬ 1000 ≤ (z2_v_away x2.toNatClampNeg) → Q (z2_v_away x2.toNatClampNeg) z2_v_away))))))
def wp_X7_joined_20 (v : V_X7) (x1 : Int32) (x2 : Int32) (k20_0 : Int32) (Q : Int32 → (Nat → Int32) → Int32 → Prop) : Prop :=
  wp_X7_holds v k20_0 (fun r20 z20_v_thrown =>
  ((r20 = 0 → Q 0 (X7_away v) z20_v_thrown) ∧
  (¬ r20 = 0 → wp_X7_fewestTo (X7_s8 v z20_v_thrown) x1 x2 (fun r29 z29_v_away =>
  ((r29 = (-1) → Q 0 z29_v_away z20_v_thrown) ∧
  (¬ r29 = (-1) → Q 1 z29_v_away z20_v_thrown))))))
def wp_X7_joined_19 (v : V_X7) (x1 : Int32) (x2 : Int32)  (Q : Int32 → (Nat → Int32) → Int32 → Prop) : Prop :=
  wp_X7_joined_20 v x1 x2 1  Q
def wp_X7_joined (v : V_X7) (x1 : Int32) (x2 : Int32) (Q : Int32 → (Nat → Int32) → Int32 → Prop) : Prop :=
  wp_X7_isTuft x1 (fun r2 =>
  ((r2 = 0 → wp_X7_joined_19 v x1 x2   Q) ∧
  (¬ r2 = 0 → wp_X7_isTuft x2 (fun r9 =>
  ((r9 = 0 → wp_X7_joined_19 v x1 x2   Q) ∧
  (¬ r9 = 0 → wp_X7_joined_20 v x1 x2 0  Q))))))
def wp_X7_fewest_20 (v : V_X7) (x1 : Int32) (x2 : Int32) (k20_0 : Int32) (Q : Int32 → (Nat → Int32) → Int32 → Prop) : Prop :=
  wp_X7_holds v k20_0 (fun r20 z20_v_thrown =>
  ((r20 = 0 → Q 0 (X7_away v) z20_v_thrown) ∧
  (¬ r20 = 0 → wp_X7_fewestTo (X7_s8 v z20_v_thrown) x1 x2 (fun r29 z29_v_away =>
  Q r29 z29_v_away z20_v_thrown))))
def wp_X7_fewest_19 (v : V_X7) (x1 : Int32) (x2 : Int32)  (Q : Int32 → (Nat → Int32) → Int32 → Prop) : Prop :=
  wp_X7_fewest_20 v x1 x2 1  Q
def wp_X7_fewest (v : V_X7) (x1 : Int32) (x2 : Int32) (Q : Int32 → (Nat → Int32) → Int32 → Prop) : Prop :=
  wp_X7_isTuft x1 (fun r2 =>
  ((r2 = 0 → wp_X7_fewest_19 v x1 x2   Q) ∧
  (¬ r2 = 0 → wp_X7_isTuft x2 (fun r9 =>
  ((r9 = 0 → wp_X7_fewest_19 v x1 x2   Q) ∧
  (¬ r9 = 0 → wp_X7_fewest_20 v x1 x2 0  Q))))))
def wp_X7_whenDug_47 (v : V_X7) (x1 : Int32) (x2 : Int32) (z47_v_aside : (Nat → Int32)) (z47_v_isHollow : (Nat → Int32)) (z47_v_s : (Nat → Int32)) (k47_0 : Int32) (Q : Int32 → (Nat → Int32) → (Nat → Int32) → (Nat → Int32) → Prop) : Prop :=
  wp_X7_putBack (z47_v_s, z47_v_aside, (X7_kept v), (X7_isKept v), (X7_saved v), (X7_savedMany v), (X7_text v), (X7_length v), (X7_thrown v), (X7_joint v), (X7_position v), (X7_isWrong v), z47_v_isHollow, (X7_sure v), (X7_away v), (X7_digested v)) (fun z50_v_s =>
  Q k47_0 z47_v_aside z47_v_isHollow z50_v_s)
def wp_X7_whenDug (v : V_X7) (x1 : Int32) (x2 : Int32) (Q : Int32 → (Nat → Int32) → (Nat → Int32) → (Nat → Int32) → Prop) : Prop :=
  wp_X7_putAside v (fun z1_v_aside =>
  vp_in 5 1472 ∧ wp_X7_dug (X7_s1 v z1_v_aside) x1 (fun r13 z13_v_s =>
  ((x2 = 0 → wp_X7_whenDug_47 v x1 x2 z1_v_aside (X7_isHollow v) z13_v_s ((z13_v_s (5 : Int32).toNatClampNeg) - ((X7_s v) (5 : Int32).toNatClampNeg))  Q) ∧
  (¬ x2 = 0 → ((x2 = 1 → wp_X7_whenDug_47 v x1 x2 z1_v_aside (X7_isHollow v) z13_v_s r13  Q) ∧
  (¬ x2 = 1 → wp_X7_hollow (X7_s1 (X7_s0 v z13_v_s) z1_v_aside) (fun r44 z44_v_isHollow =>
  wp_X7_whenDug_47 v x1 x2 z1_v_aside z44_v_isHollow z13_v_s r44  Q)))))))
def wp_X7_ifDug_26 (v : V_X7) (x1 : Int32) (x2 : Int32) (k26_0 : Int32) (Q : Int32 → (Nat → Int32) → (Nat → Int32) → (Nat → Int32) → Int32 → Prop) : Prop :=
  wp_X7_holds v k26_0 (fun r26 z26_v_thrown =>
  ((r26 = 0 → Q 0 (X7_aside v) (X7_isHollow v) (X7_s v) z26_v_thrown) ∧
  (¬ r26 = 0 → wp_X7_whenDug (X7_s8 v z26_v_thrown) x1 x2 (fun r35 z35_v_aside z35_v_isHollow z35_v_s =>
  Q r35 z35_v_aside z35_v_isHollow z35_v_s z26_v_thrown))))
def wp_X7_ifDug (v : V_X7) (x1 : Int32) (x2 : Int32) (Q : Int32 → (Nat → Int32) → (Nat → Int32) → (Nat → Int32) → Int32 → Prop) : Prop :=
  wp_X7_isTuft x1 (fun r2 =>
  ((r2 = 0 → wp_X7_ifDug_26 v x1 x2 1  Q) ∧
  (¬ r2 = 0 → wp_X7_in x2 0 2 (fun r15 =>
  ((r15 = 0 → wp_X7_ifDug_26 v x1 x2 2  Q) ∧
  (¬ r15 = 0 → wp_X7_ifDug_26 v x1 x2 0  Q))))))
def wp_X7_best_48 (v : V_X7) (y6_1 : Int32) (y6_2 : Int32) (y6_3 : Int32) (B6 : Int32 → Int32 → Int32 → Prop) (y48_4 : Int32) (k48_0 : Int32) (Q : Int32 → Prop) : Prop :=
  ((y48_4 ≤ y6_2 → B6 k48_0 y6_2 (y6_3 + 1)) ∧
  (¬ y48_4 ≤ y6_2 → B6 k48_0 y48_4 (y6_3 + 1)))
def wp_X7_best_35 (v : V_X7) (y6_1 : Int32) (y6_2 : Int32) (y6_3 : Int32) (B6 : Int32 → Int32 → Int32 → Prop) (k35_0 : Int32) (Q : Int32 → Prop) : Prop :=
  ((k35_0 ≤ y6_2 → wp_X7_best_48 v y6_1 y6_2 y6_3 B6 k35_0 y6_1  Q) ∧
  (¬ k35_0 ≤ y6_2 → wp_X7_best_48 v y6_1 y6_2 y6_3 B6 k35_0 y6_3  Q))
def wb_X7_best_6 (v : V_X7)  (y6_1 : Int32) (y6_2 : Int32) (y6_3 : Int32) (B6 : Int32 → Int32 → Int32 → Prop) (Q : Int32 → Prop) : Prop :=
  ((64 ≤ y6_3 → Q y6_1) ∧
  (¬ 64 ≤ y6_3 → vp_in (200 + y6_3) 1472 ∧ ((((X7_s v) (200 + y6_3).toNatClampNeg) = 1 → wp_X7_best_35 v y6_1 y6_2 y6_3 B6 0  Q) ∧
  (¬ ((X7_s v) (200 + y6_3).toNatClampNeg) = 1 → wp_X7_tunnelsWith v y6_3 (fun r32 =>
  wp_X7_best_35 v y6_1 y6_2 y6_3 B6 r32  Q)))))
def wp_X7_best_6 (v : V_X7)  (y6_1 : Int32) (y6_2 : Int32) (y6_3 : Int32) (Q : Int32 → Prop) : Prop :=
  ∃ (I : Int32 → Int32 → Int32 → Prop) (μ : Int32 → Int32 → Int32 → Nat), I y6_1 y6_2 y6_3 ∧ ∀ (s0 : Int32) (s1 : Int32) (s2 : Int32), I s0 s1 s2 → wb_X7_best_6 v  s0 s1 s2 (fun t0 t1 t2 => I t0 t1 t2 ∧ μ t0 t1 t2 < μ s0 s1 s2) Q
def wp_X7_best (v : V_X7) (Q : Int32 → Prop) : Prop :=
  wp_X7_best_6 v  (-1) 0 0 Q
def wp_X7_bestDig (v : V_X7) (Q : Int32 → Int32 → Prop) : Prop :=
  wp_X7_best (X7_s8 v 0) (fun r6 =>
  Q r6 0)
def wp_X7_passed_47 (v : V_X7) (x1 : Int32) (x2 : Int32) (z47_v_aside : (Nat → Int32)) (z47_v_s : (Nat → Int32)) (k47_0 : Int32) (Q : Int32 → (Nat → Int32) → (Nat → Int32) → Prop) : Prop :=
  wp_X7_putBack (X7_s1 (X7_s0 v z47_v_s) z47_v_aside) (fun z50_v_s =>
  Q k47_0 z47_v_aside z50_v_s)
def wp_X7_passed (v : V_X7) (x1 : Int32) (x2 : Int32) (Q : Int32 → (Nat → Int32) → (Nat → Int32) → Prop) : Prop :=
  wp_X7_putAside v (fun z1_v_aside =>
  vp_in 2 1472 ∧ wp_X7_beats (X7_s1 v z1_v_aside) x1 (fun r13 z13_v_s =>
  ((x2 = 0 → wp_X7_passed_47 v x1 x2 z1_v_aside z13_v_s r13  Q) ∧
  (¬ x2 = 0 → ((x2 = 1 → wp_X7_tunnels (X7_s1 (X7_s0 v z13_v_s) z1_v_aside) (fun r33 =>
  wp_X7_passed_47 v x1 x2 z1_v_aside z13_v_s r33  Q)) ∧
  (¬ x2 = 1 → wp_X7_passed_47 v x1 x2 z1_v_aside z13_v_s ((z13_v_s (2 : Int32).toNatClampNeg) - ((X7_s v) (2 : Int32).toNatClampNeg))  Q))))))
def wp_X7_ifPassed_25 (v : V_X7) (x1 : Int32) (x2 : Int32) (k25_0 : Int32) (Q : Int32 → (Nat → Int32) → (Nat → Int32) → Int32 → Prop) : Prop :=
  wp_X7_holds v k25_0 (fun r25 z25_v_thrown =>
  ((r25 = 0 → Q 0 (X7_aside v) (X7_s v) z25_v_thrown) ∧
  (¬ r25 = 0 → wp_X7_passed (X7_s8 v z25_v_thrown) x1 x2 (fun r34 z34_v_aside z34_v_s =>
  Q r34 z34_v_aside z34_v_s z25_v_thrown))))
def wp_X7_ifPassed_24 (v : V_X7) (x1 : Int32) (x2 : Int32)  (Q : Int32 → (Nat → Int32) → (Nat → Int32) → Int32 → Prop) : Prop :=
  wp_X7_ifPassed_25 v x1 x2 1  Q
def wp_X7_ifPassed (v : V_X7) (x1 : Int32) (x2 : Int32) (Q : Int32 → (Nat → Int32) → (Nat → Int32) → Int32 → Prop) : Prop :=
  wp_X7_in x1 1 30 (fun r5 =>
  ((r5 = 0 → wp_X7_ifPassed_24 v x1 x2   Q) ∧
  (¬ r5 = 0 → wp_X7_in x2 0 2 (fun r14 =>
  ((r14 = 0 → wp_X7_ifPassed_24 v x1 x2   Q) ∧
  (¬ r14 = 0 → wp_X7_ifPassed_25 v x1 x2 0  Q))))))
def wp_X7_whenMound_30 (v : V_X7) (y30_1 : Int32) (y30_2 : Int32) (z30_v_aside : (Nat → Int32)) (z30_v_s : (Nat → Int32)) (Q : Int32 → (Nat → Int32) → (Nat → Int32) → Prop) : Prop :=
  wp_X7_putBack (X7_s1 (X7_s0 v z30_v_s) z30_v_aside) (fun z31_v_s =>
  ((y30_2 ≤ 0 → Q (-1) z30_v_aside z31_v_s) ∧
  (¬ y30_2 ≤ 0 → Q y30_1 z30_v_aside z31_v_s)))
def wb_X7_whenMound_8 (v : V_X7) (z8_v_aside : (Nat → Int32)) (y8_1 : Int32) (y8_2 : Int32) (z8_v_s : (Nat → Int32)) (B8 : Int32 → Int32 → (Nat → Int32) → Prop) (Q : Int32 → (Nat → Int32) → (Nat → Int32) → Prop) : Prop :=
  ((100 ≤ y8_1 → wp_X7_whenMound_30 v y8_1 y8_2 z8_v_aside z8_v_s  Q) ∧
  (¬ 100 ≤ y8_1 → ((y8_2 = 0 → wp_X7_beats (X7_s1 (X7_s0 v z8_v_s) z8_v_aside) 1 (fun r20 z20_v_s =>
  B8 (y8_1 + 1) r20 z20_v_s)) ∧
  (¬ y8_2 = 0 → wp_X7_whenMound_30 v y8_1 y8_2 z8_v_aside z8_v_s  Q))))
def wp_X7_whenMound_8 (v : V_X7) (z8_v_aside : (Nat → Int32)) (y8_1 : Int32) (y8_2 : Int32) (z8_v_s : (Nat → Int32)) (Q : Int32 → (Nat → Int32) → (Nat → Int32) → Prop) : Prop :=
  ∃ (I : Int32 → Int32 → (Nat → Int32) → Prop) (μ : Int32 → Int32 → (Nat → Int32) → Nat), I y8_1 y8_2 z8_v_s ∧ ∀ (s0 : Int32) (s1 : Int32) (s2 : (Nat → Int32)), I s0 s1 s2 → wb_X7_whenMound_8 v z8_v_aside s0 s1 s2 (fun t0 t1 t2 => I t0 t1 t2 ∧ μ t0 t1 t2 < μ s0 s1 s2) Q
def wp_X7_whenMound (v : V_X7) (Q : Int32 → (Nat → Int32) → (Nat → Int32) → Prop) : Prop :=
  wp_X7_putAside v (fun z1_v_aside =>
  wp_X7_whenMound_8 v z1_v_aside 0 0 (X7_s v) Q)
def wp_X7_nextMound (v : V_X7) (Q : Int32 → (Nat → Int32) → (Nat → Int32) → Int32 → Prop) : Prop :=
  wp_X7_whenMound (X7_s8 v 0) (fun r6 z6_v_aside z6_v_s =>
  Q r6 z6_v_aside z6_v_s 0)
def wp_X7_share (v : V_X7) (Q : UInt64 → (Nat → Int32) → Prop) : Prop :=
  wp_X7_hollow v (fun r1 z1_v_isHollow =>
  vf_n64 (FP.ddiv (FP.i2d r1) 4634204016564240384) ∧ Q (FP.ddiv (FP.i2d r1) 4634204016564240384) z1_v_isHollow)
def wp_X7_hollowShare (v : V_X7) (Q : UInt64 → (Nat → Int32) → Int32 → Prop) : Prop :=
  wp_X7_share (X7_s8 v 0) (fun r6 z6_v_isHollow =>
  Q r6 z6_v_isHollow 0)
def wb_X7_bitsOf_15 (x0 : UInt64)  (y15_2 : Int64) (y15_4 : UInt64) (B15 : Int64 → UInt64 → Prop) (Q : Int64 → Prop) : Prop :=
  ((0 ≤ (Op.cmpValue (FP.dcmp y15_4 FP.dconst1) .g) → vf_n64 (FP.dsub y15_4 FP.dconst1) ∧ vf_n64 (FP.dmul (FP.dsub y15_4 FP.dconst1) 4841369599423283200) ∧ Q ((y15_2 * 4503599627370496) + (FP.d2l (FP.dmul (FP.dsub y15_4 FP.dconst1) 4841369599423283200)))) ∧
  (¬ 0 ≤ (Op.cmpValue (FP.dcmp y15_4 FP.dconst1) .g) → vf_n64 (FP.dmul y15_4 4611686018427387904) ∧ B15 (y15_2 - 1) (FP.dmul y15_4 4611686018427387904)))
def wp_X7_bitsOf_15 (x0 : UInt64)  (y15_2 : Int64) (y15_4 : UInt64) (Q : Int64 → Prop) : Prop :=
  ∃ (I : Int64 → UInt64 → Prop) (μ : Int64 → UInt64 → Nat), I y15_2 y15_4 ∧ ∀ (s0 : Int64) (s1 : UInt64), I s0 s1 → wb_X7_bitsOf_15 x0  s0 s1 (fun t0 t1 => I t0 t1 ∧ μ t0 t1 < μ s0 s1) Q
def wp_X7_bitsOf (x0 : UInt64) (Q : Int64 → Prop) : Prop :=
  (((Op.cmpValue (FP.dcmp x0 FP.dconst0) .l) = 0 → Q 0) ∧
  (¬ (Op.cmpValue (FP.dcmp x0 FP.dconst0) .l) = 0 → wp_X7_bitsOf_15 x0  1023 x0 Q))
def wp_X7_digestOne (v : V_X7) (x1 : Int64) (Q : Int64 → Prop) : Prop :=
  Q ((31 * (X7_digested v)) + x1)
def wb_X7_digestLawn_118 (v : V_X7) (z84_v_isHollow : (Nat → Int32)) (z84_v_sure : (Nat → Int32)) (y84_1 : Int32) (z84_v_digested : Int64) (B84 : Int32 → Int64 → Prop)  (y118_2 : Int32) (z118_v_digested : Int64) (B118 : Int32 → Int64 → Prop) (Q : Int64 → (Nat → Int32) → (Nat → Int32) → Prop) : Prop :=
  wp_X7_toldOfTunnel ((X7_s v), (X7_aside v), (X7_kept v), (X7_isKept v), (X7_saved v), (X7_savedMany v), (X7_text v), (X7_length v), (X7_thrown v), (X7_joint v), (X7_position v), (X7_isWrong v), z84_v_isHollow, z84_v_sure, (X7_away v), z118_v_digested) y84_1 2 (fun r122 =>
  ((r122 ≤ y118_2 → B84 (y84_1 + 1) z118_v_digested) ∧
  (¬ r122 ≤ y118_2 → wp_X7_cellOf ((X7_s v), (X7_aside v), (X7_kept v), (X7_isKept v), (X7_saved v), (X7_savedMany v), (X7_text v), (X7_length v), (X7_thrown v), (X7_joint v), (X7_position v), (X7_isWrong v), z84_v_isHollow, z84_v_sure, (X7_away v), z118_v_digested) y84_1 y118_2 (fun r132 =>
  wp_X7_digestOne ((X7_s v), (X7_aside v), (X7_kept v), (X7_isKept v), (X7_saved v), (X7_savedMany v), (X7_text v), (X7_length v), (X7_thrown v), (X7_joint v), (X7_position v), (X7_isWrong v), z84_v_isHollow, z84_v_sure, (X7_away v), z118_v_digested) (r132.toInt64) (fun z136_v_digested =>
  B118 (y118_2 + 1) z136_v_digested)))))
def wp_X7_digestLawn_118 (v : V_X7) (z84_v_isHollow : (Nat → Int32)) (z84_v_sure : (Nat → Int32)) (y84_1 : Int32) (z84_v_digested : Int64) (B84 : Int32 → Int64 → Prop)  (y118_2 : Int32) (z118_v_digested : Int64) (Q : Int64 → (Nat → Int32) → (Nat → Int32) → Prop) : Prop :=
  ∃ (I : Int32 → Int64 → Prop) (μ : Int32 → Int64 → Nat), I y118_2 z118_v_digested ∧ ∀ (s0 : Int32) (s1 : Int64), I s0 s1 → wb_X7_digestLawn_118 v z84_v_isHollow z84_v_sure y84_1 z84_v_digested B84  s0 s1 (fun t0 t1 => I t0 t1 ∧ μ t0 t1 < μ s0 s1) Q
def wb_X7_digestLawn_94 (v : V_X7) (z84_v_isHollow : (Nat → Int32)) (z84_v_sure : (Nat → Int32)) (y84_1 : Int32) (z84_v_digested : Int64) (B84 : Int32 → Int64 → Prop)  (y94_2 : Int32) (z94_v_digested : Int64) (B94 : Int32 → Int64 → Prop) (Q : Int64 → (Nat → Int32) → (Nat → Int32) → Prop) : Prop :=
  ((3 ≤ y94_2 → wp_X7_digestLawn_118 v z84_v_isHollow z84_v_sure y84_1 z84_v_digested B84  0 z94_v_digested Q) ∧
  (¬ 3 ≤ y94_2 → wp_X7_toldOfTunnel ((X7_s v), (X7_aside v), (X7_kept v), (X7_isKept v), (X7_saved v), (X7_savedMany v), (X7_text v), (X7_length v), (X7_thrown v), (X7_joint v), (X7_position v), (X7_isWrong v), z84_v_isHollow, z84_v_sure, (X7_away v), z94_v_digested) y84_1 y94_2 (fun r103 =>
  wp_X7_digestOne ((X7_s v), (X7_aside v), (X7_kept v), (X7_isKept v), (X7_saved v), (X7_savedMany v), (X7_text v), (X7_length v), (X7_thrown v), (X7_joint v), (X7_position v), (X7_isWrong v), z84_v_isHollow, z84_v_sure, (X7_away v), z94_v_digested) (r103.toInt64) (fun z107_v_digested =>
  B94 (y94_2 + 1) z107_v_digested))))
def wp_X7_digestLawn_94 (v : V_X7) (z84_v_isHollow : (Nat → Int32)) (z84_v_sure : (Nat → Int32)) (y84_1 : Int32) (z84_v_digested : Int64) (B84 : Int32 → Int64 → Prop)  (y94_2 : Int32) (z94_v_digested : Int64) (Q : Int64 → (Nat → Int32) → (Nat → Int32) → Prop) : Prop :=
  ∃ (I : Int32 → Int64 → Prop) (μ : Int32 → Int64 → Nat), I y94_2 z94_v_digested ∧ ∀ (s0 : Int32) (s1 : Int64), I s0 s1 → wb_X7_digestLawn_94 v z84_v_isHollow z84_v_sure y84_1 z84_v_digested B84  s0 s1 (fun t0 t1 => I t0 t1 ∧ μ t0 t1 < μ s0 s1) Q
def wb_X7_digestLawn_84 (v : V_X7) (z84_v_isHollow : (Nat → Int32)) (z84_v_sure : (Nat → Int32)) (y84_1 : Int32) (z84_v_digested : Int64) (B84 : Int32 → Int64 → Prop) (Q : Int64 → (Nat → Int32) → (Nat → Int32) → Prop) : Prop :=
  wp_X7_tunnels ((X7_s v), (X7_aside v), (X7_kept v), (X7_isKept v), (X7_saved v), (X7_savedMany v), (X7_text v), (X7_length v), (X7_thrown v), (X7_joint v), (X7_position v), (X7_isWrong v), z84_v_isHollow, z84_v_sure, (X7_away v), z84_v_digested) (fun r86 =>
  ((r86 ≤ y84_1 → Q z84_v_digested z84_v_isHollow z84_v_sure) ∧
  (¬ r86 ≤ y84_1 → wp_X7_digestLawn_94 v z84_v_isHollow z84_v_sure y84_1 z84_v_digested B84  0 z84_v_digested Q)))
def wp_X7_digestLawn_84 (v : V_X7) (z84_v_isHollow : (Nat → Int32)) (z84_v_sure : (Nat → Int32)) (y84_1 : Int32) (z84_v_digested : Int64) (Q : Int64 → (Nat → Int32) → (Nat → Int32) → Prop) : Prop :=
  ∃ (I : Int32 → Int64 → Prop) (μ : Int32 → Int64 → Nat), I y84_1 z84_v_digested ∧ ∀ (s0 : Int32) (s1 : Int64), I s0 s1 → wb_X7_digestLawn_84 v z84_v_isHollow z84_v_sure s0 s1 (fun t0 t1 => I t0 t1 ∧ μ t0 t1 < μ s0 s1) Q
def wb_X7_digestLawn_53 (v : V_X7) (z41_v_isHollow : (Nat → Int32)) (z41_v_sure : (Nat → Int32)) (y41_1 : Int32) (z41_v_digested : Int64) (B41 : Int32 → Int64 → Prop)  (y53_2 : Int32) (z53_v_digested : Int64) (B53 : Int32 → Int64 → Prop) (Q : Int64 → (Nat → Int32) → (Nat → Int32) → Prop) : Prop :=
  ((7 ≤ y53_2 → B41 (y41_1 + 1) z53_v_digested) ∧
  (¬ 7 ≤ y53_2 → wp_X7_toldOfMole ((X7_s v), (X7_aside v), (X7_kept v), (X7_isKept v), (X7_saved v), (X7_savedMany v), (X7_text v), (X7_length v), (X7_thrown v), (X7_joint v), (X7_position v), (X7_isWrong v), z41_v_isHollow, z41_v_sure, (X7_away v), z53_v_digested) y41_1 y53_2 (fun r63 =>
  wp_X7_digestOne ((X7_s v), (X7_aside v), (X7_kept v), (X7_isKept v), (X7_saved v), (X7_savedMany v), (X7_text v), (X7_length v), (X7_thrown v), (X7_joint v), (X7_position v), (X7_isWrong v), z41_v_isHollow, z41_v_sure, (X7_away v), z53_v_digested) (r63.toInt64) (fun z67_v_digested =>
  B53 (y53_2 + 1) z67_v_digested))))
def wp_X7_digestLawn_53 (v : V_X7) (z41_v_isHollow : (Nat → Int32)) (z41_v_sure : (Nat → Int32)) (y41_1 : Int32) (z41_v_digested : Int64) (B41 : Int32 → Int64 → Prop)  (y53_2 : Int32) (z53_v_digested : Int64) (Q : Int64 → (Nat → Int32) → (Nat → Int32) → Prop) : Prop :=
  ∃ (I : Int32 → Int64 → Prop) (μ : Int32 → Int64 → Nat), I y53_2 z53_v_digested ∧ ∀ (s0 : Int32) (s1 : Int64), I s0 s1 → wb_X7_digestLawn_53 v z41_v_isHollow z41_v_sure y41_1 z41_v_digested B41  s0 s1 (fun t0 t1 => I t0 t1 ∧ μ t0 t1 < μ s0 s1) Q
def wb_X7_digestLawn_41 (v : V_X7) (z41_v_isHollow : (Nat → Int32)) (z41_v_sure : (Nat → Int32)) (y41_1 : Int32) (z41_v_digested : Int64) (B41 : Int32 → Int64 → Prop) (Q : Int64 → (Nat → Int32) → (Nat → Int32) → Prop) : Prop :=
  vp_in 1 1472 ∧ ((((X7_s v) (1 : Int32).toNatClampNeg) ≤ y41_1 → wp_X7_digestLawn_84 v z41_v_isHollow z41_v_sure 0 z41_v_digested Q) ∧
  (¬ ((X7_s v) (1 : Int32).toNatClampNeg) ≤ y41_1 → wp_X7_digestLawn_53 v z41_v_isHollow z41_v_sure y41_1 z41_v_digested B41  0 z41_v_digested Q))
def wp_X7_digestLawn_41 (v : V_X7) (z41_v_isHollow : (Nat → Int32)) (z41_v_sure : (Nat → Int32)) (y41_1 : Int32) (z41_v_digested : Int64) (Q : Int64 → (Nat → Int32) → (Nat → Int32) → Prop) : Prop :=
  ∃ (I : Int32 → Int64 → Prop) (μ : Int32 → Int64 → Nat), I y41_1 z41_v_digested ∧ ∀ (s0 : Int32) (s1 : Int64), I s0 s1 → wb_X7_digestLawn_41 v z41_v_isHollow z41_v_sure s0 s1 (fun t0 t1 => I t0 t1 ∧ μ t0 t1 < μ s0 s1) Q
def wb_X7_digestLawn_10 (v : V_X7) (y2_1 : Int32) (z2_v_digested : Int64) (z2_v_isHollow : (Nat → Int32)) (z2_v_sure : (Nat → Int32)) (B2 : Int32 → Int64 → (Nat → Int32) → (Nat → Int32) → Prop)  (y10_2 : Int32) (z10_v_digested : Int64) (z10_v_isHollow : (Nat → Int32)) (z10_v_sure : (Nat → Int32)) (B10 : Int32 → Int64 → (Nat → Int32) → (Nat → Int32) → Prop) (Q : Int64 → (Nat → Int32) → (Nat → Int32) → Prop) : Prop :=
  ((9 ≤ y10_2 → B2 (y2_1 + 1) z10_v_digested z10_v_isHollow z10_v_sure) ∧
  (¬ 9 ≤ y10_2 → wp_X7_toldOfTuft ((X7_s v), (X7_aside v), (X7_kept v), (X7_isKept v), (X7_saved v), (X7_savedMany v), (X7_text v), (X7_length v), (X7_thrown v), (X7_joint v), (X7_position v), (X7_isWrong v), z10_v_isHollow, z10_v_sure, (X7_away v), z10_v_digested) y2_1 y10_2 (fun r20 z20_v_isHollow z20_v_sure =>
  wp_X7_digestOne ((X7_s v), (X7_aside v), (X7_kept v), (X7_isKept v), (X7_saved v), (X7_savedMany v), (X7_text v), (X7_length v), (X7_thrown v), (X7_joint v), (X7_position v), (X7_isWrong v), z20_v_isHollow, z20_v_sure, (X7_away v), z10_v_digested) (r20.toInt64) (fun z24_v_digested =>
  B10 (y10_2 + 1) z24_v_digested z20_v_isHollow z20_v_sure))))
def wp_X7_digestLawn_10 (v : V_X7) (y2_1 : Int32) (z2_v_digested : Int64) (z2_v_isHollow : (Nat → Int32)) (z2_v_sure : (Nat → Int32)) (B2 : Int32 → Int64 → (Nat → Int32) → (Nat → Int32) → Prop)  (y10_2 : Int32) (z10_v_digested : Int64) (z10_v_isHollow : (Nat → Int32)) (z10_v_sure : (Nat → Int32)) (Q : Int64 → (Nat → Int32) → (Nat → Int32) → Prop) : Prop :=
  ∃ (I : Int32 → Int64 → (Nat → Int32) → (Nat → Int32) → Prop) (μ : Int32 → Int64 → (Nat → Int32) → (Nat → Int32) → Nat), I y10_2 z10_v_digested z10_v_isHollow z10_v_sure ∧ ∀ (s0 : Int32) (s1 : Int64) (s2 : (Nat → Int32)) (s3 : (Nat → Int32)), I s0 s1 s2 s3 → wb_X7_digestLawn_10 v y2_1 z2_v_digested z2_v_isHollow z2_v_sure B2  s0 s1 s2 s3 (fun t0 t1 t2 t3 => I t0 t1 t2 t3 ∧ μ t0 t1 t2 t3 < μ s0 s1 s2 s3) Q
def wb_X7_digestLawn_2 (v : V_X7)  (y2_1 : Int32) (z2_v_digested : Int64) (z2_v_isHollow : (Nat → Int32)) (z2_v_sure : (Nat → Int32)) (B2 : Int32 → Int64 → (Nat → Int32) → (Nat → Int32) → Prop) (Q : Int64 → (Nat → Int32) → (Nat → Int32) → Prop) : Prop :=
  ((64 ≤ y2_1 → wp_X7_digestLawn_41 v z2_v_isHollow z2_v_sure 0 z2_v_digested Q) ∧
  (¬ 64 ≤ y2_1 → wp_X7_digestLawn_10 v y2_1 z2_v_digested z2_v_isHollow z2_v_sure B2  0 z2_v_digested z2_v_isHollow z2_v_sure Q))
def wp_X7_digestLawn_2 (v : V_X7)  (y2_1 : Int32) (z2_v_digested : Int64) (z2_v_isHollow : (Nat → Int32)) (z2_v_sure : (Nat → Int32)) (Q : Int64 → (Nat → Int32) → (Nat → Int32) → Prop) : Prop :=
  ∃ (I : Int32 → Int64 → (Nat → Int32) → (Nat → Int32) → Prop) (μ : Int32 → Int64 → (Nat → Int32) → (Nat → Int32) → Nat), I y2_1 z2_v_digested z2_v_isHollow z2_v_sure ∧ ∀ (s0 : Int32) (s1 : Int64) (s2 : (Nat → Int32)) (s3 : (Nat → Int32)), I s0 s1 s2 s3 → wb_X7_digestLawn_2 v  s0 s1 s2 s3 (fun t0 t1 t2 t3 => I t0 t1 t2 t3 ∧ μ t0 t1 t2 t3 < μ s0 s1 s2 s3) Q
def wp_X7_digestLawn (v : V_X7) (Q : Int64 → (Nat → Int32) → (Nat → Int32) → Prop) : Prop :=
  wp_X7_digestLawn_2 v  0 (X7_digested v) (X7_isHollow v) (X7_sure v) Q
def wb_X7_digestMounds_56 (v : V_X7) (z56_v_away : (Nat → Int32)) (y56_2 : Int32) (z56_v_aside : (Nat → Int32)) (z56_v_digested : Int64) (z56_v_isHollow : (Nat → Int32)) (z56_v_s : (Nat → Int32)) (B56 : Int32 → (Nat → Int32) → Int64 → (Nat → Int32) → (Nat → Int32) → Prop) (Q : (Nat → Int32) → (Nat → Int32) → Int64 → (Nat → Int32) → (Nat → Int32) → Prop) : Prop :=
  ((64 ≤ y56_2 → Q z56_v_aside z56_v_away z56_v_digested z56_v_isHollow z56_v_s) ∧
  (¬ 64 ≤ y56_2 → wp_X7_whenDug (z56_v_s, z56_v_aside, (X7_kept v), (X7_isKept v), (X7_saved v), (X7_savedMany v), (X7_text v), (X7_length v), (X7_thrown v), (X7_joint v), (X7_position v), (X7_isWrong v), z56_v_isHollow, (X7_sure v), z56_v_away, z56_v_digested) y56_2 0 (fun r66 z66_v_aside z66_v_isHollow z66_v_s =>
  wp_X7_digestOne (z66_v_s, z66_v_aside, (X7_kept v), (X7_isKept v), (X7_saved v), (X7_savedMany v), (X7_text v), (X7_length v), (X7_thrown v), (X7_joint v), (X7_position v), (X7_isWrong v), z66_v_isHollow, (X7_sure v), z56_v_away, z56_v_digested) (r66.toInt64) (fun z70_v_digested =>
  B56 (y56_2 + 1) z66_v_aside z70_v_digested z66_v_isHollow z66_v_s))))
def wp_X7_digestMounds_56 (v : V_X7) (z56_v_away : (Nat → Int32)) (y56_2 : Int32) (z56_v_aside : (Nat → Int32)) (z56_v_digested : Int64) (z56_v_isHollow : (Nat → Int32)) (z56_v_s : (Nat → Int32)) (Q : (Nat → Int32) → (Nat → Int32) → Int64 → (Nat → Int32) → (Nat → Int32) → Prop) : Prop :=
  ∃ (I : Int32 → (Nat → Int32) → Int64 → (Nat → Int32) → (Nat → Int32) → Prop) (μ : Int32 → (Nat → Int32) → Int64 → (Nat → Int32) → (Nat → Int32) → Nat), I y56_2 z56_v_aside z56_v_digested z56_v_isHollow z56_v_s ∧ ∀ (s0 : Int32) (s1 : (Nat → Int32)) (s2 : Int64) (s3 : (Nat → Int32)) (s4 : (Nat → Int32)), I s0 s1 s2 s3 s4 → wb_X7_digestMounds_56 v z56_v_away s0 s1 s2 s3 s4 (fun t0 t1 t2 t3 t4 => I t0 t1 t2 t3 t4 ∧ μ t0 t1 t2 t3 t4 < μ s0 s1 s2 s3 s4) Q
def wp_X7_digestMounds_28 (v : V_X7) (y4_1 : Int32) (y4_2 : Int32) (z4_v_away : (Nat → Int32)) (z4_v_digested : Int64) (B4 : Int32 → Int32 → (Nat → Int32) → Int64 → Prop) (k28_0 : Int32) (Q : (Nat → Int32) → (Nat → Int32) → Int64 → (Nat → Int32) → (Nat → Int32) → Prop) : Prop :=
  wp_X7_hasMound (X7_s15 (X7_s14 v z4_v_away) z4_v_digested) y4_2 (fun r31 =>
  ((r31 = 0 → B4 k28_0 (y4_2 + 1) z4_v_away z4_v_digested) ∧
  (¬ r31 = 0 → wp_X7_fewestTo (X7_s15 (X7_s14 v z4_v_away) z4_v_digested) y4_2 k28_0 (fun r41 z41_v_away =>
  wp_X7_digestOne (X7_s15 (X7_s14 v z41_v_away) z4_v_digested) (r41.toInt64) (fun z45_v_digested =>
  B4 k28_0 (y4_2 + 1) z41_v_away z45_v_digested)))))
def wp_X7_digestMounds_27 (v : V_X7) (y4_1 : Int32) (y4_2 : Int32) (z4_v_away : (Nat → Int32)) (z4_v_digested : Int64) (B4 : Int32 → Int32 → (Nat → Int32) → Int64 → Prop)  (Q : (Nat → Int32) → (Nat → Int32) → Int64 → (Nat → Int32) → (Nat → Int32) → Prop) : Prop :=
  wp_X7_digestMounds_28 v y4_1 y4_2 z4_v_away z4_v_digested B4 y4_1  Q
def wb_X7_digestMounds_4 (v : V_X7)  (y4_1 : Int32) (y4_2 : Int32) (z4_v_away : (Nat → Int32)) (z4_v_digested : Int64) (B4 : Int32 → Int32 → (Nat → Int32) → Int64 → Prop) (Q : (Nat → Int32) → (Nat → Int32) → Int64 → (Nat → Int32) → (Nat → Int32) → Prop) : Prop :=
  ((64 ≤ y4_2 → wp_X7_digestMounds_56 v z4_v_away 0 (X7_aside v) z4_v_digested (X7_isHollow v) (X7_s v) Q) ∧
  (¬ 64 ≤ y4_2 → ((y4_1 = (-1) → wp_X7_hasMound (X7_s15 (X7_s14 v z4_v_away) z4_v_digested) y4_2 (fun r17 =>
  ((r17 = 0 → wp_X7_digestMounds_27 v y4_1 y4_2 z4_v_away z4_v_digested B4   Q) ∧
  (¬ r17 = 0 → wp_X7_digestMounds_28 v y4_1 y4_2 z4_v_away z4_v_digested B4 y4_2  Q)))) ∧
  (¬ y4_1 = (-1) → wp_X7_digestMounds_27 v y4_1 y4_2 z4_v_away z4_v_digested B4   Q))))
def wp_X7_digestMounds_4 (v : V_X7)  (y4_1 : Int32) (y4_2 : Int32) (z4_v_away : (Nat → Int32)) (z4_v_digested : Int64) (Q : (Nat → Int32) → (Nat → Int32) → Int64 → (Nat → Int32) → (Nat → Int32) → Prop) : Prop :=
  ∃ (I : Int32 → Int32 → (Nat → Int32) → Int64 → Prop) (μ : Int32 → Int32 → (Nat → Int32) → Int64 → Nat), I y4_1 y4_2 z4_v_away z4_v_digested ∧ ∀ (s0 : Int32) (s1 : Int32) (s2 : (Nat → Int32)) (s3 : Int64), I s0 s1 s2 s3 → wb_X7_digestMounds_4 v  s0 s1 s2 s3 (fun t0 t1 t2 t3 => I t0 t1 t2 t3 ∧ μ t0 t1 t2 t3 < μ s0 s1 s2 s3) Q
def wp_X7_digestMounds (v : V_X7) (Q : (Nat → Int32) → (Nat → Int32) → Int64 → (Nat → Int32) → (Nat → Int32) → Prop) : Prop :=
  wp_X7_digestMounds_4 v  (-1) 0 (X7_away v) (X7_digested v) Q
def wb_X7_digest_108 (v : V_X7) (z108_v_aside : (Nat → Int32)) (z108_v_away : (Nat → Int32)) (z108_v_isHollow : (Nat → Int32)) (z108_v_s : (Nat → Int32)) (z108_v_sure : (Nat → Int32)) (z108_v_thrown : Int32) (y108_1 : Int32) (z108_v_digested : Int64) (B108 : Int32 → Int64 → Prop) (Q : Int64 → (Nat → Int32) → (Nat → Int32) → Int64 → (Nat → Int32) → (Nat → Int32) → (Nat → Int32) → Int32 → Prop) : Prop :=
  (((X7_length v) ≤ y108_1 → Q z108_v_digested z108_v_aside z108_v_away z108_v_digested z108_v_isHollow z108_v_s z108_v_sure z108_v_thrown) ∧
  (¬ (X7_length v) ≤ y108_1 → vp_in y108_1 60 ∧ wp_X7_digestOne (z108_v_s, z108_v_aside, (X7_kept v), (X7_isKept v), (X7_saved v), (X7_savedMany v), (X7_text v), (X7_length v), z108_v_thrown, (X7_joint v), (X7_position v), (X7_isWrong v), z108_v_isHollow, z108_v_sure, z108_v_away, z108_v_digested) (((X7_text v) y108_1.toNatClampNeg).toInt64) (fun z124_v_digested =>
  B108 (y108_1 + 1) z124_v_digested)))
def wp_X7_digest_108 (v : V_X7) (z108_v_aside : (Nat → Int32)) (z108_v_away : (Nat → Int32)) (z108_v_isHollow : (Nat → Int32)) (z108_v_s : (Nat → Int32)) (z108_v_sure : (Nat → Int32)) (z108_v_thrown : Int32) (y108_1 : Int32) (z108_v_digested : Int64) (Q : Int64 → (Nat → Int32) → (Nat → Int32) → Int64 → (Nat → Int32) → (Nat → Int32) → (Nat → Int32) → Int32 → Prop) : Prop :=
  ∃ (I : Int32 → Int64 → Prop) (μ : Int32 → Int64 → Nat), I y108_1 z108_v_digested ∧ ∀ (s0 : Int32) (s1 : Int64), I s0 s1 → wb_X7_digest_108 v z108_v_aside z108_v_away z108_v_isHollow z108_v_s z108_v_sure z108_v_thrown s0 s1 (fun t0 t1 => I t0 t1 ∧ μ t0 t1 < μ s0 s1) Q
def wb_X7_digest_55 (v : V_X7) (z55_v_away : (Nat → Int32)) (z55_v_isHollow : (Nat → Int32)) (z55_v_sure : (Nat → Int32)) (z55_v_thrown : Int32) (y55_1 : Int32) (z55_v_aside : (Nat → Int32)) (z55_v_digested : Int64) (z55_v_s : (Nat → Int32)) (B55 : Int32 → (Nat → Int32) → Int64 → (Nat → Int32) → Prop) (Q : Int64 → (Nat → Int32) → (Nat → Int32) → Int64 → (Nat → Int32) → (Nat → Int32) → (Nat → Int32) → Int32 → Prop) : Prop :=
  ((3 ≤ y55_1 → wp_X7_whenMound (z55_v_s, z55_v_aside, (X7_kept v), (X7_isKept v), (X7_saved v), (X7_savedMany v), (X7_text v), (X7_length v), z55_v_thrown, (X7_joint v), (X7_position v), (X7_isWrong v), z55_v_isHollow, z55_v_sure, z55_v_away, z55_v_digested) (fun r79 z79_v_aside z79_v_s =>
  wp_X7_digestOne (z79_v_s, z79_v_aside, (X7_kept v), (X7_isKept v), (X7_saved v), (X7_savedMany v), (X7_text v), (X7_length v), z55_v_thrown, (X7_joint v), (X7_position v), (X7_isWrong v), z55_v_isHollow, z55_v_sure, z55_v_away, z55_v_digested) (r79.toInt64) (fun z83_v_digested =>
  wp_X7_share (z79_v_s, z79_v_aside, (X7_kept v), (X7_isKept v), (X7_saved v), (X7_savedMany v), (X7_text v), (X7_length v), z55_v_thrown, (X7_joint v), (X7_position v), (X7_isWrong v), z55_v_isHollow, z55_v_sure, z55_v_away, z83_v_digested) (fun r88 z88_v_isHollow =>
  wp_X7_bitsOf r88 (fun r91 =>
  wp_X7_digestOne (z79_v_s, z79_v_aside, (X7_kept v), (X7_isKept v), (X7_saved v), (X7_savedMany v), (X7_text v), (X7_length v), z55_v_thrown, (X7_joint v), (X7_position v), (X7_isWrong v), z88_v_isHollow, z55_v_sure, z55_v_away, z83_v_digested) r91 (fun z94_v_digested =>
  wp_X7_digestOne (z79_v_s, z79_v_aside, (X7_kept v), (X7_isKept v), (X7_saved v), (X7_savedMany v), (X7_text v), (X7_length v), z55_v_thrown, (X7_joint v), (X7_position v), (X7_isWrong v), z88_v_isHollow, z55_v_sure, z55_v_away, z94_v_digested) ((X7_length v).toInt64) (fun z103_v_digested =>
  wp_X7_digest_108 v z79_v_aside z55_v_away z88_v_isHollow z79_v_s z55_v_sure z55_v_thrown 0 z103_v_digested Q))))))) ∧
  (¬ 3 ≤ y55_1 → wp_X7_passed (z55_v_s, z55_v_aside, (X7_kept v), (X7_isKept v), (X7_saved v), (X7_savedMany v), (X7_text v), (X7_length v), z55_v_thrown, (X7_joint v), (X7_position v), (X7_isWrong v), z55_v_isHollow, z55_v_sure, z55_v_away, z55_v_digested) 5 y55_1 (fun r64 z64_v_aside z64_v_s =>
  wp_X7_digestOne (z64_v_s, z64_v_aside, (X7_kept v), (X7_isKept v), (X7_saved v), (X7_savedMany v), (X7_text v), (X7_length v), z55_v_thrown, (X7_joint v), (X7_position v), (X7_isWrong v), z55_v_isHollow, z55_v_sure, z55_v_away, z55_v_digested) (r64.toInt64) (fun z68_v_digested =>
  B55 (y55_1 + 1) z64_v_aside z68_v_digested z64_v_s))))
def wp_X7_digest_55 (v : V_X7) (z55_v_away : (Nat → Int32)) (z55_v_isHollow : (Nat → Int32)) (z55_v_sure : (Nat → Int32)) (z55_v_thrown : Int32) (y55_1 : Int32) (z55_v_aside : (Nat → Int32)) (z55_v_digested : Int64) (z55_v_s : (Nat → Int32)) (Q : Int64 → (Nat → Int32) → (Nat → Int32) → Int64 → (Nat → Int32) → (Nat → Int32) → (Nat → Int32) → Int32 → Prop) : Prop :=
  ∃ (I : Int32 → (Nat → Int32) → Int64 → (Nat → Int32) → Prop) (μ : Int32 → (Nat → Int32) → Int64 → (Nat → Int32) → Nat), I y55_1 z55_v_aside z55_v_digested z55_v_s ∧ ∀ (s0 : Int32) (s1 : (Nat → Int32)) (s2 : Int64) (s3 : (Nat → Int32)), I s0 s1 s2 s3 → wb_X7_digest_55 v z55_v_away z55_v_isHollow z55_v_sure z55_v_thrown s0 s1 s2 s3 (fun t0 t1 t2 t3 => I t0 t1 t2 t3 ∧ μ t0 t1 t2 t3 < μ s0 s1 s2 s3) Q
def wb_X7_digest_14 (v : V_X7) (z14_v_thrown : Int32) (y14_1 : Int32) (z14_v_away : (Nat → Int32)) (z14_v_digested : Int64) (z14_v_isHollow : (Nat → Int32)) (B14 : Int32 → (Nat → Int32) → Int64 → (Nat → Int32) → Prop) (Q : Int64 → (Nat → Int32) → (Nat → Int32) → Int64 → (Nat → Int32) → (Nat → Int32) → (Nat → Int32) → Int32 → Prop) : Prop :=
  ((15 ≤ y14_1 → wp_X7_digestLawn ((X7_s v), (X7_aside v), (X7_kept v), (X7_isKept v), (X7_saved v), (X7_savedMany v), (X7_text v), (X7_length v), z14_v_thrown, (X7_joint v), (X7_position v), (X7_isWrong v), z14_v_isHollow, (X7_sure v), z14_v_away, z14_v_digested) (fun z37_v_digested z37_v_isHollow z37_v_sure =>
  wp_X7_digestMounds ((X7_s v), (X7_aside v), (X7_kept v), (X7_isKept v), (X7_saved v), (X7_savedMany v), (X7_text v), (X7_length v), z14_v_thrown, (X7_joint v), (X7_position v), (X7_isWrong v), z37_v_isHollow, z37_v_sure, z14_v_away, z37_v_digested) (fun z41_v_aside z41_v_away z41_v_digested z41_v_isHollow z41_v_s =>
  wp_X7_best (z41_v_s, z41_v_aside, (X7_kept v), (X7_isKept v), (X7_saved v), (X7_savedMany v), (X7_text v), (X7_length v), z14_v_thrown, (X7_joint v), (X7_position v), (X7_isWrong v), z41_v_isHollow, z37_v_sure, z41_v_away, z41_v_digested) (fun r46 =>
  wp_X7_digestOne (z41_v_s, z41_v_aside, (X7_kept v), (X7_isKept v), (X7_saved v), (X7_savedMany v), (X7_text v), (X7_length v), z14_v_thrown, (X7_joint v), (X7_position v), (X7_isWrong v), z41_v_isHollow, z37_v_sure, z41_v_away, z41_v_digested) (r46.toInt64) (fun z50_v_digested =>
  wp_X7_digest_55 v z41_v_away z41_v_isHollow z37_v_sure z14_v_thrown 0 z41_v_aside z50_v_digested z41_v_s Q))))) ∧
  (¬ 15 ≤ y14_1 → wp_X7_counted ((X7_s v), (X7_aside v), (X7_kept v), (X7_isKept v), (X7_saved v), (X7_savedMany v), (X7_text v), (X7_length v), z14_v_thrown, (X7_joint v), (X7_position v), (X7_isWrong v), z14_v_isHollow, (X7_sure v), z14_v_away, z14_v_digested) y14_1 (fun r23 z23_v_away z23_v_isHollow =>
  wp_X7_digestOne ((X7_s v), (X7_aside v), (X7_kept v), (X7_isKept v), (X7_saved v), (X7_savedMany v), (X7_text v), (X7_length v), z14_v_thrown, (X7_joint v), (X7_position v), (X7_isWrong v), z23_v_isHollow, (X7_sure v), z23_v_away, z14_v_digested) (r23.toInt64) (fun z27_v_digested =>
  B14 (y14_1 + 1) z23_v_away z27_v_digested z23_v_isHollow))))
def wp_X7_digest_14 (v : V_X7) (z14_v_thrown : Int32) (y14_1 : Int32) (z14_v_away : (Nat → Int32)) (z14_v_digested : Int64) (z14_v_isHollow : (Nat → Int32)) (Q : Int64 → (Nat → Int32) → (Nat → Int32) → Int64 → (Nat → Int32) → (Nat → Int32) → (Nat → Int32) → Int32 → Prop) : Prop :=
  ∃ (I : Int32 → (Nat → Int32) → Int64 → (Nat → Int32) → Prop) (μ : Int32 → (Nat → Int32) → Int64 → (Nat → Int32) → Nat), I y14_1 z14_v_away z14_v_digested z14_v_isHollow ∧ ∀ (s0 : Int32) (s1 : (Nat → Int32)) (s2 : Int64) (s3 : (Nat → Int32)), I s0 s1 s2 s3 → wb_X7_digest_14 v z14_v_thrown s0 s1 s2 s3 (fun t0 t1 t2 t3 => I t0 t1 t2 t3 ∧ μ t0 t1 t2 t3 < μ s0 s1 s2 s3) Q
def wp_X7_digest (v : V_X7) (Q : Int64 → (Nat → Int32) → (Nat → Int32) → Int64 → (Nat → Int32) → (Nat → Int32) → (Nat → Int32) → Int32 → Prop) : Prop :=
  wp_X7_digest_14 v 0 0 (X7_away v) 3631 (X7_isHollow v) Q
