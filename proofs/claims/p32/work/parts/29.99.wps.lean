abbrev V_X7 : Type := (Nat → Int32) × (Nat → Int32) × (Nat → Int32) × Int32 × (Nat → Int32) × Int32 × (Nat → Int32) × Int32 × Int32 × (Nat → Int32) × Int32 × Int32 × (Nat → Int32) × (Nat → Int32) × (Nat → Int32) × Int64
abbrev X7_s (v : V_X7) : Nat → Int32 := v.1
abbrev X7_aside (v : V_X7) : Nat → Int32 := v.2.1
abbrev X7_kept (v : V_X7) : Nat → Int32 := v.2.2.1
abbrev X7_isKept (v : V_X7) : Int32 := v.2.2.2.1
abbrev X7_saved (v : V_X7) : Nat → Int32 := v.2.2.2.2.1
abbrev X7_savedMany (v : V_X7) : Int32 := v.2.2.2.2.2.1
abbrev X7_text (v : V_X7) : Nat → Int32 := v.2.2.2.2.2.2.1
abbrev X7_length (v : V_X7) : Int32 := v.2.2.2.2.2.2.2.1
abbrev X7_thrown (v : V_X7) : Int32 := v.2.2.2.2.2.2.2.2.1
abbrev X7_joint (v : V_X7) : Nat → Int32 := v.2.2.2.2.2.2.2.2.2.1
abbrev X7_position (v : V_X7) : Int32 := v.2.2.2.2.2.2.2.2.2.2.1
abbrev X7_isWrong (v : V_X7) : Int32 := v.2.2.2.2.2.2.2.2.2.2.2.1
abbrev X7_isHollow (v : V_X7) : Nat → Int32 := v.2.2.2.2.2.2.2.2.2.2.2.2.1
abbrev X7_sure (v : V_X7) : Nat → Int32 := v.2.2.2.2.2.2.2.2.2.2.2.2.2.1
abbrev X7_away (v : V_X7) : Nat → Int32 := v.2.2.2.2.2.2.2.2.2.2.2.2.2.2.1
abbrev X7_digested (v : V_X7) : Int64 := v.2.2.2.2.2.2.2.2.2.2.2.2.2.2.2
abbrev X7_s0 (v : V_X7) (x : Nat → Int32) : V_X7 := (x, v.2.1, v.2.2.1, v.2.2.2.1, v.2.2.2.2.1, v.2.2.2.2.2.1, v.2.2.2.2.2.2.1, v.2.2.2.2.2.2.2.1, v.2.2.2.2.2.2.2.2.1, v.2.2.2.2.2.2.2.2.2.1, v.2.2.2.2.2.2.2.2.2.2.1, v.2.2.2.2.2.2.2.2.2.2.2.1, v.2.2.2.2.2.2.2.2.2.2.2.2.1, v.2.2.2.2.2.2.2.2.2.2.2.2.2.1, v.2.2.2.2.2.2.2.2.2.2.2.2.2.2.1, v.2.2.2.2.2.2.2.2.2.2.2.2.2.2.2)
abbrev X7_s1 (v : V_X7) (x : Nat → Int32) : V_X7 := (v.1, x, v.2.2.1, v.2.2.2.1, v.2.2.2.2.1, v.2.2.2.2.2.1, v.2.2.2.2.2.2.1, v.2.2.2.2.2.2.2.1, v.2.2.2.2.2.2.2.2.1, v.2.2.2.2.2.2.2.2.2.1, v.2.2.2.2.2.2.2.2.2.2.1, v.2.2.2.2.2.2.2.2.2.2.2.1, v.2.2.2.2.2.2.2.2.2.2.2.2.1, v.2.2.2.2.2.2.2.2.2.2.2.2.2.1, v.2.2.2.2.2.2.2.2.2.2.2.2.2.2.1, v.2.2.2.2.2.2.2.2.2.2.2.2.2.2.2)
abbrev X7_s2 (v : V_X7) (x : Nat → Int32) : V_X7 := (v.1, v.2.1, x, v.2.2.2.1, v.2.2.2.2.1, v.2.2.2.2.2.1, v.2.2.2.2.2.2.1, v.2.2.2.2.2.2.2.1, v.2.2.2.2.2.2.2.2.1, v.2.2.2.2.2.2.2.2.2.1, v.2.2.2.2.2.2.2.2.2.2.1, v.2.2.2.2.2.2.2.2.2.2.2.1, v.2.2.2.2.2.2.2.2.2.2.2.2.1, v.2.2.2.2.2.2.2.2.2.2.2.2.2.1, v.2.2.2.2.2.2.2.2.2.2.2.2.2.2.1, v.2.2.2.2.2.2.2.2.2.2.2.2.2.2.2)
abbrev X7_s3 (v : V_X7) (x : Int32) : V_X7 := (v.1, v.2.1, v.2.2.1, x, v.2.2.2.2.1, v.2.2.2.2.2.1, v.2.2.2.2.2.2.1, v.2.2.2.2.2.2.2.1, v.2.2.2.2.2.2.2.2.1, v.2.2.2.2.2.2.2.2.2.1, v.2.2.2.2.2.2.2.2.2.2.1, v.2.2.2.2.2.2.2.2.2.2.2.1, v.2.2.2.2.2.2.2.2.2.2.2.2.1, v.2.2.2.2.2.2.2.2.2.2.2.2.2.1, v.2.2.2.2.2.2.2.2.2.2.2.2.2.2.1, v.2.2.2.2.2.2.2.2.2.2.2.2.2.2.2)
abbrev X7_s4 (v : V_X7) (x : Nat → Int32) : V_X7 := (v.1, v.2.1, v.2.2.1, v.2.2.2.1, x, v.2.2.2.2.2.1, v.2.2.2.2.2.2.1, v.2.2.2.2.2.2.2.1, v.2.2.2.2.2.2.2.2.1, v.2.2.2.2.2.2.2.2.2.1, v.2.2.2.2.2.2.2.2.2.2.1, v.2.2.2.2.2.2.2.2.2.2.2.1, v.2.2.2.2.2.2.2.2.2.2.2.2.1, v.2.2.2.2.2.2.2.2.2.2.2.2.2.1, v.2.2.2.2.2.2.2.2.2.2.2.2.2.2.1, v.2.2.2.2.2.2.2.2.2.2.2.2.2.2.2)
abbrev X7_s5 (v : V_X7) (x : Int32) : V_X7 := (v.1, v.2.1, v.2.2.1, v.2.2.2.1, v.2.2.2.2.1, x, v.2.2.2.2.2.2.1, v.2.2.2.2.2.2.2.1, v.2.2.2.2.2.2.2.2.1, v.2.2.2.2.2.2.2.2.2.1, v.2.2.2.2.2.2.2.2.2.2.1, v.2.2.2.2.2.2.2.2.2.2.2.1, v.2.2.2.2.2.2.2.2.2.2.2.2.1, v.2.2.2.2.2.2.2.2.2.2.2.2.2.1, v.2.2.2.2.2.2.2.2.2.2.2.2.2.2.1, v.2.2.2.2.2.2.2.2.2.2.2.2.2.2.2)
abbrev X7_s6 (v : V_X7) (x : Nat → Int32) : V_X7 := (v.1, v.2.1, v.2.2.1, v.2.2.2.1, v.2.2.2.2.1, v.2.2.2.2.2.1, x, v.2.2.2.2.2.2.2.1, v.2.2.2.2.2.2.2.2.1, v.2.2.2.2.2.2.2.2.2.1, v.2.2.2.2.2.2.2.2.2.2.1, v.2.2.2.2.2.2.2.2.2.2.2.1, v.2.2.2.2.2.2.2.2.2.2.2.2.1, v.2.2.2.2.2.2.2.2.2.2.2.2.2.1, v.2.2.2.2.2.2.2.2.2.2.2.2.2.2.1, v.2.2.2.2.2.2.2.2.2.2.2.2.2.2.2)
abbrev X7_s7 (v : V_X7) (x : Int32) : V_X7 := (v.1, v.2.1, v.2.2.1, v.2.2.2.1, v.2.2.2.2.1, v.2.2.2.2.2.1, v.2.2.2.2.2.2.1, x, v.2.2.2.2.2.2.2.2.1, v.2.2.2.2.2.2.2.2.2.1, v.2.2.2.2.2.2.2.2.2.2.1, v.2.2.2.2.2.2.2.2.2.2.2.1, v.2.2.2.2.2.2.2.2.2.2.2.2.1, v.2.2.2.2.2.2.2.2.2.2.2.2.2.1, v.2.2.2.2.2.2.2.2.2.2.2.2.2.2.1, v.2.2.2.2.2.2.2.2.2.2.2.2.2.2.2)
abbrev X7_s8 (v : V_X7) (x : Int32) : V_X7 := (v.1, v.2.1, v.2.2.1, v.2.2.2.1, v.2.2.2.2.1, v.2.2.2.2.2.1, v.2.2.2.2.2.2.1, v.2.2.2.2.2.2.2.1, x, v.2.2.2.2.2.2.2.2.2.1, v.2.2.2.2.2.2.2.2.2.2.1, v.2.2.2.2.2.2.2.2.2.2.2.1, v.2.2.2.2.2.2.2.2.2.2.2.2.1, v.2.2.2.2.2.2.2.2.2.2.2.2.2.1, v.2.2.2.2.2.2.2.2.2.2.2.2.2.2.1, v.2.2.2.2.2.2.2.2.2.2.2.2.2.2.2)
abbrev X7_s9 (v : V_X7) (x : Nat → Int32) : V_X7 := (v.1, v.2.1, v.2.2.1, v.2.2.2.1, v.2.2.2.2.1, v.2.2.2.2.2.1, v.2.2.2.2.2.2.1, v.2.2.2.2.2.2.2.1, v.2.2.2.2.2.2.2.2.1, x, v.2.2.2.2.2.2.2.2.2.2.1, v.2.2.2.2.2.2.2.2.2.2.2.1, v.2.2.2.2.2.2.2.2.2.2.2.2.1, v.2.2.2.2.2.2.2.2.2.2.2.2.2.1, v.2.2.2.2.2.2.2.2.2.2.2.2.2.2.1, v.2.2.2.2.2.2.2.2.2.2.2.2.2.2.2)
abbrev X7_s10 (v : V_X7) (x : Int32) : V_X7 := (v.1, v.2.1, v.2.2.1, v.2.2.2.1, v.2.2.2.2.1, v.2.2.2.2.2.1, v.2.2.2.2.2.2.1, v.2.2.2.2.2.2.2.1, v.2.2.2.2.2.2.2.2.1, v.2.2.2.2.2.2.2.2.2.1, x, v.2.2.2.2.2.2.2.2.2.2.2.1, v.2.2.2.2.2.2.2.2.2.2.2.2.1, v.2.2.2.2.2.2.2.2.2.2.2.2.2.1, v.2.2.2.2.2.2.2.2.2.2.2.2.2.2.1, v.2.2.2.2.2.2.2.2.2.2.2.2.2.2.2)
abbrev X7_s11 (v : V_X7) (x : Int32) : V_X7 := (v.1, v.2.1, v.2.2.1, v.2.2.2.1, v.2.2.2.2.1, v.2.2.2.2.2.1, v.2.2.2.2.2.2.1, v.2.2.2.2.2.2.2.1, v.2.2.2.2.2.2.2.2.1, v.2.2.2.2.2.2.2.2.2.1, v.2.2.2.2.2.2.2.2.2.2.1, x, v.2.2.2.2.2.2.2.2.2.2.2.2.1, v.2.2.2.2.2.2.2.2.2.2.2.2.2.1, v.2.2.2.2.2.2.2.2.2.2.2.2.2.2.1, v.2.2.2.2.2.2.2.2.2.2.2.2.2.2.2)
abbrev X7_s12 (v : V_X7) (x : Nat → Int32) : V_X7 := (v.1, v.2.1, v.2.2.1, v.2.2.2.1, v.2.2.2.2.1, v.2.2.2.2.2.1, v.2.2.2.2.2.2.1, v.2.2.2.2.2.2.2.1, v.2.2.2.2.2.2.2.2.1, v.2.2.2.2.2.2.2.2.2.1, v.2.2.2.2.2.2.2.2.2.2.1, v.2.2.2.2.2.2.2.2.2.2.2.1, x, v.2.2.2.2.2.2.2.2.2.2.2.2.2.1, v.2.2.2.2.2.2.2.2.2.2.2.2.2.2.1, v.2.2.2.2.2.2.2.2.2.2.2.2.2.2.2)
abbrev X7_s13 (v : V_X7) (x : Nat → Int32) : V_X7 := (v.1, v.2.1, v.2.2.1, v.2.2.2.1, v.2.2.2.2.1, v.2.2.2.2.2.1, v.2.2.2.2.2.2.1, v.2.2.2.2.2.2.2.1, v.2.2.2.2.2.2.2.2.1, v.2.2.2.2.2.2.2.2.2.1, v.2.2.2.2.2.2.2.2.2.2.1, v.2.2.2.2.2.2.2.2.2.2.2.1, v.2.2.2.2.2.2.2.2.2.2.2.2.1, x, v.2.2.2.2.2.2.2.2.2.2.2.2.2.2.1, v.2.2.2.2.2.2.2.2.2.2.2.2.2.2.2)
abbrev X7_s14 (v : V_X7) (x : Nat → Int32) : V_X7 := (v.1, v.2.1, v.2.2.1, v.2.2.2.1, v.2.2.2.2.1, v.2.2.2.2.2.1, v.2.2.2.2.2.2.1, v.2.2.2.2.2.2.2.1, v.2.2.2.2.2.2.2.2.1, v.2.2.2.2.2.2.2.2.2.1, v.2.2.2.2.2.2.2.2.2.2.1, v.2.2.2.2.2.2.2.2.2.2.2.1, v.2.2.2.2.2.2.2.2.2.2.2.2.1, v.2.2.2.2.2.2.2.2.2.2.2.2.2.1, x, v.2.2.2.2.2.2.2.2.2.2.2.2.2.2.2)
abbrev X7_s15 (v : V_X7) (x : Int64) : V_X7 := (v.1, v.2.1, v.2.2.1, v.2.2.2.1, v.2.2.2.2.1, v.2.2.2.2.2.1, v.2.2.2.2.2.2.1, v.2.2.2.2.2.2.2.1, v.2.2.2.2.2.2.2.2.1, v.2.2.2.2.2.2.2.2.2.1, v.2.2.2.2.2.2.2.2.2.2.1, v.2.2.2.2.2.2.2.2.2.2.2.1, v.2.2.2.2.2.2.2.2.2.2.2.2.1, v.2.2.2.2.2.2.2.2.2.2.2.2.2.1, v.2.2.2.2.2.2.2.2.2.2.2.2.2.2.1, x)
abbrev cX7 (cy : Nat → ClassId) (a : Nat → Nat) (e_s : Nat → Int32) (e_aside : Nat → Int32) (e_kept : Nat → Int32) (e_isKept : Int32) (e_saved : Nat → Int32) (e_savedMany : Int32) (e_text : Nat → Int32) (e_length : Int32) (e_thrown : Int32) (e_joint : Nat → Int32) (e_position : Int32) (e_isWrong : Int32) (e_isHollow : Nat → Int32) (e_sure : Nat → Int32) (e_away : Nat → Int32) (e_digested : Int64) : va_W := [(a 0, .inr (7, [.ref (a 1), .ref (a 2), .ref (a 3), .int e_isKept, .ref (a 4), .int e_savedMany, .ref (a 5), .int e_length, .int e_thrown, .ref (a 6), .int e_position, .int e_isWrong, .ref (a 7), .ref (a 8), .ref (a 9), .long e_digested])), (a 1, .inl (cy 0, 1472, .inl e_s)), (a 2, .inl (cy 0, 1472, .inl e_aside)), (a 3, .inl (cy 0, 1472, .inl e_kept)), (a 4, .inl (cy 0, 8832, .inl e_saved)), (a 5, .inl (cy 0, 60, .inl e_text)), (a 6, .inl (cy 0, 1024, .inl e_joint)), (a 7, .inl (cy 1, 64, .inl e_isHollow)), (a 8, .inl (cy 0, 64, .inl e_sure)), (a 9, .inl (cy 0, 64, .inl e_away))]
abbrev wX7 (cy : Nat → ClassId) (a : Nat → Nat) (v : V_X7) : va_W := cX7 cy a (X7_s v) (X7_aside v) (X7_kept v) (X7_isKept v) (X7_saved v) (X7_savedMany v) (X7_text v) (X7_length v) (X7_thrown v) (X7_joint v) (X7_position v) (X7_isWrong v) (X7_isHollow v) (X7_sure v) (X7_away v) (X7_digested v)
def wp_X5_put (v : V_X5) (x1 : Int32) (Q : (Nat → Int32) → Int32 → Prop) : Prop :=
  ((60 ≤ (X5_length v) → Q (X5_codes v) (X5_length v)) ∧
  (¬ 60 ≤ (X5_length v) → vp_in (X5_length v) 60 ∧ Q (upd (X5_codes v) (X5_length v).toNatClampNeg x1) ((X5_length v) + 1)))
def wp_X5_directionOf (x0 : Int32) (Q : Int32 → Prop) : Prop :=
  ((x0 = 101 → Q 1) ∧
  (¬ x0 = 101 → ((x0 = 110 → Q 0) ∧
  (¬ x0 = 110 → ((x0 = 115 → Q 2) ∧
  (¬ x0 = 115 → ((x0 = 119 → Q 3) ∧
  (¬ x0 = 119 → Q (-1)))))))))
def wp_X5_dueBehind (x0 : Int32) (x1 : Int32) (Q : Int32 → Prop) : Prop :=
  ((x0 = 0 → ((x1 < 48 → Q (-1)) ∧
  (¬ x1 < 48 → ((51 < x1 → Q (-1)) ∧
  (¬ 51 < x1 → Q 1))))) ∧
  (¬ x0 = 0 → ((x0 = 1 → ((x1 = 58 → Q 2) ∧
  (¬ x1 = 58 → Q (-1)))) ∧
  (¬ x0 = 1 → ((x0 = 2 → wp_X5_directionOf x1 (fun r59 =>
  ((r59 = (-1) → Q (-1)) ∧
  (¬ r59 = (-1) → Q 3)))) ∧
  (¬ x0 = 2 → ((x1 = 59 → Q 0) ∧
  (¬ x1 = 59 → wp_X5_directionOf x1 (fun r83 =>
  ((r83 = (-1) → Q (-1)) ∧
  (¬ r83 = (-1) → Q 3)))))))))))
def wb_X5_firstFault_4 (v : V_X5)  (y4_1 : Int32) (y4_2 : Int32) (B4 : Int32 → Int32 → Prop) (Q : Int32 → Prop) : Prop :=
  (((X5_length v) ≤ y4_2 → Q (X5_length v)) ∧
  (¬ (X5_length v) ≤ y4_2 → vp_in y4_2 60 ∧ wp_X5_dueBehind y4_1 ((X5_codes v) y4_2.toNatClampNeg) (fun r19 =>
  ((r19 = (-1) → Q y4_2) ∧
  (¬ r19 = (-1) → B4 r19 (y4_2 + 1))))))
def wp_X5_firstFault_4 (v : V_X5)  (y4_1 : Int32) (y4_2 : Int32) (Q : Int32 → Prop) : Prop :=
  ∃ (I : Int32 → Int32 → Prop) (μ : Int32 → Int32 → Nat), I y4_1 y4_2 ∧ ∀ (s0 : Int32) (s1 : Int32), I s0 s1 → wb_X5_firstFault_4 v  s0 s1 (fun t0 t1 => I t0 t1 ∧ μ t0 t1 < μ s0 s1) Q
def wp_X5_firstFault (v : V_X5) (Q : Int32 → Prop) : Prop :=
  wp_X5_firstFault_4 v  0 0 Q
def wp_X5_isComplete_34 (v : V_X5) (y34_1 : Int32) (Q : Int32 → Prop) : Prop :=
  ((y34_1 = 3 → Q 1) ∧
  (¬ y34_1 = 3 → Q 0))
def wb_X5_isComplete_4 (v : V_X5)  (y4_1 : Int32) (y4_2 : Int32) (B4 : Int32 → Int32 → Prop) (Q : Int32 → Prop) : Prop :=
  (((X5_length v) ≤ y4_2 → wp_X5_isComplete_34 v y4_1  Q) ∧
  (¬ (X5_length v) ≤ y4_2 → ((y4_1 = (-1) → wp_X5_isComplete_34 v y4_1  Q) ∧
  (¬ y4_1 = (-1) → vp_in y4_2 60 ∧ wp_X5_dueBehind y4_1 ((X5_codes v) y4_2.toNatClampNeg) (fun r24 =>
  B4 r24 (y4_2 + 1))))))
def wp_X5_isComplete_4 (v : V_X5)  (y4_1 : Int32) (y4_2 : Int32) (Q : Int32 → Prop) : Prop :=
  ∃ (I : Int32 → Int32 → Prop) (μ : Int32 → Int32 → Nat), I y4_1 y4_2 ∧ ∀ (s0 : Int32) (s1 : Int32), I s0 s1 → wb_X5_isComplete_4 v  s0 s1 (fun t0 t1 => I t0 t1 ∧ μ t0 t1 < μ s0 s1) Q
def wp_X5_isComplete (v : V_X5) (Q : Int32 → Prop) : Prop :=
  wp_X5_isComplete_4 v  0 0 Q
def wb_X0_lowestMound_2 (v : V_X0)  (y2_1 : Int32) (B2 : Int32 → Prop) (Q : Int32 → Prop) : Prop :=
  ((64 ≤ y2_1 → Q (-1)) ∧
  (¬ 64 ≤ y2_1 → vp_in y2_1 64 ∧ ((((X0_mounds v) y2_1.toNatClampNeg) = 0 → B2 (y2_1 + 1)) ∧
  (¬ ((X0_mounds v) y2_1.toNatClampNeg) = 0 → Q y2_1))))
def wp_X0_lowestMound_2 (v : V_X0)  (y2_1 : Int32) (Q : Int32 → Prop) : Prop :=
  ∃ (I : Int32 → Prop) (μ : Int32 → Nat), I y2_1 ∧ ∀ (s0 : Int32), I s0 → wb_X0_lowestMound_2 v  s0 (fun t0 => I t0 ∧ μ t0 < μ s0) Q
def wp_X0_lowestMound (v : V_X0) (Q : Int32 → Prop) : Prop :=
  wp_X0_lowestMound_2 v  0 Q
def wp_X0_hasRoomInPlan (v : V_X0) (x1 : Int32) (Q : Int32 → Prop) : Prop :=
  ((x1 < 0 → Q 0) ∧
  (¬ x1 < 0 → (((X0_moleCount v) ≤ x1 → Q 0) ∧
  (¬ (X0_moleCount v) ≤ x1 → vp_in x1 4 ∧ ((X0_molesR v) x1.toNatClampNeg) < 4 ∧ ((20 ≤ (X1_planned ((X0_moles v) ((X0_molesR v) x1.toNatClampNeg))) → Q 0) ∧
  (¬ 20 ≤ (X1_planned ((X0_moles v) ((X0_molesR v) x1.toNatClampNeg))) → Q 1))))))
def wb_X6_hashTufts_15 (v : V_X6) (x1 : Int64) (y5_3 : Int64) (y5_5 : Int32) (B5 : Int64 → Int32 → Prop)  (y15_3 : Int64) (y15_6 : Int32) (B15 : Int64 → Int32 → Prop) (Q : Int64 → Prop) : Prop :=
  ((8 < y15_6 → B5 y15_3 (y5_5 + 1)) ∧
  (¬ 8 < y15_6 → wp_X6_numberOfTuft v y5_5 y15_6 (fun r32 =>
  B15 ((31 * y15_3) + (r32.toInt64)) (y15_6 + 1))))
def wp_X6_hashTufts_15 (v : V_X6) (x1 : Int64) (y5_3 : Int64) (y5_5 : Int32) (B5 : Int64 → Int32 → Prop)  (y15_3 : Int64) (y15_6 : Int32) (Q : Int64 → Prop) : Prop :=
  ∃ (I : Int64 → Int32 → Prop) (μ : Int64 → Int32 → Nat), I y15_3 y15_6 ∧ ∀ (s0 : Int64) (s1 : Int32), I s0 s1 → wb_X6_hashTufts_15 v x1 y5_3 y5_5 B5  s0 s1 (fun t0 t1 => I t0 t1 ∧ μ t0 t1 < μ s0 s1) Q
def wb_X6_hashTufts_5 (v : V_X6) (x1 : Int64)  (y5_3 : Int64) (y5_5 : Int32) (B5 : Int64 → Int32 → Prop) (Q : Int64 → Prop) : Prop :=
  ((64 ≤ y5_5 → Q y5_3) ∧
  (¬ 64 ≤ y5_5 → wp_X6_hashTufts_15 v x1 y5_3 y5_5 B5  y5_3 0 Q))
def wp_X6_hashTufts_5 (v : V_X6) (x1 : Int64)  (y5_3 : Int64) (y5_5 : Int32) (Q : Int64 → Prop) : Prop :=
  ∃ (I : Int64 → Int32 → Prop) (μ : Int64 → Int32 → Nat), I y5_3 y5_5 ∧ ∀ (s0 : Int64) (s1 : Int32), I s0 s1 → wb_X6_hashTufts_5 v x1  s0 s1 (fun t0 t1 => I t0 t1 ∧ μ t0 t1 < μ s0 s1) Q
def wp_X6_hashTufts (v : V_X6) (x1 : Int64) (Q : Int64 → Prop) : Prop :=
  wp_X6_hashTufts_5 v x1  x1 0 Q
def wb_X6_hashMoles_20 (v : V_X6) (x1 : Int64) (y5_3 : Int64) (y5_5 : Int32) (B5 : Int64 → Int32 → Prop)  (y20_3 : Int64) (y20_6 : Int32) (B20 : Int64 → Int32 → Prop) (Q : Int64 → Prop) : Prop :=
  ((6 < y20_6 → B5 y20_3 (y5_5 + 1)) ∧
  (¬ 6 < y20_6 → vp_in y5_5 4 ∧ ((X0_molesR (X6_lawn v)) y5_5.toNatClampNeg) < 4 ∧ wp_X1_number ((X0_moles (X6_lawn v)) ((X0_molesR (X6_lawn v)) y5_5.toNatClampNeg)) y20_6 (fun r44 =>
  B20 ((31 * y20_3) + (r44.toInt64)) (y20_6 + 1))))
def wp_X6_hashMoles_20 (v : V_X6) (x1 : Int64) (y5_3 : Int64) (y5_5 : Int32) (B5 : Int64 → Int32 → Prop)  (y20_3 : Int64) (y20_6 : Int32) (Q : Int64 → Prop) : Prop :=
  ∃ (I : Int64 → Int32 → Prop) (μ : Int64 → Int32 → Nat), I y20_3 y20_6 ∧ ∀ (s0 : Int64) (s1 : Int32), I s0 s1 → wb_X6_hashMoles_20 v x1 y5_3 y5_5 B5  s0 s1 (fun t0 t1 => I t0 t1 ∧ μ t0 t1 < μ s0 s1) Q
def wb_X6_hashMoles_5 (v : V_X6) (x1 : Int64)  (y5_3 : Int64) (y5_5 : Int32) (B5 : Int64 → Int32 → Prop) (Q : Int64 → Prop) : Prop :=
  (((X0_moleCount (X6_lawn v)) ≤ y5_5 → Q y5_3) ∧
  (¬ (X0_moleCount (X6_lawn v)) ≤ y5_5 → wp_X6_hashMoles_20 v x1 y5_3 y5_5 B5  y5_3 0 Q))
def wp_X6_hashMoles_5 (v : V_X6) (x1 : Int64)  (y5_3 : Int64) (y5_5 : Int32) (Q : Int64 → Prop) : Prop :=
  ∃ (I : Int64 → Int32 → Prop) (μ : Int64 → Int32 → Nat), I y5_3 y5_5 ∧ ∀ (s0 : Int64) (s1 : Int32), I s0 s1 → wb_X6_hashMoles_5 v x1  s0 s1 (fun t0 t1 => I t0 t1 ∧ μ t0 t1 < μ s0 s1) Q
def wp_X6_hashMoles (v : V_X6) (x1 : Int64) (Q : Int64 → Prop) : Prop :=
  wp_X6_hashMoles_5 v x1  x1 0 Q
def wb_X6_hashTunnels_69 (v : V_X6) (x1 : Int64) (y14_3 : Int64) (y14_6 : Int32) (B14 : Int64 → Int32 → Prop) (y69_7 : Int32) (y69_3 : Int64) (y69_8 : Int32) (B69 : Int64 → Int32 → Prop) (Q : Int64 → Prop) : Prop :=
  ((y69_7 ≤ y69_8 → B14 y69_3 (y14_6 + 1)) ∧
  (¬ y69_7 ≤ y69_8 → wp_X3_at (X0_tunnels (X6_lawn v)) y14_6 y69_8 (fun r87 =>
  B69 ((31 * y69_3) + (r87.toInt64)) (y69_8 + 1))))
def wp_X6_hashTunnels_69 (v : V_X6) (x1 : Int64) (y14_3 : Int64) (y14_6 : Int32) (B14 : Int64 → Int32 → Prop) (y69_7 : Int32) (y69_3 : Int64) (y69_8 : Int32) (Q : Int64 → Prop) : Prop :=
  ∃ (I : Int64 → Int32 → Prop) (μ : Int64 → Int32 → Nat), I y69_3 y69_8 ∧ ∀ (s0 : Int64) (s1 : Int32), I s0 s1 → wb_X6_hashTunnels_69 v x1 y14_3 y14_6 B14 y69_7 s0 s1 (fun t0 t1 => I t0 t1 ∧ μ t0 t1 < μ s0 s1) Q
def wb_X6_hashTunnels_27 (v : V_X6) (x1 : Int64) (y14_3 : Int64) (y14_6 : Int32) (B14 : Int64 → Int32 → Prop)  (y27_3 : Int64) (y27_7 : Int32) (B27 : Int64 → Int32 → Prop) (Q : Int64 → Prop) : Prop :=
  ((2 < y27_7 → wp_X3_number (X0_tunnels (X6_lawn v)) y14_6 2 (fun r61 =>
  wp_X6_hashTunnels_69 v x1 y14_3 y14_6 B14 r61 y27_3 0 Q)) ∧
  (¬ 2 < y27_7 → wp_X3_number (X0_tunnels (X6_lawn v)) y14_6 y27_7 (fun r44 =>
  B27 ((31 * y27_3) + (r44.toInt64)) (y27_7 + 1))))
def wp_X6_hashTunnels_27 (v : V_X6) (x1 : Int64) (y14_3 : Int64) (y14_6 : Int32) (B14 : Int64 → Int32 → Prop)  (y27_3 : Int64) (y27_7 : Int32) (Q : Int64 → Prop) : Prop :=
  ∃ (I : Int64 → Int32 → Prop) (μ : Int64 → Int32 → Nat), I y27_3 y27_7 ∧ ∀ (s0 : Int64) (s1 : Int32), I s0 s1 → wb_X6_hashTunnels_27 v x1 y14_3 y14_6 B14  s0 s1 (fun t0 t1 => I t0 t1 ∧ μ t0 t1 < μ s0 s1) Q
def wb_X6_hashTunnels_14 (v : V_X6) (x1 : Int64)  (y14_3 : Int64) (y14_6 : Int32) (B14 : Int64 → Int32 → Prop) (Q : Int64 → Prop) : Prop :=
  (((X3_size (X0_tunnels (X6_lawn v))) ≤ y14_6 → Q y14_3) ∧
  (¬ (X3_size (X0_tunnels (X6_lawn v))) ≤ y14_6 → wp_X6_hashTunnels_27 v x1 y14_3 y14_6 B14  y14_3 0 Q))
def wp_X6_hashTunnels_14 (v : V_X6) (x1 : Int64)  (y14_3 : Int64) (y14_6 : Int32) (Q : Int64 → Prop) : Prop :=
  ∃ (I : Int64 → Int32 → Prop) (μ : Int64 → Int32 → Nat), I y14_3 y14_6 ∧ ∀ (s0 : Int64) (s1 : Int32), I s0 s1 → wb_X6_hashTunnels_14 v x1  s0 s1 (fun t0 t1 => I t0 t1 ∧ μ t0 t1 < μ s0 s1) Q
def wp_X6_hashTunnels (v : V_X6) (x1 : Int64) (Q : Int64 → Prop) : Prop :=
  wp_X6_hashTunnels_14 v x1  x1 0 Q
def wb_X6_hashPaths_35 (v : V_X6) (x1 : Int64) (z35_v_paths : V_X2) (y35_3 : Int64) (y35_6 : Int32) (B35 : Int64 → Int32 → Prop) (Q : Int64 → V_X2 → Prop) : Prop :=
  ((64 ≤ y35_6 → Q y35_3 z35_v_paths) ∧
  (¬ 64 ≤ y35_6 → vp_in y35_6 64 ∧ ((((X0_mounds (X6_lawn v)) y35_6.toNatClampNeg) = 0 → B35 y35_3 (y35_6 + 1)) ∧
  (¬ ((X0_mounds (X6_lawn v)) y35_6.toNatClampNeg) = 0 → B35 ((31 * y35_3) + (((X2_distance z35_v_paths) y35_6.toNatClampNeg).toInt64)) (y35_6 + 1)))))
def wp_X6_hashPaths_35 (v : V_X6) (x1 : Int64) (z35_v_paths : V_X2) (y35_3 : Int64) (y35_6 : Int32) (Q : Int64 → V_X2 → Prop) : Prop :=
  ∃ (I : Int64 → Int32 → Prop) (μ : Int64 → Int32 → Nat), I y35_3 y35_6 ∧ ∀ (s0 : Int64) (s1 : Int32), I s0 s1 → wb_X6_hashPaths_35 v x1 z35_v_paths s0 s1 (fun t0 t1 => I t0 t1 ∧ μ t0 t1 < μ s0 s1) Q
def wp_X6_hashPaths (v : V_X6) (x1 : Int64) (Q : Int64 → V_X2 → Prop) : Prop :=
  wp_X0_lowestMound (X6_lawn v) (fun r6 =>
  ((r6 = (-1) → Q x1 (X6_paths v)) ∧
  (¬ r6 = (-1) → wp_X2_measure (X6_paths v) (X6_lawn v) r6 (fun z29_v_distance =>
  wp_X6_hashPaths_35 v x1 (X2_s0 (X6_paths v) z29_v_distance) x1 0 Q))))
def wb_X6_hashDigging_5 (v : V_X6) (x1 : Int64)  (y5_3 : Int64) (y5_5 : Int32) (B5 : Int64 → Int32 → Prop) (Q : Int64 → Prop) : Prop :=
  ((64 ≤ y5_5 → wp_X6_mostCrossed v (fun r42 =>
  Q ((31 * y5_3) + (r42.toInt64)))) ∧
  (¬ 64 ≤ y5_5 → vp_in y5_5 64 ∧ B5 ((31 * y5_3) + (((X4_crossings (X6_survey v)) y5_5.toNatClampNeg).toInt64)) (y5_5 + 1)))
def wp_X6_hashDigging_5 (v : V_X6) (x1 : Int64)  (y5_3 : Int64) (y5_5 : Int32) (Q : Int64 → Prop) : Prop :=
  ∃ (I : Int64 → Int32 → Prop) (μ : Int64 → Int32 → Nat), I y5_3 y5_5 ∧ ∀ (s0 : Int64) (s1 : Int32), I s0 s1 → wb_X6_hashDigging_5 v x1  s0 s1 (fun t0 t1 => I t0 t1 ∧ μ t0 t1 < μ s0 s1) Q
def wp_X6_hashDigging (v : V_X6) (x1 : Int64) (Q : Int64 → Prop) : Prop :=
  wp_X6_hashDigging_5 v x1  x1 0 Q
def wp_X6_bitsOfShare_28 (x0 : Int32) (y28_1 : Int32) (Q : Int64 → Prop) : Prop :=
  Q (((((1023 + y28_1) - 6).toInt64) <<< ((52 : Int32).toInt64 &&& 63)) ||| (((x0.toInt64) - ((1 : Int64) <<< (y28_1.toInt64 &&& 63))) <<< ((52 - y28_1).toInt64 &&& 63)))
def wb_X6_bitsOfShare_8 (x0 : Int32)  (y8_1 : Int32) (B8 : Int32 → Prop) (Q : Int64 → Prop) : Prop :=
  ((30 ≤ y8_1 → wp_X6_bitsOfShare_28 x0 y8_1  Q) ∧
  (¬ 30 ≤ y8_1 → (((x0 >>> ((y8_1 + 1) &&& 31)) = 0 → wp_X6_bitsOfShare_28 x0 y8_1  Q) ∧
  (¬ (x0 >>> ((y8_1 + 1) &&& 31)) = 0 → B8 (y8_1 + 1)))))
def wp_X6_bitsOfShare_8 (x0 : Int32)  (y8_1 : Int32) (Q : Int64 → Prop) : Prop :=
  ∃ (I : Int32 → Prop) (μ : Int32 → Nat), I y8_1 ∧ ∀ (s0 : Int32), I s0 → wb_X6_bitsOfShare_8 x0  s0 (fun t0 => I t0 ∧ μ t0 < μ s0) Q
def wp_X6_bitsOfShare (x0 : Int32) (Q : Int64 → Prop) : Prop :=
  ((0 < x0 → wp_X6_bitsOfShare_8 x0  0 Q) ∧
  (¬ 0 < x0 → Q 0))
def wp_X6_firstError (v : V_X6) (Q : Int32 → Prop) : Prop :=
  wp_X5_firstFault (X6_text v) (fun r4 =>
  Q r4)
def wp_X6_clearBuffer (v : V_X6) (Q : Int32 → V_X5 → Prop) : Prop :=
  Q (X5_length (X6_text v)) (X5_s1 (X6_text v) 0)
def wb_X6_digest_149 (v : V_X6) (z149_v_paths : V_X2) (z149_v_spareR : V_X3) (z149_v_survey : V_X4) (z149_v_trial : V_X0) (y149_1 : Int64) (y149_3 : Int32) (B149 : Int64 → Int32 → Prop) (Q : Int64 → V_X2 → V_X3 → V_X4 → V_X0 → Prop) : Prop :=
  (((X5_length (X6_text v)) ≤ y149_3 → Q y149_1 z149_v_paths z149_v_spareR z149_v_survey z149_v_trial) ∧
  (¬ (X5_length (X6_text v)) ≤ y149_3 → vp_in y149_3 60 ∧ B149 ((31 * y149_1) + (((X5_codes (X6_text v)) y149_3.toNatClampNeg).toInt64)) (y149_3 + 1)))
def wp_X6_digest_149 (v : V_X6) (z149_v_paths : V_X2) (z149_v_spareR : V_X3) (z149_v_survey : V_X4) (z149_v_trial : V_X0) (y149_1 : Int64) (y149_3 : Int32) (Q : Int64 → V_X2 → V_X3 → V_X4 → V_X0 → Prop) : Prop :=
  ∃ (I : Int64 → Int32 → Prop) (μ : Int64 → Int32 → Nat), I y149_1 y149_3 ∧ ∀ (s0 : Int64) (s1 : Int32), I s0 s1 → wb_X6_digest_149 v z149_v_paths z149_v_spareR z149_v_survey z149_v_trial s0 s1 (fun t0 t1 => I t0 t1 ∧ μ t0 t1 < μ s0 s1) Q
def wb_X6_digest_79 (v : V_X6) (z79_v_paths : V_X2) (z79_v_spareR : V_X3) (z79_v_survey : V_X4) (z79_v_trial : V_X0) (y79_1 : Int64) (y79_3 : Int32) (B79 : Int64 → Int32 → Prop) (Q : Int64 → V_X2 → V_X3 → V_X4 → V_X0 → Prop) : Prop :=
  ((2 < y79_3 → wp_X6_beatsToMound ((X6_lawn v), (X6_snapshot v), z79_v_trial, (X6_savedR v), (X6_saved v), (X6_text v), z79_v_survey, z79_v_paths, (X6_snapshotTaken v), (X6_savedCount v), z79_v_spareR) (fun r109 z109_v_spareR z109_v_trial =>
  wp_X4_hollowCount z79_v_survey (fun r124 =>
  wp_X6_bitsOfShare r124 (fun r127 =>
  wp_X6_digest_149 v z79_v_paths z109_v_spareR z79_v_survey z109_v_trial ((31 * ((31 * ((31 * y79_1) + (r109.toInt64))) + r127)) + ((X5_length (X6_text v)).toInt64)) 0 Q)))) ∧
  (¬ 2 < y79_3 → wp_X6_numberOfTrial ((X6_lawn v), (X6_snapshot v), z79_v_trial, (X6_savedR v), (X6_saved v), (X6_text v), z79_v_survey, z79_v_paths, (X6_snapshotTaken v), (X6_savedCount v), z79_v_spareR) y79_3 (fun r91 =>
  B79 ((31 * y79_1) + (r91.toInt64)) (y79_3 + 1))))
def wp_X6_digest_79 (v : V_X6) (z79_v_paths : V_X2) (z79_v_spareR : V_X3) (z79_v_survey : V_X4) (z79_v_trial : V_X0) (y79_1 : Int64) (y79_3 : Int32) (Q : Int64 → V_X2 → V_X3 → V_X4 → V_X0 → Prop) : Prop :=
  ∃ (I : Int64 → Int32 → Prop) (μ : Int64 → Int32 → Nat), I y79_1 y79_3 ∧ ∀ (s0 : Int64) (s1 : Int32), I s0 s1 → wb_X6_digest_79 v z79_v_paths z79_v_spareR z79_v_survey z79_v_trial s0 s1 (fun t0 t1 => I t0 t1 ∧ μ t0 t1 < μ s0 s1) Q
def wb_X6_digest_17 (v : V_X6) (z17_v_survey : V_X4) (y17_1 : Int64) (y17_3 : Int32) (z17_v_paths : V_X2) (B17 : Int64 → Int32 → V_X2 → Prop) (Q : Int64 → V_X2 → V_X3 → V_X4 → V_X0 → Prop) : Prop :=
  ((14 < y17_3 → wp_X6_hashTufts (X6_s7 (X6_s6 v z17_v_survey) z17_v_paths) y17_1 (fun r44 =>
  wp_X6_hashMoles (X6_s7 (X6_s6 v z17_v_survey) z17_v_paths) r44 (fun r50 =>
  wp_X6_hashTunnels (X6_s7 (X6_s6 v z17_v_survey) z17_v_paths) r50 (fun r56 =>
  wp_X6_hashPaths (X6_s7 (X6_s6 v z17_v_survey) z17_v_paths) r56 (fun r62 z62_v_paths =>
  wp_X6_hashDigging (X6_s7 (X6_s6 v z17_v_survey) z62_v_paths) r62 (fun r68 =>
  wp_X6_tryBeats (X6_s7 (X6_s6 v z17_v_survey) z62_v_paths) 5 (fun z74_v_spareR z74_v_trial =>
  wp_X6_digest_79 v z62_v_paths z74_v_spareR z17_v_survey z74_v_trial r68 0 Q))))))) ∧
  (¬ 14 < y17_3 → wp_X6_numberOfAll (X6_s7 (X6_s6 v z17_v_survey) z17_v_paths) y17_3 (fun r30 z30_v_paths =>
  B17 ((31 * y17_1) + (r30.toInt64)) (y17_3 + 1) z30_v_paths)))
def wp_X6_digest_17 (v : V_X6) (z17_v_survey : V_X4) (y17_1 : Int64) (y17_3 : Int32) (z17_v_paths : V_X2) (Q : Int64 → V_X2 → V_X3 → V_X4 → V_X0 → Prop) : Prop :=
  ∃ (I : Int64 → Int32 → V_X2 → Prop) (μ : Int64 → Int32 → V_X2 → Nat), I y17_1 y17_3 z17_v_paths ∧ ∀ (s0 : Int64) (s1 : Int32) (s2 : V_X2), I s0 s1 s2 → wb_X6_digest_17 v z17_v_survey s0 s1 s2 (fun t0 t1 t2 => I t0 t1 t2 ∧ μ t0 t1 t2 < μ s0 s1 s2) Q
def wp_X6_digest (v : V_X6) (Q : Int64 → V_X2 → V_X3 → V_X4 → V_X0 → Prop) : Prop :=
  wp_X4_read (X6_survey v) (X6_lawn v) (fun z8_v_crossings z8_v_hollow z8_v_seenBy z8_v_sure =>
  wp_X6_digest_17 v (z8_v_hollow, z8_v_crossings, z8_v_sure, z8_v_seenBy) 3631 0 (X6_paths v) Q)
def wp_X6_append (v : V_X6) (x1 : Int32) (Q : Int32 → V_X5 → Prop) (QX : String → Prop) : Prop :=
  ((x1 < 33 → QX "java/lang/IllegalArgumentException") ∧
  (¬ x1 < 33 → ((x1 ≤ 126 → (((X5_length (X6_text v)) < 60 → wp_X5_put (X6_text v) x1 (fun z49_v_codes z49_v_length =>
  Q z49_v_length (X5_s1 (X5_s0 (X6_text v) z49_v_codes) z49_v_length))) ∧
  (¬ (X5_length (X6_text v)) < 60 → QX "java/lang/IllegalStateException"))) ∧
  (¬ x1 ≤ 126 → QX "java/lang/IllegalArgumentException"))))
def wp_X6_plans_99 (v : V_X6) (z30_v_saved : (Nat → V_X0)) (z30_v_savedCount : Int32) (z30_v_savedR : (Nat → Nat)) (y30_1 : Int32) (y30_2 : Int32) (y30_3 : Int32) (z30_v_lawn : V_X0) (B30 : Int32 → Int32 → Int32 → V_X0 → Prop) (y99_2 : Int32) (y99_4 : Int32) (Q : Int32 → V_X0 → (Nat → V_X0) → Int32 → (Nat → Nat) → V_X5 → Prop) (QX : String → Prop) : Prop :=
  ((y99_4 = (-1) → B30 y30_1 y99_2 (y30_3 + 1) z30_v_lawn) ∧
  (¬ y99_4 = (-1) → wp_X0_hasRoomInPlan z30_v_lawn y99_2 (fun r110 =>
  ((r110 = 0 → B30 y30_1 y99_2 (y30_3 + 1) z30_v_lawn) ∧
  (¬ r110 = 0 → vp_in y99_2 4 ∧ ((X0_molesR z30_v_lawn) y99_2.toNatClampNeg) < 4 ∧ wp_X1_addDirection ((X0_moles z30_v_lawn) ((X0_molesR z30_v_lawn) y99_2.toNatClampNeg)) y99_4 (fun z127_v_directions z127_v_planned =>
  B30 (y30_1 + 1) y99_2 (y30_3 + 1) (X0_s6 z30_v_lawn (va_up (X0_moles z30_v_lawn) ((X0_molesR z30_v_lawn) y99_2.toNatClampNeg) (X1_s2 (X1_s0 ((X0_moles z30_v_lawn) ((X0_molesR z30_v_lawn) y99_2.toNatClampNeg)) z127_v_directions) z127_v_planned)))))))))
def wb_X6_plans_30 (v : V_X6) (z30_v_saved : (Nat → V_X0)) (z30_v_savedCount : Int32) (z30_v_savedR : (Nat → Nat)) (y30_1 : Int32) (y30_2 : Int32) (y30_3 : Int32) (z30_v_lawn : V_X0) (B30 : Int32 → Int32 → Int32 → V_X0 → Prop) (Q : Int32 → V_X0 → (Nat → V_X0) → Int32 → (Nat → Nat) → V_X5 → Prop) (QX : String → Prop) : Prop :=
  (((X5_length (X6_text v)) ≤ y30_3 → Q y30_1 z30_v_lawn z30_v_saved z30_v_savedCount z30_v_savedR (X5_s1 (X6_text v) 0)) ∧
  (¬ (X5_length (X6_text v)) ≤ y30_3 → vp_in y30_3 60 ∧ wp_X5_directionOf ((X5_codes (X6_text v)) y30_3.toNatClampNeg) (fun r50 =>
  ((((X5_codes (X6_text v)) y30_3.toNatClampNeg) < 48 → wp_X6_plans_99 v z30_v_saved z30_v_savedCount z30_v_savedR y30_1 y30_2 y30_3 z30_v_lawn B30 y30_2 r50  Q QX) ∧
  (¬ ((X5_codes (X6_text v)) y30_3.toNatClampNeg) < 48 → ((51 < ((X5_codes (X6_text v)) y30_3.toNatClampNeg) → wp_X6_plans_99 v z30_v_saved z30_v_savedCount z30_v_savedR y30_1 y30_2 y30_3 z30_v_lawn B30 y30_2 r50  Q QX) ∧
  (¬ 51 < ((X5_codes (X6_text v)) y30_3.toNatClampNeg) → B30 y30_1 (((X5_codes (X6_text v)) y30_3.toNatClampNeg) - 48) (y30_3 + 1) z30_v_lawn)))))))
def wp_X6_plans_30 (v : V_X6) (z30_v_saved : (Nat → V_X0)) (z30_v_savedCount : Int32) (z30_v_savedR : (Nat → Nat)) (y30_1 : Int32) (y30_2 : Int32) (y30_3 : Int32) (z30_v_lawn : V_X0) (Q : Int32 → V_X0 → (Nat → V_X0) → Int32 → (Nat → Nat) → V_X5 → Prop) (QX : String → Prop) : Prop :=
  ∃ (I : Int32 → Int32 → Int32 → V_X0 → Prop) (μ : Int32 → Int32 → Int32 → V_X0 → Nat), I y30_1 y30_2 y30_3 z30_v_lawn ∧ ∀ (s0 : Int32) (s1 : Int32) (s2 : Int32) (s3 : V_X0), I s0 s1 s2 s3 → wb_X6_plans_30 v z30_v_saved z30_v_savedCount z30_v_savedR s0 s1 s2 s3 (fun t0 t1 t2 t3 => I t0 t1 t2 t3 ∧ μ t0 t1 t2 t3 < μ s0 s1 s2 s3) Q QX
def wp_X6_plans (v : V_X6) (Q : Int32 → V_X0 → (Nat → V_X0) → Int32 → (Nat → Nat) → V_X5 → Prop) (QX : String → Prop) : Prop :=
  wp_X5_isComplete (X6_text v) (fun r4 =>
  ((r4 = 0 → QX "java/lang/IllegalArgumentException") ∧
  (¬ r4 = 0 → wp_X6_saveState v (fun z21_v_saved z21_v_savedCount z21_v_savedR =>
  wp_X6_plans_30 v z21_v_saved z21_v_savedCount z21_v_savedR 0 (-1) 0 (X6_lawn v) Q QX))))
def wp_X7_thrown (v : V_X7) (Q : Int32 → Prop) : Prop :=
  Q (X7_thrown v)
def wp_X7_in (x0 : Int32) (x1 : Int32) (x2 : Int32) (Q : Int32 → Prop) : Prop :=
  ((x0 < x1 → Q 0) ∧
  (¬ x0 < x1 → ((x2 < x0 → Q 0) ∧
  (¬ x2 < x0 → Q 1))))
def wp_X7_holds (v : V_X7) (x1 : Int32) (Q : Int32 → Int32 → Prop) : Prop :=
  ((x1 = 0 → Q 1 x1) ∧
  (¬ x1 = 0 → Q 0 x1))
def wp_X7_isTuft (x0 : Int32) (Q : Int32 → Prop) : Prop :=
  wp_X7_in x0 0 63 (fun r4 =>
  bz r4 ∧ Q r4)
def wp_X7_isMole (v : V_X7) (x1 : Int32) (Q : Int32 → Prop) : Prop :=
  vp_in 1 1472 ∧ wp_X7_in x1 0 (((X7_s v) (1 : Int32).toNatClampNeg) - 1) (fun r10 =>
  bz r10 ∧ Q r10)
def wp_X7_of (x0 : Int32) (x1 : Int32) (Q : Int32 → Prop) : Prop :=
  Q ((264 + (46 * x0)) + x1)
def wp_X7_hasMound (v : V_X7) (x1 : Int32) (Q : Int32 → Prop) : Prop :=
  vp_in (8 + x1) 1472 ∧ ((((X7_s v) (8 + x1).toNatClampNeg) = 1 → Q 1) ∧
  (¬ ((X7_s v) (8 + x1).toNatClampNeg) = 1 → Q 0))
def wb_X7_save_52 (v : V_X7) (z52_v_savedMany : Int32) (y52_1 : Int32) (z52_v_saved : (Nat → Int32)) (B52 : Int32 → (Nat → Int32) → Prop) (Q : (Nat → Int32) → Int32 → Prop) : Prop :=
  ((1472 ≤ y52_1 → Q z52_v_saved (z52_v_savedMany + 1)) ∧
  (¬ 1472 ≤ y52_1 → vp_in y52_1 1472 ∧ vp_in ((1472 * z52_v_savedMany) + y52_1) 8832 ∧ B52 (y52_1 + 1) (upd z52_v_saved ((1472 * z52_v_savedMany) + y52_1).toNatClampNeg ((X7_s v) y52_1.toNatClampNeg))))
def wp_X7_save_52 (v : V_X7) (z52_v_savedMany : Int32) (y52_1 : Int32) (z52_v_saved : (Nat → Int32)) (Q : (Nat → Int32) → Int32 → Prop) : Prop :=
  ∃ (I : Int32 → (Nat → Int32) → Prop) (μ : Int32 → (Nat → Int32) → Nat), I y52_1 z52_v_saved ∧ ∀ (s0 : Int32) (s1 : (Nat → Int32)), I s0 s1 → wb_X7_save_52 v z52_v_savedMany s0 s1 (fun t0 t1 => I t0 t1 ∧ μ t0 t1 < μ s0 s1) Q
def wb_X7_save_11 (v : V_X7)  (y11_1 : Int32) (z11_v_saved : (Nat → Int32)) (B11 : Int32 → (Nat → Int32) → Prop) (Q : (Nat → Int32) → Int32 → Prop) : Prop :=
  ((7360 ≤ y11_1 → wp_X7_save_52 v ((X7_savedMany v) - 1) 0 z11_v_saved Q) ∧
  (¬ 7360 ≤ y11_1 → vp_in (1472 + y11_1) 8832 ∧ vp_in y11_1 8832 ∧ B11 (y11_1 + 1) (upd z11_v_saved y11_1.toNatClampNeg (z11_v_saved (1472 + y11_1).toNatClampNeg))))
def wp_X7_save_11 (v : V_X7)  (y11_1 : Int32) (z11_v_saved : (Nat → Int32)) (Q : (Nat → Int32) → Int32 → Prop) : Prop :=
  ∃ (I : Int32 → (Nat → Int32) → Prop) (μ : Int32 → (Nat → Int32) → Nat), I y11_1 z11_v_saved ∧ ∀ (s0 : Int32) (s1 : (Nat → Int32)), I s0 s1 → wb_X7_save_11 v  s0 s1 (fun t0 t1 => I t0 t1 ∧ μ t0 t1 < μ s0 s1) Q
def wp_X7_save (v : V_X7) (Q : (Nat → Int32) → Int32 → Prop) : Prop :=
  (((X7_savedMany v) = 6 → wp_X7_save_11 v  0 (X7_saved v) Q) ∧
  (¬ (X7_savedMany v) = 6 → wp_X7_save_52 v (X7_savedMany v) 0 (X7_saved v) Q))
def wb_X7_putAside_2 (v : V_X7)  (y2_1 : Int32) (z2_v_aside : (Nat → Int32)) (B2 : Int32 → (Nat → Int32) → Prop) (Q : (Nat → Int32) → Prop) : Prop :=
  ((1472 ≤ y2_1 → Q z2_v_aside) ∧
  (¬ 1472 ≤ y2_1 → vp_in y2_1 1472 ∧ B2 (y2_1 + 1) (upd z2_v_aside y2_1.toNatClampNeg ((X7_s v) y2_1.toNatClampNeg))))
def wp_X7_putAside_2 (v : V_X7)  (y2_1 : Int32) (z2_v_aside : (Nat → Int32)) (Q : (Nat → Int32) → Prop) : Prop :=
  ∃ (I : Int32 → (Nat → Int32) → Prop) (μ : Int32 → (Nat → Int32) → Nat), I y2_1 z2_v_aside ∧ ∀ (s0 : Int32) (s1 : (Nat → Int32)), I s0 s1 → wb_X7_putAside_2 v  s0 s1 (fun t0 t1 => I t0 t1 ∧ μ t0 t1 < μ s0 s1) Q
def wp_X7_putAside (v : V_X7) (Q : (Nat → Int32) → Prop) : Prop :=
  wp_X7_putAside_2 v  0 (X7_aside v) Q
def wb_X7_putBack_2 (v : V_X7)  (y2_1 : Int32) (z2_v_s : (Nat → Int32)) (B2 : Int32 → (Nat → Int32) → Prop) (Q : (Nat → Int32) → Prop) : Prop :=
  ((1472 ≤ y2_1 → Q z2_v_s) ∧
  (¬ 1472 ≤ y2_1 → vp_in y2_1 1472 ∧ B2 (y2_1 + 1) (upd z2_v_s y2_1.toNatClampNeg ((X7_aside v) y2_1.toNatClampNeg))))
def wp_X7_putBack_2 (v : V_X7)  (y2_1 : Int32) (z2_v_s : (Nat → Int32)) (Q : (Nat → Int32) → Prop) : Prop :=
  ∃ (I : Int32 → (Nat → Int32) → Prop) (μ : Int32 → (Nat → Int32) → Nat), I y2_1 z2_v_s ∧ ∀ (s0 : Int32) (s1 : (Nat → Int32)), I s0 s1 → wb_X7_putBack_2 v  s0 s1 (fun t0 t1 => I t0 t1 ∧ μ t0 t1 < μ s0 s1) Q
def wp_X7_putBack (v : V_X7) (Q : (Nat → Int32) → Prop) : Prop :=
  wp_X7_putBack_2 v  0 (X7_s v) Q
def wp_X7_tuftAt (v : V_X7) (x1 : Int32) (Q : Int32 → Prop) : Prop :=
  vp_in (448 + x1) 1472 ∧ Q (((X7_s v) (448 + x1).toNatClampNeg) - ((X7_s v) (448 + x1).toNatClampNeg) / 64 * 64)
def wb_X7_endFrom_2 (v : V_X7) (x1 : Int32)  (y2_2 : Int32) (B2 : Int32 → Prop) (Q : Int32 → Prop) : Prop :=
  vp_in (448 + y2_2) 1472 ∧ ((64 ≤ ((X7_s v) (448 + y2_2).toNatClampNeg) → Q y2_2) ∧
  (¬ 64 ≤ ((X7_s v) (448 + y2_2).toNatClampNeg) → B2 (y2_2 + 1)))
def wp_X7_endFrom_2 (v : V_X7) (x1 : Int32)  (y2_2 : Int32) (Q : Int32 → Prop) : Prop :=
  ∃ (I : Int32 → Prop) (μ : Int32 → Nat), I y2_2 ∧ ∀ (s0 : Int32), I s0 → wb_X7_endFrom_2 v x1  s0 (fun t0 => I t0 ∧ μ t0 < μ s0) Q
def wp_X7_endFrom (v : V_X7) (x1 : Int32) (Q : Int32 → Prop) : Prop :=
  wp_X7_endFrom_2 v x1  x1 Q
def wb_X7_tunnels_4 (v : V_X7)  (y4_1 : Int32) (y4_2 : Int32) (B4 : Int32 → Int32 → Prop) (Q : Int32 → Prop) : Prop :=
  vp_in 7 1472 ∧ ((((X7_s v) (7 : Int32).toNatClampNeg) ≤ y4_2 → Q y4_1) ∧
  (¬ ((X7_s v) (7 : Int32).toNatClampNeg) ≤ y4_2 → vp_in (448 + y4_2) 1472 ∧ ((64 ≤ ((X7_s v) (448 + y4_2).toNatClampNeg) → B4 (y4_1 + 1) (y4_2 + 1)) ∧
  (¬ 64 ≤ ((X7_s v) (448 + y4_2).toNatClampNeg) → B4 (y4_1 + 0) (y4_2 + 1)))))
def wp_X7_tunnels_4 (v : V_X7)  (y4_1 : Int32) (y4_2 : Int32) (Q : Int32 → Prop) : Prop :=
  ∃ (I : Int32 → Int32 → Prop) (μ : Int32 → Int32 → Nat), I y4_1 y4_2 ∧ ∀ (s0 : Int32) (s1 : Int32), I s0 s1 → wb_X7_tunnels_4 v  s0 s1 (fun t0 t1 => I t0 t1 ∧ μ t0 t1 < μ s0 s1) Q
def wp_X7_tunnels (v : V_X7) (Q : Int32 → Prop) : Prop :=
  wp_X7_tunnels_4 v  0 0 Q
def wb_X7_beginOf_4 (v : V_X7) (x1 : Int32)  (y4_2 : Int32) (y4_3 : Int32) (B4 : Int32 → Int32 → Prop) (Q : Int32 → Prop) : Prop :=
  ((x1 ≤ y4_3 → Q y4_2) ∧
  (¬ x1 ≤ y4_3 → wp_X7_endFrom v y4_2 (fun r11 =>
  B4 (r11 + 1) (y4_3 + 1))))
def wp_X7_beginOf_4 (v : V_X7) (x1 : Int32)  (y4_2 : Int32) (y4_3 : Int32) (Q : Int32 → Prop) : Prop :=
  ∃ (I : Int32 → Int32 → Prop) (μ : Int32 → Int32 → Nat), I y4_2 y4_3 ∧ ∀ (s0 : Int32) (s1 : Int32), I s0 s1 → wb_X7_beginOf_4 v x1  s0 s1 (fun t0 t1 => I t0 t1 ∧ μ t0 t1 < μ s0 s1) Q
def wp_X7_beginOf (v : V_X7) (x1 : Int32) (Q : Int32 → Prop) : Prop :=
  wp_X7_beginOf_4 v x1  0 0 Q
def wb_X7_shifts_111 (v : V_X7) (x1 : Int32) (x2 : Int32)  (y111_3 : Int32) (z111_v_s : (Nat → Int32)) (B111 : Int32 → (Nat → Int32) → Prop) (Q : (Nat → Int32) → Prop) : Prop :=
  vp_in 7 1472 ∧ ((((z111_v_s (7 : Int32).toNatClampNeg) - x2) ≤ y111_3 → Q z111_v_s) ∧
  (¬ ((z111_v_s (7 : Int32).toNatClampNeg) - x2) ≤ y111_3 → vp_in (448 + y111_3) 1472 ∧ B111 (y111_3 + 1) (upd z111_v_s (448 + y111_3).toNatClampNeg 0)))
def wp_X7_shifts_111 (v : V_X7) (x1 : Int32) (x2 : Int32)  (y111_3 : Int32) (z111_v_s : (Nat → Int32)) (Q : (Nat → Int32) → Prop) : Prop :=
  ∃ (I : Int32 → (Nat → Int32) → Prop) (μ : Int32 → (Nat → Int32) → Nat), I y111_3 z111_v_s ∧ ∀ (s0 : Int32) (s1 : (Nat → Int32)), I s0 s1 → wb_X7_shifts_111 v x1 x2  s0 s1 (fun t0 t1 => I t0 t1 ∧ μ t0 t1 < μ s0 s1) Q
def wp_X7_shifts_92 (v : V_X7) (x1 : Int32) (x2 : Int32) (z92_v_s : (Nat → Int32)) (Q : (Nat → Int32) → Prop) : Prop :=
  vp_in 7 1472 ∧ wp_X7_shifts_111 v x1 x2  ((upd z92_v_s (7 : Int32).toNatClampNeg ((z92_v_s (7 : Int32).toNatClampNeg) + x2)) (7 : Int32).toNatClampNeg) (upd z92_v_s (7 : Int32).toNatClampNeg ((z92_v_s (7 : Int32).toNatClampNeg) + x2)) Q
def wb_X7_shifts_49 (v : V_X7) (x1 : Int32) (x2 : Int32)  (y49_3 : Int32) (z49_v_s : (Nat → Int32)) (B49 : Int32 → (Nat → Int32) → Prop) (Q : (Nat → Int32) → Prop) : Prop :=
  vp_in 7 1472 ∧ (((z49_v_s (7 : Int32).toNatClampNeg) ≤ y49_3 → wp_X7_shifts_92 v x1 x2 z49_v_s  Q) ∧
  (¬ (z49_v_s (7 : Int32).toNatClampNeg) ≤ y49_3 → ((0 ≤ x2 → wp_X7_shifts_92 v x1 x2 z49_v_s  Q) ∧
  (¬ 0 ≤ x2 → vp_in (448 + y49_3) 1472 ∧ vp_in ((448 + y49_3) + x2) 1472 ∧ B49 (y49_3 + 1) (upd z49_v_s ((448 + y49_3) + x2).toNatClampNeg (z49_v_s (448 + y49_3).toNatClampNeg))))))
def wp_X7_shifts_49 (v : V_X7) (x1 : Int32) (x2 : Int32)  (y49_3 : Int32) (z49_v_s : (Nat → Int32)) (Q : (Nat → Int32) → Prop) : Prop :=
  ∃ (I : Int32 → (Nat → Int32) → Prop) (μ : Int32 → (Nat → Int32) → Nat), I y49_3 z49_v_s ∧ ∀ (s0 : Int32) (s1 : (Nat → Int32)), I s0 s1 → wb_X7_shifts_49 v x1 x2  s0 s1 (fun t0 t1 => I t0 t1 ∧ μ t0 t1 < μ s0 s1) Q
def wb_X7_shifts_10 (v : V_X7) (x1 : Int32) (x2 : Int32)  (y10_3 : Int32) (z10_v_s : (Nat → Int32)) (B10 : Int32 → (Nat → Int32) → Prop) (Q : (Nat → Int32) → Prop) : Prop :=
  ((y10_3 < x1 → wp_X7_shifts_49 v x1 x2  x1 z10_v_s Q) ∧
  (¬ y10_3 < x1 → ((x2 ≤ 0 → wp_X7_shifts_49 v x1 x2  x1 z10_v_s Q) ∧
  (¬ x2 ≤ 0 → vp_in (448 + y10_3) 1472 ∧ vp_in ((448 + y10_3) + x2) 1472 ∧ B10 (y10_3 + (-1)) (upd z10_v_s ((448 + y10_3) + x2).toNatClampNeg (z10_v_s (448 + y10_3).toNatClampNeg))))))
def wp_X7_shifts_10 (v : V_X7) (x1 : Int32) (x2 : Int32)  (y10_3 : Int32) (z10_v_s : (Nat → Int32)) (Q : (Nat → Int32) → Prop) : Prop :=
  ∃ (I : Int32 → (Nat → Int32) → Prop) (μ : Int32 → (Nat → Int32) → Nat), I y10_3 z10_v_s ∧ ∀ (s0 : Int32) (s1 : (Nat → Int32)), I s0 s1 → wb_X7_shifts_10 v x1 x2  s0 s1 (fun t0 t1 => I t0 t1 ∧ μ t0 t1 < μ s0 s1) Q
def wp_X7_shifts (v : V_X7) (x1 : Int32) (x2 : Int32) (Q : (Nat → Int32) → Prop) : Prop :=
  vp_in 7 1472 ∧ wp_X7_shifts_10 v x1 x2  (((X7_s v) (7 : Int32).toNatClampNeg) - 1) (X7_s v) Q
def wb_X7_find_6 (v : V_X7) (x1 : Int32) (x2 : Int32) (x3 : Int32) (x4 : Int32)  (y6_5 : Int32) (y6_6 : Int32) (B6 : Int32 → Int32 → Prop) (Q : Int32 → Prop) : Prop :=
  ((x3 < y6_6 → Q y6_5) ∧
  (¬ x3 < y6_6 → wp_X7_tuftAt v y6_6 (fun r15 =>
  ((r15 = x1 → ((x4 = 0 → ((y6_5 = (-1) → B6 y6_6 (y6_6 + 1)) ∧
  (¬ y6_5 = (-1) → B6 y6_5 (y6_6 + 1)))) ∧
  (¬ x4 = 0 → B6 y6_6 (y6_6 + 1)))) ∧
  (¬ r15 = x1 → B6 y6_5 (y6_6 + 1))))))
def wp_X7_find_6 (v : V_X7) (x1 : Int32) (x2 : Int32) (x3 : Int32) (x4 : Int32)  (y6_5 : Int32) (y6_6 : Int32) (Q : Int32 → Prop) : Prop :=
  ∃ (I : Int32 → Int32 → Prop) (μ : Int32 → Int32 → Nat), I y6_5 y6_6 ∧ ∀ (s0 : Int32) (s1 : Int32), I s0 s1 → wb_X7_find_6 v x1 x2 x3 x4  s0 s1 (fun t0 t1 => I t0 t1 ∧ μ t0 t1 < μ s0 s1) Q
def wp_X7_find (v : V_X7) (x1 : Int32) (x2 : Int32) (x3 : Int32) (x4 : Int32) (Q : Int32 → Prop) : Prop :=
  wp_X7_find_6 v x1 x2 x3 x4  (-1) x2 Q
def wp_X7_splits_106 (v : V_X7) (x1 : Int32) (y2_2 : Int32) (z2_v_s : (Nat → Int32)) (B2 : Int32 → (Nat → Int32) → Prop) (y106_4 : Int32) (z106_v_s : (Nat → Int32)) (Q : (Nat → Int32) → Prop) : Prop :=
  wp_X7_endFrom (X7_s0 v z106_v_s) (y106_4 + 1) (fun r111 =>
  B2 (r111 + 1) z106_v_s)
def wb_X7_splits_2 (v : V_X7) (x1 : Int32)  (y2_2 : Int32) (z2_v_s : (Nat → Int32)) (B2 : Int32 → (Nat → Int32) → Prop) (Q : (Nat → Int32) → Prop) : Prop :=
  vp_in 7 1472 ∧ (((z2_v_s (7 : Int32).toNatClampNeg) ≤ y2_2 → Q z2_v_s) ∧
  (¬ (z2_v_s (7 : Int32).toNatClampNeg) ≤ y2_2 → wp_X7_endFrom (X7_s0 v z2_v_s) y2_2 (fun r15 =>
  wp_X7_find (X7_s0 v z2_v_s) x1 y2_2 r15 0 (fun r24 =>
  ((r24 = (-1) → B2 (r15 + 1) z2_v_s) ∧
  (¬ r24 = (-1) → wp_X7_find (X7_s0 v z2_v_s) x1 y2_2 r15 1 (fun r40 =>
  vp_in (448 + r24) 1472 ∧ ((r24 = r40 → wp_X7_shifts (X7_s0 v (upd z2_v_s (448 + r24).toNatClampNeg (x1 + 64))) (r24 + 1) 1 (fun z73_v_s =>
  vp_in ((448 + r24) + 1) 1472 ∧ wp_X7_splits_106 v x1 y2_2 z2_v_s B2 r24 (upd z73_v_s ((448 + r24) + 1).toNatClampNeg x1)  Q)) ∧
  (¬ r24 = r40 → wp_X7_shifts (X7_s0 v (upd z2_v_s (448 + r24).toNatClampNeg (x1 + 64))) r40 ((r24 + 1) - r40) (fun z103_v_s =>
  wp_X7_splits_106 v x1 y2_2 z2_v_s B2 r24 z103_v_s  Q))))))))))
def wp_X7_splits_2 (v : V_X7) (x1 : Int32)  (y2_2 : Int32) (z2_v_s : (Nat → Int32)) (Q : (Nat → Int32) → Prop) : Prop :=
  ∃ (I : Int32 → (Nat → Int32) → Prop) (μ : Int32 → (Nat → Int32) → Nat), I y2_2 z2_v_s ∧ ∀ (s0 : Int32) (s1 : (Nat → Int32)), I s0 s1 → wb_X7_splits_2 v x1  s0 s1 (fun t0 t1 => I t0 t1 ∧ μ t0 t1 < μ s0 s1) Q
def wp_X7_splits (v : V_X7) (x1 : Int32) (Q : (Nat → Int32) → Prop) : Prop :=
  wp_X7_splits_2 v x1  0 (X7_s v) Q
def wp_X7_fallsIn_64 (v : V_X7) (x1 : Int32) (y4_2 : Int32) (y4_3 : Int32) (z4_v_s : (Nat → Int32)) (B4 : Int32 → Int32 → (Nat → Int32) → Prop) (y64_2 : Int32) (y64_4 : Int32) (y64_5 : Int32) (z64_v_s : (Nat → Int32)) (Q : Int32 → (Nat → Int32) → Prop) : Prop :=
  ((y64_5 = 0 → B4 y64_2 (y64_4 + 1) z64_v_s) ∧
  (¬ y64_5 = 0 → B4 y64_2 y4_3 z64_v_s))
def wp_X7_fallsIn_40 (v : V_X7) (x1 : Int32) (y4_2 : Int32) (y4_3 : Int32) (z4_v_s : (Nat → Int32)) (B4 : Int32 → Int32 → (Nat → Int32) → Prop) (y40_4 : Int32) (k40_0 : Int32) (Q : Int32 → (Nat → Int32) → Prop) : Prop :=
  ((k40_0 = 0 → wp_X7_fallsIn_64 v x1 y4_2 y4_3 z4_v_s B4 y4_2 y40_4 k40_0 z4_v_s  Q) ∧
  (¬ k40_0 = 0 → wp_X7_shifts (X7_s0 v z4_v_s) (y40_4 + 1) ((y4_3 - y40_4) - 1) (fun z58_v_s =>
  wp_X7_fallsIn_64 v x1 y4_2 y4_3 z4_v_s B4 (y4_2 + 1) y40_4 k40_0 z58_v_s  Q)))
def wb_X7_fallsIn_4 (v : V_X7) (x1 : Int32)  (y4_2 : Int32) (y4_3 : Int32) (z4_v_s : (Nat → Int32)) (B4 : Int32 → Int32 → (Nat → Int32) → Prop) (Q : Int32 → (Nat → Int32) → Prop) : Prop :=
  vp_in 7 1472 ∧ (((z4_v_s (7 : Int32).toNatClampNeg) ≤ y4_3 → vp_in 5 1472 ∧ Q y4_2 (upd z4_v_s (5 : Int32).toNatClampNeg ((z4_v_s (5 : Int32).toNatClampNeg) + y4_2))) ∧
  (¬ (z4_v_s (7 : Int32).toNatClampNeg) ≤ y4_3 → wp_X7_endFrom (X7_s0 v z4_v_s) y4_3 (fun r17 =>
  wp_X7_find (X7_s0 v z4_v_s) x1 y4_3 r17 0 (fun r28 =>
  ((r28 = (-1) → wp_X7_fallsIn_40 v x1 y4_2 y4_3 z4_v_s B4 r17 0  Q) ∧
  (¬ r28 = (-1) → wp_X7_fallsIn_40 v x1 y4_2 y4_3 z4_v_s B4 r17 1  Q))))))
def wp_X7_fallsIn_4 (v : V_X7) (x1 : Int32)  (y4_2 : Int32) (y4_3 : Int32) (z4_v_s : (Nat → Int32)) (Q : Int32 → (Nat → Int32) → Prop) : Prop :=
  ∃ (I : Int32 → Int32 → (Nat → Int32) → Prop) (μ : Int32 → Int32 → (Nat → Int32) → Nat), I y4_2 y4_3 z4_v_s ∧ ∀ (s0 : Int32) (s1 : Int32) (s2 : (Nat → Int32)), I s0 s1 s2 → wb_X7_fallsIn_4 v x1  s0 s1 s2 (fun t0 t1 t2 => I t0 t1 t2 ∧ μ t0 t1 t2 < μ s0 s1 s2) Q
def wp_X7_fallsIn (v : V_X7) (x1 : Int32) (Q : Int32 → (Nat → Int32) → Prop) : Prop :=
  wp_X7_fallsIn_4 v x1  0 0 (X7_s v) Q
def wb_X7_inTrail_6 (v : V_X7) (x1 : Int32) (x2 : Int32) (x3 : Int32)  (y6_4 : Int32) (y6_5 : Int32) (B6 : Int32 → Int32 → Prop) (Q : Int32 → Prop) : Prop :=
  wp_X7_of x1 23 (fun r15 =>
  vp_in r15 1472 ∧ ((((X7_s v) r15.toNatClampNeg) ≤ y6_5 → Q y6_4) ∧
  (¬ ((X7_s v) r15.toNatClampNeg) ≤ y6_5 → wp_X7_of x1 (24 + y6_5) (fun r32 =>
  vp_in r32 1472 ∧ ((((X7_s v) r32.toNatClampNeg) = x2 → ((x3 = 0 → ((y6_4 = (-1) → B6 y6_5 (y6_5 + 1)) ∧
  (¬ y6_4 = (-1) → B6 y6_4 (y6_5 + 1)))) ∧
  (¬ x3 = 0 → B6 y6_5 (y6_5 + 1)))) ∧
  (¬ ((X7_s v) r32.toNatClampNeg) = x2 → B6 y6_4 (y6_5 + 1)))))))
def wp_X7_inTrail_6 (v : V_X7) (x1 : Int32) (x2 : Int32) (x3 : Int32)  (y6_4 : Int32) (y6_5 : Int32) (Q : Int32 → Prop) : Prop :=
  ∃ (I : Int32 → Int32 → Prop) (μ : Int32 → Int32 → Nat), I y6_4 y6_5 ∧ ∀ (s0 : Int32) (s1 : Int32), I s0 s1 → wb_X7_inTrail_6 v x1 x2 x3  s0 s1 (fun t0 t1 => I t0 t1 ∧ μ t0 t1 < μ s0 s1) Q
def wp_X7_inTrail (v : V_X7) (x1 : Int32) (x2 : Int32) (x3 : Int32) (Q : Int32 → Prop) : Prop :=
  wp_X7_inTrail_6 v x1 x2 x3  (-1) 0 Q
def wp_X7_digs_46 (v : V_X7) (x1 : Int32) (x2 : Int32) (y2_3 : Int32) (z2_v_s : (Nat → Int32)) (B2 : Int32 → (Nat → Int32) → Prop) (k46_0 : Int32) (k46_1 : Int32) (k46_2 : Int32) (Q : (Nat → Int32) → Prop) : Prop :=
  vp_in k46_2 1472 ∧ vp_in 7 1472 ∧ B2 (y2_3 + 1) (upd (upd z2_v_s k46_2.toNatClampNeg (k46_1 + k46_0)) (7 : Int32).toNatClampNeg (((upd z2_v_s k46_2.toNatClampNeg (k46_1 + k46_0)) (7 : Int32).toNatClampNeg) + 1))
def wb_X7_digs_2 (v : V_X7) (x1 : Int32) (x2 : Int32)  (y2_3 : Int32) (z2_v_s : (Nat → Int32)) (B2 : Int32 → (Nat → Int32) → Prop) (Q : (Nat → Int32) → Prop) : Prop :=
  ((x2 < y2_3 → Q z2_v_s) ∧
  (¬ x2 < y2_3 → vp_in 7 1472 ∧ wp_X7_of x1 (24 + y2_3) (fun r31 =>
  vp_in r31 1472 ∧ ((y2_3 = x2 → wp_X7_digs_46 v x1 x2 y2_3 z2_v_s B2 64 (z2_v_s r31.toNatClampNeg) (448 + (z2_v_s (7 : Int32).toNatClampNeg))  Q) ∧
  (¬ y2_3 = x2 → wp_X7_digs_46 v x1 x2 y2_3 z2_v_s B2 0 (z2_v_s r31.toNatClampNeg) (448 + (z2_v_s (7 : Int32).toNatClampNeg))  Q)))))
def wp_X7_digs_2 (v : V_X7) (x1 : Int32) (x2 : Int32)  (y2_3 : Int32) (z2_v_s : (Nat → Int32)) (Q : (Nat → Int32) → Prop) : Prop :=
  ∃ (I : Int32 → (Nat → Int32) → Prop) (μ : Int32 → (Nat → Int32) → Nat), I y2_3 z2_v_s ∧ ∀ (s0 : Int32) (s1 : (Nat → Int32)), I s0 s1 → wb_X7_digs_2 v x1 x2  s0 s1 (fun t0 t1 => I t0 t1 ∧ μ t0 t1 < μ s0 s1) Q
def wp_X7_digs (v : V_X7) (x1 : Int32) (x2 : Int32) (Q : (Nat → Int32) → Prop) : Prop :=
  wp_X7_digs_2 v x1 x2  0 (X7_s v) Q
def wp_X7_beginsTrail (v : V_X7) (x1 : Int32) (Q : (Nat → Int32) → Prop) : Prop :=
  wp_X7_of x1 23 (fun r7 =>
  vp_in r7 1472 ∧ wp_X7_of x1 24 (fun r19 =>
  wp_X7_of x1 0 (fun r28 =>
  vp_in r28 1472 ∧ vp_in r19 1472 ∧ wp_X7_of x1 1 (fun r39 =>
  vp_in 6 1472 ∧ vp_in r39 1472 ∧ Q (upd (upd (upd (X7_s v) r7.toNatClampNeg 1) r19.toNatClampNeg ((upd (X7_s v) r7.toNatClampNeg 1) r28.toNatClampNeg)) r39.toNatClampNeg ((upd (upd (X7_s v) r7.toNatClampNeg 1) r19.toNatClampNeg ((upd (X7_s v) r7.toNatClampNeg 1) r28.toNatClampNeg)) (6 : Int32).toNatClampNeg))))))
def wb_X7_comesUp_83 (v : V_X7) (x1 : Int32) (y27_2 : Int32) (z27_v_s : (Nat → Int32)) (B27 : Int32 → (Nat → Int32) → Prop) (y83_4 : Int32) (y83_5 : Int32) (z83_v_s : (Nat → Int32)) (B83 : Int32 → (Nat → Int32) → Prop) (Q : (Nat → Int32) → Prop) : Prop :=
  wp_X7_of y27_2 23 (fun r92 =>
  vp_in r92 1472 ∧ (((z83_v_s r92.toNatClampNeg) ≤ y83_5 → B27 (y27_2 + 1) z83_v_s) ∧
  (¬ (z83_v_s r92.toNatClampNeg) ≤ y83_5 → wp_X7_of y27_2 (24 + y83_5) (fun r109 =>
  wp_X7_of y27_2 ((24 + y83_5) + y83_4) (fun r125 =>
  vp_in r125 1472 ∧ vp_in r109 1472 ∧ B83 (y83_5 + 1) (upd z83_v_s r109.toNatClampNeg (z83_v_s r125.toNatClampNeg)))))))
def wp_X7_comesUp_83 (v : V_X7) (x1 : Int32) (y27_2 : Int32) (z27_v_s : (Nat → Int32)) (B27 : Int32 → (Nat → Int32) → Prop) (y83_4 : Int32) (y83_5 : Int32) (z83_v_s : (Nat → Int32)) (Q : (Nat → Int32) → Prop) : Prop :=
  ∃ (I : Int32 → (Nat → Int32) → Prop) (μ : Int32 → (Nat → Int32) → Nat), I y83_5 z83_v_s ∧ ∀ (s0 : Int32) (s1 : (Nat → Int32)), I s0 s1 → wb_X7_comesUp_83 v x1 y27_2 z27_v_s B27 y83_4 s0 s1 (fun t0 t1 => I t0 t1 ∧ μ t0 t1 < μ s0 s1) Q
def wb_X7_comesUp_27 (v : V_X7) (x1 : Int32)  (y27_2 : Int32) (z27_v_s : (Nat → Int32)) (B27 : Int32 → (Nat → Int32) → Prop) (Q : (Nat → Int32) → Prop) : Prop :=
  vp_in 1 1472 ∧ (((z27_v_s (1 : Int32).toNatClampNeg) ≤ y27_2 → Q z27_v_s) ∧
  (¬ (z27_v_s (1 : Int32).toNatClampNeg) ≤ y27_2 → wp_X7_inTrail (X7_s0 v z27_v_s) y27_2 x1 0 (fun r41 =>
  ((r41 ≤ 0 → B27 (y27_2 + 1) z27_v_s) ∧
  (¬ r41 ≤ 0 → wp_X7_inTrail (X7_s0 v z27_v_s) y27_2 x1 1 (fun r53 =>
  wp_X7_digs (X7_s0 v z27_v_s) y27_2 r41 (fun z61_v_s =>
  wp_X7_of y27_2 23 (fun r71 =>
  vp_in r71 1472 ∧ wp_X7_comesUp_83 v x1 y27_2 z27_v_s B27 r53 0 (upd z61_v_s r71.toNatClampNeg ((z61_v_s r71.toNatClampNeg) - r53)) Q))))))))
def wp_X7_comesUp_27 (v : V_X7) (x1 : Int32)  (y27_2 : Int32) (z27_v_s : (Nat → Int32)) (Q : (Nat → Int32) → Prop) : Prop :=
  ∃ (I : Int32 → (Nat → Int32) → Prop) (μ : Int32 → (Nat → Int32) → Nat), I y27_2 z27_v_s ∧ ∀ (s0 : Int32) (s1 : (Nat → Int32)), I s0 s1 → wb_X7_comesUp_27 v x1  s0 s1 (fun t0 t1 => I t0 t1 ∧ μ t0 t1 < μ s0 s1) Q
def wp_X7_comesUp (v : V_X7) (x1 : Int32) (Q : (Nat → Int32) → Prop) : Prop :=
  vp_in (8 + x1) 1472 ∧ vp_in 4 1472 ∧ wp_X7_splits (X7_s0 v (upd (upd (X7_s v) (8 + x1).toNatClampNeg 1) (4 : Int32).toNatClampNeg (((upd (X7_s v) (8 + x1).toNatClampNeg 1) (4 : Int32).toNatClampNeg) + 1))) x1 (fun z22_v_s =>
  wp_X7_comesUp_27 v x1  0 z22_v_s Q)
def wp_X7_finishes_29 (v : V_X7) (x1 : Int32) (z29_v_s : (Nat → Int32)) (Q : (Nat → Int32) → Prop) : Prop :=
  wp_X7_beginsTrail (X7_s0 v z29_v_s) x1 (fun z31_v_s =>
  Q z31_v_s)
def wp_X7_finishes (v : V_X7) (x1 : Int32) (Q : (Nat → Int32) → Prop) : Prop :=
  wp_X7_of x1 0 (fun r6 =>
  vp_in r6 1472 ∧ wp_X7_inTrail v x1 ((X7_s v) r6.toNatClampNeg) 0 (fun r15 =>
  ((r15 ≤ 0 → wp_X7_finishes_29 v x1 (X7_s v)  Q) ∧
  (¬ r15 ≤ 0 → wp_X7_digs v x1 r15 (fun z26_v_s =>
  wp_X7_finishes_29 v x1 z26_v_s  Q)))))
def wb_X7_isCaught_63 (v : V_X7) (x1 : Int32)  (y63_2 : Int32) (z63_v_s : (Nat → Int32)) (B63 : Int32 → (Nat → Int32) → Prop) (Q : (Nat → Int32) → Prop) : Prop :=
  ((46 ≤ y63_2 → Q z63_v_s) ∧
  (¬ 46 ≤ y63_2 → vp_in 1 1472 ∧ wp_X7_of (z63_v_s (1 : Int32).toNatClampNeg) y63_2 (fun r80 =>
  vp_in r80 1472 ∧ B63 (y63_2 + 1) (upd z63_v_s r80.toNatClampNeg 0))))
def wp_X7_isCaught_63 (v : V_X7) (x1 : Int32)  (y63_2 : Int32) (z63_v_s : (Nat → Int32)) (Q : (Nat → Int32) → Prop) : Prop :=
  ∃ (I : Int32 → (Nat → Int32) → Prop) (μ : Int32 → (Nat → Int32) → Nat), I y63_2 z63_v_s ∧ ∀ (s0 : Int32) (s1 : (Nat → Int32)), I s0 s1 → wb_X7_isCaught_63 v x1  s0 s1 (fun t0 t1 => I t0 t1 ∧ μ t0 t1 < μ s0 s1) Q
def wb_X7_isCaught_26 (v : V_X7) (x1 : Int32)  (y26_2 : Int32) (z26_v_s : (Nat → Int32)) (B26 : Int32 → (Nat → Int32) → Prop) (Q : (Nat → Int32) → Prop) : Prop :=
  vp_in 1 1472 ∧ wp_X7_of (z26_v_s (1 : Int32).toNatClampNeg) 0 (fun r34 =>
  ((r34 ≤ y26_2 → wp_X7_isCaught_63 v x1  0 z26_v_s Q) ∧
  (¬ r34 ≤ y26_2 → vp_in (y26_2 + 46) 1472 ∧ vp_in y26_2 1472 ∧ B26 (y26_2 + 1) (upd z26_v_s y26_2.toNatClampNeg (z26_v_s (y26_2 + 46).toNatClampNeg)))))
def wp_X7_isCaught_26 (v : V_X7) (x1 : Int32)  (y26_2 : Int32) (z26_v_s : (Nat → Int32)) (Q : (Nat → Int32) → Prop) : Prop :=
  ∃ (I : Int32 → (Nat → Int32) → Prop) (μ : Int32 → (Nat → Int32) → Nat), I y26_2 z26_v_s ∧ ∀ (s0 : Int32) (s1 : (Nat → Int32)), I s0 s1 → wb_X7_isCaught_26 v x1  s0 s1 (fun t0 t1 => I t0 t1 ∧ μ t0 t1 < μ s0 s1) Q
def wp_X7_isCaught (v : V_X7) (x1 : Int32) (Q : (Nat → Int32) → Prop) : Prop :=
  vp_in 1 1472 ∧ vp_in 2 1472 ∧ wp_X7_of x1 0 (fun r22 =>
  wp_X7_isCaught_26 v x1  r22 (upd (upd (X7_s v) (1 : Int32).toNatClampNeg (((X7_s v) (1 : Int32).toNatClampNeg) - 1)) (2 : Int32).toNatClampNeg (((upd (X7_s v) (1 : Int32).toNatClampNeg (((X7_s v) (1 : Int32).toNatClampNeg) - 1)) (2 : Int32).toNatClampNeg) + 1)) Q)
def wp_X7_rowStep (x0 : Int32) (Q : Int32 → Prop) : Prop :=
  ((x0 = 0 → Q (-1)) ∧
  (¬ x0 = 0 → ((x0 = 2 → Q 1) ∧
  (¬ x0 = 2 → Q 0))))
def wp_X7_columnStep (x0 : Int32) (Q : Int32 → Prop) : Prop :=
  ((x0 = 3 → Q (-1)) ∧
  (¬ x0 = 3 → ((x0 = 1 → Q 1) ∧
  (¬ x0 = 1 → Q 0))))
def wb_X7_takesOff_16 (v : V_X7) (x1 : Int32)  (y16_2 : Int32) (z16_v_s : (Nat → Int32)) (B16 : Int32 → (Nat → Int32) → Prop) (Q : (Nat → Int32) → Prop) : Prop :=
  wp_X7_of x1 2 (fun r23 =>
  vp_in r23 1472 ∧ (((z16_v_s r23.toNatClampNeg) ≤ y16_2 → wp_X7_of x1 2 (fun r74 =>
  vp_in r74 1472 ∧ wp_X7_of x1 (3 + (z16_v_s r74.toNatClampNeg)) (fun r79 =>
  vp_in r79 1472 ∧ Q (upd z16_v_s r79.toNatClampNeg 0)))) ∧
  (¬ (z16_v_s r23.toNatClampNeg) ≤ y16_2 → wp_X7_of x1 (3 + y16_2) (fun r38 =>
  wp_X7_of x1 ((3 + y16_2) + 1) (fun r51 =>
  vp_in r51 1472 ∧ vp_in r38 1472 ∧ B16 (y16_2 + 1) (upd z16_v_s r38.toNatClampNeg (z16_v_s r51.toNatClampNeg)))))))
def wp_X7_takesOff_16 (v : V_X7) (x1 : Int32)  (y16_2 : Int32) (z16_v_s : (Nat → Int32)) (Q : (Nat → Int32) → Prop) : Prop :=
  ∃ (I : Int32 → (Nat → Int32) → Prop) (μ : Int32 → (Nat → Int32) → Nat), I y16_2 z16_v_s ∧ ∀ (s0 : Int32) (s1 : (Nat → Int32)), I s0 s1 → wb_X7_takesOff_16 v x1  s0 s1 (fun t0 t1 => I t0 t1 ∧ μ t0 t1 < μ s0 s1) Q
def wp_X7_takesOff (v : V_X7) (x1 : Int32) (Q : (Nat → Int32) → Prop) : Prop :=
  wp_X7_of x1 2 (fun r6 =>
  vp_in r6 1472 ∧ wp_X7_takesOff_16 v x1  0 (upd (X7_s v) r6.toNatClampNeg (((X7_s v) r6.toNatClampNeg) - 1)) Q)
def wp_X7_goes_88 (v : V_X7) (x1 : Int32) (x2 : Int32) (z88_v_s : (Nat → Int32)) (k88_0 : Int32) (Q : Int32 → (Nat → Int32) → Prop) : Prop :=
  vp_in (136 + x2) 1472 ∧ ((k88_0 = 0 → bz k88_0 ∧ Q k88_0 (upd z88_v_s (136 + x2).toNatClampNeg (-1))) ∧
  (¬ k88_0 = 0 → wp_X7_isCaught (X7_s0 v (upd z88_v_s (136 + x2).toNatClampNeg (-1))) x1 (fun z106_v_s =>
  bz k88_0 ∧ Q k88_0 z106_v_s)))
def wp_X7_goes (v : V_X7) (x1 : Int32) (x2 : Int32) (Q : Int32 → (Nat → Int32) → Prop) : Prop :=
  wp_X7_takesOff v x1 (fun z2_v_s =>
  wp_X7_of x1 0 (fun r11 =>
  vp_in r11 1472 ∧ wp_X7_of x1 23 (fun r30 =>
  vp_in r30 1472 ∧ wp_X7_of x1 (24 + ((upd z2_v_s r11.toNatClampNeg x2) r30.toNatClampNeg)) (fun r35 =>
  vp_in r35 1472 ∧ wp_X7_of x1 23 (fun r47 =>
  vp_in r47 1472 ∧ wp_X7_of x1 45 (fun r62 =>
  vp_in r62 1472 ∧ vp_in (136 + x2) 1472 ∧ ((((upd (upd (upd (upd z2_v_s r11.toNatClampNeg x2) r35.toNatClampNeg x2) r47.toNatClampNeg (((upd (upd z2_v_s r11.toNatClampNeg x2) r35.toNatClampNeg x2) r47.toNatClampNeg) + 1)) r62.toNatClampNeg (((upd (upd (upd z2_v_s r11.toNatClampNeg x2) r35.toNatClampNeg x2) r47.toNatClampNeg (((upd (upd z2_v_s r11.toNatClampNeg x2) r35.toNatClampNeg x2) r47.toNatClampNeg) + 1)) r62.toNatClampNeg) + 1)) (136 + x2).toNatClampNeg) = 0 → wp_X7_goes_88 v x1 x2 (upd (upd (upd (upd z2_v_s r11.toNatClampNeg x2) r35.toNatClampNeg x2) r47.toNatClampNeg (((upd (upd z2_v_s r11.toNatClampNeg x2) r35.toNatClampNeg x2) r47.toNatClampNeg) + 1)) r62.toNatClampNeg (((upd (upd (upd z2_v_s r11.toNatClampNeg x2) r35.toNatClampNeg x2) r47.toNatClampNeg (((upd (upd z2_v_s r11.toNatClampNeg x2) r35.toNatClampNeg x2) r47.toNatClampNeg) + 1)) r62.toNatClampNeg) + 1)) 1  Q) ∧
  (¬ ((upd (upd (upd (upd z2_v_s r11.toNatClampNeg x2) r35.toNatClampNeg x2) r47.toNatClampNeg (((upd (upd z2_v_s r11.toNatClampNeg x2) r35.toNatClampNeg x2) r47.toNatClampNeg) + 1)) r62.toNatClampNeg (((upd (upd (upd z2_v_s r11.toNatClampNeg x2) r35.toNatClampNeg x2) r47.toNatClampNeg (((upd (upd z2_v_s r11.toNatClampNeg x2) r35.toNatClampNeg x2) r47.toNatClampNeg) + 1)) r62.toNatClampNeg) + 1)) (136 + x2).toNatClampNeg) = 0 → wp_X7_goes_88 v x1 x2 (upd (upd (upd (upd z2_v_s r11.toNatClampNeg x2) r35.toNatClampNeg x2) r47.toNatClampNeg (((upd (upd z2_v_s r11.toNatClampNeg x2) r35.toNatClampNeg x2) r47.toNatClampNeg) + 1)) r62.toNatClampNeg (((upd (upd (upd z2_v_s r11.toNatClampNeg x2) r35.toNatClampNeg x2) r47.toNatClampNeg (((upd (upd z2_v_s r11.toNatClampNeg x2) r35.toNatClampNeg x2) r47.toNatClampNeg) + 1)) r62.toNatClampNeg) + 1)) 0  Q))))))))
def wp_X7_tries_134 (v : V_X7) (x1 : Int32) (x2 : Int32) (z134_v_s : (Nat → Int32)) (Q : Int32 → (Nat → Int32) → Prop) : Prop :=
  wp_X7_of x1 1 (fun r140 =>
  vp_in 6 1472 ∧ vp_in r140 1472 ∧ Q 0 (upd z134_v_s r140.toNatClampNeg (z134_v_s (6 : Int32).toNatClampNeg)))
def wp_X7_tries_106 (v : V_X7) (x1 : Int32) (x2 : Int32) (y106_4 : Int32) (z106_v_s : (Nat → Int32)) (Q : Int32 → (Nat → Int32) → Prop) : Prop :=
  wp_X7_of x1 1 (fun r112 =>
  vp_in r112 1472 ∧ (((z106_v_s r112.toNatClampNeg) = 0 → wp_X7_hasMound (X7_s0 v z106_v_s) y106_4 (fun r122 =>
  ((r122 = 0 → wp_X7_comesUp (X7_s0 v z106_v_s) y106_4 (fun z131_v_s =>
  wp_X7_tries_134 v x1 x2 z131_v_s  Q)) ∧
  (¬ r122 = 0 → wp_X7_tries_134 v x1 x2 z106_v_s  Q)))) ∧
  (¬ (z106_v_s r112.toNatClampNeg) = 0 → Q 0 z106_v_s)))
def wp_X7_tries_73 (v : V_X7) (x1 : Int32) (x2 : Int32) (y73_3 : Int32) (z73_v_s : (Nat → Int32)) (Q : Int32 → (Nat → Int32) → Prop) : Prop :=
  wp_X7_of x1 0 (fun r79 =>
  vp_in r79 1472 ∧ ((y73_3 = 0 → wp_X7_hasMound (X7_s0 v z73_v_s) (z73_v_s r79.toNatClampNeg) (fun r92 =>
  ((r92 = 0 → wp_X7_tries_106 v x1 x2 (z73_v_s r79.toNatClampNeg) z73_v_s  Q) ∧
  (¬ r92 = 0 → wp_X7_finishes (X7_s0 v z73_v_s) x1 (fun z100_v_s =>
  Q 0 z100_v_s))))) ∧
  (¬ y73_3 = 0 → wp_X7_tries_106 v x1 x2 (z73_v_s r79.toNatClampNeg) z73_v_s  Q)))
def wp_X7_tries_31 (v : V_X7) (x1 : Int32) (x2 : Int32) (z31_v_s : (Nat → Int32)) (k31_0 : Int32) (Q : Int32 → (Nat → Int32) → Prop) : Prop :=
  ((k31_0 = 0 → wp_X7_goes (X7_s0 v z31_v_s) x1 x2 (fun r65 z65_v_s =>
  ((r65 = 0 → wp_X7_tries_73 v x1 x2 k31_0 z65_v_s  Q) ∧
  (¬ r65 = 0 → Q 1 z65_v_s)))) ∧
  (¬ k31_0 = 0 → vp_in (72 + x2) 1472 ∧ vp_in 3 1472 ∧ wp_X7_tries_73 v x1 x2 k31_0 (upd (upd z31_v_s (72 + x2).toNatClampNeg ((z31_v_s (72 + x2).toNatClampNeg) - 1)) (3 : Int32).toNatClampNeg (((upd z31_v_s (72 + x2).toNatClampNeg ((z31_v_s (72 + x2).toNatClampNeg) - 1)) (3 : Int32).toNatClampNeg) + 1))  Q))
def wp_X7_tries (v : V_X7) (x1 : Int32) (x2 : Int32) (Q : Int32 → (Nat → Int32) → Prop) : Prop :=
  wp_X7_of x1 1 (fun r6 =>
  vp_in r6 1472 ∧ vp_in (72 + x2) 1472 ∧ ((((upd (X7_s v) r6.toNatClampNeg (((X7_s v) r6.toNatClampNeg) - 1)) (72 + x2).toNatClampNeg) ≤ 0 → wp_X7_tries_31 v x1 x2 (upd (X7_s v) r6.toNatClampNeg (((X7_s v) r6.toNatClampNeg) - 1)) 0  Q) ∧
  (¬ ((upd (X7_s v) r6.toNatClampNeg (((X7_s v) r6.toNatClampNeg) - 1)) (72 + x2).toNatClampNeg) ≤ 0 → wp_X7_tries_31 v x1 x2 (upd (X7_s v) r6.toNatClampNeg (((X7_s v) r6.toNatClampNeg) - 1)) 1  Q)))
def wp_X7_acts_86 (v : V_X7) (x1 : Int32)  (Q : Int32 → (Nat → Int32) → Prop) : Prop :=
  wp_X7_takesOff v x1 (fun z88_v_s =>
  Q 0 z88_v_s)
def wp_X7_acts (v : V_X7) (x1 : Int32) (Q : Int32 → (Nat → Int32) → Prop) : Prop :=
  wp_X7_of x1 2 (fun r6 =>
  vp_in r6 1472 ∧ ((((X7_s v) r6.toNatClampNeg) = 0 → Q 0 (X7_s v)) ∧
  (¬ ((X7_s v) r6.toNatClampNeg) = 0 → wp_X7_of x1 3 (fun r21 =>
  vp_in r21 1472 ∧ wp_X7_of x1 0 (fun r32 =>
  vp_in r32 1472 ∧ wp_X7_rowStep ((X7_s v) r21.toNatClampNeg) (fun r40 =>
  wp_X7_of x1 0 (fun r51 =>
  vp_in r51 1472 ∧ wp_X7_columnStep ((X7_s v) r21.toNatClampNeg) (fun r59 =>
  wp_X7_in ((((X7_s v) r32.toNatClampNeg) / 8) + r40) 0 7 (fun r69 =>
  ((r69 = 0 → wp_X7_acts_86 v x1   Q) ∧
  (¬ r69 = 0 → wp_X7_in ((((X7_s v) r51.toNatClampNeg) - ((X7_s v) r51.toNatClampNeg) / 8 * 8) + r59) 0 7 (fun r80 =>
  ((r80 = 0 → wp_X7_acts_86 v x1   Q) ∧
  (¬ r80 = 0 → wp_X7_tries v x1 ((8 * ((((X7_s v) r32.toNatClampNeg) / 8) + r40)) + ((((X7_s v) r51.toNatClampNeg) - ((X7_s v) r51.toNatClampNeg) / 8 * 8) + r59)) (fun r102 z102_v_s =>
  bz r102 ∧ Q r102 z102_v_s)))))))))))))))
def wb_X7_beat_47 (v : V_X7)  (y47_1 : Int32) (z47_v_s : (Nat → Int32)) (B47 : Int32 → (Nat → Int32) → Prop) (Q : (Nat → Int32) → Prop) : Prop :=
  vp_in 1 1472 ∧ (((z47_v_s (1 : Int32).toNatClampNeg) ≤ y47_1 → vp_in 0 1472 ∧ Q (upd z47_v_s (0 : Int32).toNatClampNeg ((z47_v_s (0 : Int32).toNatClampNeg) + 1))) ∧
  (¬ (z47_v_s (1 : Int32).toNatClampNeg) ≤ y47_1 → wp_X7_acts (X7_s0 v z47_v_s) y47_1 (fun r60 z60_v_s =>
  ((r60 = 0 → B47 (y47_1 + 1) z60_v_s) ∧
  (¬ r60 = 0 → B47 (y47_1 + 0) z60_v_s)))))
def wp_X7_beat_47 (v : V_X7)  (y47_1 : Int32) (z47_v_s : (Nat → Int32)) (Q : (Nat → Int32) → Prop) : Prop :=
  ∃ (I : Int32 → (Nat → Int32) → Prop) (μ : Int32 → (Nat → Int32) → Nat), I y47_1 z47_v_s ∧ ∀ (s0 : Int32) (s1 : (Nat → Int32)), I s0 s1 → wb_X7_beat_47 v  s0 s1 (fun t0 t1 => I t0 t1 ∧ μ t0 t1 < μ s0 s1) Q
def wb_X7_beat_2 (v : V_X7)  (y2_1 : Int32) (z2_v_s : (Nat → Int32)) (B2 : Int32 → (Nat → Int32) → Prop) (Q : (Nat → Int32) → Prop) : Prop :=
  ((64 ≤ y2_1 → wp_X7_beat_47 v  0 z2_v_s Q) ∧
  (¬ 64 ≤ y2_1 → vp_in (136 + y2_1) 1472 ∧ (((z2_v_s (136 + y2_1).toNatClampNeg) ≤ 0 → B2 (y2_1 + 1) (upd z2_v_s (136 + y2_1).toNatClampNeg ((z2_v_s (136 + y2_1).toNatClampNeg) - 0))) ∧
  (¬ (z2_v_s (136 + y2_1).toNatClampNeg) ≤ 0 → B2 (y2_1 + 1) (upd z2_v_s (136 + y2_1).toNatClampNeg ((z2_v_s (136 + y2_1).toNatClampNeg) - 1))))))
def wp_X7_beat_2 (v : V_X7)  (y2_1 : Int32) (z2_v_s : (Nat → Int32)) (Q : (Nat → Int32) → Prop) : Prop :=
  ∃ (I : Int32 → (Nat → Int32) → Prop) (μ : Int32 → (Nat → Int32) → Nat), I y2_1 z2_v_s ∧ ∀ (s0 : Int32) (s1 : (Nat → Int32)), I s0 s1 → wb_X7_beat_2 v  s0 s1 (fun t0 t1 => I t0 t1 ∧ μ t0 t1 < μ s0 s1) Q
def wp_X7_beat (v : V_X7) (Q : (Nat → Int32) → Prop) : Prop :=
  wp_X7_beat_2 v  0 (X7_s v) Q
def wb_X7_beats_9 (v : V_X7) (x1 : Int32) (y9_2 : Int32) (y9_3 : Int32) (z9_v_s : (Nat → Int32)) (B9 : Int32 → (Nat → Int32) → Prop) (Q : Int32 → (Nat → Int32) → Prop) : Prop :=
  ((x1 ≤ y9_3 → vp_in 4 1472 ∧ Q ((z9_v_s (4 : Int32).toNatClampNeg) - y9_2) z9_v_s) ∧
  (¬ x1 ≤ y9_3 → wp_X7_beat (X7_s0 v z9_v_s) (fun z15_v_s =>
  B9 (y9_3 + 1) z15_v_s)))
def wp_X7_beats_9 (v : V_X7) (x1 : Int32) (y9_2 : Int32) (y9_3 : Int32) (z9_v_s : (Nat → Int32)) (Q : Int32 → (Nat → Int32) → Prop) : Prop :=
  ∃ (I : Int32 → (Nat → Int32) → Prop) (μ : Int32 → (Nat → Int32) → Nat), I y9_3 z9_v_s ∧ ∀ (s0 : Int32) (s1 : (Nat → Int32)), I s0 s1 → wb_X7_beats_9 v x1 y9_2 s0 s1 (fun t0 t1 => I t0 t1 ∧ μ t0 t1 < μ s0 s1) Q
def wp_X7_beats (v : V_X7) (x1 : Int32) (Q : Int32 → (Nat → Int32) → Prop) : Prop :=
  vp_in 4 1472 ∧ wp_X7_beats_9 v x1 ((X7_s v) (4 : Int32).toNatClampNeg) 0 (X7_s v) Q
def wp_X7_lays (v : V_X7) (x1 : Int32) (x2 : Int32) (Q : Int32 → (Nat → Int32) → (Nat → Int32) → Int32 → Prop) : Prop :=
  wp_X7_save v (fun z1_v_saved z1_v_savedMany =>
  vp_in x1 1472 ∧ Q ((X7_s v) x1.toNatClampNeg) (upd (X7_s v) x1.toNatClampNeg x2) z1_v_saved z1_v_savedMany)
def wp_X7_mole_64 (v : V_X7) (x1 : Int32) (z64_v_s : (Nat → Int32)) (z64_v_saved : (Nat → Int32)) (z64_v_savedMany : Int32) (z64_v_thrown : Int32) (Q : Int32 → (Nat → Int32) → (Nat → Int32) → Int32 → Int32 → Prop) : Prop :=
  vp_in 1 1472 ∧ wp_X7_of (z64_v_s (1 : Int32).toNatClampNeg) 0 (fun r87 =>
  vp_in r87 1472 ∧ wp_X7_beginsTrail ((upd (upd z64_v_s (1 : Int32).toNatClampNeg ((z64_v_s (1 : Int32).toNatClampNeg) + 1)) r87.toNatClampNeg x1), (X7_aside v), (X7_kept v), (X7_isKept v), z64_v_saved, z64_v_savedMany, (X7_text v), (X7_length v), z64_v_thrown, (X7_joint v), (X7_position v), (X7_isWrong v), (X7_isHollow v), (X7_sure v), (X7_away v), (X7_digested v)) (z64_v_s (1 : Int32).toNatClampNeg) (fun z94_v_s =>
  Q (z64_v_s (1 : Int32).toNatClampNeg) z94_v_s z64_v_saved z64_v_savedMany z64_v_thrown))
def wp_X7_mole_39 (v : V_X7) (x1 : Int32) (k39_0 : Int32) (Q : Int32 → (Nat → Int32) → (Nat → Int32) → Int32 → Int32 → Prop) : Prop :=
  wp_X7_holds v k39_0 (fun r39 z39_v_thrown =>
  ((r39 = 0 → Q 0 (X7_s v) (X7_saved v) (X7_savedMany v) z39_v_thrown) ∧
  (¬ r39 = 0 → wp_X7_save (X7_s8 v z39_v_thrown) (fun z48_v_saved z48_v_savedMany =>
  wp_X7_hasMound ((X7_s v), (X7_aside v), (X7_kept v), (X7_isKept v), z48_v_saved, z48_v_savedMany, (X7_text v), (X7_length v), z39_v_thrown, (X7_joint v), (X7_position v), (X7_isWrong v), (X7_isHollow v), (X7_sure v), (X7_away v), (X7_digested v)) x1 (fun r53 =>
  ((r53 = 0 → wp_X7_comesUp ((X7_s v), (X7_aside v), (X7_kept v), (X7_isKept v), z48_v_saved, z48_v_savedMany, (X7_text v), (X7_length v), z39_v_thrown, (X7_joint v), (X7_position v), (X7_isWrong v), (X7_isHollow v), (X7_sure v), (X7_away v), (X7_digested v)) x1 (fun z61_v_s =>
  wp_X7_mole_64 v x1 z61_v_s z48_v_saved z48_v_savedMany z39_v_thrown  Q)) ∧
  (¬ r53 = 0 → wp_X7_mole_64 v x1 (X7_s v) z48_v_saved z48_v_savedMany z39_v_thrown  Q)))))))
def wp_X7_mole_34 (v : V_X7) (x1 : Int32)  (Q : Int32 → (Nat → Int32) → (Nat → Int32) → Int32 → Int32 → Prop) : Prop :=
  wp_X7_mole_39 v x1 2  Q
def wp_X7_mole (v : V_X7) (x1 : Int32) (Q : Int32 → (Nat → Int32) → (Nat → Int32) → Int32 → Int32 → Prop) : Prop :=
  wp_X7_isTuft x1 (fun r2 =>
  ((r2 = 0 → wp_X7_mole_39 v x1 1  Q) ∧
  (¬ r2 = 0 → vp_in 1 1472 ∧ ((((X7_s v) (1 : Int32).toNatClampNeg) = 4 → wp_X7_mole_34 v x1   Q) ∧
  (¬ ((X7_s v) (1 : Int32).toNatClampNeg) = 4 → vp_in (72 + x1) 1472 ∧ ((((X7_s v) (72 + x1).toNatClampNeg) ≤ 0 → wp_X7_mole_39 v x1 0  Q) ∧
  (¬ ((X7_s v) (72 + x1).toNatClampNeg) ≤ 0 → wp_X7_mole_34 v x1   Q)))))))
def wp_X7_putsPlan_28 (v : V_X7) (x1 : Int32) (x2 : Int32) (k28_0 : Int32) (Q : Int32 → (Nat → Int32) → Prop) : Prop :=
  ((k28_0 = 0 → bz k28_0 ∧ Q k28_0 (X7_s v)) ∧
  (¬ k28_0 = 0 → wp_X7_of x1 2 (fun r45 =>
  vp_in r45 1472 ∧ wp_X7_of x1 (3 + ((X7_s v) r45.toNatClampNeg)) (fun r50 =>
  vp_in r50 1472 ∧ wp_X7_of x1 2 (fun r61 =>
  vp_in r61 1472 ∧ bz k28_0 ∧ Q k28_0 (upd (upd (X7_s v) r50.toNatClampNeg x2) r61.toNatClampNeg (((upd (X7_s v) r50.toNatClampNeg x2) r61.toNatClampNeg) + 1)))))))
def wp_X7_putsPlan_27 (v : V_X7) (x1 : Int32) (x2 : Int32)  (Q : Int32 → (Nat → Int32) → Prop) : Prop :=
  wp_X7_putsPlan_28 v x1 x2 0  Q
def wp_X7_putsPlan (v : V_X7) (x1 : Int32) (x2 : Int32) (Q : Int32 → (Nat → Int32) → Prop) : Prop :=
  wp_X7_isMole v x1 (fun r2 =>
  ((r2 = 0 → wp_X7_putsPlan_27 v x1 x2   Q) ∧
  (¬ r2 = 0 → wp_X7_of x1 2 (fun r14 =>
  vp_in r14 1472 ∧ ((20 ≤ ((X7_s v) r14.toNatClampNeg) → wp_X7_putsPlan_27 v x1 x2   Q) ∧
  (¬ 20 ≤ ((X7_s v) r14.toNatClampNeg) → wp_X7_putsPlan_28 v x1 x2 1  Q))))))
def wp_X7_plan_46 (v : V_X7) (x1 : Int32) (x2 : Int32) (k46_0 : Int32) (Q : Int32 → (Nat → Int32) → (Nat → Int32) → Int32 → Int32 → Prop) : Prop :=
  wp_X7_holds v k46_0 (fun r46 z46_v_thrown =>
  ((r46 = 0 → Q 0 (X7_s v) (X7_saved v) (X7_savedMany v) z46_v_thrown) ∧
  (¬ r46 = 0 → wp_X7_save (X7_s8 v z46_v_thrown) (fun z55_v_saved z55_v_savedMany =>
  wp_X7_putsPlan ((X7_s v), (X7_aside v), (X7_kept v), (X7_isKept v), z55_v_saved, z55_v_savedMany, (X7_text v), (X7_length v), z46_v_thrown, (X7_joint v), (X7_position v), (X7_isWrong v), (X7_isHollow v), (X7_sure v), (X7_away v), (X7_digested v)) x1 x2 (fun r61 z61_v_s =>
  wp_X7_of x1 2 (fun r71 =>
  vp_in r71 1472 ∧ Q (z61_v_s r71.toNatClampNeg) z61_v_s z55_v_saved z55_v_savedMany z46_v_thrown))))))
def wp_X7_plan (v : V_X7) (x1 : Int32) (x2 : Int32) (Q : Int32 → (Nat → Int32) → (Nat → Int32) → Int32 → Int32 → Prop) : Prop :=
  wp_X7_isMole v x1 (fun r3 =>
  ((r3 = 0 → wp_X7_plan_46 v x1 x2 1  Q) ∧
  (¬ r3 = 0 → wp_X7_in x2 0 3 (fun r16 =>
  ((r16 = 0 → wp_X7_plan_46 v x1 x2 2  Q) ∧
  (¬ r16 = 0 → wp_X7_of x1 2 (fun r32 =>
  vp_in r32 1472 ∧ ((((X7_s v) r32.toNatClampNeg) = 20 → wp_X7_plan_46 v x1 x2 3  Q) ∧
  (¬ ((X7_s v) r32.toNatClampNeg) = 20 → wp_X7_plan_46 v x1 x2 0  Q)))))))))
def wb_X7_rest_39 (v : V_X7) (x1 : Int32) (y39_2 : Int32) (z39_v_saved : (Nat → Int32)) (z39_v_savedMany : Int32) (z39_v_thrown : Int32) (y39_3 : Int32) (z39_v_s : (Nat → Int32)) (B39 : Int32 → (Nat → Int32) → Prop) (Q : Int32 → (Nat → Int32) → (Nat → Int32) → Int32 → Int32 → Prop) : Prop :=
  ((y39_2 ≤ y39_3 → Q y39_2 z39_v_s z39_v_saved z39_v_savedMany z39_v_thrown) ∧
  (¬ y39_2 ≤ y39_3 → wp_X7_takesOff (z39_v_s, (X7_aside v), (X7_kept v), (X7_isKept v), z39_v_saved, z39_v_savedMany, (X7_text v), (X7_length v), z39_v_thrown, (X7_joint v), (X7_position v), (X7_isWrong v), (X7_isHollow v), (X7_sure v), (X7_away v), (X7_digested v)) x1 (fun z46_v_s =>
  B39 (y39_3 + 1) z46_v_s)))
def wp_X7_rest_39 (v : V_X7) (x1 : Int32) (y39_2 : Int32) (z39_v_saved : (Nat → Int32)) (z39_v_savedMany : Int32) (z39_v_thrown : Int32) (y39_3 : Int32) (z39_v_s : (Nat → Int32)) (Q : Int32 → (Nat → Int32) → (Nat → Int32) → Int32 → Int32 → Prop) : Prop :=
  ∃ (I : Int32 → (Nat → Int32) → Prop) (μ : Int32 → (Nat → Int32) → Nat), I y39_3 z39_v_s ∧ ∀ (s0 : Int32) (s1 : (Nat → Int32)), I s0 s1 → wb_X7_rest_39 v x1 y39_2 z39_v_saved z39_v_savedMany z39_v_thrown s0 s1 (fun t0 t1 => I t0 t1 ∧ μ t0 t1 < μ s0 s1) Q
def wp_X7_rest_14 (v : V_X7) (x1 : Int32) (k14_0 : Int32) (Q : Int32 → (Nat → Int32) → (Nat → Int32) → Int32 → Int32 → Prop) : Prop :=
  wp_X7_holds v k14_0 (fun r14 z14_v_thrown =>
  ((r14 = 0 → Q 0 (X7_s v) (X7_saved v) (X7_savedMany v) z14_v_thrown) ∧
  (¬ r14 = 0 → wp_X7_save (X7_s8 v z14_v_thrown) (fun z23_v_saved z23_v_savedMany =>
  wp_X7_of x1 2 (fun r32 =>
  vp_in r32 1472 ∧ wp_X7_rest_39 v x1 ((X7_s v) r32.toNatClampNeg) z23_v_saved z23_v_savedMany z14_v_thrown 0 (X7_s v) Q)))))
def wp_X7_rest (v : V_X7) (x1 : Int32) (Q : Int32 → (Nat → Int32) → (Nat → Int32) → Int32 → Int32 → Prop) : Prop :=
  wp_X7_isMole v x1 (fun r3 =>
  ((r3 = 0 → wp_X7_rest_14 v x1 1  Q) ∧
  (¬ r3 = 0 → wp_X7_rest_14 v x1 0  Q)))
def wp_X7_pass_16 (v : V_X7) (x1 : Int32) (k16_0 : Int32) (Q : Int32 → (Nat → Int32) → (Nat → Int32) → Int32 → Int32 → Prop) : Prop :=
  wp_X7_holds v k16_0 (fun r16 z16_v_thrown =>
  ((r16 = 0 → Q 0 (X7_s v) (X7_saved v) (X7_savedMany v) z16_v_thrown) ∧
  (¬ r16 = 0 → wp_X7_save (X7_s8 v z16_v_thrown) (fun z25_v_saved z25_v_savedMany =>
  wp_X7_beats ((X7_s v), (X7_aside v), (X7_kept v), (X7_isKept v), z25_v_saved, z25_v_savedMany, (X7_text v), (X7_length v), z16_v_thrown, (X7_joint v), (X7_position v), (X7_isWrong v), (X7_isHollow v), (X7_sure v), (X7_away v), (X7_digested v)) x1 (fun r30 z30_v_s =>
  Q r30 z30_v_s z25_v_saved z25_v_savedMany z16_v_thrown)))))
def wp_X7_pass (v : V_X7) (x1 : Int32) (Q : Int32 → (Nat → Int32) → (Nat → Int32) → Int32 → Int32 → Prop) : Prop :=
  wp_X7_in x1 1 30 (fun r5 =>
  ((r5 = 0 → wp_X7_pass_16 v x1 1  Q) ∧
  (¬ r5 = 0 → wp_X7_pass_16 v x1 0  Q)))
def wp_X7_root_27 (v : V_X7) (x1 : Int32) (x2 : Int32) (k27_0 : Int32) (Q : Int32 → (Nat → Int32) → (Nat → Int32) → Int32 → Int32 → Prop) : Prop :=
  wp_X7_holds v k27_0 (fun r27 z27_v_thrown =>
  ((r27 = 0 → Q 0 (X7_s v) (X7_saved v) (X7_savedMany v) z27_v_thrown) ∧
  (¬ r27 = 0 → wp_X7_lays (X7_s8 v z27_v_thrown) (72 + x1) x2 (fun r39 z39_v_s z39_v_saved z39_v_savedMany =>
  Q r39 z39_v_s z39_v_saved z39_v_savedMany z27_v_thrown))))
def wp_X7_root (v : V_X7) (x1 : Int32) (x2 : Int32) (Q : Int32 → (Nat → Int32) → (Nat → Int32) → Int32 → Int32 → Prop) : Prop :=
  wp_X7_isTuft x1 (fun r2 =>
  ((r2 = 0 → wp_X7_root_27 v x1 x2 1  Q) ∧
  (¬ r2 = 0 → wp_X7_in x2 0 9 (fun r16 =>
  ((r16 = 0 → wp_X7_root_27 v x1 x2 2  Q) ∧
  (¬ r16 = 0 → wp_X7_root_27 v x1 x2 0  Q))))))
def wb_X7_traps_4 (v : V_X7)  (y4_1 : Int32) (y4_2 : Int32) (B4 : Int32 → Int32 → Prop) (Q : Int32 → Prop) : Prop :=
  ((64 ≤ y4_2 → Q y4_1) ∧
  (¬ 64 ≤ y4_2 → vp_in (136 + y4_2) 1472 ∧ ((((X7_s v) (136 + y4_2).toNatClampNeg) = (-1) → B4 (y4_1 + 0) (y4_2 + 1)) ∧
  (¬ ((X7_s v) (136 + y4_2).toNatClampNeg) = (-1) → B4 (y4_1 + 1) (y4_2 + 1)))))
def wp_X7_traps_4 (v : V_X7)  (y4_1 : Int32) (y4_2 : Int32) (Q : Int32 → Prop) : Prop :=
  ∃ (I : Int32 → Int32 → Prop) (μ : Int32 → Int32 → Nat), I y4_1 y4_2 ∧ ∀ (s0 : Int32) (s1 : Int32), I s0 s1 → wb_X7_traps_4 v  s0 s1 (fun t0 t1 => I t0 t1 ∧ μ t0 t1 < μ s0 s1) Q
def wp_X7_traps (v : V_X7) (Q : Int32 → Prop) : Prop :=
  wp_X7_traps_4 v  0 0 Q
def wp_X7_trap_45 (v : V_X7) (x1 : Int32) (x2 : Int32) (k45_0 : Int32) (Q : Int32 → (Nat → Int32) → (Nat → Int32) → Int32 → Int32 → Prop) : Prop :=
  wp_X7_holds v k45_0 (fun r45 z45_v_thrown =>
  ((r45 = 0 → Q 0 (X7_s v) (X7_saved v) (X7_savedMany v) z45_v_thrown) ∧
  (¬ r45 = 0 → wp_X7_lays (X7_s8 v z45_v_thrown) (136 + x1) x2 (fun r60 z60_v_s z60_v_saved z60_v_savedMany =>
  wp_X7_traps (z60_v_s, (X7_aside v), (X7_kept v), (X7_isKept v), z60_v_saved, z60_v_savedMany, (X7_text v), (X7_length v), z45_v_thrown, (X7_joint v), (X7_position v), (X7_isWrong v), (X7_isHollow v), (X7_sure v), (X7_away v), (X7_digested v)) (fun r65 =>
  Q r65 z60_v_s z60_v_saved z60_v_savedMany z45_v_thrown)))))
def wp_X7_trap (v : V_X7) (x1 : Int32) (x2 : Int32) (Q : Int32 → (Nat → Int32) → (Nat → Int32) → Int32 → Int32 → Prop) : Prop :=
  wp_X7_isTuft x1 (fun r2 =>
  ((r2 = 0 → wp_X7_trap_45 v x1 x2 1  Q) ∧
  (¬ r2 = 0 → wp_X7_in x2 0 20 (fun r16 =>
  ((r16 = 0 → wp_X7_trap_45 v x1 x2 2  Q) ∧
  (¬ r16 = 0 → vp_in (136 + x1) 1472 ∧ ((((X7_s v) (136 + x1).toNatClampNeg) = (-1) → wp_X7_trap_45 v x1 x2 0  Q) ∧
  (¬ ((X7_s v) (136 + x1).toNatClampNeg) = (-1) → wp_X7_trap_45 v x1 x2 3  Q))))))))
def wp_X7_dug_215 (v : V_X7) (x1 : Int32) (y156_2 : Int32) (y156_4 : Int32) (z156_v_s : (Nat → Int32)) (B156 : Int32 → (Nat → Int32) → Prop) (z215_v_s : (Nat → Int32)) (Q : Int32 → (Nat → Int32) → Prop) : Prop :=
  wp_X7_beginsTrail (X7_s0 v z215_v_s) y156_4 (fun z218_v_s =>
  B156 (y156_4 + 1) z218_v_s)
def wb_X7_dug_156 (v : V_X7) (x1 : Int32) (y156_2 : Int32) (y156_4 : Int32) (z156_v_s : (Nat → Int32)) (B156 : Int32 → (Nat → Int32) → Prop) (Q : Int32 → (Nat → Int32) → Prop) : Prop :=
  vp_in 1 1472 ∧ (((z156_v_s (1 : Int32).toNatClampNeg) ≤ y156_4 → vp_in 2 1472 ∧ Q ((z156_v_s (2 : Int32).toNatClampNeg) - y156_2) z156_v_s) ∧
  (¬ (z156_v_s (1 : Int32).toNatClampNeg) ≤ y156_4 → wp_X7_of y156_4 23 (fun r175 =>
  vp_in r175 1472 ∧ (((z156_v_s r175.toNatClampNeg) = 0 → wp_X7_of y156_4 0 (fun r190 =>
  vp_in r190 1472 ∧ wp_X7_hasMound (X7_s0 v z156_v_s) (z156_v_s r190.toNatClampNeg) (fun r194 =>
  ((r194 = 0 → wp_X7_of y156_4 0 (fun r208 =>
  vp_in r208 1472 ∧ wp_X7_comesUp (X7_s0 v z156_v_s) (z156_v_s r208.toNatClampNeg) (fun z212_v_s =>
  wp_X7_dug_215 v x1 y156_2 y156_4 z156_v_s B156 z212_v_s  Q))) ∧
  (¬ r194 = 0 → wp_X7_dug_215 v x1 y156_2 y156_4 z156_v_s B156 z156_v_s  Q))))) ∧
  (¬ (z156_v_s r175.toNatClampNeg) = 0 → B156 (y156_4 + 1) z156_v_s)))))
def wp_X7_dug_156 (v : V_X7) (x1 : Int32) (y156_2 : Int32) (y156_4 : Int32) (z156_v_s : (Nat → Int32)) (Q : Int32 → (Nat → Int32) → Prop) : Prop :=
  ∃ (I : Int32 → (Nat → Int32) → Prop) (μ : Int32 → (Nat → Int32) → Nat), I y156_4 z156_v_s ∧ ∀ (s0 : Int32) (s1 : (Nat → Int32)), I s0 s1 → wb_X7_dug_156 v x1 y156_2 s0 s1 (fun t0 t1 => I t0 t1 ∧ μ t0 t1 < μ s0 s1) Q
def wb_X7_dug_96 (v : V_X7) (x1 : Int32) (y96_2 : Int32) (y96_4 : Int32) (z96_v_s : (Nat → Int32)) (B96 : Int32 → (Nat → Int32) → Prop) (Q : Int32 → (Nat → Int32) → Prop) : Prop :=
  vp_in 1 1472 ∧ (((z96_v_s (1 : Int32).toNatClampNeg) ≤ y96_4 → wp_X7_dug_156 v x1 y96_2 0 z96_v_s Q) ∧
  (¬ (z96_v_s (1 : Int32).toNatClampNeg) ≤ y96_4 → wp_X7_of y96_4 23 (fun r115 =>
  wp_X7_inTrail (X7_s0 v z96_v_s) y96_4 x1 0 (fun r123 =>
  ((r123 = (-1) → wp_X7_of y96_4 23 (fun r138 =>
  vp_in r138 1472 ∧ vp_in r115 1472 ∧ B96 (y96_4 + 1) (upd z96_v_s r115.toNatClampNeg (z96_v_s r138.toNatClampNeg)))) ∧
  (¬ r123 = (-1) → vp_in r115 1472 ∧ B96 (y96_4 + 1) (upd z96_v_s r115.toNatClampNeg 0)))))))
def wp_X7_dug_96 (v : V_X7) (x1 : Int32) (y96_2 : Int32) (y96_4 : Int32) (z96_v_s : (Nat → Int32)) (Q : Int32 → (Nat → Int32) → Prop) : Prop :=
  ∃ (I : Int32 → (Nat → Int32) → Prop) (μ : Int32 → (Nat → Int32) → Nat), I y96_4 z96_v_s ∧ ∀ (s0 : Int32) (s1 : (Nat → Int32)), I s0 s1 → wb_X7_dug_96 v x1 y96_2 s0 s1 (fun t0 t1 => I t0 t1 ∧ μ t0 t1 < μ s0 s1) Q
def wb_X7_dug_48 (v : V_X7) (x1 : Int32) (y48_2 : Int32) (y48_3 : Int32) (z48_v_s : (Nat → Int32)) (B48 : Int32 → (Nat → Int32) → Prop) (Q : Int32 → (Nat → Int32) → Prop) : Prop :=
  ((y48_3 < 0 → vp_in (8 + x1) 1472 ∧ wp_X7_fallsIn (X7_s0 v (upd z48_v_s (8 + x1).toNatClampNeg 0)) x1 (fun r89 z89_v_s =>
  wp_X7_dug_96 v x1 y48_2 0 z89_v_s Q)) ∧
  (¬ y48_3 < 0 → wp_X7_of y48_3 0 (fun r58 =>
  vp_in r58 1472 ∧ (((z48_v_s r58.toNatClampNeg) = x1 → wp_X7_isCaught (X7_s0 v z48_v_s) y48_3 (fun z68_v_s =>
  B48 (y48_3 + (-1)) z68_v_s)) ∧
  (¬ (z48_v_s r58.toNatClampNeg) = x1 → B48 (y48_3 + (-1)) z48_v_s)))))
def wp_X7_dug_48 (v : V_X7) (x1 : Int32) (y48_2 : Int32) (y48_3 : Int32) (z48_v_s : (Nat → Int32)) (Q : Int32 → (Nat → Int32) → Prop) : Prop :=
  ∃ (I : Int32 → (Nat → Int32) → Prop) (μ : Int32 → (Nat → Int32) → Nat), I y48_3 z48_v_s ∧ ∀ (s0 : Int32) (s1 : (Nat → Int32)), I s0 s1 → wb_X7_dug_48 v x1 y48_2 s0 s1 (fun t0 t1 => I t0 t1 ∧ μ t0 t1 < μ s0 s1) Q
def wp_X7_dug (v : V_X7) (x1 : Int32) (Q : Int32 → (Nat → Int32) → Prop) : Prop :=
  vp_in (200 + x1) 1472 ∧ vp_in (72 + x1) 1472 ∧ vp_in (136 + x1) 1472 ∧ vp_in 2 1472 ∧ vp_in 1 1472 ∧ wp_X7_dug_48 v x1 ((upd (upd (upd (X7_s v) (200 + x1).toNatClampNeg 1) (72 + x1).toNatClampNeg 0) (136 + x1).toNatClampNeg (-1)) (2 : Int32).toNatClampNeg) (((upd (upd (upd (X7_s v) (200 + x1).toNatClampNeg 1) (72 + x1).toNatClampNeg 0) (136 + x1).toNatClampNeg (-1)) (1 : Int32).toNatClampNeg) - 1) (upd (upd (upd (X7_s v) (200 + x1).toNatClampNeg 1) (72 + x1).toNatClampNeg 0) (136 + x1).toNatClampNeg (-1)) Q
def wp_X7_dig_13 (v : V_X7) (x1 : Int32) (k13_0 : Int32) (Q : Int32 → (Nat → Int32) → (Nat → Int32) → Int32 → Int32 → Prop) : Prop :=
  wp_X7_holds v k13_0 (fun r13 z13_v_thrown =>
  ((r13 = 0 → Q 0 (X7_s v) (X7_saved v) (X7_savedMany v) z13_v_thrown) ∧
  (¬ r13 = 0 → wp_X7_save (X7_s8 v z13_v_thrown) (fun z22_v_saved z22_v_savedMany =>
  wp_X7_dug ((X7_s v), (X7_aside v), (X7_kept v), (X7_isKept v), z22_v_saved, z22_v_savedMany, (X7_text v), (X7_length v), z13_v_thrown, (X7_joint v), (X7_position v), (X7_isWrong v), (X7_isHollow v), (X7_sure v), (X7_away v), (X7_digested v)) x1 (fun r27 z27_v_s =>
  Q r27 z27_v_s z22_v_saved z22_v_savedMany z13_v_thrown)))))
def wp_X7_dig (v : V_X7) (x1 : Int32) (Q : Int32 → (Nat → Int32) → (Nat → Int32) → Int32 → Int32 → Prop) : Prop :=
  wp_X7_isTuft x1 (fun r2 =>
  ((r2 = 0 → wp_X7_dig_13 v x1 1  Q) ∧
  (¬ r2 = 0 → wp_X7_dig_13 v x1 0  Q)))
def wp_X7_endsAt (v : V_X7) (x1 : Int32) (x2 : Int32) (Q : Int32 → Prop) : Prop :=
  wp_X7_tuftAt v x1 (fun r2 =>
  ((r2 = x2 → Q 1) ∧
  (¬ r2 = x2 → wp_X7_endFrom v x1 (fun r12 =>
  wp_X7_tuftAt v r12 (fun r15 =>
  ((r15 = x2 → Q 1) ∧
  (¬ r15 = x2 → Q 0)))))))
def wp_X7_otherEnd (v : V_X7) (x1 : Int32) (x2 : Int32) (Q : Int32 → Prop) : Prop :=
  wp_X7_tuftAt v x1 (fun r2 =>
  ((r2 = x2 → wp_X7_endFrom v x1 (fun r12 =>
  wp_X7_tuftAt v r12 (fun r15 =>
  Q r15))) ∧
  (¬ r2 = x2 → wp_X7_tuftAt v x1 (fun r23 =>
  Q r23))))
def wp_X7_nextEnding_33 (v : V_X7) (x1 : Int32) (x2 : Int32) (y33_3 : Int32) (Q : Int32 → Prop) : Prop :=
  vp_in 7 1472 ∧ ((((X7_s v) (7 : Int32).toNatClampNeg) ≤ y33_3 → Q (-1)) ∧
  (¬ ((X7_s v) (7 : Int32).toNatClampNeg) ≤ y33_3 → Q y33_3))
def wb_X7_nextEnding_2 (v : V_X7) (x1 : Int32) (x2 : Int32)  (y2_3 : Int32) (B2 : Int32 → Prop) (Q : Int32 → Prop) : Prop :=
  vp_in 7 1472 ∧ ((((X7_s v) (7 : Int32).toNatClampNeg) ≤ y2_3 → wp_X7_nextEnding_33 v x1 x2 y2_3  Q) ∧
  (¬ ((X7_s v) (7 : Int32).toNatClampNeg) ≤ y2_3 → wp_X7_endsAt v y2_3 x2 (fun r16 =>
  ((r16 = 0 → wp_X7_endFrom v y2_3 (fun r24 =>
  B2 (r24 + 1))) ∧
  (¬ r16 = 0 → wp_X7_nextEnding_33 v x1 x2 y2_3  Q)))))
def wp_X7_nextEnding_2 (v : V_X7) (x1 : Int32) (x2 : Int32)  (y2_3 : Int32) (Q : Int32 → Prop) : Prop :=
  ∃ (I : Int32 → Prop) (μ : Int32 → Nat), I y2_3 ∧ ∀ (s0 : Int32), I s0 → wb_X7_nextEnding_2 v x1 x2  s0 (fun t0 => I t0 ∧ μ t0 < μ s0) Q
def wp_X7_nextEnding (v : V_X7) (x1 : Int32) (x2 : Int32) (Q : Int32 → Prop) : Prop :=
  wp_X7_nextEnding_2 v x1 x2  x1 Q
def wb_X7_endingAt_9 (v : V_X7) (x1 : Int32)  (y9_2 : Int32) (y9_3 : Int32) (B9 : Int32 → Int32 → Prop) (Q : Int32 → Prop) : Prop :=
  ((y9_3 = (-1) → Q y9_2) ∧
  (¬ y9_3 = (-1) → wp_X7_endFrom v y9_3 (fun r20 =>
  wp_X7_nextEnding v (r20 + 1) x1 (fun r26 =>
  B9 (y9_2 + 1) r26))))
def wp_X7_endingAt_9 (v : V_X7) (x1 : Int32)  (y9_2 : Int32) (y9_3 : Int32) (Q : Int32 → Prop) : Prop :=
  ∃ (I : Int32 → Int32 → Prop) (μ : Int32 → Int32 → Nat), I y9_2 y9_3 ∧ ∀ (s0 : Int32) (s1 : Int32), I s0 s1 → wb_X7_endingAt_9 v x1  s0 s1 (fun t0 t1 => I t0 t1 ∧ μ t0 t1 < μ s0 s1) Q
def wp_X7_endingAt (v : V_X7) (x1 : Int32) (Q : Int32 → Prop) : Prop :=
  wp_X7_nextEnding v 0 x1 (fun r5 =>
  wp_X7_endingAt_9 v x1  0 r5 Q)
def wb_X7_joins_182 (v : V_X7) (x1 : Int32) (x2 : Int32) (x3 : Int32) (y182_6 : Int32) (z182_v_joint : (Nat → Int32)) (y182_8 : Int32) (z182_v_s : (Nat → Int32)) (B182 : Int32 → (Nat → Int32) → Prop) (Q : (Nat → Int32) → (Nat → Int32) → Prop) : Prop :=
  ((y182_6 ≤ y182_8 → Q z182_v_joint z182_v_s) ∧
  (¬ y182_6 ≤ y182_8 → vp_in y182_8 1024 ∧ ((y182_8 = (y182_6 - 1) → vp_in ((448 + x1) + y182_8) 1472 ∧ B182 (y182_8 + 1) (upd z182_v_s ((448 + x1) + y182_8).toNatClampNeg ((z182_v_joint y182_8.toNatClampNeg) + 64))) ∧
  (¬ y182_8 = (y182_6 - 1) → vp_in ((448 + x1) + y182_8) 1472 ∧ B182 (y182_8 + 1) (upd z182_v_s ((448 + x1) + y182_8).toNatClampNeg ((z182_v_joint y182_8.toNatClampNeg) + 0))))))
def wp_X7_joins_182 (v : V_X7) (x1 : Int32) (x2 : Int32) (x3 : Int32) (y182_6 : Int32) (z182_v_joint : (Nat → Int32)) (y182_8 : Int32) (z182_v_s : (Nat → Int32)) (Q : (Nat → Int32) → (Nat → Int32) → Prop) : Prop :=
  ∃ (I : Int32 → (Nat → Int32) → Prop) (μ : Int32 → (Nat → Int32) → Nat), I y182_8 z182_v_s ∧ ∀ (s0 : Int32) (s1 : (Nat → Int32)), I s0 s1 → wb_X7_joins_182 v x1 x2 x3 y182_6 z182_v_joint s0 s1 (fun t0 t1 => I t0 t1 ∧ μ t0 t1 < μ s0 s1) Q
def wp_X7_joins_135 (v : V_X7) (x1 : Int32) (x2 : Int32) (x3 : Int32) (y102_4 : Int32) (y102_5 : Int32) (y102_7 : Int32) (y102_6 : Int32) (y102_8 : Int32) (z102_v_joint : (Nat → Int32)) (B102 : Int32 → Int32 → (Nat → Int32) → Prop) (k135_0 : Int32) (k135_2 : Int32) (Q : (Nat → Int32) → (Nat → Int32) → Prop) : Prop :=
  wp_X7_tuftAt (X7_s9 v z102_v_joint) k135_0 (fun r135 =>
  vp_in k135_2 1024 ∧ B102 (y102_6 + 1) (y102_8 + 1) (upd z102_v_joint k135_2.toNatClampNeg r135))
def wb_X7_joins_102 (v : V_X7) (x1 : Int32) (x2 : Int32) (x3 : Int32) (y102_4 : Int32) (y102_5 : Int32) (y102_7 : Int32) (y102_6 : Int32) (y102_8 : Int32) (z102_v_joint : (Nat → Int32)) (B102 : Int32 → Int32 → (Nat → Int32) → Prop) (Q : (Nat → Int32) → (Nat → Int32) → Prop) : Prop :=
  (((y102_5 - x2) < y102_8 → wp_X7_shifts (X7_s9 v z102_v_joint) (y102_5 + 1) ((x2 - y102_5) - 1) (fun z159_v_s =>
  wp_X7_shifts (X7_s9 (X7_s0 v z159_v_s) z102_v_joint) (y102_4 + 1) (y102_6 - ((y102_4 - x1) + 1)) (fun z176_v_s =>
  wp_X7_joins_182 v x1 x2 x3 y102_6 z102_v_joint 0 z176_v_s Q))) ∧
  (¬ (y102_5 - x2) < y102_8 → ((y102_7 = 0 → wp_X7_joins_135 v x1 x2 x3 y102_4 y102_5 y102_7 y102_6 y102_8 z102_v_joint B102 (y102_5 - y102_8) y102_6  Q) ∧
  (¬ y102_7 = 0 → wp_X7_joins_135 v x1 x2 x3 y102_4 y102_5 y102_7 y102_6 y102_8 z102_v_joint B102 (x2 + y102_8) y102_6  Q))))
def wp_X7_joins_102 (v : V_X7) (x1 : Int32) (x2 : Int32) (x3 : Int32) (y102_4 : Int32) (y102_5 : Int32) (y102_7 : Int32) (y102_6 : Int32) (y102_8 : Int32) (z102_v_joint : (Nat → Int32)) (Q : (Nat → Int32) → (Nat → Int32) → Prop) : Prop :=
  ∃ (I : Int32 → Int32 → (Nat → Int32) → Prop) (μ : Int32 → Int32 → (Nat → Int32) → Nat), I y102_6 y102_8 z102_v_joint ∧ ∀ (s0 : Int32) (s1 : Int32) (s2 : (Nat → Int32)), I s0 s1 s2 → wb_X7_joins_102 v x1 x2 x3 y102_4 y102_5 y102_7 s0 s1 s2 (fun t0 t1 t2 => I t0 t1 t2 ∧ μ t0 t1 t2 < μ s0 s1 s2) Q
def wp_X7_joins_70 (v : V_X7) (x1 : Int32) (x2 : Int32) (x3 : Int32) (y37_4 : Int32) (y37_5 : Int32) (y37_7 : Int32) (y37_6 : Int32) (y37_8 : Int32) (z37_v_joint : (Nat → Int32)) (B37 : Int32 → Int32 → (Nat → Int32) → Prop) (k70_0 : Int32) (k70_2 : Int32) (Q : (Nat → Int32) → (Nat → Int32) → Prop) : Prop :=
  wp_X7_tuftAt (X7_s9 v z37_v_joint) k70_0 (fun r70 =>
  vp_in k70_2 1024 ∧ B37 (y37_6 + 1) (y37_8 + 1) (upd z37_v_joint k70_2.toNatClampNeg r70))
def wb_X7_joins_37 (v : V_X7) (x1 : Int32) (x2 : Int32) (x3 : Int32) (y37_4 : Int32) (y37_5 : Int32) (y37_7 : Int32) (y37_6 : Int32) (y37_8 : Int32) (z37_v_joint : (Nat → Int32)) (B37 : Int32 → Int32 → (Nat → Int32) → Prop) (Q : (Nat → Int32) → (Nat → Int32) → Prop) : Prop :=
  (((y37_4 - x1) < y37_8 → wp_X7_tuftAt (X7_s9 v z37_v_joint) x2 (fun r85 =>
  ((r85 = x3 → wp_X7_joins_102 v x1 x2 x3 y37_4 y37_5 1 y37_6 1 z37_v_joint Q) ∧
  (¬ r85 = x3 → wp_X7_joins_102 v x1 x2 x3 y37_4 y37_5 0 y37_6 1 z37_v_joint Q)))) ∧
  (¬ (y37_4 - x1) < y37_8 → ((y37_7 = 0 → wp_X7_joins_70 v x1 x2 x3 y37_4 y37_5 y37_7 y37_6 y37_8 z37_v_joint B37 (y37_4 - y37_8) y37_6  Q) ∧
  (¬ y37_7 = 0 → wp_X7_joins_70 v x1 x2 x3 y37_4 y37_5 y37_7 y37_6 y37_8 z37_v_joint B37 (x1 + y37_8) y37_6  Q))))
def wp_X7_joins_37 (v : V_X7) (x1 : Int32) (x2 : Int32) (x3 : Int32) (y37_4 : Int32) (y37_5 : Int32) (y37_7 : Int32) (y37_6 : Int32) (y37_8 : Int32) (z37_v_joint : (Nat → Int32)) (Q : (Nat → Int32) → (Nat → Int32) → Prop) : Prop :=
  ∃ (I : Int32 → Int32 → (Nat → Int32) → Prop) (μ : Int32 → Int32 → (Nat → Int32) → Nat), I y37_6 y37_8 z37_v_joint ∧ ∀ (s0 : Int32) (s1 : Int32) (s2 : (Nat → Int32)), I s0 s1 s2 → wb_X7_joins_37 v x1 x2 x3 y37_4 y37_5 y37_7 s0 s1 s2 (fun t0 t1 t2 => I t0 t1 t2 ∧ μ t0 t1 t2 < μ s0 s1 s2) Q
def wp_X7_joins (v : V_X7) (x1 : Int32) (x2 : Int32) (x3 : Int32) (Q : (Nat → Int32) → (Nat → Int32) → Prop) : Prop :=
  wp_X7_endFrom v x1 (fun r2 =>
  wp_X7_endFrom v x2 (fun r9 =>
  wp_X7_tuftAt v r2 (fun r20 =>
  ((r20 = x3 → wp_X7_joins_37 v x1 x2 x3 r2 r9 1 0 0 (X7_joint v) Q) ∧
  (¬ r20 = x3 → wp_X7_joins_37 v x1 x2 x3 r2 r9 0 0 0 (X7_joint v) Q)))))
def wb_X7_beginsTrailAt_4 (v : V_X7) (x1 : Int32)  (y4_2 : Int32) (y4_3 : Int32) (B4 : Int32 → Int32 → Prop) (Q : Int32 → Prop) : Prop :=
  vp_in 1 1472 ∧ ((((X7_s v) (1 : Int32).toNatClampNeg) ≤ y4_3 → bz y4_2 ∧ Q y4_2) ∧
  (¬ ((X7_s v) (1 : Int32).toNatClampNeg) ≤ y4_3 → ((y4_2 = 0 → wp_X7_of y4_3 24 (fun r25 =>
  vp_in r25 1472 ∧ ((((X7_s v) r25.toNatClampNeg) = x1 → B4 1 (y4_3 + 1)) ∧
  (¬ ((X7_s v) r25.toNatClampNeg) = x1 → B4 0 (y4_3 + 1))))) ∧
  (¬ y4_2 = 0 → B4 1 (y4_3 + 1)))))
def wp_X7_beginsTrailAt_4 (v : V_X7) (x1 : Int32)  (y4_2 : Int32) (y4_3 : Int32) (Q : Int32 → Prop) : Prop :=
  ∃ (I : Int32 → Int32 → Prop) (μ : Int32 → Int32 → Nat), I y4_2 y4_3 ∧ ∀ (s0 : Int32) (s1 : Int32), I s0 s1 → wb_X7_beginsTrailAt_4 v x1  s0 s1 (fun t0 t1 => I t0 t1 ∧ μ t0 t1 < μ s0 s1) Q
def wp_X7_beginsTrailAt (v : V_X7) (x1 : Int32) (Q : Int32 → Prop) : Prop :=
  wp_X7_beginsTrailAt_4 v x1  0 0 Q
def wp_X7_rake_117 (v : V_X7) (x1 : Int32) (z117_v_joint : (Nat → Int32)) (z117_v_s : (Nat → Int32)) (z117_v_saved : (Nat → Int32)) (z117_v_savedMany : Int32) (z117_v_thrown : Int32) (Q : Int32 → (Nat → Int32) → (Nat → Int32) → (Nat → Int32) → Int32 → Int32 → Prop) : Prop :=
  wp_X7_fallsIn (z117_v_s, (X7_aside v), (X7_kept v), (X7_isKept v), z117_v_saved, z117_v_savedMany, (X7_text v), (X7_length v), z117_v_thrown, z117_v_joint, (X7_position v), (X7_isWrong v), (X7_isHollow v), (X7_sure v), (X7_away v), (X7_digested v)) x1 (fun r119 z119_v_s =>
  Q r119 z117_v_joint z119_v_s z117_v_saved z117_v_savedMany z117_v_thrown)
def wp_X7_rake_83 (v : V_X7) (x1 : Int32) (y83_2 : Int32) (z83_v_s : (Nat → Int32)) (z83_v_saved : (Nat → Int32)) (z83_v_savedMany : Int32) (z83_v_thrown : Int32) (k83_0 : Int32) (Q : Int32 → (Nat → Int32) → (Nat → Int32) → (Nat → Int32) → Int32 → Int32 → Prop) : Prop :=
  wp_X7_endingAt (z83_v_s, (X7_aside v), (X7_kept v), (X7_isKept v), z83_v_saved, z83_v_savedMany, (X7_text v), (X7_length v), z83_v_thrown, (X7_joint v), (X7_position v), (X7_isWrong v), (X7_isHollow v), (X7_sure v), (X7_away v), (X7_digested v)) x1 (fun r86 =>
  ((r86 = 2 → wp_X7_otherEnd (z83_v_s, (X7_aside v), (X7_kept v), (X7_isKept v), z83_v_saved, z83_v_savedMany, (X7_text v), (X7_length v), z83_v_thrown, (X7_joint v), (X7_position v), (X7_isWrong v), (X7_isHollow v), (X7_sure v), (X7_away v), (X7_digested v)) y83_2 x1 (fun r96 =>
  wp_X7_otherEnd (z83_v_s, (X7_aside v), (X7_kept v), (X7_isKept v), z83_v_saved, z83_v_savedMany, (X7_text v), (X7_length v), z83_v_thrown, (X7_joint v), (X7_position v), (X7_isWrong v), (X7_isHollow v), (X7_sure v), (X7_away v), (X7_digested v)) k83_0 x1 (fun r102 =>
  ((r96 = r102 → wp_X7_rake_117 v x1 (X7_joint v) z83_v_s z83_v_saved z83_v_savedMany z83_v_thrown  Q) ∧
  (¬ r96 = r102 → wp_X7_joins (z83_v_s, (X7_aside v), (X7_kept v), (X7_isKept v), z83_v_saved, z83_v_savedMany, (X7_text v), (X7_length v), z83_v_thrown, (X7_joint v), (X7_position v), (X7_isWrong v), (X7_isHollow v), (X7_sure v), (X7_away v), (X7_digested v)) y83_2 k83_0 x1 (fun z112_v_joint z112_v_s =>
  Q 1 z112_v_joint z112_v_s z83_v_saved z83_v_savedMany z83_v_thrown)))))) ∧
  (¬ r86 = 2 → wp_X7_rake_117 v x1 (X7_joint v) z83_v_s z83_v_saved z83_v_savedMany z83_v_thrown  Q)))
def wp_X7_rake_33 (v : V_X7) (x1 : Int32) (k33_0 : Int32) (Q : Int32 → (Nat → Int32) → (Nat → Int32) → (Nat → Int32) → Int32 → Int32 → Prop) : Prop :=
  wp_X7_holds v k33_0 (fun r33 z33_v_thrown =>
  ((r33 = 0 → Q 0 (X7_joint v) (X7_s v) (X7_saved v) (X7_savedMany v) z33_v_thrown) ∧
  (¬ r33 = 0 → wp_X7_save (X7_s8 v z33_v_thrown) (fun z42_v_saved z42_v_savedMany =>
  vp_in (8 + x1) 1472 ∧ wp_X7_nextEnding ((upd (X7_s v) (8 + x1).toNatClampNeg 0), (X7_aside v), (X7_kept v), (X7_isKept v), z42_v_saved, z42_v_savedMany, (X7_text v), (X7_length v), z33_v_thrown, (X7_joint v), (X7_position v), (X7_isWrong v), (X7_isHollow v), (X7_sure v), (X7_away v), (X7_digested v)) 0 x1 (fun r58 =>
  ((r58 = (-1) → wp_X7_rake_83 v x1 r58 (upd (X7_s v) (8 + x1).toNatClampNeg 0) z42_v_saved z42_v_savedMany z33_v_thrown (-1)  Q) ∧
  (¬ r58 = (-1) → wp_X7_endFrom ((upd (X7_s v) (8 + x1).toNatClampNeg 0), (X7_aside v), (X7_kept v), (X7_isKept v), z42_v_saved, z42_v_savedMany, (X7_text v), (X7_length v), z33_v_thrown, (X7_joint v), (X7_position v), (X7_isWrong v), (X7_isHollow v), (X7_sure v), (X7_away v), (X7_digested v)) r58 (fun r74 =>
  wp_X7_nextEnding ((upd (X7_s v) (8 + x1).toNatClampNeg 0), (X7_aside v), (X7_kept v), (X7_isKept v), z42_v_saved, z42_v_savedMany, (X7_text v), (X7_length v), z33_v_thrown, (X7_joint v), (X7_position v), (X7_isWrong v), (X7_isHollow v), (X7_sure v), (X7_away v), (X7_digested v)) (r74 + 1) x1 (fun r80 =>
  wp_X7_rake_83 v x1 r58 (upd (X7_s v) (8 + x1).toNatClampNeg 0) z42_v_saved z42_v_savedMany z33_v_thrown r80  Q)))))))))
def wp_X7_rake_28 (v : V_X7) (x1 : Int32)  (Q : Int32 → (Nat → Int32) → (Nat → Int32) → (Nat → Int32) → Int32 → Int32 → Prop) : Prop :=
  wp_X7_rake_33 v x1 2  Q
def wp_X7_rake (v : V_X7) (x1 : Int32) (Q : Int32 → (Nat → Int32) → (Nat → Int32) → (Nat → Int32) → Int32 → Int32 → Prop) : Prop :=
  wp_X7_isTuft x1 (fun r2 =>
  ((r2 = 0 → wp_X7_rake_33 v x1 1  Q) ∧
  (¬ r2 = 0 → wp_X7_hasMound v x1 (fun r14 =>
  ((r14 = 0 → wp_X7_rake_28 v x1   Q) ∧
  (¬ r14 = 0 → wp_X7_beginsTrailAt v x1 (fun r22 =>
  ((r22 = 0 → wp_X7_rake_33 v x1 0  Q) ∧
  (¬ r22 = 0 → wp_X7_rake_28 v x1   Q)))))))))
def wb_X7_set_34 (v : V_X7) (x1 : Int32) (y34_2 : Int32) (z34_v_saved : (Nat → Int32)) (z34_v_savedMany : Int32) (z34_v_thrown : Int32) (y34_3 : Int32) (z34_v_s : (Nat → Int32)) (B34 : Int32 → (Nat → Int32) → Prop) (Q : Int32 → (Nat → Int32) → (Nat → Int32) → Int32 → Int32 → Prop) : Prop :=
  vp_in 1 1472 ∧ (((z34_v_s (1 : Int32).toNatClampNeg) ≤ y34_3 → Q y34_2 z34_v_s z34_v_saved z34_v_savedMany z34_v_thrown) ∧
  (¬ (z34_v_s (1 : Int32).toNatClampNeg) ≤ y34_3 → wp_X7_of y34_3 1 (fun r50 =>
  wp_X7_of y34_3 1 (fun r59 =>
  vp_in r59 1472 ∧ (((z34_v_s r59.toNatClampNeg) ≤ x1 → wp_X7_of y34_3 1 (fun r77 =>
  vp_in r77 1472 ∧ vp_in r50 1472 ∧ B34 (y34_3 + 1) (upd z34_v_s r50.toNatClampNeg (z34_v_s r77.toNatClampNeg)))) ∧
  (¬ (z34_v_s r59.toNatClampNeg) ≤ x1 → vp_in r50 1472 ∧ B34 (y34_3 + 1) (upd z34_v_s r50.toNatClampNeg x1)))))))
def wp_X7_set_34 (v : V_X7) (x1 : Int32) (y34_2 : Int32) (z34_v_saved : (Nat → Int32)) (z34_v_savedMany : Int32) (z34_v_thrown : Int32) (y34_3 : Int32) (z34_v_s : (Nat → Int32)) (Q : Int32 → (Nat → Int32) → (Nat → Int32) → Int32 → Int32 → Prop) : Prop :=
  ∃ (I : Int32 → (Nat → Int32) → Prop) (μ : Int32 → (Nat → Int32) → Nat), I y34_3 z34_v_s ∧ ∀ (s0 : Int32) (s1 : (Nat → Int32)), I s0 s1 → wb_X7_set_34 v x1 y34_2 z34_v_saved z34_v_savedMany z34_v_thrown s0 s1 (fun t0 t1 => I t0 t1 ∧ μ t0 t1 < μ s0 s1) Q
def wp_X7_set_16 (v : V_X7) (x1 : Int32) (k16_0 : Int32) (Q : Int32 → (Nat → Int32) → (Nat → Int32) → Int32 → Int32 → Prop) : Prop :=
  wp_X7_holds v k16_0 (fun r16 z16_v_thrown =>
  ((r16 = 0 → Q 0 (X7_s v) (X7_saved v) (X7_savedMany v) z16_v_thrown) ∧
  (¬ r16 = 0 → wp_X7_lays (X7_s8 v z16_v_thrown) 6 x1 (fun r28 z28_v_s z28_v_saved z28_v_savedMany =>
  wp_X7_set_34 v x1 r28 z28_v_saved z28_v_savedMany z16_v_thrown 0 z28_v_s Q))))
def wp_X7_set (v : V_X7) (x1 : Int32) (Q : Int32 → (Nat → Int32) → (Nat → Int32) → Int32 → Int32 → Prop) : Prop :=
  wp_X7_in x1 2 20 (fun r5 =>
  ((r5 = 0 → wp_X7_set_16 v x1 1  Q) ∧
  (¬ r5 = 0 → wp_X7_set_16 v x1 0  Q)))
def wp_X7_append_30 (v : V_X7) (x1 : Int32) (k30_0 : Int32) (Q : Int32 → Int32 → (Nat → Int32) → Int32 → Prop) : Prop :=
  wp_X7_holds v k30_0 (fun r30 z30_v_thrown =>
  ((r30 = 0 → Q 0 (X7_length v) (X7_text v) z30_v_thrown) ∧
  (¬ r30 = 0 → vp_in (X7_length v) 60 ∧ Q ((X7_length v) + 1) ((X7_length v) + 1) (upd (X7_text v) (X7_length v).toNatClampNeg x1) z30_v_thrown)))
def wp_X7_append (v : V_X7) (x1 : Int32) (Q : Int32 → Int32 → (Nat → Int32) → Int32 → Prop) : Prop :=
  wp_X7_in x1 33 126 (fun r6 =>
  ((r6 = 0 → wp_X7_append_30 v x1 1  Q) ∧
  (¬ r6 = 0 → (((X7_length v) = 60 → wp_X7_append_30 v x1 2  Q) ∧
  (¬ (X7_length v) = 60 → wp_X7_append_30 v x1 0  Q)))))
def wp_X7_clearBuffer (v : V_X7) (Q : Int32 → Int32 → Int32 → Prop) : Prop :=
  Q (X7_length v) 0 0
def wp_X7_directionOf (x0 : Int32) (Q : Int32 → Prop) : Prop :=
  ((x0 = 110 → Q 0) ∧
  (¬ x0 = 110 → ((x0 = 101 → Q 1) ∧
  (¬ x0 = 101 → ((x0 = 115 → Q 2) ∧
  (¬ x0 = 115 → ((x0 = 119 → Q 3) ∧
  (¬ x0 = 119 → Q (-1)))))))))
def wp_X7_isDirection (v : V_X7) (Q : Int32 → Prop) : Prop :=
  (((X7_isWrong v) = 0 → (((X7_length v) ≤ (X7_position v) → Q 0) ∧
  (¬ (X7_length v) ≤ (X7_position v) → vp_in (X7_position v) 60 ∧ wp_X7_directionOf ((X7_text v) (X7_position v).toNatClampNeg) (fun r27 =>
  ((r27 = (-1) → Q 0) ∧
  (¬ r27 = (-1) → Q 1)))))) ∧
  (¬ (X7_isWrong v) = 0 → Q 0))
def wp_X7_takes_47 (v : V_X7) (x1 : Int32) (x2 : Int32) (y47_3 : Int32) (k47_0 : Int32) (Q : Int32 → Int32 → Int32 → Prop) : Prop :=
  bz k47_0 ∧ ((k47_0 = 0 → Q (y47_3 - x1) k47_0 ((X7_position v) + 1)) ∧
  (¬ k47_0 = 0 → Q (y47_3 - x1) k47_0 ((X7_position v) + 0)))
def wp_X7_takes_42 (v : V_X7) (x1 : Int32) (x2 : Int32) (y42_3 : Int32) (Q : Int32 → Int32 → Int32 → Prop) : Prop :=
  wp_X7_takes_47 v x1 x2 y42_3 1  Q
def wp_X7_takes_24 (v : V_X7) (x1 : Int32) (x2 : Int32) (k24_0 : Int32) (Q : Int32 → Int32 → Int32 → Prop) : Prop :=
  (((X7_isWrong v) = 0 → wp_X7_in k24_0 x1 x2 (fun r36 =>
  ((r36 = 0 → wp_X7_takes_42 v x1 x2 k24_0  Q) ∧
  (¬ r36 = 0 → wp_X7_takes_47 v x1 x2 k24_0 0  Q)))) ∧
  (¬ (X7_isWrong v) = 0 → wp_X7_takes_42 v x1 x2 k24_0  Q))
def wp_X7_takes (v : V_X7) (x1 : Int32) (x2 : Int32) (Q : Int32 → Int32 → Int32 → Prop) : Prop :=
  (((X7_length v) ≤ (X7_position v) → wp_X7_takes_24 v x1 x2 0  Q) ∧
  (¬ (X7_length v) ≤ (X7_position v) → vp_in (X7_position v) 60 ∧ wp_X7_takes_24 v x1 x2 ((X7_text v) (X7_position v).toNatClampNeg)  Q))
def wp_X7_reads_137 (v : V_X7) (x1 : Int32) (y14_2 : Int32) (y14_3 : Int32) (z14_v_isWrong : Int32) (z14_v_position : Int32) (z14_v_s : (Nat → Int32)) (B14 : Int32 → Int32 → Int32 → Int32 → (Nat → Int32) → Prop) (y137_2 : Int32) (z137_v_isWrong : Int32) (z137_v_position : Int32) (z137_v_s : (Nat → Int32)) (k137_0 : Int32) (Q : Int32 → Int32 → Int32 → (Nat → Int32) → Prop) : Prop :=
  ((k137_0 = 0 → B14 y137_2 k137_0 z137_v_isWrong z137_v_position z137_v_s) ∧
  (¬ k137_0 = 0 → wp_X7_takes (z137_v_s, (X7_aside v), (X7_kept v), (X7_isKept v), (X7_saved v), (X7_savedMany v), (X7_text v), (X7_length v), (X7_thrown v), (X7_joint v), z137_v_position, z137_v_isWrong, (X7_isHollow v), (X7_sure v), (X7_away v), (X7_digested v)) 59 59 (fun r147 z147_v_isWrong z147_v_position =>
  ((z147_v_isWrong = 0 → B14 y137_2 1 z147_v_isWrong z147_v_position z137_v_s) ∧
  (¬ z147_v_isWrong = 0 → B14 y137_2 0 z147_v_isWrong z147_v_position z137_v_s)))))
def wp_X7_reads_136 (v : V_X7) (x1 : Int32) (y14_2 : Int32) (y14_3 : Int32) (z14_v_isWrong : Int32) (z14_v_position : Int32) (z14_v_s : (Nat → Int32)) (B14 : Int32 → Int32 → Int32 → Int32 → (Nat → Int32) → Prop) (y136_2 : Int32) (z136_v_isWrong : Int32) (z136_v_position : Int32) (z136_v_s : (Nat → Int32)) (Q : Int32 → Int32 → Int32 → (Nat → Int32) → Prop) : Prop :=
  wp_X7_reads_137 v x1 y14_2 y14_3 z14_v_isWrong z14_v_position z14_v_s B14 y136_2 z136_v_isWrong z136_v_position z136_v_s 0  Q
def wp_X7_reads_99 (v : V_X7) (x1 : Int32) (y14_2 : Int32) (y14_3 : Int32) (z14_v_isWrong : Int32) (z14_v_position : Int32) (z14_v_s : (Nat → Int32)) (B14 : Int32 → Int32 → Int32 → Int32 → (Nat → Int32) → Prop) (y61_4 : Int32) (z61_v_isWrong : Int32) (y61_2 : Int32) (z61_v_position : Int32) (z61_v_s : (Nat → Int32)) (B61 : Int32 → Int32 → (Nat → Int32) → Prop) (z99_v_s : (Nat → Int32)) (k99_0 : Int32) (k99_1 : Int32) (Q : Int32 → Int32 → Int32 → (Nat → Int32) → Prop) : Prop :=
  B61 (k99_1 + k99_0) (z61_v_position + 1) z99_v_s
def wp_X7_reads_98 (v : V_X7) (x1 : Int32) (y14_2 : Int32) (y14_3 : Int32) (z14_v_isWrong : Int32) (z14_v_position : Int32) (z14_v_s : (Nat → Int32)) (B14 : Int32 → Int32 → Int32 → Int32 → (Nat → Int32) → Prop) (y61_4 : Int32) (z61_v_isWrong : Int32) (y61_2 : Int32) (z61_v_position : Int32) (z61_v_s : (Nat → Int32)) (B61 : Int32 → Int32 → (Nat → Int32) → Prop) (z98_v_s : (Nat → Int32)) (k98_0 : Int32) (Q : Int32 → Int32 → Int32 → (Nat → Int32) → Prop) : Prop :=
  wp_X7_reads_99 v x1 y14_2 y14_3 z14_v_isWrong z14_v_position z14_v_s B14 y61_4 z61_v_isWrong y61_2 z61_v_position z61_v_s B61 z98_v_s 0 k98_0  Q
def wb_X7_reads_61 (v : V_X7) (x1 : Int32) (y14_2 : Int32) (y14_3 : Int32) (z14_v_isWrong : Int32) (z14_v_position : Int32) (z14_v_s : (Nat → Int32)) (B14 : Int32 → Int32 → Int32 → Int32 → (Nat → Int32) → Prop) (y61_4 : Int32) (z61_v_isWrong : Int32) (y61_2 : Int32) (z61_v_position : Int32) (z61_v_s : (Nat → Int32)) (B61 : Int32 → Int32 → (Nat → Int32) → Prop) (Q : Int32 → Int32 → Int32 → (Nat → Int32) → Prop) : Prop :=
  wp_X7_isDirection (z61_v_s, (X7_aside v), (X7_kept v), (X7_isKept v), (X7_saved v), (X7_savedMany v), (X7_text v), (X7_length v), (X7_thrown v), (X7_joint v), z61_v_position, z61_v_isWrong, (X7_isHollow v), (X7_sure v), (X7_away v), (X7_digested v)) (fun r62 =>
  ((r62 = 0 → ((z61_v_isWrong = 0 → (((X7_length v) ≤ z61_v_position → wp_X7_reads_136 v x1 y14_2 y14_3 z14_v_isWrong z14_v_position z14_v_s B14 y61_2 z61_v_isWrong z61_v_position z61_v_s  Q) ∧
  (¬ (X7_length v) ≤ z61_v_position → wp_X7_reads_137 v x1 y14_2 y14_3 z14_v_isWrong z14_v_position z14_v_s B14 y61_2 z61_v_isWrong z61_v_position z61_v_s 1  Q))) ∧
  (¬ z61_v_isWrong = 0 → wp_X7_reads_136 v x1 y14_2 y14_3 z14_v_isWrong z14_v_position z14_v_s B14 y61_2 z61_v_isWrong z61_v_position z61_v_s  Q))) ∧
  (¬ r62 = 0 → ((x1 = 0 → wp_X7_reads_98 v x1 y14_2 y14_3 z14_v_isWrong z14_v_position z14_v_s B14 y61_4 z61_v_isWrong y61_2 z61_v_position z61_v_s B61 z61_v_s y61_2  Q) ∧
  (¬ x1 = 0 → vp_in z61_v_position 60 ∧ wp_X7_directionOf ((X7_text v) z61_v_position.toNatClampNeg) (fun r85 =>
  wp_X7_putsPlan (z61_v_s, (X7_aside v), (X7_kept v), (X7_isKept v), (X7_saved v), (X7_savedMany v), (X7_text v), (X7_length v), (X7_thrown v), (X7_joint v), z61_v_position, z61_v_isWrong, (X7_isHollow v), (X7_sure v), (X7_away v), (X7_digested v)) y61_4 r85 (fun r88 z88_v_s =>
  ((r88 = 0 → wp_X7_reads_98 v x1 y14_2 y14_3 z14_v_isWrong z14_v_position z14_v_s B14 y61_4 z61_v_isWrong y61_2 z61_v_position z61_v_s B61 z88_v_s y61_2  Q) ∧
  (¬ r88 = 0 → wp_X7_reads_99 v x1 y14_2 y14_3 z14_v_isWrong z14_v_position z14_v_s B14 y61_4 z61_v_isWrong y61_2 z61_v_position z61_v_s B61 z88_v_s 1 y61_2  Q)))))))))
def wp_X7_reads_61 (v : V_X7) (x1 : Int32) (y14_2 : Int32) (y14_3 : Int32) (z14_v_isWrong : Int32) (z14_v_position : Int32) (z14_v_s : (Nat → Int32)) (B14 : Int32 → Int32 → Int32 → Int32 → (Nat → Int32) → Prop) (y61_4 : Int32) (z61_v_isWrong : Int32) (y61_2 : Int32) (z61_v_position : Int32) (z61_v_s : (Nat → Int32)) (Q : Int32 → Int32 → Int32 → (Nat → Int32) → Prop) : Prop :=
  ∃ (I : Int32 → Int32 → (Nat → Int32) → Prop) (μ : Int32 → Int32 → (Nat → Int32) → Nat), I y61_2 z61_v_position z61_v_s ∧ ∀ (s0 : Int32) (s1 : Int32) (s2 : (Nat → Int32)), I s0 s1 s2 → wb_X7_reads_61 v x1 y14_2 y14_3 z14_v_isWrong z14_v_position z14_v_s B14 y61_4 z61_v_isWrong s0 s1 s2 (fun t0 t1 t2 => I t0 t1 t2 ∧ μ t0 t1 t2 < μ s0 s1 s2) Q
def wb_X7_reads_14 (v : V_X7) (x1 : Int32)  (y14_2 : Int32) (y14_3 : Int32) (z14_v_isWrong : Int32) (z14_v_position : Int32) (z14_v_s : (Nat → Int32)) (B14 : Int32 → Int32 → Int32 → Int32 → (Nat → Int32) → Prop) (Q : Int32 → Int32 → Int32 → (Nat → Int32) → Prop) : Prop :=
  ((y14_3 = 0 → Q y14_2 z14_v_isWrong z14_v_position z14_v_s) ∧
  (¬ y14_3 = 0 → wp_X7_takes (z14_v_s, (X7_aside v), (X7_kept v), (X7_isKept v), (X7_saved v), (X7_savedMany v), (X7_text v), (X7_length v), (X7_thrown v), (X7_joint v), z14_v_position, z14_v_isWrong, (X7_isHollow v), (X7_sure v), (X7_away v), (X7_digested v)) 48 51 (fun r23 z23_v_isWrong z23_v_position =>
  wp_X7_takes (z14_v_s, (X7_aside v), (X7_kept v), (X7_isKept v), (X7_saved v), (X7_savedMany v), (X7_text v), (X7_length v), (X7_thrown v), (X7_joint v), z23_v_position, z23_v_isWrong, (X7_isHollow v), (X7_sure v), (X7_away v), (X7_digested v)) 58 58 (fun r33 z33_v_isWrong z33_v_position =>
  ((z33_v_isWrong = 0 → wp_X7_isDirection (z14_v_s, (X7_aside v), (X7_kept v), (X7_isKept v), (X7_saved v), (X7_savedMany v), (X7_text v), (X7_length v), (X7_thrown v), (X7_joint v), z33_v_position, z33_v_isWrong, (X7_isHollow v), (X7_sure v), (X7_away v), (X7_digested v)) (fun r47 =>
  ((r47 = 0 → wp_X7_reads_61 v x1 y14_2 y14_3 z14_v_isWrong z14_v_position z14_v_s B14 r23 1 y14_2 z33_v_position z14_v_s Q) ∧
  (¬ r47 = 0 → wp_X7_reads_61 v x1 y14_2 y14_3 z14_v_isWrong z14_v_position z14_v_s B14 r23 0 y14_2 z33_v_position z14_v_s Q)))) ∧
  (¬ z33_v_isWrong = 0 → wp_X7_reads_61 v x1 y14_2 y14_3 z14_v_isWrong z14_v_position z14_v_s B14 r23 1 y14_2 z33_v_position z14_v_s Q))))))
def wp_X7_reads_14 (v : V_X7) (x1 : Int32)  (y14_2 : Int32) (y14_3 : Int32) (z14_v_isWrong : Int32) (z14_v_position : Int32) (z14_v_s : (Nat → Int32)) (Q : Int32 → Int32 → Int32 → (Nat → Int32) → Prop) : Prop :=
  ∃ (I : Int32 → Int32 → Int32 → Int32 → (Nat → Int32) → Prop) (μ : Int32 → Int32 → Int32 → Int32 → (Nat → Int32) → Nat), I y14_2 y14_3 z14_v_isWrong z14_v_position z14_v_s ∧ ∀ (s0 : Int32) (s1 : Int32) (s2 : Int32) (s3 : Int32) (s4 : (Nat → Int32)), I s0 s1 s2 s3 s4 → wb_X7_reads_14 v x1  s0 s1 s2 s3 s4 (fun t0 t1 t2 t3 t4 => I t0 t1 t2 t3 t4 ∧ μ t0 t1 t2 t3 t4 < μ s0 s1 s2 s3 s4) Q
def wp_X7_reads (v : V_X7) (x1 : Int32) (Q : Int32 → Int32 → Int32 → (Nat → Int32) → Prop) : Prop :=
  wp_X7_reads_14 v x1  0 1 0 0 (X7_s v) Q
def wp_X7_firstError (v : V_X7) (Q : Int32 → Int32 → Int32 → (Nat → Int32) → Int32 → Prop) : Prop :=
  wp_X7_reads (X7_s8 v 0) 0 (fun r7 z7_v_isWrong z7_v_position z7_v_s =>
  ((z7_v_isWrong = 0 → Q (X7_length v) z7_v_isWrong z7_v_position z7_v_s 0) ∧
  (¬ z7_v_isWrong = 0 → Q z7_v_position z7_v_isWrong z7_v_position z7_v_s 0)))
def wp_X7_plans_19 (v : V_X7) (z19_v_isWrong : Int32) (z19_v_position : Int32) (z19_v_s : (Nat → Int32)) (k19_0 : Int32) (Q : Int32 → Int32 → Int32 → Int32 → (Nat → Int32) → (Nat → Int32) → Int32 → Int32 → Prop) : Prop :=
  wp_X7_holds (z19_v_s, (X7_aside v), (X7_kept v), (X7_isKept v), (X7_saved v), (X7_savedMany v), (X7_text v), (X7_length v), (X7_thrown v), (X7_joint v), z19_v_position, z19_v_isWrong, (X7_isHollow v), (X7_sure v), (X7_away v), (X7_digested v)) k19_0 (fun r19 z19_v_thrown =>
  ((r19 = 0 → Q 0 z19_v_isWrong (X7_length v) z19_v_position z19_v_s (X7_saved v) (X7_savedMany v) z19_v_thrown) ∧
  (¬ r19 = 0 → wp_X7_save (z19_v_s, (X7_aside v), (X7_kept v), (X7_isKept v), (X7_saved v), (X7_savedMany v), (X7_text v), (X7_length v), z19_v_thrown, (X7_joint v), z19_v_position, z19_v_isWrong, (X7_isHollow v), (X7_sure v), (X7_away v), (X7_digested v)) (fun z28_v_saved z28_v_savedMany =>
  wp_X7_reads (z19_v_s, (X7_aside v), (X7_kept v), (X7_isKept v), z28_v_saved, z28_v_savedMany, (X7_text v), (X7_length v), z19_v_thrown, (X7_joint v), z19_v_position, z19_v_isWrong, (X7_isHollow v), (X7_sure v), (X7_away v), (X7_digested v)) 1 (fun r33 z33_v_isWrong z33_v_position z33_v_s =>
  Q r33 z33_v_isWrong 0 z33_v_position z33_v_s z28_v_saved z28_v_savedMany z19_v_thrown)))))
def wp_X7_plans (v : V_X7) (Q : Int32 → Int32 → Int32 → Int32 → (Nat → Int32) → (Nat → Int32) → Int32 → Int32 → Prop) : Prop :=
  wp_X7_reads v 0 (fun r2 z2_v_isWrong z2_v_position z2_v_s =>
  ((z2_v_isWrong = 0 → wp_X7_plans_19 v z2_v_isWrong z2_v_position z2_v_s 0  Q) ∧
  (¬ z2_v_isWrong = 0 → wp_X7_plans_19 v z2_v_isWrong z2_v_position z2_v_s 1  Q)))
def wb_X7_undo_33 (v : V_X7) (z33_v_savedMany : Int32) (z33_v_thrown : Int32) (y33_1 : Int32) (z33_v_s : (Nat → Int32)) (B33 : Int32 → (Nat → Int32) → Prop) (Q : Int32 → (Nat → Int32) → Int32 → Int32 → Prop) : Prop :=
  ((1472 ≤ y33_1 → Q z33_v_savedMany z33_v_s z33_v_savedMany z33_v_thrown) ∧
  (¬ 1472 ≤ y33_1 → vp_in ((1472 * z33_v_savedMany) + y33_1) 8832 ∧ vp_in y33_1 1472 ∧ B33 (y33_1 + 1) (upd z33_v_s y33_1.toNatClampNeg ((X7_saved v) ((1472 * z33_v_savedMany) + y33_1).toNatClampNeg))))
def wp_X7_undo_33 (v : V_X7) (z33_v_savedMany : Int32) (z33_v_thrown : Int32) (y33_1 : Int32) (z33_v_s : (Nat → Int32)) (Q : Int32 → (Nat → Int32) → Int32 → Int32 → Prop) : Prop :=
  ∃ (I : Int32 → (Nat → Int32) → Prop) (μ : Int32 → (Nat → Int32) → Nat), I y33_1 z33_v_s ∧ ∀ (s0 : Int32) (s1 : (Nat → Int32)), I s0 s1 → wb_X7_undo_33 v z33_v_savedMany z33_v_thrown s0 s1 (fun t0 t1 => I t0 t1 ∧ μ t0 t1 < μ s0 s1) Q
def wp_X7_undo_13 (v : V_X7) (k13_0 : Int32) (Q : Int32 → (Nat → Int32) → Int32 → Int32 → Prop) : Prop :=
  wp_X7_holds v k13_0 (fun r13 z13_v_thrown =>
  ((r13 = 0 → Q 0 (X7_s v) (X7_savedMany v) z13_v_thrown) ∧
  (¬ r13 = 0 → wp_X7_undo_33 v ((X7_savedMany v) - 1) z13_v_thrown 0 (X7_s v) Q)))
def wp_X7_undo (v : V_X7) (Q : Int32 → (Nat → Int32) → Int32 → Int32 → Prop) : Prop :=
  (((X7_savedMany v) ≤ 0 → wp_X7_undo_13 v 1  Q) ∧
  (¬ (X7_savedMany v) ≤ 0 → wp_X7_undo_13 v 0  Q))
def wb_X7_keep_7 (v : V_X7) (z7_v_thrown : Int32) (y7_1 : Int32) (z7_v_kept : (Nat → Int32)) (B7 : Int32 → (Nat → Int32) → Prop) (Q : Int32 → Int32 → (Nat → Int32) → Int32 → Prop) : Prop :=
  ((1472 ≤ y7_1 → wp_X7_tunnels ((X7_s v), (X7_aside v), z7_v_kept, 1, (X7_saved v), (X7_savedMany v), (X7_text v), (X7_length v), z7_v_thrown, (X7_joint v), (X7_position v), (X7_isWrong v), (X7_isHollow v), (X7_sure v), (X7_away v), (X7_digested v)) (fun r38 =>
  Q r38 1 z7_v_kept z7_v_thrown)) ∧
  (¬ 1472 ≤ y7_1 → vp_in y7_1 1472 ∧ B7 (y7_1 + 1) (upd z7_v_kept y7_1.toNatClampNeg ((X7_s v) y7_1.toNatClampNeg))))
def wp_X7_keep_7 (v : V_X7) (z7_v_thrown : Int32) (y7_1 : Int32) (z7_v_kept : (Nat → Int32)) (Q : Int32 → Int32 → (Nat → Int32) → Int32 → Prop) : Prop :=
  ∃ (I : Int32 → (Nat → Int32) → Prop) (μ : Int32 → (Nat → Int32) → Nat), I y7_1 z7_v_kept ∧ ∀ (s0 : Int32) (s1 : (Nat → Int32)), I s0 s1 → wb_X7_keep_7 v z7_v_thrown s0 s1 (fun t0 t1 => I t0 t1 ∧ μ t0 t1 < μ s0 s1) Q
def wp_X7_keep (v : V_X7) (Q : Int32 → Int32 → (Nat → Int32) → Int32 → Prop) : Prop :=
  wp_X7_keep_7 v 0 0 (X7_kept v) Q
def wb_X7_restore_27 (v : V_X7) (z27_v_saved : (Nat → Int32)) (z27_v_savedMany : Int32) (z27_v_thrown : Int32) (y27_1 : Int32) (z27_v_s : (Nat → Int32)) (B27 : Int32 → (Nat → Int32) → Prop) (Q : Int32 → (Nat → Int32) → (Nat → Int32) → Int32 → Int32 → Prop) : Prop :=
  ((1472 ≤ y27_1 → wp_X7_tunnels (z27_v_s, (X7_aside v), (X7_kept v), (X7_isKept v), z27_v_saved, z27_v_savedMany, (X7_text v), (X7_length v), z27_v_thrown, (X7_joint v), (X7_position v), (X7_isWrong v), (X7_isHollow v), (X7_sure v), (X7_away v), (X7_digested v)) (fun r53 =>
  Q r53 z27_v_s z27_v_saved z27_v_savedMany z27_v_thrown)) ∧
  (¬ 1472 ≤ y27_1 → vp_in y27_1 1472 ∧ B27 (y27_1 + 1) (upd z27_v_s y27_1.toNatClampNeg ((X7_kept v) y27_1.toNatClampNeg))))
def wp_X7_restore_27 (v : V_X7) (z27_v_saved : (Nat → Int32)) (z27_v_savedMany : Int32) (z27_v_thrown : Int32) (y27_1 : Int32) (z27_v_s : (Nat → Int32)) (Q : Int32 → (Nat → Int32) → (Nat → Int32) → Int32 → Int32 → Prop) : Prop :=
  ∃ (I : Int32 → (Nat → Int32) → Prop) (μ : Int32 → (Nat → Int32) → Nat), I y27_1 z27_v_s ∧ ∀ (s0 : Int32) (s1 : (Nat → Int32)), I s0 s1 → wb_X7_restore_27 v z27_v_saved z27_v_savedMany z27_v_thrown s0 s1 (fun t0 t1 => I t0 t1 ∧ μ t0 t1 < μ s0 s1) Q
def wp_X7_restore_13 (v : V_X7) (k13_0 : Int32) (Q : Int32 → (Nat → Int32) → (Nat → Int32) → Int32 → Int32 → Prop) : Prop :=
  wp_X7_holds v k13_0 (fun r13 z13_v_thrown =>
  ((r13 = 0 → Q 0 (X7_s v) (X7_saved v) (X7_savedMany v) z13_v_thrown) ∧
  (¬ r13 = 0 → wp_X7_save (X7_s8 v z13_v_thrown) (fun z22_v_saved z22_v_savedMany =>
  wp_X7_restore_27 v z22_v_saved z22_v_savedMany z13_v_thrown 0 (X7_s v) Q))))
def wp_X7_restore (v : V_X7) (Q : Int32 → (Nat → Int32) → (Nat → Int32) → Int32 → Int32 → Prop) : Prop :=
  (((X7_isKept v) = 0 → wp_X7_restore_13 v 1  Q) ∧
  (¬ (X7_isKept v) = 0 → wp_X7_restore_13 v 0  Q))
def wb_X7_layHollow_65 (v : V_X7) (y53_1 : Int32) (z53_v_isHollow : (Nat → Int32)) (B53 : Int32 → (Nat → Int32) → Prop)  (y65_2 : Int32) (z65_v_isHollow : (Nat → Int32)) (B65 : Int32 → (Nat → Int32) → Prop) (Q : (Nat → Int32) → Prop) : Prop :=
  wp_X7_of y53_1 23 (fun r73 =>
  vp_in r73 1472 ∧ ((((X7_s v) r73.toNatClampNeg) ≤ y65_2 → B53 (y53_1 + 1) z65_v_isHollow) ∧
  (¬ ((X7_s v) r73.toNatClampNeg) ≤ y65_2 → wp_X7_of y53_1 (24 + y65_2) (fun r93 =>
  vp_in r93 1472 ∧ vp_in ((X7_s v) r93.toNatClampNeg) 64 ∧ B65 (y65_2 + 1) (upd z65_v_isHollow ((X7_s v) r93.toNatClampNeg).toNatClampNeg 1)))))
def wp_X7_layHollow_65 (v : V_X7) (y53_1 : Int32) (z53_v_isHollow : (Nat → Int32)) (B53 : Int32 → (Nat → Int32) → Prop)  (y65_2 : Int32) (z65_v_isHollow : (Nat → Int32)) (Q : (Nat → Int32) → Prop) : Prop :=
  ∃ (I : Int32 → (Nat → Int32) → Prop) (μ : Int32 → (Nat → Int32) → Nat), I y65_2 z65_v_isHollow ∧ ∀ (s0 : Int32) (s1 : (Nat → Int32)), I s0 s1 → wb_X7_layHollow_65 v y53_1 z53_v_isHollow B53  s0 s1 (fun t0 t1 => I t0 t1 ∧ μ t0 t1 < μ s0 s1) Q
def wb_X7_layHollow_53 (v : V_X7)  (y53_1 : Int32) (z53_v_isHollow : (Nat → Int32)) (B53 : Int32 → (Nat → Int32) → Prop) (Q : (Nat → Int32) → Prop) : Prop :=
  vp_in 1 1472 ∧ ((((X7_s v) (1 : Int32).toNatClampNeg) ≤ y53_1 → Q z53_v_isHollow) ∧
  (¬ ((X7_s v) (1 : Int32).toNatClampNeg) ≤ y53_1 → wp_X7_layHollow_65 v y53_1 z53_v_isHollow B53  0 z53_v_isHollow Q))
def wp_X7_layHollow_53 (v : V_X7)  (y53_1 : Int32) (z53_v_isHollow : (Nat → Int32)) (Q : (Nat → Int32) → Prop) : Prop :=
  ∃ (I : Int32 → (Nat → Int32) → Prop) (μ : Int32 → (Nat → Int32) → Nat), I y53_1 z53_v_isHollow ∧ ∀ (s0 : Int32) (s1 : (Nat → Int32)), I s0 s1 → wb_X7_layHollow_53 v  s0 s1 (fun t0 t1 => I t0 t1 ∧ μ t0 t1 < μ s0 s1) Q
def wb_X7_layHollow_23 (v : V_X7)  (y23_1 : Int32) (z23_v_isHollow : (Nat → Int32)) (B23 : Int32 → (Nat → Int32) → Prop) (Q : (Nat → Int32) → Prop) : Prop :=
  vp_in 7 1472 ∧ ((((X7_s v) (7 : Int32).toNatClampNeg) ≤ y23_1 → wp_X7_layHollow_53 v  0 z23_v_isHollow Q) ∧
  (¬ ((X7_s v) (7 : Int32).toNatClampNeg) ≤ y23_1 → wp_X7_tuftAt (X7_s12 v z23_v_isHollow) y23_1 (fun r40 =>
  vp_in r40 64 ∧ B23 (y23_1 + 1) (upd z23_v_isHollow r40.toNatClampNeg 1))))
def wp_X7_layHollow_23 (v : V_X7)  (y23_1 : Int32) (z23_v_isHollow : (Nat → Int32)) (Q : (Nat → Int32) → Prop) : Prop :=
  ∃ (I : Int32 → (Nat → Int32) → Prop) (μ : Int32 → (Nat → Int32) → Nat), I y23_1 z23_v_isHollow ∧ ∀ (s0 : Int32) (s1 : (Nat → Int32)), I s0 s1 → wb_X7_layHollow_23 v  s0 s1 (fun t0 t1 => I t0 t1 ∧ μ t0 t1 < μ s0 s1) Q
def wb_X7_layHollow_2 (v : V_X7)  (y2_1 : Int32) (z2_v_isHollow : (Nat → Int32)) (B2 : Int32 → (Nat → Int32) → Prop) (Q : (Nat → Int32) → Prop) : Prop :=
  ((64 ≤ y2_1 → wp_X7_layHollow_23 v  0 z2_v_isHollow Q) ∧
  (¬ 64 ≤ y2_1 → vp_in y2_1 64 ∧ B2 (y2_1 + 1) (upd z2_v_isHollow y2_1.toNatClampNeg 0)))
def wp_X7_layHollow_2 (v : V_X7)  (y2_1 : Int32) (z2_v_isHollow : (Nat → Int32)) (Q : (Nat → Int32) → Prop) : Prop :=
  ∃ (I : Int32 → (Nat → Int32) → Prop) (μ : Int32 → (Nat → Int32) → Nat), I y2_1 z2_v_isHollow ∧ ∀ (s0 : Int32) (s1 : (Nat → Int32)), I s0 s1 → wb_X7_layHollow_2 v  s0 s1 (fun t0 t1 => I t0 t1 ∧ μ t0 t1 < μ s0 s1) Q
def wp_X7_layHollow (v : V_X7) (Q : (Nat → Int32) → Prop) : Prop :=
  wp_X7_layHollow_2 v  0 (X7_isHollow v) Q
def wb_X7_hollow_8 (v : V_X7) (z8_v_isHollow : (Nat → Int32)) (y8_1 : Int32) (y8_2 : Int32) (B8 : Int32 → Int32 → Prop) (Q : Int32 → (Nat → Int32) → Prop) : Prop :=
  ((64 ≤ y8_2 → Q y8_1 z8_v_isHollow) ∧
  (¬ 64 ≤ y8_2 → vp_in y8_2 64 ∧ (((z8_v_isHollow y8_2.toNatClampNeg) = 0 → B8 (y8_1 + 0) (y8_2 + 1)) ∧
  (¬ (z8_v_isHollow y8_2.toNatClampNeg) = 0 → B8 (y8_1 + 1) (y8_2 + 1)))))
def wp_X7_hollow_8 (v : V_X7) (z8_v_isHollow : (Nat → Int32)) (y8_1 : Int32) (y8_2 : Int32) (Q : Int32 → (Nat → Int32) → Prop) : Prop :=
  ∃ (I : Int32 → Int32 → Prop) (μ : Int32 → Int32 → Nat), I y8_1 y8_2 ∧ ∀ (s0 : Int32) (s1 : Int32), I s0 s1 → wb_X7_hollow_8 v z8_v_isHollow s0 s1 (fun t0 t1 => I t0 t1 ∧ μ t0 t1 < μ s0 s1) Q
def wp_X7_hollow (v : V_X7) (Q : Int32 → (Nat → Int32) → Prop) : Prop :=
  wp_X7_layHollow v (fun z1_v_isHollow =>
  wp_X7_hollow_8 v z1_v_isHollow 0 0 Q)
def wp_X7_areBeside (x0 : Int32) (x1 : Int32) (Q : Int32 → Prop) : Prop :=
  ((x0 = x1 → Q 0) ∧
  (¬ x0 = x1 → wp_X7_in ((x0 / 8) - (x1 / 8)) (-1) 1 (fun r16 =>
  ((r16 = 0 → Q 0) ∧
  (¬ r16 = 0 → wp_X7_in ((x0 - x0 / 8 * 8) - (x1 - x1 / 8 * 8)) (-1) 1 (fun r33 =>
  ((r33 = 0 → Q 0) ∧
  (¬ r33 = 0 → Q 1))))))))
def wb_X7_numberOf_4 (v : V_X7) (x1 : Int32)  (y4_2 : Int32) (y4_3 : Int32) (B4 : Int32 → Int32 → Prop) (Q : Int32 → Prop) : Prop :=
  ((64 ≤ y4_3 → Q y4_2) ∧
  (¬ 64 ≤ y4_3 → wp_X7_areBeside x1 y4_3 (fun r13 =>
  ((r13 = 0 → B4 (y4_2 + 0) (y4_3 + 1)) ∧
  (¬ r13 = 0 → vp_in y4_3 64 ∧ ((((X7_isHollow v) y4_3.toNatClampNeg) = 0 → B4 (y4_2 + 0) (y4_3 + 1)) ∧
  (¬ ((X7_isHollow v) y4_3.toNatClampNeg) = 0 → B4 (y4_2 + 1) (y4_3 + 1))))))))
def wp_X7_numberOf_4 (v : V_X7) (x1 : Int32)  (y4_2 : Int32) (y4_3 : Int32) (Q : Int32 → Prop) : Prop :=
  ∃ (I : Int32 → Int32 → Prop) (μ : Int32 → Int32 → Nat), I y4_2 y4_3 ∧ ∀ (s0 : Int32) (s1 : Int32), I s0 s1 → wb_X7_numberOf_4 v x1  s0 s1 (fun t0 t1 => I t0 t1 ∧ μ t0 t1 < μ s0 s1) Q
def wp_X7_numberOf (v : V_X7) (x1 : Int32) (Q : Int32 → Prop) : Prop :=
  wp_X7_numberOf_4 v x1  0 0 Q
def wb_X7_besideWith_5 (v : V_X7) (x1 : Int32) (x2 : Int32)  (y5_3 : Int32) (y5_4 : Int32) (B5 : Int32 → Int32 → Prop) (Q : Int32 → Prop) : Prop :=
  ((64 ≤ y5_4 → Q y5_3) ∧
  (¬ 64 ≤ y5_4 → wp_X7_areBeside x1 y5_4 (fun r16 =>
  ((r16 = 0 → B5 (y5_3 + 0) (y5_4 + 1)) ∧
  (¬ r16 = 0 → vp_in y5_4 64 ∧ ((((X7_sure v) y5_4.toNatClampNeg) = x2 → B5 (y5_3 + 1) (y5_4 + 1)) ∧
  (¬ ((X7_sure v) y5_4.toNatClampNeg) = x2 → B5 (y5_3 + 0) (y5_4 + 1))))))))
def wp_X7_besideWith_5 (v : V_X7) (x1 : Int32) (x2 : Int32)  (y5_3 : Int32) (y5_4 : Int32) (Q : Int32 → Prop) : Prop :=
  ∃ (I : Int32 → Int32 → Prop) (μ : Int32 → Int32 → Nat), I y5_3 y5_4 ∧ ∀ (s0 : Int32) (s1 : Int32), I s0 s1 → wb_X7_besideWith_5 v x1 x2  s0 s1 (fun t0 t1 => I t0 t1 ∧ μ t0 t1 < μ s0 s1) Q
def wp_X7_besideWith (v : V_X7) (x1 : Int32) (x2 : Int32) (Q : Int32 → Prop) : Prop :=
  wp_X7_besideWith_5 v x1 x2  0 0 Q
def wp_X7_finds_93 (v : V_X7) (x1 : Int32) (y43_2 : Int32) (y43_4 : Int32) (y43_5 : Int32) (z43_v_sure : (Nat → Int32)) (B43 : Int32 → (Nat → Int32) → Prop) (k93_0 : Int32) (Q : Int32 → (Nat → Int32) → Prop) : Prop :=
  vp_in y43_5 64 ∧ vp_in k93_0 64 ∧ B43 (y43_5 + 1) (upd z43_v_sure k93_0.toNatClampNeg (z43_v_sure y43_5.toNatClampNeg))
def wb_X7_finds_43 (v : V_X7) (x1 : Int32) (y43_2 : Int32) (y43_4 : Int32) (y43_5 : Int32) (z43_v_sure : (Nat → Int32)) (B43 : Int32 → (Nat → Int32) → Prop) (Q : Int32 → (Nat → Int32) → Prop) : Prop :=
  ((64 ≤ y43_5 → bz y43_4 ∧ Q y43_4 z43_v_sure) ∧
  (¬ 64 ≤ y43_5 → ((y43_4 = 0 → bz y43_4 ∧ Q y43_4 z43_v_sure) ∧
  (¬ y43_4 = 0 → wp_X7_areBeside x1 y43_5 (fun r64 =>
  ((r64 = 0 → wp_X7_finds_93 v x1 y43_2 y43_4 y43_5 z43_v_sure B43 y43_5  Q) ∧
  (¬ r64 = 0 → vp_in y43_5 64 ∧ (((z43_v_sure y43_5.toNatClampNeg) = (-1) → ((y43_2 = 0 → B43 (y43_5 + 1) (upd z43_v_sure y43_5.toNatClampNeg 0)) ∧
  (¬ y43_2 = 0 → B43 (y43_5 + 1) (upd z43_v_sure y43_5.toNatClampNeg 1)))) ∧
  (¬ (z43_v_sure y43_5.toNatClampNeg) = (-1) → wp_X7_finds_93 v x1 y43_2 y43_4 y43_5 z43_v_sure B43 y43_5  Q)))))))))
def wp_X7_finds_43 (v : V_X7) (x1 : Int32) (y43_2 : Int32) (y43_4 : Int32) (y43_5 : Int32) (z43_v_sure : (Nat → Int32)) (Q : Int32 → (Nat → Int32) → Prop) : Prop :=
  ∃ (I : Int32 → (Nat → Int32) → Prop) (μ : Int32 → (Nat → Int32) → Nat), I y43_5 z43_v_sure ∧ ∀ (s0 : Int32) (s1 : (Nat → Int32)), I s0 s1 → wb_X7_finds_43 v x1 y43_2 y43_4 s0 s1 (fun t0 t1 => I t0 t1 ∧ μ t0 t1 < μ s0 s1) Q
def wp_X7_finds_37 (v : V_X7) (x1 : Int32) (y37_2 : Int32) (Q : Int32 → (Nat → Int32) → Prop) : Prop :=
  wp_X7_finds_43 v x1 y37_2 0 0 (X7_sure v) Q
def wp_X7_finds_33 (v : V_X7) (x1 : Int32) (y33_2 : Int32) (Q : Int32 → (Nat → Int32) → Prop) : Prop :=
  wp_X7_finds_43 v x1 y33_2 1 0 (X7_sure v) Q
def wp_X7_finds (v : V_X7) (x1 : Int32) (Q : Int32 → (Nat → Int32) → Prop) : Prop :=
  wp_X7_numberOf v x1 (fun r2 =>
  wp_X7_besideWith v x1 1 (fun r8 =>
  wp_X7_besideWith v x1 (-1) (fun r16 =>
  ((r16 ≤ 0 → wp_X7_finds_37 v x1 (r2 - r8)  Q) ∧
  (¬ r16 ≤ 0 → (((r2 - r8) = 0 → wp_X7_finds_33 v x1 (r2 - r8)  Q) ∧
  (¬ (r2 - r8) = 0 → (((r2 - r8) = r16 → wp_X7_finds_33 v x1 (r2 - r8)  Q) ∧
  (¬ (r2 - r8) = r16 → wp_X7_finds_37 v x1 (r2 - r8)  Q)))))))))
def wp_X7_laySure_98 (v : V_X7) (z57_v_isHollow : (Nat → Int32)) (y57_1 : Int32) (z57_v_sure : (Nat → Int32)) (B57 : Int32 → (Nat → Int32) → Prop) (y65_1 : Int32) (y65_2 : Int32) (z65_v_sure : (Nat → Int32)) (B65 : Int32 → Int32 → (Nat → Int32) → Prop) (z98_v_sure : (Nat → Int32)) (k98_0 : Int32) (Q : (Nat → Int32) → (Nat → Int32) → Prop) : Prop :=
  ((y65_1 = 0 → ((k98_0 = 0 → B65 0 (y65_2 + 1) z98_v_sure) ∧
  (¬ k98_0 = 0 → B65 1 (y65_2 + 1) z98_v_sure))) ∧
  (¬ y65_1 = 0 → B65 1 (y65_2 + 1) z98_v_sure))
def wp_X7_laySure_97 (v : V_X7) (z57_v_isHollow : (Nat → Int32)) (y57_1 : Int32) (z57_v_sure : (Nat → Int32)) (B57 : Int32 → (Nat → Int32) → Prop) (y65_1 : Int32) (y65_2 : Int32) (z65_v_sure : (Nat → Int32)) (B65 : Int32 → Int32 → (Nat → Int32) → Prop) (z97_v_sure : (Nat → Int32)) (Q : (Nat → Int32) → (Nat → Int32) → Prop) : Prop :=
  wp_X7_laySure_98 v z57_v_isHollow y57_1 z57_v_sure B57 y65_1 y65_2 z65_v_sure B65 z97_v_sure 0  Q
def wb_X7_laySure_65 (v : V_X7) (z57_v_isHollow : (Nat → Int32)) (y57_1 : Int32) (z57_v_sure : (Nat → Int32)) (B57 : Int32 → (Nat → Int32) → Prop)  (y65_1 : Int32) (y65_2 : Int32) (z65_v_sure : (Nat → Int32)) (B65 : Int32 → Int32 → (Nat → Int32) → Prop) (Q : (Nat → Int32) → (Nat → Int32) → Prop) : Prop :=
  ((64 ≤ y65_2 → B57 y65_1 z65_v_sure) ∧
  (¬ 64 ≤ y65_2 → vp_in (200 + y65_2) 1472 ∧ ((((X7_s v) (200 + y65_2).toNatClampNeg) = 1 → wp_X7_finds (X7_s13 (X7_s12 v z57_v_isHollow) z65_v_sure) y65_2 (fun r87 z87_v_sure =>
  ((r87 = 0 → wp_X7_laySure_97 v z57_v_isHollow y57_1 z57_v_sure B57 y65_1 y65_2 z65_v_sure B65 z87_v_sure  Q) ∧
  (¬ r87 = 0 → wp_X7_laySure_98 v z57_v_isHollow y57_1 z57_v_sure B57 y65_1 y65_2 z65_v_sure B65 z87_v_sure 1  Q)))) ∧
  (¬ ((X7_s v) (200 + y65_2).toNatClampNeg) = 1 → wp_X7_laySure_97 v z57_v_isHollow y57_1 z57_v_sure B57 y65_1 y65_2 z65_v_sure B65 z65_v_sure  Q))))
def wp_X7_laySure_65 (v : V_X7) (z57_v_isHollow : (Nat → Int32)) (y57_1 : Int32) (z57_v_sure : (Nat → Int32)) (B57 : Int32 → (Nat → Int32) → Prop)  (y65_1 : Int32) (y65_2 : Int32) (z65_v_sure : (Nat → Int32)) (Q : (Nat → Int32) → (Nat → Int32) → Prop) : Prop :=
  ∃ (I : Int32 → Int32 → (Nat → Int32) → Prop) (μ : Int32 → Int32 → (Nat → Int32) → Nat), I y65_1 y65_2 z65_v_sure ∧ ∀ (s0 : Int32) (s1 : Int32) (s2 : (Nat → Int32)), I s0 s1 s2 → wb_X7_laySure_65 v z57_v_isHollow y57_1 z57_v_sure B57  s0 s1 s2 (fun t0 t1 t2 => I t0 t1 t2 ∧ μ t0 t1 t2 < μ s0 s1 s2) Q
def wb_X7_laySure_57 (v : V_X7) (z57_v_isHollow : (Nat → Int32)) (y57_1 : Int32) (z57_v_sure : (Nat → Int32)) (B57 : Int32 → (Nat → Int32) → Prop) (Q : (Nat → Int32) → (Nat → Int32) → Prop) : Prop :=
  ((y57_1 = 0 → Q z57_v_isHollow z57_v_sure) ∧
  (¬ y57_1 = 0 → wp_X7_laySure_65 v z57_v_isHollow y57_1 z57_v_sure B57  0 0 z57_v_sure Q))
def wp_X7_laySure_57 (v : V_X7) (z57_v_isHollow : (Nat → Int32)) (y57_1 : Int32) (z57_v_sure : (Nat → Int32)) (Q : (Nat → Int32) → (Nat → Int32) → Prop) : Prop :=
  ∃ (I : Int32 → (Nat → Int32) → Prop) (μ : Int32 → (Nat → Int32) → Nat), I y57_1 z57_v_sure ∧ ∀ (s0 : Int32) (s1 : (Nat → Int32)), I s0 s1 → wb_X7_laySure_57 v z57_v_isHollow s0 s1 (fun t0 t1 => I t0 t1 ∧ μ t0 t1 < μ s0 s1) Q
def wb_X7_laySure_6 (v : V_X7) (z6_v_isHollow : (Nat → Int32)) (y6_1 : Int32) (z6_v_sure : (Nat → Int32)) (B6 : Int32 → (Nat → Int32) → Prop) (Q : (Nat → Int32) → (Nat → Int32) → Prop) : Prop :=
  ((64 ≤ y6_1 → wp_X7_laySure_57 v z6_v_isHollow 1 z6_v_sure Q) ∧
  (¬ 64 ≤ y6_1 → vp_in (200 + y6_1) 1472 ∧ ((((X7_s v) (200 + y6_1).toNatClampNeg) = 0 → vp_in y6_1 64 ∧ B6 (y6_1 + 1) (upd z6_v_sure y6_1.toNatClampNeg (-1))) ∧
  (¬ ((X7_s v) (200 + y6_1).toNatClampNeg) = 0 → vp_in y6_1 64 ∧ (((z6_v_isHollow y6_1.toNatClampNeg) = 0 → B6 (y6_1 + 1) (upd z6_v_sure y6_1.toNatClampNeg 0)) ∧
  (¬ (z6_v_isHollow y6_1.toNatClampNeg) = 0 → B6 (y6_1 + 1) (upd z6_v_sure y6_1.toNatClampNeg 1)))))))
def wp_X7_laySure_6 (v : V_X7) (z6_v_isHollow : (Nat → Int32)) (y6_1 : Int32) (z6_v_sure : (Nat → Int32)) (Q : (Nat → Int32) → (Nat → Int32) → Prop) : Prop :=
  ∃ (I : Int32 → (Nat → Int32) → Prop) (μ : Int32 → (Nat → Int32) → Nat), I y6_1 z6_v_sure ∧ ∀ (s0 : Int32) (s1 : (Nat → Int32)), I s0 s1 → wb_X7_laySure_6 v z6_v_isHollow s0 s1 (fun t0 t1 => I t0 t1 ∧ μ t0 t1 < μ s0 s1) Q
def wp_X7_laySure (v : V_X7) (Q : (Nat → Int32) → (Nat → Int32) → Prop) : Prop :=
  wp_X7_layHollow v (fun z1_v_isHollow =>
  wp_X7_laySure_6 v z1_v_isHollow 0 (X7_sure v) Q)
def wp_X7_tunnelsWith_37 (v : V_X7) (x1 : Int32) (y4_2 : Int32) (y4_3 : Int32) (B4 : Int32 → Int32 → Prop) (k37_0 : Int32) (k37_1 : Int32) (Q : Int32 → Prop) : Prop :=
  wp_X7_endFrom v y4_3 (fun r41 =>
  B4 (k37_1 + k37_0) (r41 + 1))
def wb_X7_tunnelsWith_4 (v : V_X7) (x1 : Int32)  (y4_2 : Int32) (y4_3 : Int32) (B4 : Int32 → Int32 → Prop) (Q : Int32 → Prop) : Prop :=
  vp_in 7 1472 ∧ ((((X7_s v) (7 : Int32).toNatClampNeg) ≤ y4_3 → Q y4_2) ∧
  (¬ ((X7_s v) (7 : Int32).toNatClampNeg) ≤ y4_3 → wp_X7_endFrom v y4_3 (fun r21 =>
  wp_X7_find v x1 y4_3 r21 0 (fun r25 =>
  ((r25 = (-1) → wp_X7_tunnelsWith_37 v x1 y4_2 y4_3 B4 0 y4_2  Q) ∧
  (¬ r25 = (-1) → wp_X7_tunnelsWith_37 v x1 y4_2 y4_3 B4 1 y4_2  Q))))))
def wp_X7_tunnelsWith_4 (v : V_X7) (x1 : Int32)  (y4_2 : Int32) (y4_3 : Int32) (Q : Int32 → Prop) : Prop :=
  ∃ (I : Int32 → Int32 → Prop) (μ : Int32 → Int32 → Nat), I y4_2 y4_3 ∧ ∀ (s0 : Int32) (s1 : Int32), I s0 s1 → wb_X7_tunnelsWith_4 v x1  s0 s1 (fun t0 t1 => I t0 t1 ∧ μ t0 t1 < μ s0 s1) Q
def wp_X7_tunnelsWith (v : V_X7) (x1 : Int32) (Q : Int32 → Prop) : Prop :=
  wp_X7_tunnelsWith_4 v x1  0 0 Q
def wb_X7_molesAt_4 (v : V_X7) (x1 : Int32)  (y4_2 : Int32) (y4_3 : Int32) (B4 : Int32 → Int32 → Prop) (Q : Int32 → Prop) : Prop :=
  vp_in 1 1472 ∧ ((((X7_s v) (1 : Int32).toNatClampNeg) ≤ y4_3 → Q y4_2) ∧
  (¬ ((X7_s v) (1 : Int32).toNatClampNeg) ≤ y4_3 → wp_X7_of y4_3 0 (fun r21 =>
  vp_in r21 1472 ∧ ((((X7_s v) r21.toNatClampNeg) = x1 → B4 (y4_2 + 1) (y4_3 + 1)) ∧
  (¬ ((X7_s v) r21.toNatClampNeg) = x1 → B4 (y4_2 + 0) (y4_3 + 1))))))
def wp_X7_molesAt_4 (v : V_X7) (x1 : Int32)  (y4_2 : Int32) (y4_3 : Int32) (Q : Int32 → Prop) : Prop :=
  ∃ (I : Int32 → Int32 → Prop) (μ : Int32 → Int32 → Nat), I y4_2 y4_3 ∧ ∀ (s0 : Int32) (s1 : Int32), I s0 s1 → wb_X7_molesAt_4 v x1  s0 s1 (fun t0 t1 => I t0 t1 ∧ μ t0 t1 < μ s0 s1) Q
def wp_X7_molesAt (v : V_X7) (x1 : Int32) (Q : Int32 → Prop) : Prop :=
  wp_X7_molesAt_4 v x1  0 0 Q
def wp_X7_toldOfTuft (v : V_X7) (x1 : Int32) (x2 : Int32) (Q : Int32 → (Nat → Int32) → (Nat → Int32) → Prop) : Prop :=
  ((x2 = 0 → vp_in (8 + x1) 1472 ∧ Q ((X7_s v) (8 + x1).toNatClampNeg) (X7_isHollow v) (X7_sure v)) ∧
  (¬ x2 = 0 → ((x2 = 1 → vp_in (72 + x1) 1472 ∧ Q ((X7_s v) (72 + x1).toNatClampNeg) (X7_isHollow v) (X7_sure v)) ∧
  (¬ x2 = 1 → ((x2 = 2 → vp_in (136 + x1) 1472 ∧ Q ((X7_s v) (136 + x1).toNatClampNeg) (X7_isHollow v) (X7_sure v)) ∧
  (¬ x2 = 2 → ((x2 = 3 → wp_X7_layHollow v (fun z80_v_isHollow =>
  vp_in x1 64 ∧ (((z80_v_isHollow x1.toNatClampNeg) = 0 → Q 0 z80_v_isHollow (X7_sure v)) ∧
  (¬ (z80_v_isHollow x1.toNatClampNeg) = 0 → Q 1 z80_v_isHollow (X7_sure v))))) ∧
  (¬ x2 = 3 → ((x2 = 4 → wp_X7_layHollow v (fun z99_v_isHollow =>
  wp_X7_numberOf (X7_s12 v z99_v_isHollow) x1 (fun r104 =>
  Q r104 z99_v_isHollow (X7_sure v)))) ∧
  (¬ x2 = 4 → ((x2 = 5 → vp_in (200 + x1) 1472 ∧ Q ((X7_s v) (200 + x1).toNatClampNeg) (X7_isHollow v) (X7_sure v)) ∧
  (¬ x2 = 5 → ((x2 = 6 → wp_X7_laySure v (fun z120_v_isHollow z120_v_sure =>
  vp_in x1 64 ∧ Q (z120_v_sure x1.toNatClampNeg) z120_v_isHollow z120_v_sure)) ∧
  (¬ x2 = 6 → ((x2 = 7 → wp_X7_tunnelsWith v x1 (fun r132 =>
  Q r132 (X7_isHollow v) (X7_sure v))) ∧
  (¬ x2 = 7 → wp_X7_molesAt v x1 (fun r138 =>
  Q r138 (X7_isHollow v) (X7_sure v))))))))))))))))))
def wp_X7_tuft_27 (v : V_X7) (x1 : Int32) (x2 : Int32) (k27_0 : Int32) (Q : Int32 → (Nat → Int32) → (Nat → Int32) → Int32 → Prop) : Prop :=
  wp_X7_holds v k27_0 (fun r27 z27_v_thrown =>
  ((r27 = 0 → Q 0 (X7_isHollow v) (X7_sure v) z27_v_thrown) ∧
  (¬ r27 = 0 → wp_X7_toldOfTuft (X7_s8 v z27_v_thrown) x1 x2 (fun r36 z36_v_isHollow z36_v_sure =>
  Q r36 z36_v_isHollow z36_v_sure z27_v_thrown))))
def wp_X7_tuft (v : V_X7) (x1 : Int32) (x2 : Int32) (Q : Int32 → (Nat → Int32) → (Nat → Int32) → Int32 → Prop) : Prop :=
  wp_X7_isTuft x1 (fun r2 =>
  ((r2 = 0 → wp_X7_tuft_27 v x1 x2 1  Q) ∧
  (¬ r2 = 0 → wp_X7_in x2 0 8 (fun r16 =>
  ((r16 = 0 → wp_X7_tuft_27 v x1 x2 2  Q) ∧
  (¬ r16 = 0 → wp_X7_tuft_27 v x1 x2 0  Q))))))
def wp_X7_toldOfMole (v : V_X7) (x1 : Int32) (x2 : Int32) (Q : Int32 → Prop) : Prop :=
  ((x2 = 0 → wp_X7_of x1 x2 (fun r46 =>
  vp_in r46 1472 ∧ Q ((X7_s v) r46.toNatClampNeg))) ∧
  (¬ x2 = 0 → ((x2 = 1 → wp_X7_of x1 x2 (fun r46 =>
  vp_in r46 1472 ∧ Q ((X7_s v) r46.toNatClampNeg))) ∧
  (¬ x2 = 1 → ((x2 = 2 → wp_X7_of x1 x2 (fun r46 =>
  vp_in r46 1472 ∧ Q ((X7_s v) r46.toNatClampNeg))) ∧
  (¬ x2 = 2 → ((x2 = 3 → wp_X7_of x1 2 (fun r57 =>
  vp_in r57 1472 ∧ ((((X7_s v) r57.toNatClampNeg) = 0 → Q (-1)) ∧
  (¬ ((X7_s v) r57.toNatClampNeg) = 0 → wp_X7_of x1 3 (fun r74 =>
  vp_in r74 1472 ∧ Q ((X7_s v) r74.toNatClampNeg)))))) ∧
  (¬ x2 = 3 → ((x2 = 4 → wp_X7_of x1 24 (fun r86 =>
  vp_in r86 1472 ∧ Q ((X7_s v) r86.toNatClampNeg))) ∧
  (¬ x2 = 4 → ((x2 = 5 → wp_X7_of x1 23 (fun r98 =>
  vp_in r98 1472 ∧ Q ((X7_s v) r98.toNatClampNeg))) ∧
  (¬ x2 = 5 → wp_X7_of x1 45 (fun r110 =>
  vp_in r110 1472 ∧ Q ((X7_s v) r110.toNatClampNeg))))))))))))))
def wp_X7_moleOf_28 (v : V_X7) (x1 : Int32) (x2 : Int32) (k28_0 : Int32) (Q : Int32 → Int32 → Prop) : Prop :=
  wp_X7_holds v k28_0 (fun r28 z28_v_thrown =>
  ((r28 = 0 → Q 0 z28_v_thrown) ∧
  (¬ r28 = 0 → wp_X7_toldOfMole (X7_s8 v z28_v_thrown) x1 x2 (fun r37 =>
  Q r37 z28_v_thrown))))
def wp_X7_moleOf (v : V_X7) (x1 : Int32) (x2 : Int32) (Q : Int32 → Int32 → Prop) : Prop :=
  wp_X7_isMole v x1 (fun r3 =>
  ((r3 = 0 → wp_X7_moleOf_28 v x1 x2 1  Q) ∧
  (¬ r3 = 0 → wp_X7_in x2 0 6 (fun r17 =>
  ((r17 = 0 → wp_X7_moleOf_28 v x1 x2 2  Q) ∧
  (¬ r17 = 0 → wp_X7_moleOf_28 v x1 x2 0  Q))))))
def wp_X7_isTunnel (v : V_X7) (x1 : Int32) (Q : Int32 → Prop) : Prop :=
  wp_X7_tunnels v (fun r3 =>
  wp_X7_in x1 0 (r3 - 1) (fun r8 =>
  bz r8 ∧ Q r8))
def wp_X7_toldOfTunnel (v : V_X7) (x1 : Int32) (x2 : Int32) (Q : Int32 → Prop) : Prop :=
  wp_X7_beginOf v x1 (fun r2 =>
  wp_X7_endFrom v r2 (fun r8 =>
  ((x2 = 0 → wp_X7_tuftAt v r2 (fun r19 =>
  Q r19)) ∧
  (¬ x2 = 0 → ((x2 = 1 → wp_X7_tuftAt v r8 (fun r33 =>
  Q r33)) ∧
  (¬ x2 = 1 → Q ((r8 - r2) + 1)))))))
def wp_X7_tunnel_27 (v : V_X7) (x1 : Int32) (x2 : Int32) (k27_0 : Int32) (Q : Int32 → Int32 → Prop) : Prop :=
  wp_X7_holds v k27_0 (fun r27 z27_v_thrown =>
  ((r27 = 0 → Q 0 z27_v_thrown) ∧
  (¬ r27 = 0 → wp_X7_toldOfTunnel (X7_s8 v z27_v_thrown) x1 x2 (fun r36 =>
  Q r36 z27_v_thrown))))
def wp_X7_tunnel (v : V_X7) (x1 : Int32) (x2 : Int32) (Q : Int32 → Int32 → Prop) : Prop :=
  wp_X7_isTunnel v x1 (fun r3 =>
  ((r3 = 0 → wp_X7_tunnel_27 v x1 x2 1  Q) ∧
  (¬ r3 = 0 → wp_X7_in x2 0 2 (fun r16 =>
  ((r16 = 0 → wp_X7_tunnel_27 v x1 x2 2  Q) ∧
  (¬ r16 = 0 → wp_X7_tunnel_27 v x1 x2 0  Q))))))
def wp_X7_cellOf (v : V_X7) (x1 : Int32) (x2 : Int32) (Q : Int32 → Prop) : Prop :=
  wp_X7_toldOfTunnel v x1 2 (fun r4 =>
  ((r4 ≤ x2 → Q (-1)) ∧
  (¬ r4 ≤ x2 → wp_X7_beginOf v x1 (fun r13 =>
  wp_X7_tuftAt v (r13 + x2) (fun r18 =>
  Q r18)))))
def wp_X7_cell_22 (v : V_X7) (x1 : Int32) (x2 : Int32) (k22_0 : Int32) (Q : Int32 → Int32 → Prop) : Prop :=
  wp_X7_holds v k22_0 (fun r22 z22_v_thrown =>
  ((r22 = 0 → Q 0 z22_v_thrown) ∧
  (¬ r22 = 0 → wp_X7_cellOf (X7_s8 v z22_v_thrown) x1 x2 (fun r31 =>
  Q r31 z22_v_thrown))))
def wp_X7_cell (v : V_X7) (x1 : Int32) (x2 : Int32) (Q : Int32 → Int32 → Prop) : Prop :=
  wp_X7_isTunnel v x1 (fun r3 =>
  ((r3 = 0 → wp_X7_cell_22 v x1 x2 1  Q) ∧
  (¬ r3 = 0 → ((0 ≤ x2 → wp_X7_cell_22 v x1 x2 0  Q) ∧
  (¬ 0 ≤ x2 → wp_X7_cell_22 v x1 x2 2  Q)))))
def wp_X7_layAway_228 (v : V_X7) (x1 : Int32) (y42_2 : Int32) (z42_v_away : (Nat → Int32)) (B42 : Int32 → (Nat → Int32) → Prop) (y50_2 : Int32) (y50_3 : Int32) (z50_v_away : (Nat → Int32)) (B50 : Int32 → Int32 → (Nat → Int32) → Prop) (z228_v_away : (Nat → Int32)) (k228_0 : Int32) (Q : (Nat → Int32) → Prop) : Prop :=
  wp_X7_endFrom (X7_s14 v z228_v_away) y50_3 (fun r231 =>
  B50 k228_0 (r231 + 1) z228_v_away)
def wp_X7_layAway_223 (v : V_X7) (x1 : Int32) (y42_2 : Int32) (z42_v_away : (Nat → Int32)) (B42 : Int32 → (Nat → Int32) → Prop) (y50_2 : Int32) (y50_3 : Int32) (z50_v_away : (Nat → Int32)) (B50 : Int32 → Int32 → (Nat → Int32) → Prop) (z223_v_away : (Nat → Int32)) (Q : (Nat → Int32) → Prop) : Prop :=
  wp_X7_layAway_228 v x1 y42_2 z42_v_away B42 y50_2 y50_3 z50_v_away B50 z223_v_away 1  Q
def wp_X7_layAway_213 (v : V_X7) (x1 : Int32) (y42_2 : Int32) (z42_v_away : (Nat → Int32)) (B42 : Int32 → (Nat → Int32) → Prop) (y50_2 : Int32) (y50_3 : Int32) (z50_v_away : (Nat → Int32)) (B50 : Int32 → Int32 → (Nat → Int32) → Prop) (y213_6 : Int32) (z213_v_away : (Nat → Int32)) (k213_0 : Int32) (k213_1 : Int32) (Q : (Nat → Int32) → Prop) : Prop :=
  vp_in k213_1 64 ∧ ((y50_2 = 0 → ((y213_6 = 0 → wp_X7_layAway_228 v x1 y42_2 z42_v_away B42 y50_2 y50_3 z50_v_away B50 (upd z213_v_away k213_1.toNatClampNeg k213_0) 0  Q) ∧
  (¬ y213_6 = 0 → wp_X7_layAway_223 v x1 y42_2 z42_v_away B42 y50_2 y50_3 z50_v_away B50 (upd z213_v_away k213_1.toNatClampNeg k213_0)  Q))) ∧
  (¬ y50_2 = 0 → wp_X7_layAway_223 v x1 y42_2 z42_v_away B42 y50_2 y50_3 z50_v_away B50 (upd z213_v_away k213_1.toNatClampNeg k213_0)  Q))
def wp_X7_layAway_168 (v : V_X7) (x1 : Int32) (y42_2 : Int32) (z42_v_away : (Nat → Int32)) (B42 : Int32 → (Nat → Int32) → Prop) (y50_2 : Int32) (y50_3 : Int32) (z50_v_away : (Nat → Int32)) (B50 : Int32 → Int32 → (Nat → Int32) → Prop) (y168_4 : Int32) (y168_5 : Int32) (y168_6 : Int32) (k168_0 : Int32) (k168_1 : Int32) (Q : (Nat → Int32) → Prop) : Prop :=
  vp_in k168_1 64 ∧ vp_in y168_5 64 ∧ vp_in y168_4 64 ∧ ((((upd z50_v_away k168_1.toNatClampNeg k168_0) y168_4.toNatClampNeg) ≤ (((upd z50_v_away k168_1.toNatClampNeg k168_0) y168_5.toNatClampNeg) + 1) → wp_X7_layAway_213 v x1 y42_2 z42_v_away B42 y50_2 y50_3 z50_v_away B50 y168_6 (upd z50_v_away k168_1.toNatClampNeg k168_0) ((upd z50_v_away k168_1.toNatClampNeg k168_0) y168_4.toNatClampNeg) y168_4  Q) ∧
  (¬ ((upd z50_v_away k168_1.toNatClampNeg k168_0) y168_4.toNatClampNeg) ≤ (((upd z50_v_away k168_1.toNatClampNeg k168_0) y168_5.toNatClampNeg) + 1) → wp_X7_layAway_213 v x1 y42_2 z42_v_away B42 y50_2 y50_3 z50_v_away B50 y168_6 (upd z50_v_away k168_1.toNatClampNeg k168_0) (((upd z50_v_away k168_1.toNatClampNeg k168_0) y168_5.toNatClampNeg) + 1) y168_4  Q))
def wp_X7_layAway_122 (v : V_X7) (x1 : Int32) (y42_2 : Int32) (z42_v_away : (Nat → Int32)) (B42 : Int32 → (Nat → Int32) → Prop) (y50_2 : Int32) (y50_3 : Int32) (z50_v_away : (Nat → Int32)) (B50 : Int32 → Int32 → (Nat → Int32) → Prop) (y122_4 : Int32) (y122_5 : Int32) (k122_0 : Int32) (Q : (Nat → Int32) → Prop) : Prop :=
  vp_in y122_4 64 ∧ vp_in y122_5 64 ∧ (((z50_v_away y122_5.toNatClampNeg) ≤ ((z50_v_away y122_4.toNatClampNeg) + 1) → wp_X7_layAway_168 v x1 y42_2 z42_v_away B42 y50_2 y50_3 z50_v_away B50 y122_4 y122_5 k122_0 (z50_v_away y122_5.toNatClampNeg) y122_5  Q) ∧
  (¬ (z50_v_away y122_5.toNatClampNeg) ≤ ((z50_v_away y122_4.toNatClampNeg) + 1) → wp_X7_layAway_168 v x1 y42_2 z42_v_away B42 y50_2 y50_3 z50_v_away B50 y122_4 y122_5 k122_0 ((z50_v_away y122_4.toNatClampNeg) + 1) y122_5  Q))
def wp_X7_layAway_117 (v : V_X7) (x1 : Int32) (y42_2 : Int32) (z42_v_away : (Nat → Int32)) (B42 : Int32 → (Nat → Int32) → Prop) (y50_2 : Int32) (y50_3 : Int32) (z50_v_away : (Nat → Int32)) (B50 : Int32 → Int32 → (Nat → Int32) → Prop) (y117_4 : Int32) (y117_5 : Int32) (Q : (Nat → Int32) → Prop) : Prop :=
  wp_X7_layAway_122 v x1 y42_2 z42_v_away B42 y50_2 y50_3 z50_v_away B50 y117_4 y117_5 1  Q
def wb_X7_layAway_50 (v : V_X7) (x1 : Int32) (y42_2 : Int32) (z42_v_away : (Nat → Int32)) (B42 : Int32 → (Nat → Int32) → Prop)  (y50_2 : Int32) (y50_3 : Int32) (z50_v_away : (Nat → Int32)) (B50 : Int32 → Int32 → (Nat → Int32) → Prop) (Q : (Nat → Int32) → Prop) : Prop :=
  vp_in 7 1472 ∧ ((((X7_s v) (7 : Int32).toNatClampNeg) ≤ y50_3 → B42 y50_2 z50_v_away) ∧
  (¬ ((X7_s v) (7 : Int32).toNatClampNeg) ≤ y50_3 → wp_X7_tuftAt (X7_s14 v z50_v_away) y50_3 (fun r63 =>
  wp_X7_endFrom (X7_s14 v z50_v_away) y50_3 (fun r71 =>
  wp_X7_tuftAt (X7_s14 v z50_v_away) r71 (fun r74 =>
  vp_in r63 64 ∧ vp_in r74 64 ∧ ((((z50_v_away r63.toNatClampNeg) + 1) < (z50_v_away r74.toNatClampNeg) → wp_X7_layAway_117 v x1 y42_2 z42_v_away B42 y50_2 y50_3 z50_v_away B50 r63 r74  Q) ∧
  (¬ ((z50_v_away r63.toNatClampNeg) + 1) < (z50_v_away r74.toNatClampNeg) → (((z50_v_away r63.toNatClampNeg) ≤ ((z50_v_away r74.toNatClampNeg) + 1) → wp_X7_layAway_122 v x1 y42_2 z42_v_away B42 y50_2 y50_3 z50_v_away B50 r63 r74 0  Q) ∧
  (¬ (z50_v_away r63.toNatClampNeg) ≤ ((z50_v_away r74.toNatClampNeg) + 1) → wp_X7_layAway_117 v x1 y42_2 z42_v_away B42 y50_2 y50_3 z50_v_away B50 r63 r74  Q)))))))))
def wp_X7_layAway_50 (v : V_X7) (x1 : Int32) (y42_2 : Int32) (z42_v_away : (Nat → Int32)) (B42 : Int32 → (Nat → Int32) → Prop)  (y50_2 : Int32) (y50_3 : Int32) (z50_v_away : (Nat → Int32)) (Q : (Nat → Int32) → Prop) : Prop :=
  ∃ (I : Int32 → Int32 → (Nat → Int32) → Prop) (μ : Int32 → Int32 → (Nat → Int32) → Nat), I y50_2 y50_3 z50_v_away ∧ ∀ (s0 : Int32) (s1 : Int32) (s2 : (Nat → Int32)), I s0 s1 s2 → wb_X7_layAway_50 v x1 y42_2 z42_v_away B42  s0 s1 s2 (fun t0 t1 t2 => I t0 t1 t2 ∧ μ t0 t1 t2 < μ s0 s1 s2) Q
def wb_X7_layAway_42 (v : V_X7) (x1 : Int32)  (y42_2 : Int32) (z42_v_away : (Nat → Int32)) (B42 : Int32 → (Nat → Int32) → Prop) (Q : (Nat → Int32) → Prop) : Prop :=
  ((y42_2 = 0 → Q z42_v_away) ∧
  (¬ y42_2 = 0 → wp_X7_layAway_50 v x1 y42_2 z42_v_away B42  0 0 z42_v_away Q))
def wp_X7_layAway_42 (v : V_X7) (x1 : Int32)  (y42_2 : Int32) (z42_v_away : (Nat → Int32)) (Q : (Nat → Int32) → Prop) : Prop :=
  ∃ (I : Int32 → (Nat → Int32) → Prop) (μ : Int32 → (Nat → Int32) → Nat), I y42_2 z42_v_away ∧ ∀ (s0 : Int32) (s1 : (Nat → Int32)), I s0 s1 → wb_X7_layAway_42 v x1  s0 s1 (fun t0 t1 => I t0 t1 ∧ μ t0 t1 < μ s0 s1) Q
def wb_X7_layAway_2 (v : V_X7) (x1 : Int32)  (y2_2 : Int32) (z2_v_away : (Nat → Int32)) (B2 : Int32 → (Nat → Int32) → Prop) (Q : (Nat → Int32) → Prop) : Prop :=
  ((64 ≤ y2_2 → wp_X7_layAway_42 v x1  1 z2_v_away Q) ∧
  (¬ 64 ≤ y2_2 → ((y2_2 = x1 → wp_X7_hasMound (X7_s14 v z2_v_away) y2_2 (fun r20 =>
  ((r20 = 0 → vp_in y2_2 64 ∧ B2 (y2_2 + 1) (upd z2_v_away y2_2.toNatClampNeg 1000)) ∧
  (¬ r20 = 0 → vp_in y2_2 64 ∧ B2 (y2_2 + 1) (upd z2_v_away y2_2.toNatClampNeg 0))))) ∧
  (¬ y2_2 = x1 → vp_in y2_2 64 ∧ B2 (y2_2 + 1) (upd z2_v_away y2_2.toNatClampNeg 1000)))))
def wp_X7_layAway_2 (v : V_X7) (x1 : Int32)  (y2_2 : Int32) (z2_v_away : (Nat → Int32)) (Q : (Nat → Int32) → Prop) : Prop :=
  ∃ (I : Int32 → (Nat → Int32) → Prop) (μ : Int32 → (Nat → Int32) → Nat), I y2_2 z2_v_away ∧ ∀ (s0 : Int32) (s1 : (Nat → Int32)), I s0 s1 → wb_X7_layAway_2 v x1  s0 s1 (fun t0 t1 => I t0 t1 ∧ μ t0 t1 < μ s0 s1) Q
def wp_X7_layAway (v : V_X7) (x1 : Int32) (Q : (Nat → Int32) → Prop) : Prop :=
  wp_X7_layAway_2 v x1  0 (X7_away v) Q
def wb_X7_groups_24 (v : V_X7) (y4_1 : Int32) (y4_2 : Int32) (z4_v_away : (Nat → Int32)) (B4 : Int32 → Int32 → (Nat → Int32) → Prop) (z24_v_away : (Nat → Int32)) (y24_3 : Int32) (y24_4 : Int32) (B24 : Int32 → Int32 → Prop) (Q : Int32 → (Nat → Int32) → Prop) : Prop :=
  ((y4_2 ≤ y24_4 → ((y24_3 = 0 → B4 (y4_1 + 0) (y4_2 + 1) z24_v_away) ∧
  (¬ y24_3 = 0 → B4 (y4_1 + 1) (y4_2 + 1) z24_v_away))) ∧
  (¬ y4_2 ≤ y24_4 → ((y24_3 = 0 → B24 0 (y24_4 + 1)) ∧
  (¬ y24_3 = 0 → vp_in y24_4 64 ∧ (((z24_v_away y24_4.toNatClampNeg) = 1000 → B24 1 (y24_4 + 1)) ∧
  (¬ (z24_v_away y24_4.toNatClampNeg) = 1000 → B24 0 (y24_4 + 1)))))))
def wp_X7_groups_24 (v : V_X7) (y4_1 : Int32) (y4_2 : Int32) (z4_v_away : (Nat → Int32)) (B4 : Int32 → Int32 → (Nat → Int32) → Prop) (z24_v_away : (Nat → Int32)) (y24_3 : Int32) (y24_4 : Int32) (Q : Int32 → (Nat → Int32) → Prop) : Prop :=
  ∃ (I : Int32 → Int32 → Prop) (μ : Int32 → Int32 → Nat), I y24_3 y24_4 ∧ ∀ (s0 : Int32) (s1 : Int32), I s0 s1 → wb_X7_groups_24 v y4_1 y4_2 z4_v_away B4 z24_v_away s0 s1 (fun t0 t1 => I t0 t1 ∧ μ t0 t1 < μ s0 s1) Q
def wb_X7_groups_4 (v : V_X7)  (y4_1 : Int32) (y4_2 : Int32) (z4_v_away : (Nat → Int32)) (B4 : Int32 → Int32 → (Nat → Int32) → Prop) (Q : Int32 → (Nat → Int32) → Prop) : Prop :=
  ((64 ≤ y4_2 → Q y4_1 z4_v_away) ∧
  (¬ 64 ≤ y4_2 → wp_X7_layAway (X7_s14 v z4_v_away) y4_2 (fun z12_v_away =>
  wp_X7_hasMound (X7_s14 v z12_v_away) y4_2 (fun r17 =>
  wp_X7_groups_24 v y4_1 y4_2 z4_v_away B4 z12_v_away r17 0 Q))))
def wp_X7_groups_4 (v : V_X7)  (y4_1 : Int32) (y4_2 : Int32) (z4_v_away : (Nat → Int32)) (Q : Int32 → (Nat → Int32) → Prop) : Prop :=
  ∃ (I : Int32 → Int32 → (Nat → Int32) → Prop) (μ : Int32 → Int32 → (Nat → Int32) → Nat), I y4_1 y4_2 z4_v_away ∧ ∀ (s0 : Int32) (s1 : Int32) (s2 : (Nat → Int32)), I s0 s1 s2 → wb_X7_groups_4 v  s0 s1 s2 (fun t0 t1 t2 => I t0 t1 t2 ∧ μ t0 t1 t2 < μ s0 s1 s2) Q
def wp_X7_groups (v : V_X7) (Q : Int32 → (Nat → Int32) → Prop) : Prop :=
  wp_X7_groups_4 v  0 0 (X7_away v) Q
def wb_X7_sumOf_4 (v : V_X7) (x1 : Int32)  (y4_2 : Int32) (y4_3 : Int32) (B4 : Int32 → Int32 → Prop) (Q : Int32 → Prop) : Prop :=
  ((64 ≤ y4_3 → Q y4_2) ∧
  (¬ 64 ≤ y4_3 → vp_in (x1 + y4_3) 1472 ∧ ((((X7_s v) (x1 + y4_3).toNatClampNeg) ≤ 0 → B4 (y4_2 + 0) (y4_3 + 1)) ∧
  (¬ ((X7_s v) (x1 + y4_3).toNatClampNeg) ≤ 0 → B4 (y4_2 + 1) (y4_3 + 1)))))
def wp_X7_sumOf_4 (v : V_X7) (x1 : Int32)  (y4_2 : Int32) (y4_3 : Int32) (Q : Int32 → Prop) : Prop :=
  ∃ (I : Int32 → Int32 → Prop) (μ : Int32 → Int32 → Nat), I y4_2 y4_3 ∧ ∀ (s0 : Int32) (s1 : Int32), I s0 s1 → wb_X7_sumOf_4 v x1  s0 s1 (fun t0 t1 => I t0 t1 ∧ μ t0 t1 < μ s0 s1) Q
def wp_X7_sumOf (v : V_X7) (x1 : Int32) (Q : Int32 → Prop) : Prop :=
  wp_X7_sumOf_4 v x1  0 0 Q
def wp_X7_counted (v : V_X7) (x1 : Int32) (Q : Int32 → (Nat → Int32) → (Nat → Int32) → Prop) : Prop :=
  ((x1 = 0 → vp_in x1 1472 ∧ Q ((X7_s v) x1.toNatClampNeg) (X7_away v) (X7_isHollow v)) ∧
  (¬ x1 = 0 → ((x1 = 1 → vp_in x1 1472 ∧ Q ((X7_s v) x1.toNatClampNeg) (X7_away v) (X7_isHollow v)) ∧
  (¬ x1 = 1 → ((x1 = 2 → vp_in x1 1472 ∧ Q ((X7_s v) x1.toNatClampNeg) (X7_away v) (X7_isHollow v)) ∧
  (¬ x1 = 2 → ((x1 = 3 → wp_X7_sumOf v 8 (fun r82 =>
  Q r82 (X7_away v) (X7_isHollow v))) ∧
  (¬ x1 = 3 → ((x1 = 4 → wp_X7_tunnels v (fun r87 =>
  Q r87 (X7_away v) (X7_isHollow v))) ∧
  (¬ x1 = 4 → ((x1 = 5 → wp_X7_hollow v (fun r92 z92_v_isHollow =>
  Q r92 (X7_away v) z92_v_isHollow)) ∧
  (¬ x1 = 5 → ((x1 = 6 → wp_X7_sumOf v 200 (fun r100 =>
  Q r100 (X7_away v) (X7_isHollow v))) ∧
  (¬ x1 = 6 → ((x1 = 7 → wp_X7_traps v (fun r105 =>
  Q r105 (X7_away v) (X7_isHollow v))) ∧
  (¬ x1 = 7 → ((x1 = 8 → wp_X7_sumOf v 72 (fun r112 =>
  Q r112 (X7_away v) (X7_isHollow v))) ∧
  (¬ x1 = 8 → ((x1 = 9 → vp_in ((3 + x1) - 9) 1472 ∧ Q ((X7_s v) ((3 + x1) - 9).toNatClampNeg) (X7_away v) (X7_isHollow v)) ∧
  (¬ x1 = 9 → ((x1 = 10 → vp_in ((3 + x1) - 9) 1472 ∧ Q ((X7_s v) ((3 + x1) - 9).toNatClampNeg) (X7_away v) (X7_isHollow v)) ∧
  (¬ x1 = 10 → ((x1 = 11 → vp_in ((3 + x1) - 9) 1472 ∧ Q ((X7_s v) ((3 + x1) - 9).toNatClampNeg) (X7_away v) (X7_isHollow v)) ∧
  (¬ x1 = 11 → ((x1 = 12 → wp_X7_groups v (fun r129 z129_v_away =>
  Q r129 z129_v_away (X7_isHollow v))) ∧
  (¬ x1 = 12 → ((x1 = 13 → vp_in 6 1472 ∧ Q ((X7_s v) (6 : Int32).toNatClampNeg) (X7_away v) (X7_isHollow v)) ∧
  (¬ x1 = 13 → Q (X7_savedMany v) (X7_away v) (X7_isHollow v)))))))))))))))))))))))))))))
def wp_X7_count_16 (v : V_X7) (x1 : Int32) (k16_0 : Int32) (Q : Int32 → (Nat → Int32) → (Nat → Int32) → Int32 → Prop) : Prop :=
  wp_X7_holds v k16_0 (fun r16 z16_v_thrown =>
  ((r16 = 0 → Q 0 (X7_away v) (X7_isHollow v) z16_v_thrown) ∧
  (¬ r16 = 0 → wp_X7_counted (X7_s8 v z16_v_thrown) x1 (fun r24 z24_v_away z24_v_isHollow =>
  Q r24 z24_v_away z24_v_isHollow z16_v_thrown))))
def wp_X7_count (v : V_X7) (x1 : Int32) (Q : Int32 → (Nat → Int32) → (Nat → Int32) → Int32 → Prop) : Prop :=
  wp_X7_in x1 0 14 (fun r5 =>
  ((r5 = 0 → wp_X7_count_16 v x1 1  Q) ∧
  (¬ r5 = 0 → wp_X7_count_16 v x1 0  Q)))
def wp_X7_fewestTo (v : V_X7) (x1 : Int32) (x2 : Int32) (Q : Int32 → (Nat → Int32) → Prop) : Prop :=
  wp_X7_layAway v x1 (fun z2_v_away =>
  wp_X7_hasMound (X7_s14 v z2_v_away) x2 (fun r7 =>
  ((r7 = 0 → Q (-1) z2_v_away) ∧
  (¬ r7 = 0 → vp_in x2 64 ∧ ((1000 ≤ (z2_v_away x2.toNatClampNeg) → Q (-1) z2_v_away) ∧
  (¬ 1000 ≤ (z2_v_away x2.toNatClampNeg) → Q (z2_v_away x2.toNatClampNeg) z2_v_away))))))
def wp_X7_joined_20 (v : V_X7) (x1 : Int32) (x2 : Int32) (k20_0 : Int32) (Q : Int32 → (Nat → Int32) → Int32 → Prop) : Prop :=
  wp_X7_holds v k20_0 (fun r20 z20_v_thrown =>
  ((r20 = 0 → Q 0 (X7_away v) z20_v_thrown) ∧
  (¬ r20 = 0 → wp_X7_fewestTo (X7_s8 v z20_v_thrown) x1 x2 (fun r29 z29_v_away =>
  ((r29 = (-1) → Q 0 z29_v_away z20_v_thrown) ∧
  (¬ r29 = (-1) → Q 1 z29_v_away z20_v_thrown))))))
def wp_X7_joined_19 (v : V_X7) (x1 : Int32) (x2 : Int32)  (Q : Int32 → (Nat → Int32) → Int32 → Prop) : Prop :=
  wp_X7_joined_20 v x1 x2 1  Q
def wp_X7_joined (v : V_X7) (x1 : Int32) (x2 : Int32) (Q : Int32 → (Nat → Int32) → Int32 → Prop) : Prop :=
  wp_X7_isTuft x1 (fun r2 =>
  ((r2 = 0 → wp_X7_joined_19 v x1 x2   Q) ∧
  (¬ r2 = 0 → wp_X7_isTuft x2 (fun r9 =>
  ((r9 = 0 → wp_X7_joined_19 v x1 x2   Q) ∧
  (¬ r9 = 0 → wp_X7_joined_20 v x1 x2 0  Q))))))
def wp_X7_fewest_20 (v : V_X7) (x1 : Int32) (x2 : Int32) (k20_0 : Int32) (Q : Int32 → (Nat → Int32) → Int32 → Prop) : Prop :=
  wp_X7_holds v k20_0 (fun r20 z20_v_thrown =>
  ((r20 = 0 → Q 0 (X7_away v) z20_v_thrown) ∧
  (¬ r20 = 0 → wp_X7_fewestTo (X7_s8 v z20_v_thrown) x1 x2 (fun r29 z29_v_away =>
  Q r29 z29_v_away z20_v_thrown))))
def wp_X7_fewest_19 (v : V_X7) (x1 : Int32) (x2 : Int32)  (Q : Int32 → (Nat → Int32) → Int32 → Prop) : Prop :=
  wp_X7_fewest_20 v x1 x2 1  Q
def wp_X7_fewest (v : V_X7) (x1 : Int32) (x2 : Int32) (Q : Int32 → (Nat → Int32) → Int32 → Prop) : Prop :=
  wp_X7_isTuft x1 (fun r2 =>
  ((r2 = 0 → wp_X7_fewest_19 v x1 x2   Q) ∧
  (¬ r2 = 0 → wp_X7_isTuft x2 (fun r9 =>
  ((r9 = 0 → wp_X7_fewest_19 v x1 x2   Q) ∧
  (¬ r9 = 0 → wp_X7_fewest_20 v x1 x2 0  Q))))))
def wp_X7_whenDug_47 (v : V_X7) (x1 : Int32) (x2 : Int32) (z47_v_aside : (Nat → Int32)) (z47_v_isHollow : (Nat → Int32)) (z47_v_s : (Nat → Int32)) (k47_0 : Int32) (Q : Int32 → (Nat → Int32) → (Nat → Int32) → (Nat → Int32) → Prop) : Prop :=
  wp_X7_putBack (z47_v_s, z47_v_aside, (X7_kept v), (X7_isKept v), (X7_saved v), (X7_savedMany v), (X7_text v), (X7_length v), (X7_thrown v), (X7_joint v), (X7_position v), (X7_isWrong v), z47_v_isHollow, (X7_sure v), (X7_away v), (X7_digested v)) (fun z50_v_s =>
  Q k47_0 z47_v_aside z47_v_isHollow z50_v_s)
def wp_X7_whenDug (v : V_X7) (x1 : Int32) (x2 : Int32) (Q : Int32 → (Nat → Int32) → (Nat → Int32) → (Nat → Int32) → Prop) : Prop :=
  wp_X7_putAside v (fun z1_v_aside =>
  vp_in 5 1472 ∧ wp_X7_dug (X7_s1 v z1_v_aside) x1 (fun r13 z13_v_s =>
  ((x2 = 0 → wp_X7_whenDug_47 v x1 x2 z1_v_aside (X7_isHollow v) z13_v_s ((z13_v_s (5 : Int32).toNatClampNeg) - ((X7_s v) (5 : Int32).toNatClampNeg))  Q) ∧
  (¬ x2 = 0 → ((x2 = 1 → wp_X7_whenDug_47 v x1 x2 z1_v_aside (X7_isHollow v) z13_v_s r13  Q) ∧
  (¬ x2 = 1 → wp_X7_hollow (X7_s1 (X7_s0 v z13_v_s) z1_v_aside) (fun r44 z44_v_isHollow =>
  wp_X7_whenDug_47 v x1 x2 z1_v_aside z44_v_isHollow z13_v_s r44  Q)))))))
def wp_X7_ifDug_26 (v : V_X7) (x1 : Int32) (x2 : Int32) (k26_0 : Int32) (Q : Int32 → (Nat → Int32) → (Nat → Int32) → (Nat → Int32) → Int32 → Prop) : Prop :=
  wp_X7_holds v k26_0 (fun r26 z26_v_thrown =>
  ((r26 = 0 → Q 0 (X7_aside v) (X7_isHollow v) (X7_s v) z26_v_thrown) ∧
  (¬ r26 = 0 → wp_X7_whenDug (X7_s8 v z26_v_thrown) x1 x2 (fun r35 z35_v_aside z35_v_isHollow z35_v_s =>
  Q r35 z35_v_aside z35_v_isHollow z35_v_s z26_v_thrown))))
def wp_X7_ifDug (v : V_X7) (x1 : Int32) (x2 : Int32) (Q : Int32 → (Nat → Int32) → (Nat → Int32) → (Nat → Int32) → Int32 → Prop) : Prop :=
  wp_X7_isTuft x1 (fun r2 =>
  ((r2 = 0 → wp_X7_ifDug_26 v x1 x2 1  Q) ∧
  (¬ r2 = 0 → wp_X7_in x2 0 2 (fun r15 =>
  ((r15 = 0 → wp_X7_ifDug_26 v x1 x2 2  Q) ∧
  (¬ r15 = 0 → wp_X7_ifDug_26 v x1 x2 0  Q))))))
def wp_X7_best_48 (v : V_X7) (y6_1 : Int32) (y6_2 : Int32) (y6_3 : Int32) (B6 : Int32 → Int32 → Int32 → Prop) (y48_4 : Int32) (k48_0 : Int32) (Q : Int32 → Prop) : Prop :=
  ((y48_4 ≤ y6_2 → B6 k48_0 y6_2 (y6_3 + 1)) ∧
  (¬ y48_4 ≤ y6_2 → B6 k48_0 y48_4 (y6_3 + 1)))
def wp_X7_best_35 (v : V_X7) (y6_1 : Int32) (y6_2 : Int32) (y6_3 : Int32) (B6 : Int32 → Int32 → Int32 → Prop) (k35_0 : Int32) (Q : Int32 → Prop) : Prop :=
  ((k35_0 ≤ y6_2 → wp_X7_best_48 v y6_1 y6_2 y6_3 B6 k35_0 y6_1  Q) ∧
  (¬ k35_0 ≤ y6_2 → wp_X7_best_48 v y6_1 y6_2 y6_3 B6 k35_0 y6_3  Q))
def wb_X7_best_6 (v : V_X7)  (y6_1 : Int32) (y6_2 : Int32) (y6_3 : Int32) (B6 : Int32 → Int32 → Int32 → Prop) (Q : Int32 → Prop) : Prop :=
  ((64 ≤ y6_3 → Q y6_1) ∧
  (¬ 64 ≤ y6_3 → vp_in (200 + y6_3) 1472 ∧ ((((X7_s v) (200 + y6_3).toNatClampNeg) = 1 → wp_X7_best_35 v y6_1 y6_2 y6_3 B6 0  Q) ∧
  (¬ ((X7_s v) (200 + y6_3).toNatClampNeg) = 1 → wp_X7_tunnelsWith v y6_3 (fun r32 =>
  wp_X7_best_35 v y6_1 y6_2 y6_3 B6 r32  Q)))))
def wp_X7_best_6 (v : V_X7)  (y6_1 : Int32) (y6_2 : Int32) (y6_3 : Int32) (Q : Int32 → Prop) : Prop :=
  ∃ (I : Int32 → Int32 → Int32 → Prop) (μ : Int32 → Int32 → Int32 → Nat), I y6_1 y6_2 y6_3 ∧ ∀ (s0 : Int32) (s1 : Int32) (s2 : Int32), I s0 s1 s2 → wb_X7_best_6 v  s0 s1 s2 (fun t0 t1 t2 => I t0 t1 t2 ∧ μ t0 t1 t2 < μ s0 s1 s2) Q
def wp_X7_best (v : V_X7) (Q : Int32 → Prop) : Prop :=
  wp_X7_best_6 v  (-1) 0 0 Q
def wp_X7_bestDig (v : V_X7) (Q : Int32 → Int32 → Prop) : Prop :=
  wp_X7_best (X7_s8 v 0) (fun r6 =>
  Q r6 0)
def wp_X7_passed_47 (v : V_X7) (x1 : Int32) (x2 : Int32) (z47_v_aside : (Nat → Int32)) (z47_v_s : (Nat → Int32)) (k47_0 : Int32) (Q : Int32 → (Nat → Int32) → (Nat → Int32) → Prop) : Prop :=
  wp_X7_putBack (X7_s1 (X7_s0 v z47_v_s) z47_v_aside) (fun z50_v_s =>
  Q k47_0 z47_v_aside z50_v_s)
def wp_X7_passed (v : V_X7) (x1 : Int32) (x2 : Int32) (Q : Int32 → (Nat → Int32) → (Nat → Int32) → Prop) : Prop :=
  wp_X7_putAside v (fun z1_v_aside =>
  vp_in 2 1472 ∧ wp_X7_beats (X7_s1 v z1_v_aside) x1 (fun r13 z13_v_s =>
  ((x2 = 0 → wp_X7_passed_47 v x1 x2 z1_v_aside z13_v_s r13  Q) ∧
  (¬ x2 = 0 → ((x2 = 1 → wp_X7_tunnels (X7_s1 (X7_s0 v z13_v_s) z1_v_aside) (fun r33 =>
  wp_X7_passed_47 v x1 x2 z1_v_aside z13_v_s r33  Q)) ∧
  (¬ x2 = 1 → wp_X7_passed_47 v x1 x2 z1_v_aside z13_v_s ((z13_v_s (2 : Int32).toNatClampNeg) - ((X7_s v) (2 : Int32).toNatClampNeg))  Q))))))
def wp_X7_ifPassed_25 (v : V_X7) (x1 : Int32) (x2 : Int32) (k25_0 : Int32) (Q : Int32 → (Nat → Int32) → (Nat → Int32) → Int32 → Prop) : Prop :=
  wp_X7_holds v k25_0 (fun r25 z25_v_thrown =>
  ((r25 = 0 → Q 0 (X7_aside v) (X7_s v) z25_v_thrown) ∧
  (¬ r25 = 0 → wp_X7_passed (X7_s8 v z25_v_thrown) x1 x2 (fun r34 z34_v_aside z34_v_s =>
  Q r34 z34_v_aside z34_v_s z25_v_thrown))))
def wp_X7_ifPassed_24 (v : V_X7) (x1 : Int32) (x2 : Int32)  (Q : Int32 → (Nat → Int32) → (Nat → Int32) → Int32 → Prop) : Prop :=
  wp_X7_ifPassed_25 v x1 x2 1  Q
def wp_X7_ifPassed (v : V_X7) (x1 : Int32) (x2 : Int32) (Q : Int32 → (Nat → Int32) → (Nat → Int32) → Int32 → Prop) : Prop :=
  wp_X7_in x1 1 30 (fun r5 =>
  ((r5 = 0 → wp_X7_ifPassed_24 v x1 x2   Q) ∧
  (¬ r5 = 0 → wp_X7_in x2 0 2 (fun r14 =>
  ((r14 = 0 → wp_X7_ifPassed_24 v x1 x2   Q) ∧
  (¬ r14 = 0 → wp_X7_ifPassed_25 v x1 x2 0  Q))))))
def wp_X7_whenMound_30 (v : V_X7) (y30_1 : Int32) (y30_2 : Int32) (z30_v_aside : (Nat → Int32)) (z30_v_s : (Nat → Int32)) (Q : Int32 → (Nat → Int32) → (Nat → Int32) → Prop) : Prop :=
  wp_X7_putBack (X7_s1 (X7_s0 v z30_v_s) z30_v_aside) (fun z31_v_s =>
  ((y30_2 ≤ 0 → Q (-1) z30_v_aside z31_v_s) ∧
  (¬ y30_2 ≤ 0 → Q y30_1 z30_v_aside z31_v_s)))
def wb_X7_whenMound_8 (v : V_X7) (z8_v_aside : (Nat → Int32)) (y8_1 : Int32) (y8_2 : Int32) (z8_v_s : (Nat → Int32)) (B8 : Int32 → Int32 → (Nat → Int32) → Prop) (Q : Int32 → (Nat → Int32) → (Nat → Int32) → Prop) : Prop :=
  ((100 ≤ y8_1 → wp_X7_whenMound_30 v y8_1 y8_2 z8_v_aside z8_v_s  Q) ∧
  (¬ 100 ≤ y8_1 → ((y8_2 = 0 → wp_X7_beats (X7_s1 (X7_s0 v z8_v_s) z8_v_aside) 1 (fun r20 z20_v_s =>
  B8 (y8_1 + 1) r20 z20_v_s)) ∧
  (¬ y8_2 = 0 → wp_X7_whenMound_30 v y8_1 y8_2 z8_v_aside z8_v_s  Q))))
def wp_X7_whenMound_8 (v : V_X7) (z8_v_aside : (Nat → Int32)) (y8_1 : Int32) (y8_2 : Int32) (z8_v_s : (Nat → Int32)) (Q : Int32 → (Nat → Int32) → (Nat → Int32) → Prop) : Prop :=
  ∃ (I : Int32 → Int32 → (Nat → Int32) → Prop) (μ : Int32 → Int32 → (Nat → Int32) → Nat), I y8_1 y8_2 z8_v_s ∧ ∀ (s0 : Int32) (s1 : Int32) (s2 : (Nat → Int32)), I s0 s1 s2 → wb_X7_whenMound_8 v z8_v_aside s0 s1 s2 (fun t0 t1 t2 => I t0 t1 t2 ∧ μ t0 t1 t2 < μ s0 s1 s2) Q
def wp_X7_whenMound (v : V_X7) (Q : Int32 → (Nat → Int32) → (Nat → Int32) → Prop) : Prop :=
  wp_X7_putAside v (fun z1_v_aside =>
  wp_X7_whenMound_8 v z1_v_aside 0 0 (X7_s v) Q)
def wp_X7_nextMound (v : V_X7) (Q : Int32 → (Nat → Int32) → (Nat → Int32) → Int32 → Prop) : Prop :=
  wp_X7_whenMound (X7_s8 v 0) (fun r6 z6_v_aside z6_v_s =>
  Q r6 z6_v_aside z6_v_s 0)
def wp_X7_share (v : V_X7) (Q : UInt64 → (Nat → Int32) → Prop) : Prop :=
  wp_X7_hollow v (fun r1 z1_v_isHollow =>
  vf_n64 (FP.ddiv (FP.i2d r1) 4634204016564240384) ∧ Q (FP.ddiv (FP.i2d r1) 4634204016564240384) z1_v_isHollow)
def wp_X7_hollowShare (v : V_X7) (Q : UInt64 → (Nat → Int32) → Int32 → Prop) : Prop :=
  wp_X7_share (X7_s8 v 0) (fun r6 z6_v_isHollow =>
  Q r6 z6_v_isHollow 0)
def wb_X7_bitsOf_15 (x0 : UInt64)  (y15_2 : Int64) (y15_4 : UInt64) (B15 : Int64 → UInt64 → Prop) (Q : Int64 → Prop) : Prop :=
  ((0 ≤ (Op.cmpValue (FP.dcmp y15_4 FP.dconst1) .g) → vf_n64 (FP.dsub y15_4 FP.dconst1) ∧ vf_n64 (FP.dmul (FP.dsub y15_4 FP.dconst1) 4841369599423283200) ∧ Q ((y15_2 * 4503599627370496) + (FP.d2l (FP.dmul (FP.dsub y15_4 FP.dconst1) 4841369599423283200)))) ∧
  (¬ 0 ≤ (Op.cmpValue (FP.dcmp y15_4 FP.dconst1) .g) → vf_n64 (FP.dmul y15_4 4611686018427387904) ∧ B15 (y15_2 - 1) (FP.dmul y15_4 4611686018427387904)))
def wp_X7_bitsOf_15 (x0 : UInt64)  (y15_2 : Int64) (y15_4 : UInt64) (Q : Int64 → Prop) : Prop :=
  ∃ (I : Int64 → UInt64 → Prop) (μ : Int64 → UInt64 → Nat), I y15_2 y15_4 ∧ ∀ (s0 : Int64) (s1 : UInt64), I s0 s1 → wb_X7_bitsOf_15 x0  s0 s1 (fun t0 t1 => I t0 t1 ∧ μ t0 t1 < μ s0 s1) Q
def wp_X7_bitsOf (x0 : UInt64) (Q : Int64 → Prop) : Prop :=
  (((Op.cmpValue (FP.dcmp x0 FP.dconst0) .l) = 0 → Q 0) ∧
  (¬ (Op.cmpValue (FP.dcmp x0 FP.dconst0) .l) = 0 → wp_X7_bitsOf_15 x0  1023 x0 Q))
def wp_X7_digestOne (v : V_X7) (x1 : Int64) (Q : Int64 → Prop) : Prop :=
  Q ((31 * (X7_digested v)) + x1)
def wb_X7_digestLawn_118 (v : V_X7) (z84_v_isHollow : (Nat → Int32)) (z84_v_sure : (Nat → Int32)) (y84_1 : Int32) (z84_v_digested : Int64) (B84 : Int32 → Int64 → Prop)  (y118_2 : Int32) (z118_v_digested : Int64) (B118 : Int32 → Int64 → Prop) (Q : Int64 → (Nat → Int32) → (Nat → Int32) → Prop) : Prop :=
  wp_X7_toldOfTunnel ((X7_s v), (X7_aside v), (X7_kept v), (X7_isKept v), (X7_saved v), (X7_savedMany v), (X7_text v), (X7_length v), (X7_thrown v), (X7_joint v), (X7_position v), (X7_isWrong v), z84_v_isHollow, z84_v_sure, (X7_away v), z118_v_digested) y84_1 2 (fun r122 =>
  ((r122 ≤ y118_2 → B84 (y84_1 + 1) z118_v_digested) ∧
  (¬ r122 ≤ y118_2 → wp_X7_cellOf ((X7_s v), (X7_aside v), (X7_kept v), (X7_isKept v), (X7_saved v), (X7_savedMany v), (X7_text v), (X7_length v), (X7_thrown v), (X7_joint v), (X7_position v), (X7_isWrong v), z84_v_isHollow, z84_v_sure, (X7_away v), z118_v_digested) y84_1 y118_2 (fun r132 =>
  wp_X7_digestOne ((X7_s v), (X7_aside v), (X7_kept v), (X7_isKept v), (X7_saved v), (X7_savedMany v), (X7_text v), (X7_length v), (X7_thrown v), (X7_joint v), (X7_position v), (X7_isWrong v), z84_v_isHollow, z84_v_sure, (X7_away v), z118_v_digested) (r132.toInt64) (fun z136_v_digested =>
  B118 (y118_2 + 1) z136_v_digested)))))
def wp_X7_digestLawn_118 (v : V_X7) (z84_v_isHollow : (Nat → Int32)) (z84_v_sure : (Nat → Int32)) (y84_1 : Int32) (z84_v_digested : Int64) (B84 : Int32 → Int64 → Prop)  (y118_2 : Int32) (z118_v_digested : Int64) (Q : Int64 → (Nat → Int32) → (Nat → Int32) → Prop) : Prop :=
  ∃ (I : Int32 → Int64 → Prop) (μ : Int32 → Int64 → Nat), I y118_2 z118_v_digested ∧ ∀ (s0 : Int32) (s1 : Int64), I s0 s1 → wb_X7_digestLawn_118 v z84_v_isHollow z84_v_sure y84_1 z84_v_digested B84  s0 s1 (fun t0 t1 => I t0 t1 ∧ μ t0 t1 < μ s0 s1) Q
def wb_X7_digestLawn_94 (v : V_X7) (z84_v_isHollow : (Nat → Int32)) (z84_v_sure : (Nat → Int32)) (y84_1 : Int32) (z84_v_digested : Int64) (B84 : Int32 → Int64 → Prop)  (y94_2 : Int32) (z94_v_digested : Int64) (B94 : Int32 → Int64 → Prop) (Q : Int64 → (Nat → Int32) → (Nat → Int32) → Prop) : Prop :=
  ((3 ≤ y94_2 → wp_X7_digestLawn_118 v z84_v_isHollow z84_v_sure y84_1 z84_v_digested B84  0 z94_v_digested Q) ∧
  (¬ 3 ≤ y94_2 → wp_X7_toldOfTunnel ((X7_s v), (X7_aside v), (X7_kept v), (X7_isKept v), (X7_saved v), (X7_savedMany v), (X7_text v), (X7_length v), (X7_thrown v), (X7_joint v), (X7_position v), (X7_isWrong v), z84_v_isHollow, z84_v_sure, (X7_away v), z94_v_digested) y84_1 y94_2 (fun r103 =>
  wp_X7_digestOne ((X7_s v), (X7_aside v), (X7_kept v), (X7_isKept v), (X7_saved v), (X7_savedMany v), (X7_text v), (X7_length v), (X7_thrown v), (X7_joint v), (X7_position v), (X7_isWrong v), z84_v_isHollow, z84_v_sure, (X7_away v), z94_v_digested) (r103.toInt64) (fun z107_v_digested =>
  B94 (y94_2 + 1) z107_v_digested))))
def wp_X7_digestLawn_94 (v : V_X7) (z84_v_isHollow : (Nat → Int32)) (z84_v_sure : (Nat → Int32)) (y84_1 : Int32) (z84_v_digested : Int64) (B84 : Int32 → Int64 → Prop)  (y94_2 : Int32) (z94_v_digested : Int64) (Q : Int64 → (Nat → Int32) → (Nat → Int32) → Prop) : Prop :=
  ∃ (I : Int32 → Int64 → Prop) (μ : Int32 → Int64 → Nat), I y94_2 z94_v_digested ∧ ∀ (s0 : Int32) (s1 : Int64), I s0 s1 → wb_X7_digestLawn_94 v z84_v_isHollow z84_v_sure y84_1 z84_v_digested B84  s0 s1 (fun t0 t1 => I t0 t1 ∧ μ t0 t1 < μ s0 s1) Q
def wb_X7_digestLawn_84 (v : V_X7) (z84_v_isHollow : (Nat → Int32)) (z84_v_sure : (Nat → Int32)) (y84_1 : Int32) (z84_v_digested : Int64) (B84 : Int32 → Int64 → Prop) (Q : Int64 → (Nat → Int32) → (Nat → Int32) → Prop) : Prop :=
  wp_X7_tunnels ((X7_s v), (X7_aside v), (X7_kept v), (X7_isKept v), (X7_saved v), (X7_savedMany v), (X7_text v), (X7_length v), (X7_thrown v), (X7_joint v), (X7_position v), (X7_isWrong v), z84_v_isHollow, z84_v_sure, (X7_away v), z84_v_digested) (fun r86 =>
  ((r86 ≤ y84_1 → Q z84_v_digested z84_v_isHollow z84_v_sure) ∧
  (¬ r86 ≤ y84_1 → wp_X7_digestLawn_94 v z84_v_isHollow z84_v_sure y84_1 z84_v_digested B84  0 z84_v_digested Q)))
def wp_X7_digestLawn_84 (v : V_X7) (z84_v_isHollow : (Nat → Int32)) (z84_v_sure : (Nat → Int32)) (y84_1 : Int32) (z84_v_digested : Int64) (Q : Int64 → (Nat → Int32) → (Nat → Int32) → Prop) : Prop :=
  ∃ (I : Int32 → Int64 → Prop) (μ : Int32 → Int64 → Nat), I y84_1 z84_v_digested ∧ ∀ (s0 : Int32) (s1 : Int64), I s0 s1 → wb_X7_digestLawn_84 v z84_v_isHollow z84_v_sure s0 s1 (fun t0 t1 => I t0 t1 ∧ μ t0 t1 < μ s0 s1) Q
def wb_X7_digestLawn_53 (v : V_X7) (z41_v_isHollow : (Nat → Int32)) (z41_v_sure : (Nat → Int32)) (y41_1 : Int32) (z41_v_digested : Int64) (B41 : Int32 → Int64 → Prop)  (y53_2 : Int32) (z53_v_digested : Int64) (B53 : Int32 → Int64 → Prop) (Q : Int64 → (Nat → Int32) → (Nat → Int32) → Prop) : Prop :=
  ((7 ≤ y53_2 → B41 (y41_1 + 1) z53_v_digested) ∧
  (¬ 7 ≤ y53_2 → wp_X7_toldOfMole ((X7_s v), (X7_aside v), (X7_kept v), (X7_isKept v), (X7_saved v), (X7_savedMany v), (X7_text v), (X7_length v), (X7_thrown v), (X7_joint v), (X7_position v), (X7_isWrong v), z41_v_isHollow, z41_v_sure, (X7_away v), z53_v_digested) y41_1 y53_2 (fun r63 =>
  wp_X7_digestOne ((X7_s v), (X7_aside v), (X7_kept v), (X7_isKept v), (X7_saved v), (X7_savedMany v), (X7_text v), (X7_length v), (X7_thrown v), (X7_joint v), (X7_position v), (X7_isWrong v), z41_v_isHollow, z41_v_sure, (X7_away v), z53_v_digested) (r63.toInt64) (fun z67_v_digested =>
  B53 (y53_2 + 1) z67_v_digested))))
def wp_X7_digestLawn_53 (v : V_X7) (z41_v_isHollow : (Nat → Int32)) (z41_v_sure : (Nat → Int32)) (y41_1 : Int32) (z41_v_digested : Int64) (B41 : Int32 → Int64 → Prop)  (y53_2 : Int32) (z53_v_digested : Int64) (Q : Int64 → (Nat → Int32) → (Nat → Int32) → Prop) : Prop :=
  ∃ (I : Int32 → Int64 → Prop) (μ : Int32 → Int64 → Nat), I y53_2 z53_v_digested ∧ ∀ (s0 : Int32) (s1 : Int64), I s0 s1 → wb_X7_digestLawn_53 v z41_v_isHollow z41_v_sure y41_1 z41_v_digested B41  s0 s1 (fun t0 t1 => I t0 t1 ∧ μ t0 t1 < μ s0 s1) Q
def wb_X7_digestLawn_41 (v : V_X7) (z41_v_isHollow : (Nat → Int32)) (z41_v_sure : (Nat → Int32)) (y41_1 : Int32) (z41_v_digested : Int64) (B41 : Int32 → Int64 → Prop) (Q : Int64 → (Nat → Int32) → (Nat → Int32) → Prop) : Prop :=
  vp_in 1 1472 ∧ ((((X7_s v) (1 : Int32).toNatClampNeg) ≤ y41_1 → wp_X7_digestLawn_84 v z41_v_isHollow z41_v_sure 0 z41_v_digested Q) ∧
  (¬ ((X7_s v) (1 : Int32).toNatClampNeg) ≤ y41_1 → wp_X7_digestLawn_53 v z41_v_isHollow z41_v_sure y41_1 z41_v_digested B41  0 z41_v_digested Q))
def wp_X7_digestLawn_41 (v : V_X7) (z41_v_isHollow : (Nat → Int32)) (z41_v_sure : (Nat → Int32)) (y41_1 : Int32) (z41_v_digested : Int64) (Q : Int64 → (Nat → Int32) → (Nat → Int32) → Prop) : Prop :=
  ∃ (I : Int32 → Int64 → Prop) (μ : Int32 → Int64 → Nat), I y41_1 z41_v_digested ∧ ∀ (s0 : Int32) (s1 : Int64), I s0 s1 → wb_X7_digestLawn_41 v z41_v_isHollow z41_v_sure s0 s1 (fun t0 t1 => I t0 t1 ∧ μ t0 t1 < μ s0 s1) Q
def wb_X7_digestLawn_10 (v : V_X7) (y2_1 : Int32) (z2_v_digested : Int64) (z2_v_isHollow : (Nat → Int32)) (z2_v_sure : (Nat → Int32)) (B2 : Int32 → Int64 → (Nat → Int32) → (Nat → Int32) → Prop)  (y10_2 : Int32) (z10_v_digested : Int64) (z10_v_isHollow : (Nat → Int32)) (z10_v_sure : (Nat → Int32)) (B10 : Int32 → Int64 → (Nat → Int32) → (Nat → Int32) → Prop) (Q : Int64 → (Nat → Int32) → (Nat → Int32) → Prop) : Prop :=
  ((9 ≤ y10_2 → B2 (y2_1 + 1) z10_v_digested z10_v_isHollow z10_v_sure) ∧
  (¬ 9 ≤ y10_2 → wp_X7_toldOfTuft ((X7_s v), (X7_aside v), (X7_kept v), (X7_isKept v), (X7_saved v), (X7_savedMany v), (X7_text v), (X7_length v), (X7_thrown v), (X7_joint v), (X7_position v), (X7_isWrong v), z10_v_isHollow, z10_v_sure, (X7_away v), z10_v_digested) y2_1 y10_2 (fun r20 z20_v_isHollow z20_v_sure =>
  wp_X7_digestOne ((X7_s v), (X7_aside v), (X7_kept v), (X7_isKept v), (X7_saved v), (X7_savedMany v), (X7_text v), (X7_length v), (X7_thrown v), (X7_joint v), (X7_position v), (X7_isWrong v), z20_v_isHollow, z20_v_sure, (X7_away v), z10_v_digested) (r20.toInt64) (fun z24_v_digested =>
  B10 (y10_2 + 1) z24_v_digested z20_v_isHollow z20_v_sure))))
def wp_X7_digestLawn_10 (v : V_X7) (y2_1 : Int32) (z2_v_digested : Int64) (z2_v_isHollow : (Nat → Int32)) (z2_v_sure : (Nat → Int32)) (B2 : Int32 → Int64 → (Nat → Int32) → (Nat → Int32) → Prop)  (y10_2 : Int32) (z10_v_digested : Int64) (z10_v_isHollow : (Nat → Int32)) (z10_v_sure : (Nat → Int32)) (Q : Int64 → (Nat → Int32) → (Nat → Int32) → Prop) : Prop :=
  ∃ (I : Int32 → Int64 → (Nat → Int32) → (Nat → Int32) → Prop) (μ : Int32 → Int64 → (Nat → Int32) → (Nat → Int32) → Nat), I y10_2 z10_v_digested z10_v_isHollow z10_v_sure ∧ ∀ (s0 : Int32) (s1 : Int64) (s2 : (Nat → Int32)) (s3 : (Nat → Int32)), I s0 s1 s2 s3 → wb_X7_digestLawn_10 v y2_1 z2_v_digested z2_v_isHollow z2_v_sure B2  s0 s1 s2 s3 (fun t0 t1 t2 t3 => I t0 t1 t2 t3 ∧ μ t0 t1 t2 t3 < μ s0 s1 s2 s3) Q
def wb_X7_digestLawn_2 (v : V_X7)  (y2_1 : Int32) (z2_v_digested : Int64) (z2_v_isHollow : (Nat → Int32)) (z2_v_sure : (Nat → Int32)) (B2 : Int32 → Int64 → (Nat → Int32) → (Nat → Int32) → Prop) (Q : Int64 → (Nat → Int32) → (Nat → Int32) → Prop) : Prop :=
  ((64 ≤ y2_1 → wp_X7_digestLawn_41 v z2_v_isHollow z2_v_sure 0 z2_v_digested Q) ∧
  (¬ 64 ≤ y2_1 → wp_X7_digestLawn_10 v y2_1 z2_v_digested z2_v_isHollow z2_v_sure B2  0 z2_v_digested z2_v_isHollow z2_v_sure Q))
def wp_X7_digestLawn_2 (v : V_X7)  (y2_1 : Int32) (z2_v_digested : Int64) (z2_v_isHollow : (Nat → Int32)) (z2_v_sure : (Nat → Int32)) (Q : Int64 → (Nat → Int32) → (Nat → Int32) → Prop) : Prop :=
  ∃ (I : Int32 → Int64 → (Nat → Int32) → (Nat → Int32) → Prop) (μ : Int32 → Int64 → (Nat → Int32) → (Nat → Int32) → Nat), I y2_1 z2_v_digested z2_v_isHollow z2_v_sure ∧ ∀ (s0 : Int32) (s1 : Int64) (s2 : (Nat → Int32)) (s3 : (Nat → Int32)), I s0 s1 s2 s3 → wb_X7_digestLawn_2 v  s0 s1 s2 s3 (fun t0 t1 t2 t3 => I t0 t1 t2 t3 ∧ μ t0 t1 t2 t3 < μ s0 s1 s2 s3) Q
def wp_X7_digestLawn (v : V_X7) (Q : Int64 → (Nat → Int32) → (Nat → Int32) → Prop) : Prop :=
  wp_X7_digestLawn_2 v  0 (X7_digested v) (X7_isHollow v) (X7_sure v) Q
def wb_X7_digestMounds_56 (v : V_X7) (z56_v_away : (Nat → Int32)) (y56_2 : Int32) (z56_v_aside : (Nat → Int32)) (z56_v_digested : Int64) (z56_v_isHollow : (Nat → Int32)) (z56_v_s : (Nat → Int32)) (B56 : Int32 → (Nat → Int32) → Int64 → (Nat → Int32) → (Nat → Int32) → Prop) (Q : (Nat → Int32) → (Nat → Int32) → Int64 → (Nat → Int32) → (Nat → Int32) → Prop) : Prop :=
  ((64 ≤ y56_2 → Q z56_v_aside z56_v_away z56_v_digested z56_v_isHollow z56_v_s) ∧
  (¬ 64 ≤ y56_2 → wp_X7_whenDug (z56_v_s, z56_v_aside, (X7_kept v), (X7_isKept v), (X7_saved v), (X7_savedMany v), (X7_text v), (X7_length v), (X7_thrown v), (X7_joint v), (X7_position v), (X7_isWrong v), z56_v_isHollow, (X7_sure v), z56_v_away, z56_v_digested) y56_2 0 (fun r66 z66_v_aside z66_v_isHollow z66_v_s =>
  wp_X7_digestOne (z66_v_s, z66_v_aside, (X7_kept v), (X7_isKept v), (X7_saved v), (X7_savedMany v), (X7_text v), (X7_length v), (X7_thrown v), (X7_joint v), (X7_position v), (X7_isWrong v), z66_v_isHollow, (X7_sure v), z56_v_away, z56_v_digested) (r66.toInt64) (fun z70_v_digested =>
  B56 (y56_2 + 1) z66_v_aside z70_v_digested z66_v_isHollow z66_v_s))))
def wp_X7_digestMounds_56 (v : V_X7) (z56_v_away : (Nat → Int32)) (y56_2 : Int32) (z56_v_aside : (Nat → Int32)) (z56_v_digested : Int64) (z56_v_isHollow : (Nat → Int32)) (z56_v_s : (Nat → Int32)) (Q : (Nat → Int32) → (Nat → Int32) → Int64 → (Nat → Int32) → (Nat → Int32) → Prop) : Prop :=
  ∃ (I : Int32 → (Nat → Int32) → Int64 → (Nat → Int32) → (Nat → Int32) → Prop) (μ : Int32 → (Nat → Int32) → Int64 → (Nat → Int32) → (Nat → Int32) → Nat), I y56_2 z56_v_aside z56_v_digested z56_v_isHollow z56_v_s ∧ ∀ (s0 : Int32) (s1 : (Nat → Int32)) (s2 : Int64) (s3 : (Nat → Int32)) (s4 : (Nat → Int32)), I s0 s1 s2 s3 s4 → wb_X7_digestMounds_56 v z56_v_away s0 s1 s2 s3 s4 (fun t0 t1 t2 t3 t4 => I t0 t1 t2 t3 t4 ∧ μ t0 t1 t2 t3 t4 < μ s0 s1 s2 s3 s4) Q
def wp_X7_digestMounds_28 (v : V_X7) (y4_1 : Int32) (y4_2 : Int32) (z4_v_away : (Nat → Int32)) (z4_v_digested : Int64) (B4 : Int32 → Int32 → (Nat → Int32) → Int64 → Prop) (k28_0 : Int32) (Q : (Nat → Int32) → (Nat → Int32) → Int64 → (Nat → Int32) → (Nat → Int32) → Prop) : Prop :=
  wp_X7_hasMound (X7_s15 (X7_s14 v z4_v_away) z4_v_digested) y4_2 (fun r31 =>
  ((r31 = 0 → B4 k28_0 (y4_2 + 1) z4_v_away z4_v_digested) ∧
  (¬ r31 = 0 → wp_X7_fewestTo (X7_s15 (X7_s14 v z4_v_away) z4_v_digested) y4_2 k28_0 (fun r41 z41_v_away =>
  wp_X7_digestOne (X7_s15 (X7_s14 v z41_v_away) z4_v_digested) (r41.toInt64) (fun z45_v_digested =>
  B4 k28_0 (y4_2 + 1) z41_v_away z45_v_digested)))))
def wp_X7_digestMounds_27 (v : V_X7) (y4_1 : Int32) (y4_2 : Int32) (z4_v_away : (Nat → Int32)) (z4_v_digested : Int64) (B4 : Int32 → Int32 → (Nat → Int32) → Int64 → Prop)  (Q : (Nat → Int32) → (Nat → Int32) → Int64 → (Nat → Int32) → (Nat → Int32) → Prop) : Prop :=
  wp_X7_digestMounds_28 v y4_1 y4_2 z4_v_away z4_v_digested B4 y4_1  Q
def wb_X7_digestMounds_4 (v : V_X7)  (y4_1 : Int32) (y4_2 : Int32) (z4_v_away : (Nat → Int32)) (z4_v_digested : Int64) (B4 : Int32 → Int32 → (Nat → Int32) → Int64 → Prop) (Q : (Nat → Int32) → (Nat → Int32) → Int64 → (Nat → Int32) → (Nat → Int32) → Prop) : Prop :=
  ((64 ≤ y4_2 → wp_X7_digestMounds_56 v z4_v_away 0 (X7_aside v) z4_v_digested (X7_isHollow v) (X7_s v) Q) ∧
  (¬ 64 ≤ y4_2 → ((y4_1 = (-1) → wp_X7_hasMound (X7_s15 (X7_s14 v z4_v_away) z4_v_digested) y4_2 (fun r17 =>
  ((r17 = 0 → wp_X7_digestMounds_27 v y4_1 y4_2 z4_v_away z4_v_digested B4   Q) ∧
  (¬ r17 = 0 → wp_X7_digestMounds_28 v y4_1 y4_2 z4_v_away z4_v_digested B4 y4_2  Q)))) ∧
  (¬ y4_1 = (-1) → wp_X7_digestMounds_27 v y4_1 y4_2 z4_v_away z4_v_digested B4   Q))))
def wp_X7_digestMounds_4 (v : V_X7)  (y4_1 : Int32) (y4_2 : Int32) (z4_v_away : (Nat → Int32)) (z4_v_digested : Int64) (Q : (Nat → Int32) → (Nat → Int32) → Int64 → (Nat → Int32) → (Nat → Int32) → Prop) : Prop :=
  ∃ (I : Int32 → Int32 → (Nat → Int32) → Int64 → Prop) (μ : Int32 → Int32 → (Nat → Int32) → Int64 → Nat), I y4_1 y4_2 z4_v_away z4_v_digested ∧ ∀ (s0 : Int32) (s1 : Int32) (s2 : (Nat → Int32)) (s3 : Int64), I s0 s1 s2 s3 → wb_X7_digestMounds_4 v  s0 s1 s2 s3 (fun t0 t1 t2 t3 => I t0 t1 t2 t3 ∧ μ t0 t1 t2 t3 < μ s0 s1 s2 s3) Q
def wp_X7_digestMounds (v : V_X7) (Q : (Nat → Int32) → (Nat → Int32) → Int64 → (Nat → Int32) → (Nat → Int32) → Prop) : Prop :=
  wp_X7_digestMounds_4 v  (-1) 0 (X7_away v) (X7_digested v) Q
def wb_X7_digest_108 (v : V_X7) (z108_v_aside : (Nat → Int32)) (z108_v_away : (Nat → Int32)) (z108_v_isHollow : (Nat → Int32)) (z108_v_s : (Nat → Int32)) (z108_v_sure : (Nat → Int32)) (z108_v_thrown : Int32) (y108_1 : Int32) (z108_v_digested : Int64) (B108 : Int32 → Int64 → Prop) (Q : Int64 → (Nat → Int32) → (Nat → Int32) → Int64 → (Nat → Int32) → (Nat → Int32) → (Nat → Int32) → Int32 → Prop) : Prop :=
  (((X7_length v) ≤ y108_1 → Q z108_v_digested z108_v_aside z108_v_away z108_v_digested z108_v_isHollow z108_v_s z108_v_sure z108_v_thrown) ∧
  (¬ (X7_length v) ≤ y108_1 → vp_in y108_1 60 ∧ wp_X7_digestOne (z108_v_s, z108_v_aside, (X7_kept v), (X7_isKept v), (X7_saved v), (X7_savedMany v), (X7_text v), (X7_length v), z108_v_thrown, (X7_joint v), (X7_position v), (X7_isWrong v), z108_v_isHollow, z108_v_sure, z108_v_away, z108_v_digested) (((X7_text v) y108_1.toNatClampNeg).toInt64) (fun z124_v_digested =>
  B108 (y108_1 + 1) z124_v_digested)))
def wp_X7_digest_108 (v : V_X7) (z108_v_aside : (Nat → Int32)) (z108_v_away : (Nat → Int32)) (z108_v_isHollow : (Nat → Int32)) (z108_v_s : (Nat → Int32)) (z108_v_sure : (Nat → Int32)) (z108_v_thrown : Int32) (y108_1 : Int32) (z108_v_digested : Int64) (Q : Int64 → (Nat → Int32) → (Nat → Int32) → Int64 → (Nat → Int32) → (Nat → Int32) → (Nat → Int32) → Int32 → Prop) : Prop :=
  ∃ (I : Int32 → Int64 → Prop) (μ : Int32 → Int64 → Nat), I y108_1 z108_v_digested ∧ ∀ (s0 : Int32) (s1 : Int64), I s0 s1 → wb_X7_digest_108 v z108_v_aside z108_v_away z108_v_isHollow z108_v_s z108_v_sure z108_v_thrown s0 s1 (fun t0 t1 => I t0 t1 ∧ μ t0 t1 < μ s0 s1) Q
def wb_X7_digest_55 (v : V_X7) (z55_v_away : (Nat → Int32)) (z55_v_isHollow : (Nat → Int32)) (z55_v_sure : (Nat → Int32)) (z55_v_thrown : Int32) (y55_1 : Int32) (z55_v_aside : (Nat → Int32)) (z55_v_digested : Int64) (z55_v_s : (Nat → Int32)) (B55 : Int32 → (Nat → Int32) → Int64 → (Nat → Int32) → Prop) (Q : Int64 → (Nat → Int32) → (Nat → Int32) → Int64 → (Nat → Int32) → (Nat → Int32) → (Nat → Int32) → Int32 → Prop) : Prop :=
  ((3 ≤ y55_1 → wp_X7_whenMound (z55_v_s, z55_v_aside, (X7_kept v), (X7_isKept v), (X7_saved v), (X7_savedMany v), (X7_text v), (X7_length v), z55_v_thrown, (X7_joint v), (X7_position v), (X7_isWrong v), z55_v_isHollow, z55_v_sure, z55_v_away, z55_v_digested) (fun r79 z79_v_aside z79_v_s =>
  wp_X7_digestOne (z79_v_s, z79_v_aside, (X7_kept v), (X7_isKept v), (X7_saved v), (X7_savedMany v), (X7_text v), (X7_length v), z55_v_thrown, (X7_joint v), (X7_position v), (X7_isWrong v), z55_v_isHollow, z55_v_sure, z55_v_away, z55_v_digested) (r79.toInt64) (fun z83_v_digested =>
  wp_X7_share (z79_v_s, z79_v_aside, (X7_kept v), (X7_isKept v), (X7_saved v), (X7_savedMany v), (X7_text v), (X7_length v), z55_v_thrown, (X7_joint v), (X7_position v), (X7_isWrong v), z55_v_isHollow, z55_v_sure, z55_v_away, z83_v_digested) (fun r88 z88_v_isHollow =>
  wp_X7_bitsOf r88 (fun r91 =>
  wp_X7_digestOne (z79_v_s, z79_v_aside, (X7_kept v), (X7_isKept v), (X7_saved v), (X7_savedMany v), (X7_text v), (X7_length v), z55_v_thrown, (X7_joint v), (X7_position v), (X7_isWrong v), z88_v_isHollow, z55_v_sure, z55_v_away, z83_v_digested) r91 (fun z94_v_digested =>
  wp_X7_digestOne (z79_v_s, z79_v_aside, (X7_kept v), (X7_isKept v), (X7_saved v), (X7_savedMany v), (X7_text v), (X7_length v), z55_v_thrown, (X7_joint v), (X7_position v), (X7_isWrong v), z88_v_isHollow, z55_v_sure, z55_v_away, z94_v_digested) ((X7_length v).toInt64) (fun z103_v_digested =>
  wp_X7_digest_108 v z79_v_aside z55_v_away z88_v_isHollow z79_v_s z55_v_sure z55_v_thrown 0 z103_v_digested Q))))))) ∧
  (¬ 3 ≤ y55_1 → wp_X7_passed (z55_v_s, z55_v_aside, (X7_kept v), (X7_isKept v), (X7_saved v), (X7_savedMany v), (X7_text v), (X7_length v), z55_v_thrown, (X7_joint v), (X7_position v), (X7_isWrong v), z55_v_isHollow, z55_v_sure, z55_v_away, z55_v_digested) 5 y55_1 (fun r64 z64_v_aside z64_v_s =>
  wp_X7_digestOne (z64_v_s, z64_v_aside, (X7_kept v), (X7_isKept v), (X7_saved v), (X7_savedMany v), (X7_text v), (X7_length v), z55_v_thrown, (X7_joint v), (X7_position v), (X7_isWrong v), z55_v_isHollow, z55_v_sure, z55_v_away, z55_v_digested) (r64.toInt64) (fun z68_v_digested =>
  B55 (y55_1 + 1) z64_v_aside z68_v_digested z64_v_s))))
def wp_X7_digest_55 (v : V_X7) (z55_v_away : (Nat → Int32)) (z55_v_isHollow : (Nat → Int32)) (z55_v_sure : (Nat → Int32)) (z55_v_thrown : Int32) (y55_1 : Int32) (z55_v_aside : (Nat → Int32)) (z55_v_digested : Int64) (z55_v_s : (Nat → Int32)) (Q : Int64 → (Nat → Int32) → (Nat → Int32) → Int64 → (Nat → Int32) → (Nat → Int32) → (Nat → Int32) → Int32 → Prop) : Prop :=
  ∃ (I : Int32 → (Nat → Int32) → Int64 → (Nat → Int32) → Prop) (μ : Int32 → (Nat → Int32) → Int64 → (Nat → Int32) → Nat), I y55_1 z55_v_aside z55_v_digested z55_v_s ∧ ∀ (s0 : Int32) (s1 : (Nat → Int32)) (s2 : Int64) (s3 : (Nat → Int32)), I s0 s1 s2 s3 → wb_X7_digest_55 v z55_v_away z55_v_isHollow z55_v_sure z55_v_thrown s0 s1 s2 s3 (fun t0 t1 t2 t3 => I t0 t1 t2 t3 ∧ μ t0 t1 t2 t3 < μ s0 s1 s2 s3) Q
def wb_X7_digest_14 (v : V_X7) (z14_v_thrown : Int32) (y14_1 : Int32) (z14_v_away : (Nat → Int32)) (z14_v_digested : Int64) (z14_v_isHollow : (Nat → Int32)) (B14 : Int32 → (Nat → Int32) → Int64 → (Nat → Int32) → Prop) (Q : Int64 → (Nat → Int32) → (Nat → Int32) → Int64 → (Nat → Int32) → (Nat → Int32) → (Nat → Int32) → Int32 → Prop) : Prop :=
  ((15 ≤ y14_1 → wp_X7_digestLawn ((X7_s v), (X7_aside v), (X7_kept v), (X7_isKept v), (X7_saved v), (X7_savedMany v), (X7_text v), (X7_length v), z14_v_thrown, (X7_joint v), (X7_position v), (X7_isWrong v), z14_v_isHollow, (X7_sure v), z14_v_away, z14_v_digested) (fun z37_v_digested z37_v_isHollow z37_v_sure =>
  wp_X7_digestMounds ((X7_s v), (X7_aside v), (X7_kept v), (X7_isKept v), (X7_saved v), (X7_savedMany v), (X7_text v), (X7_length v), z14_v_thrown, (X7_joint v), (X7_position v), (X7_isWrong v), z37_v_isHollow, z37_v_sure, z14_v_away, z37_v_digested) (fun z41_v_aside z41_v_away z41_v_digested z41_v_isHollow z41_v_s =>
  wp_X7_best (z41_v_s, z41_v_aside, (X7_kept v), (X7_isKept v), (X7_saved v), (X7_savedMany v), (X7_text v), (X7_length v), z14_v_thrown, (X7_joint v), (X7_position v), (X7_isWrong v), z41_v_isHollow, z37_v_sure, z41_v_away, z41_v_digested) (fun r46 =>
  wp_X7_digestOne (z41_v_s, z41_v_aside, (X7_kept v), (X7_isKept v), (X7_saved v), (X7_savedMany v), (X7_text v), (X7_length v), z14_v_thrown, (X7_joint v), (X7_position v), (X7_isWrong v), z41_v_isHollow, z37_v_sure, z41_v_away, z41_v_digested) (r46.toInt64) (fun z50_v_digested =>
  wp_X7_digest_55 v z41_v_away z41_v_isHollow z37_v_sure z14_v_thrown 0 z41_v_aside z50_v_digested z41_v_s Q))))) ∧
  (¬ 15 ≤ y14_1 → wp_X7_counted ((X7_s v), (X7_aside v), (X7_kept v), (X7_isKept v), (X7_saved v), (X7_savedMany v), (X7_text v), (X7_length v), z14_v_thrown, (X7_joint v), (X7_position v), (X7_isWrong v), z14_v_isHollow, (X7_sure v), z14_v_away, z14_v_digested) y14_1 (fun r23 z23_v_away z23_v_isHollow =>
  wp_X7_digestOne ((X7_s v), (X7_aside v), (X7_kept v), (X7_isKept v), (X7_saved v), (X7_savedMany v), (X7_text v), (X7_length v), z14_v_thrown, (X7_joint v), (X7_position v), (X7_isWrong v), z23_v_isHollow, (X7_sure v), z23_v_away, z14_v_digested) (r23.toInt64) (fun z27_v_digested =>
  B14 (y14_1 + 1) z23_v_away z27_v_digested z23_v_isHollow))))
def wp_X7_digest_14 (v : V_X7) (z14_v_thrown : Int32) (y14_1 : Int32) (z14_v_away : (Nat → Int32)) (z14_v_digested : Int64) (z14_v_isHollow : (Nat → Int32)) (Q : Int64 → (Nat → Int32) → (Nat → Int32) → Int64 → (Nat → Int32) → (Nat → Int32) → (Nat → Int32) → Int32 → Prop) : Prop :=
  ∃ (I : Int32 → (Nat → Int32) → Int64 → (Nat → Int32) → Prop) (μ : Int32 → (Nat → Int32) → Int64 → (Nat → Int32) → Nat), I y14_1 z14_v_away z14_v_digested z14_v_isHollow ∧ ∀ (s0 : Int32) (s1 : (Nat → Int32)) (s2 : Int64) (s3 : (Nat → Int32)), I s0 s1 s2 s3 → wb_X7_digest_14 v z14_v_thrown s0 s1 s2 s3 (fun t0 t1 t2 t3 => I t0 t1 t2 t3 ∧ μ t0 t1 t2 t3 < μ s0 s1 s2 s3) Q
def wp_X7_digest (v : V_X7) (Q : Int64 → (Nat → Int32) → (Nat → Int32) → Int64 → (Nat → Int32) → (Nat → Int32) → (Nat → Int32) → Int32 → Prop) : Prop :=
  wp_X7_digest_14 v 0 0 (X7_away v) 3631 (X7_isHollow v) Q

