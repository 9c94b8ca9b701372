/-! The bits of the share, both sides. -/
def bsR (x y : Int32) : Int64 := (((((1023 + y) - 6).toInt64) <<< ((52 : Int32).toInt64 &&& 63)) ||| (((x.toInt64) - ((1 : Int64) <<< (y.toInt64 &&& 63))) <<< ((52 - y).toInt64 &&& 63)))
def bsF (x : Int32) : Nat → Nat → Int64
  | 0, k => bsR x (nI k)
  | f + 1, k => if x >>> ((nI (k + 1)) &&& 31) = 0 then bsR x (nI k) else bsF x f (k + 1)
def bitsS (c : Nat) : Int64 := if 0 < nI c then bsF (nI c) 30 0 else 0
theorem C_bitsOfShare {c : Nat} {Q : Int64 → Prop} (hq : Q (bitsS c)) : wp_X6_bitsOfShare (nI c) Q := by
  unfold wp_X6_bitsOfShare
  unfold bitsS at hq
  refine ⟨fun e => ?_, fun e => by rw [if_neg e] at hq; exact hq⟩
  rw [if_pos e] at hq
  unfold wp_X6_bitsOfShare_8
  refine ⟨fun y => ∃ k, y = nI k ∧ k ≤ 30 ∧ bsF (nI c) (30 - k) k = bsF (nI c) 30 0, fun y => 50 - y.toNatClampNeg, ⟨0, rfl, by omega, rfl⟩, ?_⟩
  rintro _ ⟨k, rfl, hk, hb⟩
  unfold wb_X6_bitsOfShare_8
  refine ⟨fun e2 => ?_, fun e2 => ?_⟩
  · simp (disch := omega) only [nI_lit, nI_leI] at e2
    have : k = 30 := by omega
    subst this
    rw [← hb] at hq
    exact hq
  · simp (disch := omega) only [nI_lit, nI_leI] at e2
    have hs : bsF (nI c) (30 - k) k = if (nI c) >>> ((nI (k + 1)) &&& 31) = 0 then bsR (nI c) (nI k) else bsF (nI c) (30 - (k + 1)) (k + 1) := by
      rw [show 30 - k = (30 - (k + 1)) + 1 by omega]; rfl
    have ek : nI k + 1 = nI (k + 1) := by simp only [nI_lit, nI_add]
    rw [ek]
    refine ⟨fun e3 => ?_, fun e3 => ⟨⟨k + 1, rfl, by omega, ?_⟩, by show 50 - (nI (k + 1)).toNatClampNeg < 50 - (nI k).toNatClampNeg; rw [nI_clamp (by omega), nI_clamp (by omega)]; omega⟩⟩
    · rw [if_pos e3] at hs
      rw [← hb, hs] at hq
      exact hq
    · rw [if_neg e3] at hs
      rw [← hs]; exact hb
def vfB (r : UInt64) : Bool := decide (r &&& 0x7fffffffffffffff ≤ 0x7ff0000000000000)
theorem vfB_n {r : UInt64} (h : vfB r = true) : vf_n64 r := by
  unfold vfB at h
  unfold vf_n64
  exact of_decide_eq_true h
def boF : Nat → Int64 → UInt64 → Option Int64
  | 0, _, _ => none
  | f + 1, y, z => if 0 ≤ (Op.cmpValue (FP.dcmp z FP.dconst1) .g) then (if vfB (FP.dsub z FP.dconst1) && vfB (FP.dmul (FP.dsub z FP.dconst1) 4841369599423283200) then some ((y * 4503599627370496) + (FP.d2l (FP.dmul (FP.dsub z FP.dconst1) 4841369599423283200))) else none) else if vfB (FP.dmul z 4611686018427387904) then boF f (y - 1) (FP.dmul z 4611686018427387904) else none
def boS (x : UInt64) : Option Int64 := if (Op.cmpValue (FP.dcmp x FP.dconst0) .l) = 0 then some 0 else boF 10 1023 x
theorem bo_dec : ∀ f : Fin 10, (1013 + Int64.ofNat (f.1 + 1)) - 1 = 1013 + Int64.ofNat f.1 ∧ ((1013 + Int64.ofNat f.1) - 1013).toNatClampNeg < ((1013 + Int64.ofNat (f.1 + 1)) - 1013).toNatClampNeg := by decide
theorem M_bitsOf {x : UInt64} {r : Int64} (h : boS x = some r) {Q : Int64 → Prop} (hq : Q r) : wp_X7_bitsOf x Q := by
  unfold wp_X7_bitsOf
  unfold boS at h
  refine ⟨fun e => ?_, fun e => ?_⟩
  · rw [if_pos e] at h
    injection h with h
    rw [h]; exact hq
  rw [if_neg e] at h
  unfold wp_X7_bitsOf_15
  refine ⟨fun y z => ∃ f, f ≤ 10 ∧ y = 1013 + Int64.ofNat f ∧ boF f y z = some r, fun y _ => (y - 1013).toNatClampNeg, ⟨10, by omega, by decide, h⟩, ?_⟩
  rintro _ z ⟨f, hf, rfl, hb⟩
  unfold wb_X7_bitsOf_15
  cases f with
  | zero => cases hb
  | succ f =>
    unfold boF at hb
    refine ⟨fun e2 => ?_, fun e2 => ?_⟩
    · rw [if_pos e2] at hb
      split at hb
      · rename_i e3
        injection hb with hb
        rw [Bool.and_eq_true] at e3
        exact ⟨vfB_n e3.1, vfB_n e3.2, by rw [hb]; exact hq⟩
      · cases hb
    · rw [if_neg e2] at hb
      split at hb
      · rename_i e3
        have bd := bo_dec ⟨f, by omega⟩
        refine ⟨vfB_n e3, ⟨f, by omega, bd.1, hb⟩, ?_⟩
        rw [bd.1]
        exact bd.2
      · cases hb
theorem bits_same : ∀ c : Fin 65, boS (shareF c.1) = some (bitsS c.1) := by decide +kernel
