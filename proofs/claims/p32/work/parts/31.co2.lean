def wo_X6_moleOf (v : V_X6) (x1 : Int32) (x2 : Int32) (Q : Int32 → Prop) : Prop := wp_X6_moleOf v x1 x2 (fun r => Q r) (fun _ => False)
set_option maxRecDepth 100000 in
theorem co_X6_moleOf (l : Launch) (dC : Nat → ClassId) (dI : Nat → Nat → Nat) (cy : Nat → ClassId) (a : Nat → Nat) (sz : Nat) (v : V_X6) (x1 : Int32) (x2 : Int32) (Q : Int32 → Prop) (hq : wo_X6_moleOf v x1 x2 Q) : Met l yX6_moleOf wsX6_moleOf ({ frames := 2, cells := 0, slots := 0, locals := 41 } : Room) (va_Pc [.ref (a 0), .int x1, .int x2] (xPre dC dI cy (wX6 cy a v) sz)) (va_Qi (fun (r : Int32) (_ : Unit) => Q r) (fun (_ : Unit) t => xAt dC dI cy (va_A (wX6 cy a v) sz) (wX6 cy a v) t) (va_A (wX6 cy a v) sz)) 0 0 (va_A (wX6 cy a v) sz) := by
  refine xPost (c_X6_moleOf l dC dI cy a sz v x1 x2 _ (fun _ => False) (fun _ h9 => h9) hq) (fun _ _ _ _ h => ?_)
  exact h
def wo_X6_tunnel (v : V_X6) (x1 : Int32) (x2 : Int32) (Q : Int32 → Prop) : Prop := wp_X6_tunnel v x1 x2 (fun r => Q r) (fun _ => False)
set_option maxRecDepth 100000 in
theorem co_X6_tunnel (l : Launch) (dC : Nat → ClassId) (dI : Nat → Nat → Nat) (cy : Nat → ClassId) (a : Nat → Nat) (sz : Nat) (v : V_X6) (x1 : Int32) (x2 : Int32) (Q : Int32 → Prop) (hq : wo_X6_tunnel v x1 x2 Q) : Met l yX6_tunnel wsX6_tunnel ({ frames := 4, cells := 0, slots := 0, locals := 86 } : Room) (va_Pc [.ref (a 0), .int x1, .int x2] (xPre dC dI cy (wX6 cy a v) sz)) (va_Qi (fun (r : Int32) (_ : Unit) => Q r) (fun (_ : Unit) t => xAt dC dI cy (va_A (wX6 cy a v) sz) (wX6 cy a v) t) (va_A (wX6 cy a v) sz)) 0 0 (va_A (wX6 cy a v) sz) := by
  refine xPost (c_X6_tunnel l dC dI cy a sz v x1 x2 _ (fun _ => False) (fun _ h9 => h9) hq) (fun _ _ _ _ h => ?_)
  exact h
def wo_X6_cell (v : V_X6) (x1 : Int32) (x2 : Int32) (Q : Int32 → Prop) : Prop := wp_X6_cell v x1 x2 (fun r => Q r) (fun _ => False)
set_option maxRecDepth 100000 in
theorem co_X6_cell (l : Launch) (dC : Nat → ClassId) (dI : Nat → Nat → Nat) (cy : Nat → ClassId) (a : Nat → Nat) (sz : Nat) (v : V_X6) (x1 : Int32) (x2 : Int32) (Q : Int32 → Prop) (hq : wo_X6_cell v x1 x2 Q) : Met l yX6_cell wsX6_cell ({ frames := 2, cells := 0, slots := 0, locals := 43 } : Room) (va_Pc [.ref (a 0), .int x1, .int x2] (xPre dC dI cy (wX6 cy a v) sz)) (va_Qi (fun (r : Int32) (_ : Unit) => Q r) (fun (_ : Unit) t => xAt dC dI cy (va_A (wX6 cy a v) sz) (wX6 cy a v) t) (va_A (wX6 cy a v) sz)) 0 0 (va_A (wX6 cy a v) sz) := by
  refine xPost (c_X6_cell l dC dI cy a sz v x1 x2 _ (fun _ => False) (fun _ h9 => h9) hq) (fun _ _ _ _ h => ?_)
  exact h
def wo_X6_count (v : V_X6) (x1 : Int32) (Q : Int32 → V_X6 → Prop) : Prop := wp_X6_count v x1 (fun r z_paths z_survey => Q r ((X6_lawn v), (X6_snapshot v), (X6_trial v), (X6_savedR v), (X6_saved v), (X6_text v), z_survey, z_paths, (X6_snapshotTaken v), (X6_savedCount v), (X6_spareR v))) (fun _ => False)
set_option maxRecDepth 100000 in
theorem co_X6_count (l : Launch) (dC : Nat → ClassId) (dI : Nat → Nat → Nat) (cy : Nat → ClassId) (a : Nat → Nat) (sz : Nat) (v : V_X6) (x1 : Int32) (Q : Int32 → V_X6 → Prop) (hq : wo_X6_count v x1 Q) : Met l yX6_count wsX6_count ({ frames := 6, cells := 0, slots := 0, locals := 138 } : Room) (va_Pc [.ref (a 0), .int x1] (xPreE dC dI cy (wX6 cy a v) sz)) (va_Qi (fun (r : Int32) (u : V_X6) => Q r u) (fun (u : V_X6) t => xAt dC dI cy (va_A (wX6 cy a v) sz) (wX6 cy a u) t) (va_A (wX6 cy a v) sz)) 0 0 (va_A (wX6 cy a v) sz) := by
  refine xPost (c_X6_count l dC dI cy a sz v x1 _ (fun _ => False) (fun _ h9 => h9) hq) (fun _ _ _ _ h => ?_)
  obtain ⟨⟨r, u, e, hq, hB⟩, hF⟩ := h
  exact ⟨⟨r, ((X6_lawn v), (X6_snapshot v), (X6_trial v), (X6_savedR v), (X6_saved v), (X6_text v), u.2, u.1, (X6_snapshotTaken v), (X6_savedCount v), (X6_spareR v)), e, hq, hB⟩, hF⟩
def wo_X6_joined (v : V_X6) (x1 : Int32) (x2 : Int32) (Q : Int32 → V_X6 → Prop) : Prop := wp_X6_joined v x1 x2 (fun r z_paths => Q r ((X6_lawn v), (X6_snapshot v), (X6_trial v), (X6_savedR v), (X6_saved v), (X6_text v), (X6_survey v), z_paths, (X6_snapshotTaken v), (X6_savedCount v), (X6_spareR v))) (fun _ => False)
set_option maxRecDepth 100000 in
theorem co_X6_joined (l : Launch) (dC : Nat → ClassId) (dI : Nat → Nat → Nat) (cy : Nat → ClassId) (a : Nat → Nat) (sz : Nat) (v : V_X6) (x1 : Int32) (x2 : Int32) (Q : Int32 → V_X6 → Prop) (hq : wo_X6_joined v x1 x2 Q) : Met l yX6_joined wsX6_joined ({ frames := 4, cells := 0, slots := 0, locals := 91 } : Room) (va_Pc [.ref (a 0), .int x1, .int x2] (xPre dC dI cy (wX6 cy a v) sz)) (va_Qi (fun (r : Int32) (u : V_X6) => Q r u) (fun (u : V_X6) t => xAt dC dI cy (va_A (wX6 cy a v) sz) (wX6 cy a u) t) (va_A (wX6 cy a v) sz)) 0 0 (va_A (wX6 cy a v) sz) := by
  refine xPost (c_X6_joined l dC dI cy a sz v x1 x2 _ (fun _ => False) (fun _ h9 => h9) hq) (fun _ _ _ _ h => ?_)
  obtain ⟨⟨r, u, e, hq, hB⟩, hF⟩ := h
  exact ⟨⟨r, ((X6_lawn v), (X6_snapshot v), (X6_trial v), (X6_savedR v), (X6_saved v), (X6_text v), (X6_survey v), u, (X6_snapshotTaken v), (X6_savedCount v), (X6_spareR v)), e, hq, hB⟩, hF⟩
def wo_X6_fewest (v : V_X6) (x1 : Int32) (x2 : Int32) (Q : Int32 → V_X6 → Prop) : Prop := wp_X6_fewest v x1 x2 (fun r z_paths => Q r ((X6_lawn v), (X6_snapshot v), (X6_trial v), (X6_savedR v), (X6_saved v), (X6_text v), (X6_survey v), z_paths, (X6_snapshotTaken v), (X6_savedCount v), (X6_spareR v))) (fun _ => False)
set_option maxRecDepth 100000 in
theorem co_X6_fewest (l : Launch) (dC : Nat → ClassId) (dI : Nat → Nat → Nat) (cy : Nat → ClassId) (a : Nat → Nat) (sz : Nat) (v : V_X6) (x1 : Int32) (x2 : Int32) (Q : Int32 → V_X6 → Prop) (hq : wo_X6_fewest v x1 x2 Q) : Met l yX6_fewest wsX6_fewest ({ frames := 4, cells := 0, slots := 0, locals := 91 } : Room) (va_Pc [.ref (a 0), .int x1, .int x2] (xPre dC dI cy (wX6 cy a v) sz)) (va_Qi (fun (r : Int32) (u : V_X6) => Q r u) (fun (u : V_X6) t => xAt dC dI cy (va_A (wX6 cy a v) sz) (wX6 cy a u) t) (va_A (wX6 cy a v) sz)) 0 0 (va_A (wX6 cy a v) sz) := by
  refine xPost (c_X6_fewest l dC dI cy a sz v x1 x2 _ (fun _ => False) (fun _ h9 => h9) hq) (fun _ _ _ _ h => ?_)
  obtain ⟨⟨r, u, e, hq, hB⟩, hF⟩ := h
  exact ⟨⟨r, ((X6_lawn v), (X6_snapshot v), (X6_trial v), (X6_savedR v), (X6_saved v), (X6_text v), (X6_survey v), u, (X6_snapshotTaken v), (X6_savedCount v), (X6_spareR v)), e, hq, hB⟩, hF⟩
def wo_X6_ifDug (v : V_X6) (x1 : Int32) (x2 : Int32) (Q : Int32 → V_X6 → Prop) : Prop := wp_X6_ifDug v x1 x2 (fun r z_spareR z_survey z_trial => Q r ((X6_lawn v), (X6_snapshot v), z_trial, (X6_savedR v), (X6_saved v), (X6_text v), z_survey, (X6_paths v), (X6_snapshotTaken v), (X6_savedCount v), z_spareR)) (fun _ => False)
set_option maxRecDepth 100000 in
theorem co_X6_ifDug (l : Launch) (dC : Nat → ClassId) (dI : Nat → Nat → Nat) (cy : Nat → ClassId) (a : Nat → Nat) (sz : Nat) (v : V_X6) (x1 : Int32) (x2 : Int32) (Q : Int32 → V_X6 → Prop) (hq : wo_X6_ifDug v x1 x2 Q) : Met l yX6_ifDug wsX6_ifDug ({ frames := 6, cells := 0, slots := 0, locals := 143 } : Room) (va_Pc [.ref (a 0), .int x1, .int x2] (xPreE dC dI cy (wX6 cy a v) sz)) (va_Qi (fun (r : Int32) (u : V_X6) => Q r u) (fun (u : V_X6) t => xAt dC dI cy (va_A (wX6 cy a v) sz) (wX6 cy a u) t) (va_A (wX6 cy a v) sz)) 0 0 (va_A (wX6 cy a v) sz) := by
  refine xPost (c_X6_ifDug l dC dI cy a sz v x1 x2 _ (fun _ => False) (fun _ h9 => h9) hq) (fun _ _ _ _ h => ?_)
  obtain ⟨⟨r, u, e, hq, hB⟩, hF⟩ := h
  exact ⟨⟨r, ((X6_lawn v), (X6_snapshot v), u.2.2, (X6_savedR v), (X6_saved v), (X6_text v), u.2.1, (X6_paths v), (X6_snapshotTaken v), (X6_savedCount v), u.1), e, hq, hB⟩, hF⟩
def wo_X6_ifPassed (v : V_X6) (x1 : Int32) (x2 : Int32) (Q : Int32 → V_X6 → Prop) : Prop := wp_X6_ifPassed v x1 x2 (fun r z_spareR z_trial => Q r ((X6_lawn v), (X6_snapshot v), z_trial, (X6_savedR v), (X6_saved v), (X6_text v), (X6_survey v), (X6_paths v), (X6_snapshotTaken v), (X6_savedCount v), z_spareR)) (fun _ => False)
set_option maxRecDepth 100000 in
theorem co_X6_ifPassed (l : Launch) (dC : Nat → ClassId) (dI : Nat → Nat → Nat) (cy : Nat → ClassId) (a : Nat → Nat) (sz : Nat) (v : V_X6) (x1 : Int32) (x2 : Int32) (Q : Int32 → V_X6 → Prop) (hq : wo_X6_ifPassed v x1 x2 Q) : Met l yX6_ifPassed wsX6_ifPassed ({ frames := 7, cells := 0, slots := 0, locals := 165 } : Room) (va_Pc [.ref (a 0), .int x1, .int x2] (xPreE dC dI cy (wX6 cy a v) sz)) (va_Qi (fun (r : Int32) (u : V_X6) => Q r u) (fun (u : V_X6) t => xAt dC dI cy (va_A (wX6 cy a v) sz) (wX6 cy a u) t) (va_A (wX6 cy a v) sz)) 0 0 (va_A (wX6 cy a v) sz) := by
  refine xPost (c_X6_ifPassed l dC dI cy a sz v x1 x2 _ (fun _ => False) (fun _ h9 => h9) hq) (fun _ _ _ _ h => ?_)
  obtain ⟨⟨r, u, e, hq, hB⟩, hF⟩ := h
  exact ⟨⟨r, ((X6_lawn v), (X6_snapshot v), u.2, (X6_savedR v), (X6_saved v), (X6_text v), (X6_survey v), (X6_paths v), (X6_snapshotTaken v), (X6_savedCount v), u.1), e, hq, hB⟩, hF⟩
