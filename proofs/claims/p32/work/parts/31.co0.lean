def wo_X6_keep (v : V_X6)  (Q : Int32 → V_X6 → Prop) : Prop := wp_X6_keep v  (fun r z_snapshot z_snapshotTaken => Q r ((X6_lawn v), z_snapshot, (X6_trial v), (X6_savedR v), (X6_saved v), (X6_text v), (X6_survey v), (X6_paths v), z_snapshotTaken, (X6_savedCount v), (X6_spareR v)))
set_option maxRecDepth 100000 in
theorem co_X6_keep (l : Launch) (dC : Nat → ClassId) (dI : Nat → Nat → Nat) (cy : Nat → ClassId) (a : Nat → Nat) (sz : Nat) (v : V_X6)  (Q : Int32 → V_X6 → Prop) (hq : wo_X6_keep v  Q) : Met l yX6_keep wsX6_keep ({ frames := 3, cells := 0, slots := 0, locals := 69 } : Room) (va_Pc [.ref (a 0)] (xPre dC dI cy (wX6 cy a v) sz)) (va_Qi (fun (r : Int32) (u : V_X6) => Q r u) (fun (u : V_X6) t => xAt dC dI cy (va_A (wX6 cy a v) sz) (wX6 cy a u) t) (va_A (wX6 cy a v) sz)) 0 0 (va_A (wX6 cy a v) sz) := by
  refine xPost (c_X6_keep l dC dI cy a sz v  _ hq) (fun _ _ _ _ h => ?_)
  obtain ⟨⟨r, u, e, hq, hB⟩, hF⟩ := h
  exact ⟨⟨r, ((X6_lawn v), u.1, (X6_trial v), (X6_savedR v), (X6_saved v), (X6_text v), (X6_survey v), (X6_paths v), u.2, (X6_savedCount v), (X6_spareR v)), e, hq, hB⟩, hF⟩
def wo_X6_bestDig (v : V_X6)  (Q : Int32 → V_X6 → Prop) : Prop := wp_X6_bestDig v  (fun r z_survey => Q r ((X6_lawn v), (X6_snapshot v), (X6_trial v), (X6_savedR v), (X6_saved v), (X6_text v), z_survey, (X6_paths v), (X6_snapshotTaken v), (X6_savedCount v), (X6_spareR v)))
set_option maxRecDepth 100000 in
theorem co_X6_bestDig (l : Launch) (dC : Nat → ClassId) (dI : Nat → Nat → Nat) (cy : Nat → ClassId) (a : Nat → Nat) (sz : Nat) (v : V_X6)  (Q : Int32 → V_X6 → Prop) (hq : wo_X6_bestDig v  Q) : Met l yX6_bestDig wsX6_bestDig ({ frames := 6, cells := 0, slots := 0, locals := 138 } : Room) (va_Pc [.ref (a 0)] (xPreE dC dI cy (wX6 cy a v) sz)) (va_Qi (fun (r : Int32) (u : V_X6) => Q r u) (fun (u : V_X6) t => xAt dC dI cy (va_A (wX6 cy a v) sz) (wX6 cy a u) t) (va_A (wX6 cy a v) sz)) 0 0 (va_A (wX6 cy a v) sz) := by
  refine xPost (c_X6_bestDig l dC dI cy a sz v  _ hq) (fun _ _ _ _ h => ?_)
  obtain ⟨⟨r, u, e, hq, hB⟩, hF⟩ := h
  exact ⟨⟨r, ((X6_lawn v), (X6_snapshot v), (X6_trial v), (X6_savedR v), (X6_saved v), (X6_text v), u, (X6_paths v), (X6_snapshotTaken v), (X6_savedCount v), (X6_spareR v)), e, hq, hB⟩, hF⟩
def wo_X6_nextMound (v : V_X6)  (Q : Int32 → V_X6 → Prop) : Prop := wp_X6_nextMound v  (fun r z_spareR z_trial => Q r ((X6_lawn v), (X6_snapshot v), z_trial, (X6_savedR v), (X6_saved v), (X6_text v), (X6_survey v), (X6_paths v), (X6_snapshotTaken v), (X6_savedCount v), z_spareR))
set_option maxRecDepth 100000 in
theorem co_X6_nextMound (l : Launch) (dC : Nat → ClassId) (dI : Nat → Nat → Nat) (cy : Nat → ClassId) (a : Nat → Nat) (sz : Nat) (v : V_X6)  (Q : Int32 → V_X6 → Prop) (hq : wo_X6_nextMound v  Q) : Met l yX6_nextMound wsX6_nextMound ({ frames := 7, cells := 0, slots := 0, locals := 164 } : Room) (va_Pc [.ref (a 0)] (xPreE dC dI cy (wX6 cy a v) sz)) (va_Qi (fun (r : Int32) (u : V_X6) => Q r u) (fun (u : V_X6) t => xAt dC dI cy (va_A (wX6 cy a v) sz) (wX6 cy a u) t) (va_A (wX6 cy a v) sz)) 0 0 (va_A (wX6 cy a v) sz) := by
  refine xPost (c_X6_nextMound l dC dI cy a sz v  _ hq) (fun _ _ _ _ h => ?_)
  obtain ⟨⟨r, u, e, hq, hB⟩, hF⟩ := h
  exact ⟨⟨r, ((X6_lawn v), (X6_snapshot v), u.2, (X6_savedR v), (X6_saved v), (X6_text v), (X6_survey v), (X6_paths v), (X6_snapshotTaken v), (X6_savedCount v), u.1), e, hq, hB⟩, hF⟩
def wo_X6_hollowShare (v : V_X6)  (Q : UInt64 → V_X6 → Prop) : Prop := wp_X6_hollowShare v  (fun r z_survey => Q r ((X6_lawn v), (X6_snapshot v), (X6_trial v), (X6_savedR v), (X6_saved v), (X6_text v), z_survey, (X6_paths v), (X6_snapshotTaken v), (X6_savedCount v), (X6_spareR v)))
set_option maxRecDepth 100000 in
theorem co_X6_hollowShare (l : Launch) (dC : Nat → ClassId) (dI : Nat → Nat → Nat) (cy : Nat → ClassId) (a : Nat → Nat) (sz : Nat) (v : V_X6)  (Q : UInt64 → V_X6 → Prop) (hq : wo_X6_hollowShare v  Q) : Met l yX6_hollowShare wsX6_hollowShare ({ frames := 6, cells := 0, slots := 0, locals := 138 } : Room) (va_Pc [.ref (a 0)] (xPreE dC dI cy (wX6 cy a v) sz)) (va_Qd (fun (r : UInt64) (u : V_X6) => Q r u) (fun (u : V_X6) t => xAt dC dI cy (va_A (wX6 cy a v) sz) (wX6 cy a u) t) (va_A (wX6 cy a v) sz)) 0 0 (va_A (wX6 cy a v) sz) := by
  refine xPost (c_X6_hollowShare l dC dI cy a sz v  _ hq) (fun _ _ _ _ h => ?_)
  obtain ⟨⟨r, u, e, hq, hB⟩, hF⟩ := h
  exact ⟨⟨r, ((X6_lawn v), (X6_snapshot v), (X6_trial v), (X6_savedR v), (X6_saved v), (X6_text v), u, (X6_paths v), (X6_snapshotTaken v), (X6_savedCount v), (X6_spareR v)), e, hq, hB⟩, hF⟩
def wo_X6_mole (v : V_X6) (x1 : Int32) (Q : Int32 → V_X6 → Prop) : Prop := wp_X6_mole v x1 (fun r z_lawn z_saved z_savedCount z_savedR z_spareR => Q r (z_lawn, (X6_snapshot v), (X6_trial v), z_savedR, z_saved, (X6_text v), (X6_survey v), (X6_paths v), (X6_snapshotTaken v), z_savedCount, z_spareR)) (fun _ => False)
set_option maxRecDepth 100000 in
theorem co_X6_mole (l : Launch) (dC : Nat → ClassId) (dI : Nat → Nat → Nat) (cy : Nat → ClassId) (a : Nat → Nat) (sz : Nat) (v : V_X6) (x1 : Int32) (Q : Int32 → V_X6 → Prop) (hq : wo_X6_mole v x1 Q) : Met l yX6_mole wsX6_mole ({ frames := 5, cells := 0, slots := 0, locals := 119 } : Room) (va_Pc [.ref (a 0), .int x1] (xPre dC dI cy (wX6 cy a v) sz)) (va_Qi (fun (r : Int32) (u : V_X6) => Q r u) (fun (u : V_X6) t => xAt dC dI cy (va_A (wX6 cy a v) sz) (wX6 cy a u) t) (va_A (wX6 cy a v) sz)) 0 0 (va_A (wX6 cy a v) sz) := by
  refine xPost (c_X6_mole l dC dI cy a sz v x1 _ (fun _ => False) (fun _ h9 => h9) hq) (fun _ _ _ _ h => ?_)
  obtain ⟨⟨r, u, e, hq, hB⟩, hF⟩ := h
  exact ⟨⟨r, (u.1, (X6_snapshot v), (X6_trial v), u.2.2.2.1, u.2.1, (X6_text v), (X6_survey v), (X6_paths v), (X6_snapshotTaken v), u.2.2.1, u.2.2.2.2), e, hq, hB⟩, hF⟩
def wo_X6_plan (v : V_X6) (x1 : Int32) (x2 : Int32) (Q : Int32 → V_X6 → Prop) : Prop := wp_X6_plan v x1 x2 (fun r z_lawn z_saved z_savedCount z_savedR => Q r (z_lawn, (X6_snapshot v), (X6_trial v), z_savedR, z_saved, (X6_text v), (X6_survey v), (X6_paths v), (X6_snapshotTaken v), z_savedCount, (X6_spareR v))) (fun _ => False)
set_option maxRecDepth 100000 in
theorem co_X6_plan (l : Launch) (dC : Nat → ClassId) (dI : Nat → Nat → Nat) (cy : Nat → ClassId) (a : Nat → Nat) (sz : Nat) (v : V_X6) (x1 : Int32) (x2 : Int32) (Q : Int32 → V_X6 → Prop) (hq : wo_X6_plan v x1 x2 Q) : Met l yX6_plan wsX6_plan ({ frames := 4, cells := 0, slots := 0, locals := 91 } : Room) (va_Pc [.ref (a 0), .int x1, .int x2] (xPre dC dI cy (wX6 cy a v) sz)) (va_Qi (fun (r : Int32) (u : V_X6) => Q r u) (fun (u : V_X6) t => xAt dC dI cy (va_A (wX6 cy a v) sz) (wX6 cy a u) t) (va_A (wX6 cy a v) sz)) 0 0 (va_A (wX6 cy a v) sz) := by
  refine xPost (c_X6_plan l dC dI cy a sz v x1 x2 _ (fun _ => False) (fun _ h9 => h9) hq) (fun _ _ _ _ h => ?_)
  obtain ⟨⟨r, u, e, hq, hB⟩, hF⟩ := h
  exact ⟨⟨r, (u.1, (X6_snapshot v), (X6_trial v), u.2.2.2, u.2.1, (X6_text v), (X6_survey v), (X6_paths v), (X6_snapshotTaken v), u.2.2.1, (X6_spareR v)), e, hq, hB⟩, hF⟩
def wo_X6_rest (v : V_X6) (x1 : Int32) (Q : Int32 → V_X6 → Prop) : Prop := wp_X6_rest v x1 (fun r z_lawn z_saved z_savedCount z_savedR => Q r (z_lawn, (X6_snapshot v), (X6_trial v), z_savedR, z_saved, (X6_text v), (X6_survey v), (X6_paths v), (X6_snapshotTaken v), z_savedCount, (X6_spareR v))) (fun _ => False)
set_option maxRecDepth 100000 in
theorem co_X6_rest (l : Launch) (dC : Nat → ClassId) (dI : Nat → Nat → Nat) (cy : Nat → ClassId) (a : Nat → Nat) (sz : Nat) (v : V_X6) (x1 : Int32) (Q : Int32 → V_X6 → Prop) (hq : wo_X6_rest v x1 Q) : Met l yX6_rest wsX6_rest ({ frames := 4, cells := 0, slots := 0, locals := 91 } : Room) (va_Pc [.ref (a 0), .int x1] (xPre dC dI cy (wX6 cy a v) sz)) (va_Qi (fun (r : Int32) (u : V_X6) => Q r u) (fun (u : V_X6) t => xAt dC dI cy (va_A (wX6 cy a v) sz) (wX6 cy a u) t) (va_A (wX6 cy a v) sz)) 0 0 (va_A (wX6 cy a v) sz) := by
  refine xPost (c_X6_rest l dC dI cy a sz v x1 _ (fun _ => False) (fun _ h9 => h9) hq) (fun _ _ _ _ h => ?_)
  obtain ⟨⟨r, u, e, hq, hB⟩, hF⟩ := h
  exact ⟨⟨r, (u.1, (X6_snapshot v), (X6_trial v), u.2.2.2, u.2.1, (X6_text v), (X6_survey v), (X6_paths v), (X6_snapshotTaken v), u.2.2.1, (X6_spareR v)), e, hq, hB⟩, hF⟩
def wo_X6_pass (v : V_X6) (x1 : Int32) (Q : Int32 → V_X6 → Prop) : Prop := wp_X6_pass v x1 (fun r z_lawn z_saved z_savedCount z_savedR z_spareR => Q r (z_lawn, (X6_snapshot v), (X6_trial v), z_savedR, z_saved, (X6_text v), (X6_survey v), (X6_paths v), (X6_snapshotTaken v), z_savedCount, z_spareR)) (fun _ => False)
set_option maxRecDepth 100000 in
theorem co_X6_pass (l : Launch) (dC : Nat → ClassId) (dI : Nat → Nat → Nat) (cy : Nat → ClassId) (a : Nat → Nat) (sz : Nat) (v : V_X6) (x1 : Int32) (Q : Int32 → V_X6 → Prop) (hq : wo_X6_pass v x1 Q) : Met l yX6_pass wsX6_pass ({ frames := 6, cells := 0, slots := 0, locals := 143 } : Room) (va_Pc [.ref (a 0), .int x1] (xPreE dC dI cy (wX6 cy a v) sz)) (va_Qi (fun (r : Int32) (u : V_X6) => Q r u) (fun (u : V_X6) t => xAt dC dI cy (va_A (wX6 cy a v) sz) (wX6 cy a u) t) (va_A (wX6 cy a v) sz)) 0 0 (va_A (wX6 cy a v) sz) := by
  refine xPost (c_X6_pass l dC dI cy a sz v x1 _ (fun _ => False) (fun _ h9 => h9) hq) (fun _ _ _ _ h => ?_)
  obtain ⟨⟨r, u, e, hq, hB⟩, hF⟩ := h
  exact ⟨⟨r, (u.1, (X6_snapshot v), (X6_trial v), u.2.2.2.1, u.2.1, (X6_text v), (X6_survey v), (X6_paths v), (X6_snapshotTaken v), u.2.2.1, u.2.2.2.2), e, hq, hB⟩, hF⟩
