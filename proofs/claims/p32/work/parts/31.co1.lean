def wo_X6_root (v : V_X6) (x1 : Int32) (x2 : Int32) (Q : Int32 → V_X6 → Prop) : Prop := wp_X6_root v x1 x2 (fun r z_lawn z_saved z_savedCount z_savedR => Q r (z_lawn, (X6_snapshot v), (X6_trial v), z_savedR, z_saved, (X6_text v), (X6_survey v), (X6_paths v), (X6_snapshotTaken v), z_savedCount, (X6_spareR v))) (fun _ => False)
set_option maxRecDepth 100000 in
theorem co_X6_root (l : Launch) (dC : Nat → ClassId) (dI : Nat → Nat → Nat) (cy : Nat → ClassId) (a : Nat → Nat) (sz : Nat) (v : V_X6) (x1 : Int32) (x2 : Int32) (Q : Int32 → V_X6 → Prop) (hq : wo_X6_root v x1 x2 Q) : Met l yX6_root wsX6_root ({ frames := 4, cells := 0, slots := 0, locals := 91 } : Room) (va_Pc [.ref (a 0), .int x1, .int x2] (xPre dC dI cy (wX6 cy a v) sz)) (va_Qi (fun (r : Int32) (u : V_X6) => Q r u) (fun (u : V_X6) t => xAt dC dI cy (va_A (wX6 cy a v) sz) (wX6 cy a u) t) (va_A (wX6 cy a v) sz)) 0 0 (va_A (wX6 cy a v) sz) := by
  refine xPost (c_X6_root l dC dI cy a sz v x1 x2 _ (fun _ => False) (fun _ h9 => h9) hq) (fun _ _ _ _ h => ?_)
  obtain ⟨⟨r, u, e, hq, hB⟩, hF⟩ := h
  exact ⟨⟨r, (u.1, (X6_snapshot v), (X6_trial v), u.2.2.2, u.2.1, (X6_text v), (X6_survey v), (X6_paths v), (X6_snapshotTaken v), u.2.2.1, (X6_spareR v)), e, hq, hB⟩, hF⟩
def wo_X6_trap (v : V_X6) (x1 : Int32) (x2 : Int32) (Q : Int32 → V_X6 → Prop) : Prop := wp_X6_trap v x1 x2 (fun r z_lawn z_saved z_savedCount z_savedR => Q r (z_lawn, (X6_snapshot v), (X6_trial v), z_savedR, z_saved, (X6_text v), (X6_survey v), (X6_paths v), (X6_snapshotTaken v), z_savedCount, (X6_spareR v))) (fun _ => False)
set_option maxRecDepth 100000 in
theorem co_X6_trap (l : Launch) (dC : Nat → ClassId) (dI : Nat → Nat → Nat) (cy : Nat → ClassId) (a : Nat → Nat) (sz : Nat) (v : V_X6) (x1 : Int32) (x2 : Int32) (Q : Int32 → V_X6 → Prop) (hq : wo_X6_trap v x1 x2 Q) : Met l yX6_trap wsX6_trap ({ frames := 4, cells := 0, slots := 0, locals := 91 } : Room) (va_Pc [.ref (a 0), .int x1, .int x2] (xPre dC dI cy (wX6 cy a v) sz)) (va_Qi (fun (r : Int32) (u : V_X6) => Q r u) (fun (u : V_X6) t => xAt dC dI cy (va_A (wX6 cy a v) sz) (wX6 cy a u) t) (va_A (wX6 cy a v) sz)) 0 0 (va_A (wX6 cy a v) sz) := by
  refine xPost (c_X6_trap l dC dI cy a sz v x1 x2 _ (fun _ => False) (fun _ h9 => h9) hq) (fun _ _ _ _ h => ?_)
  obtain ⟨⟨r, u, e, hq, hB⟩, hF⟩ := h
  exact ⟨⟨r, (u.1, (X6_snapshot v), (X6_trial v), u.2.2.2, u.2.1, (X6_text v), (X6_survey v), (X6_paths v), (X6_snapshotTaken v), u.2.2.1, (X6_spareR v)), e, hq, hB⟩, hF⟩
def wo_X6_dig (v : V_X6) (x1 : Int32) (Q : Int32 → V_X6 → Prop) : Prop := wp_X6_dig v x1 (fun r z_lawn z_saved z_savedCount z_savedR z_spareR => Q r (z_lawn, (X6_snapshot v), (X6_trial v), z_savedR, z_saved, (X6_text v), (X6_survey v), (X6_paths v), (X6_snapshotTaken v), z_savedCount, z_spareR)) (fun _ => False)
set_option maxRecDepth 100000 in
theorem co_X6_dig (l : Launch) (dC : Nat → ClassId) (dI : Nat → Nat → Nat) (cy : Nat → ClassId) (a : Nat → Nat) (sz : Nat) (v : V_X6) (x1 : Int32) (Q : Int32 → V_X6 → Prop) (hq : wo_X6_dig v x1 Q) : Met l yX6_dig wsX6_dig ({ frames := 6, cells := 0, slots := 0, locals := 143 } : Room) (va_Pc [.ref (a 0), .int x1] (xPre dC dI cy (wX6 cy a v) sz)) (va_Qi (fun (r : Int32) (u : V_X6) => Q r u) (fun (u : V_X6) t => xAt dC dI cy (va_A (wX6 cy a v) sz) (wX6 cy a u) t) (va_A (wX6 cy a v) sz)) 0 0 (va_A (wX6 cy a v) sz) := by
  refine xPost (c_X6_dig l dC dI cy a sz v x1 _ (fun _ => False) (fun _ h9 => h9) hq) (fun _ _ _ _ h => ?_)
  obtain ⟨⟨r, u, e, hq, hB⟩, hF⟩ := h
  exact ⟨⟨r, (u.1, (X6_snapshot v), (X6_trial v), u.2.2.2.1, u.2.1, (X6_text v), (X6_survey v), (X6_paths v), (X6_snapshotTaken v), u.2.2.1, u.2.2.2.2), e, hq, hB⟩, hF⟩
def wo_X6_rake (v : V_X6) (x1 : Int32) (Q : Int32 → V_X6 → Prop) : Prop := wp_X6_rake v x1 (fun r z_lawn z_saved z_savedCount z_savedR z_spareR => Q r (z_lawn, (X6_snapshot v), (X6_trial v), z_savedR, z_saved, (X6_text v), (X6_survey v), (X6_paths v), (X6_snapshotTaken v), z_savedCount, z_spareR)) (fun _ => False)
set_option maxRecDepth 100000 in
theorem co_X6_rake (l : Launch) (dC : Nat → ClassId) (dI : Nat → Nat → Nat) (cy : Nat → ClassId) (a : Nat → Nat) (sz : Nat) (v : V_X6) (x1 : Int32) (Q : Int32 → V_X6 → Prop) (hq : wo_X6_rake v x1 Q) : Met l yX6_rake wsX6_rake ({ frames := 7, cells := 0, slots := 0, locals := 161 } : Room) (va_Pc [.ref (a 0), .int x1] (xPre dC dI cy (wX6 cy a v) sz)) (va_Qi (fun (r : Int32) (u : V_X6) => Q r u) (fun (u : V_X6) t => xAt dC dI cy (va_A (wX6 cy a v) sz) (wX6 cy a u) t) (va_A (wX6 cy a v) sz)) 0 0 (va_A (wX6 cy a v) sz) := by
  refine xPost (c_X6_rake l dC dI cy a sz v x1 _ (fun _ => False) (fun _ h9 => h9) hq) (fun _ _ _ _ h => ?_)
  obtain ⟨⟨r, u, e, hq, hB⟩, hF⟩ := h
  exact ⟨⟨r, (u.1, (X6_snapshot v), (X6_trial v), u.2.2.2.1, u.2.1, (X6_text v), (X6_survey v), (X6_paths v), (X6_snapshotTaken v), u.2.2.1, u.2.2.2.2), e, hq, hB⟩, hF⟩
def wo_X6_set (v : V_X6) (x1 : Int32) (Q : Int32 → V_X6 → Prop) : Prop := wp_X6_set v x1 (fun r z_lawn z_saved z_savedCount z_savedR => Q r (z_lawn, (X6_snapshot v), (X6_trial v), z_savedR, z_saved, (X6_text v), (X6_survey v), (X6_paths v), (X6_snapshotTaken v), z_savedCount, (X6_spareR v))) (fun _ => False)
set_option maxRecDepth 100000 in
theorem co_X6_set (l : Launch) (dC : Nat → ClassId) (dI : Nat → Nat → Nat) (cy : Nat → ClassId) (a : Nat → Nat) (sz : Nat) (v : V_X6) (x1 : Int32) (Q : Int32 → V_X6 → Prop) (hq : wo_X6_set v x1 Q) : Met l yX6_set wsX6_set ({ frames := 4, cells := 0, slots := 0, locals := 91 } : Room) (va_Pc [.ref (a 0), .int x1] (xPre dC dI cy (wX6 cy a v) sz)) (va_Qi (fun (r : Int32) (u : V_X6) => Q r u) (fun (u : V_X6) t => xAt dC dI cy (va_A (wX6 cy a v) sz) (wX6 cy a u) t) (va_A (wX6 cy a v) sz)) 0 0 (va_A (wX6 cy a v) sz) := by
  refine xPost (c_X6_set l dC dI cy a sz v x1 _ (fun _ => False) (fun _ h9 => h9) hq) (fun _ _ _ _ h => ?_)
  obtain ⟨⟨r, u, e, hq, hB⟩, hF⟩ := h
  exact ⟨⟨r, (u.1, (X6_snapshot v), (X6_trial v), u.2.2.2, u.2.1, (X6_text v), (X6_survey v), (X6_paths v), (X6_snapshotTaken v), u.2.2.1, (X6_spareR v)), e, hq, hB⟩, hF⟩
def wo_X6_undo (v : V_X6)  (Q : Int32 → V_X6 → Prop) : Prop := wp_X6_undo v  (fun r z_lawn z_savedCount => Q r (z_lawn, (X6_snapshot v), (X6_trial v), (X6_savedR v), (X6_saved v), (X6_text v), (X6_survey v), (X6_paths v), (X6_snapshotTaken v), z_savedCount, (X6_spareR v))) (fun _ => False)
set_option maxRecDepth 100000 in
theorem co_X6_undo (l : Launch) (dC : Nat → ClassId) (dI : Nat → Nat → Nat) (cy : Nat → ClassId) (a : Nat → Nat) (sz : Nat) (v : V_X6)  (Q : Int32 → V_X6 → Prop) (hq : wo_X6_undo v  Q) : Met l yX6_undo wsX6_undo ({ frames := 3, cells := 0, slots := 0, locals := 69 } : Room) (va_Pc [.ref (a 0)] (xPre dC dI cy (wX6 cy a v) sz)) (va_Qi (fun (r : Int32) (u : V_X6) => Q r u) (fun (u : V_X6) t => xAt dC dI cy (va_A (wX6 cy a v) sz) (wX6 cy a u) t) (va_A (wX6 cy a v) sz)) 0 0 (va_A (wX6 cy a v) sz) := by
  refine xPost (c_X6_undo l dC dI cy a sz v  _ (fun _ => False) (fun _ h9 => h9) hq) (fun _ _ _ _ h => ?_)
  obtain ⟨⟨r, u, e, hq, hB⟩, hF⟩ := h
  exact ⟨⟨r, (u.1, (X6_snapshot v), (X6_trial v), (X6_savedR v), (X6_saved v), (X6_text v), (X6_survey v), (X6_paths v), (X6_snapshotTaken v), u.2, (X6_spareR v)), e, hq, hB⟩, hF⟩
def wo_X6_restore (v : V_X6)  (Q : Int32 → V_X6 → Prop) : Prop := wp_X6_restore v  (fun r z_lawn z_saved z_savedCount z_savedR => Q r (z_lawn, (X6_snapshot v), (X6_trial v), z_savedR, z_saved, (X6_text v), (X6_survey v), (X6_paths v), (X6_snapshotTaken v), z_savedCount, (X6_spareR v))) (fun _ => False)
set_option maxRecDepth 100000 in
theorem co_X6_restore (l : Launch) (dC : Nat → ClassId) (dI : Nat → Nat → Nat) (cy : Nat → ClassId) (a : Nat → Nat) (sz : Nat) (v : V_X6)  (Q : Int32 → V_X6 → Prop) (hq : wo_X6_restore v  Q) : Met l yX6_restore wsX6_restore ({ frames := 4, cells := 0, slots := 0, locals := 91 } : Room) (va_Pc [.ref (a 0)] (xPre dC dI cy (wX6 cy a v) sz)) (va_Qi (fun (r : Int32) (u : V_X6) => Q r u) (fun (u : V_X6) t => xAt dC dI cy (va_A (wX6 cy a v) sz) (wX6 cy a u) t) (va_A (wX6 cy a v) sz)) 0 0 (va_A (wX6 cy a v) sz) := by
  refine xPost (c_X6_restore l dC dI cy a sz v  _ (fun _ => False) (fun _ h9 => h9) hq) (fun _ _ _ _ h => ?_)
  obtain ⟨⟨r, u, e, hq, hB⟩, hF⟩ := h
  exact ⟨⟨r, (u.1, (X6_snapshot v), (X6_trial v), u.2.2.2, u.2.1, (X6_text v), (X6_survey v), (X6_paths v), (X6_snapshotTaken v), u.2.2.1, (X6_spareR v)), e, hq, hB⟩, hF⟩
def wo_X6_tuft (v : V_X6) (x1 : Int32) (x2 : Int32) (Q : Int32 → V_X6 → Prop) : Prop := wp_X6_tuft v x1 x2 (fun r z_survey => Q r ((X6_lawn v), (X6_snapshot v), (X6_trial v), (X6_savedR v), (X6_saved v), (X6_text v), z_survey, (X6_paths v), (X6_snapshotTaken v), (X6_savedCount v), (X6_spareR v))) (fun _ => False)
set_option maxRecDepth 100000 in
theorem co_X6_tuft (l : Launch) (dC : Nat → ClassId) (dI : Nat → Nat → Nat) (cy : Nat → ClassId) (a : Nat → Nat) (sz : Nat) (v : V_X6) (x1 : Int32) (x2 : Int32) (Q : Int32 → V_X6 → Prop) (hq : wo_X6_tuft v x1 x2 Q) : Met l yX6_tuft wsX6_tuft ({ frames := 6, cells := 0, slots := 0, locals := 138 } : Room) (va_Pc [.ref (a 0), .int x1, .int x2] (xPreE dC dI cy (wX6 cy a v) sz)) (va_Qi (fun (r : Int32) (u : V_X6) => Q r u) (fun (u : V_X6) t => xAt dC dI cy (va_A (wX6 cy a v) sz) (wX6 cy a u) t) (va_A (wX6 cy a v) sz)) 0 0 (va_A (wX6 cy a v) sz) := by
  refine xPost (c_X6_tuft l dC dI cy a sz v x1 x2 _ (fun _ => False) (fun _ h9 => h9) hq) (fun _ _ _ _ h => ?_)
  obtain ⟨⟨r, u, e, hq, hB⟩, hF⟩ := h
  exact ⟨⟨r, ((X6_lawn v), (X6_snapshot v), (X6_trial v), (X6_savedR v), (X6_saved v), (X6_text v), u, (X6_paths v), (X6_snapshotTaken v), (X6_savedCount v), (X6_spareR v)), e, hq, hB⟩, hF⟩
