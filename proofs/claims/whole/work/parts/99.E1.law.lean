/-! The law's cases out of the abstract state. -/
def Inv (k : Nat) (v : V_X6) (u : V_X7) (_ : Nat → Int64) : Prop := ∃ w, CW v w ∧ MW u w ∧ Bud k w ∧ RBW k w
theorem buf200 {v : V_X6} {w : Wd} (h : CW v w) : ∀ c ∈ wBuf w, c < 200 := fun c hc => by
  have := h.2.2.2.2.2.2.2.2.2 c hc
  omega

theorem bad_mole {w : Wd} {x1 : Int32} (h : (o_mole w x1).1 ≠ 0) : (o_mole w x1).2.2 = w := by
  revert h
  unfold o_mole
  (repeat' split) <;> intro h <;> first | rfl | exact absurd rfl h
theorem m_mole {k : Nat} {v : V_X6} {u : V_X7} {f : Nat → Int64} (hI : Inv k v u f) (hk : k < 512) (x1 x2 : Int32) : wk_mole v u f x1 x2 (Inv (k + 1)) := by
  obtain ⟨w, hc, hm, ⟨n, g, hn⟩, hr⟩ := hI
  have K : ∀ (j : Int32) (v' : V_X6) (f' : Nat → Int64), nI (o_mole w x1).1 = j → CW v' (o_mole w x1).2.2 → (j = 0 → (o_mole w x1).1 = 0 ∧ f' (0 : Int32).toNatClampNeg = (o_mole w x1).2.1.toInt64) → wK_mole u x1 x2 (Inv (k + 1)) j v' f' := by
    intro j v' f' ej hc' ho
    unfold wK_mole
    refine M_mole hm g (fun b z0 z1 z2 hb' hm' => ?_)
    unfold wp_X7_thrown
    exact ⟨ej, fun z => by rw [(ho z).2, hb' (ho z).1], _, hc', hm', bud_mole ⟨n, g, hn⟩ hk, rbw_mole hr⟩
  unfold wk_mole
  exact C_mole hc g (fun z0 z1 z2 z3 z4 e0 hc' => K 0 _ _ (by rw [e0]; rfl) hc' (fun _ => ⟨e0, updL_at⟩)) (fun e => Or.inl ⟨rfl, K 1 v f (by rw [e]; rfl) (by rw [bad_mole (by rw [e]; decide)]; exact hc) (fun z => absurd z (by decide))⟩) (fun e => Or.inr (⟨rfl, K 2 v f (by rw [e]; rfl) (by rw [bad_mole (by rw [e]; decide)]; exact hc) (fun z => absurd z (by decide))⟩))
theorem bad_plan {w : Wd} {x1 x2 : Int32} (h : (o_plan w x1 x2).1 ≠ 0) : (o_plan w x1 x2).2.2 = w := by
  revert h
  unfold o_plan
  (repeat' split) <;> intro h <;> first | rfl | exact absurd rfl h
theorem m_plan {k : Nat} {v : V_X6} {u : V_X7} {f : Nat → Int64} (hI : Inv k v u f) (hk : k < 512) (x1 x2 : Int32) : wk_plan v u f x1 x2 (Inv (k + 1)) := by
  obtain ⟨w, hc, hm, ⟨n, g, hn⟩, hr⟩ := hI
  have K : ∀ (j : Int32) (v' : V_X6) (f' : Nat → Int64), nI (o_plan w x1 x2).1 = j → CW v' (o_plan w x1 x2).2.2 → (j = 0 → (o_plan w x1 x2).1 = 0 ∧ f' (0 : Int32).toNatClampNeg = (o_plan w x1 x2).2.1.toInt64) → wK_plan u x1 x2 (Inv (k + 1)) j v' f' := by
    intro j v' f' ej hc' ho
    unfold wK_plan
    refine M_plan hm g (fun b z0 z1 z2 hb' hm' => ?_)
    unfold wp_X7_thrown
    exact ⟨ej, fun z => by rw [(ho z).2, hb' (ho z).1], _, hc', hm', bud_plan ⟨n, g, hn⟩ hk, rbw_plan hr⟩
  unfold wk_plan
  exact C_plan hc g (fun z0 z1 z2 z3 e0 hc' => K 0 _ _ (by rw [e0]; rfl) hc' (fun _ => ⟨e0, updL_at⟩)) (fun e => Or.inl ⟨rfl, K 1 v f (by rw [e]; rfl) (by rw [bad_plan (by rw [e]; decide)]; exact hc) (fun z => absurd z (by decide))⟩) (fun e => Or.inr (Or.inl ⟨rfl, K 2 v f (by rw [e]; rfl) (by rw [bad_plan (by rw [e]; decide)]; exact hc) (fun z => absurd z (by decide))⟩)) (fun e => Or.inr (Or.inr (⟨rfl, K 3 v f (by rw [e]; rfl) (by rw [bad_plan (by rw [e]; decide)]; exact hc) (fun z => absurd z (by decide))⟩)))
theorem bad_rest {w : Wd} {x1 : Int32} (h : (o_rest w x1).1 ≠ 0) : (o_rest w x1).2.2 = w := by
  revert h
  unfold o_rest
  (repeat' split) <;> intro h <;> first | rfl | exact absurd rfl h
theorem m_rest {k : Nat} {v : V_X6} {u : V_X7} {f : Nat → Int64} (hI : Inv k v u f) (hk : k < 512) (x1 x2 : Int32) : wk_rest v u f x1 x2 (Inv (k + 1)) := by
  obtain ⟨w, hc, hm, ⟨n, g, hn⟩, hr⟩ := hI
  have K : ∀ (j : Int32) (v' : V_X6) (f' : Nat → Int64), nI (o_rest w x1).1 = j → CW v' (o_rest w x1).2.2 → (j = 0 → (o_rest w x1).1 = 0 ∧ f' (0 : Int32).toNatClampNeg = (o_rest w x1).2.1.toInt64) → wK_rest u x1 x2 (Inv (k + 1)) j v' f' := by
    intro j v' f' ej hc' ho
    unfold wK_rest
    refine M_rest hm g (fun b z0 z1 z2 hb' hm' => ?_)
    unfold wp_X7_thrown
    exact ⟨ej, fun z => by rw [(ho z).2, hb' (ho z).1], _, hc', hm', bud_rest ⟨n, g, hn⟩ hk, rbw_rest hr⟩
  unfold wk_rest
  exact C_rest hc g (fun z0 z1 z2 z3 e0 hc' => K 0 _ _ (by rw [e0]; rfl) hc' (fun _ => ⟨e0, updL_at⟩)) (fun e => ⟨rfl, K 1 v f (by rw [e]; rfl) (by rw [bad_rest (by rw [e]; decide)]; exact hc) (fun z => absurd z (by decide))⟩)
theorem bad_pass {w : Wd} {x1 : Int32} (h : (o_pass w x1).1 ≠ 0) : (o_pass w x1).2.2 = w := by
  revert h
  unfold o_pass
  (repeat' split) <;> intro h <;> first | rfl | exact absurd rfl h
theorem m_pass {k : Nat} {v : V_X6} {u : V_X7} {f : Nat → Int64} (hI : Inv k v u f) (hk : k < 512) (x1 x2 : Int32) : wk_pass v u f x1 x2 (Inv (k + 1)) := by
  obtain ⟨w, hc, hm, ⟨n, g, hn⟩, hr⟩ := hI
  have K : ∀ (j : Int32) (v' : V_X6) (f' : Nat → Int64), nI (o_pass w x1).1 = j → CW v' (o_pass w x1).2.2 → (j = 0 → (o_pass w x1).1 = 0 ∧ f' (0 : Int32).toNatClampNeg = (o_pass w x1).2.1.toInt64) → wK_pass u x1 x2 (Inv (k + 1)) j v' f' := by
    intro j v' f' ej hc' ho
    unfold wK_pass
    refine M_pass hm g (fun b z0 z1 z2 hb' hm' => ?_)
    unfold wp_X7_thrown
    exact ⟨ej, fun z => by rw [(ho z).2, hb' (ho z).1], _, hc', hm', bud_pass ⟨n, g, hn⟩ hk, rbw_pass hr g.1⟩
  unfold wk_pass
  exact C_pass hc g (fun z0 z1 z2 z3 z4 e0 hc' => K 0 _ _ (by rw [e0]; rfl) hc' (fun _ => ⟨e0, updL_at⟩)) (fun e => ⟨rfl, K 1 v f (by rw [e]; rfl) (by rw [bad_pass (by rw [e]; decide)]; exact hc) (fun z => absurd z (by decide))⟩)
theorem bad_root {w : Wd} {x1 x2 : Int32} (h : (o_root w x1 x2).1 ≠ 0) : (o_root w x1 x2).2.2 = w := by
  revert h
  unfold o_root
  (repeat' split) <;> intro h <;> first | rfl | exact absurd rfl h
theorem m_root {k : Nat} {v : V_X6} {u : V_X7} {f : Nat → Int64} (hI : Inv k v u f) (hk : k < 512) (x1 x2 : Int32) : wk_root v u f x1 x2 (Inv (k + 1)) := by
  obtain ⟨w, hc, hm, ⟨n, g, hn⟩, hr⟩ := hI
  have K : ∀ (j : Int32) (v' : V_X6) (f' : Nat → Int64), nI (o_root w x1 x2).1 = j → CW v' (o_root w x1 x2).2.2 → (j = 0 → (o_root w x1 x2).1 = 0 ∧ f' (0 : Int32).toNatClampNeg = (o_root w x1 x2).2.1.toInt64) → wK_root u x1 x2 (Inv (k + 1)) j v' f' := by
    intro j v' f' ej hc' ho
    unfold wK_root
    refine M_root hm g (fun b z0 z1 z2 hb' hm' => ?_)
    unfold wp_X7_thrown
    exact ⟨ej, fun z => by rw [(ho z).2, hb' (ho z).1], _, hc', hm', bud_root ⟨n, g, hn⟩ hk, rbw_root hr⟩
  unfold wk_root
  exact C_root hc g (fun z0 z1 z2 z3 e0 hc' => K 0 _ _ (by rw [e0]; rfl) hc' (fun _ => ⟨e0, updL_at⟩)) (fun e => Or.inl ⟨rfl, K 1 v f (by rw [e]; rfl) (by rw [bad_root (by rw [e]; decide)]; exact hc) (fun z => absurd z (by decide))⟩) (fun e => Or.inr (⟨rfl, K 2 v f (by rw [e]; rfl) (by rw [bad_root (by rw [e]; decide)]; exact hc) (fun z => absurd z (by decide))⟩))
theorem bad_trap {w : Wd} {x1 x2 : Int32} (h : (o_trap w x1 x2).1 ≠ 0) : (o_trap w x1 x2).2.2 = w := by
  revert h
  unfold o_trap
  (repeat' split) <;> intro h <;> first | rfl | exact absurd rfl h
theorem m_trap {k : Nat} {v : V_X6} {u : V_X7} {f : Nat → Int64} (hI : Inv k v u f) (hk : k < 512) (x1 x2 : Int32) : wk_trap v u f x1 x2 (Inv (k + 1)) := by
  obtain ⟨w, hc, hm, ⟨n, g, hn⟩, hr⟩ := hI
  have K : ∀ (j : Int32) (v' : V_X6) (f' : Nat → Int64), nI (o_trap w x1 x2).1 = j → CW v' (o_trap w x1 x2).2.2 → (j = 0 → (o_trap w x1 x2).1 = 0 ∧ f' (0 : Int32).toNatClampNeg = (o_trap w x1 x2).2.1.toInt64) → wK_trap u x1 x2 (Inv (k + 1)) j v' f' := by
    intro j v' f' ej hc' ho
    unfold wK_trap
    refine M_trap hm g (fun b z0 z1 z2 hb' hm' => ?_)
    unfold wp_X7_thrown
    exact ⟨ej, fun z => by rw [(ho z).2, hb' (ho z).1], _, hc', hm', bud_trap ⟨n, g, hn⟩ hk, rbw_trap hr⟩
  unfold wk_trap
  exact C_trap hc g (fun z0 z1 z2 z3 e0 hc' => K 0 _ _ (by rw [e0]; rfl) hc' (fun _ => ⟨e0, updL_at⟩)) (fun e => Or.inl ⟨rfl, K 1 v f (by rw [e]; rfl) (by rw [bad_trap (by rw [e]; decide)]; exact hc) (fun z => absurd z (by decide))⟩) (fun e => Or.inr (Or.inl ⟨rfl, K 2 v f (by rw [e]; rfl) (by rw [bad_trap (by rw [e]; decide)]; exact hc) (fun z => absurd z (by decide))⟩)) (fun e => Or.inr (Or.inr (⟨rfl, K 3 v f (by rw [e]; rfl) (by rw [bad_trap (by rw [e]; decide)]; exact hc) (fun z => absurd z (by decide))⟩)))
theorem bad_dig {w : Wd} {x1 : Int32} (h : (o_dig w x1).1 ≠ 0) : (o_dig w x1).2.2 = w := by
  revert h
  unfold o_dig
  (repeat' split) <;> intro h <;> first | rfl | exact absurd rfl h
theorem m_dig {k : Nat} {v : V_X6} {u : V_X7} {f : Nat → Int64} (hI : Inv k v u f) (hk : k < 512) (x1 x2 : Int32) : wk_dig v u f x1 x2 (Inv (k + 1)) := by
  obtain ⟨w, hc, hm, ⟨n, g, hn⟩, hr⟩ := hI
  have K : ∀ (j : Int32) (v' : V_X6) (f' : Nat → Int64), nI (o_dig w x1).1 = j → CW v' (o_dig w x1).2.2 → (j = 0 → (o_dig w x1).1 = 0 ∧ f' (0 : Int32).toNatClampNeg = (o_dig w x1).2.1.toInt64) → wK_dig u x1 x2 (Inv (k + 1)) j v' f' := by
    intro j v' f' ej hc' ho
    unfold wK_dig
    refine M_dig hm g (fun b z0 z1 z2 hb' hm' => ?_)
    unfold wp_X7_thrown
    exact ⟨ej, fun z => by rw [(ho z).2, hb' (ho z).1], _, hc', hm', bud_dig ⟨n, g, hn⟩ hk, rbw_dig hr g.1⟩
  unfold wk_dig
  exact C_dig hc g (fun z0 z1 z2 z3 z4 e0 hc' => K 0 _ _ (by rw [e0]; rfl) hc' (fun _ => ⟨e0, updL_at⟩)) (fun e => ⟨rfl, K 1 v f (by rw [e]; rfl) (by rw [bad_dig (by rw [e]; decide)]; exact hc) (fun z => absurd z (by decide))⟩)
theorem bad_rake {w : Wd} {x1 : Int32} (h : (o_rake w x1).1 ≠ 0) : (o_rake w x1).2.2 = w := by
  revert h
  unfold o_rake
  (repeat' split) <;> intro h <;> first | rfl | exact absurd rfl h
theorem m_rake {k : Nat} {v : V_X6} {u : V_X7} {f : Nat → Int64} (hI : Inv k v u f) (hk : k < 512) (x1 x2 : Int32) : wk_rake v u f x1 x2 (Inv (k + 1)) := by
  obtain ⟨w, hc, hm, ⟨n, g, hn⟩, hr⟩ := hI
  have K : ∀ (j : Int32) (v' : V_X6) (f' : Nat → Int64), nI (o_rake w x1).1 = j → CW v' (o_rake w x1).2.2 → (j = 0 → (o_rake w x1).1 = 0 ∧ f' (0 : Int32).toNatClampNeg = (o_rake w x1).2.1.toInt64) → wK_rake u x1 x2 (Inv (k + 1)) j v' f' := by
    intro j v' f' ej hc' ho
    unfold wK_rake
    refine M_rake hm g (fun b z0 z1 z2 z3 hb' hm' => ?_)
    unfold wp_X7_thrown
    exact ⟨ej, fun z => by rw [(ho z).2, hb' (ho z).1], _, hc', hm', bud_rake ⟨n, g, hn⟩ hk, rbw_rake hr⟩
  unfold wk_rake
  exact C_rake hc g (fun z0 z1 z2 z3 z4 e0 hc' => K 0 _ _ (by rw [e0]; rfl) hc' (fun _ => ⟨e0, updL_at⟩)) (fun e => Or.inl ⟨rfl, K 1 v f (by rw [e]; rfl) (by rw [bad_rake (by rw [e]; decide)]; exact hc) (fun z => absurd z (by decide))⟩) (fun e => Or.inr (⟨rfl, K 2 v f (by rw [e]; rfl) (by rw [bad_rake (by rw [e]; decide)]; exact hc) (fun z => absurd z (by decide))⟩))
theorem bad_set {w : Wd} {x1 : Int32} (h : (o_set w x1).1 ≠ 0) : (o_set w x1).2.2 = w := by
  revert h
  unfold o_set
  (repeat' split) <;> intro h <;> first | rfl | exact absurd rfl h
theorem m_set {k : Nat} {v : V_X6} {u : V_X7} {f : Nat → Int64} (hI : Inv k v u f) (hk : k < 512) (x1 x2 : Int32) : wk_set v u f x1 x2 (Inv (k + 1)) := by
  obtain ⟨w, hc, hm, ⟨n, g, hn⟩, hr⟩ := hI
  have K : ∀ (j : Int32) (v' : V_X6) (f' : Nat → Int64), nI (o_set w x1).1 = j → CW v' (o_set w x1).2.2 → (j = 0 → (o_set w x1).1 = 0 ∧ f' (0 : Int32).toNatClampNeg = (o_set w x1).2.1.toInt64) → wK_set u x1 x2 (Inv (k + 1)) j v' f' := by
    intro j v' f' ej hc' ho
    unfold wK_set
    refine M_set hm g (fun b z0 z1 z2 hb' hm' => ?_)
    unfold wp_X7_thrown
    exact ⟨ej, fun z => by rw [(ho z).2, hb' (ho z).1], _, hc', hm', bud_set ⟨n, g, hn⟩ hk, rbw_set hr⟩
  unfold wk_set
  exact C_set hc g (fun z0 z1 z2 z3 e0 hc' => K 0 _ _ (by rw [e0]; rfl) hc' (fun _ => ⟨e0, updL_at⟩)) (fun e => ⟨rfl, K 1 v f (by rw [e]; rfl) (by rw [bad_set (by rw [e]; decide)]; exact hc) (fun z => absurd z (by decide))⟩)
theorem bad_append {w : Wd} {x1 : Int32} (h : (o_append w x1).1 ≠ 0) : (o_append w x1).2.2 = w := by
  revert h
  unfold o_append
  (repeat' split) <;> intro h <;> first | rfl | exact absurd rfl h
theorem m_append {k : Nat} {v : V_X6} {u : V_X7} {f : Nat → Int64} (hI : Inv k v u f) (hk : k < 512) (x1 x2 : Int32) : wk_append v u f x1 x2 (Inv (k + 1)) := by
  obtain ⟨w, hc, hm, ⟨n, g, hn⟩, hr⟩ := hI
  have K : ∀ (j : Int32) (v' : V_X6) (f' : Nat → Int64), nI (o_append w x1).1 = j → CW v' (o_append w x1).2.2 → (j = 0 → (o_append w x1).1 = 0 ∧ f' (0 : Int32).toNatClampNeg = (o_append w x1).2.1.toInt64) → wK_append u x1 x2 (Inv (k + 1)) j v' f' := by
    intro j v' f' ej hc' ho
    unfold wK_append
    refine M_append hm g (fun b z0 z1 hb' hm' => ?_)
    unfold wp_X7_thrown
    exact ⟨ej, fun z => by rw [(ho z).2, hb' (ho z).1], _, hc', hm', bud_append ⟨n, g, hn⟩ hk, rbw_append hr⟩
  unfold wk_append
  exact C_append hc (fun z0 e0 hc' => K 0 _ _ (by rw [e0]; rfl) hc' (fun _ => ⟨e0, updL_at⟩)) (fun e => Or.inl ⟨rfl, K 1 v f (by rw [e]; rfl) (by rw [bad_append (by rw [e]; decide)]; exact hc) (fun z => absurd z (by decide))⟩) (fun e => Or.inr (⟨rfl, K 2 v f (by rw [e]; rfl) (by rw [bad_append (by rw [e]; decide)]; exact hc) (fun z => absurd z (by decide))⟩))
theorem m_clearBuffer {k : Nat} {v : V_X6} {u : V_X7} {f : Nat → Int64} (hI : Inv k v u f) (hk : k < 512) (x1 x2 : Int32) : wk_clearBuffer v u f x1 x2 (Inv (k + 1)) := by
  obtain ⟨w, hc, hm, ⟨n, g, hn⟩, hr⟩ := hI
  unfold wk_clearBuffer
  exact C_clear hc (fun z0 hc' => M_clear hm (fun hm' => ⟨rfl, _, hc', hm', bud_clear ⟨n, g, hn⟩, rbw_clear hr⟩))
theorem m_firstError {k : Nat} {v : V_X6} {u : V_X7} {f : Nat → Int64} (hI : Inv k v u f) (hk : k < 512) (x1 x2 : Int32) : wk_firstError v u f x1 x2 (Inv (k + 1)) := by
  obtain ⟨w, hc, hm, ⟨n, g, hn⟩, hr⟩ := hI
  unfold wk_firstError
  exact C_firstError hc (M_firstError hm g (buf200 hc) (fun z0 z1 => ⟨rfl, w, hc, hm, ⟨n, g, by omega⟩, hr.mono (by omega)⟩))
theorem bad_plans {w : Wd} (h : (o_plans w).1 ≠ 0) : (o_plans w).2.2 = w := by
  revert h
  unfold o_plans
  (repeat' split) <;> intro h <;> first | rfl | exact absurd rfl h
theorem m_plans {k : Nat} {v : V_X6} {u : V_X7} {f : Nat → Int64} (hI : Inv k v u f) (hk : k < 512) (x1 x2 : Int32) : wk_plans v u f x1 x2 (Inv (k + 1)) := by
  obtain ⟨w, hc, hm, ⟨n, g, hn⟩, hr⟩ := hI
  have K : ∀ (j : Int32) (v' : V_X6) (f' : Nat → Int64), nI (o_plans w).1 = j → CW v' (o_plans w).2.2 → (j = 0 → (o_plans w).1 = 0 ∧ f' (0 : Int32).toNatClampNeg = (o_plans w).2.1.toInt64) → wK_plans u x1 x2 (Inv (k + 1)) j v' f' := by
    intro j v' f' ej hc' ho
    unfold wK_plans
    refine M_plans hm g (buf200 hc) (fun b z0 z1 z2 z3 z4 z5 hb' hm' => ?_)
    unfold wp_X7_thrown
    exact ⟨ej, fun z => by rw [(ho z).2, hb' (ho z).1], _, hc', hm', bud_plans ⟨n, g, hn⟩, rbw_plans hr⟩
  unfold wk_plans
  exact C_plans hc g (fun z0 z1 z2 z3 z4 e0 hc' => K 0 _ _ (by rw [e0]; rfl) hc' (fun _ => ⟨e0, updL_at⟩)) (fun e => ⟨rfl, K 1 v f (by rw [e]; rfl) (by rw [bad_plans (by rw [e]; decide)]; exact hc) (fun z => absurd z (by decide))⟩)
theorem bad_undo {w : Wd} (h : (o_undo w).1 ≠ 0) : (o_undo w).2.2 = w := by
  revert h
  unfold o_undo
  (repeat' split) <;> intro h <;> first | rfl | exact absurd rfl h
theorem m_undo {k : Nat} {v : V_X6} {u : V_X7} {f : Nat → Int64} (hI : Inv k v u f) (hk : k < 512) (x1 x2 : Int32) : wk_undo v u f x1 x2 (Inv (k + 1)) := by
  obtain ⟨w, hc, hm, ⟨n, g, hn⟩, hr⟩ := hI
  have K : ∀ (j : Int32) (v' : V_X6) (f' : Nat → Int64), nI (o_undo w).1 = j → CW v' (o_undo w).2.2 → (j = 0 → (o_undo w).1 = 0 ∧ f' (0 : Int32).toNatClampNeg = (o_undo w).2.1.toInt64) → wK_undo u x1 x2 (Inv (k + 1)) j v' f' := by
    intro j v' f' ej hc' ho
    unfold wK_undo
    refine M_undo hm g (fun b z0 z1 hb' hm' => ?_)
    unfold wp_X7_thrown
    exact ⟨ej, fun z => by rw [(ho z).2, hb' (ho z).1], _, hc', hm', bud_undo ⟨n, g, hn⟩ hk, rbw_undo hr⟩
  unfold wk_undo
  exact C_undo hc g (fun z0 z1 e0 hc' => K 0 _ _ (by rw [e0]; rfl) hc' (fun _ => ⟨e0, updL_at⟩)) (fun e => ⟨rfl, K 1 v f (by rw [e]; rfl) (by rw [bad_undo (by rw [e]; decide)]; exact hc) (fun z => absurd z (by decide))⟩)
theorem m_keep {k : Nat} {v : V_X6} {u : V_X7} {f : Nat → Int64} (hI : Inv k v u f) (hk : k < 512) (x1 x2 : Int32) : wk_keep v u f x1 x2 (Inv (k + 1)) := by
  obtain ⟨w, hc, hm, ⟨n, g, hn⟩, hr⟩ := hI
  unfold wk_keep
  exact C_keep hc g (fun z0 hc' => M_keep hm g (fun z0 hm' => ⟨rfl, _, hc', hm', bud_keep ⟨n, g, hn⟩, rbw_keep hr⟩))
theorem bad_restore {w : Wd} (h : (o_restore w).1 ≠ 0) : (o_restore w).2.2 = w := by
  revert h
  unfold o_restore
  (repeat' split) <;> intro h <;> first | rfl | exact absurd rfl h
theorem m_restore {k : Nat} {v : V_X6} {u : V_X7} {f : Nat → Int64} (hI : Inv k v u f) (hk : k < 512) (x1 x2 : Int32) : wk_restore v u f x1 x2 (Inv (k + 1)) := by
  obtain ⟨w, hc, hm, ⟨n, g, hn⟩, hr⟩ := hI
  have K : ∀ (j : Int32) (v' : V_X6) (f' : Nat → Int64), nI (o_restore w).1 = j → CW v' (o_restore w).2.2 → (j = 0 → (o_restore w).1 = 0 ∧ f' (0 : Int32).toNatClampNeg = (o_restore w).2.1.toInt64) → wK_restore u x1 x2 (Inv (k + 1)) j v' f' := by
    intro j v' f' ej hc' ho
    unfold wK_restore
    refine M_restore hm g (fun b z0 z1 z2 hb' hm' => ?_)
    unfold wp_X7_thrown
    exact ⟨ej, fun z => by rw [(ho z).2, hb' (ho z).1], _, hc', hm', bud_restore ⟨n, g, hn⟩ hk, rbw_restore hr⟩
  unfold wk_restore
  exact C_restore hc g (fun z0 z1 z2 z3 e0 hc' => K 0 _ _ (by rw [e0]; rfl) hc' (fun _ => ⟨e0, updL_at⟩)) (fun e => ⟨rfl, K 1 v f (by rw [e]; rfl) (by rw [bad_restore (by rw [e]; decide)]; exact hc) (fun z => absurd z (by decide))⟩)
theorem m_tuft {k : Nat} {v : V_X6} {u : V_X7} {f : Nat → Int64} (hI : Inv k v u f) (hk : k < 512) (x1 x2 : Int32) : wk_tuft v u f x1 x2 (Inv (k + 1)) := by
  obtain ⟨w, hc, hm, ⟨n, g, hn⟩, hr⟩ := hI
  have K : ∀ (j : Int32) (v' : V_X6) (f' : Nat → Int64), nI (o_tuft w x1 x2).1 = j → CW v' w → (j = 0 → (o_tuft w x1 x2).1 = 0 ∧ f' (0 : Int32).toNatClampNeg = (o_tuft w x1 x2).2.toInt64) → wK_tuft u x1 x2 (Inv (k + 1)) j v' f' := by
    intro j v' f' ej hc' ho
    unfold wK_tuft
    refine M_tuft hm g (fun b z0 z1 hb' => ?_)
    unfold wp_X7_thrown
    exact ⟨ej, fun z => by rw [(ho z).2, hb' (ho z).1], w, hc', hm, ⟨n, g, by omega⟩, hr.mono (by omega)⟩
  unfold wk_tuft
  exact C_tuft hc g (fun z0 e0 => K 0 _ _ (by rw [e0]; rfl) hc (fun _ => ⟨e0, updL_at⟩)) (fun e => Or.inl ⟨rfl, K 1 v f (by rw [e]; rfl) hc (fun z => absurd z (by decide))⟩) (fun e => Or.inr (⟨rfl, K 2 v f (by rw [e]; rfl) hc (fun z => absurd z (by decide))⟩))
theorem m_moleOf {k : Nat} {v : V_X6} {u : V_X7} {f : Nat → Int64} (hI : Inv k v u f) (hk : k < 512) (x1 x2 : Int32) : wk_moleOf v u f x1 x2 (Inv (k + 1)) := by
  obtain ⟨w, hc, hm, ⟨n, g, hn⟩, hr⟩ := hI
  have K : ∀ (j : Int32) (v' : V_X6) (f' : Nat → Int64), nI (o_moleOf w x1 x2).1 = j → CW v' w → (j = 0 → (o_moleOf w x1 x2).1 = 0 ∧ f' (0 : Int32).toNatClampNeg = (o_moleOf w x1 x2).2.toInt64) → wK_moleOf u x1 x2 (Inv (k + 1)) j v' f' := by
    intro j v' f' ej hc' ho
    unfold wK_moleOf
    refine M_moleOf hm g (fun b hb' => ?_)
    unfold wp_X7_thrown
    exact ⟨ej, fun z => by rw [(ho z).2, hb' (ho z).1], w, hc', hm, ⟨n, g, by omega⟩, hr.mono (by omega)⟩
  unfold wk_moleOf
  exact C_moleOf hc g (fun e0 => K 0 _ _ (by rw [e0]; rfl) hc (fun _ => ⟨e0, updL_at⟩)) (fun e => Or.inl ⟨rfl, K 1 v f (by rw [e]; rfl) hc (fun z => absurd z (by decide))⟩) (fun e => Or.inr (⟨rfl, K 2 v f (by rw [e]; rfl) hc (fun z => absurd z (by decide))⟩))
theorem m_tunnel {k : Nat} {v : V_X6} {u : V_X7} {f : Nat → Int64} (hI : Inv k v u f) (hk : k < 512) (x1 x2 : Int32) : wk_tunnel v u f x1 x2 (Inv (k + 1)) := by
  obtain ⟨w, hc, hm, ⟨n, g, hn⟩, hr⟩ := hI
  have K : ∀ (j : Int32) (v' : V_X6) (f' : Nat → Int64), nI (o_tunnel w x1 x2).1 = j → CW v' w → (j = 0 → (o_tunnel w x1 x2).1 = 0 ∧ f' (0 : Int32).toNatClampNeg = (o_tunnel w x1 x2).2.toInt64) → wK_tunnel u x1 x2 (Inv (k + 1)) j v' f' := by
    intro j v' f' ej hc' ho
    unfold wK_tunnel
    refine M_tunnel hm g (fun b hb' => ?_)
    unfold wp_X7_thrown
    exact ⟨ej, fun z => by rw [(ho z).2, hb' (ho z).1], w, hc', hm, ⟨n, g, by omega⟩, hr.mono (by omega)⟩
  unfold wk_tunnel
  exact C_tunnel hc g (fun e0 => K 0 _ _ (by rw [e0]; rfl) hc (fun _ => ⟨e0, updL_at⟩)) (fun e => Or.inl ⟨rfl, K 1 v f (by rw [e]; rfl) hc (fun z => absurd z (by decide))⟩) (fun e => Or.inr (⟨rfl, K 2 v f (by rw [e]; rfl) hc (fun z => absurd z (by decide))⟩))
theorem m_cell {k : Nat} {v : V_X6} {u : V_X7} {f : Nat → Int64} (hI : Inv k v u f) (hk : k < 512) (x1 x2 : Int32) : wk_cell v u f x1 x2 (Inv (k + 1)) := by
  obtain ⟨w, hc, hm, ⟨n, g, hn⟩, hr⟩ := hI
  have K : ∀ (j : Int32) (v' : V_X6) (f' : Nat → Int64), nI (o_cell w x1 x2).1 = j → CW v' w → (j = 0 → (o_cell w x1 x2).1 = 0 ∧ f' (0 : Int32).toNatClampNeg = (o_cell w x1 x2).2.toInt64) → wK_cell u x1 x2 (Inv (k + 1)) j v' f' := by
    intro j v' f' ej hc' ho
    unfold wK_cell
    refine M_cell hm g (fun b hb' => ?_)
    unfold wp_X7_thrown
    exact ⟨ej, fun z => by rw [(ho z).2, hb' (ho z).1], w, hc', hm, ⟨n, g, by omega⟩, hr.mono (by omega)⟩
  unfold wk_cell
  exact C_cell hc g (fun e0 => K 0 _ _ (by rw [e0]; rfl) hc (fun _ => ⟨e0, updL_at⟩)) (fun e => Or.inl ⟨rfl, K 1 v f (by rw [e]; rfl) hc (fun z => absurd z (by decide))⟩) (fun e => Or.inr (⟨rfl, K 2 v f (by rw [e]; rfl) hc (fun z => absurd z (by decide))⟩))
theorem m_count {k : Nat} {v : V_X6} {u : V_X7} {f : Nat → Int64} (hI : Inv k v u f) (hk : k < 512) (x1 x2 : Int32) : wk_count v u f x1 x2 (Inv (k + 1)) := by
  obtain ⟨w, hc, hm, ⟨n, g, hn⟩, hr⟩ := hI
  have K : ∀ (j : Int32) (v' : V_X6) (f' : Nat → Int64), nI (o_count w x1).1 = j → CW v' w → (j = 0 → (o_count w x1).1 = 0 ∧ f' (0 : Int32).toNatClampNeg = (o_count w x1).2.toInt64) → wK_count u x1 x2 (Inv (k + 1)) j v' f' := by
    intro j v' f' ej hc' ho
    unfold wK_count
    refine M_count hm g (fun b z0 z1 hb' => ?_)
    unfold wp_X7_thrown
    exact ⟨ej, fun z => by rw [(ho z).2, hb' (ho z).1], w, hc', hm, ⟨n, g, by omega⟩, hr.mono (by omega)⟩
  unfold wk_count
  exact C_count hc g (fun z0 z1 e0 => K 0 _ _ (by rw [e0]; rfl) hc (fun _ => ⟨e0, updL_at⟩)) (fun e => ⟨rfl, K 1 v f (by rw [e]; rfl) hc (fun z => absurd z (by decide))⟩)
theorem m_joined {k : Nat} {v : V_X6} {u : V_X7} {f : Nat → Int64} (hI : Inv k v u f) (hk : k < 512) (x1 x2 : Int32) : wk_joined v u f x1 x2 (Inv (k + 1)) := by
  obtain ⟨w, hc, hm, ⟨n, g, hn⟩, hr⟩ := hI
  have K : ∀ (j : Int32) (v' : V_X6) (f' : Nat → Int64), nI (o_joined w x1 x2).1 = j → CW v' w → (j = 0 → (o_joined w x1 x2).1 = 0 ∧ f' (0 : Int32).toNatClampNeg = (o_joined w x1 x2).2.toInt64) → wK_joined u x1 x2 (Inv (k + 1)) j v' f' := by
    intro j v' f' ej hc' ho
    unfold wK_joined
    refine M_joined hm g (fun b z0 hb' => ?_)
    unfold wp_X7_thrown
    exact ⟨ej, fun z => by rw [(ho z).2, hb' (ho z).1], w, hc', hm, ⟨n, g, by omega⟩, hr.mono (by omega)⟩
  unfold wk_joined
  exact C_joined hc g (fun z0 e0 => K 0 _ _ (by rw [e0]; rfl) hc (fun _ => ⟨e0, updL_at⟩)) (fun e => ⟨rfl, K 1 v f (by rw [e]; rfl) hc (fun z => absurd z (by decide))⟩)
theorem m_fewest {k : Nat} {v : V_X6} {u : V_X7} {f : Nat → Int64} (hI : Inv k v u f) (hk : k < 512) (x1 x2 : Int32) : wk_fewest v u f x1 x2 (Inv (k + 1)) := by
  obtain ⟨w, hc, hm, ⟨n, g, hn⟩, hr⟩ := hI
  have K : ∀ (j : Int32) (v' : V_X6) (f' : Nat → Int64), nI (o_fewest w x1 x2).1 = j → CW v' w → (j = 0 → (o_fewest w x1 x2).1 = 0 ∧ f' (0 : Int32).toNatClampNeg = (o_fewest w x1 x2).2.toInt64) → wK_fewest u x1 x2 (Inv (k + 1)) j v' f' := by
    intro j v' f' ej hc' ho
    unfold wK_fewest
    refine M_fewest hm g (fun b z0 hb' => ?_)
    unfold wp_X7_thrown
    exact ⟨ej, fun z => by rw [(ho z).2, hb' (ho z).1], w, hc', hm, ⟨n, g, by omega⟩, hr.mono (by omega)⟩
  unfold wk_fewest
  exact C_fewest hc g (fun z0 e0 => K 0 _ _ (by rw [e0]; rfl) hc (fun _ => ⟨e0, updL_at⟩)) (fun e => ⟨rfl, K 1 v f (by rw [e]; rfl) hc (fun z => absurd z (by decide))⟩)
theorem m_ifDug {k : Nat} {v : V_X6} {u : V_X7} {f : Nat → Int64} (hI : Inv k v u f) (hk : k < 512) (x1 x2 : Int32) : wk_ifDug v u f x1 x2 (Inv (k + 1)) := by
  obtain ⟨w, hc, hm, ⟨n, g, hn⟩, hr⟩ := hI
  have K : ∀ (j : Int32) (v' : V_X6) (f' : Nat → Int64), nI (o_ifDug w x1 x2).1 = j → CW v' w → (j = 0 → (o_ifDug w x1 x2).1 = 0 ∧ f' (0 : Int32).toNatClampNeg = (o_ifDug w x1 x2).2.toInt64) → wK_ifDug u x1 x2 (Inv (k + 1)) j v' f' := by
    intro j v' f' ej hc' ho
    unfold wK_ifDug
    refine M_ifDug hm g (fun b z0 z1 z2 hz hb' => ?_)
    unfold wp_X7_thrown
    exact ⟨ej, fun z => by rw [(ho z).2, hb' (ho z).1], w, hc', ⟨hz, hm.2⟩, ⟨n, g, by omega⟩, hr.mono (by omega)⟩
  unfold wk_ifDug
  exact C_ifDug hc g (fun z0 z1 z2 hp e0 => K 0 _ _ (by rw [e0]; rfl) ⟨hc.1, hc.2.1, hp, hc.2.2.2⟩ (fun _ => ⟨e0, updL_at⟩)) (fun e => Or.inl ⟨rfl, K 1 v f (by rw [e]; rfl) hc (fun z => absurd z (by decide))⟩) (fun e => Or.inr (⟨rfl, K 2 v f (by rw [e]; rfl) hc (fun z => absurd z (by decide))⟩))
theorem m_bestDig {k : Nat} {v : V_X6} {u : V_X7} {f : Nat → Int64} (hI : Inv k v u f) (hk : k < 512) (x1 x2 : Int32) : wk_bestDig v u f x1 x2 (Inv (k + 1)) := by
  obtain ⟨w, hc, hm, ⟨n, g, hn⟩, hr⟩ := hI
  unfold wk_bestDig
  exact C_bestDig hc g (fun z0 => M_bestDig hm g ⟨rfl, w, hc, hm, ⟨n, g, by omega⟩, hr.mono (by omega)⟩)
theorem m_ifPassed {k : Nat} {v : V_X6} {u : V_X7} {f : Nat → Int64} (hI : Inv k v u f) (hk : k < 512) (x1 x2 : Int32) : wk_ifPassed v u f x1 x2 (Inv (k + 1)) := by
  obtain ⟨w, hc, hm, ⟨n, g, hn⟩, hr⟩ := hI
  have K : ∀ (j : Int32) (v' : V_X6) (f' : Nat → Int64), nI (o_ifPassed w x1 x2).1 = j → CW v' w → (j = 0 → (o_ifPassed w x1 x2).1 = 0 ∧ f' (0 : Int32).toNatClampNeg = (o_ifPassed w x1 x2).2.toInt64) → wK_ifPassed u x1 x2 (Inv (k + 1)) j v' f' := by
    intro j v' f' ej hc' ho
    unfold wK_ifPassed
    refine M_ifPassed hm g (fun b z0 z1 hz hb' => ?_)
    unfold wp_X7_thrown
    exact ⟨ej, fun z => by rw [(ho z).2, hb' (ho z).1], w, hc', ⟨hz, hm.2⟩, ⟨n, g, by omega⟩, hr.mono (by omega)⟩
  unfold wk_ifPassed
  exact C_ifPassed hc g (fun z0 z1 hp e0 => K 0 _ _ (by rw [e0]; rfl) ⟨hc.1, hc.2.1, hp, hc.2.2.2⟩ (fun _ => ⟨e0, updL_at⟩)) (fun e => ⟨rfl, K 1 v f (by rw [e]; rfl) hc (fun z => absurd z (by decide))⟩)
theorem m_nextMound {k : Nat} {v : V_X6} {u : V_X7} {f : Nat → Int64} (hI : Inv k v u f) (hk : k < 512) (x1 x2 : Int32) : wk_nextMound v u f x1 x2 (Inv (k + 1)) := by
  obtain ⟨w, hc, hm, ⟨n, g, hn⟩, hr⟩ := hI
  unfold wk_nextMound
  exact C_nextMound hc g (hr.small (by omega)) (fun z0 z1 hp => M_nextMound hm g (fun z2 z3 hz => ⟨rfl, w, ⟨hc.1, hc.2.1, hp, hc.2.2.2⟩, ⟨hz, hm.2⟩, ⟨n, g, by omega⟩, hr.mono (by omega)⟩))
theorem m_hollowShare {k : Nat} {v : V_X6} {u : V_X7} {f : Nat → Int64} (hI : Inv k v u f) (hk : k < 512) (x1 x2 : Int32) : wk_hollowShare v u f x1 x2 (Inv (k + 1)) := by
  obtain ⟨w, hc, hm, ⟨n, g, hn⟩, hr⟩ := hI
  unfold wk_hollowShare
  exact C_hollowShare hc g (fun z0 => M_hollowShare hm g (fun z1 => ⟨rfl, w, hc, hm, ⟨n, g, by omega⟩, hr.mono (by omega)⟩))
theorem m_digest {k : Nat} {v : V_X6} {u : V_X7} {f : Nat → Int64} (hI : Inv k v u f) (hk : k < 512) (x1 x2 : Int32) : wk_digest v u f x1 x2 (Inv (k + 1)) := by
  obtain ⟨w, hc, hm, ⟨n, g, hn⟩, hr⟩ := hI
  unfold wk_digest
  exact C_digest hc g (hr.small (by omega)) (fun z0 z1 z2 z3 hp => M_digest hm g (fun z4 z5 z6 z7 z8 hz => ⟨rfl, w, ⟨hc.1, hc.2.1, hp, hc.2.2.2⟩, ⟨hz, hm.2⟩, ⟨n, g, by omega⟩, hr.mono (by omega)⟩))
