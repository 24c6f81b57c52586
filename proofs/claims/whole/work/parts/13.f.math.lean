/-! The decisions laid over one another, and the latest that is not reopened. -/
theorem rg_app_la {dc ro wh ro' g f : Nat → Int} {j : Nat} (nd : Nat) (h : ∀ d, d < nd → wh d = dc d ∧ 0 ≤ dc d ∧ (ro' d = 0 ↔ ro d = 0)) : rg_app dc ro g f nd j = if rg_la0 wh ro' (j : Int) nd < 0 then f j else g (Int.toNat (rg_la0 wh ro' (j : Int) nd)) := by
  induction nd with
  | zero => exact (if_pos (show (-1 : Int) < 0 by omega)).symm
  | succ nd ih =>
    have i := ih (fun d hd => h d (by omega))
    obtain ⟨h1, h2, h3⟩ := h nd (by omega)
    by_cases r : ro nd = 0
    · rw [← rg_app_s dc ro g f r]
      by_cases z : wh nd = (j : Int)
      · have e1 : rg_la0 wh ro' (j : Int) (nd + 1) = (nd : Int) := if_pos ⟨z, h3.mpr r⟩
        rw [e1, if_neg (by omega), Int.toNat_natCast]
        exact if_pos (by omega)
      · have e1 : rg_la0 wh ro' (j : Int) (nd + 1) = rg_la0 wh ro' (j : Int) nd := if_neg (fun q => z q.1)
        rw [e1]
        exact (if_neg (by omega)).trans i
    · have e1 : rg_la0 wh ro' (j : Int) (nd + 1) = rg_la0 wh ro' (j : Int) nd := if_neg (fun q => r (h3.mp q.2))
      rw [← rg_app_k dc ro g f r, e1]
      exact i
/-- the same with the trial decision as the class lays it: one more, over all -/
theorem rg_app_tr {dc ro wh ro' g f : Nat → Int} {j nd : Nat} (h : ∀ d, d < nd → wh d = dc d ∧ 0 ≤ dc d ∧ (ro' d = 0 ↔ ro d = 0)) (hn : 0 ≤ dc nd) (h40 : wh 40 = dc nd) (hr : ro nd = 0) : rg_app dc ro g f (nd + 1) j = if wh 40 = (j : Int) then g nd else rg_app dc ro g f nd j := by
  rw [← rg_app_s dc ro g f hr]
  by_cases z : wh 40 = (j : Int)
  · rw [if_pos z]; exact if_pos (by omega)
  · rw [if_neg z]; exact if_neg (by omega)
