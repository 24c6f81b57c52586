/-! The points with averages, class against reference. -/
theorem rg_P2_mv {sl rf fl ab en en' ar pe pt : Nat → Int} {nb nr r b : Nat} (hr : r < nr) (hin : ∀ o, o < nr → (¬ rg_IN rf fl ab en nb o b = 0 ↔ rg_in sl rf fl o b))
    (he : ∀ o, o < nr → rg_in sl rf fl o b → ((en (o * 40 + b) = 6 ↔ en' (o * 40 + b) = 6) ∧ (en (o * 40 + b) = 7 ↔ en' (o * 40 + b) = 7) ∧ (en (o * 40 + b) = 8 ↔ en' (o * 40 + b) = 8)))
    (hp : ∀ o, o < nr → rg_in sl rf fl o b → rg_P1 rf fl ab en ar pe nb o b = pt (o * 40 + b)) (hi : rg_in sl rf fl r b) :
    rg_P2 rf fl ab en ar pe nb nr r b = rg_mv sl rf fl en' pt nb nr r b := by
  have hI := (hin r hr).mpr hi
  obtain ⟨e6, e7, e8⟩ := he r hr hi
  have ha : ∀ o, o < nr → rg_in sl rf fl o b → ((en (o * 40 + b) = 6 ∨ en (o * 40 + b) = 7 ∨ en (o * 40 + b) = 8) ↔ (en' (o * 40 + b) = 6 ∨ en' (o * 40 + b) = 7 ∨ en' (o * 40 + b) = 8)) := by
    intro o ho h
    obtain ⟨k6, k7, k8⟩ := he o ho h
    rw [k6, k7, k8]
  unfold rg_P2
  by_cases z6 : en (r * 40 + b) = 6
  · rw [rg_ite_t ⟨hI, z6⟩, rg_mv_6 (e6.mp z6)]
    exact rg_avg_eq hin ha (Or.inl (e6.mp z6)) hp
  · rw [rg_ite_f (fun q => z6 q.2)]
    by_cases z7 : en (r * 40 + b) = 7
    · rw [rg_ite_t ⟨hI, z7⟩, rg_mv_7 (e7.mp z7)]
      exact rg_avg_eq (fun o ho => hin o (by omega)) (fun o ho => ha o (by omega)) (Or.inr (Or.inl (e7.mp z7))) (fun o ho => hp o (by omega))
    · rw [rg_ite_f (fun q => z7 q.2), ← rg_mv_x (fun q => z6 (e6.mpr q)) (fun q => z7 (e7.mpr q))]
      exact hp r hr hi
