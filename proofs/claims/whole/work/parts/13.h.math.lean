/-! The averages, class against reference. -/
theorem rg_avg_eq {sl rf fl ab en en' ar pe pt : Nat → Int} {sz : Int} {nb r b n : Nat} (hin : ∀ o, o < n → (¬ rg_IN rf fl ab en nb o b = 0 ↔ rg_in sl rf fl o b))
    (he : ∀ o, o < n → rg_in sl rf fl o b → ((en (o * 40 + b) = 6 ∨ en (o * 40 + b) = 7 ∨ en (o * 40 + b) = 8) ↔ (en' (o * 40 + b) = 6 ∨ en' (o * 40 + b) = 7 ∨ en' (o * 40 + b) = 8)))
    (hr : en' (r * 40 + b) = 6 ∨ en' (r * 40 + b) = 7 ∨ en' (r * 40 + b) = 8) (hp : ∀ o, o < n → rg_in sl rf fl o b → rg_P1 rf fl ab en ar pe nb o b = pt (o * 40 + b)) :
    rg_avg sz (rg_nR rf fl ab en nb b) (fun o => rg_P1 rf fl ab en ar pe nb o b) n = rg_avg sz (rg_mn sl rf fl en' r b) (fun o => pt (o * 40 + b)) n := by
  refine rg_avg_congr (fun o ho => ?_) (fun o ho h => hp o ho ((hin o ho).mp h.1))
  constructor
  · rintro ⟨h1, h2⟩
    have h3 := (hin o ho).mp h1
    have h4 : ¬ (en' (o * 40 + b) = 6 ∨ en' (o * 40 + b) = 7 ∨ en' (o * 40 + b) = 8) := fun q => h2 ((he o ho h3).mpr q)
    refine ⟨fun q => ?_, h3, h4⟩
    rw [q] at h4
    exact h4 hr
  · rintro ⟨-, h3, h4⟩
    exact ⟨(hin o ho).mpr h3, fun q => h4 ((he o ho h3).mp q)⟩
