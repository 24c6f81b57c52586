/-! Sailed, and in the series, class against reference. -/
theorem rg_SL_ms {rf fl ab ab' en : Nat → Int} {en' : Nat → Nat → Int} {nb r : Nat} (ha : ab r = 0 ↔ ab' r = 0) (h : ∀ b, b < nb → (¬ en (r * 40 + b) = -1 ↔ (rg_isr rf fl r b ∧ ¬ en' r b = 0))) : rg_SL ab en nb r = rg_ms rf fl ab' en' nb r := by
  unfold rg_SL rg_ms
  refine congrArg rg_b (propext ⟨?_, ?_⟩)
  · rintro ⟨h1, b, h2, h3⟩
    exact ⟨⟨b, h2, (h b h2).mp h3⟩, ha.mp h1⟩
  · rintro ⟨⟨b, h2, h3⟩, h1⟩
    exact ⟨ha.mpr h1, b, h2, (h b h2).mpr h3⟩
theorem rg_IN_in {rf fl ab en sl : Nat → Int} {nb r b : Nat} (h : rg_SL ab en nb r = sl r) : ¬ rg_IN rf fl ab en nb r b = 0 ↔ rg_in sl rf fl r b := by
  unfold rg_IN
  refine (rg_b_ne0 _).trans ?_
  show (¬ rg_SL ab en nb r = 0 ∧ _) ↔ (¬ sl r = 0 ∧ _)
  rw [h]
