/-! Nets are not below 0. -/
theorem rg_sum_le {f g : Nat → Int} {n : Nat} (h : ∀ i, i < n → f i ≤ g i) : rg_sum f n ≤ rg_sum g n := by
  induction n with
  | zero => exact Int.le_refl _
  | succ n ih =>
    have q1 := ih (fun i hi => h i (by omega))
    have q2 := h n (by omega)
    show rg_sum f n + f n ≤ rg_sum g n + g n
    omega
theorem rg_ite_le {p q : Prop} {x : Int} (h : p → q) (hx : 0 ≤ x) : rg_ite p x 0 ≤ rg_ite q x 0 := by
  by_cases z : p
  · rw [rg_ite_t z, rg_ite_t (h z)]; exact Int.le_refl _
  · rw [rg_ite_f z]
    by_cases y : q
    · rw [rg_ite_t y]; exact hx
    · rw [rg_ite_f y]; exact Int.le_refl _
theorem rg_kN_0 {σ : rg_S} {nb nr nd ns : Nat} {tr : Int} (h : rg_IM σ nb nr nd ns tr) {b : Nat} (hb : b < nb) : 0 ≤ rg_kN σ tr nd nb nr ns b := by
  have q := rg_sum_le (n := nr) (f := fun o => rg_ite (¬ rg_mD (rg_kS σ tr nd nb nr) (σ 4) (σ 2) (σ 3) (rg_kE σ tr nd nb nr) (rg_kT σ tr nd nb nr) (σ 13) (σ 14) ns nr o b = 0) (rg_ms2 (σ 3) (rg_kT σ tr nd nb nr) o b) 0) (g := fun o => rg_ite (rg_in (rg_kS σ tr nd nb nr) (σ 4) (σ 2) o b) (rg_ms2 (σ 3) (rg_kT σ tr nd nb nr) o b) 0) (fun o ho => rg_ite_le (fun z => ((rg_b_ne0 _).mp z).1.1) (rg_ms2_bd h ho hb).1)
  unfold rg_kN rg_mN rg_mG
  omega
