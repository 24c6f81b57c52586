/-! Words for the class's missing. -/
def rg_dc (y : Int) : Int := if y = -2147483648 then 2147483647 else y - 1
theorem rg_I_dc (y : Int) : rg_I (y - 1) = rg_I (rg_dc y) := by
  unfold rg_dc
  by_cases z : y = -2147483648
  · rw [if_pos z, z]; decide +kernel
  · rw [if_neg z]
theorem rg_dc_Rg {y : Int} (h : rg_Rg y) : rg_Rg (rg_dc y) := by
  unfold rg_dc
  split
  · exact ⟨by omega, by omega⟩
  · exact ⟨by omega, by omega⟩
theorem rg_cnt_mn {p : Nat → Prop} {b n : Nat} (h : b ≤ n) : rg_cnt p b ≤ rg_cnt p n := by
  induction n with
  | zero => rw [show b = 0 by omega]; exact Nat.le_refl _
  | succ n ih =>
    by_cases z : b = n + 1
    · rw [z]; exact Nat.le_refl _
    · have := ih (by omega)
      by_cases q : p n
      · rw [rg_cnt_t q]; omega
      · rw [rg_cnt_f q]; exact this
theorem rg_mF_no {P : Nat → Prop} {k : Int} : ∀ n, (∀ c, c < n → ¬ (P c ∧ ((rg_cnt P c : Nat) : Int) = k)) → rg_mF P k n = -1 := by
  intro n
  induction n with
  | zero => intro _; rfl
  | succ n ih =>
    intro h
    refine (@if_neg _ (Classical.propDecidable _) (fun z => ?_) _ _ _).trans (ih (fun c hc => h c (by omega)))
    have q := rg_cnt_t z.1
    exact h n (by omega) ⟨z.1, by have := z.2; omega⟩
theorem rg_mF_is {P : Nat → Prop} {k : Int} {b : Nat} (h : P b) (hk : ((rg_cnt P b : Nat) : Int) = k) : ∀ n, b < n → (b : Int) = rg_mF P k n := by
  intro n
  induction n with
  | zero => intro z; omega
  | succ n ih =>
    intro hn
    by_cases e : b = n
    · subst e
      have q := rg_cnt_t h
      exact (@if_pos _ (Classical.propDecidable _) ⟨h, by omega⟩ _ _ _).symm
    · refine (ih (by omega)).trans (@if_neg _ (Classical.propDecidable _) (fun z => ?_) _ _ _).symm
      have q := rg_cnt_t z.1
      have q1 := rg_cnt_t h
      have q2 := rg_cnt_mn (p := P) (b := b + 1) (n := n) (by omega)
      have := z.2
      omega
theorem rg_nos {P : Nat → Prop} {k : Int} {b : Nat} (h : ∀ c, c < b → ¬ (P c ∧ ((rg_cnt P c : Nat) : Int) = k)) (h1 : ¬ (P b ∧ ((rg_cnt P b : Nat) : Int) = k)) : ∀ c, c < b + 1 → ¬ (P c ∧ ((rg_cnt P c : Nat) : Int) = k) := by
  intro c hc
  by_cases z : c = b
  · rw [z]; exact h1
  · exact h c (by omega)
