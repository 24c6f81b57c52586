/-! The sheet as a whole: its lines one behind the other. -/
def rg_sh (ln : Nat → Nat → List Int) (bt : Nat → Nat) : Nat → List Int
  | 0 => []
  | k + 1 => rg_sh ln bt k ++ ln (k + 1) (bt k)
theorem rg_sh_s (ln : Nat → Nat → List Int) (bt : Nat → Nat) (k : Nat) : rg_sh ln bt (k + 1) = rg_sh ln bt k ++ ln (k + 1) (bt k) := rfl
theorem rg_sh_mono (ln : Nat → Nat → List Int) (bt : Nat → Nat) {r s : Nat} (h : r ≤ s) : (rg_sh ln bt r).length ≤ (rg_sh ln bt s).length := by
  induction s with
  | zero => rw [show r = 0 by omega]; exact Nat.le_refl _
  | succ s ih =>
    by_cases z : r = s + 1
    · rw [z]; exact Nat.le_refl _
    · refine Nat.le_trans (ih (by omega)) ?_
      rw [rg_sh_s, List.length_append]; omega
theorem rg_sh_len {ln : Nat → Nat → List Int} {bt : Nat → Nat} {n m : Nat} (h : ∀ k, k < n → (ln (k + 1) (bt k)).length ≤ m) : (rg_sh ln bt n).length ≤ m * n := by
  induction n with
  | zero => exact Nat.le_refl _
  | succ n ih =>
    have i := ih (fun k hk => h k (by omega))
    have j := h n (by omega)
    rw [rg_sh_s, List.length_append, Nat.mul_succ]; omega
theorem rg_sh_congr {ln ln' : Nat → Nat → List Int} {bt bt' : Nat → Nat} {n : Nat} (h : ∀ k, k < n → bt k = bt' k ∧ ln (k + 1) (bt k) = ln' (k + 1) (bt k)) : rg_sh ln bt n = rg_sh ln' bt' n := by
  induction n with
  | zero => rfl
  | succ n ih =>
    have i := ih (fun k hk => h k (by omega))
    obtain ⟨j1, j2⟩ := h n (by omega)
    rw [rg_sh_s, rg_sh_s, i, j2, j1]
