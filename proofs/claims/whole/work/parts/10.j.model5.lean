/-! The reference's codes. -/
def rg_cB (pa nb : Int) : Int := if ¬ pa = 0 then 1 else if nb = 40 then 2 else 0
def rg_cR (pa nr kind fleet : Int) : Int := if ¬ ((0 ≤ kind ∧ kind ≤ 2) ∧ 0 ≤ fleet ∧ fleet ≤ 3) then 1 else if (¬ pa = 0 ∧ (kind = 0 ∨ fleet = 0)) ∨ (pa = 0 ∧ (kind = 1 ∨ ¬ fleet = 0)) then 2 else if nr = 16 then 3 else 0
def rg_cI (n x : Int) : Int := if 0 ≤ x ∧ x ≤ n - 1 then 0 else 1
abbrev rg_th (nb nr r b : Int) : Prop := (0 ≤ r ∧ r ≤ nr - 1) ∧ 0 ≤ b ∧ b ≤ nb - 1
def rg_cT (nb nr r b : Int) : Int := if rg_th nb nr r b then 0 else 1
abbrev rg_gd (c x : Int) : Prop := (c = 0 ∧ 1 ≤ x ∧ x ≤ 99) ∨ (c = 8 ∧ 0 ≤ x ∧ x ≤ 9999) ∨ ((1 ≤ c ∧ c ≤ 7) ∧ x = 0)
def rg_wg (rf fl : Nat → Int) (nb nr r b c x : Int) : Int := if ¬ rg_th nb nr r b then 1 else if ¬ (rf (Int.toNat r) = 0 ∨ rf (Int.toNat r) = fl (Int.toNat b)) then 2 else if rg_gd c x then 0 else 3
theorem rg_wg_0 {rf fl : Nat → Int} {nb nr r b c x : Int} (h : rg_wg rf fl nb nr r b c x = 0) : (rg_th nb nr r b ∧ (rf (Int.toNat r) = 0 ∨ rf (Int.toNat r) = fl (Int.toNat b))) ∧ rg_gd c x := by
  unfold rg_wg at h
  (repeat' split at h) <;> first | (exact absurd h (by decide)) | skip
  next h1 h2 h3 => exact ⟨⟨Classical.not_not.mp h1, Classical.not_not.mp h2⟩, h3⟩
theorem rg_wg_bd {rf fl : Nat → Int} {nb nr r b c x : Int} : 0 ≤ rg_wg rf fl nb nr r b c x ∧ rg_wg rf fl nb nr r b c x ≤ 3 := by
  unfold rg_wg
  (repeat' split) <;> omega
def rg_cP (pu : Nat → Int) (nb nr r b p : Int) : Int := if ¬ rg_th nb nr r b then 1 else if ¬ pu (Int.toNat r * 40 + Int.toNat b) = 9 then 2 else if 0 ≤ p ∧ p ≤ 100 then 0 else 3
def rg_cQ (w nd : Int) : Int := if w = 0 ∧ nd = 40 then 4 else w
def rg_cO (ro : Nat → Int) (nd d : Int) : Int := if ¬ (0 ≤ d ∧ d ≤ nd - 1) then 1 else if ¬ ro (Int.toNat d) = 0 then 2 else 0
def rg_cD (sr sm : Nat → Int) (ns : Nat) (m n : Int) : Int := if ¬ (((1 ≤ m ∧ m ≤ 16) ∧ 1 ≤ n ∧ n ≤ 15) ∧ ((ns : Int) = 0 ∨ (sr (ns - 1) < m ∧ sm (ns - 1) < n))) then 1 else if (ns : Int) = 6 then 2 else 0
def rg_cL (nb b x : Int) : Int := if ¬ (0 ≤ b ∧ b ≤ nb - 1) then 1 else if 0 ≤ x ∧ x ≤ 999 then 0 else 2
def rg_cC (rf fl : Nat → Int) (nb nr r b c x : Int) : Int := if c = 0 then rg_wg rf fl nb nr r b 99 x else rg_wg rf fl nb nr r b c x
theorem rg_cC_e (rf fl : Nat → Int) (nb nr r b c x : Int) : (c = 0 ∧ rg_cC rf fl nb nr r b c x = rg_wg rf fl nb nr r b 99 x) ∨ (¬ c = 0 ∧ rg_cC rf fl nb nr r b c x = rg_wg rf fl nb nr r b c x) := by
  unfold rg_cC
  by_cases h : c = 0
  · rw [if_pos h]; exact Or.inl ⟨h, rfl⟩
  · rw [if_neg h]; exact Or.inr ⟨h, rfl⟩
theorem rg_wg_99 (rf fl : Nat → Int) (nb nr r b x : Int) : ¬ rg_wg rf fl nb nr r b 99 x = 0 := by
  intro h
  have := (rg_wg_0 h).2
  omega
theorem rg_cC_0 {rf fl : Nat → Int} {nb nr r b c x : Int} (h : rg_cC rf fl nb nr r b c x = 0) : ((rg_th nb nr r b ∧ (rf (Int.toNat r) = 0 ∨ rf (Int.toNat r) = fl (Int.toNat b))) ∧ rg_gd c x) ∧ ¬ c = 0 := by
  have h9 := rg_wg_99 rf fl nb nr r b x
  rcases rg_cC_e rf fl nb nr r b c x with ⟨h1, h2⟩ | ⟨h1, h2⟩
  · exact absurd (h2.symm.trans h) h9
  · exact ⟨rg_wg_0 (h2.symm.trans h), h1⟩
theorem rg_cQ_e (w nd : Int) : ((w = 0 ∧ nd = 40) ∧ rg_cQ w nd = 4) ∨ (¬ (w = 0 ∧ nd = 40) ∧ rg_cQ w nd = w) := by
  unfold rg_cQ
  by_cases h : w = 0 ∧ nd = 40
  · rw [if_pos h]; exact Or.inl ⟨h, rfl⟩
  · rw [if_neg h]; exact Or.inr ⟨h, rfl⟩
theorem rg_cQ_0 {w nd : Int} (h : rg_cQ w nd = 0) : w = 0 ∧ ¬ nd = 40 := by
  have := rg_cQ_e w nd
  omega
