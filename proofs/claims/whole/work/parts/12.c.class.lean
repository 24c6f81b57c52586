/-! What a call's code of 0 says. -/
theorem rg_cB_0 {pa nb : Int} (h : rg_cB pa nb = 0) : pa = 0 ∧ ¬ nb = 40 := by
  unfold rg_cB at h
  (repeat' split at h) <;> first | (exact absurd h (by decide)) | omega
theorem rg_cR_0 {pa nr k f : Int} (h : rg_cR pa nr k f = 0) : (((0 ≤ k ∧ k ≤ 2) ∧ 0 ≤ f ∧ f ≤ 3) ∧ ((¬ pa = 0 ∧ ¬ k = 0 ∧ ¬ f = 0) ∨ (pa = 0 ∧ ¬ k = 1 ∧ f = 0))) ∧ ¬ nr = 16 := by
  unfold rg_cR at h
  (repeat' split at h) <;> first | (exact absurd h (by decide)) | omega
theorem rg_cP_0 {pu : Nat → Int} {nb nr r b p : Int} (h : rg_cP pu nb nr r b p = 0) : (rg_th nb nr r b ∧ pu (Int.toNat r * 40 + Int.toNat b) = 9) ∧ 0 ≤ p ∧ p ≤ 100 := by
  unfold rg_cP at h
  (repeat' split at h) <;> first | (exact absurd h (by decide)) | omega
theorem rg_cO_0 {ro : Nat → Int} {nd d : Int} (h : rg_cO ro nd d = 0) : (0 ≤ d ∧ d ≤ nd - 1) ∧ ro (Int.toNat d) = 0 := by
  unfold rg_cO at h
  (repeat' split at h) <;> first | (exact absurd h (by decide)) | omega
theorem rg_cL_0 {nb b x : Int} (h : rg_cL nb b x = 0) : (0 ≤ b ∧ b ≤ nb - 1) ∧ 0 ≤ x ∧ x ≤ 999 := by
  unfold rg_cL at h
  (repeat' split at h) <;> first | (exact absurd h (by decide)) | omega
theorem rg_cD_0 {sr sm : Nat → Int} {ns : Nat} {m n : Int} (h : rg_cD sr sm ns m n = 0) : (((1 ≤ m ∧ m ≤ 16) ∧ 1 ≤ n ∧ n ≤ 15) ∧ ((ns : Int) = 0 ∨ (sr (ns - 1) < m ∧ sm (ns - 1) < n))) ∧ ¬ (ns : Int) = 6 := by
  unfold rg_cD at h
  (repeat' split at h) <;> first | (exact absurd h (by decide)) | omega
theorem rg_zD_01 {σ : rg_S} {nb nr nd ns : Nat} (h : rg_IC σ nb nr nd ns) {r b : Nat} (hr : r < nr) (hb : b < nb) : rg_zD σ nd nb nr ns (r * 40 + b) = 0 ∨ rg_zD σ nd nb nr ns (r * 40 + b) = 1 := by
  have h1 := h.hnb
  unfold rg_zD
  rw [rg_ctb_at _ _ _ hb (by omega) hr trivial]
  exact rg_Dt_01 _ _ _ _ _
