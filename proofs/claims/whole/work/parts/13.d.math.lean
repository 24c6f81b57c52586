/-! The reference's way to leave out is the class's. -/
theorem rg_Dt_b {can : Nat → Prop} {S : Nat → Int} {nr m r : Nat} (hr : r < nr) : rg_Dt can S nr m r = rg_b (can r ∧ rg_rn can S nr r < m) := by
  have a := (rg_Dt_rn (can := can) (S := S) (nr := nr) m).1 r hr
  rcases rg_Dt_01 can S nr m r with z | z
  · rw [z]; exact (rg_b_f (fun h => (a.mpr h) z)).symm
  · rw [z]; exact (rg_b_t (a.mp (by rw [z]; decide))).symm
theorem rg_ml_Dt {sl rf fl kd en pt : Nat → Int} {may : Int} {nr b r : Nat} (hr : r < nr) (hm : 0 ≤ may) : rg_ml sl rf fl kd en pt may nr b r = rg_Dt (fun o => rg_mg sl rf fl kd en o b) (fun o => rg_ms2 kd pt o b) nr (Int.toNat may) r := by
  rw [rg_Dt_b hr]
  have e : rg_rn (fun o => rg_mg sl rf fl kd en o b) (fun o => rg_ms2 kd pt o b) nr r = rg_mb sl rf fl kd en pt nr b r := rfl
  rw [e]
  exact congrArg rg_b (propext ⟨fun h => ⟨h.1, by have := h.2; omega⟩, fun h => ⟨h.1, by have := h.2; omega⟩⟩)
theorem rg_ms2_k2 {kd pt : Nat → Int} {o c : Nat} : rg_ms2 kd pt o c = pt (o * 40 + c) * rg_k2 (kd o) := by
  unfold rg_ms2 rg_k2
  by_cases z : kd o = 2
  · rw [if_pos z, if_pos z]; omega
  · rw [if_neg z, if_neg z]; omega
/-- one boat's column: the class's tables against the reference's, where both hold the same of it -/
theorem rg_col_eq {sl rf fl kd en pt ins kd' en' pt' sr sl' sr' sm' : Nat → Int} {nr ns c : Nat}
    (hi : ∀ o, o < nr → (¬ ins (o * 40 + c) = 0 ↔ rg_in sl rf fl o c)) (hk : ∀ o, o < nr → kd' o = kd o) (he : ∀ o, o < nr → rg_in sl rf fl o c → (en' (o * 40 + c) = 5 ↔ en (o * 40 + c) = 5))
    (hp : ∀ o, o < nr → rg_in sl rf fl o c → pt' (o * 40 + c) = pt (o * 40 + c)) (hr : ∀ k, k < ns → sr' k = sr k ∧ sm' k = sl' k) (hs : ∀ k, k < ns → 0 ≤ sl' k ∧ sl' k ≤ 15) :
    rg_Mx ins nr c = rg_mM sl rf fl nr c ∧ rg_Gx ins pt' kd' nr c = rg_mG sl rf fl kd pt nr c ∧ (∀ r, r < nr → rg_Dx ins pt' kd' en' sr' sm' ns nr r c = rg_mD sl rf fl kd en pt sr sl' ns nr r c) := by
  have hal : ∀ m n, n ≤ ns → rg_al sr' sm' m n = rg_al sr sl' m n := by
    intro m n
    induction n with
    | zero => intro _; rfl
    | succ n ih =>
      intro hn
      rw [rg_al, rg_al, (hr n (by omega)).1, (hr n (by omega)).2, ih (by omega)]
  have hM : rg_Mx ins nr c = rg_mM sl rf fl nr c := by
    unfold rg_Mx rg_mM
    rw [rg_cnt_congr (fun o ho => hi o ho)]
  refine ⟨hM, ?_, fun r hr9 => ?_⟩
  · refine rg_sum_congr (fun o ho => ?_)
    by_cases z : rg_in sl rf fl o c
    · rw [rg_ite_t ((hi o ho).mpr z), rg_ite_t z, rg_ms2_k2]
      unfold rg_Sx
      rw [hp o ho z, hk o ho]
    · rw [rg_ite_f (fun q => z ((hi o ho).mp q)), rg_ite_f z]
  · unfold rg_Dx rg_mD
    rw [rg_ml_Dt hr9 (rg_al_bd (n := ns) (fun k hk => hs k hk)).1]
    unfold rg_Ax
    rw [hM, hal _ ns (Nat.le_refl _)]
    have q := (rg_Dt_congr (can := fun o => rg_cn ins kd' en' o c) (can' := fun o => rg_mg sl rf fl kd en o c) (S := fun o => rg_Sx pt' kd' o c) (S' := fun o => rg_ms2 kd pt o c) (nr := nr) (fun o ho => ?_) (fun o ho hc => ?_) 0 (Int.toNat (rg_al sr sl' (rg_mM sl rf fl nr c) ns))).1
    · rw [q]
    · show (¬ ins (o * 40 + c) = 0 ∧ ¬ kd' o = 2 ∧ ¬ en' (o * 40 + c) = 5) ↔ (rg_in sl rf fl o c ∧ ¬ kd o = 2 ∧ ¬ en (o * 40 + c) = 5)
      rw [hi o ho, hk o ho]
      constructor
      · rintro ⟨z1, z2, z3⟩; exact ⟨z1, z2, fun z => z3 ((he o ho z1).mpr z)⟩
      · rintro ⟨z1, z2, z3⟩; exact ⟨z1, z2, fun z => z3 ((he o ho z1).mp z)⟩
    · show pt' (o * 40 + c) * rg_k2 (kd' o) = rg_ms2 kd pt o c
      rw [rg_ms2_k2, hp o ho ((hi o ho).mp hc.1), hk o ho]
