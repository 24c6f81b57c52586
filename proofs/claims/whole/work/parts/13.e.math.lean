/-! Nets and counts, class against reference. -/
theorem rg_col_eq2 {sl rf fl kd en pt ins kd' en' pt' sr sl' sr' sm' : Nat → Int} {nr ns c : Nat}
    (hi : ∀ o, o < nr → (¬ ins (o * 40 + c) = 0 ↔ rg_in sl rf fl o c)) (hk : ∀ o, o < nr → kd' o = kd o) (he : ∀ o, o < nr → rg_in sl rf fl o c → (en' (o * 40 + c) = 5 ↔ en (o * 40 + c) = 5))
    (hp : ∀ o, o < nr → rg_in sl rf fl o c → pt' (o * 40 + c) = pt (o * 40 + c)) (hr : ∀ k, k < ns → sr' k = sr k ∧ sm' k = sl' k) (hs : ∀ k, k < ns → 0 ≤ sl' k ∧ sl' k ≤ 15) :
    rg_Nx ins pt' kd' en' sr' sm' ns nr c = rg_mN sl rf fl kd en pt sr sl' ns nr c ∧ rg_Cx ins pt' kd' en' sr' sm' ns nr c = rg_mC sl rf fl kd en pt sr sl' ns nr c := by
  obtain ⟨-, hG, hD⟩ := rg_col_eq hi hk he hp hr hs
  have hin : ∀ o, o < nr → ¬ rg_mD sl rf fl kd en pt sr sl' ns nr o c = 0 → rg_in sl rf fl o c := fun o _ z => ((rg_b_ne0 _).mp z).1.1
  refine ⟨?_, ?_⟩
  · unfold rg_Nx rg_mN
    rw [(rg_Nt_sum _).1, hG]
    congr 1
    refine rg_sum_congr (fun o ho => ?_)
    have d : rg_Dt (fun o => rg_cn ins kd' en' o c) (fun o => rg_Sx pt' kd' o c) nr (rg_Ax ins sr' sm' ns nr c) o = rg_mD sl rf fl kd en pt sr sl' ns nr o c := hD o ho
    rw [d]
    by_cases z : ¬ rg_mD sl rf fl kd en pt sr sl' ns nr o c = 0
    · rw [rg_ite_t z, rg_ite_t z, rg_ms2_k2]
      unfold rg_Sx
      rw [hp o ho (hin o ho z), hk o ho]
    · rw [rg_ite_f z, rg_ite_f z]
  · unfold rg_Cx rg_mC
    rw [(rg_Nt_sum (g := 0) _).2]
    rw [rg_cnt_congr (fun o ho => by
      show ¬ rg_Dx ins pt' kd' en' sr' sm' ns nr o c = 0 ↔ ¬ rg_mD sl rf fl kd en pt sr sl' ns nr o c = 0
      rw [hD o ho])]
