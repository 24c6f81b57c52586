/-! What is left of the sum, and how many are left out. -/
theorem rg_sum_add {f g : Nat → Int} {n w : Nat} {x : Int} (h : ∀ i, i < n → ¬ i = w → f i = g i) (hw : w < n) (h2 : g w = f w + x) : rg_sum g n = rg_sum f n + x := by
  induction n with
  | zero => omega
  | succ n ih =>
    show rg_sum g n + g n = rg_sum f n + f n + x
    by_cases e : w = n
    · subst e
      rw [rg_sum_congr (f := g) (g := f) (n := w) (fun i hi => (h i (by omega) (by omega)).symm), h2]; omega
    · rw [ih (fun i hi => h i (by omega)) (by omega), h n (by omega) (fun z => e z.symm)]; omega
theorem rg_sum_0s {f : Nat → Int} {n : Nat} (h : ∀ i, i < n → f i = 0) : rg_sum f n = 0 := by
  induction n with
  | zero => rfl
  | succ n ih =>
    show rg_sum f n + f n = 0
    rw [ih (fun i hi => h i (by omega)), h n (by omega)]; rfl
theorem rg_Nt_sum {can : Nat → Prop} {S : Nat → Int} {nr : Nat} {g : Int} (m : Nat) : rg_Nt can S nr g m = g - rg_sum (fun o => rg_ite (¬ rg_Dt can S nr m o = 0) (S o) 0) nr ∧ rg_Ct can S nr m = ((rg_cnt (fun o => ¬ rg_Dt can S nr m o = 0) nr : Nat) : Int) := by
  induction m with
  | zero =>
    refine ⟨?_, ?_⟩
    · rw [rg_sum_0s (fun i _ => rg_ite_f (fun h => h rfl) _ _)]
      show g = g - 0
      omega
    · rw [rg_cnt_zero (fun i _ h => h rfl)]; rfl
  | succ m ih =>
    rcases rg_wst_sp (can := can) (S := S) (d := rg_Dt can S nr m) nr with ⟨w1, -⟩ | ⟨w, w1, w2, w3, -⟩
    · have e1 : rg_Dt can S nr (m + 1) = rg_Dt can S nr m := rg_Dt_stop w1 1
      have e2 : rg_Nt can S nr g (m + 1) = rg_Nt can S nr g m := rg_Nt_stop w1 1
      have e3 : rg_Ct can S nr (m + 1) = rg_Ct can S nr m := rg_Ct_stop w1 1
      rw [e1, e2, e3]; exact ih
    · have hn : ¬ rg_wst can S (rg_Dt can S nr m) nr = -1 := by rw [w2]; omega
      have e1 : rg_Dt can S nr (m + 1) = rg_up (rg_Dt can S nr m) w 1 := by rw [← rg_Dt_w hn, w2, Int.toNat_natCast]
      have e2 : rg_Nt can S nr g (m + 1) = rg_Nt can S nr g m - S w := by rw [← rg_Nt_w hn, w2, Int.toNat_natCast]
      have e3 : rg_Ct can S nr (m + 1) = rg_Ct can S nr m + 1 := (rg_Ct_w hn).symm
      have u : ∀ i, ¬ i = w → rg_up (rg_Dt can S nr m) w 1 i = rg_Dt can S nr m i := fun i hi => if_neg hi
      have v : rg_up (rg_Dt can S nr m) w 1 w = 1 := if_pos rfl
      rw [e1, e2, e3, ih.1, ih.2]
      refine ⟨?_, ?_⟩
      · rw [rg_sum_add (f := fun o => rg_ite (¬ rg_Dt can S nr m o = 0) (S o) 0) (g := fun o => rg_ite (¬ rg_up (rg_Dt can S nr m) w 1 o = 0) (S o) 0) (w := w) (x := S w) (fun i _ hi => by rw [u i hi]) w1 (by
          show rg_ite (¬ rg_up (rg_Dt can S nr m) w 1 w = 0) (S w) 0 = rg_ite (¬ rg_Dt can S nr m w = 0) (S w) 0 + S w
          rw [rg_ite_t (by rw [v]; decide), rg_ite_f (fun z => z w3.2)]; omega)]
        omega
      · rw [rg_cnt_add (p := fun o => ¬ rg_Dt can S nr m o = 0) (q := fun o => ¬ rg_up (rg_Dt can S nr m) w 1 o = 0) (w := w) (fun i _ hi => by rw [u i hi]) w1 (by show ¬ rg_up (rg_Dt can S nr m) w 1 w = 0; rw [v]; decide) (fun z => z w3.2)]
        omega
/-- the class's net is not below 0 -/
theorem rg_Nx_0 {σ : rg_S} {nb nr nd ns : Nat} (h : rg_IC σ nb nr nd ns) {c : Nat} (hc : c < nb) : 0 ≤ rg_Nx (rg_zI σ nd nb nr) (rg_zT σ nd nb nr) (σ 13) (rg_zE σ nd) (σ 23) (σ 24) ns nr c := by
  unfold rg_Nx
  rw [(rg_Nt_sum _).1]
  have key : rg_sum (fun o => rg_ite (¬ rg_Dt (fun o => rg_cn (rg_zI σ nd nb nr) (σ 13) (rg_zE σ nd) o c) (fun o => rg_Sx (rg_zT σ nd nb nr) (σ 13) o c) nr (rg_Ax (rg_zI σ nd nb nr) (σ 23) (σ 24) ns nr c) o = 0) (rg_Sx (rg_zT σ nd nb nr) (σ 13) o c) 0) nr ≤ rg_Gx (rg_zI σ nd nb nr) (rg_zT σ nd nb nr) (σ 13) nr c := by
    refine rg_sum_le (fun o ho => ?_)
    by_cases z : ¬ rg_Dt (fun o => rg_cn (rg_zI σ nd nb nr) (σ 13) (rg_zE σ nd) o c) (fun o => rg_Sx (rg_zT σ nd nb nr) (σ 13) o c) nr (rg_Ax (rg_zI σ nd nb nr) (σ 23) (σ 24) ns nr c) o = 0
    · have hp := (((rg_Dt_rn _).1 o ho).mp z).1.1
      rw [rg_ite_t z, rg_ite_t hp]; exact Int.le_refl _
    · rw [rg_ite_f z]
      by_cases y : rg_px (rg_zI σ nd nb nr) o c
      · rw [rg_ite_t y]; exact (rg_Sx_bd (rg_zT_bd h ho hc y)).1
      · rw [rg_ite_f y]; exact Int.le_refl _
  omega
