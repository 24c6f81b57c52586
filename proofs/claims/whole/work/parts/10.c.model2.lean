/-! More words for the reference. -/
abbrev rg_pl (rf fl en : Nat → Int) (r i : Nat) : Prop := rg_isr rf fl r i ∧ en (r * 40 + i) = 9
theorem rg_q0_9 {rf fl en ar pe : Nat → Int} {nb r b : Nat} (h : en (r * 40 + b) = 9) : rg_pp (rg_SZ rf fl nb r) ((rg_cnt (fun i => rg_pl rf fl en r i ∧ ar (r * 40 + i) = ar (r * 40 + b)) nb : Nat) : Int) ((rg_cnt (fun i => rg_pl rf fl en r i ∧ ar (r * 40 + i) < ar (r * 40 + b)) nb : Nat) : Int) (pe (r * 40 + b)) = rg_q0 rf fl en ar pe nb r b := (if_pos h).symm
theorem rg_q0_8 {rf fl en ar pe : Nat → Int} {nb r b : Nat} (h9 : ¬ en (r * 40 + b) = 9) (h : en (r * 40 + b) = 8) : ar (r * 40 + b) = rg_q0 rf fl en ar pe nb r b := ((if_neg h9).trans (if_pos h)).symm
theorem rg_q0_x {rf fl en ar pe : Nat → Int} {nb r b : Nat} (h9 : ¬ en (r * 40 + b) = 9) (h : ¬ en (r * 40 + b) = 8) : 10 * rg_SZ rf fl nb r + 10 = rg_q0 rf fl en ar pe nb r b := ((if_neg h9).trans (if_neg h)).symm
/-- the table of points while the averages are put in -/
theorem rg_mv_cur {sl rf fl en T : Nat → Int} {nb nr r b n : Nat} (hr : r < nr) (hb : b < nb) (hnb : nb ≤ 40) :
    rg_avg (rg_SZ rf fl nb r) (rg_mn sl rf fl en r b) (fun o => rg_row (rg_tab T r nb (rg_mv sl rf fl en T nb nr)) r b (rg_mv sl rf fl en T nb nr r) (o * 40 + b)) n = rg_avg (rg_SZ rf fl nb r) (rg_mn sl rf fl en r b) (fun o => T (o * 40 + b)) n := by
  refine rg_avg_congr (fun _ _ => Iff.rfl) (fun o _ ho => ?_)
  show rg_row _ _ _ _ _ = _
  rw [rg_row_col _ _ _ _ (by omega)]
  by_cases z : o < r
  · rw [rg_tab_at _ _ z hb hnb]
    exact (rg_mv_x (fun q => ho.2.2 (Or.inl q)) (fun q => ho.2.2 (Or.inr (Or.inl q)))).symm
  · exact rg_tab_out _ _ (by omega) (by omega)
noncomputable def rg_mG (sl rf fl kd pt : Nat → Int) (nr c : Nat) : Int := rg_sum (fun o => rg_ite (rg_in sl rf fl o c) (rg_ms2 kd pt o c) 0) nr
noncomputable def rg_mM (sl rf fl : Nat → Int) (nr c : Nat) : Int := ((rg_cnt (fun o => rg_in sl rf fl o c) nr : Nat) : Int)
noncomputable def rg_mD (sl rf fl kd en pt sr sm : Nat → Int) (ns nr o c : Nat) : Int := rg_ml sl rf fl kd en pt (rg_al sr sm (rg_mM sl rf fl nr c) ns) nr c o
noncomputable def rg_mN (sl rf fl kd en pt sr sm : Nat → Int) (ns nr c : Nat) : Int := rg_mG sl rf fl kd pt nr c - rg_sum (fun o => rg_ite (¬ rg_mD sl rf fl kd en pt sr sm ns nr o c = 0) (rg_ms2 kd pt o c) 0) nr
noncomputable def rg_mC (sl rf fl kd en pt sr sm : Nat → Int) (ns nr c : Nat) : Int := ((rg_cnt (fun o => ¬ rg_mD sl rf fl kd en pt sr sm ns nr o c = 0) nr : Nat) : Int)
theorem rg_ml_1 {sl rf fl kd en pt : Nat → Int} {may : Int} {nr b r x : Nat} (h : rg_mg sl rf fl kd en r b) (hx : x = rg_mb sl rf fl kd en pt nr b r) (h2 : (x : Int) < may) : (1 : Int) = rg_ml sl rf fl kd en pt may nr b r := (rg_b_t ⟨h, by rw [← hx]; exact h2⟩).symm
theorem rg_ml_0 {sl rf fl kd en pt : Nat → Int} {may : Int} {nr b r x : Nat} (hx : x = rg_mb sl rf fl kd en pt nr b r) (h2 : ¬ rg_mg sl rf fl kd en r b ∨ may ≤ (x : Int)) : (0 : Int) = rg_ml sl rf fl kd en pt may nr b r := (rg_b_f (by
  rintro ⟨q1, q2⟩
  rw [← hx] at q2
  rcases h2 with h2 | h2
  · exact h2 q1
  · omega)).symm
theorem rg_lf_t {f pt : Nat → Int} {t a : Int} {r : Nat} (ht : t = a - rg_sum (fun o => rg_ite (¬ f o = 0) (pt o) 0) r) (h : 1 = f r) : t - pt r = a - rg_sum (fun o => rg_ite (¬ f o = 0) (pt o) 0) (r + 1) := by
  have z := rg_sum_t (p := fun o => ¬ f o = 0) (pt := pt) (n := r) (by show ¬ f r = 0; rw [← h]; omega)
  have z' : rg_sum (fun o => rg_ite (¬ f o = 0) (pt o) 0) r + pt r = rg_sum (fun o => rg_ite (¬ f o = 0) (pt o) 0) (r + 1) := z
  omega
theorem rg_lf_f {f pt : Nat → Int} {t a : Int} {r : Nat} (ht : t = a - rg_sum (fun o => rg_ite (¬ f o = 0) (pt o) 0) r) (h : 0 = f r) : t = a - rg_sum (fun o => rg_ite (¬ f o = 0) (pt o) 0) (r + 1) := by
  have z := rg_sum_f (p := fun o => ¬ f o = 0) (pt := pt) (n := r) (by show ¬ ¬ f r = 0; rw [← h]; omega)
  have z' : rg_sum (fun o => rg_ite (¬ f o = 0) (pt o) 0) r = rg_sum (fun o => rg_ite (¬ f o = 0) (pt o) 0) (r + 1) := z
  omega
theorem rg_lc_t {f : Nat → Int} {u r : Nat} (hu : u = rg_cnt (fun o => ¬ f o = 0) r) (h : 1 = f r) : u + 1 = rg_cnt (fun o => ¬ f o = 0) (r + 1) := by
  have z := rg_cnt_t (p := fun o => ¬ f o = 0) (n := r) (by show ¬ f r = 0; rw [← h]; omega)
  omega
theorem rg_lc_f {f : Nat → Int} {u r : Nat} (hu : u = rg_cnt (fun o => ¬ f o = 0) r) (h : 0 = f r) : u = rg_cnt (fun o => ¬ f o = 0) (r + 1) := by
  have z := rg_cnt_f (p := fun o => ¬ f o = 0) (n := r) (by show ¬ ¬ f r = 0; rw [← h]; omega)
  omega
