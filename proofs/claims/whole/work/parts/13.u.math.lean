/-! The texts of both sheets: how long they are, and that they are the same. -/
theorem rg_nt_le (v : Int) (t s : Nat) : (rg_nt v (t + s)).length ≤ (rg_nt v t).length + s := by
  induction s with
  | zero => exact Nat.le_refl _
  | succ s ih =>
    show (rg_nt v ((t + s) + 1)).length ≤ _
    by_cases z : rg_dv (t + s) ≤ v ∨ rg_dv (t + s) = 1
    · rw [rg_nt_y z, List.length_append]
      show _ + 1 ≤ _
      omega
    · rw [rg_nt_n z]; omega
theorem rg_nt_z {v : Int} {t : Nat} (h : ∀ i, i < t → ¬ (rg_dv i ≤ v ∨ rg_dv i = 1)) : (rg_nt v t).length = 0 := by rw [rg_nt_nil h]; rfl
theorem rg_nx_len5 (v : Int) : (rg_nx v).length ≤ 5 := by
  have := rg_nt_le v 0 5
  exact this
theorem rg_nx_len4 {v : Int} (h : v < 10000) : (rg_nx v).length ≤ 4 := by
  have q := rg_nt_le v 1 4
  rw [rg_nt_z (t := 1) (fun i hi => by rw [show i = 0 by omega]; show ¬ ((10000 : Int) ≤ v ∨ (10000 : Int) = 1); omega)] at q
  exact q
theorem rg_nx_len3 {v : Int} (h : v < 1000) : (rg_nx v).length ≤ 3 := by
  have q := rg_nt_le v 2 3
  rw [rg_nt_z (t := 2) (fun i hi => by
    rcases (show i = 0 ∨ i = 1 by omega) with rfl | rfl
    · show ¬ ((10000 : Int) ≤ v ∨ (10000 : Int) = 1); omega
    · show ¬ ((1000 : Int) ≤ v ∨ (1000 : Int) = 1); omega)] at q
  exact q
theorem rg_nx_len2 {v : Int} (h : v < 100) : (rg_nx v).length ≤ 2 := by
  have q := rg_nt_le v 3 2
  rw [rg_nt_z (t := 3) (fun i hi => by
    rcases (show i = 0 ∨ i = 1 ∨ i = 2 by omega) with rfl | rfl | rfl
    · show ¬ ((10000 : Int) ≤ v ∨ (10000 : Int) = 1); omega
    · show ¬ ((1000 : Int) ≤ v ∨ (1000 : Int) = 1); omega
    · show ¬ ((100 : Int) ≤ v ∨ (100 : Int) = 1); omega)] at q
  exact q
theorem rg_tt_len (v : Int) : (rg_tt v).length = (rg_nx (v / 10)).length + 2 := by
  unfold rg_tt
  rw [List.length_append, List.length_append]; rfl
theorem rg_tx0 : rg_text 0 = rg_t1 46 ++ rg_t1 32 := by decide +kernel
theorem rg_tx1 : rg_text 1 = rg_t1 32 := by decide +kernel
theorem rg_tx2 : rg_text 2 = rg_t1 32 ++ rg_t1 40 := by decide +kernel
theorem rg_tx3 : rg_text 3 = rg_t1 41 := by decide +kernel
theorem rg_tx4 : rg_text 4 = rg_t1 32 ++ rg_t1 91 := by decide +kernel
theorem rg_tx5 : rg_text 5 = [] := by decide +kernel
theorem rg_tx16 : rg_text 16 = rg_t1 93 := by decide +kernel
theorem rg_tx17 : rg_text 17 = rg_t1 10 := by decide +kernel
theorem rg_sn_se {e e' q q' : Int} (he : -1 ≤ e ∧ e ≤ 8) (h1 : e' = rg_cd e) (hq : ¬ e = -1 → q' = q) (h0 : 0 ≤ q) : rg_text (rg_sn e q) = rg_se e' (if 0 < q' then 1 else 0) := by
  rcases (show e = -1 ∨ e = 0 ∨ e = 1 ∨ e = 2 ∨ e = 3 ∨ e = 4 ∨ e = 5 ∨ e = 6 ∨ e = 7 ∨ e = 8 by omega) with z | z | z | z | z | z | z | z | z | z <;> subst z
  · subst h1; exact (by decide +kernel : rg_text 15 = rg_t3 68 78 67)
  · rw [hq (by omega)]
    subst h1
    by_cases y : q = 0
    · rw [y]; decide +kernel
    · rw [if_pos (by omega)]
      have e1 : rg_sn 0 q = 6 := by unfold rg_sn; rw [if_pos rfl, if_neg y]
      rw [e1]; decide +kernel
  all_goals (subst h1; generalize (if (0 : Int) < q' then (1 : Int) else 0) = w)
  · exact (by decide +kernel : rg_text 7 = rg_t3 68 78 83)
  · exact (by decide +kernel : rg_text 8 = rg_t3 79 67 83)
  · exact (by decide +kernel : rg_text 9 = rg_t3 82 69 84)
  · exact (by decide +kernel : rg_text 10 = rg_t3 68 83 81)
  · exact (by decide +kernel : rg_text 11 = rg_t3 68 78 69)
  · exact (by decide +kernel : rg_text 12 = rg_t3 82 68 65)
  · exact (by decide +kernel : rg_text 13 = rg_t3 82 68 66)
  · exact (by decide +kernel : rg_text 14 = rg_t3 82 68 71)
/-- one score's text -/
theorem rg_sw_ss {dis sc en pe kd pt lf en' pe' : Nat → Int} {r b : Nat} (hd : dis (r * 40 + b) = lf (r * 40 + b)) (hs : sc (r * 40 + b) = rg_ms2 kd pt r b) (he : -1 ≤ en (r * 40 + b) ∧ en (r * 40 + b) ≤ 8) (h1 : en' (r * 40 + b) = rg_cd (en (r * 40 + b))) (hq : ¬ en (r * 40 + b) = -1 → pe' (r * 40 + b) = pe (r * 40 + b)) (h0 : 0 ≤ pe (r * 40 + b)) :
    rg_sw dis sc en pe (r * 40 + b) = rg_ss kd pt lf en' pe' b r := by
  by_cases z : dis (r * 40 + b) = 0
  · rw [rg_sw_0 z, rg_ss_0 (hd.symm.trans z), rg_sn_se he h1 hq h0, rg_tx1, rg_tx5, hs, List.append_nil]
  · rw [rg_sw_1 z, rg_ss_1 (fun q => z (hd.trans q)), rg_sn_se he h1 hq h0, rg_tx4, rg_tx16, hs]
theorem rg_ss_len11 {kd pt lf en pe : Nat → Int} {b r : Nat} (h0 : rg_ms2 kd pt r b < 100000) (h1 : ¬ lf (r * 40 + b) = 0 → rg_ms2 kd pt r b < 10000) : (rg_ss kd pt lf en pe b r).length ≤ 11 := by
  have q := rg_se_len (en (r * 40 + b)) (if 0 < pe (r * 40 + b) then 1 else 0)
  by_cases z : lf (r * 40 + b) = 0
  · rw [rg_ss_0 z]
    have w := rg_nx_len4 (v := rg_ms2 kd pt r b / 10) (by omega)
    rw [List.length_append, List.length_append, rg_tt_len, rg_t1_len]
    omega
  · rw [rg_ss_1 z]
    have w := rg_nx_len3 (v := rg_ms2 kd pt r b / 10) (by have := h1 z; omega)
    rw [List.length_append, List.length_append, List.length_append, List.length_append, rg_tt_len, rg_t1_len, rg_t1_len, rg_t1_len]
    omega
theorem rg_sr_len {sl rf fl kd pt lf en pe : Nat → Int} {b n : Nat} (h0 : ∀ r, r < n → rg_ms2 kd pt r b < 100000) (h1 : ∀ r, r < n → ¬ lf (r * 40 + b) = 0 → rg_ms2 kd pt r b < 10000) : (rg_sr sl rf fl kd pt lf en pe b n).length ≤ 11 * n := by
  induction n with
  | zero => exact Nat.le_refl _
  | succ n ih =>
    have i := ih (fun r hr => h0 r (by omega)) (fun r hr => h1 r (by omega))
    have w := rg_ss_len11 (en := en) (pe := pe) (h0 n (by omega)) (h1 n (by omega))
    by_cases z : rg_in sl rf fl n b
    · rw [rg_sr_y z, List.length_append]; omega
    · rw [rg_sr_n z]; omega
theorem rg_sL_len {sl rf fl kd pt lf en pe nt gr : Nat → Int} {nr k b : Nat} (hnr : nr ≤ 16) (hk : k ≤ 40) (hb : b < 40) (h0 : ∀ r, r < nr → rg_ms2 kd pt r b < 100000) (h1 : ∀ r, r < nr → ¬ lf (r * 40 + b) = 0 → rg_ms2 kd pt r b < 10000) : (rg_sL sl rf fl kd pt lf en pe nt gr nr k b).length ≤ 201 := by
  have w := rg_sr_len (sl := sl) (rf := rf) (fl := fl) (en := en) (pe := pe) h0 h1
  have w1 := rg_nx_len2 (v := ((k : Nat) : Int)) (by omega)
  have w2 := rg_nx_len2 (v := ((b : Nat) : Int)) (by omega)
  have w3 := rg_nx_len5 (nt b / 10)
  have w4 := rg_nx_len5 (gr b / 10)
  unfold rg_sL
  simp only [List.length_append, rg_t1_len, rg_tt_len]
  omega
theorem rg_rt_sr {ins dis sc en pe sl rf fl kd pt lf en' pe' : Nat → Int} {b n : Nat} (hi : ∀ r, r < n → (¬ ins (r * 40 + b) = 0 ↔ rg_in sl rf fl r b)) (hd : ∀ r, r < n → rg_in sl rf fl r b → dis (r * 40 + b) = lf (r * 40 + b)) (hs : ∀ r, r < n → rg_in sl rf fl r b → sc (r * 40 + b) = rg_ms2 kd pt r b)
    (he : ∀ r, r < n → -1 ≤ en (r * 40 + b) ∧ en (r * 40 + b) ≤ 8) (h1 : ∀ r, r < n → en' (r * 40 + b) = rg_cd (en (r * 40 + b))) (hq : ∀ r, r < n → ¬ en (r * 40 + b) = -1 → pe' (r * 40 + b) = pe (r * 40 + b)) (h0 : ∀ r, r < n → 0 ≤ pe (r * 40 + b)) :
    rg_rt ins dis sc en pe b n = rg_sr sl rf fl kd pt lf en' pe' b n := by
  induction n with
  | zero => rfl
  | succ n ih =>
    have i := ih (fun r hr => hi r (by omega)) (fun r hr => hd r (by omega)) (fun r hr => hs r (by omega)) (fun r hr => he r (by omega)) (fun r hr => h1 r (by omega)) (fun r hr => hq r (by omega)) (fun r hr => h0 r (by omega))
    by_cases z : ins (n * 40 + b) = 0
    · rw [rg_rt_n z, rg_sr_n (fun q => (hi n (by omega)).mpr q z), i]
    · have y := (hi n (by omega)).mp z
      rw [rg_rt_y z, rg_sr_y y, i, rg_sw_ss (hd n (by omega) y) (hs n (by omega) y) (he n (by omega)) (h1 n (by omega)) (hq n (by omega)) (h0 n (by omega))]
theorem rg_ln_sL {ins dis sc en pe gr nt sl rf fl kd pt lf en' pe' nt' gr' : Nat → Int} {nr k b : Nat} (hr : rg_rt ins dis sc en pe b nr = rg_sr sl rf fl kd pt lf en' pe' b nr) (hn : nt b = nt' b) (hg : gr b = gr' b) : rg_ln ins dis sc en pe gr nt nr k b = rg_sL sl rf fl kd pt lf en' pe' nt' gr' nr k b := by
  unfold rg_ln rg_sL
  rw [hr, hn, hg, rg_tx0, rg_tx1, rg_tx2, rg_tx3, rg_tx17, ← List.append_assoc, ← List.append_assoc]
