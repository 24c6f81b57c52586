/-! Words for the point table as a whole. -/
theorem rg_row_col (f : Nat → Int) (r : Nat) {b : Nat} (g : Nat → Int) (o : Nat) (hb : b < 40) : rg_row f r b g (o * 40 + b) = f (o * 40 + b) := by
  unfold rg_row; rw [if_neg (by omega)]
theorem rg_row_skip (f : Nat → Int) (r n : Nat) (g : Nat → Int) (h : f (r * 40 + n) = g n) : rg_row f r n g = rg_row f r (n + 1) g := by
  rw [← rg_row_s f r n g h]
  funext j; unfold rg_up
  by_cases z : j = r * 40 + n
  · rw [if_pos z, z, rg_row_out f r g (Nat.le_refl n)]
  · rw [if_neg z]
theorem rg_tab_tab (f : Nat → Int) (R n : Nat) (g g' : Nat → Nat → Int) : rg_tab (rg_tab f R n g) R n g' = rg_tab f R n g' := by
  funext j; unfold rg_tab; by_cases h : j / 40 < R ∧ j % 40 < n <;> simp [h]
theorem rg_tab_out (f : Nat → Int) {R n r b : Nat} (g : Nat → Nat → Int) (hr : R ≤ r) (hb : b < 40) : rg_tab f R n g (r * 40 + b) = f (r * 40 + b) := by
  have h1 : (r * 40 + b) / 40 = r := by omega
  unfold rg_tab
  rw [h1, if_neg (by omega)]
/-- the entry counts, and is no redress, of a race in the series -/
abbrev rg_no (ins en : Nat → Int) (b o : Nat) : Prop := ¬ ins (o * 40 + b) = 0 ∧ ¬ (en (o * 40 + b) = 6 ∨ en (o * 40 + b) = 7 ∨ en (o * 40 + b) = 8)
/-- a row of a race behind its averages -/
noncomputable def rg_av (sz ins en pt : Nat → Int) (nr r b : Nat) : Int :=
  rg_ite (¬ ins (r * 40 + b) = 0 ∧ en (r * 40 + b) = 6) (rg_avg (sz r) (rg_no ins en b) (fun o => pt (o * 40 + b)) nr)
    (rg_ite (¬ ins (r * 40 + b) = 0 ∧ en (r * 40 + b) = 7) (rg_avg (sz r) (rg_no ins en b) (fun o => pt (o * 40 + b)) r) (pt (r * 40 + b)))
theorem rg_av_6 {sz ins en pt : Nat → Int} {nr r b : Nat} (h : ¬ ins (r * 40 + b) = 0) (h6 : en (r * 40 + b) = 6) : rg_av sz ins en pt nr r b = rg_avg (sz r) (rg_no ins en b) (fun o => pt (o * 40 + b)) nr := rg_ite_t ⟨h, h6⟩ _ _
theorem rg_av_7 {sz ins en pt : Nat → Int} {nr r b : Nat} (h : ¬ ins (r * 40 + b) = 0) (h6 : en (r * 40 + b) = 7) : rg_av sz ins en pt nr r b = rg_avg (sz r) (rg_no ins en b) (fun o => pt (o * 40 + b)) r :=
  (rg_ite_f (fun q => by have := q.2; omega) _ _).trans (rg_ite_t ⟨h, h6⟩ _ _)
theorem rg_av_0 {sz ins en pt : Nat → Int} {nr r b : Nat} (h : ins (r * 40 + b) = 0) : pt (r * 40 + b) = rg_av sz ins en pt nr r b :=
  ((rg_ite_f (fun q => q.1 h) _ _).trans (rg_ite_f (fun q => q.1 h) _ _)).symm
theorem rg_av_x {sz ins en pt : Nat → Int} {nr r b : Nat} (h6 : ¬ en (r * 40 + b) = 6) (h7 : ¬ en (r * 40 + b) = 7) : pt (r * 40 + b) = rg_av sz ins en pt nr r b :=
  ((rg_ite_f (fun q => h6 q.2) _ _).trans (rg_ite_f (fun q => h7 q.2) _ _)).symm
theorem rg_av_w {sz ins en pt pt' : Nat → Int} {n r b : Nat} (h : ∀ o, pt' (o * 40 + b) = pt (o * 40 + b)) : rg_avg (sz r) (rg_no ins en b) (fun o => pt' (o * 40 + b)) n = rg_avg (sz r) (rg_no ins en b) (fun o => pt (o * 40 + b)) n :=
  rg_avg_congr (fun _ _ => Iff.rfl) (fun o _ _ => h o)
/-! the tables of all races -/
noncomputable def rg_SZ (rf fl : Nat → Int) (nb i : Nat) : Int := ((rg_cnt (fun b => rf i = 0 ∨ rf i = fl b) nb : Nat) : Int)
theorem rg_SZ_bd (rf fl : Nat → Int) (nb i : Nat) : 0 ≤ rg_SZ rf fl nb i ∧ rg_SZ rf fl nb i ≤ nb := by
  unfold rg_SZ; have := rg_cnt_le (fun b => rf i = 0 ∨ rf i = fl b) nb; omega
abbrev rg_has (en : Nat → Int) (nb i : Nat) : Prop := ∃ b, b < nb ∧ ¬ en (i * 40 + b) = -1
noncomputable def rg_SL (ab en : Nat → Int) (nb i : Nat) : Int := rg_b (ab i = 0 ∧ rg_has en nb i)
noncomputable def rg_IN (rf fl ab en : Nat → Int) (nb i b : Nat) : Int := rg_b (rg_in (rg_SL ab en nb) rf fl i b)
noncomputable def rg_P1 (rf fl ab en ar pe : Nat → Int) (nb i b : Nat) : Int := rg_ite (rg_in (rg_SL ab en nb) rf fl i b) (rg_p0 (rg_SZ rf fl nb) (rg_wp en ar i nb) (rg_sum (rg_wp en ar i nb)) en ar pe i (i * 40 + b)) (-1)
abbrev rg_nR (rf fl ab en : Nat → Int) (nb b o : Nat) : Prop := ¬ rg_IN rf fl ab en nb o b = 0 ∧ ¬ (en (o * 40 + b) = 6 ∨ en (o * 40 + b) = 7 ∨ en (o * 40 + b) = 8)
noncomputable def rg_P2 (rf fl ab en ar pe : Nat → Int) (nb nr i b : Nat) : Int :=
  rg_ite (¬ rg_IN rf fl ab en nb i b = 0 ∧ en (i * 40 + b) = 6) (rg_avg (rg_SZ rf fl nb i) (rg_nR rf fl ab en nb b) (fun o => rg_P1 rf fl ab en ar pe nb o b) nr)
    (rg_ite (¬ rg_IN rf fl ab en nb i b = 0 ∧ en (i * 40 + b) = 7) (rg_avg (rg_SZ rf fl nb i) (rg_nR rf fl ab en nb b) (fun o => rg_P1 rf fl ab en ar pe nb o b) i) (rg_P1 rf fl ab en ar pe nb i b))
theorem rg_p0_congr {sz wp wl wl' en ar pe : Nat → Int} {r j : Nat} (h : en j = 0 → wl (Int.toNat (ar j)) = wl' (Int.toNat (ar j))) : rg_p0 sz wp wl en ar pe r j = rg_p0 sz wp wl' en ar pe r j := by
  unfold rg_p0
  by_cases z : en j = 0
  · rw [if_pos z, if_pos z, h z]
  · rw [if_neg z, if_neg z]
theorem rg_p0_sz {sz sz' wp wl en ar pe : Nat → Int} {r j : Nat} (h : sz r = sz' r) : rg_p0 sz wp wl en ar pe r j = rg_p0 sz' wp wl en ar pe r j := by
  unfold rg_p0; rw [h]
theorem rg_wl_sum (f wp : Nat → Int) {n p : Nat} (h : p < n) : rg_wl f wp n p = rg_sum wp p := rg_hd_at _ _ h
/-- the points of a place that counts: the counted one is there -/
theorem rg_wp_pos {en ar : Nat → Int} {r b nb : Nat} (hb : b < nb) (h : en (r * 40 + b) = 0) (ha : 0 ≤ ar (r * 40 + b)) : 1 ≤ rg_wp en ar r nb (Int.toNat (ar (r * 40 + b))) := by
  unfold rg_wp
  have : ∀ m, b < m → 1 ≤ rg_cnt (fun i => en (r * 40 + i) = 0 ∧ ar (r * 40 + i) = ((Int.toNat (ar (r * 40 + b)) : Nat) : Int)) m := by
    intro m
    induction m with
    | zero => intro h; omega
    | succ m ih =>
      intro hm
      by_cases z : b = m
      · subst z
        rw [rg_cnt_t (p := fun i => en (r * 40 + i) = 0 ∧ ar (r * 40 + i) = ((Int.toNat (ar (r * 40 + b)) : Nat) : Int)) ⟨h, by omega⟩]; omega
      · have h1 := ih (by omega)
        rcases Classical.em ((fun i => en (r * 40 + i) = 0 ∧ ar (r * 40 + i) = ((Int.toNat (ar (r * 40 + b)) : Nat) : Int)) m) with y | y
        · rw [rg_cnt_t y]; omega
        · rw [rg_cnt_f y]; exact h1
  have := this nb hb
  omega
theorem rg_P1_bd {rf fl ab en ar pe : Nat → Int} {nb i b : Nat} (hok : rg_okE en ar pe) (hnb : nb ≤ 40) (hb : b < nb) (h : ¬ rg_IN rf fl ab en nb i b = 0) : 0 ≤ rg_P1 rf fl ab en ar pe nb i b ∧ rg_P1 rf fl ab en ar pe nb i b ≤ 9999 := by
  have hin := (rg_b_ne0 _).mp h
  unfold rg_P1
  rw [rg_ite_t hin]
  have h1 := rg_SZ_bd rf fl nb i
  have h4 := hok (i * 40 + b)
  have hokp : ∀ c, c < nb → en (i * 40 + c) = 0 → 0 ≤ ar (i * 40 + c) := fun c _ _ => by have := hok (i * 40 + c); omega
  exact rg_p0_bd hok (by omega) (fun z => rg_wp_pos hb z (by omega)) (fun z => by rw [rg_sum_wp en ar i nb hokp]; omega)
theorem rg_P2_same {rf fl ab en ar pe : Nat → Int} {nb nr i b : Nat} (h : rg_nR rf fl ab en nb b i) : rg_P2 rf fl ab en ar pe nb nr i b = rg_P1 rf fl ab en ar pe nb i b :=
  (rg_ite_f (fun q => h.2 (Or.inl q.2)) _ _).trans (rg_ite_f (fun q => h.2 (Or.inr (Or.inl q.2))) _ _)
theorem rg_P2_bd {rf fl ab en ar pe : Nat → Int} {nb nr i b : Nat} (hok : rg_okE en ar pe) (hnb : nb ≤ 40) (hb : b < nb) (h : ¬ rg_IN rf fl ab en nb i b = 0) : 0 ≤ rg_P2 rf fl ab en ar pe nb nr i b ∧ rg_P2 rf fl ab en ar pe nb nr i b ≤ 9999 := by
  have h1 := rg_SZ_bd rf fl nb i
  unfold rg_P2
  rcases Classical.em (¬ rg_IN rf fl ab en nb i b = 0 ∧ en (i * 40 + b) = 6) with z | z
  · rw [rg_ite_t z]; exact rg_avg_bd (by omega) (fun o _ ho => rg_P1_bd hok hnb hb ho.1)
  · rw [rg_ite_f z]
    rcases Classical.em (¬ rg_IN rf fl ab en nb i b = 0 ∧ en (i * 40 + b) = 7) with y | y
    · rw [rg_ite_t y]; exact rg_avg_bd (by omega) (fun o _ ho => rg_P1_bd hok hnb hb ho.1)
    · rw [rg_ite_f y]; exact rg_P1_bd hok hnb hb h
/-- one race's averages over a table in which the races ahead have theirs -/
theorem rg_P2_row {rf fl ab en ar pe f28 f29 sz : Nat → Int} {nb nr r b : Nat} (hr : r < nr) (hb : b < nb) (hnb : nb ≤ 40) (hsz : sz r = rg_SZ rf fl nb r) :
    rg_av sz (rg_tab f28 nr nb (rg_IN rf fl ab en nb)) en (rg_tab (rg_tab f29 nr nb (rg_P1 rf fl ab en ar pe nb)) r nb (rg_P2 rf fl ab en ar pe nb nr)) nr r b = rg_P2 rf fl ab en ar pe nb nr r b := by
  have hin : ∀ o, o < nr → rg_tab f28 nr nb (rg_IN rf fl ab en nb) (o * 40 + b) = rg_IN rf fl ab en nb o b := fun o ho => rg_tab_at _ _ ho hb hnb
  have hpt : ∀ o, o < nr → rg_nR rf fl ab en nb b o → rg_tab (rg_tab f29 nr nb (rg_P1 rf fl ab en ar pe nb)) r nb (rg_P2 rf fl ab en ar pe nb nr) (o * 40 + b) = rg_P1 rf fl ab en ar pe nb o b := by
    intro o ho hno
    by_cases z : o < r
    · rw [rg_tab_at _ _ z hb hnb]; exact rg_P2_same hno
    · rw [rg_tab_out _ _ (by omega) (by omega)]; exact rg_tab_at _ _ ho hb hnb
  have hno : ∀ o, o < nr → (rg_no (rg_tab f28 nr nb (rg_IN rf fl ab en nb)) en b o ↔ rg_nR rf fl ab en nb b o) := by
    intro o ho
    unfold rg_no rg_nR
    rw [hin o ho]
  have hcur : rg_tab (rg_tab f29 nr nb (rg_P1 rf fl ab en ar pe nb)) r nb (rg_P2 rf fl ab en ar pe nb nr) (r * 40 + b) = rg_P1 rf fl ab en ar pe nb r b := by
    rw [rg_tab_out _ _ (Nat.le_refl _) (by omega)]; exact rg_tab_at _ _ hr hb hnb
  unfold rg_av
  rw [hin r hr, hcur, hsz]
  rw [rg_avg_congr (n := nr) hno (fun o ho h => hpt o ho ((hno o ho).mp h))]
  rw [rg_avg_congr (n := r) (fun o ho => hno o (by omega)) (fun o ho h => hpt o (by omega) ((hno o (by omega)).mp h))]
  rfl
