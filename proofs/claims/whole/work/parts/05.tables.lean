/-! Words for the tables: counts, sums, rows of a table of 40 a race. -/
noncomputable def rg_cnt (p : Nat → Prop) : Nat → Nat
  | 0 => 0
  | n + 1 => @ite Nat (p n) (Classical.propDecidable _) (rg_cnt p n + 1) (rg_cnt p n)
theorem rg_cnt_0 (p : Nat → Prop) : rg_cnt p 0 = 0 := rfl
theorem rg_cnt_t {p : Nat → Prop} {n : Nat} (h : p n) : rg_cnt p (n + 1) = rg_cnt p n + 1 := @if_pos _ (Classical.propDecidable _) h _ _ _
theorem rg_cnt_f {p : Nat → Prop} {n : Nat} (h : ¬ p n) : rg_cnt p (n + 1) = rg_cnt p n := @if_neg _ (Classical.propDecidable _) h _ _ _
theorem rg_cnt_le (p : Nat → Prop) (n : Nat) : rg_cnt p n ≤ n := by
  induction n with
  | zero => exact Nat.le_refl _
  | succ n ih =>
    rcases Classical.em (p n) with h | h
    · rw [rg_cnt_t h]; omega
    · rw [rg_cnt_f h]; omega
theorem rg_cnt_congr {p q : Nat → Prop} {n : Nat} (h : ∀ i, i < n → (p i ↔ q i)) : rg_cnt p n = rg_cnt q n := by
  induction n with
  | zero => rfl
  | succ n ih =>
    have ih := ih (fun i hi => h i (by omega))
    rcases Classical.em (p n) with z | z
    · rw [rg_cnt_t z, rg_cnt_t ((h n (by omega)).mp z), ih]
    · rw [rg_cnt_f z, rg_cnt_f (fun y => z ((h n (by omega)).mpr y)), ih]
theorem rg_cnt_zero {p : Nat → Prop} {n : Nat} (h : ∀ i, i < n → ¬ p i) : rg_cnt p n = 0 := by
  induction n with
  | zero => rfl
  | succ n ih => rw [rg_cnt_f (h n (by omega)), ih (fun i hi => h i (by omega))]
theorem rg_cnt_mono {p q : Nat → Prop} {n : Nat} (h : ∀ i, i < n → p i → q i) : rg_cnt p n ≤ rg_cnt q n := by
  induction n with
  | zero => exact Nat.le_refl _
  | succ n ih =>
    have ih := ih (fun i hi => h i (by omega))
    rcases Classical.em (p n) with z | z
    · rw [rg_cnt_t z, rg_cnt_t (h n (by omega) z)]; omega
    · rcases Classical.em (q n) with y | y
      · rw [rg_cnt_f z, rg_cnt_t y]; omega
      · rw [rg_cnt_f z, rg_cnt_f y]; exact ih
def rg_sum (f : Nat → Int) : Nat → Int
  | 0 => 0
  | n + 1 => rg_sum f n + f n
theorem rg_sum_congr {f g : Nat → Int} {n : Nat} (h : ∀ i, i < n → f i = g i) : rg_sum f n = rg_sum g n := by
  induction n with
  | zero => rfl
  | succ n ih => rw [rg_sum, rg_sum, ih (fun i hi => h i (by omega)), h n (by omega)]
def rg_row (f : Nat → Int) (r n : Nat) (g : Nat → Int) : Nat → Int := fun j => if r * 40 ≤ j ∧ j < r * 40 + n then g (j - r * 40) else f j
theorem rg_row_0 (f : Nat → Int) (r : Nat) (g : Nat → Int) : f = rg_row f r 0 g := by
  funext j; unfold rg_row; rw [if_neg (by omega)]
theorem rg_row_s (f : Nat → Int) (r n : Nat) (g : Nat → Int) {v : Int} (hv : v = g n) : rg_up (rg_row f r n g) (r * 40 + n) v = rg_row f r (n + 1) g := by
  subst hv
  funext j; unfold rg_up rg_row
  by_cases h : j = r * 40 + n
  · rw [if_pos h, if_pos (by omega)]; congr 1; omega
  · rw [if_neg h]
    by_cases h1 : r * 40 ≤ j ∧ j < r * 40 + n
    · rw [if_pos h1, if_pos (by omega)]
    · rw [if_neg h1, if_neg (by omega)]
theorem rg_row_at (f : Nat → Int) (r : Nat) {n b : Nat} (g : Nat → Int) (h : b < n) : rg_row f r n g (r * 40 + b) = g b := by
  unfold rg_row; rw [if_pos (by omega)]; congr 1; omega
theorem rg_row_out (f : Nat → Int) (r : Nat) {n b : Nat} (g : Nat → Int) (h : n ≤ b) : rg_row f r n g (r * 40 + b) = f (r * 40 + b) := by
  unfold rg_row; rw [if_neg (by omega)]
theorem rg_row_congr (f : Nat → Int) (r : Nat) {n : Nat} {g g' : Nat → Int} (h : ∀ b, b < n → g b = g' b) : rg_row f r n g = rg_row f r n g' := by
  funext j; unfold rg_row
  by_cases h1 : r * 40 ≤ j ∧ j < r * 40 + n
  · rw [if_pos h1, if_pos h1]; exact h _ (by omega)
  · rw [if_neg h1, if_neg h1]
def rg_tab (f : Nat → Int) (R n : Nat) (g : Nat → Nat → Int) : Nat → Int := fun j => if j / 40 < R ∧ j % 40 < n then g (j / 40) (j % 40) else f j
theorem rg_tab_0 (f : Nat → Int) (n : Nat) (g : Nat → Nat → Int) : f = rg_tab f 0 n g := by
  funext j; unfold rg_tab; rw [if_neg (by omega)]
theorem rg_tab_s (f : Nat → Int) (r : Nat) {n : Nat} (g : Nat → Nat → Int) (hn : n ≤ 40) : rg_row (rg_tab f r n g) r n (g r) = rg_tab f (r + 1) n g := by
  funext j; unfold rg_row rg_tab
  by_cases h : r * 40 ≤ j ∧ j < r * 40 + n
  · have h1 : j / 40 = r := by omega
    have h2 : j % 40 = j - r * 40 := by omega
    rw [if_pos h, h1, h2, if_pos (by omega)]
  · rw [if_neg h]
    by_cases h1 : j / 40 < r ∧ j % 40 < n
    · rw [if_pos h1, if_pos (by omega)]
    · rw [if_neg h1, if_neg (by omega)]
theorem rg_tab_at (f : Nat → Int) {R n r b : Nat} (g : Nat → Nat → Int) (hr : r < R) (hb : b < n) (hn : n ≤ 40) : rg_tab f R n g (r * 40 + b) = g r b := by
  have h1 : (r * 40 + b) / 40 = r := by omega
  have h2 : (r * 40 + b) % 40 = b := by omega
  unfold rg_tab
  rw [h1, h2, if_pos ⟨hr, hb⟩]
theorem rg_tab_congr (f : Nat → Int) {R n : Nat} {g g' : Nat → Nat → Int} (h : ∀ r, r < R → ∀ b, b < n → g r b = g' r b) : rg_tab f R n g = rg_tab f R n g' := by
  funext j; unfold rg_tab
  by_cases h1 : j / 40 < R ∧ j % 40 < n
  · rw [if_pos h1, if_pos h1]; exact h _ h1.1 _ h1.2
  · rw [if_neg h1, if_neg h1]
/-- the first n places of a row -/
def rg_hd (f : Nat → Int) (n : Nat) (g : Nat → Int) : Nat → Int := fun j => if j < n then g j else f j
theorem rg_hd_0 (f : Nat → Int) (g : Nat → Int) : f = rg_hd f 0 g := by
  funext j; unfold rg_hd; rw [if_neg (by omega)]
theorem rg_hd_s (f : Nat → Int) (n : Nat) (g : Nat → Int) {v : Int} (hv : v = g n) : rg_up (rg_hd f n g) n v = rg_hd f (n + 1) g := by
  subst hv
  funext j; unfold rg_up rg_hd
  by_cases h : j = n
  · subst h; rw [if_pos rfl, if_pos (by omega)]
  · rw [if_neg h]
    by_cases h1 : j < n
    · rw [if_pos h1, if_pos (by omega)]
    · rw [if_neg h1, if_neg (by omega)]
theorem rg_hd_at (f : Nat → Int) {n j : Nat} (g : Nat → Int) (h : j < n) : rg_hd f n g j = g j := if_pos h
theorem rg_hd_out (f : Nat → Int) {n j : Nat} (g : Nat → Int) (h : n ≤ j) : rg_hd f n g j = f j := if_neg (by omega)
theorem rg_hd_hd (f : Nat → Int) (n : Nat) (g g' : Nat → Int) : rg_hd (rg_hd f n g) n g' = rg_hd f n g' := by
  funext j; unfold rg_hd; by_cases h : j < n <;> simp [h]
theorem rg_hd_congr (f : Nat → Int) {n : Nat} {g g' : Nat → Int} (h : ∀ b, b < n → g b = g' b) : rg_hd f n g = rg_hd f n g' := by
  funext j; unfold rg_hd
  by_cases h1 : j < n
  · rw [if_pos h1, if_pos h1]; exact h _ h1
  · rw [if_neg h1, if_neg h1]
/-! decisions laid over entries, one behind the other -/
def rg_app (dc ro g f : Nat → Int) : Nat → (Nat → Int)
  | 0 => f
  | d + 1 => if ro d = 0 then rg_up (rg_app dc ro g f d) (dc d).toNat (g d) else rg_app dc ro g f d
/-! how many boats have a place, and a lower one -/
noncomputable def rg_wp (en ar : Nat → Int) (r nb : Nat) : Nat → Int := fun p => ((rg_cnt (fun b => en (r * 40 + b) = 0 ∧ ar (r * 40 + b) = (p : Int)) nb : Nat) : Int)
theorem rg_wp_0 (en ar : Nat → Int) (r : Nat) : (fun _ => (0 : Int)) = rg_wp en ar r 0 := rfl
theorem rg_wp_t {en ar : Nat → Int} {r b : Nat} (h : en (r * 40 + b) = 0) (ha : 0 ≤ ar (r * 40 + b)) : rg_up (rg_wp en ar r b) (ar (r * 40 + b)).toNat (rg_wp en ar r b (ar (r * 40 + b)).toNat + 1) = rg_wp en ar r (b + 1) := by
  funext p
  unfold rg_up
  by_cases z : p = (ar (r * 40 + b)).toNat
  · rw [if_pos z]
    subst z
    unfold rg_wp
    rw [rg_cnt_t ⟨h, by omega⟩]
    omega
  · rw [if_neg z]
    unfold rg_wp
    rw [rg_cnt_f (by rintro ⟨-, q⟩; omega)]
theorem rg_wp_f {en ar : Nat → Int} {r b : Nat} (h : ¬ en (r * 40 + b) = 0) : rg_wp en ar r b = rg_wp en ar r (b + 1) := by
  funext p
  unfold rg_wp
  rw [rg_cnt_f (fun q => h q.1)]
def rg_wl (f wp : Nat → Int) (n : Nat) : Nat → Int := rg_hd f n (rg_sum wp)
theorem rg_wl_1 {f wp : Nat → Int} (h : f 0 = 0) : f = rg_wl f wp 1 := by
  funext j; unfold rg_wl rg_hd
  by_cases z : j < 1
  · have : j = 0 := by omega
    subst this
    rw [if_pos z, h]; rfl
  · rw [if_neg z]
theorem rg_wl_s (f wp : Nat → Int) {n : Nat} (hn : 0 < n) {v : Int} (hv : v = rg_wl f wp n (n - 1) + wp (n - 1)) : rg_up (rg_wl f wp n) n v = rg_wl f wp (n + 1) := by
  refine rg_hd_s f n (rg_sum wp) (hv.trans ?_)
  unfold rg_wl
  rw [rg_hd_at _ _ (by omega)]
  obtain ⟨m, rfl⟩ : ∃ m, n = m + 1 := ⟨n - 1, by omega⟩
  rfl
