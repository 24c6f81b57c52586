/-! Words for the ranking: one row of 36 numbers a boat. -/
def rg_rw (f : Nat → Int) (b : Nat) (g : Nat → Int) : Nat → Int := fun j => if j / 36 = b then g (j % 36) else f j
theorem rg_rw_up (f : Nat → Int) (b : Nat) (g : Nat → Int) {c i : Nat} (v : Int) (hc : c < 36) (hi : i = b * 36 + c) : rg_up (rg_rw f b g) i v = rg_rw f b (rg_up g c v) := by
  subst hi
  funext j
  by_cases z : j = b * 36 + c
  · have h1 : (b * 36 + c) / 36 = b := by omega
    have h2 : (b * 36 + c) % 36 = c := by omega
    rw [z, rg_up_same]
    unfold rg_rw
    rw [if_pos h1, h2, rg_up_same]
  · rw [rg_up_ne _ _ z]
    unfold rg_rw
    by_cases y : j / 36 = b
    · rw [if_pos y, if_pos y, rg_up_ne _ _ (by omega)]
    · rw [if_neg y, if_neg y]
theorem rg_rw_at (f : Nat → Int) (b : Nat) (g : Nat → Int) {c : Nat} (hc : c < 36) : rg_rw f b g (b * 36 + c) = g c := by
  have h1 : (b * 36 + c) / 36 = b := by omega
  have h2 : (b * 36 + c) % 36 = c := by omega
  unfold rg_rw
  rw [if_pos h1, h2]
theorem rg_fr0 {f : Nat → Int} {b : Nat} (h : ∀ c, c < 36 → f (b * 36 + c) = 1000000) {x0 x1 x34 x35 y34 : Int} (hy : x34 = y34) : rg_up (rg_up (rg_up (rg_up f (b * 36 + 0) x0) (b * 36 + 1) x1) (b * 36 + 34) x34) (b * 36 + 35) x35 = rg_rw f b (rg_up (rg_up (rg_up (rg_up (fun _ => 1000000) 0 x0) 1 x1) 34 y34) 35 x35) := by
  subst hy
  have h0 : f = rg_rw f b (fun _ => 1000000) := by
    funext j; unfold rg_rw
    by_cases z : j / 36 = b
    · rw [if_pos z]
      have := h (j % 36) (by omega)
      rw [show b * 36 + j % 36 = j by omega] at this
      exact this
    · rw [if_neg z]
  rw [← rg_rw_up f b _ x35 (c := 35) (i := b * 36 + 35) (by omega) rfl, ← rg_rw_up f b _ x34 (c := 34) (i := b * 36 + 34) (by omega) rfl, ← rg_rw_up f b _ x1 (c := 1) (i := b * 36 + 1) (by omega) rfl, ← rg_rw_up f b _ x0 (c := 0) (i := b * 36 + 0) (by omega) rfl, ← h0]
/-- a number put into its place among the k places behind lo, the greater ones one further -/
def rg_ins (lo : Nat) (v : Int) : Nat → (Nat → Int) → (Nat → Int)
  | 0, g => rg_up g lo v
  | i + 1, g => if v < g (lo + i) then rg_ins lo v i (rg_up g (lo + i + 1) (g (lo + i))) else rg_up g (lo + i + 1) v
theorem rg_ins_s {lo x : Nat} {v : Int} {g : Nat → Int} (h : lo < x) (hc : v < g (x - 1)) : rg_ins lo v (x - lo) g = rg_ins lo v (x - 1 - lo) (rg_up g x (g (x - 1))) := by
  obtain ⟨i, rfl⟩ : ∃ i, x = lo + i + 1 := ⟨x - lo - 1, by omega⟩
  rw [show lo + i + 1 - lo = i + 1 by omega, show lo + i + 1 - 1 - lo = i by omega, show lo + i + 1 - 1 = lo + i by omega] at *
  rw [rg_ins, if_pos hc]
theorem rg_ins_e {lo x : Nat} {v : Int} {g : Nat → Int} (h : lo ≤ x) (hc : x ≤ lo ∨ g (x - 1) ≤ v) : rg_up g x v = rg_ins lo v (x - lo) g := by
  by_cases z : x = lo
  · subst z; rw [Nat.sub_self, rg_ins]
  · obtain ⟨i, rfl⟩ : ∃ i, x = lo + i + 1 := ⟨x - lo - 1, by omega⟩
    have h1 : g (lo + i) ≤ v := by
      rcases hc with hc | hc
      · omega
      · rw [show lo + i + 1 - 1 = lo + i by omega] at hc; exact hc
    rw [show lo + i + 1 - lo = i + 1 by omega, rg_ins, if_neg (by omega)]
theorem rg_ins_rw (f : Nat → Int) (b lo : Nat) (v : Int) : ∀ (k : Nat) (g : Nat → Int), lo + k < 36 → rg_ins (b * 36 + lo) v k (rg_rw f b g) = rg_rw f b (rg_ins lo v k g) := by
  intro k
  induction k with
  | zero => intro g h; exact rg_rw_up f b g v (by omega) rfl
  | succ k ih =>
    intro g h
    rw [rg_ins, rg_ins, show b * 36 + lo + k = b * 36 + (lo + k) by omega, rg_rw_at _ _ _ (by omega)]
    by_cases z : v < g (lo + k)
    · rw [if_pos z, if_pos z, rg_rw_up f b g (c := lo + k + 1) (g (lo + k)) (by omega) (by omega)]
      exact ih _ (by omega)
    · rw [if_neg z, if_neg z]
      exact rg_rw_up f b g v (by omega) (by omega)
/-- a row, race by race from the last one back -/
noncomputable def rg_itf (p : Prop) (f g : Nat → Int) : Nat → Int := @ite (Nat → Int) p (Classical.propDecidable p) f g
theorem rg_itf_t {p : Prop} (h : p) (f g : Nat → Int) : rg_itf p f g = f := @if_pos p (Classical.propDecidable p) h (Nat → Int) f g
theorem rg_itf_f {p : Prop} (h : ¬ p) (f g : Nat → Int) : rg_itf p f g = g := @if_neg p (Classical.propDecidable p) h (Nat → Int) f g
noncomputable def rg_fw (p : Nat → Prop) (d S g0 : Nat → Int) (nr : Nat) : Nat → (Nat → Int)
  | 0 => g0
  | m + 1 => rg_itf (p (nr - 1 - m))
      (rg_itf (d (nr - 1 - m) = 0) (rg_ins 2 (S (nr - 1 - m)) (rg_cnt (fun i => p (nr - 1 - i) ∧ d (nr - 1 - i) = 0) m) (rg_up (rg_fw p d S g0 nr m) (18 + rg_cnt (fun i => p (nr - 1 - i)) m) (S (nr - 1 - m))))
        (rg_up (rg_fw p d S g0 nr m) (18 + rg_cnt (fun i => p (nr - 1 - i)) m) (S (nr - 1 - m))))
      (rg_fw p d S g0 nr m)
theorem rg_fw_1 {p : Nat → Prop} {d S g0 f : Nat → Int} {nr m b : Nat} (h : ¬ p (nr - 1 - m)) : rg_rw f b (rg_fw p d S g0 nr m) = rg_rw f b (rg_fw p d S g0 nr (m + 1)) := by
  rw [rg_fw, rg_itf_f h]
theorem rg_fw_2 {p : Nat → Prop} {d S g0 f : Nat → Int} {nr m b n i : Nat} {v : Int} (h : p (nr - 1 - m)) (hd : ¬ d (nr - 1 - m) = 0) (hn : n = rg_cnt (fun i => p (nr - 1 - i)) m) (hi : i = b * 36 + (18 + n)) (hm : m < 16) (hv : v = S (nr - 1 - m)) :
    rg_up (rg_rw f b (rg_fw p d S g0 nr m)) i v = rg_rw f b (rg_fw p d S g0 nr (m + 1)) := by
  have hc := rg_cnt_le (fun i => p (nr - 1 - i)) m
  rw [rg_fw, rg_itf_t h, rg_itf_f hd, ← hn, hv]
  exact rg_rw_up _ _ _ _ (by omega) hi
theorem rg_fw_3 {p : Nat → Prop} {d S g0 f : Nat → Int} {nr m b n k i lo : Nat} {v w : Int} (h : p (nr - 1 - m)) (hd : d (nr - 1 - m) = 0) (hn : n = rg_cnt (fun i => p (nr - 1 - i)) m) (hk : k = rg_cnt (fun i => p (nr - 1 - i) ∧ d (nr - 1 - i) = 0) m) (hi : i = b * 36 + (18 + n)) (hlo : lo = b * 36 + 2) (hm : m < 16) (hv : v = S (nr - 1 - m)) (hw : w = S (nr - 1 - m)) :
    rg_ins lo w k (rg_up (rg_rw f b (rg_fw p d S g0 nr m)) i v) = rg_rw f b (rg_fw p d S g0 nr (m + 1)) := by
  have hc := rg_cnt_le (fun i => p (nr - 1 - i)) m
  have hc2 := rg_cnt_le (fun i => p (nr - 1 - i) ∧ d (nr - 1 - i) = 0) m
  rw [rg_fw, rg_itf_t h, rg_itf_t hd, ← hn, ← hk, hv, hw, hlo, rg_rw_up f b _ (c := 18 + n) _ (by omega) hi]
  exact rg_ins_rw _ _ _ _ _ _ (by omega)
def rg_LT (x : Int) : Int := if x = 0 then 1000000 else x
theorem rg_LT_0 {x : Int} (h : x = 0) : (1000000 : Int) = rg_LT x := by unfold rg_LT; rw [if_pos h]
theorem rg_LT_n {x : Int} (h : ¬ x = 0) : x = rg_LT x := by unfold rg_LT; rw [if_neg h]
def rg_g0 (fl nt lt b : Int) : Nat → Int := rg_up (rg_up (rg_up (rg_up (fun _ => 1000000) 0 fl) 1 nt) 34 (rg_LT lt)) 35 b
theorem rg_fd_ex (g h : Nat → Int) (n : Nat) : ∃ c : Nat, c ≤ n ∧ (∀ i, i < c → g i = h i) ∧ (c < n → ¬ g c = h c) := by
  induction n with
  | zero => exact ⟨0, Nat.le_refl _, fun i hi => absurd hi (Nat.not_lt_zero i), fun hi => absurd hi (Nat.not_lt_zero _)⟩
  | succ n ih =>
    obtain ⟨c, i1, i2, i3⟩ := ih
    by_cases z : c < n
    · exact ⟨c, by omega, i2, fun _ => i3 z⟩
    · have e : c = n := by omega
      subst e
      by_cases y : g c = h c
      · refine ⟨c + 1, Nat.le_refl _, fun i hi => ?_, fun q => by omega⟩
        by_cases x : i = c
        · rw [x]; exact y
        · exact i2 i (by omega)
      · exact ⟨c, by omega, i2, fun _ => y⟩
/-- the first place below n at which two rows differ, or n -/
noncomputable def rg_fd (g h : Nat → Int) (n : Nat) : Nat := Classical.choose (rg_fd_ex g h n)
theorem rg_fd_spec (g h : Nat → Int) (n : Nat) : rg_fd g h n ≤ n ∧ (∀ i, i < rg_fd g h n → g i = h i) ∧ (rg_fd g h n < n → ¬ g (rg_fd g h n) = h (rg_fd g h n)) := Classical.choose_spec (rg_fd_ex g h n)
theorem rg_fd_is {g h : Nat → Int} {n c : Nat} (h1 : c ≤ n) (h2 : ∀ i, i < c → g i = h i) (h3 : c = n ∨ ¬ g c = h c) : c = rg_fd g h n := by
  obtain ⟨i1, i2, i3⟩ := rg_fd_spec g h n
  rcases Nat.lt_trichotomy c (rg_fd g h n) with z | z | z
  · rcases h3 with h3 | h3
    · omega
    · exact absurd (i2 c z) h3
  · exact z
  · exact absurd (h2 _ z) (i3 (by omega))
theorem rg_fd_congr {g g' h h' : Nat → Int} {n : Nat} (h1 : ∀ i, i < n → g i = g' i) (h2 : ∀ i, i < n → h i = h' i) : rg_fd g h n = rg_fd g' h' n := by
  obtain ⟨i1, i2, i3⟩ := rg_fd_spec g h n
  refine rg_fd_is i1 (fun i hi => ?_) ?_
  · rw [← h1 i (by omega), ← h2 i (by omega)]; exact i2 i hi
  · by_cases z : rg_fd g h n < n
    · refine Or.inr ?_
      rw [← h1 _ z, ← h2 _ z]; exact i3 z
    · exact Or.inl (by omega)
/-- one row before another -/
def rg_lt (g h : Nat → Int) : Prop := g (rg_fd g h 35) < h (rg_fd g h 35)
/-- a boat put into its place in the order, those behind it one further -/
noncomputable def rg_ino (lt : Int → Prop) (v : Int) : Nat → (Nat → Int) → (Nat → Int)
  | 0, g => rg_up g 0 v
  | x + 1, g => rg_itf (lt (g x)) (rg_ino lt v x (rg_up g (x + 1) (g x))) (rg_up g (x + 1) v)
theorem rg_ino_s {lt : Int → Prop} {v : Int} {x : Nat} {g : Nat → Int} (h : 0 < x) (hc : lt (g (x - 1))) : rg_ino lt v x g = rg_ino lt v (x - 1) (rg_up g x (g (x - 1))) := by
  obtain ⟨i, rfl⟩ : ∃ i, x = i + 1 := ⟨x - 1, by omega⟩
  rw [show i + 1 - 1 = i by omega] at *
  rw [rg_ino, rg_itf_t hc]
theorem rg_ino_e {lt : Int → Prop} {v : Int} {x : Nat} {g : Nat → Int} (hc : x = 0 ∨ ¬ lt (g (x - 1))) : rg_up g x v = rg_ino lt v x g := by
  by_cases z : x = 0
  · subst z; rw [rg_ino]
  · obtain ⟨i, rfl⟩ : ∃ i, x = i + 1 := ⟨x - 1, by omega⟩
    have h1 := hc.resolve_left z
    rw [show i + 1 - 1 = i by omega] at h1
    rw [rg_ino, rg_itf_f h1]
theorem rg_up_all {P : Int → Prop} {g : Nat → Int} (h : ∀ j, P (g j)) (i : Nat) {v : Int} (hv : P v) (j : Nat) : P (rg_up g i v j) := by
  unfold rg_up; split
  · exact hv
  · exact h j
def rg_ps (c : Nat) : Int := if c < 2 then 0 else if c < 18 then 1 else if c < 34 then 2 else if c = 34 then 3 else 4
theorem rg_rw_Rg {f g : Nat → Int} {b : Nat} (h1 : ∀ j, rg_Rg (f j)) (h2 : ∀ c, rg_Rg (g c)) (j : Nat) : rg_Rg (rg_rw f b g j) := by
  unfold rg_rw; split
  · exact h2 _
  · exact h1 _
theorem rg_ins_all {P : Int → Prop} {lo : Nat} {v : Int} (hv : P v) : ∀ (k : Nat) (g : Nat → Int), (∀ j, P (g j)) → ∀ j, P (rg_ins lo v k g j) := by
  intro k
  induction k with
  | zero => intro g h; exact rg_up_all h _ hv
  | succ k ih =>
    intro g h
    rw [rg_ins]
    split
    · exact ih _ (rg_up_all h _ (h _))
    · exact rg_up_all h _ hv
theorem rg_fw_all {P : Int → Prop} {p : Nat → Prop} {d S g0 : Nat → Int} {nr : Nat} (h0 : ∀ c, P (g0 c)) : ∀ (m : Nat), (∀ o, o < nr → p o → P (S o)) → m ≤ nr → ∀ c, P (rg_fw p d S g0 nr m c) := by
  intro m
  induction m with
  | zero => intro _ _; exact h0
  | succ m ih =>
    intro hS hm
    have ih := ih hS (by omega)
    rw [rg_fw]
    rcases Classical.em (p (nr - 1 - m)) with z | z
    · have hs := hS _ (by omega) z
      rw [rg_itf_t z]
      rcases Classical.em (d (nr - 1 - m) = 0) with y | y
      · rw [rg_itf_t y]; exact rg_ins_all hs _ _ (rg_up_all ih _ hs)
      · rw [rg_itf_f y]; exact rg_up_all ih _ hs
    · rw [rg_itf_f z]; exact ih
theorem rg_fw_Rg {p : Nat → Prop} {d S g0 : Nat → Int} (h0 : ∀ c, rg_Rg (g0 c)) (hS : ∀ o, rg_Rg (S o)) (nr m : Nat) : ∀ c, rg_Rg (rg_fw p d S g0 nr m c) := by
  induction m with
  | zero => exact h0
  | succ m ih =>
    rw [rg_fw]
    rcases Classical.em (p (nr - 1 - m)) with z | z
    · rw [rg_itf_t z]
      rcases Classical.em (d (nr - 1 - m) = 0) with y | y
      · rw [rg_itf_t y]; exact rg_ins_all (hS _) _ _ (rg_up_all ih _ (hS _))
      · rw [rg_itf_f y]; exact rg_up_all ih _ (hS _)
    · rw [rg_itf_f z]; exact ih
theorem rg_g0_Rg {fl nt lt b : Int} (h1 : rg_Rg fl) (h2 : rg_Rg nt) (h3 : rg_Rg lt) (h4 : rg_Rg b) (c : Nat) : rg_Rg (rg_g0 fl nt lt b c) := by
  unfold rg_g0
  refine rg_up_all (P := rg_Rg) (rg_up_all (P := rg_Rg) (rg_up_all (P := rg_Rg) (rg_up_all (P := rg_Rg) (fun _ => ⟨by omega, by omega⟩) _ h1) _ h2) _ ?_) _ h4 c
  unfold rg_LT; split
  · exact ⟨by omega, by omega⟩
  · exact h3
