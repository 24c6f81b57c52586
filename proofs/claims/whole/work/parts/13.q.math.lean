/-! What stands in a boat's row. -/
theorem rg_cnt_sh (q : Nat → Prop) (n : Nat) : rg_cnt q (n + 1) = rg_cnt (fun i => q (i + 1)) n + rg_cnt q 1 := by
  induction n with
  | zero => exact (Nat.zero_add _).symm
  | succ n ih =>
    by_cases z : q (n + 1)
    · rw [rg_cnt_t z, ih, rg_cnt_t (p := fun i => q (i + 1)) z]; omega
    · rw [rg_cnt_f z, ih, rg_cnt_f (p := fun i => q (i + 1)) z]
theorem rg_cnt_rev (q : Nat → Prop) (n : Nat) : rg_cnt (fun i => q (n - 1 - i)) n = rg_cnt q n := by
  induction n with
  | zero => rfl
  | succ n ih =>
    rw [rg_cnt_sh]
    have e : rg_cnt (fun i => q (n + 1 - 1 - (i + 1))) n = rg_cnt (fun i => q (n - 1 - i)) n := rg_cnt_congr (fun i hi => by rw [show n + 1 - 1 - (i + 1) = n - 1 - i by omega])
    rw [e, ih]
    by_cases z : q n
    · rw [rg_cnt_t (n := 0) (p := fun i => q (n + 1 - 1 - i)) z, rg_cnt_t z, rg_cnt_0]
    · rw [rg_cnt_f (n := 0) (p := fun i => q (n + 1 - 1 - i)) z, rg_cnt_f z, rg_cnt_0]; rfl
theorem rg_cnt_cut {p : Nat → Prop} {n c : Nat} (hc : c ≤ n) (h : ∀ i, c ≤ i → i < n → ¬ p i) : rg_cnt p n = rg_cnt p c := by
  induction n with
  | zero => rw [show c = 0 by omega]
  | succ n ih =>
    by_cases z : c = n + 1
    · rw [z]
    · rw [rg_cnt_f (h n (by omega) (by omega))]
      exact ih (by omega) (fun i h1 h2 => h i h1 (by omega))
theorem rg_cnt_le2 (p : Nat → Prop) {n c : Nat} (hc : c ≤ n) : rg_cnt p c ≤ rg_cnt p n := by
  induction n with
  | zero => rw [show c = 0 by omega]; exact Nat.le_refl _
  | succ n ih =>
    by_cases z : c = n + 1
    · rw [z]; exact Nat.le_refl _
    · have i := ih (by omega)
      by_cases y : p n
      · rw [rg_cnt_t y]; omega
      · rw [rg_cnt_f y]; exact i
/-- the number in front of a counted place tells it -/
theorem rg_cnt_ex {p : Nat → Prop} {n k : Nat} (h : k < rg_cnt p n) : ∃ i, i < n ∧ p i ∧ rg_cnt p i = k := by
  induction n with
  | zero => rw [rg_cnt_0] at h; omega
  | succ n ih =>
    by_cases z : p n
    · by_cases y : k < rg_cnt p n
      · obtain ⟨i, h1, h2⟩ := ih y; exact ⟨i, by omega, h2⟩
      · rw [rg_cnt_t z] at h; exact ⟨n, by omega, z, by omega⟩
    · rw [rg_cnt_f z] at h
      obtain ⟨i, h1, h2⟩ := ih h; exact ⟨i, by omega, h2⟩
theorem rg_ins_out {lo : Nat} {v : Int} : ∀ (k : Nat) (g : Nat → Int) (j : Nat), (j < lo ∨ lo + k < j) → rg_ins lo v k g j = g j := by
  intro k
  induction k with
  | zero => intro g j h; rw [rg_ins, rg_up_ne _ _ (by omega)]
  | succ k ih =>
    intro g j h
    rw [rg_ins]
    split
    · rw [ih _ j (by omega), rg_up_ne _ _ (by omega)]
    · rw [rg_up_ne _ _ (by omega)]
theorem rg_ins_cnt {lo : Nat} {v : Int} (w : Int) : ∀ (k : Nat) (g : Nat → Int), rg_cnt (fun i => rg_ins lo v k g (lo + i) = w) (k + 1) = rg_cnt (fun i => g (lo + i) = w) k + (if v = w then 1 else 0) := by
  intro k
  induction k with
  | zero =>
    intro g
    have e : rg_ins lo v 0 g (lo + 0) = v := by rw [rg_ins]; exact rg_up_same _ _ _
    by_cases z : v = w
    · rw [rg_cnt_t (p := fun i => rg_ins lo v 0 g (lo + i) = w) (e.trans z), if_pos z]; rfl
    · rw [rg_cnt_f (p := fun i => rg_ins lo v 0 g (lo + i) = w) (fun q => z (e.symm.trans q)), if_neg z]; rfl
  | succ k ih =>
    intro g
    have ht : ∀ {p : Nat → Prop} {n : Nat}, rg_cnt p (n + 1) = rg_cnt p n + (@ite Nat (p n) (Classical.propDecidable _) 1 0) := by
      intro p n
      by_cases y : p n
      · rw [rg_cnt_t y, if_pos y]
      · rw [rg_cnt_f y, if_neg y]; rfl
    by_cases z : v < g (lo + k)
    · have e : rg_ins lo v (k + 1) g = rg_ins lo v k (rg_up g (lo + k + 1) (g (lo + k))) := by rw [rg_ins, if_pos z]
      rw [e, ht, ih, ht (p := fun i => g (lo + i) = w)]
      have e1 : rg_ins lo v k (rg_up g (lo + k + 1) (g (lo + k))) (lo + (k + 1)) = g (lo + k) := by
        rw [rg_ins_out k _ _ (by omega)]; exact rg_up_same _ _ _
      have e2 : rg_cnt (fun i => rg_up g (lo + k + 1) (g (lo + k)) (lo + i) = w) k = rg_cnt (fun i => g (lo + i) = w) k := rg_cnt_congr (fun i hi => by rw [rg_up_ne _ _ (by omega)])
      rw [e1, e2]; omega
    · have e : rg_ins lo v (k + 1) g = rg_up g (lo + k + 1) v := by rw [rg_ins, if_neg z]
      have e1 : rg_up g (lo + k + 1) v (lo + (k + 1)) = v := rg_up_same _ _ _
      have e2 : rg_cnt (fun i => rg_up g (lo + k + 1) v (lo + i) = w) (k + 1) = rg_cnt (fun i => g (lo + i) = w) (k + 1) := rg_cnt_congr (fun i hi => by rw [rg_up_ne _ _ (by omega)])
      rw [e, ht, e1, e2]
      by_cases y : v = w
      · rw [if_pos y, if_pos y]
      · rw [if_neg y, if_neg y]
theorem rg_ins_le {lo : Nat} {v M : Int} (hv : v ≤ M) : ∀ (k : Nat) (g : Nat → Int), (∀ i, i < k → g (lo + i) ≤ M) → ∀ i, i < k + 1 → rg_ins lo v k g (lo + i) ≤ M := by
  intro k
  induction k with
  | zero => intro g _ i hi; rw [show i = 0 by omega, rg_ins]; show rg_up g lo v lo ≤ M; rw [rg_up_same]; exact hv
  | succ k ih =>
    intro g h i hi
    rw [rg_ins]
    split
    · by_cases z : i = k + 1
      · rw [z, rg_ins_out k _ _ (by omega)]
        show rg_up g (lo + k + 1) (g (lo + k)) (lo + k + 1) ≤ M
        rw [rg_up_same]; exact h k (by omega)
      · exact ih _ (fun j hj => by rw [rg_up_ne _ _ (by omega)]; exact h j (by omega)) i (by omega)
    · by_cases z : i = k + 1
      · rw [z]; show rg_up g (lo + k + 1) v (lo + k + 1) ≤ M; rw [rg_up_same]; exact hv
      · rw [rg_up_ne _ _ (by omega)]; exact h i (by omega)
/-- k places behind lo stand in order -/
def rg_srt (lo k : Nat) (g : Nat → Int) : Prop := ∀ i j, i < j → j < k → g (lo + i) ≤ g (lo + j)
theorem rg_ins_so {lo : Nat} {v : Int} : ∀ (k : Nat) (g : Nat → Int), rg_srt lo k g → rg_srt lo (k + 1) (rg_ins lo v k g) := by
  intro k
  induction k with
  | zero => intro g _ i j h1 h2; omega
  | succ k ih =>
    intro g h i j h1 h2
    rw [rg_ins]
    split
    · next z =>
      have hs : rg_srt lo k (rg_up g (lo + k + 1) (g (lo + k))) := fun i j h1 h2 => by rw [rg_up_ne _ _ (by omega), rg_up_ne _ _ (by omega)]; exact h i j h1 (by omega)
      by_cases y : j = k + 1
      · rw [y, rg_ins_out k _ (lo + (k + 1)) (by omega)]
        show _ ≤ rg_up g (lo + k + 1) (g (lo + k)) (lo + k + 1)
        rw [rg_up_same]
        exact rg_ins_le (by omega) k _ (fun x hx => by rw [rg_up_ne _ _ (by omega)]; exact h x k hx (by omega)) i (by omega)
      · exact ih _ hs i j h1 (by omega)
    · next z =>
      by_cases y : j = k + 1
      · rw [y, rg_up_ne _ _ (show lo + i ≠ lo + k + 1 by omega)]
        show _ ≤ rg_up g (lo + k + 1) v (lo + k + 1)
        rw [rg_up_same]
        by_cases x : i = k
        · rw [x]; omega
        · have := h i k (by omega) (by omega); omega
      · rw [rg_up_ne _ _ (by omega), rg_up_ne _ _ (by omega)]; exact h i j h1 (by omega)
/-- a row behind m races -/
def rg_fi (p : Nat → Prop) (d S g0 : Nat → Int) (nr m : Nat) (f : Nat → Int) : Prop :=
  (f 0 = g0 0 ∧ f 1 = g0 1 ∧ f 34 = g0 34 ∧ f 35 = g0 35) ∧
  (rg_srt 2 (rg_cnt (fun i => p (nr - 1 - i) ∧ d (nr - 1 - i) = 0) m) f ∧ (∀ i, rg_cnt (fun i => p (nr - 1 - i) ∧ d (nr - 1 - i) = 0) m ≤ i → i < 16 → f (2 + i) = 1000000) ∧ (∀ i, i < 16 → f (2 + i) ≤ 1000000) ∧
    ∀ w, rg_cnt (fun i => f (2 + i) = w) (rg_cnt (fun i => p (nr - 1 - i) ∧ d (nr - 1 - i) = 0) m) = rg_cnt (fun i => (p (nr - 1 - i) ∧ d (nr - 1 - i) = 0) ∧ S (nr - 1 - i) = w) m) ∧
  (∀ i, rg_cnt (fun i => p (nr - 1 - i)) m ≤ i → i < 16 → f (18 + i) = 1000000) ∧ (∀ i, i < m → p (nr - 1 - i) → f (18 + rg_cnt (fun i => p (nr - 1 - i)) i) = S (nr - 1 - i))
theorem rg_fi_0 {p : Nat → Prop} {d S g0 : Nat → Int} {nr : Nat} (h : ∀ j, 2 ≤ j → j < 34 → g0 j = 1000000) : rg_fi p d S g0 nr 0 g0 := by
  refine ⟨⟨rfl, rfl, rfl, rfl⟩, ⟨fun i j _ h2 => absurd h2 (Nat.not_lt_zero _), fun i _ hi => h _ (by omega) (by omega), fun i hi => by rw [h _ (by omega) (by omega)]; omega, fun w => rfl⟩, fun i _ hi => h _ (by omega) (by omega), fun i hi => absurd hi (Nat.not_lt_zero _)⟩
theorem rg_fi_p {p : Nat → Prop} {d S g0 f : Nat → Int} {nr m : Nat} (h : rg_fi p d S g0 nr m f) (hm : m < 16) (hp : p (nr - 1 - m)) (hd : ¬ d (nr - 1 - m) = 0) : rg_fi p d S g0 nr (m + 1) (rg_up f (18 + rg_cnt (fun i => p (nr - 1 - i)) m) (S (nr - 1 - m))) := by
  have c1 := rg_cnt_le (fun i => p (nr - 1 - i)) m
  have c2 := rg_cnt_le (fun i => p (nr - 1 - i) ∧ d (nr - 1 - i) = 0) m
  obtain ⟨⟨h0, h1, h34, h35⟩, ⟨s1, s2, s3, s4⟩, t1, t2⟩ := h
  have e2 : rg_cnt (fun i => p (nr - 1 - i) ∧ d (nr - 1 - i) = 0) (m + 1) = rg_cnt (fun i => p (nr - 1 - i) ∧ d (nr - 1 - i) = 0) m := rg_cnt_f (fun q => hd q.2)
  have e1 : rg_cnt (fun i => p (nr - 1 - i)) (m + 1) = rg_cnt (fun i => p (nr - 1 - i)) m + 1 := rg_cnt_t (p := fun i => p (nr - 1 - i)) hp
  refine ⟨⟨by rw [rg_up_ne _ _ (by omega)]; exact h0, by rw [rg_up_ne _ _ (by omega)]; exact h1, by rw [rg_up_ne _ _ (by omega)]; exact h34, by rw [rg_up_ne _ _ (by omega)]; exact h35⟩, ?_, ?_, ?_⟩
  · rw [e2]
    refine ⟨fun i j q1 q2 => by rw [rg_up_ne _ _ (by omega), rg_up_ne _ _ (by omega)]; exact s1 i j q1 q2, fun i q1 q2 => by rw [rg_up_ne _ _ (by omega)]; exact s2 i q1 q2, fun i q => by rw [rg_up_ne _ _ (by omega)]; exact s3 i q, fun w => ?_⟩
    rw [rg_cnt_f (p := fun i => (p (nr - 1 - i) ∧ d (nr - 1 - i) = 0) ∧ S (nr - 1 - i) = w) (fun q => hd q.1.2), ← s4 w]
    exact rg_cnt_congr (fun i hi => by rw [rg_up_ne _ _ (by omega)])
  · intro i q1 q2
    rw [e1] at q1
    rw [rg_up_ne _ _ (by omega)]; exact t1 i (by omega) q2
  · intro i q1 q2
    by_cases z : i = m
    · rw [z, rg_up_same]
    · have c3 : rg_cnt (fun i => p (nr - 1 - i)) i + 1 ≤ rg_cnt (fun i => p (nr - 1 - i)) m := by
        rw [← rg_cnt_t (p := fun i => p (nr - 1 - i)) q2]; exact rg_cnt_le2 _ (by omega)
      rw [rg_up_ne _ _ (by omega)]; exact t2 i (by omega) q2
theorem rg_fi_d {p : Nat → Prop} {d S g0 f : Nat → Int} {nr m : Nat} (h : rg_fi p d S g0 nr m f) (hm : m < 16) (hp : p (nr - 1 - m)) (hd : d (nr - 1 - m) = 0) (hS : S (nr - 1 - m) ≤ 1000000) : rg_fi p d S g0 nr (m + 1) (rg_ins 2 (S (nr - 1 - m)) (rg_cnt (fun i => p (nr - 1 - i) ∧ d (nr - 1 - i) = 0) m) (rg_up f (18 + rg_cnt (fun i => p (nr - 1 - i)) m) (S (nr - 1 - m)))) := by
  have c1 := rg_cnt_le (fun i => p (nr - 1 - i)) m
  have c2 := rg_cnt_le (fun i => p (nr - 1 - i) ∧ d (nr - 1 - i) = 0) m
  obtain ⟨⟨h0, h1, h34, h35⟩, ⟨s1, s2, s3, s4⟩, t1, t2⟩ := h
  have e2 : rg_cnt (fun i => p (nr - 1 - i) ∧ d (nr - 1 - i) = 0) (m + 1) = rg_cnt (fun i => p (nr - 1 - i) ∧ d (nr - 1 - i) = 0) m + 1 := rg_cnt_t (p := fun i => p (nr - 1 - i) ∧ d (nr - 1 - i) = 0) ⟨hp, hd⟩
  have e1 : rg_cnt (fun i => p (nr - 1 - i)) (m + 1) = rg_cnt (fun i => p (nr - 1 - i)) m + 1 := rg_cnt_t (p := fun i => p (nr - 1 - i)) hp
  have hso : rg_srt 2 (rg_cnt (fun i => p (nr - 1 - i) ∧ d (nr - 1 - i) = 0) m) (rg_up f (18 + rg_cnt (fun i => p (nr - 1 - i)) m) (S (nr - 1 - m))) := fun i j q1 q2 => by rw [rg_up_ne _ _ (by omega), rg_up_ne _ _ (by omega)]; exact s1 i j q1 q2
  refine ⟨⟨?_, ?_, ?_, ?_⟩, ?_, ?_, ?_⟩
  · rw [rg_ins_out _ _ _ (by omega), rg_up_ne _ _ (by omega)]; exact h0
  · rw [rg_ins_out _ _ _ (by omega), rg_up_ne _ _ (by omega)]; exact h1
  · rw [rg_ins_out _ _ _ (by omega), rg_up_ne _ _ (by omega)]; exact h34
  · rw [rg_ins_out _ _ _ (by omega), rg_up_ne _ _ (by omega)]; exact h35
  · rw [e2]
    refine ⟨rg_ins_so _ _ hso, fun i q1 q2 => ?_, fun i q => ?_, fun w => ?_⟩
    · rw [rg_ins_out _ _ _ (by omega), rg_up_ne _ _ (by omega)]; exact s2 i (by omega) q2
    · by_cases z : i < rg_cnt (fun i => p (nr - 1 - i) ∧ d (nr - 1 - i) = 0) m + 1
      · exact rg_ins_le hS _ _ (fun j hj => by rw [rg_up_ne _ _ (by omega)]; exact s3 j (by omega)) i z
      · rw [rg_ins_out _ _ _ (by omega), rg_up_ne _ _ (by omega)]; exact s3 i q
    · rw [rg_ins_cnt w]
      have e3 : rg_cnt (fun i => rg_up f (18 + rg_cnt (fun i => p (nr - 1 - i)) m) (S (nr - 1 - m)) (2 + i) = w) (rg_cnt (fun i => p (nr - 1 - i) ∧ d (nr - 1 - i) = 0) m) = rg_cnt (fun i => f (2 + i) = w) (rg_cnt (fun i => p (nr - 1 - i) ∧ d (nr - 1 - i) = 0) m) := rg_cnt_congr (fun i hi => by rw [rg_up_ne _ _ (by omega)])
      rw [e3, s4 w]
      by_cases z : S (nr - 1 - m) = w
      · rw [if_pos z, rg_cnt_t (p := fun i => (p (nr - 1 - i) ∧ d (nr - 1 - i) = 0) ∧ S (nr - 1 - i) = w) ⟨⟨hp, hd⟩, z⟩]
      · rw [if_neg z, rg_cnt_f (p := fun i => (p (nr - 1 - i) ∧ d (nr - 1 - i) = 0) ∧ S (nr - 1 - i) = w) (fun q => z q.2)]; rfl
  · intro i q1 q2
    rw [e1] at q1
    rw [rg_ins_out _ _ _ (by omega), rg_up_ne _ _ (by omega)]; exact t1 i (by omega) q2
  · intro i q1 q2
    rw [rg_ins_out _ _ _ (by omega)]
    by_cases z : i = m
    · rw [z, rg_up_same]
    · have c3 : rg_cnt (fun i => p (nr - 1 - i)) i + 1 ≤ rg_cnt (fun i => p (nr - 1 - i)) m := by
        rw [← rg_cnt_t (p := fun i => p (nr - 1 - i)) q2]; exact rg_cnt_le2 _ (by omega)
      rw [rg_up_ne _ _ (by omega)]; exact t2 i (by omega) q2
theorem rg_fi_n {p : Nat → Prop} {d S g0 f : Nat → Int} {nr m : Nat} (h : rg_fi p d S g0 nr m f) (hp : ¬ p (nr - 1 - m)) : rg_fi p d S g0 nr (m + 1) f := by
  obtain ⟨h0, ⟨s1, s2, s3, s4⟩, t1, t2⟩ := h
  have e2 : rg_cnt (fun i => p (nr - 1 - i) ∧ d (nr - 1 - i) = 0) (m + 1) = rg_cnt (fun i => p (nr - 1 - i) ∧ d (nr - 1 - i) = 0) m := rg_cnt_f (fun q => hp q.1)
  have e1 : rg_cnt (fun i => p (nr - 1 - i)) (m + 1) = rg_cnt (fun i => p (nr - 1 - i)) m := rg_cnt_f (p := fun i => p (nr - 1 - i)) hp
  refine ⟨h0, ?_, ?_, ?_⟩
  · rw [e2]
    refine ⟨s1, s2, s3, fun w => ?_⟩
    rw [s4 w, rg_cnt_f (p := fun i => (p (nr - 1 - i) ∧ d (nr - 1 - i) = 0) ∧ S (nr - 1 - i) = w) (fun q => hp q.1.1)]
  · rw [e1]; exact t1
  · intro i q1 q2
    by_cases z : i = m
    · rw [z] at q2; exact absurd q2 hp
    · exact t2 i (by omega) q2
theorem rg_fi_all {p : Nat → Prop} {d S g0 : Nat → Int} {nr : Nat} (h : ∀ j, 2 ≤ j → j < 34 → g0 j = 1000000) (hnr : nr ≤ 16) (hS : ∀ o, o < nr → p o → S o ≤ 1000000) : ∀ m, m ≤ nr → rg_fi p d S g0 nr m (rg_fw p d S g0 nr m) := by
  intro m
  induction m with
  | zero => intro _; exact rg_fi_0 h
  | succ m ih =>
    intro hm
    have i := ih (by omega)
    rw [rg_fw]
    by_cases z : p (nr - 1 - m)
    · rw [rg_itf_t z]
      by_cases y : d (nr - 1 - m) = 0
      · rw [rg_itf_t y]; exact rg_fi_d i (by omega) z y (hS _ (by omega) z)
      · rw [rg_itf_f y]; exact rg_fi_p i (by omega) z y
    · rw [rg_itf_f z]; exact rg_fi_n i z
