/-! The order and the ranks out of it. -/
theorem rg_lt_at {g h : Nat → Int} {c : Nat} (hc : c ≤ 35) (he : ∀ i, i < c → g i = h i) (hn : ¬ g c = h c) : rg_lt g h ↔ g c < h c := by
  have e : c = rg_fd g h 35 := rg_fd_is hc he (Or.inr hn)
  unfold rg_lt; rw [← e]
theorem rg_lt_tr {f g h : Nat → Int} (h1 : rg_lt f g) (h2 : rg_lt g h) : rg_lt f h := by
  obtain ⟨a1, a2, -⟩ := rg_fd_spec f g 35
  obtain ⟨b1, b2, -⟩ := rg_fd_spec g h 35
  unfold rg_lt at h1 h2
  rcases Nat.lt_trichotomy (rg_fd f g 35) (rg_fd g h 35) with z | z | z
  · have e := b2 _ z
    exact (rg_lt_at a1 (fun i hi => (a2 i hi).trans (b2 i (by omega))) (by omega)).mpr (by omega)
  · rw [← z] at h2 b2
    exact (rg_lt_at a1 (fun i hi => (a2 i hi).trans (b2 i hi)) (by omega)).mpr (by omega)
  · have e := a2 _ z
    exact (rg_lt_at b1 (fun i hi => (a2 i (by omega)).trans (b2 i hi)) (by omega)).mpr (by omega)
theorem rg_lt_ir (g : Nat → Int) : ¬ rg_lt g g := fun h => by unfold rg_lt at h; omega
theorem rg_lt_to {g h : Nat → Int} (h35 : ¬ g 35 = h 35) : rg_lt g h ∨ rg_lt h g := by
  obtain ⟨a1, a2, a3⟩ := rg_fd_spec g h 35
  have hn : ¬ g (rg_fd g h 35) = h (rg_fd g h 35) := by
    by_cases z : rg_fd g h 35 < 35
    · exact a3 z
    · rw [show rg_fd g h 35 = 35 by omega]; exact h35
  rcases Int.lt_or_gt_of_ne hn with y | y
  · exact Or.inl y
  · exact Or.inr ((rg_lt_at a1 (fun i hi => (a2 i hi).symm) (fun q => hn q.symm)).mpr y)
theorem rg_ino_out {lt : Int → Prop} {v : Int} : ∀ (x : Nat) (g : Nat → Int) (j : Nat), x < j → rg_ino lt v x g j = g j := by
  intro x
  induction x with
  | zero => intro g j h; rw [rg_ino, rg_up_ne _ _ (by omega)]
  | succ x ih =>
    intro g j h
    rw [rg_ino]
    by_cases z : lt (g x)
    · rw [rg_itf_t z, ih _ j (by omega), rg_up_ne _ _ (by omega)]
    · rw [rg_itf_f z, rg_up_ne _ _ (by omega)]
theorem rg_ino_so {R : Int → Int → Prop} (htr : ∀ p q r, R p q → R q r → R p r) {lt : Int → Prop} {v : Int} : ∀ (x : Nat) (g : Nat → Int), (∀ i, i < x → lt (g i) → R v (g i)) → (∀ i, i < x → ¬ lt (g i) → R (g i) v) → (∀ i j, i < j → j < x → R (g i) (g j)) → ∀ i j, i < j → j < x + 1 → R (rg_ino lt v x g i) (rg_ino lt v x g j) := by
  intro x
  induction x with
  | zero => intro g _ _ _ i j h1 h2; omega
  | succ x ih =>
    intro g h1 h2 h3 i j hi hj
    rw [rg_ino]
    by_cases z : lt (g x)
    · rw [rg_itf_t z]
      have e : ∀ k, k < x + 1 → rg_up g (x + 1) (g x) k = g k := fun k hk => rg_up_ne _ _ (by omega)
      by_cases y : j = x + 1
      · rw [y, rg_ino_out x _ (x + 1) (by omega), rg_up_same]
        refine rg_ino_lo (P := fun q => R q (g x)) (h1 x (by omega) z) x _ (fun k hk => ?_) i (by omega)
        rw [e k (by omega)]; exact h3 k x hk (by omega)
      · exact ih _ (fun k hk q => by rw [e k (by omega)] at q ⊢; exact h1 k (by omega) q) (fun k hk q => by rw [e k (by omega)] at q ⊢; exact h2 k (by omega) q) (fun k l hk hl => by rw [e k (by omega), e l (by omega)]; exact h3 k l hk (by omega)) i j hi (by omega)
    · rw [rg_itf_f z]
      by_cases y : j = x + 1
      · rw [y, rg_up_same, rg_up_ne _ _ (by omega)]
        by_cases w : i = x
        · rw [w]; exact h2 x (by omega) z
        · exact htr _ _ _ (h3 i x (by omega) (by omega)) (h2 x (by omega) z)
      · rw [rg_up_ne _ _ (by omega), rg_up_ne _ _ y]; exact h3 i j hi (by omega)
theorem rg_ino_has {lt : Int → Prop} {v : Int} : ∀ (x : Nat) (g : Nat → Int), (∃ i, i < x + 1 ∧ rg_ino lt v x g i = v) ∧ ∀ k, k < x → ∃ i, i < x + 1 ∧ rg_ino lt v x g i = g k := by
  intro x
  induction x with
  | zero => intro g; exact ⟨⟨0, by omega, by rw [rg_ino, rg_up_same]⟩, fun k hk => by omega⟩
  | succ x ih =>
    intro g
    rw [rg_ino]
    by_cases z : lt (g x)
    · rw [rg_itf_t z]
      obtain ⟨⟨i, i1, i2⟩, i3⟩ := ih (rg_up g (x + 1) (g x))
      refine ⟨⟨i, by omega, i2⟩, fun k hk => ?_⟩
      by_cases y : k = x
      · exact ⟨x + 1, by omega, by rw [rg_ino_out x _ (x + 1) (by omega), rg_up_same, y]⟩
      · obtain ⟨l, l1, l2⟩ := i3 k (by omega)
        exact ⟨l, by omega, by rw [l2, rg_up_ne _ _ (by omega)]⟩
    · rw [rg_itf_f z]
      exact ⟨⟨x + 1, by omega, by rw [rg_up_same]⟩, fun k hk => ⟨k, by omega, by rw [rg_up_ne _ _ (by omega)]⟩⟩
/-- the order: each boat once, each before the next -/
theorem rg_OD_so {G : Nat → Nat → Int} {od : Nat → Int} (hG : ∀ a, G a 35 = (a : Int)) (b : Nat) : (∀ i j, i < j → j < b → rg_lt (G (Int.toNat (rg_OD G od b i))) (G (Int.toNat (rg_OD G od b j)))) ∧ ∀ c, c < b → ∃ i, i < b ∧ rg_OD G od b i = (c : Int) := by
  induction b with
  | zero => exact ⟨fun i j _ h => by omega, fun c h => by omega⟩
  | succ b ih =>
    obtain ⟨i1, i2⟩ := ih
    have hl := rg_OD_lt G od b
    rw [rg_OD]
    refine ⟨fun i j hi hj => rg_ino_so (R := fun p q => rg_lt (G (Int.toNat p)) (G (Int.toNat q))) (fun p q r => rg_lt_tr) b _ (fun k hk q => by rw [Int.toNat_natCast]; exact q) (fun k hk q => ?_) i1 i j hi hj, fun c hc => ?_⟩
    · rw [Int.toNat_natCast]
      have hk := hl k hk
      exact (rg_lt_to (by rw [hG, hG]; omega)).resolve_left q
    · obtain ⟨⟨i, k1, k2⟩, k3⟩ := rg_ino_has (lt := fun y => rg_lt (G b) (G (Int.toNat y))) (v := ((b : Nat) : Int)) b (rg_OD G od b)
      by_cases z : c = b
      · exact ⟨i, k1, by rw [z]; exact k2⟩
      · obtain ⟨l, l1, l2⟩ := i2 c (by omega)
        obtain ⟨m, m1, m2⟩ := k3 l l1
        exact ⟨m, m1, m2.trans l2⟩
/-- as many boats as places are in front -/
theorem rg_cnt_im {od : Nat → Int} {nb : Nat} (h1 : ∀ i, i < nb → 0 ≤ od i ∧ od i < nb) (h2 : ∀ i j, i < j → j < nb → ¬ od i = od j) : ∀ k, k ≤ nb → rg_cnt (fun c => ∃ i, i < k ∧ od i = (c : Int)) nb = k := by
  intro k
  induction k with
  | zero => intro _; exact rg_cnt_zero (fun i _ ⟨j, hj, _⟩ => by omega)
  | succ k ih =>
    intro hk
    have hb := h1 k (by omega)
    rw [rg_cnt_or (p := fun c => ∃ i, i < k ∧ od i = (c : Int)) (q := fun c => od k = (c : Int)) (fun c _ => ?_) (fun c _ => ?_), ih (by omega)]
    · have e : rg_cnt (fun c : Nat => od k = (c : Int)) nb = 1 := by
        have e1 : rg_cnt (fun c : Nat => od k = (c : Int)) nb = rg_cnt (fun c : Nat => od k = (c : Int)) (Int.toNat (od k) + 1) := rg_cnt_cut (by omega) (fun i q1 q2 => by omega)
        rw [e1, rg_cnt_t (by omega), rg_cnt_zero (fun i hi => by omega)]
      rw [e]
    · constructor
      · rintro ⟨i, q1, q2⟩
        by_cases z : i = k
        · right; rw [z] at q2; exact q2
        · exact Or.inl ⟨i, by omega, q2⟩
      · rintro (⟨i, q1, q2⟩ | q)
        · exact ⟨i, by omega, q2⟩
        · exact ⟨k, by omega, q⟩
    · rintro ⟨⟨i, q1, q2⟩, q3⟩
      exact h2 i k q1 (by omega) (q2.trans q3.symm)
theorem rg_RK_at {od rk : Nat → Int} {nb : Nat} (h1 : ∀ i, i < nb → 0 ≤ od i ∧ od i < nb) (h2 : ∀ i j, i < j → j < nb → ¬ od i = od j) : ∀ k, k ≤ nb → ∀ i, i < k → rg_RK od rk k (Int.toNat (od i)) = (i : Int) + 1 := by
  intro k
  induction k with
  | zero => intro _ i hi; omega
  | succ k ih =>
    intro hk i hi
    rw [rg_RK]
    by_cases z : i = k
    · rw [z, rg_up_same]
    · have a := h1 i (by omega)
      have b := h1 k (by omega)
      have c := h2 i k (by omega) (by omega)
      rw [rg_up_ne _ _ (by omega)]
      exact ih (by omega) i (by omega)
theorem rg_OD_ne {G : Nat → Nat → Int} {od : Nat → Int} (hG : ∀ a, G a 35 = (a : Int)) (b : Nat) : ∀ i j, i < j → j < b → ¬ rg_OD G od b i = rg_OD G od b j := fun i j hi hj q => by
  have := (rg_OD_so (od := od) hG b).1 i j hi hj
  rw [q] at this
  exact rg_lt_ir _ this
/-- a boat's rank by its row: one more than the boats before it -/
theorem rg_RK_rO {G : Nat → Nat → Int} {od rk : Nat → Int} {d : Nat → Nat → Int} {nb b : Nat} (hG : ∀ a, G a 35 = (a : Int)) (hd : ∀ a b, a < nb → b < nb → ¬ a = b → (rg_lt (G a) (G b) ↔ d a b < 0)) (hb : b < nb) : rg_RK (rg_OD G od nb) rk nb b = ((rg_rO d nb b : Nat) : Int) := by
  have h1 := rg_OD_lt G od nb
  have h2 := rg_OD_ne (od := od) hG nb
  obtain ⟨s1, s2⟩ := rg_OD_so (od := od) hG nb
  obtain ⟨i, i1, i2⟩ := s2 b hb
  have e := rg_RK_at (rk := rk) h1 h2 nb (Nat.le_refl _) i i1
  rw [i2, Int.toNat_natCast] at e
  rw [e]
  have e2 : rg_cnt (fun c => ¬ c = b ∧ d c b < 0) nb = i := by
    rw [← rg_cnt_im h1 h2 i (by omega)]
    refine rg_cnt_congr (fun c hc => ?_)
    constructor
    · rintro ⟨q1, q2⟩
      obtain ⟨j, j1, j2⟩ := s2 c hc
      refine ⟨j, ?_, j2⟩
      have hl := (hd c b hc hb q1).mpr q2
      rcases Nat.lt_trichotomy j i with z | z | z
      · exact z
      · rw [z, i2] at j2; exact absurd (by omega) q1
      · have := s1 i j z j1
        rw [i2, j2, Int.toNat_natCast, Int.toNat_natCast] at this
        exact absurd (rg_lt_tr hl this) (rg_lt_ir _)
    · rintro ⟨j, j1, j2⟩
      have hl := s1 j i j1 i1
      rw [i2, j2, Int.toNat_natCast, Int.toNat_natCast] at hl
      have hne : ¬ c = b := fun q => by rw [q] at hl; exact rg_lt_ir _ hl
      exact ⟨hne, (hd c b hc hb hne).mp hl⟩
  unfold rg_rO
  rw [e2]; omega
/-- the boat of a rank -/
theorem rg_bo_od {G : Nat → Nat → Int} {od rk : Nat → Int} {nb k : Nat} (hG : ∀ a, G a 35 = (a : Int)) (hrk : ∀ b, b < nb → rk b = rg_RK (rg_OD G od nb) rk nb b) (hk : k < nb) : rg_bo rk ((k : Int) + 1) nb = rg_OD G od nb k := by
  have h1 := rg_OD_lt G od nb
  have h2 := rg_OD_ne (od := od) hG nb
  obtain ⟨s1, s2⟩ := rg_OD_so (od := od) hG nb
  have hat := rg_RK_at (rk := rk) h1 h2 nb (Nat.le_refl _)
  have hk1 := h1 k hk
  have key : ∀ n, n ≤ nb → Int.toNat (rg_OD G od nb k) < n → rg_bo rk ((k : Int) + 1) n = rg_OD G od nb k := by
    intro n
    induction n with
    | zero => intro _ h; omega
    | succ n ih =>
      intro hn h
      rw [rg_bo]
      by_cases z : n = Int.toNat (rg_OD G od nb k)
      · rw [if_pos]
        · omega
        · rw [hrk n (by omega), z]; exact hat k hk
      · rw [if_neg]
        · exact ih (by omega) (by omega)
        · obtain ⟨i, i1, i2⟩ := s2 n (by omega)
          have := hat i i1
          rw [i2, Int.toNat_natCast] at this
          rw [hrk n (by omega), this]
          intro q
          have : i = k := by omega
          rw [this] at i2
          omega
  exact key nb (Nat.le_refl _) (by omega)
