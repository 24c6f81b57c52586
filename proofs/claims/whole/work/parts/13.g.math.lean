/-! The points of a race, class against reference. -/
theorem rg_cnt_or {p q s : Nat → Prop} {n : Nat} (h : ∀ i, i < n → (s i ↔ p i ∨ q i)) (hd : ∀ i, i < n → ¬ (p i ∧ q i)) : rg_cnt s n = rg_cnt p n + rg_cnt q n := by
  induction n with
  | zero => rfl
  | succ n ih =>
    have i := ih (fun i hi => h i (by omega)) (fun i hi => hd i (by omega))
    have a := h n (by omega)
    have b := hd n (by omega)
    by_cases x : p n
    · rw [rg_cnt_t x, rg_cnt_t (a.mpr (Or.inl x)), rg_cnt_f (fun y => b ⟨x, y⟩)]; omega
    · by_cases y : q n
      · rw [rg_cnt_f x, rg_cnt_t (a.mpr (Or.inr y)), rg_cnt_t y]; omega
      · rw [rg_cnt_f x, rg_cnt_f y, rg_cnt_f (fun z => (a.mp z).elim x y)]; exact i
theorem rg_wp_sum {en ar : Nat → Int} {r nb : Nat} (hok : ∀ c, c < nb → en (r * 40 + c) = 0 → 0 ≤ ar (r * 40 + c)) (p : Nat) : rg_sum (rg_wp en ar r nb) p = ((rg_cnt (fun c => en (r * 40 + c) = 0 ∧ ar (r * 40 + c) < (p : Int)) nb : Nat) : Int) := by
  induction p with
  | zero => rw [rg_cnt_zero (fun c hc h => by have := hok c hc h.1; omega)]; rfl
  | succ p ih =>
    show rg_sum (rg_wp en ar r nb) p + rg_wp en ar r nb p = _
    rw [ih, rg_cnt_or (p := fun c => en (r * 40 + c) = 0 ∧ ar (r * 40 + c) < (p : Int)) (q := fun c => en (r * 40 + c) = 0 ∧ ar (r * 40 + c) = (p : Int)) (s := fun c => en (r * 40 + c) = 0 ∧ ar (r * 40 + c) < ((p + 1 : Nat) : Int)) (fun c _ => ⟨fun h => by
      by_cases z : ar (r * 40 + c) = (p : Int)
      · exact Or.inr ⟨h.1, z⟩
      · exact Or.inl ⟨h.1, by have := h.2; omega⟩, fun h => by rcases h with h | h <;> exact ⟨h.1, by have := h.2; omega⟩⟩) (fun c _ h => by have := h.1.2; have := h.2.2; omega)]
    show _ = ((rg_cnt _ nb + rg_cnt _ nb : Nat) : Int)
    rw [Int.natCast_add]
    rfl
theorem rg_p0_q0 {rf fl en ar pe en' ar' pe' : Nat → Int} {nb r b : Nat} (hb : b < nb) (h0 : ∀ c, c < nb → (en (r * 40 + c) = 0 ↔ (rg_isr rf fl r c ∧ en' (r * 40 + c) = 9))) (hi : rg_isr rf fl r b) (h8 : en (r * 40 + b) = 8 ↔ en' (r * 40 + b) = 8)
    (ha : ∀ c, c < nb → en (r * 40 + c) = 0 ∨ en (r * 40 + c) = 8 → ar (r * 40 + c) = ar' (r * 40 + c)) (hp : en (r * 40 + b) = 0 → pe (r * 40 + b) = pe' (r * 40 + b)) (hok : ∀ c, c < nb → en (r * 40 + c) = 0 → 0 ≤ ar (r * 40 + c)) :
    rg_p0 (rg_SZ rf fl nb) (rg_wp en ar r nb) (rg_sum (rg_wp en ar r nb)) en ar pe r (r * 40 + b) = rg_q0 rf fl en' ar' pe' nb r b := by
  by_cases z : en (r * 40 + b) = 0
  · have z9 := ((h0 b hb).mp z).2
    have hz := hok b hb z
    have e1 : rg_wp en ar r nb (Int.toNat (ar (r * 40 + b))) = ((rg_cnt (fun i => rg_pl rf fl en' r i ∧ ar' (r * 40 + i) = ar' (r * 40 + b)) nb : Nat) : Int) := by
      unfold rg_wp
      refine congrArg (fun n : Nat => (n : Int)) (rg_cnt_congr (fun c hc => ?_))
      constructor
      · rintro ⟨k1, k2⟩
        have k3 := ha c hc (Or.inl k1)
        have k4 := ha b hb (Or.inl z)
        exact ⟨(h0 c hc).mp k1, by omega⟩
      · rintro ⟨k1, k2⟩
        have k0 := (h0 c hc).mpr k1
        have k3 := ha c hc (Or.inl k0)
        have k4 := ha b hb (Or.inl z)
        exact ⟨k0, by omega⟩
    have e2 : rg_sum (rg_wp en ar r nb) (Int.toNat (ar (r * 40 + b))) = ((rg_cnt (fun i => rg_pl rf fl en' r i ∧ ar' (r * 40 + i) < ar' (r * 40 + b)) nb : Nat) : Int) := by
      rw [rg_wp_sum hok]
      refine congrArg (fun n : Nat => (n : Int)) (rg_cnt_congr (fun c hc => ?_))
      constructor
      · rintro ⟨k1, k2⟩
        have k3 := ha c hc (Or.inl k1)
        have k4 := ha b hb (Or.inl z)
        exact ⟨(h0 c hc).mp k1, by omega⟩
      · rintro ⟨k1, k2⟩
        have k0 := (h0 c hc).mpr k1
        have k3 := ha c hc (Or.inl k0)
        have k4 := ha b hb (Or.inl z)
        exact ⟨k0, by omega⟩
    rw [← rg_q0_9 z9, ← e1, ← e2, ← hp z]
    exact if_pos z
  · have z9 : ¬ en' (r * 40 + b) = 9 := fun q => z ((h0 b hb).mpr ⟨hi, q⟩)
    by_cases y : en (r * 40 + b) = 8
    · rw [← rg_q0_8 z9 (h8.mp y), ← ha b hb (Or.inr y)]
      exact (if_neg z).trans (if_pos y)
    · rw [← rg_q0_x z9 (fun q => y (h8.mpr q))]
      exact (if_neg z).trans (if_neg y)
