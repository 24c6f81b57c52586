/-! Words for the points. -/
noncomputable def rg_ite (p : Prop) (a b : Int) : Int := @ite Int p (Classical.propDecidable p) a b
theorem rg_ite_t {p : Prop} (h : p) (a b : Int) : rg_ite p a b = a := @if_pos p (Classical.propDecidable p) h Int a b
theorem rg_ite_f {p : Prop} (h : ¬ p) (a b : Int) : rg_ite p a b = b := @if_neg p (Classical.propDecidable p) h Int a b
theorem rg_ite_congr {p q : Prop} (h : p ↔ q) (a b : Int) : rg_ite p a b = rg_ite q a b := by rw [propext h]
/-- points of a place -/
def rg_pp (sz wp wl q : Int) : Int := if 10 * sz + 10 < 10 * (1 + wl) + 5 * (wp - 1) + (sz * q + 5) / 10 then 10 * sz + 10 else 10 * (1 + wl) + 5 * (wp - 1) + (sz * q + 5) / 10
/-- points without averages -/
def rg_p0 (sz wp wl en ar pe : Nat → Int) (r j : Nat) : Int := if en j = 0 then rg_pp (sz r) (wp (Int.toNat (ar j))) (wl (Int.toNat (ar j))) (pe j) else if en j = 8 then ar j else 10 * sz r + 10
abbrev rg_isr (rf fl : Nat → Int) (r b : Nat) : Prop := rf r = 0 ∨ rf r = fl b
abbrev rg_in (sl rf fl : Nat → Int) (r b : Nat) : Prop := ¬ sl r = 0 ∧ rg_isr rf fl r b
/-- entries within their bounds -/
def rg_okE (en ar pe : Nat → Int) : Prop := ∀ j, -1 ≤ en j ∧ en j ≤ 8 ∧ 0 ≤ ar j ∧ ar j ≤ 9999 ∧ 0 ≤ pe j ∧ pe j ≤ 100 ∧ (en j = 0 → 1 ≤ ar j ∧ ar j ≤ 99)
theorem rg_okE_en {en ar pe : Nat → Int} (h : rg_okE en ar pe) (j : Nat) : rg_Rg (en j) := by have := h j; exact ⟨by omega, by omega⟩
theorem rg_okE_up {en ar pe : Nat → Int} (h : rg_okE en ar pe) (k : Nat) {c a : Int} (hc : 0 ≤ c ∧ c ≤ 8) (ha : 0 ≤ a ∧ a ≤ 9999) (h0 : c = 0 → 1 ≤ a ∧ a ≤ 99) : rg_okE (rg_up en k c) (rg_up ar k a) (rg_up pe k 0) := by
  intro j
  unfold rg_up
  by_cases z : j = k
  · rw [if_pos z, if_pos z, if_pos z]
    exact ⟨by omega, by omega, by omega, by omega, by omega, by omega, h0⟩
  · rw [if_neg z, if_neg z, if_neg z]; exact h j
/-- decisions within their bounds -/
def rg_okD (nd : Nat) (dc dk da : Nat → Int) : Prop := ∀ d, d < nd → 0 ≤ dc d ∧ dc d < 640 ∧ 0 ≤ dk d ∧ dk d ≤ 8 ∧ 0 ≤ da d ∧ da d ≤ 9999 ∧ (dk d = 0 → 1 ≤ da d ∧ da d ≤ 99)
theorem rg_app_s (dc ro g f : Nat → Int) {d : Nat} (h : ro d = 0) : rg_up (rg_app dc ro g f d) (Int.toNat (dc d)) (g d) = rg_app dc ro g f (d + 1) := (if_pos h).symm
theorem rg_app_k (dc ro g f : Nat → Int) {d : Nat} (h : ¬ ro d = 0) : rg_app dc ro g f d = rg_app dc ro g f (d + 1) := (if_neg h).symm
theorem rg_okE_app {en ar pe dc ro dk da : Nat → Int} (h : rg_okE en ar pe) : ∀ (nd : Nat), rg_okD nd dc dk da → rg_okE (rg_app dc ro dk en nd) (rg_app dc ro da ar nd) (rg_app dc ro (fun _ => 0) pe nd) := by
  intro nd
  induction nd with
  | zero => intro _; exact h
  | succ n ih =>
    intro hd
    have ih := ih (fun d hd1 => hd d (by omega))
    have h1 := hd n (by omega)
    by_cases z : ro n = 0
    · rw [← rg_app_s dc ro dk en z, ← rg_app_s dc ro da ar z, ← rg_app_s dc ro (fun _ => 0) pe z]
      exact rg_okE_up ih _ (by omega) (by omega) (by omega)
    · rw [← rg_app_k dc ro dk en z, ← rg_app_k dc ro da ar z, ← rg_app_k dc ro (fun _ => 0) pe z]
      exact ih
/-- bounds of the counts -/
theorem rg_wp_bd (en ar : Nat → Int) (r nb p : Nat) : 0 ≤ rg_wp en ar r nb p ∧ rg_wp en ar r nb p ≤ nb := by
  unfold rg_wp
  have := rg_cnt_le (fun b => en (r * 40 + b) = 0 ∧ ar (r * 40 + b) = (p : Int)) nb
  omega
/-- a sum of counts is a count -/
theorem rg_sum_wp (en ar : Nat → Int) (r nb : Nat) (hok : ∀ b, b < nb → en (r * 40 + b) = 0 → 0 ≤ ar (r * 40 + b)) (p : Nat) : rg_sum (rg_wp en ar r nb) p = ((rg_cnt (fun b => en (r * 40 + b) = 0 ∧ ar (r * 40 + b) < (p : Int)) nb : Nat) : Int) := by
  induction p with
  | zero =>
    rw [rg_cnt_zero (fun b hb q => by have := hok b hb q.1; have := q.2; omega)]
    rfl
  | succ p ih =>
    rw [rg_sum, ih]
    unfold rg_wp
    clear ih
    have : ∀ m, m ≤ nb → ((rg_cnt (fun b => en (r * 40 + b) = 0 ∧ ar (r * 40 + b) < (p : Int)) m : Nat) : Int) + ((rg_cnt (fun b => en (r * 40 + b) = 0 ∧ ar (r * 40 + b) = (p : Int)) m : Nat) : Int) = ((rg_cnt (fun b => en (r * 40 + b) = 0 ∧ ar (r * 40 + b) < ((p + 1 : Nat) : Int)) m : Nat) : Int) := by
      intro m
      induction m with
      | zero => intro _; rfl
      | succ m ih =>
        intro hm
        have ih := ih (by omega)
        by_cases z : en (r * 40 + m) = 0
        · rcases Int.lt_trichotomy (ar (r * 40 + m)) (p : Int) with y | y | y
          · rw [rg_cnt_t (p := fun b => en (r * 40 + b) = 0 ∧ ar (r * 40 + b) < (p : Int)) ⟨z, y⟩, rg_cnt_f (p := fun b => en (r * 40 + b) = 0 ∧ ar (r * 40 + b) = (p : Int)) (fun q => by have := q.2; omega), rg_cnt_t (p := fun b => en (r * 40 + b) = 0 ∧ ar (r * 40 + b) < ((p + 1 : Nat) : Int)) ⟨z, by omega⟩]
            omega
          · rw [rg_cnt_f (p := fun b => en (r * 40 + b) = 0 ∧ ar (r * 40 + b) < (p : Int)) (fun q => by have := q.2; omega), rg_cnt_t (p := fun b => en (r * 40 + b) = 0 ∧ ar (r * 40 + b) = (p : Int)) ⟨z, y⟩, rg_cnt_t (p := fun b => en (r * 40 + b) = 0 ∧ ar (r * 40 + b) < ((p + 1 : Nat) : Int)) ⟨z, by omega⟩]
            omega
          · rw [rg_cnt_f (p := fun b => en (r * 40 + b) = 0 ∧ ar (r * 40 + b) < (p : Int)) (fun q => by have := q.2; omega), rg_cnt_f (p := fun b => en (r * 40 + b) = 0 ∧ ar (r * 40 + b) = (p : Int)) (fun q => by have := q.2; omega), rg_cnt_f (p := fun b => en (r * 40 + b) = 0 ∧ ar (r * 40 + b) < ((p + 1 : Nat) : Int)) (fun q => by have := q.2; omega)]
            omega
        · rw [rg_cnt_f (p := fun b => en (r * 40 + b) = 0 ∧ ar (r * 40 + b) < (p : Int)) (fun q => z q.1), rg_cnt_f (p := fun b => en (r * 40 + b) = 0 ∧ ar (r * 40 + b) = (p : Int)) (fun q => z q.1), rg_cnt_f (p := fun b => en (r * 40 + b) = 0 ∧ ar (r * 40 + b) < ((p + 1 : Nat) : Int)) (fun q => z q.1)]
          exact ih
    exact this nb (Nat.le_refl _)
theorem rg_wl_bd {f en ar : Nat → Int} {r nb p n : Nat} (hok : ∀ b, b < nb → en (r * 40 + b) = 0 → 0 ≤ ar (r * 40 + b)) (hp : p < n) : 0 ≤ rg_wl f (rg_wp en ar r nb) n p ∧ rg_wl f (rg_wp en ar r nb) n p ≤ nb := by
  unfold rg_wl
  rw [rg_hd_at _ _ hp, rg_sum_wp en ar r nb hok]
  have := rg_cnt_le (fun b => en (r * 40 + b) = 0 ∧ ar (r * 40 + b) < (p : Int)) nb
  omega
/-- points lie between 0 and 9999 -/
theorem rg_pp_bd {sz wp wl q : Int} (h1 : 0 ≤ sz ∧ sz ≤ 40) (h2 : 1 ≤ wp) (h3 : 0 ≤ wl) (h4 : 0 ≤ q ∧ q ≤ 100) : 0 ≤ rg_pp sz wp wl q ∧ rg_pp sz wp wl q ≤ 410 := by
  have hm : 0 ≤ sz * q := Int.mul_nonneg h1.1 h4.1
  unfold rg_pp
  split <;> omega
theorem rg_p0_bd {sz wp wl en ar pe : Nat → Int} {r j : Nat} (hok : rg_okE en ar pe) (h1 : 0 ≤ sz r ∧ sz r ≤ 40) (h2 : en j = 0 → 1 ≤ wp (Int.toNat (ar j))) (h3 : en j = 0 → 0 ≤ wl (Int.toNat (ar j))) : 0 ≤ rg_p0 sz wp wl en ar pe r j ∧ rg_p0 sz wp wl en ar pe r j ≤ 9999 := by
  have h4 := hok j
  unfold rg_p0
  by_cases z : en j = 0
  · rw [if_pos z]
    have := rg_pp_bd h1 (h2 z) (h3 z) (show 0 ≤ pe j ∧ pe j ≤ 100 by omega)
    omega
  · rw [if_neg z]
    split <;> omega
/-- the mean of the points of the races that p names -/
noncomputable def rg_avg (sz : Int) (p : Nat → Prop) (pt : Nat → Int) (n : Nat) : Int :=
  if rg_cnt p n = 0 then 5 * sz else (2 * rg_sum (fun o => rg_ite (p o) (pt o) 0) n + ((rg_cnt p n : Nat) : Int)) / (2 * ((rg_cnt p n : Nat) : Int))
theorem rg_sum_t {p : Nat → Prop} {pt : Nat → Int} {n : Nat} (h : p n) : rg_sum (fun o => rg_ite (p o) (pt o) 0) n + pt n = rg_sum (fun o => rg_ite (p o) (pt o) 0) (n + 1) := by
  rw [rg_sum, rg_ite_t h]
theorem rg_sum_f {p : Nat → Prop} {pt : Nat → Int} {n : Nat} (h : ¬ p n) : rg_sum (fun o => rg_ite (p o) (pt o) 0) n = rg_sum (fun o => rg_ite (p o) (pt o) 0) (n + 1) := by
  rw [rg_sum, rg_ite_f h, Int.add_zero]
theorem rg_avg_congr {sz : Int} {p q : Nat → Prop} {f g : Nat → Int} {n : Nat} (h : ∀ o, o < n → (p o ↔ q o)) (h2 : ∀ o, o < n → p o → f o = g o) : rg_avg sz p f n = rg_avg sz q g n := by
  unfold rg_avg
  rw [rg_cnt_congr h, rg_sum_congr (f := fun o => rg_ite (p o) (f o) 0) (g := fun o => rg_ite (q o) (g o) 0) (fun o ho => by
    rcases Classical.em (p o) with z | z
    · show rg_ite (p o) (f o) 0 = rg_ite (q o) (g o) 0
      rw [rg_ite_t z, rg_ite_t ((h o ho).mp z)]; exact h2 o ho z
    · show rg_ite (p o) (f o) 0 = rg_ite (q o) (g o) 0
      rw [rg_ite_f z, rg_ite_f (fun y => z ((h o ho).mpr y))])]
theorem rg_sum_bd {p : Nat → Prop} {pt : Nat → Int} {M : Int} {n : Nat} (hM : 0 ≤ M) (h : ∀ o, o < n → p o → 0 ≤ pt o ∧ pt o ≤ M) : 0 ≤ rg_sum (fun o => rg_ite (p o) (pt o) 0) n ∧ rg_sum (fun o => rg_ite (p o) (pt o) 0) n ≤ M * ((rg_cnt p n : Nat) : Int) := by
  induction n with
  | zero => exact ⟨Int.le_refl _, by rw [rg_cnt_0]; show (0 : Int) ≤ M * 0; omega⟩
  | succ n ih =>
    have ih := ih (fun o ho => h o (by omega))
    rcases Classical.em (p n) with z | z
    · rw [← rg_sum_t z, rg_cnt_t z]
      have h1 := h n (by omega) z
      have h2 : M * ((rg_cnt p n + 1 : Nat) : Int) = M * ((rg_cnt p n : Nat) : Int) + M := by
        rw [Int.natCast_add, Int.mul_add]; omega
      rw [h2]; omega
    · rw [← rg_sum_f z, rg_cnt_f z]; exact ih
theorem rg_avg_bd {sz : Int} {p : Nat → Prop} {pt : Nat → Int} {n : Nat} (hs : 0 ≤ sz ∧ sz ≤ 40) (h : ∀ o, o < n → p o → 0 ≤ pt o ∧ pt o ≤ 9999) : 0 ≤ rg_avg sz p pt n ∧ rg_avg sz p pt n ≤ 9999 := by
  have hb := rg_sum_bd (M := 9999) (by omega) h
  unfold rg_avg
  generalize rg_sum (fun o => rg_ite (p o) (pt o) 0) n = s at hb ⊢
  generalize rg_cnt p n = k at hb ⊢
  by_cases z : k = 0
  · rw [if_pos z]; omega
  · rw [if_neg z]
    have h1 : 0 < 2 * (k : Int) := by omega
    constructor
    · exact Int.ediv_nonneg (by omega) (by omega)
    · have : (2 * s + (k : Int)) / (2 * (k : Int)) < 10000 := Int.ediv_lt_of_lt_mul h1 (by omega)
      omega
