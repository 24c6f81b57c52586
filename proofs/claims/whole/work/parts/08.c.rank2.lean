/-! The ranking as a whole. -/
def rg_rws (n : Nat) (G : Nat → Nat → Int) : Nat → Int := fun j => if j / 36 < n then G (j / 36) (j % 36) else 1000000
theorem rg_rws_0 (G : Nat → Nat → Int) : (fun _ => (1000000 : Int)) = rg_rws 0 G := by
  funext j; unfold rg_rws; rw [if_neg (by omega)]
theorem rg_rws_s (n : Nat) (G : Nat → Nat → Int) : rg_rw (rg_rws n G) n (G n) = rg_rws (n + 1) G := by
  funext j; unfold rg_rw rg_rws
  by_cases z : j / 36 = n
  · rw [if_pos z, if_pos (by omega), z]
  · rw [if_neg z]
    by_cases y : j / 36 < n
    · rw [if_pos y, if_pos (by omega)]
    · rw [if_neg y, if_neg (by omega)]
theorem rg_rws_at {n a c : Nat} (G : Nat → Nat → Int) (h : a < n) (hc : c < 36) : rg_rws n G (a * 36 + c) = G a c := by
  have h1 : (a * 36 + c) / 36 = a := by omega
  have h2 : (a * 36 + c) % 36 = c := by omega
  unfold rg_rws
  rw [h1, h2, if_pos h]
theorem rg_rws_out {n c : Nat} (G : Nat → Nat → Int) (hc : c < 36) : rg_rws n G (n * 36 + c) = 1000000 := by
  unfold rg_rws; rw [if_neg (by omega)]
theorem rg_rws_Rg {n : Nat} {G : Nat → Nat → Int} (h : ∀ a c, a < n → rg_Rg (G a c)) (j : Nat) : rg_Rg (rg_rws n G j) := by
  unfold rg_rws; split
  · exact h _ _ (by assumption)
  · exact ⟨by omega, by omega⟩
theorem rg_lt_congr {g g' h h' : Nat → Int} (h1 : ∀ i, i < 36 → g i = g' i) (h2 : ∀ i, i < 36 → h i = h' i) : rg_lt g h ↔ rg_lt g' h' := by
  have e := rg_fd_congr (n := 35) (fun i hi => h1 i (by omega)) (fun i hi => h2 i (by omega))
  have hb := (rg_fd_spec g h 35).1
  unfold rg_lt
  rw [← e, h1 _ (by omega), h2 _ (by omega)]
theorem rg_ino_congr {lt lt' : Int → Prop} {v : Int} : ∀ (x : Nat) (g : Nat → Int), (∀ i, i < x → (lt (g i) ↔ lt' (g i))) → rg_ino lt v x g = rg_ino lt' v x g := by
  intro x
  induction x with
  | zero => intro g _; rfl
  | succ x ih =>
    intro g h
    rw [rg_ino, rg_ino]
    rcases Classical.em (lt (g x)) with z | z
    · rw [rg_itf_t z, rg_itf_t ((h x (by omega)).mp z)]
      exact ih _ (fun i hi => by rw [rg_up_ne _ _ (by omega)]; exact h i (by omega))
    · rw [rg_itf_f z, rg_itf_f (fun y => z ((h x (by omega)).mpr y))]
/-- a boat's row -/
noncomputable def rg_RW (fl nt lt ins dis sc : Nat → Int) (nr c : Nat) : Nat → Int := rg_fw (fun o => ¬ ins (o * 40 + c) = 0) (fun o => dis (o * 40 + c)) (fun o => sc (o * 40 + c)) (rg_g0 (fl c) (nt c) (lt c) ((c : Nat) : Int)) nr nr
/-- the order, boat by boat -/
noncomputable def rg_OD (G : Nat → Nat → Int) (od : Nat → Int) : Nat → (Nat → Int)
  | 0 => od
  | b + 1 => rg_ino (fun y => rg_lt (G b) (G (Int.toNat y))) ((b : Nat) : Int) b (rg_OD G od b)
theorem rg_ino_lo {P : Int → Prop} {lt : Int → Prop} {v : Int} (hv : P v) : ∀ (x : Nat) (g : Nat → Int), (∀ i, i < x → P (g i)) → ∀ i, i < x + 1 → P (rg_ino lt v x g i) := by
  intro x
  induction x with
  | zero => intro g _ i hi; rw [show i = 0 by omega, rg_ino, rg_up_same]; exact hv
  | succ x ih =>
    intro g h i hi
    rw [rg_ino]
    rcases Classical.em (lt (g x)) with z | z
    · rw [rg_itf_t z]
      by_cases y : i < x + 1
      · exact ih _ (fun k hk => by rw [rg_up_ne _ _ (by omega)]; exact h k (by omega)) i y
      · have e : i = x + 1 := by omega
        have : ∀ (n : Nat) (g' : Nat → Int), n < i → rg_ino lt v n g' i = g' i := by
          intro n
          induction n with
          | zero => intro g' hn; rw [rg_ino, rg_up_ne _ _ (by omega)]
          | succ n ihn =>
            intro g' hn
            rw [rg_ino]
            rcases Classical.em (lt (g' n)) with q | q
            · rw [rg_itf_t q, ihn _ (by omega), rg_up_ne _ _ (by omega)]
            · rw [rg_itf_f q, rg_up_ne _ _ (by omega)]
        rw [this x _ (by omega), e, rg_up_same]
        exact h x (by omega)
    · rw [rg_itf_f z]
      by_cases y : i = x + 1
      · rw [y, rg_up_same]; exact hv
      · rw [rg_up_ne _ _ y]; exact h i (by omega)
theorem rg_ino_all {P : Int → Prop} {lt : Int → Prop} {v : Int} (hv : P v) : ∀ (x : Nat) (g : Nat → Int), (∀ i, P (g i)) → ∀ i, P (rg_ino lt v x g i) := by
  intro x
  induction x with
  | zero => intro g h i; exact rg_up_all h _ hv i
  | succ x ih =>
    intro g h i
    rw [rg_ino]
    rcases Classical.em (lt (g x)) with z | z
    · rw [rg_itf_t z]; exact ih _ (rg_up_all h _ (h _)) i
    · rw [rg_itf_f z]; exact rg_up_all h _ hv i
theorem rg_OD_lt (G : Nat → Nat → Int) (od : Nat → Int) (b : Nat) : ∀ i, i < b → 0 ≤ rg_OD G od b i ∧ rg_OD G od b i < b := by
  induction b with
  | zero => intro i hi; omega
  | succ b ih =>
    intro i hi
    exact rg_ino_lo (P := fun z => 0 ≤ z ∧ z < ((b + 1 : Nat) : Int)) (by omega) b _ (fun k hk => by have := ih k hk; omega) i hi
theorem rg_OD_all {G : Nat → Nat → Int} {od : Nat → Int} (h : ∀ j, 0 ≤ od j ∧ od j < 40) : ∀ b, b ≤ 40 → ∀ j, 0 ≤ rg_OD G od b j ∧ rg_OD G od b j < 40 := by
  intro b
  induction b with
  | zero => intro _; exact h
  | succ b ih => intro hb; exact rg_ino_all (P := fun z => 0 ≤ z ∧ z < 40) (by omega) b _ (ih (by omega))
theorem rg_OD_s {G : Nat → Nat → Int} {od : Nat → Int} {b : Nat} : rg_ino (fun y => rg_lt (fun i => rg_rws (b + 1) G (b * 36 + i)) (fun i => rg_rws (b + 1) G (Int.toNat y * 36 + i))) ((b : Nat) : Int) b (rg_OD G od b) = rg_OD G od (b + 1) := by
  rw [rg_OD]
  refine rg_ino_congr b _ (fun i hi => ?_)
  have h1 := rg_OD_lt G od b i hi
  exact rg_lt_congr (fun c hc => rg_rws_at G (by omega) hc) (fun c hc => rg_rws_at G (by omega) hc)
/-- the ranks out of the order -/
def rg_RK (od rk : Nat → Int) : Nat → (Nat → Int)
  | 0 => rk
  | i + 1 => rg_up (rg_RK od rk i) (Int.toNat (od i)) ((i : Int) + 1)
