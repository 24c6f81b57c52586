/-! Words for the reference's sheet. -/
def rg_t1 (v : Int) : List Int := [v]
theorem rg_t1_len (v : Int) : (rg_t1 v).length = 1 := rfl
def rg_t3 (a b c : Int) : List Int := rg_t1 a ++ rg_t1 b ++ rg_t1 c
theorem rg_t3_len (a b c : Int) : (rg_t3 a b c).length = 3 := rfl
theorem rg_tt_1 (v : Int) : rg_nx (v / 10) ++ rg_t1 46 ++ rg_t1 (48 + v % 10) = rg_tt v := rfl
theorem rg_sh33 (o : Nat → Int) (L : Nat) (xs ys : List Int) (a : Int) : rg_up (rg_up o 33 a) 33 ((L + xs.length + ys.length : Nat) : Int) = rg_up o 33 ((L + (xs ++ ys).length : Nat) : Int) := by
  rw [rg_up_up, List.length_append, Nat.add_assoc]
theorem rg_sh0m {o : Nat → Int} {L : Nat} (h : o 33 = ((L : Nat) : Int)) : o = rg_up o 33 ((L + ([] : List Int).length : Nat) : Int) := by
  funext j; unfold rg_up
  by_cases z : j = 33
  · rw [if_pos z, z, h]; rfl
  · rw [if_neg z]
theorem rg_dv_p {t : Nat} (h : t < 5) : 1 ≤ rg_dv t ∧ rg_dv t ≤ 10000 := by
  rcases (show t = 0 ∨ t = 1 ∨ t = 2 ∨ t = 3 ∨ t = 4 by omega) with rfl | rfl | rfl | rfl | rfl <;> decide
theorem rg_dv_up {v : Int} {t : Nat} (ht : t ≤ 4) (hv : v < 100000) (h : 9 < v / rg_dv t) : 0 < t ∧ 10 * rg_dv t = rg_dv (t - 1) ∧ rg_dv (t - 1) ≤ v := by
  rcases (show t = 0 ∨ t = 1 ∨ t = 2 ∨ t = 3 ∨ t = 4 by omega) with rfl | rfl | rfl | rfl | rfl
  · have h' : 9 < v / 10000 := h
    omega
  · have h' : 9 < v / 1000 := h
    exact ⟨by decide, by decide, show (10000 : Int) ≤ v by omega⟩
  · have h' : 9 < v / 100 := h
    exact ⟨by decide, by decide, show (1000 : Int) ≤ v by omega⟩
  · have h' : 9 < v / 10 := h
    exact ⟨by decide, by decide, show (100 : Int) ≤ v by omega⟩
  · have h' : 9 < v / 1 := h
    exact ⟨by decide, by decide, show (10 : Int) ≤ v by omega⟩
theorem rg_nt_nil {v : Int} {t : Nat} (h : ∀ i, i < t → ¬ (rg_dv i ≤ v ∨ rg_dv i = 1)) : rg_nt v t = [] := by
  induction t with
  | zero => rfl
  | succ t ih => rw [rg_nt_n (h t (by omega)), ih (fun i hi => h i (by omega))]
theorem rg_dv_hi {i : Nat} (t : Nat) (hi : i < t) (ht : t ≤ 4) : 10 * rg_dv t ≤ rg_dv i ∧ 10 ≤ rg_dv i := by
  rcases (show t = 1 ∨ t = 2 ∨ t = 3 ∨ t = 4 by omega) with rfl | rfl | rfl | rfl
  · rcases (show i = 0 by omega) with rfl; decide
  · rcases (show i = 0 ∨ i = 1 by omega) with rfl | rfl <;> decide
  · rcases (show i = 0 ∨ i = 1 ∨ i = 2 by omega) with rfl | rfl | rfl <;> decide
  · rcases (show i = 0 ∨ i = 1 ∨ i = 2 ∨ i = 3 by omega) with rfl | rfl | rfl | rfl <;> decide
theorem rg_nt_0 {v : Int} {t : Nat} (ht : t ≤ 4) (hv : 0 ≤ v) (h : v / rg_dv t ≤ 9) : rg_nt v t = [] := by
  refine rg_nt_nil (fun i hi => ?_)
  have h1 := rg_dv_hi t hi ht
  have h2 := rg_dv_p (t := t) (by omega)
  have h3 : v < 10 * rg_dv t := by
    have q : v / rg_dv t < 10 := by omega
    exact (Int.ediv_lt_iff_lt_mul (by omega)).mp q
  omega
def rg_se (e q : Int) : List Int := if e = 0 then rg_t3 68 78 67 else if e = 1 then rg_t3 68 78 83 else if e = 2 then rg_t3 79 67 83 else if e = 3 then rg_t3 82 69 84 else if e = 4 then rg_t3 68 83 81 else if e = 5 then rg_t3 68 78 69 else if e = 6 then rg_t3 82 68 65 else if e = 7 then rg_t3 82 68 66 else if e = 8 then rg_t3 82 68 71 else if q = 0 then [] else rg_t3 83 67 80
theorem rg_se_len (e q : Int) : (rg_se e q).length ≤ 3 := by
  unfold rg_se
  (repeat' split) <;> exact Nat.le_of_ble_eq_true rfl
theorem rg_se_i {e : Int} (i : Nat) (q : Int) (h : e = (i : Int)) : rg_se e q = rg_se (i : Int) q := by rw [h]
theorem rg_se_o {e q : Int} (h : e < 0 ∨ 8 < e) : rg_se e q = if q = 0 then [] else rg_t3 83 67 80 := by
  unfold rg_se
  rw [if_neg (by omega), if_neg (by omega), if_neg (by omega), if_neg (by omega), if_neg (by omega), if_neg (by omega), if_neg (by omega), if_neg (by omega), if_neg (by omega)]
noncomputable def rg_ss (kd pt lf en pe : Nat → Int) (b r : Nat) : List Int := rg_t1 32 ++ (if lf (r * 40 + b) = 0 then [] else rg_t1 91) ++ rg_tt (rg_ms2 kd pt r b) ++ rg_se (en (r * 40 + b)) (if 0 < pe (r * 40 + b) then 1 else 0) ++ (if lf (r * 40 + b) = 0 then [] else rg_t1 93)
theorem rg_ss_0 {kd pt lf en pe : Nat → Int} {b r : Nat} (h : lf (r * 40 + b) = 0) : rg_ss kd pt lf en pe b r = rg_t1 32 ++ rg_tt (rg_ms2 kd pt r b) ++ rg_se (en (r * 40 + b)) (if 0 < pe (r * 40 + b) then 1 else 0) := by
  unfold rg_ss; rw [if_pos h, if_pos h, List.append_nil, List.append_nil]
theorem rg_ss_1 {kd pt lf en pe : Nat → Int} {b r : Nat} (h : ¬ lf (r * 40 + b) = 0) : rg_ss kd pt lf en pe b r = rg_t1 32 ++ rg_t1 91 ++ rg_tt (rg_ms2 kd pt r b) ++ rg_se (en (r * 40 + b)) (if 0 < pe (r * 40 + b) then 1 else 0) ++ rg_t1 93 := by
  unfold rg_ss; rw [if_neg h, if_neg h]
theorem rg_ss_len (kd pt lf en pe : Nat → Int) (b r : Nat) : 1 ≤ (rg_ss kd pt lf en pe b r).length := by
  unfold rg_ss
  simp only [List.length_append, rg_t1_len]
  omega
noncomputable def rg_sr (sl rf fl kd pt lf en pe : Nat → Int) (b : Nat) : Nat → List Int
  | 0 => []
  | r + 1 => @ite (List Int) (rg_in sl rf fl r b) (Classical.propDecidable _) (rg_sr sl rf fl kd pt lf en pe b r ++ rg_ss kd pt lf en pe b r) (rg_sr sl rf fl kd pt lf en pe b r)
theorem rg_sr_y {sl rf fl kd pt lf en pe : Nat → Int} {b r : Nat} (h : rg_in sl rf fl r b) : rg_sr sl rf fl kd pt lf en pe b (r + 1) = rg_sr sl rf fl kd pt lf en pe b r ++ rg_ss kd pt lf en pe b r := @if_pos _ (Classical.propDecidable _) h _ _ _
theorem rg_sr_n {sl rf fl kd pt lf en pe : Nat → Int} {b r : Nat} (h : ¬ rg_in sl rf fl r b) : rg_sr sl rf fl kd pt lf en pe b (r + 1) = rg_sr sl rf fl kd pt lf en pe b r := @if_neg _ (Classical.propDecidable _) h _ _ _
theorem rg_sr_mono (sl rf fl kd pt lf en pe : Nat → Int) (b : Nat) {r s : Nat} (h : r ≤ s) : (rg_sr sl rf fl kd pt lf en pe b r).length ≤ (rg_sr sl rf fl kd pt lf en pe b s).length := by
  induction s with
  | zero => rw [show r = 0 by omega]; exact Nat.le_refl _
  | succ s ih =>
    by_cases z : r = s + 1
    · rw [z]; exact Nat.le_refl _
    · refine Nat.le_trans (ih (by omega)) ?_
      by_cases y : rg_in sl rf fl s b
      · rw [rg_sr_y y, List.length_append]; omega
      · rw [rg_sr_n y]; exact Nat.le_refl _
noncomputable def rg_sL (sl rf fl kd pt lf en pe nt gr : Nat → Int) (nr k b : Nat) : List Int := rg_nx ((k : Nat) : Int) ++ rg_t1 46 ++ rg_t1 32 ++ rg_nx ((b : Nat) : Int) ++ rg_t1 32 ++ rg_tt (nt b) ++ rg_t1 32 ++ rg_t1 40 ++ rg_tt (gr b) ++ rg_t1 41 ++ rg_sr sl rf fl kd pt lf en pe b nr ++ rg_t1 10
