/-! Words for the sheet: numbers written one behind the other. -/
def rg_wx (B : Nat → Int) (L : Nat) (xs : List Int) : Nat → Int := fun j => if L ≤ j ∧ j < L + xs.length then xs.getD (j - L) 0 else B j
theorem rg_wx_nil (B : Nat → Int) (L : Nat) : B = rg_wx B L [] := by
  funext j; unfold rg_wx; rw [if_neg (by simp)]
theorem rg_wx_app (B : Nat → Int) (L : Nat) (xs ys : List Int) : rg_wx (rg_wx B L xs) (L + xs.length) ys = rg_wx B L (xs ++ ys) := by
  funext j; unfold rg_wx
  rw [List.length_append]
  by_cases z : L + xs.length ≤ j ∧ j < L + xs.length + ys.length
  · rw [if_pos z, if_pos (by omega)]
    rw [List.getD_eq_getElem?_getD, List.getD_eq_getElem?_getD, List.getElem?_append_right (by omega)]
    congr 2
    omega
  · rw [if_neg z]
    by_cases y : L ≤ j ∧ j < L + xs.length
    · rw [if_pos y, if_pos (by omega)]
      rw [List.getD_eq_getElem?_getD, List.getD_eq_getElem?_getD, List.getElem?_append_left (by omega)]
    · rw [if_neg y, if_neg (by omega)]
theorem rg_wx_1 (B : Nat → Int) (L : Nat) (v : Int) : rg_up B L v = rg_wx B L [v] := by
  funext j; unfold rg_up rg_wx
  by_cases z : j = L
  · rw [if_pos z, if_pos (by simp; omega), z, Nat.sub_self]; rfl
  · rw [if_neg z, if_neg (by simp; omega)]
theorem rg_wx_s (B : Nat → Int) (L : Nat) (xs : List Int) (v : Int) : rg_up (rg_wx B L xs) (L + xs.length) v = rg_wx B L (xs ++ [v]) := by
  rw [rg_wx_1, rg_wx_app]
/-- divisors, and a number's digits -/
def rg_dv (t : Nat) : Int := match t with
  | 0 => 10000
  | 1 => 1000
  | 2 => 100
  | 3 => 10
  | 4 => 1
  | _ => 0
theorem rg_dv_bd (t : Nat) : 0 ≤ rg_dv t ∧ rg_dv t ≤ 10000 := by
  unfold rg_dv; split <;> omega
theorem rg_dv_s {t : Nat} (h : 0 < rg_dv t) : t < 5 ∧ rg_dv t / 10 = rg_dv (t + 1) := by
  rcases Nat.lt_or_ge t 5 with z | z
  · refine ⟨z, ?_⟩
    rcases (show t = 0 ∨ t = 1 ∨ t = 2 ∨ t = 3 ∨ t = 4 by omega) with rfl | rfl | rfl | rfl | rfl <;> decide
  · obtain ⟨u, rfl⟩ : ∃ u, t = u + 5 := ⟨t - 5, by omega⟩
    exact absurd h (by show ¬ (0 : Int) < 0; omega)
theorem rg_dv_e {t : Nat} (h : rg_dv t ≤ 0) (h5 : t ≤ 5) : t = 5 := by
  rcases (show t = 0 ∨ t = 1 ∨ t = 2 ∨ t = 3 ∨ t = 4 ∨ t = 5 by omega) with rfl | rfl | rfl | rfl | rfl | rfl
  · exact absurd h (by decide)
  · exact absurd h (by decide)
  · exact absurd h (by decide)
  · exact absurd h (by decide)
  · exact absurd h (by decide)
  · rfl
def rg_nt (v : Int) : Nat → List Int
  | 0 => []
  | t + 1 => if rg_dv t ≤ v ∨ rg_dv t = 1 then rg_nt v t ++ [48 + v / rg_dv t % 10] else rg_nt v t
theorem rg_nt_y {v : Int} {t : Nat} (h : rg_dv t ≤ v ∨ rg_dv t = 1) : rg_nt v (t + 1) = rg_nt v t ++ [48 + v / rg_dv t % 10] := if_pos h
theorem rg_nt_n {v : Int} {t : Nat} (h : ¬ (rg_dv t ≤ v ∨ rg_dv t = 1)) : rg_nt v (t + 1) = rg_nt v t := if_neg h
theorem rg_nt_mono (v : Int) {t u : Nat} (h : t ≤ u) : (rg_nt v t).length ≤ (rg_nt v u).length := by
  induction u with
  | zero => rw [show t = 0 by omega]; exact Nat.le_refl _
  | succ u ih =>
    by_cases z : t = u + 1
    · rw [z]; exact Nat.le_refl _
    · refine Nat.le_trans (ih (by omega)) ?_
      rw [rg_nt]
      split
      · rw [List.length_append]; omega
      · exact Nat.le_refl _
def rg_nx (v : Int) : List Int := rg_nt v 5
def rg_tt (v : Int) : List Int := rg_nx (v / 10) ++ [46] ++ [48 + v % 10]
def rg_tx (k t : Nat) : List Int := (List.range t).map (lw_cb k)
theorem rg_tx_s (k t : Nat) : rg_tx k t ++ [lw_cb k t] = rg_tx k (t + 1) := by
  unfold rg_tx; rw [List.range_succ, List.map_append]; rfl
theorem rg_tx_len (k t : Nat) : (rg_tx k t).length = t := by unfold rg_tx; simp
def rg_text (k : Nat) : List Int := rg_tx k (lw_sl.getD k 0)
theorem rg_sh0 {o : Nat → Int} {L : Nat} (h : o 1 = ((L : Nat) : Int)) : o = rg_up o 1 ((L + ([] : List Int).length : Nat) : Int) := by
  funext j; unfold rg_up
  by_cases z : j = 1
  · rw [if_pos z, z, h]; rfl
  · rw [if_neg z]
