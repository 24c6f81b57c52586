/-! Words for the reference's tables. -/
def rg_la0 (wh ro : Nat → Int) (at9 : Int) : Nat → Int
  | 0 => -1
  | d + 1 => if wh d = at9 ∧ ro d = 0 then (d : Int) else rg_la0 wh ro at9 d
def rg_la (wh ro : Nat → Int) (tr at9 : Int) (nd : Nat) : Int := if tr = 1 ∧ wh 40 = at9 then 40 else rg_la0 wh ro at9 nd
theorem rg_la0_bd (wh ro : Nat → Int) (at9 : Int) (n : Nat) : -1 ≤ rg_la0 wh ro at9 n ∧ rg_la0 wh ro at9 n < n := by
  induction n with
  | zero => exact ⟨Int.le_refl _, by show (-1 : Int) < 0; omega⟩
  | succ n ih =>
    rw [rg_la0]
    split <;> omega
theorem rg_la_bd (wh ro : Nat → Int) (tr at9 : Int) {n : Nat} (hn : n ≤ 40) : -1 ≤ rg_la wh ro tr at9 n ∧ rg_la wh ro tr at9 n < 41 := by
  have := rg_la0_bd wh ro at9 n
  unfold rg_la
  split <;> omega
/-- the entry, argument and penalty that count, by the reference -/
def rg_me (wh ro wt pu : Nat → Int) (tr : Int) (nd j : Nat) : Int := if rg_la wh ro tr (j : Int) nd < 0 then pu j else if wt (Int.toNat (rg_la wh ro tr (j : Int) nd)) = 0 then 9 else wt (Int.toNat (rg_la wh ro tr (j : Int) nd))
def rg_ma (wh ro wa pa : Nat → Int) (tr : Int) (nd j : Nat) : Int := if rg_la wh ro tr (j : Int) nd < 0 then pa j else wa (Int.toNat (rg_la wh ro tr (j : Int) nd))
def rg_mp (wh ro pp : Nat → Int) (tr : Int) (nd j : Nat) : Int := if rg_la wh ro tr (j : Int) nd < 0 then pp j else 0
noncomputable def rg_ms (rf fl ab : Nat → Int) (en : Nat → Nat → Int) (nb r : Nat) : Int := rg_b ((∃ b, b < nb ∧ rg_isr rf fl r b ∧ ¬ en r b = 0) ∧ ab r = 0)
/-- the reference's points without averages -/
noncomputable def rg_q0 (rf fl en ar pe : Nat → Int) (nb r b : Nat) : Int :=
  if en (r * 40 + b) = 9 then rg_pp (rg_SZ rf fl nb r) ((rg_cnt (fun i => (rg_isr rf fl r i ∧ en (r * 40 + i) = 9) ∧ ar (r * 40 + i) = ar (r * 40 + b)) nb : Nat) : Int) ((rg_cnt (fun i => (rg_isr rf fl r i ∧ en (r * 40 + i) = 9) ∧ ar (r * 40 + i) < ar (r * 40 + b)) nb : Nat) : Int) (pe (r * 40 + b))
  else if en (r * 40 + b) = 8 then ar (r * 40 + b) else 10 * rg_SZ rf fl nb r + 10
abbrev rg_mn (sl rf fl en : Nat → Int) (r b o : Nat) : Prop := ¬ o = r ∧ rg_in sl rf fl o b ∧ ¬ (en (o * 40 + b) = 6 ∨ en (o * 40 + b) = 7 ∨ en (o * 40 + b) = 8)
noncomputable def rg_mv (sl rf fl en pt : Nat → Int) (nb nr r b : Nat) : Int :=
  if en (r * 40 + b) = 6 then rg_avg (rg_SZ rf fl nb r) (rg_mn sl rf fl en r b) (fun o => pt (o * 40 + b)) nr
  else if en (r * 40 + b) = 7 then rg_avg (rg_SZ rf fl nb r) (rg_mn sl rf fl en r b) (fun o => pt (o * 40 + b)) r else pt (r * 40 + b)
theorem rg_mv_6 {sl rf fl en pt : Nat → Int} {nb nr r b : Nat} (h : en (r * 40 + b) = 6) : rg_mv sl rf fl en pt nb nr r b = rg_avg (rg_SZ rf fl nb r) (rg_mn sl rf fl en r b) (fun o => pt (o * 40 + b)) nr := if_pos h
theorem rg_mv_7 {sl rf fl en pt : Nat → Int} {nb nr r b : Nat} (h : en (r * 40 + b) = 7) : rg_mv sl rf fl en pt nb nr r b = rg_avg (rg_SZ rf fl nb r) (rg_mn sl rf fl en r b) (fun o => pt (o * 40 + b)) r := (if_neg (by omega)).trans (if_pos h)
theorem rg_mv_x {sl rf fl en pt : Nat → Int} {nb nr r b : Nat} (h6 : ¬ en (r * 40 + b) = 6) (h7 : ¬ en (r * 40 + b) = 7) : pt (r * 40 + b) = rg_mv sl rf fl en pt nb nr r b := ((if_neg h6).trans (if_neg h7)).symm
def rg_ms2 (kd pt : Nat → Int) (r b : Nat) : Int := if kd r = 2 then 2 * pt (r * 40 + b) else pt (r * 40 + b)
abbrev rg_mg (sl rf fl kd en : Nat → Int) (r b : Nat) : Prop := rg_in sl rf fl r b ∧ ¬ kd r = 2 ∧ ¬ en (r * 40 + b) = 5
abbrev rg_sn2 (kd pt : Nat → Int) (b o r : Nat) : Prop := rg_ms2 kd pt r b < rg_ms2 kd pt o b ∨ (rg_ms2 kd pt o b = rg_ms2 kd pt r b ∧ o < r)
noncomputable def rg_mb (sl rf fl kd en pt : Nat → Int) (nr b r : Nat) : Nat := rg_cnt (fun o => rg_mg sl rf fl kd en o b ∧ rg_sn2 kd pt b o r) nr
noncomputable def rg_ml (sl rf fl kd en pt : Nat → Int) (may : Int) (nr b r : Nat) : Int := rg_b (rg_mg sl rf fl kd en r b ∧ ((rg_mb sl rf fl kd en pt nr b r : Nat) : Int) < may)
theorem rg_me_Rg {wh ro wt pu : Nat → Int} (h1 : ∀ j, rg_Rg (wt j)) (h2 : ∀ j, rg_Rg (pu j)) (tr : Int) (nd j : Nat) : rg_Rg (rg_me wh ro wt pu tr nd j) := by
  unfold rg_me
  split
  · exact h2 _
  · split
    · exact ⟨by omega, by omega⟩
    · exact h1 _
theorem rg_ex_old {P : Nat → Prop} {b : Nat} (h : ∃ c, c < b ∧ P c) : (1 : Int) = rg_b (∃ c, c < b + 1 ∧ P c) := by
  obtain ⟨c, h1, h2⟩ := h
  exact (rg_b_t ⟨c, by omega, h2⟩).symm
theorem rg_ex_new {P : Nat → Prop} {b : Nat} (h : P b) : (1 : Int) = rg_b (∃ c, c < b + 1 ∧ P c) := (rg_b_t ⟨b, Nat.lt_succ_self b, h⟩).symm
theorem rg_ex_no {P : Nat → Prop} {b : Nat} (h1 : ¬ ∃ c, c < b ∧ P c) (h2 : ¬ P b) : (0 : Int) = rg_b (∃ c, c < b + 1 ∧ P c) := by
  refine (rg_b_f ?_).symm
  rintro ⟨c, h3, h4⟩
  by_cases z : c = b
  · rw [z] at h4; exact h2 h4
  · exact h1 ⟨c, by omega, h4⟩
