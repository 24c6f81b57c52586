/-! Words for the reference's order. -/
abbrev rg_cs (sl rf fl lf : Nat → Int) (b r : Nat) : Prop := rg_in sl rf fl r b ∧ lf (r * 40 + b) = 0
noncomputable def rg_my (sl rf fl kd pt lf : Nat → Int) (nr b : Nat) (v : Int) : Nat := rg_cnt (fun r => rg_cs sl rf fl lf b r ∧ rg_ms2 kd pt r b = v) nr
theorem rg_my_bd (sl rf fl kd pt lf : Nat → Int) (nr b : Nat) (v : Int) : 0 ≤ ((rg_my sl rf fl kd pt lf nr b v : Nat) : Int) ∧ ((rg_my sl rf fl kd pt lf nr b v : Nat) : Int) ≤ nr := by
  have : rg_my sl rf fl kd pt lf nr b v ≤ nr := rg_cnt_le _ _
  omega
noncomputable def rg_bV (sl rf fl kd pt lf : Nat → Int) (c r : Nat) : Int := rg_ite (rg_cs sl rf fl lf c r) (rg_ms2 kd pt r c) (-1)
noncomputable def rg_bM (sl rf fl kd pt lf : Nat → Int) (nr a b : Nat) (v : Int) : Int := if v < 0 then 0 else ((rg_my sl rf fl kd pt lf nr b v : Nat) : Int) - ((rg_my sl rf fl kd pt lf nr a v : Nat) : Int)
def rg_bN (x y v m : Int) : Int × Int := if ¬ m = 0 ∧ (x < 0 ∨ v < x) then (v, m) else (x, y)
noncomputable def rg_bS (sl rf fl kd pt lf : Nat → Int) (nr a b : Nat) : Nat → Int × Int
  | 0 => (-1, 0)
  | k + 1 => rg_bN (rg_bS sl rf fl kd pt lf nr a b k).1 (rg_bS sl rf fl kd pt lf nr a b k).2 (rg_bV sl rf fl kd pt lf (if k < nr then a else b) (k % nr)) (rg_bM sl rf fl kd pt lf nr a b (rg_bV sl rf fl kd pt lf (if k < nr then a else b) (k % nr)))
theorem rg_bS_s {sl rf fl kd pt lf : Nat → Int} {nr a b c k : Nat} {x y v m : Int} (h : (x, y) = rg_bS sl rf fl kd pt lf nr a b k) (hc : (if k < nr then a else b) = c) (hv : v = rg_bV sl rf fl kd pt lf c (k % nr)) (hm : m = rg_bM sl rf fl kd pt lf nr a b v) : rg_bN x y v m = rg_bS sl rf fl kd pt lf nr a b (k + 1) := by
  rw [rg_bS, ← h, hc, ← hv, ← hm]
theorem rg_bN_n {x y v m : Int} (h1 : ¬ m = 0) (h2 : x < 0 ∨ v < x) : (v, m) = rg_bN x y v m := (if_pos ⟨h1, h2⟩).symm
theorem rg_bN_o {x y v m : Int} (h : m = 0 ∨ (0 ≤ x ∧ x ≤ v)) : (x, y) = rg_bN x y v m := (if_neg (by omega)).symm
theorem rg_bM_n {sl rf fl kd pt lf : Nat → Int} {nr a b : Nat} {v : Int} (h : v < 0) : 0 = rg_bM sl rf fl kd pt lf nr a b v := (if_pos h).symm
theorem rg_bM_p {sl rf fl kd pt lf : Nat → Int} {nr a b : Nat} {v : Int} (h : ¬ v < 0) : ((rg_my sl rf fl kd pt lf nr b v : Nat) : Int) - ((rg_my sl rf fl kd pt lf nr a v : Nat) : Int) = rg_bM sl rf fl kd pt lf nr a b v := (if_neg h).symm
/-- the last race in which both are in and differ -/
noncomputable def rg_fd1 (sl rf fl kd pt : Nat → Int) (a b r : Nat) : Int := rg_ite (rg_in sl rf fl r a ∧ rg_in sl rf fl r b) (rg_ms2 kd pt r a - rg_ms2 kd pt r b) 0
noncomputable def rg_ff (sl rf fl kd pt : Nat → Int) (a b : Nat) : Nat → Int
  | 0 => 0
  | j + 1 => if rg_fd1 sl rf fl kd pt a b j = 0 then rg_ff sl rf fl kd pt a b j else rg_fd1 sl rf fl kd pt a b j
/-- the loop's fact: what is found, or what stands behind it -/
def rg_fI (y : Int) (f : Int) (w : Int) : Prop := (y = 0 ∧ f = w) ∨ (¬ y = 0 ∧ y = w)
theorem rg_fI_s {sl rf fl kd pt : Nat → Int} {a b j : Nat} {y w : Int} (hj : 0 < j) (h : rg_fI 0 (rg_ff sl rf fl kd pt a b j) w) (hy : y = rg_fd1 sl rf fl kd pt a b (j - 1)) : rg_fI y (rg_ff sl rf fl kd pt a b (j - 1)) w := by
  rcases h with ⟨-, h⟩ | ⟨h, -⟩
  · obtain ⟨i, rfl⟩ : ∃ i, j = i + 1 := ⟨j - 1, by omega⟩
    rw [rg_ff] at h
    rw [show i + 1 - 1 = i by omega] at hy ⊢
    by_cases z : rg_fd1 sl rf fl kd pt a b i = 0
    · rw [if_pos z] at h; exact Or.inl ⟨hy.trans z, h⟩
    · rw [if_neg z] at h; exact Or.inr ⟨by rw [hy]; exact z, hy.trans h⟩
  · exact absurd rfl h
def rg_bo (rk : Nat → Int) (rank : Int) : Nat → Int
  | 0 => -1
  | b + 1 => if rk b = rank then (b : Int) else rg_bo rk rank b
theorem rg_bo_bd (rk : Nat → Int) (rank : Int) (n : Nat) : -1 ≤ rg_bo rk rank n ∧ rg_bo rk rank n < n := by
  induction n with
  | zero => exact ⟨Int.le_refl _, by show (-1 : Int) < 0; omega⟩
  | succ n ih => rw [rg_bo]; split <;> omega
theorem rg_bM_bd {sl rf fl kd pt lf : Nat → Int} {nr a b : Nat} (hnr : nr ≤ 16) (v : Int) : -16 ≤ rg_bM sl rf fl kd pt lf nr a b v ∧ rg_bM sl rf fl kd pt lf nr a b v ≤ 16 := by
  unfold rg_bM
  split
  · omega
  · have q1 := rg_my_bd sl rf fl kd pt lf nr a v
    have q2 := rg_my_bd sl rf fl kd pt lf nr b v
    omega
theorem rg_bN_bd {x y v m : Int} (h1 : -16 ≤ y ∧ y ≤ 16) (h2 : -16 ≤ m ∧ m ≤ 16) : -16 ≤ (rg_bN x y v m).2 ∧ (rg_bN x y v m).2 ≤ 16 := by
  unfold rg_bN
  split
  · exact h2
  · exact h1
theorem rg_bS_bd (sl rf fl kd pt lf : Nat → Int) {nr : Nat} (a b : Nat) (hnr : nr ≤ 16) (k : Nat) : -16 ≤ (rg_bS sl rf fl kd pt lf nr a b k).2 ∧ (rg_bS sl rf fl kd pt lf nr a b k).2 ≤ 16 := by
  induction k with
  | zero => exact ⟨by show (-16 : Int) ≤ 0; omega, by show (0 : Int) ≤ 16; omega⟩
  | succ k ih =>
    rw [rg_bS]
    exact rg_bN_bd ih (rg_bM_bd hnr _)
theorem rg_ff_bd {sl rf fl kd pt : Nat → Int} {a b nr : Nat} (ha : ∀ o, o < nr → 0 ≤ rg_ms2 kd pt o a ∧ rg_ms2 kd pt o a ≤ 19998) (hb : ∀ o, o < nr → 0 ≤ rg_ms2 kd pt o b ∧ rg_ms2 kd pt o b ≤ 19998) : ∀ j, j ≤ nr → -19998 ≤ rg_ff sl rf fl kd pt a b j ∧ rg_ff sl rf fl kd pt a b j ≤ 19998 := by
  intro j
  induction j with
  | zero => intro _; exact ⟨by show (-19998 : Int) ≤ 0; omega, by show (0 : Int) ≤ 19998; omega⟩
  | succ j ih =>
    intro hj
    rw [rg_ff]
    split
    · exact ih (by omega)
    · have q1 := ha j (by omega)
      have q2 := hb j (by omega)
      unfold rg_fd1
      by_cases z : rg_in sl rf fl j a ∧ rg_in sl rf fl j b
      · rw [rg_ite_t z]; omega
      · rw [rg_ite_f z]; omega
def rg_l0 (x : Int) : Int := if x = 0 then 1000 else x
theorem rg_l0_e (x : Int) : (x = 0 ∧ rg_l0 x = 1000) ∨ (¬ x = 0 ∧ rg_l0 x = x) := by
  unfold rg_l0
  split
  · next h => exact Or.inl ⟨h, rfl⟩
  · next h => exact Or.inr ⟨h, rfl⟩
def rg_oD (lo fl nt : Nat → Int) (bs ff : Int) (a b : Nat) : Int := if ¬ fl a = fl b then fl a - fl b else if ¬ nt a = nt b then nt a - nt b else if ¬ bs = 0 then bs else if ¬ ff = 0 then ff else if ¬ rg_l0 (lo a) - rg_l0 (lo b) = 0 then rg_l0 (lo a) - rg_l0 (lo b) else (a : Int) - (b : Int)
def rg_oK (lo fl nt : Nat → Int) (bs ff : Int) (a b : Nat) : Int := if ¬ fl a = fl b then 0 else if ¬ nt a = nt b then 0 else if ¬ bs = 0 then 1 else if ¬ ff = 0 then 2 else if ¬ rg_l0 (lo a) - rg_l0 (lo b) = 0 then 3 else 4
theorem rg_oD_1 {lo fl nt : Nat → Int} {bs ff : Int} {a b : Nat} (h1 : ¬ fl a = fl b) : fl a - fl b = rg_oD lo fl nt bs ff a b ∧ 0 = rg_oK lo fl nt bs ff a b := ⟨(if_pos h1).symm, (if_pos h1).symm⟩
theorem rg_oD_2 {lo fl nt : Nat → Int} {bs ff : Int} {a b : Nat} (h1 : fl a = fl b) (h2 : ¬ nt a = nt b) : nt a - nt b = rg_oD lo fl nt bs ff a b ∧ 0 = rg_oK lo fl nt bs ff a b := by
  unfold rg_oD rg_oK
  rw [if_neg (fun q => q h1), if_pos h2, if_neg (fun q => q h1), if_pos h2]; exact ⟨rfl, rfl⟩
theorem rg_oD_3 {lo fl nt : Nat → Int} {bs ff : Int} {a b : Nat} (h1 : fl a = fl b) (h2 : nt a = nt b) (h3 : ¬ bs = 0) : bs = rg_oD lo fl nt bs ff a b ∧ 1 = rg_oK lo fl nt bs ff a b := by
  unfold rg_oD rg_oK
  rw [if_neg (fun q => q h1), if_neg (fun q => q h2), if_pos h3, if_neg (fun q => q h1), if_neg (fun q => q h2), if_pos h3]; exact ⟨rfl, rfl⟩
theorem rg_oD_4 {lo fl nt : Nat → Int} {bs ff : Int} {a b : Nat} (h1 : fl a = fl b) (h2 : nt a = nt b) (h3 : bs = 0) (h4 : ¬ ff = 0) : ff = rg_oD lo fl nt bs ff a b ∧ 2 = rg_oK lo fl nt bs ff a b := by
  unfold rg_oD rg_oK
  rw [if_neg (fun q => q h1), if_neg (fun q => q h2), if_neg (fun q => q h3), if_pos h4, if_neg (fun q => q h1), if_neg (fun q => q h2), if_neg (fun q => q h3), if_pos h4]; exact ⟨rfl, rfl⟩
theorem rg_oD_5 {lo fl nt : Nat → Int} {bs ff x : Int} {a b : Nat} (h1 : fl a = fl b) (h2 : nt a = nt b) (h3 : bs = 0) (h4 : ff = 0) (hx : x = rg_l0 (lo a) - rg_l0 (lo b)) (h5 : ¬ x = 0) : x = rg_oD lo fl nt bs ff a b ∧ 3 = rg_oK lo fl nt bs ff a b := by
  unfold rg_oD rg_oK
  rw [hx] at h5 ⊢
  rw [if_neg (fun q => q h1), if_neg (fun q => q h2), if_neg (fun q => q h3), if_neg (fun q => q h4), if_pos h5, if_neg (fun q => q h1), if_neg (fun q => q h2), if_neg (fun q => q h3), if_neg (fun q => q h4), if_pos h5]; exact ⟨rfl, rfl⟩
theorem rg_oD_6 {lo fl nt : Nat → Int} {bs ff x : Int} {a b : Nat} (h1 : fl a = fl b) (h2 : nt a = nt b) (h3 : bs = 0) (h4 : ff = 0) (hx : x = rg_l0 (lo a) - rg_l0 (lo b)) (h5 : x = 0) : (a : Int) - (b : Int) = rg_oD lo fl nt bs ff a b ∧ 4 = rg_oK lo fl nt bs ff a b := by
  unfold rg_oD rg_oK
  rw [hx] at h5
  rw [if_neg (fun q => q h1), if_neg (fun q => q h2), if_neg (fun q => q h3), if_neg (fun q => q h4), if_neg (fun q => q h5), if_neg (fun q => q h1), if_neg (fun q => q h2), if_neg (fun q => q h3), if_neg (fun q => q h4), if_neg (fun q => q h5)]; exact ⟨rfl, rfl⟩
theorem rg_oD_bd {lo fl nt : Nat → Int} {bs ff : Int} {a b : Nat} (ha : a < 40) (hb : b < 40) (h1 : ∀ j, 0 ≤ lo j ∧ lo j ≤ 999) (h2 : ∀ j, 0 ≤ fl j ∧ fl j ≤ 3) (h3 : ∀ j, -1000000 ≤ nt j ∧ nt j ≤ 1000000) (h4 : -16 ≤ bs ∧ bs ≤ 16) (h5 : -19998 ≤ ff ∧ ff ≤ 19998) : -2000000 ≤ rg_oD lo fl nt bs ff a b ∧ rg_oD lo fl nt bs ff a b ≤ 2000000 := by
  have q1 := h1 a
  have q2 := h1 b
  have q3 := h2 a
  have q4 := h2 b
  have q5 := h3 a
  have q6 := h3 b
  have q7 := rg_l0_e (lo a)
  have q8 := rg_l0_e (lo b)
  unfold rg_oD
  (repeat' split) <;> omega
noncomputable def rg_od (lo fl nt sl rf kd pt lf : Nat → Int) (nr a b : Nat) : Int := rg_oD lo fl nt (rg_bS sl rf fl kd pt lf nr a b (2 * nr)).2 (rg_ff sl rf fl kd pt a b nr) a b
noncomputable def rg_ok (lo fl nt sl rf kd pt lf : Nat → Int) (nr a b : Nat) : Int := rg_oK lo fl nt (rg_bS sl rf fl kd pt lf nr a b (2 * nr)).2 (rg_ff sl rf fl kd pt a b nr) a b
/-- the object's cell while the ranks are counted: the step is the last order's -/
noncomputable def rg_rC (k : Nat → Nat → Int) (boat : Nat) (c0 : Nat → Int) : Nat → Nat → Int
  | 0 => c0
  | b + 1 => @ite (Nat → Int) (b = boat) (Classical.propDecidable _) (rg_rC k boat c0 b) (rg_up (rg_rC k boat c0 b) 32 (k b boat))
theorem rg_rC_ne (k : Nat → Nat → Int) (boat : Nat) (c0 : Nat → Int) (n : Nat) {j : Nat} (hj : j ≠ 32) : rg_rC k boat c0 n j = c0 j := by
  induction n with
  | zero => rfl
  | succ n ih =>
    rw [rg_rC]
    by_cases z : n = boat
    · rw [if_pos z]; exact ih
    · rw [if_neg z]; unfold rg_up; rw [if_neg hj]; exact ih
theorem rg_rC_t {k : Nat → Nat → Int} {boat : Nat} {c0 : Nat → Int} {b : Nat} (h : b = boat) : rg_rC k boat c0 b = rg_rC k boat c0 (b + 1) := (@if_pos _ (Classical.propDecidable _) h _ _ _).symm
theorem rg_rC_f {k : Nat → Nat → Int} {boat : Nat} {c0 : Nat → Int} {b : Nat} (h : ¬ b = boat) : rg_up (rg_rC k boat c0 b) 32 (k b boat) = rg_rC k boat c0 (b + 1) := (@if_neg _ (Classical.propDecidable _) h _ _ _).symm
noncomputable def rg_rA (k : Nat → Nat → Int) (nb : Nat) (c0 : Nat → Int) : Nat → Nat → Int
  | 0 => c0
  | b + 1 => rg_rC k b (rg_rA k nb c0 b) nb
theorem rg_rA_ne (k : Nat → Nat → Int) (nb : Nat) (c0 : Nat → Int) (n : Nat) {j : Nat} (hj : j ≠ 32) : rg_rA k nb c0 n j = c0 j := by
  induction n with
  | zero => rfl
  | succ n ih => rw [rg_rA, rg_rC_ne _ _ _ _ hj]; exact ih
noncomputable def rg_rO (d : Nat → Nat → Int) (nb boat : Nat) : Nat := 1 + rg_cnt (fun c => ¬ c = boat ∧ d c boat < 0) nb
theorem rg_rO_bd (d : Nat → Nat → Int) (nb boat : Nat) : 1 ≤ ((rg_rO d nb boat : Nat) : Int) ∧ ((rg_rO d nb boat : Nat) : Int) ≤ nb + 1 := by
  have : rg_cnt (fun c => ¬ c = boat ∧ d c boat < 0) nb ≤ nb := rg_cnt_le _ _
  unfold rg_rO
  omega
