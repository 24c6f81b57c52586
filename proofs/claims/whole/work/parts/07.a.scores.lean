/-! Words for the score table: columns of a boat; what is left out, one race behind the other. -/
noncomputable def rg_col (f : Nat → Int) (n b : Nat) (p : Nat → Prop) (g : Nat → Int) : Nat → Int := fun j => rg_ite (j % 40 = b ∧ j / 40 < n ∧ p (j / 40)) (g (j / 40)) (f j)
theorem rg_col_0 (f : Nat → Int) (b : Nat) (p : Nat → Prop) (g : Nat → Int) : f = rg_col f 0 b p g := by
  funext j; unfold rg_col; rw [rg_ite_f (fun q => by have := q.2.1; omega)]
theorem rg_col_s (f : Nat → Int) {n b : Nat} {p : Nat → Prop} (g : Nat → Int) (hb : b < 40) (hp : p n) {v : Int} (hv : v = g n) : rg_up (rg_col f n b p g) (n * 40 + b) v = rg_col f (n + 1) b p g := by
  subst hv
  have h1 : (n * 40 + b) / 40 = n := by omega
  have h2 : (n * 40 + b) % 40 = b := by omega
  funext j; unfold rg_up rg_col
  by_cases z : j = n * 40 + b
  · rw [if_pos z, z, h1, h2, rg_ite_t ⟨rfl, by omega, hp⟩]
  · rw [if_neg z]
    have : (j % 40 = b ∧ j / 40 < n ∧ p (j / 40)) ↔ (j % 40 = b ∧ j / 40 < n + 1 ∧ p (j / 40)) := by
      constructor
      · rintro ⟨a1, a2, a3⟩; exact ⟨a1, by omega, a3⟩
      · rintro ⟨a1, a2, a3⟩; exact ⟨a1, by omega, a3⟩
    rw [rg_ite_congr this]
theorem rg_col_k (f : Nat → Int) {n b : Nat} {p : Nat → Prop} (g : Nat → Int) (hp : ¬ p n) : rg_col f n b p g = rg_col f (n + 1) b p g := by
  funext j; unfold rg_col
  refine rg_ite_congr ?_ _ _
  constructor
  · rintro ⟨a1, a2, a3⟩; exact ⟨a1, by omega, a3⟩
  · rintro ⟨a1, a2, a3⟩
    refine ⟨a1, ?_, a3⟩
    by_cases z : j / 40 = n
    · rw [z] at a3; exact absurd a3 hp
    · omega
theorem rg_col_at (f : Nat → Int) {n b o : Nat} {p : Nat → Prop} (g : Nat → Int) (hb : b < 40) (ho : o < n) (hp : p o) : rg_col f n b p g (o * 40 + b) = g o := by
  have h1 : (o * 40 + b) / 40 = o := by omega
  have h2 : (o * 40 + b) % 40 = b := by omega
  unfold rg_col
  rw [h1, h2, rg_ite_t ⟨rfl, ho, hp⟩]
theorem rg_col_up (f : Nat → Int) {n b o : Nat} (g : Nat → Int) (v : Int) (hb : b < 40) (ho : o < n) : rg_up (rg_col f n b (fun _ => True) g) (o * 40 + b) v = rg_col f n b (fun _ => True) (rg_up g o v) := by
  have h1 : (o * 40 + b) / 40 = o := by omega
  have h2 : (o * 40 + b) % 40 = b := by omega
  funext j
  by_cases z : j = o * 40 + b
  · rw [z, rg_up_same]
    unfold rg_col
    rw [h1, h2, rg_ite_t ⟨rfl, ho, trivial⟩, rg_up_same]
  · rw [rg_up_ne _ _ z]
    unfold rg_col
    rcases Classical.em (j % 40 = b ∧ j / 40 < n ∧ True) with y | y
    · rw [rg_ite_t y, rg_ite_t y, rg_up_ne _ _ (by omega)]
    · rw [rg_ite_f y, rg_ite_f y]
/-- columns 0 .. b - 1 -/
noncomputable def rg_ctb (f : Nat → Int) (n b : Nat) (p : Nat → Nat → Prop) (g : Nat → Nat → Int) : Nat → Int := fun j => rg_ite (j % 40 < b ∧ j / 40 < n ∧ p (j / 40) (j % 40)) (g (j / 40) (j % 40)) (f j)
theorem rg_ctb_0 (f : Nat → Int) (n : Nat) (p : Nat → Nat → Prop) (g : Nat → Nat → Int) : f = rg_ctb f n 0 p g := by
  funext j; unfold rg_ctb; rw [rg_ite_f (fun q => by have := q.1; omega)]
theorem rg_ctb_s (f : Nat → Int) (n b : Nat) (p : Nat → Nat → Prop) (g : Nat → Nat → Int) {q : Nat → Prop} {k : Nat → Int} (hq : ∀ o, o < n → (q o ↔ p o b)) (hk : ∀ o, o < n → p o b → k o = g o b) : rg_col (rg_ctb f n b p g) n b q k = rg_ctb f n (b + 1) p g := by
  funext j; unfold rg_col rg_ctb
  rcases Classical.em (j % 40 = b ∧ j / 40 < n ∧ q (j / 40)) with z | z
  · obtain ⟨z1, z2, z3⟩ := z
    have z4 := (hq _ z2).mp z3
    rw [rg_ite_t ⟨z1, z2, z3⟩, rg_ite_t ⟨by omega, z2, by rw [z1]; exact z4⟩, hk _ z2 z4, z1]
  · rw [rg_ite_f z]
    refine rg_ite_congr ?_ _ _
    constructor
    · rintro ⟨a1, a2, a3⟩; exact ⟨by omega, a2, a3⟩
    · rintro ⟨a1, a2, a3⟩
      refine ⟨?_, a2, a3⟩
      by_cases y : j % 40 = b
      · rw [y] at a3; exact absurd ⟨y, a2, (hq _ a2).mpr a3⟩ z
      · omega
theorem rg_ctb_at (f : Nat → Int) {n b o c : Nat} (p : Nat → Nat → Prop) (g : Nat → Nat → Int) (hb : c < b) (hc : c < 40) (ho : o < n) (hp : p o c) : rg_ctb f n b p g (o * 40 + c) = g o c := by
  have h1 : (o * 40 + c) / 40 = o := by omega
  have h2 : (o * 40 + c) % 40 = c := by omega
  unfold rg_ctb
  rw [h1, h2, rg_ite_t ⟨hb, ho, hp⟩]
theorem rg_ctb_out (f : Nat → Int) {n b o c : Nat} (p : Nat → Nat → Prop) (g : Nat → Nat → Int) (hb : b ≤ c) (hc : c < 40) : rg_ctb f n b p g (o * 40 + c) = f (o * 40 + c) := by
  have h2 : (o * 40 + c) % 40 = c := by omega
  unfold rg_ctb
  rw [h2, rg_ite_f (fun q => by have := q.1; omega)]
/-- how many races the last step that fits leaves out -/
def rg_al (sr sl : Nat → Int) (m : Int) : Nat → Int
  | 0 => 0
  | k + 1 => if sr k ≤ m then sl k else rg_al sr sl m k
theorem rg_al_bd {sr sl : Nat → Int} {m : Int} {n : Nat} (h : ∀ k, k < n → 0 ≤ sl k ∧ sl k ≤ 15) : 0 ≤ rg_al sr sl m n ∧ rg_al sr sl m n ≤ 15 := by
  induction n with
  | zero => exact ⟨Int.le_refl _, by show (0 : Int) ≤ 15; omega⟩
  | succ n ih =>
    rw [rg_al]
    split
    · exact h n (by omega)
    · exact ih (fun k hk => h k (by omega))
def rg_k2 (x : Int) : Int := if x = 2 then 2 else 1
abbrev rg_cn (ins kd en : Nat → Int) (r b : Nat) : Prop := ¬ ins (r * 40 + b) = 0 ∧ ¬ kd r = 2 ∧ ¬ en (r * 40 + b) = 5
/-- the worst race that can be left out and isn't yet, of the races below r -/
noncomputable def rg_wst (can : Nat → Prop) (S d : Nat → Int) : Nat → Int
  | 0 => -1
  | r + 1 => rg_ite ((can r ∧ d r = 0) ∧ (rg_wst can S d r = -1 ∨ S (Int.toNat (rg_wst can S d r)) < S r)) (r : Int) (rg_wst can S d r)
theorem rg_wst_new {can : Nat → Prop} {S d : Nat → Int} {r : Nat} {w : Int} (hw : w = rg_wst can S d r) (h : can r ∧ d r = 0) (h2 : w = -1 ∨ S (Int.toNat w) < S r) : (r : Int) = rg_wst can S d (r + 1) := by
  rw [rg_wst, rg_ite_t ⟨h, by rw [← hw]; exact h2⟩]
theorem rg_wst_keep {can : Nat → Prop} {S d : Nat → Int} {r : Nat} {w : Int} (hw : w = rg_wst can S d r) (h : ¬ (can r ∧ d r = 0) ∨ (¬ w = -1 ∧ S r ≤ S (Int.toNat w))) : w = rg_wst can S d (r + 1) := by
  rw [rg_wst, rg_ite_f]
  · exact hw
  · rintro ⟨q1, q2⟩
    rw [← hw] at q2
    rcases h with h | ⟨h1, h2⟩
    · exact h q1
    · rcases q2 with q2 | q2
      · exact h1 q2
      · omega
theorem rg_wst_bd (can : Nat → Prop) (S d : Nat → Int) (r : Nat) : -1 ≤ rg_wst can S d r ∧ rg_wst can S d r < r := by
  induction r with
  | zero => exact ⟨Int.le_refl _, by show (-1 : Int) < ((0 : Nat) : Int); omega⟩
  | succ r ih =>
    rw [rg_wst]
    rcases Classical.em ((can r ∧ d r = 0) ∧ (rg_wst can S d r = -1 ∨ S (Int.toNat (rg_wst can S d r)) < S r)) with z | z
    · rw [rg_ite_t z]; omega
    · rw [rg_ite_f z]; omega
theorem rg_wst_congr {can can' : Nat → Prop} {S S' d d' : Nat → Int} {n : Nat} (h1 : ∀ o, o < n → (can o ↔ can' o)) (h2 : ∀ o, o < n → can o → S o = S' o) (h3 : ∀ o, o < n → d o = d' o) : rg_wst can S d n = rg_wst can' S' d' n ∧ (rg_wst can S d n = -1 ∨ can (Int.toNat (rg_wst can S d n))) := by
  induction n with
  | zero => exact ⟨rfl, Or.inl rfl⟩
  | succ n ih =>
    obtain ⟨i1, i2⟩ := ih (fun o ho => h1 o (by omega)) (fun o ho => h2 o (by omega)) (fun o ho => h3 o (by omega))
    have hbd := rg_wst_bd can S d n
    have key : ((can n ∧ d n = 0) ∧ (rg_wst can S d n = -1 ∨ S (Int.toNat (rg_wst can S d n)) < S n)) ↔ ((can' n ∧ d' n = 0) ∧ (rg_wst can' S' d' n = -1 ∨ S' (Int.toNat (rg_wst can' S' d' n)) < S' n)) := by
      rw [← i1, h3 n (by omega), ← h1 n (by omega)]
      constructor
      · rintro ⟨⟨q1, q2⟩, q3⟩
        refine ⟨⟨q1, q2⟩, ?_⟩
        rcases q3 with q3 | q3
        · exact Or.inl q3
        · rcases i2 with i2 | i2
          · exact Or.inl i2
          · rw [h2 _ (by omega) i2, h2 n (by omega) q1] at q3; exact Or.inr q3
      · rintro ⟨⟨q1, q2⟩, q3⟩
        refine ⟨⟨q1, q2⟩, ?_⟩
        rcases q3 with q3 | q3
        · exact Or.inl q3
        · rcases i2 with i2 | i2
          · exact Or.inl i2
          · rw [← h2 _ (by omega) i2, ← h2 n (by omega) q1] at q3; exact Or.inr q3
    rw [rg_wst, rg_wst]
    rcases Classical.em ((can n ∧ d n = 0) ∧ (rg_wst can S d n = -1 ∨ S (Int.toNat (rg_wst can S d n)) < S n)) with z | z
    · rw [rg_ite_t z, rg_ite_t (key.mp z)]
      exact ⟨rfl, Or.inr (by rw [show Int.toNat (n : Int) = n from Int.toNat_natCast n]; exact z.1.1)⟩
    · rw [rg_ite_f z, rg_ite_f (fun y => z (key.mpr y))]
      exact ⟨i1, i2⟩
/-- what is left out behind n turns: which races, how many, what is left of the sum -/
noncomputable def rg_Dt (can : Nat → Prop) (S : Nat → Int) (nr : Nat) : Nat → (Nat → Int)
  | 0 => fun _ => 0
  | n + 1 => if rg_wst can S (rg_Dt can S nr n) nr = -1 then rg_Dt can S nr n else rg_up (rg_Dt can S nr n) (Int.toNat (rg_wst can S (rg_Dt can S nr n) nr)) 1
noncomputable def rg_Ct (can : Nat → Prop) (S : Nat → Int) (nr : Nat) : Nat → Int
  | 0 => 0
  | n + 1 => if rg_wst can S (rg_Dt can S nr n) nr = -1 then rg_Ct can S nr n else rg_Ct can S nr n + 1
noncomputable def rg_Nt (can : Nat → Prop) (S : Nat → Int) (nr : Nat) (g : Int) : Nat → Int
  | 0 => g
  | n + 1 => if rg_wst can S (rg_Dt can S nr n) nr = -1 then rg_Nt can S nr g n else rg_Nt can S nr g n - S (Int.toNat (rg_wst can S (rg_Dt can S nr n) nr))
theorem rg_Dt_w {can : Nat → Prop} {S : Nat → Int} {nr n : Nat} (h : ¬ rg_wst can S (rg_Dt can S nr n) nr = -1) : rg_up (rg_Dt can S nr n) (Int.toNat (rg_wst can S (rg_Dt can S nr n) nr)) 1 = rg_Dt can S nr (n + 1) := (if_neg h).symm
theorem rg_Ct_w {can : Nat → Prop} {S : Nat → Int} {nr n : Nat} (h : ¬ rg_wst can S (rg_Dt can S nr n) nr = -1) : rg_Ct can S nr n + 1 = rg_Ct can S nr (n + 1) := (if_neg h).symm
theorem rg_Nt_w {can : Nat → Prop} {S : Nat → Int} {nr n : Nat} {g : Int} (h : ¬ rg_wst can S (rg_Dt can S nr n) nr = -1) : rg_Nt can S nr g n - S (Int.toNat (rg_wst can S (rg_Dt can S nr n) nr)) = rg_Nt can S nr g (n + 1) := (if_neg h).symm
theorem rg_Dt_stop {can : Nat → Prop} {S : Nat → Int} {nr n : Nat} (h : rg_wst can S (rg_Dt can S nr n) nr = -1) (m : Nat) : rg_Dt can S nr (n + m) = rg_Dt can S nr n := by
  induction m with
  | zero => rfl
  | succ m ih =>
    show rg_Dt can S nr ((n + m) + 1) = _
    rw [rg_Dt, ih, if_pos h]
theorem rg_Ct_stop {can : Nat → Prop} {S : Nat → Int} {nr n : Nat} (h : rg_wst can S (rg_Dt can S nr n) nr = -1) (m : Nat) : rg_Ct can S nr (n + m) = rg_Ct can S nr n := by
  induction m with
  | zero => rfl
  | succ m ih =>
    show rg_Ct can S nr ((n + m) + 1) = _
    rw [rg_Ct, ih, rg_Dt_stop h, if_pos h]
theorem rg_Nt_stop {can : Nat → Prop} {S : Nat → Int} {nr n : Nat} {g : Int} (h : rg_wst can S (rg_Dt can S nr n) nr = -1) (m : Nat) : rg_Nt can S nr g (n + m) = rg_Nt can S nr g n := by
  induction m with
  | zero => rfl
  | succ m ih =>
    show rg_Nt can S nr g ((n + m) + 1) = _
    rw [rg_Nt, ih, rg_Dt_stop h, if_pos h]
theorem rg_Dt_congr {can can' : Nat → Prop} {S S' : Nat → Int} {nr : Nat} (h1 : ∀ o, o < nr → (can o ↔ can' o)) (h2 : ∀ o, o < nr → can o → S o = S' o) (g : Int) (n : Nat) : rg_Dt can S nr n = rg_Dt can' S' nr n ∧ rg_Ct can S nr n = rg_Ct can' S' nr n ∧ rg_Nt can S nr g n = rg_Nt can' S' nr g n := by
  induction n with
  | zero => exact ⟨rfl, rfl, rfl⟩
  | succ n ih =>
    obtain ⟨i1, i2, i3⟩ := ih
    have hw := rg_wst_congr (d := rg_Dt can S nr n) (d' := rg_Dt can' S' nr n) h1 h2 (fun o _ => by rw [i1])
    rw [rg_Dt, rg_Dt, rg_Ct, rg_Ct, rg_Nt, rg_Nt, ← hw.1, ← i1, ← i2, ← i3]
    refine ⟨rfl, rfl, ?_⟩
    split
    · rfl
    · rename_i z
      have hbd := rg_wst_bd can S (rg_Dt can S nr n) nr
      rw [h2 _ (by omega) (hw.2.resolve_left z)]
theorem rg_col_Rg {f : Nat → Int} {n b : Nat} {p : Nat → Prop} {g : Nat → Int} (h1 : ∀ j, rg_Rg (f j)) (h2 : ∀ o, rg_Rg (g o)) (j : Nat) : rg_Rg (rg_col f n b p g j) := by
  unfold rg_col
  rcases Classical.em (j % 40 = b ∧ j / 40 < n ∧ p (j / 40)) with z | z
  · rw [rg_ite_t z]; exact h2 _
  · rw [rg_ite_f z]; exact h1 _
theorem rg_Dt_01 (can : Nat → Prop) (S : Nat → Int) (nr n o : Nat) : rg_Dt can S nr n o = 0 ∨ rg_Dt can S nr n o = 1 := by
  induction n with
  | zero => exact Or.inl rfl
  | succ n ih =>
    rw [rg_Dt]
    split
    · exact ih
    · unfold rg_up
      split
      · exact Or.inr rfl
      · exact ih
theorem rg_Dt_Rg (can : Nat → Prop) (S : Nat → Int) (nr n o : Nat) : rg_Rg (rg_Dt can S nr n o) := by
  rcases rg_Dt_01 can S nr n o with h | h <;> rw [h] <;> exact ⟨by omega, by omega⟩
