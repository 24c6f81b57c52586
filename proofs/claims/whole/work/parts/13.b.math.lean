/-! Leaving out the worst again and again is leaving out those that few are worse than. -/
abbrev rg_so (S : Nat → Int) (o r : Nat) : Prop := S r < S o ∨ (S o = S r ∧ o < r)
noncomputable def rg_rn (can : Nat → Prop) (S : Nat → Int) (nr r : Nat) : Nat := rg_cnt (fun o => can o ∧ rg_so S o r) nr
theorem rg_wst_sp {can : Nat → Prop} {S d : Nat → Int} (n : Nat) : (rg_wst can S d n = -1 ∧ ∀ r, r < n → ¬ (can r ∧ d r = 0)) ∨ (∃ w : Nat, w < n ∧ rg_wst can S d n = (w : Int) ∧ (can w ∧ d w = 0) ∧ ∀ r, r < n → can r ∧ d r = 0 → r = w ∨ rg_so S w r) := by
  induction n with
  | zero => exact Or.inl ⟨rfl, fun r hr => by omega⟩
  | succ n ih =>
    by_cases z : can n ∧ d n = 0
    · rcases ih with ⟨i1, i2⟩ | ⟨w, i1, i2, i3, i4⟩
      · refine Or.inr ⟨n, by omega, (rg_wst_new rfl z (Or.inl i1)).symm, z, fun r hr h => ?_⟩
        by_cases e : r = n
        · exact Or.inl e
        · exact absurd h (i2 r (by omega))
      · by_cases y : S w < S n
        · refine Or.inr ⟨n, by omega, (rg_wst_new rfl z (Or.inr (by rw [i2, Int.toNat_natCast]; exact y))).symm, z, fun r hr h => ?_⟩
          by_cases e : r = n
          · exact Or.inl e
          · rcases i4 r (by omega) h with q | q
            · right; left; rw [q]; exact y
            · right; left; rcases q with q | q <;> omega
        · refine Or.inr ⟨w, by omega, (rg_wst_keep rfl (Or.inr ⟨by omega, by rw [i2, Int.toNat_natCast]; omega⟩)).symm.trans i2, i3, fun r hr h => ?_⟩
          by_cases e : r = n
          · right; rw [e]; by_cases x : S n < S w
            · exact Or.inl x
            · exact Or.inr ⟨by omega, i1⟩
          · exact i4 r (by omega) h
    · have hk := (rg_wst_keep (can := can) (S := S) (d := d) (r := n) rfl (Or.inl z)).symm
      rcases ih with ⟨i1, i2⟩ | ⟨w, i1, i2, i3, i4⟩
      · refine Or.inl ⟨hk.trans i1, fun r hr => ?_⟩
        by_cases e : r = n
        · rw [e]; exact z
        · exact i2 r (by omega)
      · refine Or.inr ⟨w, by omega, hk.trans i2, i3, fun r hr h => ?_⟩
        by_cases e : r = n
        · rw [e] at h; exact absurd h z
        · exact i4 r (by omega) h
theorem rg_cnt_lt {p q : Nat → Prop} {n w : Nat} (h : ∀ i, i < n → p i → q i) (hw : w < n) (h1 : q w) (h2 : ¬ p w) : rg_cnt p n < rg_cnt q n := by
  induction n with
  | zero => omega
  | succ n ih =>
    by_cases e : w = n
    · subst e
      have := rg_cnt_mono (p := p) (q := q) (n := w) (fun i hi => h i (by omega))
      rw [rg_cnt_f h2, rg_cnt_t h1]; omega
    · have := ih (fun i hi => h i (by omega)) (by omega)
      by_cases x : p n
      · rw [rg_cnt_t x, rg_cnt_t (h n (by omega) x)]; omega
      · rw [rg_cnt_f x]
        by_cases y : q n
        · rw [rg_cnt_t y]; omega
        · rw [rg_cnt_f y]; exact this
theorem rg_cnt_add {p q : Nat → Prop} {n w : Nat} (h : ∀ i, i < n → ¬ i = w → (p i ↔ q i)) (hw : w < n) (h1 : q w) (h2 : ¬ p w) : rg_cnt q n = rg_cnt p n + 1 := by
  induction n with
  | zero => omega
  | succ n ih =>
    by_cases e : w = n
    · subst e
      rw [rg_cnt_f h2, rg_cnt_t h1, rg_cnt_congr (p := q) (q := p) (n := w) (fun i hi => (h i (by omega) (by omega)).symm)]
    · have := ih (fun i hi => h i (by omega)) (by omega)
      by_cases x : p n
      · rw [rg_cnt_t x, rg_cnt_t ((h n (by omega) (fun z => e z.symm)).mp x)]; omega
      · rw [rg_cnt_f x, rg_cnt_f (fun y => x ((h n (by omega) (fun z => e z.symm)).mpr y))]; exact this
theorem rg_rn_lt {can : Nat → Prop} {S : Nat → Int} {nr w r : Nat} (hw : w < nr) (hc : can w) (h : rg_so S w r) : rg_rn can S nr w < rg_rn can S nr r := by
  refine rg_cnt_lt (w := w) (fun i _ hi => ⟨hi.1, ?_⟩) hw ⟨hc, h⟩ (fun z => ?_)
  · rcases hi.2 with q | q <;> rcases h with y | y
    · exact Or.inl (by omega)
    · exact Or.inl (by omega)
    · exact Or.inl (by omega)
    · exact Or.inr ⟨by omega, by omega⟩
  · rcases z.2 with q | q <;> omega
theorem rg_Dt_rn {can : Nat → Prop} {S : Nat → Int} {nr : Nat} (m : Nat) : (∀ r, r < nr → (¬ rg_Dt can S nr m r = 0 ↔ can r ∧ rg_rn can S nr r < m)) ∧ (rg_cnt (fun o => ¬ rg_Dt can S nr m o = 0) nr = m ∨ ∀ r, r < nr → can r → ¬ rg_Dt can S nr m r = 0) := by
  induction m with
  | zero =>
    refine ⟨fun r _ => ⟨fun h => absurd rfl h, fun h => by omega⟩, Or.inl ?_⟩
    exact rg_cnt_zero (fun i _ h => h rfl)
  | succ m ih =>
    obtain ⟨a, b⟩ := ih
    rcases rg_wst_sp (can := can) (S := S) (d := rg_Dt can S nr m) nr with ⟨w1, w2⟩ | ⟨w, w1, w2, w3, w4⟩
    · have e : rg_Dt can S nr (m + 1) = rg_Dt can S nr m := rg_Dt_stop w1 1
      rw [e]
      have all : ∀ r, r < nr → can r → ¬ rg_Dt can S nr m r = 0 := fun r hr hc h => w2 r hr ⟨hc, h⟩
      refine ⟨fun r hr => ⟨fun h => ⟨((a r hr).mp h).1, by have := ((a r hr).mp h).2; omega⟩, fun h => all r hr h.1⟩, Or.inr all⟩
    · have e : rg_Dt can S nr (m + 1) = rg_up (rg_Dt can S nr m) w 1 := by
        rw [← rg_Dt_w (by rw [w2]; omega), w2, Int.toNat_natCast]
      have hm : rg_cnt (fun o => ¬ rg_Dt can S nr m o = 0) nr = m := by
        rcases b with b | b
        · exact b
        · exact absurd w3.2 (b w w1 w3.1)
      have hge : m ≤ rg_rn can S nr w := by
        by_cases x : rg_rn can S nr w < m
        · exact absurd w3.2 ((a w w1).mpr ⟨w3.1, x⟩)
        · omega
      have hrw : rg_rn can S nr w = m := by
        rw [← hm]
        refine rg_cnt_congr (fun o ho => ⟨fun h => ?_, fun h => ?_⟩)
        · intro z
          rcases w4 o ho ⟨h.1, z⟩ with q | q
          · rw [q] at h; rcases h.2 with y | y <;> omega
          · rcases h.2 with y | y <;> rcases q with q | q <;> omega
        · have h9 := (a o ho).mp h
          refine ⟨h9.1, ?_⟩
          by_cases x : rg_so S o w
          · exact x
          · exfalso
            by_cases y : rg_so S w o
            · have := rg_rn_lt (can := can) (nr := nr) w1 w3.1 y; omega
            · have : o = w := by
                have x1 : ¬ S w < S o := fun t => x (Or.inl t)
                have y1 : ¬ S o < S w := fun t => y (Or.inl t)
                have x2 : ¬ o < w := fun t => x (Or.inr ⟨by omega, t⟩)
                have y2 : ¬ w < o := fun t => y (Or.inr ⟨by omega, t⟩)
                omega
              rw [this] at h; exact h w3.2
      rw [e]
      refine ⟨fun r hr => ?_, Or.inl ?_⟩
      · by_cases x : r = w
        · subst x
          exact ⟨fun _ => ⟨w3.1, by omega⟩, fun _ => by rw [rg_up, if_pos rfl]; decide⟩
        · rw [show rg_up (rg_Dt can S nr m) w 1 r = rg_Dt can S nr m r from if_neg x]
          refine (a r hr).trans ⟨fun h => ⟨h.1, by omega⟩, fun h => ⟨h.1, ?_⟩⟩
          by_cases y : rg_rn can S nr r < m
          · exact y
          · exfalso
            have hz : rg_Dt can S nr m r = 0 := by
              by_cases t : rg_Dt can S nr m r = 0
              · exact t
              · exact absurd ((a r hr).mp t).2 y
            rcases w4 r hr ⟨h.1, hz⟩ with q | q
            · exact x q
            · have := rg_rn_lt (can := can) (nr := nr) w1 w3.1 q; omega
      · rw [rg_cnt_add (p := fun o => ¬ rg_Dt can S nr m o = 0) (w := w) (fun i _ hi => by rw [show rg_up (rg_Dt can S nr m) w 1 i = rg_Dt can S nr m i from if_neg hi]) w1 (by show ¬ rg_up _ w 1 w = 0; rw [rg_up, if_pos rfl]; decide) (fun z => z w3.2), hm]
