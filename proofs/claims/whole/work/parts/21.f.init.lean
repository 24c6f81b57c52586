/-! The two worlds at their beginning. -/
def rg_s0 : rg_S := rg_wr (rg_wr (rg_wr (fun _ _ => 0) 16 (fun _ => -1)) 25 (fun _ => -1)) 0 (rg_up (fun _ => 0) 9 1)
def rg_t0 : rg_S := fun _ _ => 0
theorem rg_s0_at {k : Nat} (h0 : ¬ k = 0) (h1 : ¬ k = 16) (h2 : ¬ k = 25) : rg_s0 k = fun _ => 0 := by
  unfold rg_s0
  rw [rg_wr_ne _ _ h0, rg_wr_ne _ _ h2, rg_wr_ne _ _ h1]
theorem rg_s0_0 : rg_s0 0 = rg_up (fun _ => 0) 9 1 := by
  unfold rg_s0
  rw [rg_wr_same]
theorem rg_s0_16 : rg_s0 16 = fun _ => -1 := by
  unfold rg_s0
  rw [rg_wr_ne _ _ (by decide), rg_wr_ne _ _ (by decide), rg_wr_same]
theorem rg_s0_25 : rg_s0 25 = fun _ => -1 := by
  unfold rg_s0
  rw [rg_wr_ne _ _ (by decide), rg_wr_same]
theorem rg_el_l (κ : rg_K) (ad : Nat → Nat) {f f' : Nat → Int} {x : Nat × Nat} (h : f = f') : rg_el (κ.1, κ.2.1, κ.2.2.1, ad) f (.inl x) = rg_el κ f' (.inl x) := by
  subst h; rfl
theorem rg_wdM {κ : rg_K} {tb : List rg_Sh} {σ : rg_S} {w : va_W} {pi : List Nat} (hl : pi.length = tb.length) (h : ∀ k sh, tb[k]? = some sh → ∃ p, pi[k]? = some p ∧ w[p]? = some (κ.2.2.2 k, rg_el κ (σ k) sh)) : pi.map (fun i => w[i]?) = (rg_wd κ tb σ).map some := by
  apply List.ext_getElem?
  intro k
  by_cases hk : k < tb.length
  · obtain ⟨p, h1, h2⟩ := h k _ (List.getElem?_eq_getElem hk)
    rw [List.getElem?_map, List.getElem?_map, h1, rg_wd_get σ (List.getElem?_eq_getElem hk)]
    exact congrArg some h2
  · rw [List.getElem?_eq_none (by rw [List.length_map, hl]; omega), List.getElem?_eq_none (by rw [List.length_map, rg_wd_len]; omega)]
def rg_pi10 : List Nat := [0, 1, 2, 3, 4, 5, 6, 7, 8, 9, 10, 11, 12, 13, 14, 15, 16, 17, 18, 19, 20, 21, 22, 23, 24, 25, 26]
def rg_w10 (κ : rg_K) (ad : Nat → Nat) : va_W := ((ad 0, .inr (10, (.int (rg_I 0) :: .int (rg_I 0) :: .ref (ad 1) :: .ref (ad 2) :: .int (rg_I 0) :: .ref (ad 3) :: .ref (ad 4) :: .ref (ad 5) :: .ref (ad 6) :: .ref (ad 7) :: .ref (ad 8) :: .int (rg_I 0) :: .ref (ad 9) :: .ref (ad 10) :: .ref (ad 11) :: .ref (ad 12) :: .int (rg_I 0) :: .int (rg_I 0) :: .ref (ad 13) :: .ref (ad 14) :: .int (rg_I 0) :: .ref (ad 15) :: .ref (ad 16) :: .ref (ad 17) :: .ref (ad 18) :: .ref (ad 19) :: .ref (ad 20) :: .ref (ad 21) :: .ref (ad 22) :: .ref (ad 23) :: .ref (ad 24) :: .ref (ad 25) :: .int (rg_I 0) :: .int (rg_I 0) :: .ref (ad 26) :: []))) :: ((ad 1), rg_el κ (fun _ => 0) (.inl (1, 40))) :: ((ad 2), rg_el κ (fun _ => 0) (.inl (1, 40))) :: ((ad 3), rg_el κ (fun _ => 0) (.inl (1, 16))) :: ((ad 4), rg_el κ (fun _ => 0) (.inl (1, 16))) :: ((ad 5), rg_el κ (fun _ => 0) (.inl (2, 16))) :: ((ad 6), rg_el κ (fun _ => 0) (.inl (1, 640))) :: ((ad 7), rg_el κ (fun _ => 0) (.inl (1, 640))) :: ((ad 8), rg_el κ (fun _ => 0) (.inl (1, 640))) :: ((ad 9), rg_el κ (fun _ => 0) (.inl (1, 41))) :: ((ad 10), rg_el κ (fun _ => 0) (.inl (1, 41))) :: ((ad 11), rg_el κ (fun _ => 0) (.inl (1, 41))) :: ((ad 12), rg_el κ (fun _ => 0) (.inl (2, 41))) :: ((ad 13), rg_el κ (fun _ => 0) (.inl (1, 6))) :: ((ad 14), rg_el κ (fun _ => 0) (.inl (1, 6))) :: ((ad 15), rg_el κ (fun _ => 0) (.inl (1, 640))) :: ((ad 16), rg_el κ (fun _ => 0) (.inl (1, 640))) :: ((ad 17), rg_el κ (fun _ => 0) (.inl (1, 640))) :: ((ad 18), rg_el κ (fun _ => 0) (.inl (2, 16))) :: ((ad 19), rg_el κ (fun _ => 0) (.inl (1, 640))) :: ((ad 20), rg_el κ (fun _ => 0) (.inl (2, 640))) :: ((ad 21), rg_el κ (fun _ => 0) (.inl (1, 40))) :: ((ad 22), rg_el κ (fun _ => 0) (.inl (1, 40))) :: ((ad 23), rg_el κ (fun _ => 0) (.inl (1, 40))) :: ((ad 24), rg_el κ (fun _ => 0) (.inl (1, 40))) :: ((ad 25), rg_el κ (fun _ => 0) (.inl (1, 40))) :: ((ad 26), rg_el κ (fun _ => 0) (.inl (1, 12000))) :: [])
theorem f_X10_w (κ : rg_K) (ad : Nat → Nat) : rg_pi10.map (fun i => (rg_w10 κ ad)[i]?) = (rg_wd (κ.1, κ.2.1, κ.2.2.1, ad) rg_tM rg_t0).map some := by
  refine rg_wdM (κ := (κ.1, κ.2.1, κ.2.2.1, ad)) rfl (fun k sh hk => ?_)
  have hk9 : k < 27 := (List.getElem?_eq_some_iff.mp hk).1
  have hc : k = 0 ∨ k = 1 ∨ k = 2 ∨ k = 3 ∨ k = 4 ∨ k = 5 ∨ k = 6 ∨ k = 7 ∨ k = 8 ∨ k = 9 ∨ k = 10 ∨ k = 11 ∨ k = 12 ∨ k = 13 ∨ k = 14 ∨ k = 15 ∨ k = 16 ∨ k = 17 ∨ k = 18 ∨ k = 19 ∨ k = 20 ∨ k = 21 ∨ k = 22 ∨ k = 23 ∨ k = 24 ∨ k = 25 ∨ k = 26 := by omega
  rcases hc with rfl | rfl | rfl | rfl | rfl | rfl | rfl | rfl | rfl | rfl | rfl | rfl | rfl | rfl | rfl | rfl | rfl | rfl | rfl | rfl | rfl | rfl | rfl | rfl | rfl | rfl | rfl
  · cases Option.some.inj (hk.symm.trans tM0)
    have e0 : List.mapIdx (rg_fv ad (fun _ => 0)) ((none :: none :: some 1 :: some 2 :: none :: some 3 :: some 4 :: some 5 :: some 6 :: some 7 :: some 8 :: none :: some 9 :: some 10 :: some 11 :: some 12 :: none :: none :: some 13 :: some 14 :: none :: some 15 :: some 16 :: some 17 :: some 18 :: some 19 :: some 20 :: some 21 :: some 22 :: some 23 :: some 24 :: some 25 :: none :: none :: some 26 :: []) : List (Option Nat)) = (.int (rg_I 0) :: .int (rg_I 0) :: .ref (ad 1) :: .ref (ad 2) :: .int (rg_I 0) :: .ref (ad 3) :: .ref (ad 4) :: .ref (ad 5) :: .ref (ad 6) :: .ref (ad 7) :: .ref (ad 8) :: .int (rg_I 0) :: .ref (ad 9) :: .ref (ad 10) :: .ref (ad 11) :: .ref (ad 12) :: .int (rg_I 0) :: .int (rg_I 0) :: .ref (ad 13) :: .ref (ad 14) :: .int (rg_I 0) :: .ref (ad 15) :: .ref (ad 16) :: .ref (ad 17) :: .ref (ad 18) :: .ref (ad 19) :: .ref (ad 20) :: .ref (ad 21) :: .ref (ad 22) :: .ref (ad 23) :: .ref (ad 24) :: .ref (ad 25) :: .int (rg_I 0) :: .int (rg_I 0) :: .ref (ad 26) :: []) := by
      simp only [List.mapIdx_cons, List.mapIdx_nil]
      rfl
    exact ⟨0, rfl, Eq.trans (b := some (ad 0, (Sum.inr (10, (.int (rg_I 0) :: .int (rg_I 0) :: .ref (ad 1) :: .ref (ad 2) :: .int (rg_I 0) :: .ref (ad 3) :: .ref (ad 4) :: .ref (ad 5) :: .ref (ad 6) :: .ref (ad 7) :: .ref (ad 8) :: .int (rg_I 0) :: .ref (ad 9) :: .ref (ad 10) :: .ref (ad 11) :: .ref (ad 12) :: .int (rg_I 0) :: .int (rg_I 0) :: .ref (ad 13) :: .ref (ad 14) :: .int (rg_I 0) :: .ref (ad 15) :: .ref (ad 16) :: .ref (ad 17) :: .ref (ad 18) :: .ref (ad 19) :: .ref (ad 20) :: .ref (ad 21) :: .ref (ad 22) :: .ref (ad 23) :: .ref (ad 24) :: .ref (ad 25) :: .int (rg_I 0) :: .int (rg_I 0) :: .ref (ad 26) :: [])) : va_E))) rfl (congrArg (fun z => some (ad 0, (Sum.inr (10, z) : va_E))) e0.symm)⟩
  · cases Option.some.inj (hk.symm.trans tM1)
    exact ⟨1, rfl, Eq.trans (b := some (ad 1, rg_el κ (fun _ => 0) (.inl (1, 40)))) rfl (congrArg (fun z => some (ad 1, z)) (rg_el_l κ ad rfl).symm)⟩
  · cases Option.some.inj (hk.symm.trans tM2)
    exact ⟨2, rfl, Eq.trans (b := some (ad 2, rg_el κ (fun _ => 0) (.inl (1, 40)))) rfl (congrArg (fun z => some (ad 2, z)) (rg_el_l κ ad rfl).symm)⟩
  · cases Option.some.inj (hk.symm.trans tM3)
    exact ⟨3, rfl, Eq.trans (b := some (ad 3, rg_el κ (fun _ => 0) (.inl (1, 16)))) rfl (congrArg (fun z => some (ad 3, z)) (rg_el_l κ ad rfl).symm)⟩
  · cases Option.some.inj (hk.symm.trans tM4)
    exact ⟨4, rfl, Eq.trans (b := some (ad 4, rg_el κ (fun _ => 0) (.inl (1, 16)))) rfl (congrArg (fun z => some (ad 4, z)) (rg_el_l κ ad rfl).symm)⟩
  · cases Option.some.inj (hk.symm.trans tM5)
    exact ⟨5, rfl, Eq.trans (b := some (ad 5, rg_el κ (fun _ => 0) (.inl (2, 16)))) rfl (congrArg (fun z => some (ad 5, z)) (rg_el_l κ ad rfl).symm)⟩
  · cases Option.some.inj (hk.symm.trans tM6)
    exact ⟨6, rfl, Eq.trans (b := some (ad 6, rg_el κ (fun _ => 0) (.inl (1, 640)))) rfl (congrArg (fun z => some (ad 6, z)) (rg_el_l κ ad rfl).symm)⟩
  · cases Option.some.inj (hk.symm.trans tM7)
    exact ⟨7, rfl, Eq.trans (b := some (ad 7, rg_el κ (fun _ => 0) (.inl (1, 640)))) rfl (congrArg (fun z => some (ad 7, z)) (rg_el_l κ ad rfl).symm)⟩
  · cases Option.some.inj (hk.symm.trans tM8)
    exact ⟨8, rfl, Eq.trans (b := some (ad 8, rg_el κ (fun _ => 0) (.inl (1, 640)))) rfl (congrArg (fun z => some (ad 8, z)) (rg_el_l κ ad rfl).symm)⟩
  · cases Option.some.inj (hk.symm.trans tM9)
    exact ⟨9, rfl, Eq.trans (b := some (ad 9, rg_el κ (fun _ => 0) (.inl (1, 41)))) rfl (congrArg (fun z => some (ad 9, z)) (rg_el_l κ ad rfl).symm)⟩
  · cases Option.some.inj (hk.symm.trans tM10)
    exact ⟨10, rfl, Eq.trans (b := some (ad 10, rg_el κ (fun _ => 0) (.inl (1, 41)))) rfl (congrArg (fun z => some (ad 10, z)) (rg_el_l κ ad rfl).symm)⟩
  · cases Option.some.inj (hk.symm.trans tM11)
    exact ⟨11, rfl, Eq.trans (b := some (ad 11, rg_el κ (fun _ => 0) (.inl (1, 41)))) rfl (congrArg (fun z => some (ad 11, z)) (rg_el_l κ ad rfl).symm)⟩
  · cases Option.some.inj (hk.symm.trans tM12)
    exact ⟨12, rfl, Eq.trans (b := some (ad 12, rg_el κ (fun _ => 0) (.inl (2, 41)))) rfl (congrArg (fun z => some (ad 12, z)) (rg_el_l κ ad rfl).symm)⟩
  · cases Option.some.inj (hk.symm.trans tM13)
    exact ⟨13, rfl, Eq.trans (b := some (ad 13, rg_el κ (fun _ => 0) (.inl (1, 6)))) rfl (congrArg (fun z => some (ad 13, z)) (rg_el_l κ ad rfl).symm)⟩
  · cases Option.some.inj (hk.symm.trans tM14)
    exact ⟨14, rfl, Eq.trans (b := some (ad 14, rg_el κ (fun _ => 0) (.inl (1, 6)))) rfl (congrArg (fun z => some (ad 14, z)) (rg_el_l κ ad rfl).symm)⟩
  · cases Option.some.inj (hk.symm.trans tM15)
    exact ⟨15, rfl, Eq.trans (b := some (ad 15, rg_el κ (fun _ => 0) (.inl (1, 640)))) rfl (congrArg (fun z => some (ad 15, z)) (rg_el_l κ ad rfl).symm)⟩
  · cases Option.some.inj (hk.symm.trans tM16)
    exact ⟨16, rfl, Eq.trans (b := some (ad 16, rg_el κ (fun _ => 0) (.inl (1, 640)))) rfl (congrArg (fun z => some (ad 16, z)) (rg_el_l κ ad rfl).symm)⟩
  · cases Option.some.inj (hk.symm.trans tM17)
    exact ⟨17, rfl, Eq.trans (b := some (ad 17, rg_el κ (fun _ => 0) (.inl (1, 640)))) rfl (congrArg (fun z => some (ad 17, z)) (rg_el_l κ ad rfl).symm)⟩
  · cases Option.some.inj (hk.symm.trans tM18)
    exact ⟨18, rfl, Eq.trans (b := some (ad 18, rg_el κ (fun _ => 0) (.inl (2, 16)))) rfl (congrArg (fun z => some (ad 18, z)) (rg_el_l κ ad rfl).symm)⟩
  · cases Option.some.inj (hk.symm.trans tM19)
    exact ⟨19, rfl, Eq.trans (b := some (ad 19, rg_el κ (fun _ => 0) (.inl (1, 640)))) rfl (congrArg (fun z => some (ad 19, z)) (rg_el_l κ ad rfl).symm)⟩
  · cases Option.some.inj (hk.symm.trans tM20)
    exact ⟨20, rfl, Eq.trans (b := some (ad 20, rg_el κ (fun _ => 0) (.inl (2, 640)))) rfl (congrArg (fun z => some (ad 20, z)) (rg_el_l κ ad rfl).symm)⟩
  · cases Option.some.inj (hk.symm.trans tM21)
    exact ⟨21, rfl, Eq.trans (b := some (ad 21, rg_el κ (fun _ => 0) (.inl (1, 40)))) rfl (congrArg (fun z => some (ad 21, z)) (rg_el_l κ ad rfl).symm)⟩
  · cases Option.some.inj (hk.symm.trans tM22)
    exact ⟨22, rfl, Eq.trans (b := some (ad 22, rg_el κ (fun _ => 0) (.inl (1, 40)))) rfl (congrArg (fun z => some (ad 22, z)) (rg_el_l κ ad rfl).symm)⟩
  · cases Option.some.inj (hk.symm.trans tM23)
    exact ⟨23, rfl, Eq.trans (b := some (ad 23, rg_el κ (fun _ => 0) (.inl (1, 40)))) rfl (congrArg (fun z => some (ad 23, z)) (rg_el_l κ ad rfl).symm)⟩
  · cases Option.some.inj (hk.symm.trans tM24)
    exact ⟨24, rfl, Eq.trans (b := some (ad 24, rg_el κ (fun _ => 0) (.inl (1, 40)))) rfl (congrArg (fun z => some (ad 24, z)) (rg_el_l κ ad rfl).symm)⟩
  · cases Option.some.inj (hk.symm.trans tM25)
    exact ⟨25, rfl, Eq.trans (b := some (ad 25, rg_el κ (fun _ => 0) (.inl (1, 40)))) rfl (congrArg (fun z => some (ad 25, z)) (rg_el_l κ ad rfl).symm)⟩
  · cases Option.some.inj (hk.symm.trans tM26)
    exact ⟨26, rfl, Eq.trans (b := some (ad 26, rg_el κ (fun _ => 0) (.inl (1, 12000)))) rfl (congrArg (fun z => some (ad 26, z)) (rg_el_l κ ad rfl).symm)⟩
set_option maxHeartbeats 400000 in
set_option maxRecDepth 100000 in
theorem f_X10 (κ : rg_K) {a : Nat} {w : va_W} (h : rg_pX10 κ a w) : ∃ ad : Nat → Nat, ad 0 = a ∧ (∀ i, 100 ≤ i → ad i = κ.2.2.2 i) ∧ w = rg_w10 κ ad := by
  obtain ⟨q1, q2, q3, q4, q5, q6, q7, q8, q9, q10, q11, q12, q13, q14, q15, q16, q17, q18, q19, q20, q21, q22, q23, q24, q25, q26, rfl⟩ := h
  exact ⟨(rg_adv (a :: q1 :: q2 :: q3 :: q4 :: q5 :: q6 :: q7 :: q8 :: q9 :: q10 :: q11 :: q12 :: q13 :: q14 :: q15 :: q16 :: q17 :: q18 :: q19 :: q20 :: q21 :: q22 :: q23 :: q24 :: q25 :: q26 :: []) κ.2.2.2), rfl, rg_adv_up _ _ (Nat.le_of_ble_eq_true rfl), rfl⟩
def rg_pi9 : List Nat := [0, 1, 4, 8, 12, 17, 20, 31, 38, 42, 21, 2, 3, 5, 6, 7, 9, 10, 11, 13, 14, 15, 16, 18, 19, 22, 23, 24, 25, 26, 27, 28, 29, 30, 32, 33, 34, 35, 36, 37, 39, 40, 41, 43]
def rg_w9 (κ : rg_K) (ad : Nat → Nat) : va_W := ((ad 0, .inr (9, [.ref (ad 1), .ref (ad 2), .ref (ad 3), .ref (ad 4), .ref (ad 5), .ref (ad 6), .ref (ad 7), .ref (ad 8), .ref (ad 9), .int (rg_I 1)])) :: ((ad 1), .inr (0, [.ref (ad 11), .ref (ad 12), .int (rg_I 0), .int (rg_I 0)])) :: ((ad 11), rg_el κ (fun _ => 0) (.inl (1, 40))) :: ((ad 12), rg_el κ (fun _ => 0) (.inl (1, 40))) :: ((ad 2), .inr (4, [.ref (ad 13), .ref (ad 14), .ref (ad 15), .int (rg_I 0)])) :: ((ad 13), rg_el κ (fun _ => 0) (.inl (1, 16))) :: ((ad 14), rg_el κ (fun _ => 0) (.inl (1, 16))) :: ((ad 15), rg_el κ (fun _ => 0) (.inl (2, 16))) :: ((ad 3), .inr (2, [.ref (ad 16), .ref (ad 17), .ref (ad 18)])) :: ((ad 16), rg_el κ (fun _ => -1) (.inl (1, 640))) :: ((ad 17), rg_el κ (fun _ => 0) (.inl (1, 640))) :: ((ad 18), rg_el κ (fun _ => 0) (.inl (1, 640))) :: ((ad 4), .inr (1, [.ref (ad 19), .ref (ad 20), .ref (ad 21), .ref (ad 22), .int (rg_I 0)])) :: ((ad 19), rg_el κ (fun _ => 0) (.inl (1, 41))) :: ((ad 20), rg_el κ (fun _ => 0) (.inl (1, 41))) :: ((ad 21), rg_el κ (fun _ => 0) (.inl (1, 41))) :: ((ad 22), rg_el κ (fun _ => 0) (.inl (2, 41))) :: ((ad 5), .inr (8, [.ref (ad 23), .ref (ad 24), .int (rg_I 0)])) :: ((ad 23), rg_el κ (fun _ => 0) (.inl (1, 6))) :: ((ad 24), rg_el κ (fun _ => 0) (.inl (1, 6))) :: ((ad 6), .inr (3, [.ref (ad 10), .ref (ad 28), .ref (ad 29), .ref (ad 1), .ref (ad 2), .ref (ad 3), .ref (ad 4), .ref (ad 30), .ref (ad 31), .ref (ad 32), .ref (ad 33)])) :: ((ad 10), .inr (2, [.ref (ad 25), .ref (ad 26), .ref (ad 27)])) :: ((ad 25), rg_el κ (fun _ => -1) (.inl (1, 640))) :: ((ad 26), rg_el κ (fun _ => 0) (.inl (1, 640))) :: ((ad 27), rg_el κ (fun _ => 0) (.inl (1, 640))) :: ((ad 28), rg_el κ (fun _ => 0) (.inl (2, 640))) :: ((ad 29), rg_el κ (fun _ => 0) (.inl (1, 640))) :: ((ad 30), rg_el κ (fun _ => 0) (.inl (2, 16))) :: ((ad 31), rg_el κ (fun _ => 0) (.inl (1, 16))) :: ((ad 32), rg_el κ (fun _ => 0) (.inl (1, 100))) :: ((ad 33), rg_el κ (fun _ => 0) (.inl (1, 100))) :: ((ad 7), .inr (6, [.ref (ad 34), .ref (ad 35), .ref (ad 36), .ref (ad 37), .ref (ad 38), .ref (ad 39), .ref (ad 1), .ref (ad 2), .ref (ad 5), .ref (ad 6)])) :: ((ad 34), rg_el κ (fun _ => 0) (.inl (1, 640))) :: ((ad 35), rg_el κ (fun _ => 0) (.inl (2, 640))) :: ((ad 36), rg_el κ (fun _ => 0) (.inl (1, 40))) :: ((ad 37), rg_el κ (fun _ => 0) (.inl (1, 40))) :: ((ad 38), rg_el κ (fun _ => 0) (.inl (1, 40))) :: ((ad 39), rg_el κ (fun _ => 0) (.inl (1, 40))) :: ((ad 8), .inr (5, [.ref (ad 1), .ref (ad 2), .ref (ad 6), .ref (ad 7), .ref (ad 40), .ref (ad 41), .ref (ad 42)])) :: ((ad 40), rg_el κ (fun _ => 0) (.inl (1, 1440))) :: ((ad 41), rg_el κ (fun _ => 0) (.inl (1, 40))) :: ((ad 42), rg_el κ (fun _ => 0) (.inl (1, 40))) :: ((ad 9), .inr (7, [.ref (ad 43), .int (rg_I 0)])) :: ((ad 43), rg_el κ (fun _ => 0) (.inl (0, 8040))) :: [])
theorem f_X9_w (κ : rg_K) (ad : Nat → Nat) : rg_pi9.map (fun i => (rg_w9 κ ad)[i]?) = (rg_wd (κ.1, κ.2.1, κ.2.2.1, ad) rg_tC rg_s0).map some := by
  refine rg_wdM (κ := (κ.1, κ.2.1, κ.2.2.1, ad)) rfl (fun k sh hk => ?_)
  have hk9 : k < 44 := (List.getElem?_eq_some_iff.mp hk).1
  have hc : k = 0 ∨ k = 1 ∨ k = 2 ∨ k = 3 ∨ k = 4 ∨ k = 5 ∨ k = 6 ∨ k = 7 ∨ k = 8 ∨ k = 9 ∨ k = 10 ∨ k = 11 ∨ k = 12 ∨ k = 13 ∨ k = 14 ∨ k = 15 ∨ k = 16 ∨ k = 17 ∨ k = 18 ∨ k = 19 ∨ k = 20 ∨ k = 21 ∨ k = 22 ∨ k = 23 ∨ k = 24 ∨ k = 25 ∨ k = 26 ∨ k = 27 ∨ k = 28 ∨ k = 29 ∨ k = 30 ∨ k = 31 ∨ k = 32 ∨ k = 33 ∨ k = 34 ∨ k = 35 ∨ k = 36 ∨ k = 37 ∨ k = 38 ∨ k = 39 ∨ k = 40 ∨ k = 41 ∨ k = 42 ∨ k = 43 := by omega
  rcases hc with rfl | rfl | rfl | rfl | rfl | rfl | rfl | rfl | rfl | rfl | rfl | rfl | rfl | rfl | rfl | rfl | rfl | rfl | rfl | rfl | rfl | rfl | rfl | rfl | rfl | rfl | rfl | rfl | rfl | rfl | rfl | rfl | rfl | rfl | rfl | rfl | rfl | rfl | rfl | rfl | rfl | rfl | rfl | rfl
  · cases Option.some.inj (hk.symm.trans tC0)
    exact ⟨0, rfl, Eq.trans (b := some (ad 0, rg_el (κ.1, κ.2.1, κ.2.2.1, ad) (rg_up (fun _ => 0) 9 1) (.inr (9, [some 1, some 2, some 3, some 4, some 5, some 6, some 7, some 8, some 9, none])))) rfl (congrArg (fun z => some (ad 0, rg_el (κ.1, κ.2.1, κ.2.2.1, ad) z (.inr (9, [some 1, some 2, some 3, some 4, some 5, some 6, some 7, some 8, some 9, none])))) rg_s0_0.symm)⟩
  · cases Option.some.inj (hk.symm.trans tC1)
    exact ⟨1, rfl, Eq.trans (b := some (ad 1, rg_el (κ.1, κ.2.1, κ.2.2.1, ad) (fun _ => 0) (.inr (0, [some 11, some 12, none, none])))) rfl (congrArg (fun z => some (ad 1, rg_el (κ.1, κ.2.1, κ.2.2.1, ad) z (.inr (0, [some 11, some 12, none, none])))) (rg_s0_at (by decide) (by decide) (by decide)).symm)⟩
  · cases Option.some.inj (hk.symm.trans tC2)
    exact ⟨4, rfl, Eq.trans (b := some (ad 2, rg_el (κ.1, κ.2.1, κ.2.2.1, ad) (fun _ => 0) (.inr (4, [some 13, some 14, some 15, none])))) rfl (congrArg (fun z => some (ad 2, rg_el (κ.1, κ.2.1, κ.2.2.1, ad) z (.inr (4, [some 13, some 14, some 15, none])))) (rg_s0_at (by decide) (by decide) (by decide)).symm)⟩
  · cases Option.some.inj (hk.symm.trans tC3)
    exact ⟨8, rfl, Eq.trans (b := some (ad 3, rg_el (κ.1, κ.2.1, κ.2.2.1, ad) (fun _ => 0) (.inr (2, [some 16, some 17, some 18])))) rfl (congrArg (fun z => some (ad 3, rg_el (κ.1, κ.2.1, κ.2.2.1, ad) z (.inr (2, [some 16, some 17, some 18])))) (rg_s0_at (by decide) (by decide) (by decide)).symm)⟩
  · cases Option.some.inj (hk.symm.trans tC4)
    exact ⟨12, rfl, Eq.trans (b := some (ad 4, rg_el (κ.1, κ.2.1, κ.2.2.1, ad) (fun _ => 0) (.inr (1, [some 19, some 20, some 21, some 22, none])))) rfl (congrArg (fun z => some (ad 4, rg_el (κ.1, κ.2.1, κ.2.2.1, ad) z (.inr (1, [some 19, some 20, some 21, some 22, none])))) (rg_s0_at (by decide) (by decide) (by decide)).symm)⟩
  · cases Option.some.inj (hk.symm.trans tC5)
    exact ⟨17, rfl, Eq.trans (b := some (ad 5, rg_el (κ.1, κ.2.1, κ.2.2.1, ad) (fun _ => 0) (.inr (8, [some 23, some 24, none])))) rfl (congrArg (fun z => some (ad 5, rg_el (κ.1, κ.2.1, κ.2.2.1, ad) z (.inr (8, [some 23, some 24, none])))) (rg_s0_at (by decide) (by decide) (by decide)).symm)⟩
  · cases Option.some.inj (hk.symm.trans tC6)
    exact ⟨20, rfl, Eq.trans (b := some (ad 6, rg_el (κ.1, κ.2.1, κ.2.2.1, ad) (fun _ => 0) (.inr (3, [some 10, some 28, some 29, some 1, some 2, some 3, some 4, some 30, some 31, some 32, some 33])))) rfl (congrArg (fun z => some (ad 6, rg_el (κ.1, κ.2.1, κ.2.2.1, ad) z (.inr (3, [some 10, some 28, some 29, some 1, some 2, some 3, some 4, some 30, some 31, some 32, some 33])))) (rg_s0_at (by decide) (by decide) (by decide)).symm)⟩
  · cases Option.some.inj (hk.symm.trans tC7)
    exact ⟨31, rfl, Eq.trans (b := some (ad 7, rg_el (κ.1, κ.2.1, κ.2.2.1, ad) (fun _ => 0) (.inr (6, [some 34, some 35, some 36, some 37, some 38, some 39, some 1, some 2, some 5, some 6])))) rfl (congrArg (fun z => some (ad 7, rg_el (κ.1, κ.2.1, κ.2.2.1, ad) z (.inr (6, [some 34, some 35, some 36, some 37, some 38, some 39, some 1, some 2, some 5, some 6])))) (rg_s0_at (by decide) (by decide) (by decide)).symm)⟩
  · cases Option.some.inj (hk.symm.trans tC8)
    exact ⟨38, rfl, Eq.trans (b := some (ad 8, rg_el (κ.1, κ.2.1, κ.2.2.1, ad) (fun _ => 0) (.inr (5, [some 1, some 2, some 6, some 7, some 40, some 41, some 42])))) rfl (congrArg (fun z => some (ad 8, rg_el (κ.1, κ.2.1, κ.2.2.1, ad) z (.inr (5, [some 1, some 2, some 6, some 7, some 40, some 41, some 42])))) (rg_s0_at (by decide) (by decide) (by decide)).symm)⟩
  · cases Option.some.inj (hk.symm.trans tC9)
    exact ⟨42, rfl, Eq.trans (b := some (ad 9, rg_el (κ.1, κ.2.1, κ.2.2.1, ad) (fun _ => 0) (.inr (7, [some 43, none])))) rfl (congrArg (fun z => some (ad 9, rg_el (κ.1, κ.2.1, κ.2.2.1, ad) z (.inr (7, [some 43, none])))) (rg_s0_at (by decide) (by decide) (by decide)).symm)⟩
  · cases Option.some.inj (hk.symm.trans tC10)
    exact ⟨21, rfl, Eq.trans (b := some (ad 10, rg_el (κ.1, κ.2.1, κ.2.2.1, ad) (fun _ => 0) (.inr (2, [some 25, some 26, some 27])))) rfl (congrArg (fun z => some (ad 10, rg_el (κ.1, κ.2.1, κ.2.2.1, ad) z (.inr (2, [some 25, some 26, some 27])))) (rg_s0_at (by decide) (by decide) (by decide)).symm)⟩
  · cases Option.some.inj (hk.symm.trans tC11)
    exact ⟨2, rfl, Eq.trans (b := some (ad 11, rg_el κ (fun _ => 0) (.inl (1, 40)))) rfl (congrArg (fun z => some (ad 11, z)) (rg_el_l κ ad (rg_s0_at (by decide) (by decide) (by decide))).symm)⟩
  · cases Option.some.inj (hk.symm.trans tC12)
    exact ⟨3, rfl, Eq.trans (b := some (ad 12, rg_el κ (fun _ => 0) (.inl (1, 40)))) rfl (congrArg (fun z => some (ad 12, z)) (rg_el_l κ ad (rg_s0_at (by decide) (by decide) (by decide))).symm)⟩
  · cases Option.some.inj (hk.symm.trans tC13)
    exact ⟨5, rfl, Eq.trans (b := some (ad 13, rg_el κ (fun _ => 0) (.inl (1, 16)))) rfl (congrArg (fun z => some (ad 13, z)) (rg_el_l κ ad (rg_s0_at (by decide) (by decide) (by decide))).symm)⟩
  · cases Option.some.inj (hk.symm.trans tC14)
    exact ⟨6, rfl, Eq.trans (b := some (ad 14, rg_el κ (fun _ => 0) (.inl (1, 16)))) rfl (congrArg (fun z => some (ad 14, z)) (rg_el_l κ ad (rg_s0_at (by decide) (by decide) (by decide))).symm)⟩
  · cases Option.some.inj (hk.symm.trans tC15)
    exact ⟨7, rfl, Eq.trans (b := some (ad 15, rg_el κ (fun _ => 0) (.inl (2, 16)))) rfl (congrArg (fun z => some (ad 15, z)) (rg_el_l κ ad (rg_s0_at (by decide) (by decide) (by decide))).symm)⟩
  · cases Option.some.inj (hk.symm.trans tC16)
    exact ⟨9, rfl, Eq.trans (b := some (ad 16, rg_el κ (fun _ => -1) (.inl (1, 640)))) rfl (congrArg (fun z => some (ad 16, z)) (rg_el_l κ ad rg_s0_16).symm)⟩
  · cases Option.some.inj (hk.symm.trans tC17)
    exact ⟨10, rfl, Eq.trans (b := some (ad 17, rg_el κ (fun _ => 0) (.inl (1, 640)))) rfl (congrArg (fun z => some (ad 17, z)) (rg_el_l κ ad (rg_s0_at (by decide) (by decide) (by decide))).symm)⟩
  · cases Option.some.inj (hk.symm.trans tC18)
    exact ⟨11, rfl, Eq.trans (b := some (ad 18, rg_el κ (fun _ => 0) (.inl (1, 640)))) rfl (congrArg (fun z => some (ad 18, z)) (rg_el_l κ ad (rg_s0_at (by decide) (by decide) (by decide))).symm)⟩
  · cases Option.some.inj (hk.symm.trans tC19)
    exact ⟨13, rfl, Eq.trans (b := some (ad 19, rg_el κ (fun _ => 0) (.inl (1, 41)))) rfl (congrArg (fun z => some (ad 19, z)) (rg_el_l κ ad (rg_s0_at (by decide) (by decide) (by decide))).symm)⟩
  · cases Option.some.inj (hk.symm.trans tC20)
    exact ⟨14, rfl, Eq.trans (b := some (ad 20, rg_el κ (fun _ => 0) (.inl (1, 41)))) rfl (congrArg (fun z => some (ad 20, z)) (rg_el_l κ ad (rg_s0_at (by decide) (by decide) (by decide))).symm)⟩
  · cases Option.some.inj (hk.symm.trans tC21)
    exact ⟨15, rfl, Eq.trans (b := some (ad 21, rg_el κ (fun _ => 0) (.inl (1, 41)))) rfl (congrArg (fun z => some (ad 21, z)) (rg_el_l κ ad (rg_s0_at (by decide) (by decide) (by decide))).symm)⟩
  · cases Option.some.inj (hk.symm.trans tC22)
    exact ⟨16, rfl, Eq.trans (b := some (ad 22, rg_el κ (fun _ => 0) (.inl (2, 41)))) rfl (congrArg (fun z => some (ad 22, z)) (rg_el_l κ ad (rg_s0_at (by decide) (by decide) (by decide))).symm)⟩
  · cases Option.some.inj (hk.symm.trans tC23)
    exact ⟨18, rfl, Eq.trans (b := some (ad 23, rg_el κ (fun _ => 0) (.inl (1, 6)))) rfl (congrArg (fun z => some (ad 23, z)) (rg_el_l κ ad (rg_s0_at (by decide) (by decide) (by decide))).symm)⟩
  · cases Option.some.inj (hk.symm.trans tC24)
    exact ⟨19, rfl, Eq.trans (b := some (ad 24, rg_el κ (fun _ => 0) (.inl (1, 6)))) rfl (congrArg (fun z => some (ad 24, z)) (rg_el_l κ ad (rg_s0_at (by decide) (by decide) (by decide))).symm)⟩
  · cases Option.some.inj (hk.symm.trans tC25)
    exact ⟨22, rfl, Eq.trans (b := some (ad 25, rg_el κ (fun _ => -1) (.inl (1, 640)))) rfl (congrArg (fun z => some (ad 25, z)) (rg_el_l κ ad rg_s0_25).symm)⟩
  · cases Option.some.inj (hk.symm.trans tC26)
    exact ⟨23, rfl, Eq.trans (b := some (ad 26, rg_el κ (fun _ => 0) (.inl (1, 640)))) rfl (congrArg (fun z => some (ad 26, z)) (rg_el_l κ ad (rg_s0_at (by decide) (by decide) (by decide))).symm)⟩
  · cases Option.some.inj (hk.symm.trans tC27)
    exact ⟨24, rfl, Eq.trans (b := some (ad 27, rg_el κ (fun _ => 0) (.inl (1, 640)))) rfl (congrArg (fun z => some (ad 27, z)) (rg_el_l κ ad (rg_s0_at (by decide) (by decide) (by decide))).symm)⟩
  · cases Option.some.inj (hk.symm.trans tC28)
    exact ⟨25, rfl, Eq.trans (b := some (ad 28, rg_el κ (fun _ => 0) (.inl (2, 640)))) rfl (congrArg (fun z => some (ad 28, z)) (rg_el_l κ ad (rg_s0_at (by decide) (by decide) (by decide))).symm)⟩
  · cases Option.some.inj (hk.symm.trans tC29)
    exact ⟨26, rfl, Eq.trans (b := some (ad 29, rg_el κ (fun _ => 0) (.inl (1, 640)))) rfl (congrArg (fun z => some (ad 29, z)) (rg_el_l κ ad (rg_s0_at (by decide) (by decide) (by decide))).symm)⟩
  · cases Option.some.inj (hk.symm.trans tC30)
    exact ⟨27, rfl, Eq.trans (b := some (ad 30, rg_el κ (fun _ => 0) (.inl (2, 16)))) rfl (congrArg (fun z => some (ad 30, z)) (rg_el_l κ ad (rg_s0_at (by decide) (by decide) (by decide))).symm)⟩
  · cases Option.some.inj (hk.symm.trans tC31)
    exact ⟨28, rfl, Eq.trans (b := some (ad 31, rg_el κ (fun _ => 0) (.inl (1, 16)))) rfl (congrArg (fun z => some (ad 31, z)) (rg_el_l κ ad (rg_s0_at (by decide) (by decide) (by decide))).symm)⟩
  · cases Option.some.inj (hk.symm.trans tC32)
    exact ⟨29, rfl, Eq.trans (b := some (ad 32, rg_el κ (fun _ => 0) (.inl (1, 100)))) rfl (congrArg (fun z => some (ad 32, z)) (rg_el_l κ ad (rg_s0_at (by decide) (by decide) (by decide))).symm)⟩
  · cases Option.some.inj (hk.symm.trans tC33)
    exact ⟨30, rfl, Eq.trans (b := some (ad 33, rg_el κ (fun _ => 0) (.inl (1, 100)))) rfl (congrArg (fun z => some (ad 33, z)) (rg_el_l κ ad (rg_s0_at (by decide) (by decide) (by decide))).symm)⟩
  · cases Option.some.inj (hk.symm.trans tC34)
    exact ⟨32, rfl, Eq.trans (b := some (ad 34, rg_el κ (fun _ => 0) (.inl (1, 640)))) rfl (congrArg (fun z => some (ad 34, z)) (rg_el_l κ ad (rg_s0_at (by decide) (by decide) (by decide))).symm)⟩
  · cases Option.some.inj (hk.symm.trans tC35)
    exact ⟨33, rfl, Eq.trans (b := some (ad 35, rg_el κ (fun _ => 0) (.inl (2, 640)))) rfl (congrArg (fun z => some (ad 35, z)) (rg_el_l κ ad (rg_s0_at (by decide) (by decide) (by decide))).symm)⟩
  · cases Option.some.inj (hk.symm.trans tC36)
    exact ⟨34, rfl, Eq.trans (b := some (ad 36, rg_el κ (fun _ => 0) (.inl (1, 40)))) rfl (congrArg (fun z => some (ad 36, z)) (rg_el_l κ ad (rg_s0_at (by decide) (by decide) (by decide))).symm)⟩
  · cases Option.some.inj (hk.symm.trans tC37)
    exact ⟨35, rfl, Eq.trans (b := some (ad 37, rg_el κ (fun _ => 0) (.inl (1, 40)))) rfl (congrArg (fun z => some (ad 37, z)) (rg_el_l κ ad (rg_s0_at (by decide) (by decide) (by decide))).symm)⟩
  · cases Option.some.inj (hk.symm.trans tC38)
    exact ⟨36, rfl, Eq.trans (b := some (ad 38, rg_el κ (fun _ => 0) (.inl (1, 40)))) rfl (congrArg (fun z => some (ad 38, z)) (rg_el_l κ ad (rg_s0_at (by decide) (by decide) (by decide))).symm)⟩
  · cases Option.some.inj (hk.symm.trans tC39)
    exact ⟨37, rfl, Eq.trans (b := some (ad 39, rg_el κ (fun _ => 0) (.inl (1, 40)))) rfl (congrArg (fun z => some (ad 39, z)) (rg_el_l κ ad (rg_s0_at (by decide) (by decide) (by decide))).symm)⟩
  · cases Option.some.inj (hk.symm.trans tC40)
    exact ⟨39, rfl, Eq.trans (b := some (ad 40, rg_el κ (fun _ => 0) (.inl (1, 1440)))) rfl (congrArg (fun z => some (ad 40, z)) (rg_el_l κ ad (rg_s0_at (by decide) (by decide) (by decide))).symm)⟩
  · cases Option.some.inj (hk.symm.trans tC41)
    exact ⟨40, rfl, Eq.trans (b := some (ad 41, rg_el κ (fun _ => 0) (.inl (1, 40)))) rfl (congrArg (fun z => some (ad 41, z)) (rg_el_l κ ad (rg_s0_at (by decide) (by decide) (by decide))).symm)⟩
  · cases Option.some.inj (hk.symm.trans tC42)
    exact ⟨41, rfl, Eq.trans (b := some (ad 42, rg_el κ (fun _ => 0) (.inl (1, 40)))) rfl (congrArg (fun z => some (ad 42, z)) (rg_el_l κ ad (rg_s0_at (by decide) (by decide) (by decide))).symm)⟩
  · cases Option.some.inj (hk.symm.trans tC43)
    exact ⟨43, rfl, Eq.trans (b := some (ad 43, rg_el κ (fun _ => 0) (.inl (0, 8040)))) rfl (congrArg (fun z => some (ad 43, z)) (rg_el_l κ ad (rg_s0_at (by decide) (by decide) (by decide))).symm)⟩
set_option maxHeartbeats 400000 in
set_option maxRecDepth 100000 in
theorem f_X9 (κ : rg_K) {a : Nat} {w : va_W} (h : rg_pX9 κ a w) : ∃ ad : Nat → Nat, ad 0 = a ∧ (∀ i, 100 ≤ i → ad i = κ.2.2.2 i) ∧ w = rg_w9 κ ad := by
  obtain ⟨q1, q2, q3, q4, q5, q6, q7, q8, q9, q10, q11, q12, q13, q14, q15, q16, q17, q18, q19, q20, q21, q22, q23, q24, q25, q26, q27, q28, q29, q30, q31, q32, q33, q34, q35, q36, q37, q38, q39, q40, q41, q42, q43, rfl⟩ := h
  exact ⟨(rg_adv (a :: q1 :: q4 :: q8 :: q12 :: q17 :: q20 :: q31 :: q38 :: q42 :: q21 :: q2 :: q3 :: q5 :: q6 :: q7 :: q9 :: q10 :: q11 :: q13 :: q14 :: q15 :: q16 :: q18 :: q19 :: q22 :: q23 :: q24 :: q25 :: q26 :: q27 :: q28 :: q29 :: q30 :: q32 :: q33 :: q34 :: q35 :: q36 :: q37 :: q39 :: q40 :: q41 :: q43 :: []) κ.2.2.2), rfl, rg_adv_up _ _ (Nat.le_of_ble_eq_true rfl), rfl⟩
theorem rg_fM {l : List Nat} {w w' : va_W} (h : l.map (fun i => w[i]?) = w'.map some) : l.filterMap (fun i => w[i]?) = w' := by
  have e1 : l.filterMap (fun i => w[i]?) = (l.map (fun i => w[i]?)).filterMap id := by rw [List.filterMap_map]; rfl
  rw [e1, h, List.filterMap_map]
  exact List.filterMap_some
