/-! Contracts of the reference, 2 (laid by program). -/
set_option maxHeartbeats 400000 in
set_option maxRecDepth 100000 in
/-- isIn -/
theorem k_X10_isIn (κ : rg_K) (σ : rg_S) (r b : Nat) (fl : Nat → Int) (rf : Nat → Int) (sl : Nat → Int) (h2 : σ 2 = fl) (h4 : σ 4 = rf) (h18 : σ 18 = sl) (hr : r < 16) (hb : b < 40) (hsl : ∀ j, rg_Rg (sl j)) (hfl : ∀ j, rg_Rg (fl j)) (hrf : ∀ j, rg_Rg (rf j)) : rg_CI κ rg_tM yX10_isIn cX10_isIn 3 FieldType.boolean 1 22 [.ref (κ.2.2.2 0), .int (rg_I ((r : Nat) : Int)), .int (rg_I ((b : Nat) : Int))] σ (fun r9 σ9 => r9 = (rg_b (rg_in sl rf fl r b)) ∧ σ9 = σ) := by
  refine rg_entI [(0, .ref (κ.2.2.2 0)), (1, .int (rg_I ((r : Nat) : Int))), (2, .int (rg_I ((b : Nat) : Int)))] rfl (by decide +kernel) (Nat.le_of_ble_eq_true rfl) (by first | exact Or.inl rfl | exact Or.inr rfl) (fun Γ F hR => ?_)
  refine rg_aload_n F 0 0 rfl dX10_isIn_0 rfl ?_
  refine rg_get F 0 24 tM0 cX10 k_lays_X10 (by decide) k_fl_X10_62 rfl (v := .ref (κ.2.2.2 18)) rfl dX10_isIn_1 ?_
  refine rg_iload_n F 1 1 rfl dX10_isIn_4 rfl ?_
  refine rg_zald F 18 r (v := (sl r)) tM18 (by omega) (by omega) (by decide) (congrFun h18 r) dX10_isIn_5 ?_
  refine rg_if_eq F 22 dX10_isIn_6 (by decide) (by have b0 := hsl (r); omega) (fun c6_1 => ?_) (fun c6_1 => ?_)
  ·
    refine rg_iconst F dX10_isIn_22 ?_
    exact hR _ _ _ _ dX10_isIn_23 (fun _ => Or.inl rfl) ⟨(by first | exact (rg_b_f (fun q => q.1 (by assumption))).symm | exact (rg_b_f (fun q => absurd q.2 (by assumption))).symm), rfl⟩
  ·
    refine rg_aload_n F 0 0 rfl dX10_isIn_9 rfl ?_
    refine rg_iload_n F 1 1 rfl dX10_isIn_10 rfl ?_
    refine rg_iload_n F 2 2 rfl dX10_isIn_11 rfl ?_
    refine rg_callVI F [.int (rg_I ((r : Nat) : Int)), .int (rg_I ((b : Nat) : Int))] [] 0 (k_X10_isOf κ σ (r) (b) fl rf (h2) (h4) (by first | assumption | omega) (by first | assumption | omega) (by first | assumption | omega) (by first | assumption | omega)) tM0 cX10 v_X10_isOf i_X10_isOf k_ml_X10_109 ⟨Nat.le_of_ble_eq_true rfl, Nat.le_of_ble_eq_true rfl⟩ rfl (Nat.le_of_ble_eq_true rfl) dX10_isIn_12 (rg_ex2 ?_)
    show rg_G κ Γ rg_tM 3 0 0 (12 + 3) [(0, .ref (κ.2.2.2 0)), (1, .int (rg_I ((r : Nat) : Int))), (2, .int (rg_I ((b : Nat) : Int)))] [.int (rg_I (rg_b (rg_isr rf fl r b)))] σ
    refine rg_if_eq F 22 dX10_isIn_15 (by decide) (by have b0 := rg_b_Rg (rg_isr rf fl r b); omega) (fun c15_2 => ?_) (fun c15_2 => ?_)
    ·
      have c15_2 := (rg_b_eq0 _).mp c15_2
      refine rg_iconst F dX10_isIn_22 ?_
      exact hR _ _ _ _ dX10_isIn_23 (fun _ => Or.inl rfl) ⟨(by first | exact (rg_b_f (fun q => q.1 (by assumption))).symm | exact (rg_b_f (fun q => absurd q.2 (by assumption))).symm), rfl⟩
    ·
      have c15_2 := (rg_b_ne0 _).mp c15_2
      refine rg_iconst F dX10_isIn_18 ?_
      refine rg_goto F 23 dX10_isIn_19 (by decide) ?_
      exact hR _ _ _ _ dX10_isIn_23 (fun _ => Or.inr rfl) ⟨(rg_b_t ⟨by assumption, by assumption⟩).symm, rfl⟩
set_option maxHeartbeats 400000 in
set_option maxRecDepth 100000 in
/-- sizeOf -/
theorem k_X10_sizeOf (κ : rg_K) (σ : rg_S) (r : Nat) (fl : Nat → Int) (rf : Nat → Int) (nb : Nat) (h2 : σ 2 = fl) (h4 : σ 4 = rf) (h0_1 : σ 0 1 = ((nb : Nat) : Int)) (hr : r < 16) (hnb : nb ≤ 40) (hfl : ∀ j, rg_Rg (fl j)) (hrf : ∀ j, rg_Rg (rf j)) : rg_CI κ rg_tM yX10_sizeOf cX10_sizeOf 4 FieldType.int 1 22 [.ref (κ.2.2.2 0), .int (rg_I ((r : Nat) : Int))] σ (fun r9 σ9 => r9 = (rg_SZ rf fl nb r) ∧ σ9 = σ) := by
  refine rg_entI [(0, .ref (κ.2.2.2 0)), (1, .int (rg_I ((r : Nat) : Int)))] rfl (by decide +kernel) (Nat.le_of_ble_eq_true rfl) (by first | exact Or.inl rfl | exact Or.inr rfl) (fun Γ F hR => ?_)
  refine rg_iconst F dX10_sizeOf_0 ?_
  refine rg_istore_n F [(2, .int (rg_I 0)), (0, .ref (κ.2.2.2 0)), (1, .int (rg_I ((r : Nat) : Int)))] dX10_sizeOf_1 rfl (by decide) rfl ?_
  refine rg_iconst F dX10_sizeOf_2 ?_
  refine rg_istore_n F [(3, .int (rg_I 0)), (2, .int (rg_I 0)), (0, .ref (κ.2.2.2 0)), (1, .int (rg_I ((r : Nat) : Int)))] dX10_sizeOf_3 rfl (by decide) rfl ?_
  have L4 : ∀ (n4 : Nat) (n : Nat) (b : Nat), n4 = nb - b → (b ≤ nb) → (n = rg_cnt (fun b => rf r = 0 ∨ rf r = fl b) b) → rg_G κ Γ rg_tM 4 0 0 4 [(0, .ref (κ.2.2.2 0)), (1, .int (rg_I ((r : Nat) : Int))), (2, .int (rg_I ((n : Nat) : Int))), (3, .int (rg_I ((b : Nat) : Int)))] [] σ := by
    intro n4
    induction n4 using Nat.strongRecOn with
    | _ n4 ih4 =>
      intro n b hn4 hb hn
      refine rg_iload_n F 3 3 rfl dX10_sizeOf_4 rfl ?_
      refine rg_aload_n F 0 0 rfl dX10_sizeOf_5 rfl ?_
      refine rg_get F 0 1 tM0 cX10 k_lays_X10 (by decide) k_fl_X10_102 rfl (v := .int (rg_I ((nb : Nat) : Int))) (congrArg (fun x => Value.int (rg_I x)) h0_1) dX10_sizeOf_6 ?_
      refine rg_icmp_ge F 35 dX10_sizeOf_9 (by decide) (by omega) (by omega) (fun c9_1 => ?_) (fun c9_1 => ?_)
      ·
        refine rg_iload_n F 2 2 rfl dX10_sizeOf_35 rfl ?_
        exact hR _ _ _ _ dX10_sizeOf_36 (fun h => nomatch h) ⟨(by unfold rg_SZ; rw [hn, show b = nb by omega]), rfl⟩
      ·
        refine rg_iload_n F 2 2 rfl dX10_sizeOf_12 rfl ?_
        refine rg_aload_n F 0 0 rfl dX10_sizeOf_13 rfl ?_
        refine rg_iload_n F 1 1 rfl dX10_sizeOf_14 rfl ?_
        refine rg_iload_n F 3 3 rfl dX10_sizeOf_15 rfl ?_
        refine rg_callVI F [.int (rg_I ((r : Nat) : Int)), .int (rg_I ((b : Nat) : Int))] [.int (rg_I ((n : Nat) : Int))] 0 (k_X10_isOf κ σ (r) (b) fl rf (h2) (h4) (by first | assumption | omega) (by first | assumption | omega) (by first | assumption | omega) (by first | assumption | omega)) tM0 cX10 v_X10_isOf i_X10_isOf k_ml_X10_109 ⟨Nat.le_of_ble_eq_true rfl, Nat.le_of_ble_eq_true rfl⟩ rfl (Nat.le_of_ble_eq_true rfl) dX10_sizeOf_16 (rg_ex2 ?_)
        show rg_G κ Γ rg_tM 4 0 0 (16 + 3) [(0, .ref (κ.2.2.2 0)), (1, .int (rg_I ((r : Nat) : Int))), (2, .int (rg_I ((n : Nat) : Int))), (3, .int (rg_I ((b : Nat) : Int)))] [.int (rg_I (rg_b (rg_isr rf fl r b))), .int (rg_I ((n : Nat) : Int))] σ
        refine rg_if_eq F 26 dX10_sizeOf_19 (by decide) (by have b0 := rg_b_Rg (rg_isr rf fl r b); omega) (fun c19_2 => ?_) (fun c19_2 => ?_)
        ·
          have c19_2 := (rg_b_eq0 _).mp c19_2
          refine rg_iconst F dX10_sizeOf_26 ?_
          refine rg_iadd F dX10_sizeOf_27 ?_
          refine rg_istore_n F [(2, .int (rg_I (((n : Nat) : Int) + 0))), (0, .ref (κ.2.2.2 0)), (1, .int (rg_I ((r : Nat) : Int))), (3, .int (rg_I ((b : Nat) : Int)))] dX10_sizeOf_28 rfl (by decide) rfl ?_
          refine rg_iinc F (v := ((b + 1 : Nat) : Int)) 3 [(3, .int (rg_I ((b + 1 : Nat) : Int))), (2, .int (rg_I (((n : Nat) : Int) + 0))), (0, .ref (κ.2.2.2 0)), (1, .int (rg_I ((r : Nat) : Int)))] dX10_sizeOf_29 rfl (by omega) (by decide) rfl ?_
          refine rg_goto F 4 dX10_sizeOf_32 (by decide) ?_
          refine rg_lve (lv' := [(3, .int (rg_I ((b + 1 : Nat) : Int))), (2, .int (rg_I ((n : Nat) : Int))), (0, .ref (κ.2.2.2 0)), (1, .int (rg_I ((r : Nat) : Int)))]) (congrArg (fun x9 : Int => ([(3, .int (rg_I ((b + 1 : Nat) : Int))), (2, .int (rg_I x9)), (0, .ref (κ.2.2.2 0)), (1, .int (rg_I ((r : Nat) : Int)))] : List (Nat × Value))) (by omega)) ?_
          refine rg_sub (lv' := [(0, .ref (κ.2.2.2 0)), (1, .int (rg_I ((r : Nat) : Int))), (2, .int (rg_I ((n : Nat) : Int))), (3, .int (rg_I ((b + 1 : Nat) : Int)))]) [2, 3, 1, 0] rfl ?_
          exact ih4 (nb - (b + 1)) (by omega) (n) ((b + 1)) rfl (by omega) (by first | (rw [rg_cnt_t (p := fun b => rf r = 0 ∨ rf r = fl b) (by assumption)]; omega) | (rw [rg_cnt_f (p := fun b => rf r = 0 ∨ rf r = fl b) (by assumption)]; omega))
        ·
          have c19_2 := (rg_b_ne0 _).mp c19_2
          refine rg_iconst F dX10_sizeOf_22 ?_
          refine rg_goto F 27 dX10_sizeOf_23 (by decide) ?_
          refine rg_iadd F dX10_sizeOf_27 ?_
          refine rg_istore_n F [(2, .int (rg_I (((n : Nat) : Int) + 1))), (0, .ref (κ.2.2.2 0)), (1, .int (rg_I ((r : Nat) : Int))), (3, .int (rg_I ((b : Nat) : Int)))] dX10_sizeOf_28 rfl (by decide) rfl ?_
          refine rg_iinc F (v := ((b + 1 : Nat) : Int)) 3 [(3, .int (rg_I ((b + 1 : Nat) : Int))), (2, .int (rg_I (((n : Nat) : Int) + 1))), (0, .ref (κ.2.2.2 0)), (1, .int (rg_I ((r : Nat) : Int)))] dX10_sizeOf_29 rfl (by omega) (by decide) rfl ?_
          refine rg_goto F 4 dX10_sizeOf_32 (by decide) ?_
          refine rg_lve (lv' := [(3, .int (rg_I ((b + 1 : Nat) : Int))), (2, .int (rg_I (((n + 1) : Nat) : Int))), (0, .ref (κ.2.2.2 0)), (1, .int (rg_I ((r : Nat) : Int)))]) (congrArg (fun x9 : Int => ([(3, .int (rg_I ((b + 1 : Nat) : Int))), (2, .int (rg_I x9)), (0, .ref (κ.2.2.2 0)), (1, .int (rg_I ((r : Nat) : Int)))] : List (Nat × Value))) (by omega)) ?_
          refine rg_sub (lv' := [(0, .ref (κ.2.2.2 0)), (1, .int (rg_I ((r : Nat) : Int))), (2, .int (rg_I (((n + 1) : Nat) : Int))), (3, .int (rg_I ((b + 1 : Nat) : Int)))]) [2, 3, 1, 0] rfl ?_
          exact ih4 (nb - (b + 1)) (by omega) ((n + 1)) ((b + 1)) rfl (by omega) (by first | (rw [rg_cnt_t (p := fun b => rf r = 0 ∨ rf r = fl b) (by assumption)]; omega) | (rw [rg_cnt_f (p := fun b => rf r = 0 ∨ rf r = fl b) (by assumption)]; omega))
  refine rg_sub (lv' := [(0, .ref (κ.2.2.2 0)), (1, .int (rg_I ((r : Nat) : Int))), (2, .int (rg_I 0)), (3, .int (rg_I 0))]) [2, 3, 1, 0] rfl ?_
  exact L4 _ (0) (0) rfl (by omega) rfl
set_option maxHeartbeats 400000 in
set_option maxRecDepth 100000 in
/-- placePoints -/
theorem k_X10_placePoints (κ : rg_K) (σ : rg_S) (r b : Nat) (n : Int) (fl : Nat → Int) (rf : Nat → Int) (en : Nat → Int) (ar : Nat → Int) (pe : Nat → Int) (nb : Nat) (h2 : σ 2 = fl) (h4 : σ 4 = rf) (h15 : σ 15 = en) (h16 : σ 16 = ar) (h17 : σ 17 = pe) (h0_1 : σ 0 1 = ((nb : Nat) : Int)) (hr : r < 16) (hb : b < 40) (hnb : nb ≤ 40) (hn : 0 ≤ n ∧ n ≤ 40) (hpe : 0 ≤ pe (r * 40 + b) ∧ pe (r * 40 + b) ≤ 100) (hen : ∀ j, rg_Rg (en j)) (har : ∀ j, rg_Rg (ar j)) (hfl : ∀ j, rg_Rg (fl j)) (hrf : ∀ j, rg_Rg (rf j)) : rg_CI κ rg_tM yX10_placePoints cX10_placePoints 10 FieldType.int 1 22 [.ref (κ.2.2.2 0), .int (rg_I ((r : Nat) : Int)), .int (rg_I ((b : Nat) : Int)), .int (rg_I n)] σ (fun r9 σ9 => r9 = (rg_pp n ((rg_cnt (fun i => rg_pl rf fl en r i ∧ ar (r * 40 + i) = ar (r * 40 + b)) nb : Nat) : Int) ((rg_cnt (fun i => rg_pl rf fl en r i ∧ ar (r * 40 + i) < ar (r * 40 + b)) nb : Nat) : Int) (pe (r * 40 + b))) ∧ σ9 = σ) := by
  have hm1 : 0 ≤ n * pe (r * 40 + b) := Int.mul_nonneg hn.1 hpe.1
  have hm2 : n * pe (r * 40 + b) ≤ 4000 := Int.le_trans (Int.mul_le_mul hn.2 hpe.2 hpe.1 (by omega)) (by omega)
  refine rg_entI [(0, .ref (κ.2.2.2 0)), (1, .int (rg_I ((r : Nat) : Int))), (2, .int (rg_I ((b : Nat) : Int))), (3, .int (rg_I n))] rfl (by decide +kernel) (Nat.le_of_ble_eq_true rfl) (by first | exact Or.inl rfl | exact Or.inr rfl) (fun Γ F hR => ?_)
  refine rg_bipush F dX10_placePoints_0 (by decide +kernel) ?_
  refine rg_iload_n F 1 1 rfl dX10_placePoints_2 rfl ?_
  refine rg_imul F dX10_placePoints_3 ?_
  refine rg_iload_n F 2 2 rfl dX10_placePoints_4 rfl ?_
  refine rg_iadd F dX10_placePoints_5 ?_
  refine rg_stk (st' := [.int (rg_I ((r * 40 + b : Nat) : Int))]) (congrArg (fun x9 : Int => Value.int (rg_I x9) :: []) (by omega)) ?_
  refine rg_istore F [(4, .int (rg_I ((r * 40 + b : Nat) : Int))), (0, .ref (κ.2.2.2 0)), (1, .int (rg_I ((r : Nat) : Int))), (2, .int (rg_I ((b : Nat) : Int))), (3, .int (rg_I n))] dX10_placePoints_6 (by decide) rfl ?_
  refine rg_iconst F dX10_placePoints_8 ?_
  refine rg_istore F [(5, .int (rg_I 0)), (4, .int (rg_I ((r * 40 + b : Nat) : Int))), (0, .ref (κ.2.2.2 0)), (1, .int (rg_I ((r : Nat) : Int))), (2, .int (rg_I ((b : Nat) : Int))), (3, .int (rg_I n))] dX10_placePoints_9 (by decide) rfl ?_
  refine rg_iconst F dX10_placePoints_11 ?_
  refine rg_istore F [(6, .int (rg_I 0)), (5, .int (rg_I 0)), (4, .int (rg_I ((r * 40 + b : Nat) : Int))), (0, .ref (κ.2.2.2 0)), (1, .int (rg_I ((r : Nat) : Int))), (2, .int (rg_I ((b : Nat) : Int))), (3, .int (rg_I n))] dX10_placePoints_12 (by decide) rfl ?_
  refine rg_iconst F dX10_placePoints_14 ?_
  refine rg_istore F [(7, .int (rg_I 0)), (6, .int (rg_I 0)), (5, .int (rg_I 0)), (4, .int (rg_I ((r * 40 + b : Nat) : Int))), (0, .ref (κ.2.2.2 0)), (1, .int (rg_I ((r : Nat) : Int))), (2, .int (rg_I ((b : Nat) : Int))), (3, .int (rg_I n))] dX10_placePoints_15 (by decide) rfl ?_
  have L17 : ∀ (n17 : Nat) (x : Nat) (y : Nat) (i : Nat), n17 = nb - i → (i ≤ nb) → (x = rg_cnt (fun i => rg_pl rf fl en r i ∧ ar (r * 40 + i) < ar (r * 40 + b)) i) → (y = rg_cnt (fun i => rg_pl rf fl en r i ∧ ar (r * 40 + i) = ar (r * 40 + b)) i) → (x ≤ i) → (y ≤ i) → rg_G κ Γ rg_tM 10 0 0 17 [(0, .ref (κ.2.2.2 0)), (1, .int (rg_I ((r : Nat) : Int))), (2, .int (rg_I ((b : Nat) : Int))), (3, .int (rg_I n)), (4, .int (rg_I ((r * 40 + b : Nat) : Int))), (5, .int (rg_I ((x : Nat) : Int))), (6, .int (rg_I ((y : Nat) : Int))), (7, .int (rg_I ((i : Nat) : Int)))] [] σ := by
    intro n17
    induction n17 using Nat.strongRecOn with
    | _ n17 ih17 =>
      intro x y i hn17 hi hx hy hxi hyi
      refine rg_iload F 7 7 rfl dX10_placePoints_17 ?_
      refine rg_aload_n F 0 0 rfl dX10_placePoints_19 rfl ?_
      refine rg_get F 0 1 tM0 cX10 k_lays_X10 (by decide) k_fl_X10_102 rfl (v := .int (rg_I ((nb : Nat) : Int))) (congrArg (fun x => Value.int (rg_I x)) h0_1) dX10_placePoints_20 ?_
      refine rg_icmp_ge F 134 dX10_placePoints_23 (by decide) (by omega) (by omega) (fun c23_1 => ?_) (fun c23_1 => ?_)
      ·
        refine rg_bipush F dX10_placePoints_134 (by decide +kernel) ?_
        refine rg_iload F 5 5 rfl dX10_placePoints_136 ?_
        refine rg_iconst F dX10_placePoints_138 ?_
        refine rg_iadd F dX10_placePoints_139 ?_
        refine rg_imul F dX10_placePoints_140 ?_
        refine rg_iconst F dX10_placePoints_141 ?_
        refine rg_iload F 6 6 rfl dX10_placePoints_142 ?_
        refine rg_iconst F dX10_placePoints_144 ?_
        refine rg_isub F dX10_placePoints_145 ?_
        refine rg_imul F dX10_placePoints_146 ?_
        refine rg_iadd F dX10_placePoints_147 ?_
        refine rg_iload_n F 3 3 rfl dX10_placePoints_148 rfl ?_
        refine rg_aload_n F 0 0 rfl dX10_placePoints_149 rfl ?_
        refine rg_get F 0 23 tM0 cX10 k_lays_X10 (by decide) k_fl_X10_59 rfl (v := .ref (κ.2.2.2 17)) rfl dX10_placePoints_150 ?_
        refine rg_iload F 4 4 rfl dX10_placePoints_153 ?_
        refine rg_iald F 17 (r * 40 + b) (v := (pe (r * 40 + b))) tM17 (by omega) (by omega) (by decide) (congrFun h17 (r * 40 + b)) dX10_placePoints_155 ?_
        refine rg_imul F dX10_placePoints_156 ?_
        refine rg_iconst F dX10_placePoints_157 ?_
        refine rg_iadd F dX10_placePoints_158 ?_
        refine rg_bipush F dX10_placePoints_159 (by decide +kernel) ?_
        refine rg_idiv F dX10_placePoints_161 (by omega) (by omega) ?_
        refine rg_iadd F dX10_placePoints_162 ?_
        refine rg_istore F [(7, .int (rg_I (((10 * (((x : Nat) : Int) + 1)) + (5 * (((y : Nat) : Int) - 1))) + (((n * (pe (r * 40 + b))) + 5) / 10)))), (0, .ref (κ.2.2.2 0)), (1, .int (rg_I ((r : Nat) : Int))), (2, .int (rg_I ((b : Nat) : Int))), (3, .int (rg_I n)), (4, .int (rg_I ((r * 40 + b : Nat) : Int))), (5, .int (rg_I ((x : Nat) : Int))), (6, .int (rg_I ((y : Nat) : Int)))] dX10_placePoints_163 (by decide) rfl ?_
        refine rg_iload F 0 7 rfl dX10_placePoints_165 ?_
        refine rg_bipush F dX10_placePoints_167 (by decide +kernel) ?_
        refine rg_iload_n F 4 3 rfl dX10_placePoints_169 rfl ?_
        refine rg_imul F dX10_placePoints_170 ?_
        refine rg_bipush F dX10_placePoints_171 (by decide +kernel) ?_
        refine rg_iadd F dX10_placePoints_173 ?_
        refine rg_icmp_le F 187 dX10_placePoints_174 (by decide) (by omega) (by omega) (fun c174_2 => ?_) (fun c174_2 => ?_)
        ·
          refine rg_iload F 0 7 rfl dX10_placePoints_187 ?_
          exact hR _ _ _ _ dX10_placePoints_189 (fun h => nomatch h) ⟨(by rw [show i = nb by omega] at hx hy; unfold rg_pp; rw [← hx, ← hy]; first | (rw [if_pos (by omega)]; done) | (rw [if_neg (by omega)]; omega)), rfl⟩
        ·
          refine rg_bipush F dX10_placePoints_177 (by decide +kernel) ?_
          refine rg_iload_n F 4 3 rfl dX10_placePoints_179 rfl ?_
          refine rg_imul F dX10_placePoints_180 ?_
          refine rg_bipush F dX10_placePoints_181 (by decide +kernel) ?_
          refine rg_iadd F dX10_placePoints_183 ?_
          refine rg_goto F 189 dX10_placePoints_184 (by decide) ?_
          exact hR _ _ _ _ dX10_placePoints_189 (fun h => nomatch h) ⟨(by rw [show i = nb by omega] at hx hy; unfold rg_pp; rw [← hx, ← hy]; first | (rw [if_pos (by omega)]; done) | (rw [if_neg (by omega)]; omega)), rfl⟩
      ·
        refine rg_bipush F dX10_placePoints_26 (by decide +kernel) ?_
        refine rg_iload_n F 1 1 rfl dX10_placePoints_28 rfl ?_
        refine rg_imul F dX10_placePoints_29 ?_
        refine rg_iload F 7 7 rfl dX10_placePoints_30 ?_
        refine rg_iadd F dX10_placePoints_32 ?_
        refine rg_stk (st' := [.int (rg_I ((r * 40 + i : Nat) : Int))]) (congrArg (fun x9 : Int => Value.int (rg_I x9) :: []) (by omega)) ?_
        refine rg_istore F [(8, .int (rg_I ((r * 40 + i : Nat) : Int))), (0, .ref (κ.2.2.2 0)), (1, .int (rg_I ((r : Nat) : Int))), (2, .int (rg_I ((b : Nat) : Int))), (3, .int (rg_I n)), (4, .int (rg_I ((r * 40 + b : Nat) : Int))), (5, .int (rg_I ((x : Nat) : Int))), (6, .int (rg_I ((y : Nat) : Int))), (7, .int (rg_I ((i : Nat) : Int)))] dX10_placePoints_33 (by decide) rfl ?_
        refine rg_aload_n F 1 0 rfl dX10_placePoints_35 rfl ?_
        refine rg_iload_n F 2 1 rfl dX10_placePoints_36 rfl ?_
        refine rg_iload F 8 7 rfl dX10_placePoints_37 ?_
        refine rg_callVI F [.int (rg_I ((r : Nat) : Int)), .int (rg_I ((i : Nat) : Int))] [] 0 (k_X10_isOf κ σ (r) (i) fl rf (h2) (h4) (by first | assumption | omega) (by first | assumption | omega) (by first | assumption | omega) (by first | assumption | omega)) tM0 cX10 v_X10_isOf i_X10_isOf k_ml_X10_109 ⟨Nat.le_of_ble_eq_true rfl, Nat.le_of_ble_eq_true rfl⟩ rfl (Nat.le_of_ble_eq_true rfl) dX10_placePoints_39 (rg_ex2 ?_)
        show rg_G κ Γ rg_tM 10 0 0 (39 + 3) [(8, .int (rg_I ((r * 40 + i : Nat) : Int))), (0, .ref (κ.2.2.2 0)), (1, .int (rg_I ((r : Nat) : Int))), (2, .int (rg_I ((b : Nat) : Int))), (3, .int (rg_I n)), (4, .int (rg_I ((r * 40 + b : Nat) : Int))), (5, .int (rg_I ((x : Nat) : Int))), (6, .int (rg_I ((y : Nat) : Int))), (7, .int (rg_I ((i : Nat) : Int)))] [.int (rg_I (rg_b (rg_isr rf fl r i)))] σ
        refine rg_if_eq F 61 dX10_placePoints_42 (by decide) (by have b0 := rg_b_Rg (rg_isr rf fl r i); omega) (fun c42_3 => ?_) (fun c42_3 => ?_)
        ·
          have c42_3 := (rg_b_eq0 _).mp c42_3
          refine rg_iconst F dX10_placePoints_61 ?_
          refine rg_istore F [(9, .int (rg_I 0)), (8, .int (rg_I ((r * 40 + i : Nat) : Int))), (0, .ref (κ.2.2.2 0)), (1, .int (rg_I ((r : Nat) : Int))), (2, .int (rg_I ((b : Nat) : Int))), (3, .int (rg_I n)), (4, .int (rg_I ((r * 40 + b : Nat) : Int))), (5, .int (rg_I ((x : Nat) : Int))), (6, .int (rg_I ((y : Nat) : Int))), (7, .int (rg_I ((i : Nat) : Int)))] dX10_placePoints_62 (by decide) rfl ?_
          refine rg_iload F 7 5 rfl dX10_placePoints_64 ?_
          refine rg_iload F 0 9 rfl dX10_placePoints_66 ?_
          refine rg_if_eq F 92 dX10_placePoints_68 (by decide) (by omega) (fun c68_4 => ?_) (fun c68_4 => ?_)
          ·
            refine rg_iconst F dX10_placePoints_92 ?_
            refine rg_iadd F dX10_placePoints_93 ?_
            refine rg_istore F [(5, .int (rg_I (((x : Nat) : Int) + 0))), (9, .int (rg_I 0)), (8, .int (rg_I ((r * 40 + i : Nat) : Int))), (0, .ref (κ.2.2.2 0)), (1, .int (rg_I ((r : Nat) : Int))), (2, .int (rg_I ((b : Nat) : Int))), (3, .int (rg_I n)), (4, .int (rg_I ((r * 40 + b : Nat) : Int))), (6, .int (rg_I ((y : Nat) : Int))), (7, .int (rg_I ((i : Nat) : Int)))] dX10_placePoints_94 (by decide) rfl ?_
            refine rg_iload F 8 6 rfl dX10_placePoints_96 ?_
            refine rg_iload F 1 9 rfl dX10_placePoints_98 ?_
            refine rg_if_eq F 124 dX10_placePoints_100 (by decide) (by omega) (fun c100_5 => ?_) (fun c100_5 => ?_)
            ·
              refine rg_iconst F dX10_placePoints_124 ?_
              refine rg_iadd F dX10_placePoints_125 ?_
              refine rg_istore F [(6, .int (rg_I (((y : Nat) : Int) + 0))), (5, .int (rg_I (((x : Nat) : Int) + 0))), (9, .int (rg_I 0)), (8, .int (rg_I ((r * 40 + i : Nat) : Int))), (0, .ref (κ.2.2.2 0)), (1, .int (rg_I ((r : Nat) : Int))), (2, .int (rg_I ((b : Nat) : Int))), (3, .int (rg_I n)), (4, .int (rg_I ((r * 40 + b : Nat) : Int))), (7, .int (rg_I ((i : Nat) : Int)))] dX10_placePoints_126 (by decide) rfl ?_
              refine rg_iinc F (v := ((i + 1 : Nat) : Int)) 9 [(7, .int (rg_I ((i + 1 : Nat) : Int))), (6, .int (rg_I (((y : Nat) : Int) + 0))), (5, .int (rg_I (((x : Nat) : Int) + 0))), (9, .int (rg_I 0)), (8, .int (rg_I ((r * 40 + i : Nat) : Int))), (0, .ref (κ.2.2.2 0)), (1, .int (rg_I ((r : Nat) : Int))), (2, .int (rg_I ((b : Nat) : Int))), (3, .int (rg_I n)), (4, .int (rg_I ((r * 40 + b : Nat) : Int)))] dX10_placePoints_128 rfl (by omega) (by decide) rfl ?_
              refine rg_goto F 17 dX10_placePoints_131 (by decide) ?_
              refine rg_lve (lv' := [(7, .int (rg_I ((i + 1 : Nat) : Int))), (6, .int (rg_I (((y : Nat) : Int) + 0))), (5, .int (rg_I ((x : Nat) : Int))), (9, .int (rg_I 0)), (8, .int (rg_I ((r * 40 + i : Nat) : Int))), (0, .ref (κ.2.2.2 0)), (1, .int (rg_I ((r : Nat) : Int))), (2, .int (rg_I ((b : Nat) : Int))), (3, .int (rg_I n)), (4, .int (rg_I ((r * 40 + b : Nat) : Int)))]) (congrArg (fun x9 : Int => ([(7, .int (rg_I ((i + 1 : Nat) : Int))), (6, .int (rg_I (((y : Nat) : Int) + 0))), (5, .int (rg_I x9)), (9, .int (rg_I 0)), (8, .int (rg_I ((r * 40 + i : Nat) : Int))), (0, .ref (κ.2.2.2 0)), (1, .int (rg_I ((r : Nat) : Int))), (2, .int (rg_I ((b : Nat) : Int))), (3, .int (rg_I n)), (4, .int (rg_I ((r * 40 + b : Nat) : Int)))] : List (Nat × Value))) (by omega)) ?_
              refine rg_lve (lv' := [(7, .int (rg_I ((i + 1 : Nat) : Int))), (6, .int (rg_I ((y : Nat) : Int))), (5, .int (rg_I ((x : Nat) : Int))), (9, .int (rg_I 0)), (8, .int (rg_I ((r * 40 + i : Nat) : Int))), (0, .ref (κ.2.2.2 0)), (1, .int (rg_I ((r : Nat) : Int))), (2, .int (rg_I ((b : Nat) : Int))), (3, .int (rg_I n)), (4, .int (rg_I ((r * 40 + b : Nat) : Int)))]) (congrArg (fun x9 : Int => ([(7, .int (rg_I ((i + 1 : Nat) : Int))), (6, .int (rg_I x9)), (5, .int (rg_I ((x : Nat) : Int))), (9, .int (rg_I 0)), (8, .int (rg_I ((r * 40 + i : Nat) : Int))), (0, .ref (κ.2.2.2 0)), (1, .int (rg_I ((r : Nat) : Int))), (2, .int (rg_I ((b : Nat) : Int))), (3, .int (rg_I n)), (4, .int (rg_I ((r * 40 + b : Nat) : Int)))] : List (Nat × Value))) (by omega)) ?_
              refine rg_sub (lv' := [(0, .ref (κ.2.2.2 0)), (1, .int (rg_I ((r : Nat) : Int))), (2, .int (rg_I ((b : Nat) : Int))), (3, .int (rg_I n)), (4, .int (rg_I ((r * 40 + b : Nat) : Int))), (5, .int (rg_I ((x : Nat) : Int))), (6, .int (rg_I ((y : Nat) : Int))), (7, .int (rg_I ((i + 1 : Nat) : Int)))]) [5, 6, 7, 8, 9, 2, 1, 0] rfl ?_
              exact ih17 (nb - (i + 1)) (by omega) (x) (y) ((i + 1)) rfl (by omega) (by first | (rw [rg_cnt_t (p := (fun i => rg_pl rf fl en r i ∧ ar (r * 40 + i) < ar (r * 40 + b))) ⟨⟨by assumption, by assumption⟩, by assumption⟩]; omega) | (rw [rg_cnt_f (p := (fun i => rg_pl rf fl en r i ∧ ar (r * 40 + i) < ar (r * 40 + b))) (fun q => absurd q.2 (by omega))]; omega) | (rw [rg_cnt_f (p := (fun i => rg_pl rf fl en r i ∧ ar (r * 40 + i) < ar (r * 40 + b))) (fun q => absurd q.1.2 (by assumption))]; omega) | (rw [rg_cnt_f (p := (fun i => rg_pl rf fl en r i ∧ ar (r * 40 + i) < ar (r * 40 + b))) (fun q => absurd q.1.1 (by assumption))]; omega)) (by first | (rw [rg_cnt_t (p := (fun i => rg_pl rf fl en r i ∧ ar (r * 40 + i) = ar (r * 40 + b))) ⟨⟨by assumption, by assumption⟩, by assumption⟩]; omega) | (rw [rg_cnt_f (p := (fun i => rg_pl rf fl en r i ∧ ar (r * 40 + i) = ar (r * 40 + b))) (fun q => absurd q.2 (by omega))]; omega) | (rw [rg_cnt_f (p := (fun i => rg_pl rf fl en r i ∧ ar (r * 40 + i) = ar (r * 40 + b))) (fun q => absurd q.1.2 (by assumption))]; omega) | (rw [rg_cnt_f (p := (fun i => rg_pl rf fl en r i ∧ ar (r * 40 + i) = ar (r * 40 + b))) (fun q => absurd q.1.1 (by assumption))]; omega)) (by omega) (by omega)
            · first | exact absurd c100_5 c68_4 | exact absurd c68_4 c100_5
          · exfalso; omega
        ·
          have c42_3 := (rg_b_ne0 _).mp c42_3
          refine rg_aload_n F 1 0 rfl dX10_placePoints_45 rfl ?_
          refine rg_get F 0 21 tM0 cX10 k_lays_X10 (by decide) k_fl_X10_53 rfl (v := .ref (κ.2.2.2 15)) rfl dX10_placePoints_46 ?_
          refine rg_iload F 0 8 rfl dX10_placePoints_49 ?_
          refine rg_iald F 15 (r * 40 + i) (v := (en (r * 40 + i))) tM15 (by omega) (by omega) (by decide) (congrFun h15 (r * 40 + i)) dX10_placePoints_51 ?_
          refine rg_bipush F dX10_placePoints_52 (by decide +kernel) ?_
          refine rg_icmp_ne F 61 dX10_placePoints_54 (by decide) (by have b0 := hen ((r * 40 + i)); omega) (by omega) (fun c54_6 => ?_) (fun c54_6 => ?_)
          ·
            refine rg_iconst F dX10_placePoints_61 ?_
            refine rg_istore F [(9, .int (rg_I 0)), (8, .int (rg_I ((r * 40 + i : Nat) : Int))), (0, .ref (κ.2.2.2 0)), (1, .int (rg_I ((r : Nat) : Int))), (2, .int (rg_I ((b : Nat) : Int))), (3, .int (rg_I n)), (4, .int (rg_I ((r * 40 + b : Nat) : Int))), (5, .int (rg_I ((x : Nat) : Int))), (6, .int (rg_I ((y : Nat) : Int))), (7, .int (rg_I ((i : Nat) : Int)))] dX10_placePoints_62 (by decide) rfl ?_
            refine rg_iload F 7 5 rfl dX10_placePoints_64 ?_
            refine rg_iload F 0 9 rfl dX10_placePoints_66 ?_
            refine rg_if_eq F 92 dX10_placePoints_68 (by decide) (by omega) (fun c68_7 => ?_) (fun c68_7 => ?_)
            ·
              refine rg_iconst F dX10_placePoints_92 ?_
              refine rg_iadd F dX10_placePoints_93 ?_
              refine rg_istore F [(5, .int (rg_I (((x : Nat) : Int) + 0))), (9, .int (rg_I 0)), (8, .int (rg_I ((r * 40 + i : Nat) : Int))), (0, .ref (κ.2.2.2 0)), (1, .int (rg_I ((r : Nat) : Int))), (2, .int (rg_I ((b : Nat) : Int))), (3, .int (rg_I n)), (4, .int (rg_I ((r * 40 + b : Nat) : Int))), (6, .int (rg_I ((y : Nat) : Int))), (7, .int (rg_I ((i : Nat) : Int)))] dX10_placePoints_94 (by decide) rfl ?_
              refine rg_iload F 8 6 rfl dX10_placePoints_96 ?_
              refine rg_iload F 1 9 rfl dX10_placePoints_98 ?_
              refine rg_if_eq F 124 dX10_placePoints_100 (by decide) (by omega) (fun c100_8 => ?_) (fun c100_8 => ?_)
              ·
                refine rg_iconst F dX10_placePoints_124 ?_
                refine rg_iadd F dX10_placePoints_125 ?_
                refine rg_istore F [(6, .int (rg_I (((y : Nat) : Int) + 0))), (5, .int (rg_I (((x : Nat) : Int) + 0))), (9, .int (rg_I 0)), (8, .int (rg_I ((r * 40 + i : Nat) : Int))), (0, .ref (κ.2.2.2 0)), (1, .int (rg_I ((r : Nat) : Int))), (2, .int (rg_I ((b : Nat) : Int))), (3, .int (rg_I n)), (4, .int (rg_I ((r * 40 + b : Nat) : Int))), (7, .int (rg_I ((i : Nat) : Int)))] dX10_placePoints_126 (by decide) rfl ?_
                refine rg_iinc F (v := ((i + 1 : Nat) : Int)) 9 [(7, .int (rg_I ((i + 1 : Nat) : Int))), (6, .int (rg_I (((y : Nat) : Int) + 0))), (5, .int (rg_I (((x : Nat) : Int) + 0))), (9, .int (rg_I 0)), (8, .int (rg_I ((r * 40 + i : Nat) : Int))), (0, .ref (κ.2.2.2 0)), (1, .int (rg_I ((r : Nat) : Int))), (2, .int (rg_I ((b : Nat) : Int))), (3, .int (rg_I n)), (4, .int (rg_I ((r * 40 + b : Nat) : Int)))] dX10_placePoints_128 rfl (by omega) (by decide) rfl ?_
                refine rg_goto F 17 dX10_placePoints_131 (by decide) ?_
                refine rg_lve (lv' := [(7, .int (rg_I ((i + 1 : Nat) : Int))), (6, .int (rg_I (((y : Nat) : Int) + 0))), (5, .int (rg_I ((x : Nat) : Int))), (9, .int (rg_I 0)), (8, .int (rg_I ((r * 40 + i : Nat) : Int))), (0, .ref (κ.2.2.2 0)), (1, .int (rg_I ((r : Nat) : Int))), (2, .int (rg_I ((b : Nat) : Int))), (3, .int (rg_I n)), (4, .int (rg_I ((r * 40 + b : Nat) : Int)))]) (congrArg (fun x9 : Int => ([(7, .int (rg_I ((i + 1 : Nat) : Int))), (6, .int (rg_I (((y : Nat) : Int) + 0))), (5, .int (rg_I x9)), (9, .int (rg_I 0)), (8, .int (rg_I ((r * 40 + i : Nat) : Int))), (0, .ref (κ.2.2.2 0)), (1, .int (rg_I ((r : Nat) : Int))), (2, .int (rg_I ((b : Nat) : Int))), (3, .int (rg_I n)), (4, .int (rg_I ((r * 40 + b : Nat) : Int)))] : List (Nat × Value))) (by omega)) ?_
                refine rg_lve (lv' := [(7, .int (rg_I ((i + 1 : Nat) : Int))), (6, .int (rg_I ((y : Nat) : Int))), (5, .int (rg_I ((x : Nat) : Int))), (9, .int (rg_I 0)), (8, .int (rg_I ((r * 40 + i : Nat) : Int))), (0, .ref (κ.2.2.2 0)), (1, .int (rg_I ((r : Nat) : Int))), (2, .int (rg_I ((b : Nat) : Int))), (3, .int (rg_I n)), (4, .int (rg_I ((r * 40 + b : Nat) : Int)))]) (congrArg (fun x9 : Int => ([(7, .int (rg_I ((i + 1 : Nat) : Int))), (6, .int (rg_I x9)), (5, .int (rg_I ((x : Nat) : Int))), (9, .int (rg_I 0)), (8, .int (rg_I ((r * 40 + i : Nat) : Int))), (0, .ref (κ.2.2.2 0)), (1, .int (rg_I ((r : Nat) : Int))), (2, .int (rg_I ((b : Nat) : Int))), (3, .int (rg_I n)), (4, .int (rg_I ((r * 40 + b : Nat) : Int)))] : List (Nat × Value))) (by omega)) ?_
                refine rg_sub (lv' := [(0, .ref (κ.2.2.2 0)), (1, .int (rg_I ((r : Nat) : Int))), (2, .int (rg_I ((b : Nat) : Int))), (3, .int (rg_I n)), (4, .int (rg_I ((r * 40 + b : Nat) : Int))), (5, .int (rg_I ((x : Nat) : Int))), (6, .int (rg_I ((y : Nat) : Int))), (7, .int (rg_I ((i + 1 : Nat) : Int)))]) [5, 6, 7, 8, 9, 2, 1, 0] rfl ?_
                exact ih17 (nb - (i + 1)) (by omega) (x) (y) ((i + 1)) rfl (by omega) (by first | (rw [rg_cnt_t (p := (fun i => rg_pl rf fl en r i ∧ ar (r * 40 + i) < ar (r * 40 + b))) ⟨⟨by assumption, by assumption⟩, by assumption⟩]; omega) | (rw [rg_cnt_f (p := (fun i => rg_pl rf fl en r i ∧ ar (r * 40 + i) < ar (r * 40 + b))) (fun q => absurd q.2 (by omega))]; omega) | (rw [rg_cnt_f (p := (fun i => rg_pl rf fl en r i ∧ ar (r * 40 + i) < ar (r * 40 + b))) (fun q => absurd q.1.2 (by assumption))]; omega) | (rw [rg_cnt_f (p := (fun i => rg_pl rf fl en r i ∧ ar (r * 40 + i) < ar (r * 40 + b))) (fun q => absurd q.1.1 (by assumption))]; omega)) (by first | (rw [rg_cnt_t (p := (fun i => rg_pl rf fl en r i ∧ ar (r * 40 + i) = ar (r * 40 + b))) ⟨⟨by assumption, by assumption⟩, by assumption⟩]; omega) | (rw [rg_cnt_f (p := (fun i => rg_pl rf fl en r i ∧ ar (r * 40 + i) = ar (r * 40 + b))) (fun q => absurd q.2 (by omega))]; omega) | (rw [rg_cnt_f (p := (fun i => rg_pl rf fl en r i ∧ ar (r * 40 + i) = ar (r * 40 + b))) (fun q => absurd q.1.2 (by assumption))]; omega) | (rw [rg_cnt_f (p := (fun i => rg_pl rf fl en r i ∧ ar (r * 40 + i) = ar (r * 40 + b))) (fun q => absurd q.1.1 (by assumption))]; omega)) (by omega) (by omega)
              · first | exact absurd c100_8 c68_7 | exact absurd c68_7 c100_8
            · exfalso; omega
          ·
            refine rg_iconst F dX10_placePoints_57 ?_
            refine rg_goto F 62 dX10_placePoints_58 (by decide) ?_
            refine rg_istore F [(9, .int (rg_I 1)), (8, .int (rg_I ((r * 40 + i : Nat) : Int))), (0, .ref (κ.2.2.2 0)), (1, .int (rg_I ((r : Nat) : Int))), (2, .int (rg_I ((b : Nat) : Int))), (3, .int (rg_I n)), (4, .int (rg_I ((r * 40 + b : Nat) : Int))), (5, .int (rg_I ((x : Nat) : Int))), (6, .int (rg_I ((y : Nat) : Int))), (7, .int (rg_I ((i : Nat) : Int)))] dX10_placePoints_62 (by decide) rfl ?_
            refine rg_iload F 7 5 rfl dX10_placePoints_64 ?_
            refine rg_iload F 0 9 rfl dX10_placePoints_66 ?_
            refine rg_if_eq F 92 dX10_placePoints_68 (by decide) (by omega) (fun c68_9 => ?_) (fun c68_9 => ?_)
            · exfalso; omega
            ·
              refine rg_aload_n F 2 0 rfl dX10_placePoints_71 rfl ?_
              refine rg_get F 0 22 tM0 cX10 k_lays_X10 (by decide) k_fl_X10_56 rfl (v := .ref (κ.2.2.2 16)) rfl dX10_placePoints_72 ?_
              refine rg_iload F 1 8 rfl dX10_placePoints_75 ?_
              refine rg_iald F 16 (r * 40 + i) (v := (ar (r * 40 + i))) tM16 (by omega) (by omega) (by decide) (congrFun h16 (r * 40 + i)) dX10_placePoints_77 ?_
              refine rg_aload_n F 2 0 rfl dX10_placePoints_78 rfl ?_
              refine rg_get F 0 22 tM0 cX10 k_lays_X10 (by decide) k_fl_X10_56 rfl (v := .ref (κ.2.2.2 16)) rfl dX10_placePoints_79 ?_
              refine rg_iload F 6 4 rfl dX10_placePoints_82 ?_
              refine rg_iald F 16 (r * 40 + b) (v := (ar (r * 40 + b))) tM16 (by omega) (by omega) (by decide) (congrFun h16 (r * 40 + b)) dX10_placePoints_84 ?_
              refine rg_icmp_ge F 92 dX10_placePoints_85 (by decide) (by have b0 := har ((r * 40 + i)); omega) (by have b0 := har ((r * 40 + b)); omega) (fun c85_10 => ?_) (fun c85_10 => ?_)
              ·
                refine rg_iconst F dX10_placePoints_92 ?_
                refine rg_iadd F dX10_placePoints_93 ?_
                refine rg_istore F [(5, .int (rg_I (((x : Nat) : Int) + 0))), (9, .int (rg_I 1)), (8, .int (rg_I ((r * 40 + i : Nat) : Int))), (0, .ref (κ.2.2.2 0)), (1, .int (rg_I ((r : Nat) : Int))), (2, .int (rg_I ((b : Nat) : Int))), (3, .int (rg_I n)), (4, .int (rg_I ((r * 40 + b : Nat) : Int))), (6, .int (rg_I ((y : Nat) : Int))), (7, .int (rg_I ((i : Nat) : Int)))] dX10_placePoints_94 (by decide) rfl ?_
                refine rg_iload F 8 6 rfl dX10_placePoints_96 ?_
                refine rg_iload F 1 9 rfl dX10_placePoints_98 ?_
                refine rg_if_eq F 124 dX10_placePoints_100 (by decide) (by omega) (fun c100_11 => ?_) (fun c100_11 => ?_)
                · first | exact absurd c100_11 c68_9 | exact absurd c68_9 c100_11
                ·
                  refine rg_aload_n F 3 0 rfl dX10_placePoints_103 rfl ?_
                  refine rg_get F 0 22 tM0 cX10 k_lays_X10 (by decide) k_fl_X10_56 rfl (v := .ref (κ.2.2.2 16)) rfl dX10_placePoints_104 ?_
                  refine rg_iload F 2 8 rfl dX10_placePoints_107 ?_
                  refine rg_iald F 16 (r * 40 + i) (v := (ar (r * 40 + i))) tM16 (by omega) (by omega) (by decide) (congrFun h16 (r * 40 + i)) dX10_placePoints_109 ?_
                  refine rg_aload_n F 3 0 rfl dX10_placePoints_110 rfl ?_
                  refine rg_get F 0 22 tM0 cX10 k_lays_X10 (by decide) k_fl_X10_56 rfl (v := .ref (κ.2.2.2 16)) rfl dX10_placePoints_111 ?_
                  refine rg_iload F 7 4 rfl dX10_placePoints_114 ?_
                  refine rg_iald F 16 (r * 40 + b) (v := (ar (r * 40 + b))) tM16 (by omega) (by omega) (by decide) (congrFun h16 (r * 40 + b)) dX10_placePoints_116 ?_
                  refine rg_icmp_ne F 124 dX10_placePoints_117 (by decide) (by have b0 := har ((r * 40 + i)); omega) (by have b0 := har ((r * 40 + b)); omega) (fun c117_12 => ?_) (fun c117_12 => ?_)
                  ·
                    refine rg_iconst F dX10_placePoints_124 ?_
                    refine rg_iadd F dX10_placePoints_125 ?_
                    refine rg_istore F [(6, .int (rg_I (((y : Nat) : Int) + 0))), (5, .int (rg_I (((x : Nat) : Int) + 0))), (9, .int (rg_I 1)), (8, .int (rg_I ((r * 40 + i : Nat) : Int))), (0, .ref (κ.2.2.2 0)), (1, .int (rg_I ((r : Nat) : Int))), (2, .int (rg_I ((b : Nat) : Int))), (3, .int (rg_I n)), (4, .int (rg_I ((r * 40 + b : Nat) : Int))), (7, .int (rg_I ((i : Nat) : Int)))] dX10_placePoints_126 (by decide) rfl ?_
                    refine rg_iinc F (v := ((i + 1 : Nat) : Int)) 9 [(7, .int (rg_I ((i + 1 : Nat) : Int))), (6, .int (rg_I (((y : Nat) : Int) + 0))), (5, .int (rg_I (((x : Nat) : Int) + 0))), (9, .int (rg_I 1)), (8, .int (rg_I ((r * 40 + i : Nat) : Int))), (0, .ref (κ.2.2.2 0)), (1, .int (rg_I ((r : Nat) : Int))), (2, .int (rg_I ((b : Nat) : Int))), (3, .int (rg_I n)), (4, .int (rg_I ((r * 40 + b : Nat) : Int)))] dX10_placePoints_128 rfl (by omega) (by decide) rfl ?_
                    refine rg_goto F 17 dX10_placePoints_131 (by decide) ?_
                    refine rg_lve (lv' := [(7, .int (rg_I ((i + 1 : Nat) : Int))), (6, .int (rg_I (((y : Nat) : Int) + 0))), (5, .int (rg_I ((x : Nat) : Int))), (9, .int (rg_I 1)), (8, .int (rg_I ((r * 40 + i : Nat) : Int))), (0, .ref (κ.2.2.2 0)), (1, .int (rg_I ((r : Nat) : Int))), (2, .int (rg_I ((b : Nat) : Int))), (3, .int (rg_I n)), (4, .int (rg_I ((r * 40 + b : Nat) : Int)))]) (congrArg (fun x9 : Int => ([(7, .int (rg_I ((i + 1 : Nat) : Int))), (6, .int (rg_I (((y : Nat) : Int) + 0))), (5, .int (rg_I x9)), (9, .int (rg_I 1)), (8, .int (rg_I ((r * 40 + i : Nat) : Int))), (0, .ref (κ.2.2.2 0)), (1, .int (rg_I ((r : Nat) : Int))), (2, .int (rg_I ((b : Nat) : Int))), (3, .int (rg_I n)), (4, .int (rg_I ((r * 40 + b : Nat) : Int)))] : List (Nat × Value))) (by omega)) ?_
                    refine rg_lve (lv' := [(7, .int (rg_I ((i + 1 : Nat) : Int))), (6, .int (rg_I ((y : Nat) : Int))), (5, .int (rg_I ((x : Nat) : Int))), (9, .int (rg_I 1)), (8, .int (rg_I ((r * 40 + i : Nat) : Int))), (0, .ref (κ.2.2.2 0)), (1, .int (rg_I ((r : Nat) : Int))), (2, .int (rg_I ((b : Nat) : Int))), (3, .int (rg_I n)), (4, .int (rg_I ((r * 40 + b : Nat) : Int)))]) (congrArg (fun x9 : Int => ([(7, .int (rg_I ((i + 1 : Nat) : Int))), (6, .int (rg_I x9)), (5, .int (rg_I ((x : Nat) : Int))), (9, .int (rg_I 1)), (8, .int (rg_I ((r * 40 + i : Nat) : Int))), (0, .ref (κ.2.2.2 0)), (1, .int (rg_I ((r : Nat) : Int))), (2, .int (rg_I ((b : Nat) : Int))), (3, .int (rg_I n)), (4, .int (rg_I ((r * 40 + b : Nat) : Int)))] : List (Nat × Value))) (by omega)) ?_
                    refine rg_sub (lv' := [(0, .ref (κ.2.2.2 0)), (1, .int (rg_I ((r : Nat) : Int))), (2, .int (rg_I ((b : Nat) : Int))), (3, .int (rg_I n)), (4, .int (rg_I ((r * 40 + b : Nat) : Int))), (5, .int (rg_I ((x : Nat) : Int))), (6, .int (rg_I ((y : Nat) : Int))), (7, .int (rg_I ((i + 1 : Nat) : Int)))]) [5, 6, 7, 8, 9, 2, 1, 0] rfl ?_
                    exact ih17 (nb - (i + 1)) (by omega) (x) (y) ((i + 1)) rfl (by omega) (by first | (rw [rg_cnt_t (p := (fun i => rg_pl rf fl en r i ∧ ar (r * 40 + i) < ar (r * 40 + b))) ⟨⟨by assumption, by assumption⟩, by assumption⟩]; omega) | (rw [rg_cnt_f (p := (fun i => rg_pl rf fl en r i ∧ ar (r * 40 + i) < ar (r * 40 + b))) (fun q => absurd q.2 (by omega))]; omega) | (rw [rg_cnt_f (p := (fun i => rg_pl rf fl en r i ∧ ar (r * 40 + i) < ar (r * 40 + b))) (fun q => absurd q.1.2 (by assumption))]; omega) | (rw [rg_cnt_f (p := (fun i => rg_pl rf fl en r i ∧ ar (r * 40 + i) < ar (r * 40 + b))) (fun q => absurd q.1.1 (by assumption))]; omega)) (by first | (rw [rg_cnt_t (p := (fun i => rg_pl rf fl en r i ∧ ar (r * 40 + i) = ar (r * 40 + b))) ⟨⟨by assumption, by assumption⟩, by assumption⟩]; omega) | (rw [rg_cnt_f (p := (fun i => rg_pl rf fl en r i ∧ ar (r * 40 + i) = ar (r * 40 + b))) (fun q => absurd q.2 (by omega))]; omega) | (rw [rg_cnt_f (p := (fun i => rg_pl rf fl en r i ∧ ar (r * 40 + i) = ar (r * 40 + b))) (fun q => absurd q.1.2 (by assumption))]; omega) | (rw [rg_cnt_f (p := (fun i => rg_pl rf fl en r i ∧ ar (r * 40 + i) = ar (r * 40 + b))) (fun q => absurd q.1.1 (by assumption))]; omega)) (by omega) (by omega)
                  ·
                    refine rg_iconst F dX10_placePoints_120 ?_
                    refine rg_goto F 125 dX10_placePoints_121 (by decide) ?_
                    refine rg_iadd F dX10_placePoints_125 ?_
                    refine rg_istore F [(6, .int (rg_I (((y : Nat) : Int) + 1))), (5, .int (rg_I (((x : Nat) : Int) + 0))), (9, .int (rg_I 1)), (8, .int (rg_I ((r * 40 + i : Nat) : Int))), (0, .ref (κ.2.2.2 0)), (1, .int (rg_I ((r : Nat) : Int))), (2, .int (rg_I ((b : Nat) : Int))), (3, .int (rg_I n)), (4, .int (rg_I ((r * 40 + b : Nat) : Int))), (7, .int (rg_I ((i : Nat) : Int)))] dX10_placePoints_126 (by decide) rfl ?_
                    refine rg_iinc F (v := ((i + 1 : Nat) : Int)) 9 [(7, .int (rg_I ((i + 1 : Nat) : Int))), (6, .int (rg_I (((y : Nat) : Int) + 1))), (5, .int (rg_I (((x : Nat) : Int) + 0))), (9, .int (rg_I 1)), (8, .int (rg_I ((r * 40 + i : Nat) : Int))), (0, .ref (κ.2.2.2 0)), (1, .int (rg_I ((r : Nat) : Int))), (2, .int (rg_I ((b : Nat) : Int))), (3, .int (rg_I n)), (4, .int (rg_I ((r * 40 + b : Nat) : Int)))] dX10_placePoints_128 rfl (by omega) (by decide) rfl ?_
                    refine rg_goto F 17 dX10_placePoints_131 (by decide) ?_
                    refine rg_lve (lv' := [(7, .int (rg_I ((i + 1 : Nat) : Int))), (6, .int (rg_I (((y : Nat) : Int) + 1))), (5, .int (rg_I ((x : Nat) : Int))), (9, .int (rg_I 1)), (8, .int (rg_I ((r * 40 + i : Nat) : Int))), (0, .ref (κ.2.2.2 0)), (1, .int (rg_I ((r : Nat) : Int))), (2, .int (rg_I ((b : Nat) : Int))), (3, .int (rg_I n)), (4, .int (rg_I ((r * 40 + b : Nat) : Int)))]) (congrArg (fun x9 : Int => ([(7, .int (rg_I ((i + 1 : Nat) : Int))), (6, .int (rg_I (((y : Nat) : Int) + 1))), (5, .int (rg_I x9)), (9, .int (rg_I 1)), (8, .int (rg_I ((r * 40 + i : Nat) : Int))), (0, .ref (κ.2.2.2 0)), (1, .int (rg_I ((r : Nat) : Int))), (2, .int (rg_I ((b : Nat) : Int))), (3, .int (rg_I n)), (4, .int (rg_I ((r * 40 + b : Nat) : Int)))] : List (Nat × Value))) (by omega)) ?_
                    refine rg_lve (lv' := [(7, .int (rg_I ((i + 1 : Nat) : Int))), (6, .int (rg_I (((y + 1) : Nat) : Int))), (5, .int (rg_I ((x : Nat) : Int))), (9, .int (rg_I 1)), (8, .int (rg_I ((r * 40 + i : Nat) : Int))), (0, .ref (κ.2.2.2 0)), (1, .int (rg_I ((r : Nat) : Int))), (2, .int (rg_I ((b : Nat) : Int))), (3, .int (rg_I n)), (4, .int (rg_I ((r * 40 + b : Nat) : Int)))]) (congrArg (fun x9 : Int => ([(7, .int (rg_I ((i + 1 : Nat) : Int))), (6, .int (rg_I x9)), (5, .int (rg_I ((x : Nat) : Int))), (9, .int (rg_I 1)), (8, .int (rg_I ((r * 40 + i : Nat) : Int))), (0, .ref (κ.2.2.2 0)), (1, .int (rg_I ((r : Nat) : Int))), (2, .int (rg_I ((b : Nat) : Int))), (3, .int (rg_I n)), (4, .int (rg_I ((r * 40 + b : Nat) : Int)))] : List (Nat × Value))) (by omega)) ?_
                    refine rg_sub (lv' := [(0, .ref (κ.2.2.2 0)), (1, .int (rg_I ((r : Nat) : Int))), (2, .int (rg_I ((b : Nat) : Int))), (3, .int (rg_I n)), (4, .int (rg_I ((r * 40 + b : Nat) : Int))), (5, .int (rg_I ((x : Nat) : Int))), (6, .int (rg_I (((y + 1) : Nat) : Int))), (7, .int (rg_I ((i + 1 : Nat) : Int)))]) [5, 6, 7, 8, 9, 2, 1, 0] rfl ?_
                    exact ih17 (nb - (i + 1)) (by omega) (x) ((y + 1)) ((i + 1)) rfl (by omega) (by first | (rw [rg_cnt_t (p := (fun i => rg_pl rf fl en r i ∧ ar (r * 40 + i) < ar (r * 40 + b))) ⟨⟨by assumption, by assumption⟩, by assumption⟩]; omega) | (rw [rg_cnt_f (p := (fun i => rg_pl rf fl en r i ∧ ar (r * 40 + i) < ar (r * 40 + b))) (fun q => absurd q.2 (by omega))]; omega) | (rw [rg_cnt_f (p := (fun i => rg_pl rf fl en r i ∧ ar (r * 40 + i) < ar (r * 40 + b))) (fun q => absurd q.1.2 (by assumption))]; omega) | (rw [rg_cnt_f (p := (fun i => rg_pl rf fl en r i ∧ ar (r * 40 + i) < ar (r * 40 + b))) (fun q => absurd q.1.1 (by assumption))]; omega)) (by first | (rw [rg_cnt_t (p := (fun i => rg_pl rf fl en r i ∧ ar (r * 40 + i) = ar (r * 40 + b))) ⟨⟨by assumption, by assumption⟩, by assumption⟩]; omega) | (rw [rg_cnt_f (p := (fun i => rg_pl rf fl en r i ∧ ar (r * 40 + i) = ar (r * 40 + b))) (fun q => absurd q.2 (by omega))]; omega) | (rw [rg_cnt_f (p := (fun i => rg_pl rf fl en r i ∧ ar (r * 40 + i) = ar (r * 40 + b))) (fun q => absurd q.1.2 (by assumption))]; omega) | (rw [rg_cnt_f (p := (fun i => rg_pl rf fl en r i ∧ ar (r * 40 + i) = ar (r * 40 + b))) (fun q => absurd q.1.1 (by assumption))]; omega)) (by omega) (by omega)
              ·
                refine rg_iconst F dX10_placePoints_88 ?_
                refine rg_goto F 93 dX10_placePoints_89 (by decide) ?_
                refine rg_iadd F dX10_placePoints_93 ?_
                refine rg_istore F [(5, .int (rg_I (((x : Nat) : Int) + 1))), (9, .int (rg_I 1)), (8, .int (rg_I ((r * 40 + i : Nat) : Int))), (0, .ref (κ.2.2.2 0)), (1, .int (rg_I ((r : Nat) : Int))), (2, .int (rg_I ((b : Nat) : Int))), (3, .int (rg_I n)), (4, .int (rg_I ((r * 40 + b : Nat) : Int))), (6, .int (rg_I ((y : Nat) : Int))), (7, .int (rg_I ((i : Nat) : Int)))] dX10_placePoints_94 (by decide) rfl ?_
                refine rg_iload F 8 6 rfl dX10_placePoints_96 ?_
                refine rg_iload F 1 9 rfl dX10_placePoints_98 ?_
                refine rg_if_eq F 124 dX10_placePoints_100 (by decide) (by omega) (fun c100_13 => ?_) (fun c100_13 => ?_)
                · first | exact absurd c100_13 c68_9 | exact absurd c68_9 c100_13
                ·
                  refine rg_aload_n F 3 0 rfl dX10_placePoints_103 rfl ?_
                  refine rg_get F 0 22 tM0 cX10 k_lays_X10 (by decide) k_fl_X10_56 rfl (v := .ref (κ.2.2.2 16)) rfl dX10_placePoints_104 ?_
                  refine rg_iload F 2 8 rfl dX10_placePoints_107 ?_
                  refine rg_iald F 16 (r * 40 + i) (v := (ar (r * 40 + i))) tM16 (by omega) (by omega) (by decide) (congrFun h16 (r * 40 + i)) dX10_placePoints_109 ?_
                  refine rg_aload_n F 3 0 rfl dX10_placePoints_110 rfl ?_
                  refine rg_get F 0 22 tM0 cX10 k_lays_X10 (by decide) k_fl_X10_56 rfl (v := .ref (κ.2.2.2 16)) rfl dX10_placePoints_111 ?_
                  refine rg_iload F 7 4 rfl dX10_placePoints_114 ?_
                  refine rg_iald F 16 (r * 40 + b) (v := (ar (r * 40 + b))) tM16 (by omega) (by omega) (by decide) (congrFun h16 (r * 40 + b)) dX10_placePoints_116 ?_
                  refine rg_icmp_ne F 124 dX10_placePoints_117 (by decide) (by have b0 := har ((r * 40 + i)); omega) (by have b0 := har ((r * 40 + b)); omega) (fun c117_14 => ?_) (fun c117_14 => ?_)
                  ·
                    refine rg_iconst F dX10_placePoints_124 ?_
                    refine rg_iadd F dX10_placePoints_125 ?_
                    refine rg_istore F [(6, .int (rg_I (((y : Nat) : Int) + 0))), (5, .int (rg_I (((x : Nat) : Int) + 1))), (9, .int (rg_I 1)), (8, .int (rg_I ((r * 40 + i : Nat) : Int))), (0, .ref (κ.2.2.2 0)), (1, .int (rg_I ((r : Nat) : Int))), (2, .int (rg_I ((b : Nat) : Int))), (3, .int (rg_I n)), (4, .int (rg_I ((r * 40 + b : Nat) : Int))), (7, .int (rg_I ((i : Nat) : Int)))] dX10_placePoints_126 (by decide) rfl ?_
                    refine rg_iinc F (v := ((i + 1 : Nat) : Int)) 9 [(7, .int (rg_I ((i + 1 : Nat) : Int))), (6, .int (rg_I (((y : Nat) : Int) + 0))), (5, .int (rg_I (((x : Nat) : Int) + 1))), (9, .int (rg_I 1)), (8, .int (rg_I ((r * 40 + i : Nat) : Int))), (0, .ref (κ.2.2.2 0)), (1, .int (rg_I ((r : Nat) : Int))), (2, .int (rg_I ((b : Nat) : Int))), (3, .int (rg_I n)), (4, .int (rg_I ((r * 40 + b : Nat) : Int)))] dX10_placePoints_128 rfl (by omega) (by decide) rfl ?_
                    refine rg_goto F 17 dX10_placePoints_131 (by decide) ?_
                    refine rg_lve (lv' := [(7, .int (rg_I ((i + 1 : Nat) : Int))), (6, .int (rg_I (((y : Nat) : Int) + 0))), (5, .int (rg_I (((x + 1) : Nat) : Int))), (9, .int (rg_I 1)), (8, .int (rg_I ((r * 40 + i : Nat) : Int))), (0, .ref (κ.2.2.2 0)), (1, .int (rg_I ((r : Nat) : Int))), (2, .int (rg_I ((b : Nat) : Int))), (3, .int (rg_I n)), (4, .int (rg_I ((r * 40 + b : Nat) : Int)))]) (congrArg (fun x9 : Int => ([(7, .int (rg_I ((i + 1 : Nat) : Int))), (6, .int (rg_I (((y : Nat) : Int) + 0))), (5, .int (rg_I x9)), (9, .int (rg_I 1)), (8, .int (rg_I ((r * 40 + i : Nat) : Int))), (0, .ref (κ.2.2.2 0)), (1, .int (rg_I ((r : Nat) : Int))), (2, .int (rg_I ((b : Nat) : Int))), (3, .int (rg_I n)), (4, .int (rg_I ((r * 40 + b : Nat) : Int)))] : List (Nat × Value))) (by omega)) ?_
                    refine rg_lve (lv' := [(7, .int (rg_I ((i + 1 : Nat) : Int))), (6, .int (rg_I ((y : Nat) : Int))), (5, .int (rg_I (((x + 1) : Nat) : Int))), (9, .int (rg_I 1)), (8, .int (rg_I ((r * 40 + i : Nat) : Int))), (0, .ref (κ.2.2.2 0)), (1, .int (rg_I ((r : Nat) : Int))), (2, .int (rg_I ((b : Nat) : Int))), (3, .int (rg_I n)), (4, .int (rg_I ((r * 40 + b : Nat) : Int)))]) (congrArg (fun x9 : Int => ([(7, .int (rg_I ((i + 1 : Nat) : Int))), (6, .int (rg_I x9)), (5, .int (rg_I (((x + 1) : Nat) : Int))), (9, .int (rg_I 1)), (8, .int (rg_I ((r * 40 + i : Nat) : Int))), (0, .ref (κ.2.2.2 0)), (1, .int (rg_I ((r : Nat) : Int))), (2, .int (rg_I ((b : Nat) : Int))), (3, .int (rg_I n)), (4, .int (rg_I ((r * 40 + b : Nat) : Int)))] : List (Nat × Value))) (by omega)) ?_
                    refine rg_sub (lv' := [(0, .ref (κ.2.2.2 0)), (1, .int (rg_I ((r : Nat) : Int))), (2, .int (rg_I ((b : Nat) : Int))), (3, .int (rg_I n)), (4, .int (rg_I ((r * 40 + b : Nat) : Int))), (5, .int (rg_I (((x + 1) : Nat) : Int))), (6, .int (rg_I ((y : Nat) : Int))), (7, .int (rg_I ((i + 1 : Nat) : Int)))]) [5, 6, 7, 8, 9, 2, 1, 0] rfl ?_
                    exact ih17 (nb - (i + 1)) (by omega) ((x + 1)) (y) ((i + 1)) rfl (by omega) (by first | (rw [rg_cnt_t (p := (fun i => rg_pl rf fl en r i ∧ ar (r * 40 + i) < ar (r * 40 + b))) ⟨⟨by assumption, by assumption⟩, by assumption⟩]; omega) | (rw [rg_cnt_f (p := (fun i => rg_pl rf fl en r i ∧ ar (r * 40 + i) < ar (r * 40 + b))) (fun q => absurd q.2 (by omega))]; omega) | (rw [rg_cnt_f (p := (fun i => rg_pl rf fl en r i ∧ ar (r * 40 + i) < ar (r * 40 + b))) (fun q => absurd q.1.2 (by assumption))]; omega) | (rw [rg_cnt_f (p := (fun i => rg_pl rf fl en r i ∧ ar (r * 40 + i) < ar (r * 40 + b))) (fun q => absurd q.1.1 (by assumption))]; omega)) (by first | (rw [rg_cnt_t (p := (fun i => rg_pl rf fl en r i ∧ ar (r * 40 + i) = ar (r * 40 + b))) ⟨⟨by assumption, by assumption⟩, by assumption⟩]; omega) | (rw [rg_cnt_f (p := (fun i => rg_pl rf fl en r i ∧ ar (r * 40 + i) = ar (r * 40 + b))) (fun q => absurd q.2 (by omega))]; omega) | (rw [rg_cnt_f (p := (fun i => rg_pl rf fl en r i ∧ ar (r * 40 + i) = ar (r * 40 + b))) (fun q => absurd q.1.2 (by assumption))]; omega) | (rw [rg_cnt_f (p := (fun i => rg_pl rf fl en r i ∧ ar (r * 40 + i) = ar (r * 40 + b))) (fun q => absurd q.1.1 (by assumption))]; omega)) (by omega) (by omega)
                  ·
                    refine rg_iconst F dX10_placePoints_120 ?_
                    refine rg_goto F 125 dX10_placePoints_121 (by decide) ?_
                    refine rg_iadd F dX10_placePoints_125 ?_
                    refine rg_istore F [(6, .int (rg_I (((y : Nat) : Int) + 1))), (5, .int (rg_I (((x : Nat) : Int) + 1))), (9, .int (rg_I 1)), (8, .int (rg_I ((r * 40 + i : Nat) : Int))), (0, .ref (κ.2.2.2 0)), (1, .int (rg_I ((r : Nat) : Int))), (2, .int (rg_I ((b : Nat) : Int))), (3, .int (rg_I n)), (4, .int (rg_I ((r * 40 + b : Nat) : Int))), (7, .int (rg_I ((i : Nat) : Int)))] dX10_placePoints_126 (by decide) rfl ?_
                    refine rg_iinc F (v := ((i + 1 : Nat) : Int)) 9 [(7, .int (rg_I ((i + 1 : Nat) : Int))), (6, .int (rg_I (((y : Nat) : Int) + 1))), (5, .int (rg_I (((x : Nat) : Int) + 1))), (9, .int (rg_I 1)), (8, .int (rg_I ((r * 40 + i : Nat) : Int))), (0, .ref (κ.2.2.2 0)), (1, .int (rg_I ((r : Nat) : Int))), (2, .int (rg_I ((b : Nat) : Int))), (3, .int (rg_I n)), (4, .int (rg_I ((r * 40 + b : Nat) : Int)))] dX10_placePoints_128 rfl (by omega) (by decide) rfl ?_
                    refine rg_goto F 17 dX10_placePoints_131 (by decide) ?_
                    refine rg_lve (lv' := [(7, .int (rg_I ((i + 1 : Nat) : Int))), (6, .int (rg_I (((y : Nat) : Int) + 1))), (5, .int (rg_I (((x + 1) : Nat) : Int))), (9, .int (rg_I 1)), (8, .int (rg_I ((r * 40 + i : Nat) : Int))), (0, .ref (κ.2.2.2 0)), (1, .int (rg_I ((r : Nat) : Int))), (2, .int (rg_I ((b : Nat) : Int))), (3, .int (rg_I n)), (4, .int (rg_I ((r * 40 + b : Nat) : Int)))]) (congrArg (fun x9 : Int => ([(7, .int (rg_I ((i + 1 : Nat) : Int))), (6, .int (rg_I (((y : Nat) : Int) + 1))), (5, .int (rg_I x9)), (9, .int (rg_I 1)), (8, .int (rg_I ((r * 40 + i : Nat) : Int))), (0, .ref (κ.2.2.2 0)), (1, .int (rg_I ((r : Nat) : Int))), (2, .int (rg_I ((b : Nat) : Int))), (3, .int (rg_I n)), (4, .int (rg_I ((r * 40 + b : Nat) : Int)))] : List (Nat × Value))) (by omega)) ?_
                    refine rg_lve (lv' := [(7, .int (rg_I ((i + 1 : Nat) : Int))), (6, .int (rg_I (((y + 1) : Nat) : Int))), (5, .int (rg_I (((x + 1) : Nat) : Int))), (9, .int (rg_I 1)), (8, .int (rg_I ((r * 40 + i : Nat) : Int))), (0, .ref (κ.2.2.2 0)), (1, .int (rg_I ((r : Nat) : Int))), (2, .int (rg_I ((b : Nat) : Int))), (3, .int (rg_I n)), (4, .int (rg_I ((r * 40 + b : Nat) : Int)))]) (congrArg (fun x9 : Int => ([(7, .int (rg_I ((i + 1 : Nat) : Int))), (6, .int (rg_I x9)), (5, .int (rg_I (((x + 1) : Nat) : Int))), (9, .int (rg_I 1)), (8, .int (rg_I ((r * 40 + i : Nat) : Int))), (0, .ref (κ.2.2.2 0)), (1, .int (rg_I ((r : Nat) : Int))), (2, .int (rg_I ((b : Nat) : Int))), (3, .int (rg_I n)), (4, .int (rg_I ((r * 40 + b : Nat) : Int)))] : List (Nat × Value))) (by omega)) ?_
                    refine rg_sub (lv' := [(0, .ref (κ.2.2.2 0)), (1, .int (rg_I ((r : Nat) : Int))), (2, .int (rg_I ((b : Nat) : Int))), (3, .int (rg_I n)), (4, .int (rg_I ((r * 40 + b : Nat) : Int))), (5, .int (rg_I (((x + 1) : Nat) : Int))), (6, .int (rg_I (((y + 1) : Nat) : Int))), (7, .int (rg_I ((i + 1 : Nat) : Int)))]) [5, 6, 7, 8, 9, 2, 1, 0] rfl ?_
                    exact ih17 (nb - (i + 1)) (by omega) ((x + 1)) ((y + 1)) ((i + 1)) rfl (by omega) (by first | (rw [rg_cnt_t (p := (fun i => rg_pl rf fl en r i ∧ ar (r * 40 + i) < ar (r * 40 + b))) ⟨⟨by assumption, by assumption⟩, by assumption⟩]; omega) | (rw [rg_cnt_f (p := (fun i => rg_pl rf fl en r i ∧ ar (r * 40 + i) < ar (r * 40 + b))) (fun q => absurd q.2 (by omega))]; omega) | (rw [rg_cnt_f (p := (fun i => rg_pl rf fl en r i ∧ ar (r * 40 + i) < ar (r * 40 + b))) (fun q => absurd q.1.2 (by assumption))]; omega) | (rw [rg_cnt_f (p := (fun i => rg_pl rf fl en r i ∧ ar (r * 40 + i) < ar (r * 40 + b))) (fun q => absurd q.1.1 (by assumption))]; omega)) (by first | (rw [rg_cnt_t (p := (fun i => rg_pl rf fl en r i ∧ ar (r * 40 + i) = ar (r * 40 + b))) ⟨⟨by assumption, by assumption⟩, by assumption⟩]; omega) | (rw [rg_cnt_f (p := (fun i => rg_pl rf fl en r i ∧ ar (r * 40 + i) = ar (r * 40 + b))) (fun q => absurd q.2 (by omega))]; omega) | (rw [rg_cnt_f (p := (fun i => rg_pl rf fl en r i ∧ ar (r * 40 + i) = ar (r * 40 + b))) (fun q => absurd q.1.2 (by assumption))]; omega) | (rw [rg_cnt_f (p := (fun i => rg_pl rf fl en r i ∧ ar (r * 40 + i) = ar (r * 40 + b))) (fun q => absurd q.1.1 (by assumption))]; omega)) (by omega) (by omega)
  refine rg_sub (lv' := [(0, .ref (κ.2.2.2 0)), (1, .int (rg_I ((r : Nat) : Int))), (2, .int (rg_I ((b : Nat) : Int))), (3, .int (rg_I n)), (4, .int (rg_I ((r * 40 + b : Nat) : Int))), (5, .int (rg_I 0)), (6, .int (rg_I 0)), (7, .int (rg_I 0))]) [4, 5, 6, 7, 3, 2, 1, 0] rfl ?_
  exact L17 _ (0) (0) (0) rfl (by omega) rfl rfl (by omega) (by omega)
set_option maxHeartbeats 400000 in
set_option maxRecDepth 100000 in
/-- firstPoints -/
theorem k_X10_firstPoints (κ : rg_K) (σ : rg_S) (fl : Nat → Int) (rf : Nat → Int) (en : Nat → Int) (ar : Nat → Int) (pe : Nat → Int) (f19 : Nat → Int) (nb : Nat) (nr : Nat) (h2 : σ 2 = fl) (h4 : σ 4 = rf) (h15 : σ 15 = en) (h16 : σ 16 = ar) (h17 : σ 17 = pe) (h19 : σ 19 = f19) (h0_1 : σ 0 1 = ((nb : Nat) : Int)) (h0_4 : σ 0 4 = ((nr : Nat) : Int)) (hnb : nb ≤ 40) (hnr : nr ≤ 16) (hen : ∀ j, rg_Rg (en j)) (har : ∀ j, rg_Rg (ar j)) (hpe : ∀ r b, r < nr → b < nb → 0 ≤ pe (r * 40 + b) ∧ pe (r * 40 + b) ≤ 100) (hfl : ∀ j, rg_Rg (fl j)) (hrf : ∀ j, rg_Rg (rf j)) : rg_CV κ rg_tM yX10_firstPoints cX10_firstPoints 5 2 51 [.ref (κ.2.2.2 0)] σ (fun σ9 => σ9 = (rg_wr σ 19 (rg_tab f19 nr nb (rg_q0 rf fl en ar pe nb)))) := by
  refine rg_entV [(0, .ref (κ.2.2.2 0))] rfl (by decide +kernel) (Nat.le_of_ble_eq_true rfl) (fun Γ F hR => ?_)
  refine rg_iconst F dX10_firstPoints_0 ?_
  refine rg_istore_n F [(1, .int (rg_I 0)), (0, .ref (κ.2.2.2 0))] dX10_firstPoints_1 rfl (by decide) rfl ?_
  have L2 : ∀ (n2 : Nat) (r : Nat), n2 = nr - r → (r ≤ nr) → rg_G κ Γ rg_tM 5 0 0 2 [(0, .ref (κ.2.2.2 0)), (1, .int (rg_I ((r : Nat) : Int)))] [] (rg_wr σ 19 (rg_tab f19 r nb (rg_q0 rf fl en ar pe nb))) := by
    intro n2
    induction n2 using Nat.strongRecOn with
    | _ n2 ih2 =>
      intro r hn2 hr
      refine rg_iload_n F 1 1 rfl dX10_firstPoints_2 rfl ?_
      refine rg_aload_n F 0 0 rfl dX10_firstPoints_3 rfl ?_
      refine rg_get F 0 4 tM0 cX10 k_lays_X10 (by decide) k_fl_X10_99 rfl (v := .int (rg_I ((nr : Nat) : Int))) (congrArg (fun x => Value.int (rg_I x)) h0_4) dX10_firstPoints_4 ?_
      refine rg_icmp_ge F 104 dX10_firstPoints_7 (by decide) (by omega) (by omega) (fun c7_1 => ?_) (fun c7_1 => ?_)
      ·
        exact hR _ _ _ dX10_firstPoints_104 (rg_wr_congr (f := (rg_tab f19 r nb (rg_q0 rf fl en ar pe nb))) (g := (rg_tab f19 nr nb (rg_q0 rf fl en ar pe nb))) 19 rfl (by rw [show r = nr by omega]))
      ·
        refine rg_aload_n F 0 0 rfl dX10_firstPoints_10 rfl ?_
        refine rg_iload_n F 1 1 rfl dX10_firstPoints_11 rfl ?_
        refine rg_callVI F [.int (rg_I ((r : Nat) : Int))] [] 0 (k_X10_sizeOf κ (rg_wr σ 19 (rg_tab f19 r nb (rg_q0 rf fl en ar pe nb))) (r) fl rf (nb) (h2) (h4) (h0_1) (by first | assumption | omega) (by first | assumption | omega) (by first | assumption | omega) (by first | assumption | omega)) tM0 cX10 v_X10_sizeOf i_X10_sizeOf k_ml_X10_113 ⟨Nat.le_of_ble_eq_true rfl, Nat.le_of_ble_eq_true rfl⟩ rfl (Nat.le_of_ble_eq_true rfl) dX10_firstPoints_12 (rg_ex2 ?_)
        show rg_G κ Γ rg_tM 5 0 0 (12 + 3) [(0, .ref (κ.2.2.2 0)), (1, .int (rg_I ((r : Nat) : Int)))] [.int (rg_I (rg_SZ rf fl nb r))] (rg_wr σ 19 (rg_tab f19 r nb (rg_q0 rf fl en ar pe nb)))
        refine rg_istore_n F [(2, .int (rg_I (rg_SZ rf fl nb r))), (0, .ref (κ.2.2.2 0)), (1, .int (rg_I ((r : Nat) : Int)))] dX10_firstPoints_15 rfl (by decide) rfl ?_
        refine rg_iconst F dX10_firstPoints_16 ?_
        refine rg_istore_n F [(3, .int (rg_I 0)), (2, .int (rg_I (rg_SZ rf fl nb r))), (0, .ref (κ.2.2.2 0)), (1, .int (rg_I ((r : Nat) : Int)))] dX10_firstPoints_17 rfl (by decide) rfl ?_
        have L18 : ∀ (n18 : Nat) (b : Nat), n18 = nb - b → (b ≤ nb) → rg_G κ Γ rg_tM 5 0 0 18 [(0, .ref (κ.2.2.2 0)), (1, .int (rg_I ((r : Nat) : Int))), (2, .int (rg_I (rg_SZ rf fl nb r))), (3, .int (rg_I ((b : Nat) : Int)))] [] (rg_wr σ 19 (rg_row (rg_tab f19 r nb (rg_q0 rf fl en ar pe nb)) r b ((rg_q0 rf fl en ar pe nb) r))) := by
          intro n18
          induction n18 using Nat.strongRecOn with
          | _ n18 ih18 =>
            intro b hn18 hb
            refine rg_iload_n F 3 3 rfl dX10_firstPoints_18 rfl ?_
            refine rg_aload_n F 0 0 rfl dX10_firstPoints_19 rfl ?_
            refine rg_get F 0 1 tM0 cX10 k_lays_X10 (by decide) k_fl_X10_102 rfl (v := .int (rg_I ((nb : Nat) : Int))) (congrArg (fun x => Value.int (rg_I x)) h0_1) dX10_firstPoints_20 ?_
            refine rg_icmp_ge F 98 dX10_firstPoints_23 (by decide) (by omega) (by omega) (fun c23_2 => ?_) (fun c23_2 => ?_)
            ·
              refine rg_iinc F (v := ((r + 1 : Nat) : Int)) 1 [(1, .int (rg_I ((r + 1 : Nat) : Int))), (0, .ref (κ.2.2.2 0)), (2, .int (rg_I (rg_SZ rf fl nb r))), (3, .int (rg_I ((b : Nat) : Int)))] dX10_firstPoints_98 rfl (by omega) (by decide) rfl ?_
              refine rg_goto F 2 dX10_firstPoints_101 (by decide) ?_
              refine rg_eq (σ' := (rg_wr σ 19 (rg_tab f19 (r + 1) nb (rg_q0 rf fl en ar pe nb)))) (rg_wr_congr (f := (rg_row (rg_tab f19 r nb (rg_q0 rf fl en ar pe nb)) r b ((rg_q0 rf fl en ar pe nb) r))) (g := (rg_tab f19 (r + 1) nb (rg_q0 rf fl en ar pe nb))) 19 rfl (by rw [show b = nb by omega]; exact rg_tab_s _ _ (rg_q0 rf fl en ar pe nb) hnb)) ?_
              refine rg_sub (lv' := [(0, .ref (κ.2.2.2 0)), (1, .int (rg_I ((r + 1 : Nat) : Int)))]) [1, 0] rfl ?_
              exact ih2 (nr - (r + 1)) (by omega) ((r + 1)) rfl (by omega)
            ·
              refine rg_bipush F dX10_firstPoints_26 (by decide +kernel) ?_
              refine rg_iload_n F 1 1 rfl dX10_firstPoints_28 rfl ?_
              refine rg_imul F dX10_firstPoints_29 ?_
              refine rg_iload_n F 3 3 rfl dX10_firstPoints_30 rfl ?_
              refine rg_iadd F dX10_firstPoints_31 ?_
              refine rg_stk (st' := [.int (rg_I ((r * 40 + b : Nat) : Int))]) (congrArg (fun x9 : Int => Value.int (rg_I x9) :: []) (by omega)) ?_
              refine rg_istore F [(4, .int (rg_I ((r * 40 + b : Nat) : Int))), (0, .ref (κ.2.2.2 0)), (1, .int (rg_I ((r : Nat) : Int))), (2, .int (rg_I (rg_SZ rf fl nb r))), (3, .int (rg_I ((b : Nat) : Int)))] dX10_firstPoints_32 (by decide) rfl ?_
              refine rg_aload_n F 1 0 rfl dX10_firstPoints_34 rfl ?_
              refine rg_get F 0 25 tM0 cX10 k_lays_X10 (by decide) k_fl_X10_65 rfl (v := .ref (κ.2.2.2 19)) rfl dX10_firstPoints_35 ?_
              refine rg_iload F 0 4 rfl dX10_firstPoints_38 ?_
              refine rg_aload_n F 1 0 rfl dX10_firstPoints_40 rfl ?_
              refine rg_get F 0 21 tM0 cX10 k_lays_X10 (by decide) k_fl_X10_53 rfl (v := .ref (κ.2.2.2 15)) rfl dX10_firstPoints_41 ?_
              refine rg_iload F 0 4 rfl dX10_firstPoints_44 ?_
              refine rg_iald F 15 (r * 40 + b) (v := (en (r * 40 + b))) tM15 (by omega) (by omega) (by decide) (congrFun h15 (r * 40 + b)) dX10_firstPoints_46 ?_
              refine rg_bipush F dX10_firstPoints_47 (by decide +kernel) ?_
              refine rg_icmp_ne F 62 dX10_firstPoints_49 (by decide) (by have b0 := hen ((r * 40 + b)); omega) (by omega) (fun c49_3 => ?_) (fun c49_3 => ?_)
              ·
                refine rg_aload_n F 1 0 rfl dX10_firstPoints_62 rfl ?_
                refine rg_get F 0 21 tM0 cX10 k_lays_X10 (by decide) k_fl_X10_53 rfl (v := .ref (κ.2.2.2 15)) rfl dX10_firstPoints_63 ?_
                refine rg_iload F 0 4 rfl dX10_firstPoints_66 ?_
                refine rg_iald F 15 (r * 40 + b) (v := (en (r * 40 + b))) tM15 (by omega) (by omega) (by decide) (congrFun h15 (r * 40 + b)) dX10_firstPoints_68 ?_
                refine rg_bipush F dX10_firstPoints_69 (by decide +kernel) ?_
                refine rg_icmp_ne F 84 dX10_firstPoints_71 (by decide) (by have b0 := hen ((r * 40 + b)); omega) (by omega) (fun c71_4 => ?_) (fun c71_4 => ?_)
                ·
                  refine rg_bipush F dX10_firstPoints_84 (by decide +kernel) ?_
                  refine rg_iload_n F 3 2 rfl dX10_firstPoints_86 rfl ?_
                  refine rg_imul F dX10_firstPoints_87 ?_
                  refine rg_bipush F dX10_firstPoints_88 (by decide +kernel) ?_
                  refine rg_iadd F dX10_firstPoints_90 ?_
                  refine rg_iast F 19 (r * 40 + b) tM19 (by omega) (by omega) (by decide) (f9 := (rg_row (rg_tab f19 r nb (rg_q0 rf fl en ar pe nb)) r b ((rg_q0 rf fl en ar pe nb) r))) rfl (rg_wr σ 19 (rg_up (rg_row (rg_tab f19 r nb (rg_q0 rf fl en ar pe nb)) r b ((rg_q0 rf fl en ar pe nb) r)) (r * 40 + b) ((10 * (rg_SZ rf fl nb r)) + 10))) (rg_wr_wr _ 19 _ _) dX10_firstPoints_91 ?_
                  refine rg_iinc F (v := ((b + 1 : Nat) : Int)) 4 [(3, .int (rg_I ((b + 1 : Nat) : Int))), (4, .int (rg_I ((r * 40 + b : Nat) : Int))), (0, .ref (κ.2.2.2 0)), (1, .int (rg_I ((r : Nat) : Int))), (2, .int (rg_I (rg_SZ rf fl nb r)))] dX10_firstPoints_92 rfl (by omega) (by decide) rfl ?_
                  refine rg_goto F 18 dX10_firstPoints_95 (by decide) ?_
                  refine rg_eq (σ' := (rg_wr σ 19 (rg_row (rg_tab f19 r nb (rg_q0 rf fl en ar pe nb)) r (b + 1) ((rg_q0 rf fl en ar pe nb) r)))) (rg_wr_congr (f := (rg_up (rg_row (rg_tab f19 r nb (rg_q0 rf fl en ar pe nb)) r b ((rg_q0 rf fl en ar pe nb) r)) (r * 40 + b) ((10 * (rg_SZ rf fl nb r)) + 10))) (g := (rg_row (rg_tab f19 r nb (rg_q0 rf fl en ar pe nb)) r (b + 1) ((rg_q0 rf fl en ar pe nb) r))) 19 rfl (rg_row_s _ _ _ _ (by first | exact rg_q0_9 (by assumption) | exact rg_q0_8 (by assumption) (by assumption) | exact rg_q0_x (by assumption) (by assumption)))) ?_
                  refine rg_sub (lv' := [(0, .ref (κ.2.2.2 0)), (1, .int (rg_I ((r : Nat) : Int))), (2, .int (rg_I (rg_SZ rf fl nb r))), (3, .int (rg_I ((b + 1 : Nat) : Int)))]) [2, 3, 4, 0] rfl ?_
                  exact ih18 (nb - (b + 1)) (by omega) ((b + 1)) rfl (by omega)
                ·
                  refine rg_aload_n F 1 0 rfl dX10_firstPoints_74 rfl ?_
                  refine rg_get F 0 22 tM0 cX10 k_lays_X10 (by decide) k_fl_X10_56 rfl (v := .ref (κ.2.2.2 16)) rfl dX10_firstPoints_75 ?_
                  refine rg_iload F 0 4 rfl dX10_firstPoints_78 ?_
                  refine rg_iald F 16 (r * 40 + b) (v := (ar (r * 40 + b))) tM16 (by omega) (by omega) (by decide) (congrFun h16 (r * 40 + b)) dX10_firstPoints_80 ?_
                  refine rg_goto F 91 dX10_firstPoints_81 (by decide) ?_
                  refine rg_iast F 19 (r * 40 + b) tM19 (by omega) (by omega) (by decide) (f9 := (rg_row (rg_tab f19 r nb (rg_q0 rf fl en ar pe nb)) r b ((rg_q0 rf fl en ar pe nb) r))) rfl (rg_wr σ 19 (rg_up (rg_row (rg_tab f19 r nb (rg_q0 rf fl en ar pe nb)) r b ((rg_q0 rf fl en ar pe nb) r)) (r * 40 + b) (ar (r * 40 + b)))) (rg_wr_wr _ 19 _ _) dX10_firstPoints_91 ?_
                  refine rg_iinc F (v := ((b + 1 : Nat) : Int)) 4 [(3, .int (rg_I ((b + 1 : Nat) : Int))), (4, .int (rg_I ((r * 40 + b : Nat) : Int))), (0, .ref (κ.2.2.2 0)), (1, .int (rg_I ((r : Nat) : Int))), (2, .int (rg_I (rg_SZ rf fl nb r)))] dX10_firstPoints_92 rfl (by omega) (by decide) rfl ?_
                  refine rg_goto F 18 dX10_firstPoints_95 (by decide) ?_
                  refine rg_eq (σ' := (rg_wr σ 19 (rg_row (rg_tab f19 r nb (rg_q0 rf fl en ar pe nb)) r (b + 1) ((rg_q0 rf fl en ar pe nb) r)))) (rg_wr_congr (f := (rg_up (rg_row (rg_tab f19 r nb (rg_q0 rf fl en ar pe nb)) r b ((rg_q0 rf fl en ar pe nb) r)) (r * 40 + b) (ar (r * 40 + b)))) (g := (rg_row (rg_tab f19 r nb (rg_q0 rf fl en ar pe nb)) r (b + 1) ((rg_q0 rf fl en ar pe nb) r))) 19 rfl (rg_row_s _ _ _ _ (by first | exact rg_q0_9 (by assumption) | exact rg_q0_8 (by assumption) (by assumption) | exact rg_q0_x (by assumption) (by assumption)))) ?_
                  refine rg_sub (lv' := [(0, .ref (κ.2.2.2 0)), (1, .int (rg_I ((r : Nat) : Int))), (2, .int (rg_I (rg_SZ rf fl nb r))), (3, .int (rg_I ((b + 1 : Nat) : Int)))]) [2, 3, 4, 0] rfl ?_
                  exact ih18 (nb - (b + 1)) (by omega) ((b + 1)) rfl (by omega)
              ·
                refine rg_aload_n F 1 0 rfl dX10_firstPoints_52 rfl ?_
                refine rg_iload_n F 2 1 rfl dX10_firstPoints_53 rfl ?_
                refine rg_iload_n F 4 3 rfl dX10_firstPoints_54 rfl ?_
                refine rg_iload_n F 3 2 rfl dX10_firstPoints_55 rfl ?_
                refine rg_callVI F [.int (rg_I ((r : Nat) : Int)), .int (rg_I ((b : Nat) : Int)), .int (rg_I (rg_SZ rf fl nb r))] [.int (rg_I ((r * 40 + b : Nat) : Int)), .ref (κ.2.2.2 19)] 0 (k_X10_placePoints κ (rg_wr σ 19 (rg_row (rg_tab f19 r nb (rg_q0 rf fl en ar pe nb)) r b ((rg_q0 rf fl en ar pe nb) r))) (r) (b) ((rg_SZ rf fl nb r)) fl rf en ar pe (nb) (h2) (h4) (h15) (h16) (h17) (h0_1) (by first | assumption | omega) (by first | assumption | omega) (by first | assumption | omega) (by have := rg_SZ_bd rf fl nb r; omega) (hpe r b (by omega) (by omega)) (by first | assumption | omega) (by first | assumption | omega) (by first | assumption | omega) (by first | assumption | omega)) tM0 cX10 v_X10_placePoints i_X10_placePoints k_ml_X10_116 ⟨Nat.le_of_ble_eq_true rfl, Nat.le_of_ble_eq_true rfl⟩ rfl (Nat.le_of_ble_eq_true rfl) dX10_firstPoints_56 (rg_ex2 ?_)
                show rg_G κ Γ rg_tM 5 0 0 (56 + 3) [(4, .int (rg_I ((r * 40 + b : Nat) : Int))), (0, .ref (κ.2.2.2 0)), (1, .int (rg_I ((r : Nat) : Int))), (2, .int (rg_I (rg_SZ rf fl nb r))), (3, .int (rg_I ((b : Nat) : Int)))] [.int (rg_I (rg_pp (rg_SZ rf fl nb r) ((rg_cnt (fun i => rg_pl rf fl en r i ∧ ar (r * 40 + i) = ar (r * 40 + b)) nb : Nat) : Int) ((rg_cnt (fun i => rg_pl rf fl en r i ∧ ar (r * 40 + i) < ar (r * 40 + b)) nb : Nat) : Int) (pe (r * 40 + b)))), .int (rg_I ((r * 40 + b : Nat) : Int)), .ref (κ.2.2.2 19)] (rg_wr σ 19 (rg_row (rg_tab f19 r nb (rg_q0 rf fl en ar pe nb)) r b ((rg_q0 rf fl en ar pe nb) r)))
                refine rg_goto F 91 dX10_firstPoints_59 (by decide) ?_
                refine rg_iast F 19 (r * 40 + b) tM19 (by omega) (by omega) (by decide) (f9 := (rg_row (rg_tab f19 r nb (rg_q0 rf fl en ar pe nb)) r b ((rg_q0 rf fl en ar pe nb) r))) rfl (rg_wr σ 19 (rg_up (rg_row (rg_tab f19 r nb (rg_q0 rf fl en ar pe nb)) r b ((rg_q0 rf fl en ar pe nb) r)) (r * 40 + b) (rg_pp (rg_SZ rf fl nb r) ((rg_cnt (fun i => rg_pl rf fl en r i ∧ ar (r * 40 + i) = ar (r * 40 + b)) nb : Nat) : Int) ((rg_cnt (fun i => rg_pl rf fl en r i ∧ ar (r * 40 + i) < ar (r * 40 + b)) nb : Nat) : Int) (pe (r * 40 + b))))) (rg_wr_wr _ 19 _ _) dX10_firstPoints_91 ?_
                refine rg_iinc F (v := ((b + 1 : Nat) : Int)) 4 [(3, .int (rg_I ((b + 1 : Nat) : Int))), (4, .int (rg_I ((r * 40 + b : Nat) : Int))), (0, .ref (κ.2.2.2 0)), (1, .int (rg_I ((r : Nat) : Int))), (2, .int (rg_I (rg_SZ rf fl nb r)))] dX10_firstPoints_92 rfl (by omega) (by decide) rfl ?_
                refine rg_goto F 18 dX10_firstPoints_95 (by decide) ?_
                refine rg_eq (σ' := (rg_wr σ 19 (rg_row (rg_tab f19 r nb (rg_q0 rf fl en ar pe nb)) r (b + 1) ((rg_q0 rf fl en ar pe nb) r)))) (rg_wr_congr (f := (rg_up (rg_row (rg_tab f19 r nb (rg_q0 rf fl en ar pe nb)) r b ((rg_q0 rf fl en ar pe nb) r)) (r * 40 + b) (rg_pp (rg_SZ rf fl nb r) ((rg_cnt (fun i => rg_pl rf fl en r i ∧ ar (r * 40 + i) = ar (r * 40 + b)) nb : Nat) : Int) ((rg_cnt (fun i => rg_pl rf fl en r i ∧ ar (r * 40 + i) < ar (r * 40 + b)) nb : Nat) : Int) (pe (r * 40 + b))))) (g := (rg_row (rg_tab f19 r nb (rg_q0 rf fl en ar pe nb)) r (b + 1) ((rg_q0 rf fl en ar pe nb) r))) 19 rfl (rg_row_s _ _ _ _ (by first | exact rg_q0_9 (by assumption) | exact rg_q0_8 (by assumption) (by assumption) | exact rg_q0_x (by assumption) (by assumption)))) ?_
                refine rg_sub (lv' := [(0, .ref (κ.2.2.2 0)), (1, .int (rg_I ((r : Nat) : Int))), (2, .int (rg_I (rg_SZ rf fl nb r))), (3, .int (rg_I ((b + 1 : Nat) : Int)))]) [2, 3, 4, 0] rfl ?_
                exact ih18 (nb - (b + 1)) (by omega) ((b + 1)) rfl (by omega)
        refine rg_eq (σ' := (rg_wr σ 19 (rg_row (rg_tab f19 r nb (rg_q0 rf fl en ar pe nb)) r 0 ((rg_q0 rf fl en ar pe nb) r)))) (rg_wr_congr (f := (rg_tab f19 r nb (rg_q0 rf fl en ar pe nb))) (g := (rg_row (rg_tab f19 r nb (rg_q0 rf fl en ar pe nb)) r 0 ((rg_q0 rf fl en ar pe nb) r))) 19 rfl (rg_row_0 _ _ _)) ?_
        refine rg_sub (lv' := [(0, .ref (κ.2.2.2 0)), (1, .int (rg_I ((r : Nat) : Int))), (2, .int (rg_I (rg_SZ rf fl nb r))), (3, .int (rg_I 0))]) [2, 3, 1, 0] rfl ?_
        exact L18 _ (0) rfl (by omega)
  refine rg_eq (σ' := (rg_wr σ 19 (rg_tab f19 0 nb (rg_q0 rf fl en ar pe nb)))) (((rg_wr_self (σ := σ) (k := 19) (f := f19) h19).trans rfl).trans (rg_wr_congr (f := f19) (g := (rg_tab f19 0 nb (rg_q0 rf fl en ar pe nb))) 19 rfl (rg_tab_0 _ _ _))) ?_
  refine rg_sub (lv' := [(0, .ref (κ.2.2.2 0)), (1, .int (rg_I 0))]) [1, 0] rfl ?_
  exact L2 _ (0) rfl (by omega)
set_option maxHeartbeats 400000 in
set_option maxRecDepth 100000 in
/-- isRedress -/
theorem k_X10_isRedress (κ : rg_K) (tb : List rg_Sh) (σ : rg_S) (x : Int) (hx : rg_Rg x) : rg_CI κ tb yX10_isRedress cX10_isRedress 1 FieldType.boolean 0 0 [.int (rg_I x)] σ (fun r9 σ9 => r9 = (rg_b (x = 6 ∨ x = 7 ∨ x = 8)) ∧ σ9 = σ) := by
  refine rg_entI [(0, .int (rg_I x))] rfl (by decide +kernel) (Nat.le_of_ble_eq_true rfl) (by first | exact Or.inl rfl | exact Or.inr rfl) (fun Γ F hR => ?_)
  refine rg_iload_n F 0 0 rfl dX10_isRedress_0 rfl ?_
  refine rg_bipush F dX10_isRedress_1 (by decide +kernel) ?_
  refine rg_icmp_eq F 18 dX10_isRedress_3 (by decide) (by omega) (by omega) (fun c3_1 => ?_) (fun c3_1 => ?_)
  ·
    refine rg_iconst F dX10_isRedress_18 ?_
    refine rg_goto F 23 dX10_isRedress_19 (by decide) ?_
    exact hR _ _ _ _ dX10_isRedress_23 (fun _ => Or.inr rfl) ⟨(rg_b_t (by omega)).symm, rfl⟩
  ·
    refine rg_iload_n F 0 0 rfl dX10_isRedress_6 rfl ?_
    refine rg_bipush F dX10_isRedress_7 (by decide +kernel) ?_
    refine rg_icmp_eq F 18 dX10_isRedress_9 (by decide) (by omega) (by omega) (fun c9_2 => ?_) (fun c9_2 => ?_)
    ·
      refine rg_iconst F dX10_isRedress_18 ?_
      refine rg_goto F 23 dX10_isRedress_19 (by decide) ?_
      exact hR _ _ _ _ dX10_isRedress_23 (fun _ => Or.inr rfl) ⟨(rg_b_t (by omega)).symm, rfl⟩
    ·
      refine rg_iload_n F 0 0 rfl dX10_isRedress_12 rfl ?_
      refine rg_bipush F dX10_isRedress_13 (by decide +kernel) ?_
      refine rg_icmp_ne F 22 dX10_isRedress_15 (by decide) (by omega) (by omega) (fun c15_3 => ?_) (fun c15_3 => ?_)
      ·
        refine rg_iconst F dX10_isRedress_22 ?_
        exact hR _ _ _ _ dX10_isRedress_23 (fun _ => Or.inl rfl) ⟨(rg_b_f (by omega)).symm, rfl⟩
      ·
        refine rg_iconst F dX10_isRedress_18 ?_
        refine rg_goto F 23 dX10_isRedress_19 (by decide) ?_
        exact hR _ _ _ _ dX10_isRedress_23 (fun _ => Or.inr rfl) ⟨(rg_b_t (by omega)).symm, rfl⟩
set_option maxHeartbeats 400000 in
set_option maxRecDepth 100000 in
/-- average -/
theorem k_X10_average (κ : rg_K) (σ : rg_S) (r b n : Nat) (fl : Nat → Int) (rf : Nat → Int) (en : Nat → Int) (sl : Nat → Int) (pt : Nat → Int) (nb : Nat) (h2 : σ 2 = fl) (h4 : σ 4 = rf) (h15 : σ 15 = en) (h18 : σ 18 = sl) (h19 : σ 19 = pt) (h0_1 : σ 0 1 = ((nb : Nat) : Int)) (hr : r < 16) (hb : b < 40) (hn : n ≤ 16) (hnb : nb ≤ 40) (hen : ∀ j, rg_Rg (en j)) (hsl : ∀ j, rg_Rg (sl j)) (hfl : ∀ j, rg_Rg (fl j)) (hrf : ∀ j, rg_Rg (rf j)) (hpt : ∀ o, o < n → rg_mn sl rf fl en r b o → 0 ≤ pt (o * 40 + b) ∧ pt (o * 40 + b) ≤ 9999) : rg_CI κ rg_tM yX10_average cX10_average 8 FieldType.int 2 45 [.ref (κ.2.2.2 0), .int (rg_I ((r : Nat) : Int)), .int (rg_I ((b : Nat) : Int)), .int (rg_I ((n : Nat) : Int))] σ (fun r9 σ9 => r9 = (rg_avg (rg_SZ rf fl nb r) (rg_mn sl rf fl en r b) (fun o => pt (o * 40 + b)) n) ∧ σ9 = σ) := by
  refine rg_entI [(0, .ref (κ.2.2.2 0)), (1, .int (rg_I ((r : Nat) : Int))), (2, .int (rg_I ((b : Nat) : Int))), (3, .int (rg_I ((n : Nat) : Int)))] rfl (by decide +kernel) (Nat.le_of_ble_eq_true rfl) (by first | exact Or.inl rfl | exact Or.inr rfl) (fun Γ F hR => ?_)
  refine rg_iconst F dX10_average_0 ?_
  refine rg_istore F [(4, .int (rg_I 0)), (0, .ref (κ.2.2.2 0)), (1, .int (rg_I ((r : Nat) : Int))), (2, .int (rg_I ((b : Nat) : Int))), (3, .int (rg_I ((n : Nat) : Int)))] dX10_average_1 (by decide) rfl ?_
  refine rg_iconst F dX10_average_3 ?_
  refine rg_istore F [(5, .int (rg_I 0)), (4, .int (rg_I 0)), (0, .ref (κ.2.2.2 0)), (1, .int (rg_I ((r : Nat) : Int))), (2, .int (rg_I ((b : Nat) : Int))), (3, .int (rg_I ((n : Nat) : Int)))] dX10_average_4 (by decide) rfl ?_
  refine rg_iconst F dX10_average_6 ?_
  refine rg_istore F [(6, .int (rg_I 0)), (5, .int (rg_I 0)), (4, .int (rg_I 0)), (0, .ref (κ.2.2.2 0)), (1, .int (rg_I ((r : Nat) : Int))), (2, .int (rg_I ((b : Nat) : Int))), (3, .int (rg_I ((n : Nat) : Int)))] dX10_average_7 (by decide) rfl ?_
  have L9 : ∀ (n9 : Nat) (s : Int) (k : Nat) (o : Nat), n9 = n - o → (o ≤ n) → (k = rg_cnt (rg_mn sl rf fl en r b) o) → (s = rg_sum (fun i => rg_ite ((rg_mn sl rf fl en r b) i) (pt (i * 40 + b)) 0) o) → (k ≤ o) → rg_G κ Γ rg_tM 8 0 0 9 [(0, .ref (κ.2.2.2 0)), (1, .int (rg_I ((r : Nat) : Int))), (2, .int (rg_I ((b : Nat) : Int))), (3, .int (rg_I ((n : Nat) : Int))), (4, .int (rg_I s)), (5, .int (rg_I ((k : Nat) : Int))), (6, .int (rg_I ((o : Nat) : Int)))] [] σ := by
    intro n9
    induction n9 using Nat.strongRecOn with
    | _ n9 ih9 =>
      intro s k o hn9 ho hk hs hko
      refine rg_iload F 6 6 rfl dX10_average_9 ?_
      refine rg_iload_n F 3 3 rfl dX10_average_11 rfl ?_
      refine rg_icmp_ge F 103 dX10_average_12 (by decide) (by omega) (by omega) (fun c12_1 => ?_) (fun c12_1 => ?_)
      ·
        have hsb : 0 ≤ s ∧ s ≤ 9999 * (k : Int) := by rw [hs, hk]; exact rg_sum_bd (pt := fun i => pt (i * 40 + b)) (by omega) (fun i hi => hpt i (by omega))
        refine rg_iload F 5 5 rfl dX10_average_103 ?_
        refine rg_if_ne F 118 dX10_average_105 (by decide) (by omega) (fun c105_2 => ?_) (fun c105_2 => ?_)
        ·
          refine rg_iconst F dX10_average_118 ?_
          refine rg_iload F 4 4 rfl dX10_average_119 ?_
          refine rg_imul F dX10_average_121 ?_
          refine rg_iload F 5 5 rfl dX10_average_122 ?_
          refine rg_iadd F dX10_average_124 ?_
          refine rg_iconst F dX10_average_125 ?_
          refine rg_iload F 5 5 rfl dX10_average_126 ?_
          refine rg_imul F dX10_average_128 ?_
          refine rg_idiv F dX10_average_129 (by omega) (by omega) ?_
          exact hR _ _ _ _ dX10_average_130 (fun h => nomatch h) ⟨(by have e : o = n := (by omega); subst e; unfold rg_avg; first | (rw [if_pos (by omega)]; done) | (rw [if_neg (by omega), hs, hk])), rfl⟩
        ·
          refine rg_iconst F dX10_average_108 ?_
          refine rg_aload_n F 0 0 rfl dX10_average_109 rfl ?_
          refine rg_iload_n F 1 1 rfl dX10_average_110 rfl ?_
          refine rg_callVI F [.int (rg_I ((r : Nat) : Int))] [.int (rg_I 5)] 0 (k_X10_sizeOf κ σ (r) fl rf (nb) (h2) (h4) (h0_1) (by first | assumption | omega) (by first | assumption | omega) (by first | assumption | omega) (by first | assumption | omega)) tM0 cX10 v_X10_sizeOf i_X10_sizeOf k_ml_X10_113 ⟨Nat.le_of_ble_eq_true rfl, Nat.le_of_ble_eq_true rfl⟩ rfl (Nat.le_of_ble_eq_true rfl) dX10_average_111 (rg_ex2 ?_)
          show rg_G κ Γ rg_tM 8 0 0 (111 + 3) [(0, .ref (κ.2.2.2 0)), (1, .int (rg_I ((r : Nat) : Int))), (2, .int (rg_I ((b : Nat) : Int))), (3, .int (rg_I ((n : Nat) : Int))), (4, .int (rg_I s)), (5, .int (rg_I ((k : Nat) : Int))), (6, .int (rg_I ((o : Nat) : Int)))] [.int (rg_I (rg_SZ rf fl nb r)), .int (rg_I 5)] σ
          refine rg_imul F dX10_average_114 ?_
          refine rg_goto F 130 dX10_average_115 (by decide) ?_
          exact hR _ _ _ _ dX10_average_130 (fun h => nomatch h) ⟨(by have e : o = n := (by omega); subst e; unfold rg_avg; first | (rw [if_pos (by omega)]; done) | (rw [if_neg (by omega), hs, hk])), rfl⟩
      ·
        refine rg_iload F 6 6 rfl dX10_average_15 ?_
        refine rg_iload_n F 1 1 rfl dX10_average_17 rfl ?_
        refine rg_icmp_eq F 53 dX10_average_18 (by decide) (by omega) (by omega) (fun c18_3 => ?_) (fun c18_3 => ?_)
        ·
          refine rg_iconst F dX10_average_53 ?_
          refine rg_istore F [(7, .int (rg_I 0)), (0, .ref (κ.2.2.2 0)), (1, .int (rg_I ((r : Nat) : Int))), (2, .int (rg_I ((b : Nat) : Int))), (3, .int (rg_I ((n : Nat) : Int))), (4, .int (rg_I s)), (5, .int (rg_I ((k : Nat) : Int))), (6, .int (rg_I ((o : Nat) : Int)))] dX10_average_54 (by decide) rfl ?_
          refine rg_iload F 5 4 rfl dX10_average_56 ?_
          refine rg_iload F 0 7 rfl dX10_average_58 ?_
          refine rg_if_eq F 78 dX10_average_60 (by decide) (by omega) (fun c60_4 => ?_) (fun c60_4 => ?_)
          ·
            refine rg_iconst F dX10_average_78 ?_
            refine rg_iadd F dX10_average_79 ?_
            refine rg_istore F [(4, .int (rg_I (s + 0))), (7, .int (rg_I 0)), (0, .ref (κ.2.2.2 0)), (1, .int (rg_I ((r : Nat) : Int))), (2, .int (rg_I ((b : Nat) : Int))), (3, .int (rg_I ((n : Nat) : Int))), (5, .int (rg_I ((k : Nat) : Int))), (6, .int (rg_I ((o : Nat) : Int)))] dX10_average_80 (by decide) rfl ?_
            refine rg_iload F 6 5 rfl dX10_average_82 ?_
            refine rg_iload F 1 7 rfl dX10_average_84 ?_
            refine rg_if_eq F 93 dX10_average_86 (by decide) (by omega) (fun c86_5 => ?_) (fun c86_5 => ?_)
            ·
              refine rg_iconst F dX10_average_93 ?_
              refine rg_iadd F dX10_average_94 ?_
              refine rg_istore F [(5, .int (rg_I (((k : Nat) : Int) + 0))), (4, .int (rg_I (s + 0))), (7, .int (rg_I 0)), (0, .ref (κ.2.2.2 0)), (1, .int (rg_I ((r : Nat) : Int))), (2, .int (rg_I ((b : Nat) : Int))), (3, .int (rg_I ((n : Nat) : Int))), (6, .int (rg_I ((o : Nat) : Int)))] dX10_average_95 (by decide) rfl ?_
              refine rg_iinc F (v := ((o + 1 : Nat) : Int)) 7 [(6, .int (rg_I ((o + 1 : Nat) : Int))), (5, .int (rg_I (((k : Nat) : Int) + 0))), (4, .int (rg_I (s + 0))), (7, .int (rg_I 0)), (0, .ref (κ.2.2.2 0)), (1, .int (rg_I ((r : Nat) : Int))), (2, .int (rg_I ((b : Nat) : Int))), (3, .int (rg_I ((n : Nat) : Int)))] dX10_average_97 rfl (by omega) (by decide) rfl ?_
              refine rg_goto F 9 dX10_average_100 (by decide) ?_
              refine rg_lve (lv' := [(6, .int (rg_I ((o + 1 : Nat) : Int))), (5, .int (rg_I ((k : Nat) : Int))), (4, .int (rg_I (s + 0))), (7, .int (rg_I 0)), (0, .ref (κ.2.2.2 0)), (1, .int (rg_I ((r : Nat) : Int))), (2, .int (rg_I ((b : Nat) : Int))), (3, .int (rg_I ((n : Nat) : Int)))]) (congrArg (fun x9 : Int => ([(6, .int (rg_I ((o + 1 : Nat) : Int))), (5, .int (rg_I x9)), (4, .int (rg_I (s + 0))), (7, .int (rg_I 0)), (0, .ref (κ.2.2.2 0)), (1, .int (rg_I ((r : Nat) : Int))), (2, .int (rg_I ((b : Nat) : Int))), (3, .int (rg_I ((n : Nat) : Int)))] : List (Nat × Value))) (by omega)) ?_
              refine rg_sub (lv' := [(0, .ref (κ.2.2.2 0)), (1, .int (rg_I ((r : Nat) : Int))), (2, .int (rg_I ((b : Nat) : Int))), (3, .int (rg_I ((n : Nat) : Int))), (4, .int (rg_I (s + 0))), (5, .int (rg_I ((k : Nat) : Int))), (6, .int (rg_I ((o + 1 : Nat) : Int)))]) [4, 5, 6, 7, 2, 1, 0] rfl ?_
              exact ih9 (n - (o + 1)) (by omega) ((s + 0)) (k) ((o + 1)) rfl (by omega) (by first | (rw [rg_cnt_t (p := (rg_mn sl rf fl en r b)) ⟨by omega, by assumption, by assumption⟩]; omega) | (rw [rg_cnt_f (p := (rg_mn sl rf fl en r b)) (fun q => q.1 (by omega))]; omega) | (rw [rg_cnt_f (p := (rg_mn sl rf fl en r b)) (fun q => absurd q.2.1 (by assumption))]; omega) | (rw [rg_cnt_f (p := (rg_mn sl rf fl en r b)) (fun q => q.2.2 (by assumption))]; omega)) (by first | (rw [hs]; exact rg_sum_t (p := (rg_mn sl rf fl en r b)) (pt := fun i => pt (i * 40 + b)) ⟨by omega, by assumption, by assumption⟩) | (rw [hs, Int.add_zero]; exact rg_sum_f (p := (rg_mn sl rf fl en r b)) (pt := fun i => pt (i * 40 + b)) (fun q => q.1 (by omega))) | (rw [hs, Int.add_zero]; exact rg_sum_f (p := (rg_mn sl rf fl en r b)) (pt := fun i => pt (i * 40 + b)) (fun q => absurd q.2.1 (by assumption))) | (rw [hs, Int.add_zero]; exact rg_sum_f (p := (rg_mn sl rf fl en r b)) (pt := fun i => pt (i * 40 + b)) (fun q => q.2.2 (by assumption)))) (by omega)
            · first | exact absurd c86_5 c60_4 | exact absurd c60_4 c86_5
          · exfalso; omega
        ·
          refine rg_aload_n F 0 0 rfl dX10_average_21 rfl ?_
          refine rg_iload F 6 6 rfl dX10_average_22 ?_
          refine rg_iload_n F 2 2 rfl dX10_average_24 rfl ?_
          refine rg_callVI F [.int (rg_I ((o : Nat) : Int)), .int (rg_I ((b : Nat) : Int))] [] 0 (k_X10_isIn κ σ (o) (b) fl rf sl (h2) (h4) (h18) (by first | assumption | omega) (by first | assumption | omega) (by first | assumption | omega) (by first | assumption | omega) (by first | assumption | omega)) tM0 cX10 v_X10_isIn i_X10_isIn k_ml_X10_120 ⟨Nat.le_of_ble_eq_true rfl, Nat.le_of_ble_eq_true rfl⟩ rfl (Nat.le_of_ble_eq_true rfl) dX10_average_25 (rg_ex2 ?_)
          show rg_G κ Γ rg_tM 8 0 0 (25 + 3) [(0, .ref (κ.2.2.2 0)), (1, .int (rg_I ((r : Nat) : Int))), (2, .int (rg_I ((b : Nat) : Int))), (3, .int (rg_I ((n : Nat) : Int))), (4, .int (rg_I s)), (5, .int (rg_I ((k : Nat) : Int))), (6, .int (rg_I ((o : Nat) : Int)))] [.int (rg_I (rg_b (rg_in sl rf fl o b)))] σ
          refine rg_if_eq F 53 dX10_average_28 (by decide) (by have b0 := rg_b_Rg (rg_in sl rf fl o b); omega) (fun c28_6 => ?_) (fun c28_6 => ?_)
          ·
            have c28_6 := (rg_b_eq0 _).mp c28_6
            refine rg_iconst F dX10_average_53 ?_
            refine rg_istore F [(7, .int (rg_I 0)), (0, .ref (κ.2.2.2 0)), (1, .int (rg_I ((r : Nat) : Int))), (2, .int (rg_I ((b : Nat) : Int))), (3, .int (rg_I ((n : Nat) : Int))), (4, .int (rg_I s)), (5, .int (rg_I ((k : Nat) : Int))), (6, .int (rg_I ((o : Nat) : Int)))] dX10_average_54 (by decide) rfl ?_
            refine rg_iload F 5 4 rfl dX10_average_56 ?_
            refine rg_iload F 0 7 rfl dX10_average_58 ?_
            refine rg_if_eq F 78 dX10_average_60 (by decide) (by omega) (fun c60_7 => ?_) (fun c60_7 => ?_)
            ·
              refine rg_iconst F dX10_average_78 ?_
              refine rg_iadd F dX10_average_79 ?_
              refine rg_istore F [(4, .int (rg_I (s + 0))), (7, .int (rg_I 0)), (0, .ref (κ.2.2.2 0)), (1, .int (rg_I ((r : Nat) : Int))), (2, .int (rg_I ((b : Nat) : Int))), (3, .int (rg_I ((n : Nat) : Int))), (5, .int (rg_I ((k : Nat) : Int))), (6, .int (rg_I ((o : Nat) : Int)))] dX10_average_80 (by decide) rfl ?_
              refine rg_iload F 6 5 rfl dX10_average_82 ?_
              refine rg_iload F 1 7 rfl dX10_average_84 ?_
              refine rg_if_eq F 93 dX10_average_86 (by decide) (by omega) (fun c86_8 => ?_) (fun c86_8 => ?_)
              ·
                refine rg_iconst F dX10_average_93 ?_
                refine rg_iadd F dX10_average_94 ?_
                refine rg_istore F [(5, .int (rg_I (((k : Nat) : Int) + 0))), (4, .int (rg_I (s + 0))), (7, .int (rg_I 0)), (0, .ref (κ.2.2.2 0)), (1, .int (rg_I ((r : Nat) : Int))), (2, .int (rg_I ((b : Nat) : Int))), (3, .int (rg_I ((n : Nat) : Int))), (6, .int (rg_I ((o : Nat) : Int)))] dX10_average_95 (by decide) rfl ?_
                refine rg_iinc F (v := ((o + 1 : Nat) : Int)) 7 [(6, .int (rg_I ((o + 1 : Nat) : Int))), (5, .int (rg_I (((k : Nat) : Int) + 0))), (4, .int (rg_I (s + 0))), (7, .int (rg_I 0)), (0, .ref (κ.2.2.2 0)), (1, .int (rg_I ((r : Nat) : Int))), (2, .int (rg_I ((b : Nat) : Int))), (3, .int (rg_I ((n : Nat) : Int)))] dX10_average_97 rfl (by omega) (by decide) rfl ?_
                refine rg_goto F 9 dX10_average_100 (by decide) ?_
                refine rg_lve (lv' := [(6, .int (rg_I ((o + 1 : Nat) : Int))), (5, .int (rg_I ((k : Nat) : Int))), (4, .int (rg_I (s + 0))), (7, .int (rg_I 0)), (0, .ref (κ.2.2.2 0)), (1, .int (rg_I ((r : Nat) : Int))), (2, .int (rg_I ((b : Nat) : Int))), (3, .int (rg_I ((n : Nat) : Int)))]) (congrArg (fun x9 : Int => ([(6, .int (rg_I ((o + 1 : Nat) : Int))), (5, .int (rg_I x9)), (4, .int (rg_I (s + 0))), (7, .int (rg_I 0)), (0, .ref (κ.2.2.2 0)), (1, .int (rg_I ((r : Nat) : Int))), (2, .int (rg_I ((b : Nat) : Int))), (3, .int (rg_I ((n : Nat) : Int)))] : List (Nat × Value))) (by omega)) ?_
                refine rg_sub (lv' := [(0, .ref (κ.2.2.2 0)), (1, .int (rg_I ((r : Nat) : Int))), (2, .int (rg_I ((b : Nat) : Int))), (3, .int (rg_I ((n : Nat) : Int))), (4, .int (rg_I (s + 0))), (5, .int (rg_I ((k : Nat) : Int))), (6, .int (rg_I ((o + 1 : Nat) : Int)))]) [4, 5, 6, 7, 2, 1, 0] rfl ?_
                exact ih9 (n - (o + 1)) (by omega) ((s + 0)) (k) ((o + 1)) rfl (by omega) (by first | (rw [rg_cnt_t (p := (rg_mn sl rf fl en r b)) ⟨by omega, by assumption, by assumption⟩]; omega) | (rw [rg_cnt_f (p := (rg_mn sl rf fl en r b)) (fun q => q.1 (by omega))]; omega) | (rw [rg_cnt_f (p := (rg_mn sl rf fl en r b)) (fun q => absurd q.2.1 (by assumption))]; omega) | (rw [rg_cnt_f (p := (rg_mn sl rf fl en r b)) (fun q => q.2.2 (by assumption))]; omega)) (by first | (rw [hs]; exact rg_sum_t (p := (rg_mn sl rf fl en r b)) (pt := fun i => pt (i * 40 + b)) ⟨by omega, by assumption, by assumption⟩) | (rw [hs, Int.add_zero]; exact rg_sum_f (p := (rg_mn sl rf fl en r b)) (pt := fun i => pt (i * 40 + b)) (fun q => q.1 (by omega))) | (rw [hs, Int.add_zero]; exact rg_sum_f (p := (rg_mn sl rf fl en r b)) (pt := fun i => pt (i * 40 + b)) (fun q => absurd q.2.1 (by assumption))) | (rw [hs, Int.add_zero]; exact rg_sum_f (p := (rg_mn sl rf fl en r b)) (pt := fun i => pt (i * 40 + b)) (fun q => q.2.2 (by assumption)))) (by omega)
              · first | exact absurd c86_8 c60_7 | exact absurd c60_7 c86_8
            · exfalso; omega
          ·
            have c28_6 := (rg_b_ne0 _).mp c28_6
            refine rg_aload_n F 0 0 rfl dX10_average_31 rfl ?_
            refine rg_get F 0 21 tM0 cX10 k_lays_X10 (by decide) k_fl_X10_53 rfl (v := .ref (κ.2.2.2 15)) rfl dX10_average_32 ?_
            refine rg_bipush F dX10_average_35 (by decide +kernel) ?_
            refine rg_iload F 6 6 rfl dX10_average_37 ?_
            refine rg_imul F dX10_average_39 ?_
            refine rg_iload_n F 2 2 rfl dX10_average_40 rfl ?_
            refine rg_iadd F dX10_average_41 ?_
            refine rg_stk (st' := [.int (rg_I ((o * 40 + b : Nat) : Int)), .ref (κ.2.2.2 15)]) (congrArg (fun x9 : Int => Value.int (rg_I x9) :: [.ref (κ.2.2.2 15)]) (by omega)) ?_
            refine rg_iald F 15 (o * 40 + b) (v := (en (o * 40 + b))) tM15 (by omega) (by omega) (by decide) (congrFun h15 (o * 40 + b)) dX10_average_42 ?_
            refine rg_callSI F [.int (rg_I (en (o * 40 + b)))] [] (k_X10_isRedress κ rg_tM σ ((en (o * 40 + b))) (hen _)) v_X10_isRedress k_st_yX10_isRedress k_ml_X10_123 ⟨Nat.le_of_ble_eq_true rfl, Nat.le_of_ble_eq_true rfl⟩ rfl (Nat.le_of_ble_eq_true rfl) dX10_average_43 (rg_ex2 ?_)
            show rg_G κ Γ rg_tM 8 0 0 (43 + 3) [(0, .ref (κ.2.2.2 0)), (1, .int (rg_I ((r : Nat) : Int))), (2, .int (rg_I ((b : Nat) : Int))), (3, .int (rg_I ((n : Nat) : Int))), (4, .int (rg_I s)), (5, .int (rg_I ((k : Nat) : Int))), (6, .int (rg_I ((o : Nat) : Int)))] [.int (rg_I (rg_b ((en (o * 40 + b)) = 6 ∨ (en (o * 40 + b)) = 7 ∨ (en (o * 40 + b)) = 8)))] σ
            refine rg_if_ne F 53 dX10_average_46 (by decide) (by have b0 := rg_b_Rg ((en (o * 40 + b)) = 6 ∨ (en (o * 40 + b)) = 7 ∨ (en (o * 40 + b)) = 8); omega) (fun c46_9 => ?_) (fun c46_9 => ?_)
            ·
              have c46_9 := (rg_b_ne0 _).mp c46_9
              refine rg_iconst F dX10_average_53 ?_
              refine rg_istore F [(7, .int (rg_I 0)), (0, .ref (κ.2.2.2 0)), (1, .int (rg_I ((r : Nat) : Int))), (2, .int (rg_I ((b : Nat) : Int))), (3, .int (rg_I ((n : Nat) : Int))), (4, .int (rg_I s)), (5, .int (rg_I ((k : Nat) : Int))), (6, .int (rg_I ((o : Nat) : Int)))] dX10_average_54 (by decide) rfl ?_
              refine rg_iload F 5 4 rfl dX10_average_56 ?_
              refine rg_iload F 0 7 rfl dX10_average_58 ?_
              refine rg_if_eq F 78 dX10_average_60 (by decide) (by omega) (fun c60_10 => ?_) (fun c60_10 => ?_)
              ·
                refine rg_iconst F dX10_average_78 ?_
                refine rg_iadd F dX10_average_79 ?_
                refine rg_istore F [(4, .int (rg_I (s + 0))), (7, .int (rg_I 0)), (0, .ref (κ.2.2.2 0)), (1, .int (rg_I ((r : Nat) : Int))), (2, .int (rg_I ((b : Nat) : Int))), (3, .int (rg_I ((n : Nat) : Int))), (5, .int (rg_I ((k : Nat) : Int))), (6, .int (rg_I ((o : Nat) : Int)))] dX10_average_80 (by decide) rfl ?_
                refine rg_iload F 6 5 rfl dX10_average_82 ?_
                refine rg_iload F 1 7 rfl dX10_average_84 ?_
                refine rg_if_eq F 93 dX10_average_86 (by decide) (by omega) (fun c86_11 => ?_) (fun c86_11 => ?_)
                ·
                  refine rg_iconst F dX10_average_93 ?_
                  refine rg_iadd F dX10_average_94 ?_
                  refine rg_istore F [(5, .int (rg_I (((k : Nat) : Int) + 0))), (4, .int (rg_I (s + 0))), (7, .int (rg_I 0)), (0, .ref (κ.2.2.2 0)), (1, .int (rg_I ((r : Nat) : Int))), (2, .int (rg_I ((b : Nat) : Int))), (3, .int (rg_I ((n : Nat) : Int))), (6, .int (rg_I ((o : Nat) : Int)))] dX10_average_95 (by decide) rfl ?_
                  refine rg_iinc F (v := ((o + 1 : Nat) : Int)) 7 [(6, .int (rg_I ((o + 1 : Nat) : Int))), (5, .int (rg_I (((k : Nat) : Int) + 0))), (4, .int (rg_I (s + 0))), (7, .int (rg_I 0)), (0, .ref (κ.2.2.2 0)), (1, .int (rg_I ((r : Nat) : Int))), (2, .int (rg_I ((b : Nat) : Int))), (3, .int (rg_I ((n : Nat) : Int)))] dX10_average_97 rfl (by omega) (by decide) rfl ?_
                  refine rg_goto F 9 dX10_average_100 (by decide) ?_
                  refine rg_lve (lv' := [(6, .int (rg_I ((o + 1 : Nat) : Int))), (5, .int (rg_I ((k : Nat) : Int))), (4, .int (rg_I (s + 0))), (7, .int (rg_I 0)), (0, .ref (κ.2.2.2 0)), (1, .int (rg_I ((r : Nat) : Int))), (2, .int (rg_I ((b : Nat) : Int))), (3, .int (rg_I ((n : Nat) : Int)))]) (congrArg (fun x9 : Int => ([(6, .int (rg_I ((o + 1 : Nat) : Int))), (5, .int (rg_I x9)), (4, .int (rg_I (s + 0))), (7, .int (rg_I 0)), (0, .ref (κ.2.2.2 0)), (1, .int (rg_I ((r : Nat) : Int))), (2, .int (rg_I ((b : Nat) : Int))), (3, .int (rg_I ((n : Nat) : Int)))] : List (Nat × Value))) (by omega)) ?_
                  refine rg_sub (lv' := [(0, .ref (κ.2.2.2 0)), (1, .int (rg_I ((r : Nat) : Int))), (2, .int (rg_I ((b : Nat) : Int))), (3, .int (rg_I ((n : Nat) : Int))), (4, .int (rg_I (s + 0))), (5, .int (rg_I ((k : Nat) : Int))), (6, .int (rg_I ((o + 1 : Nat) : Int)))]) [4, 5, 6, 7, 2, 1, 0] rfl ?_
                  exact ih9 (n - (o + 1)) (by omega) ((s + 0)) (k) ((o + 1)) rfl (by omega) (by first | (rw [rg_cnt_t (p := (rg_mn sl rf fl en r b)) ⟨by omega, by assumption, by assumption⟩]; omega) | (rw [rg_cnt_f (p := (rg_mn sl rf fl en r b)) (fun q => q.1 (by omega))]; omega) | (rw [rg_cnt_f (p := (rg_mn sl rf fl en r b)) (fun q => absurd q.2.1 (by assumption))]; omega) | (rw [rg_cnt_f (p := (rg_mn sl rf fl en r b)) (fun q => q.2.2 (by assumption))]; omega)) (by first | (rw [hs]; exact rg_sum_t (p := (rg_mn sl rf fl en r b)) (pt := fun i => pt (i * 40 + b)) ⟨by omega, by assumption, by assumption⟩) | (rw [hs, Int.add_zero]; exact rg_sum_f (p := (rg_mn sl rf fl en r b)) (pt := fun i => pt (i * 40 + b)) (fun q => q.1 (by omega))) | (rw [hs, Int.add_zero]; exact rg_sum_f (p := (rg_mn sl rf fl en r b)) (pt := fun i => pt (i * 40 + b)) (fun q => absurd q.2.1 (by assumption))) | (rw [hs, Int.add_zero]; exact rg_sum_f (p := (rg_mn sl rf fl en r b)) (pt := fun i => pt (i * 40 + b)) (fun q => q.2.2 (by assumption)))) (by omega)
                · first | exact absurd c86_11 c60_10 | exact absurd c60_10 c86_11
              · exfalso; omega
            ·
              have c46_9 := (rg_b_eq0 _).mp c46_9
              refine rg_iconst F dX10_average_49 ?_
              refine rg_goto F 54 dX10_average_50 (by decide) ?_
              refine rg_istore F [(7, .int (rg_I 1)), (0, .ref (κ.2.2.2 0)), (1, .int (rg_I ((r : Nat) : Int))), (2, .int (rg_I ((b : Nat) : Int))), (3, .int (rg_I ((n : Nat) : Int))), (4, .int (rg_I s)), (5, .int (rg_I ((k : Nat) : Int))), (6, .int (rg_I ((o : Nat) : Int)))] dX10_average_54 (by decide) rfl ?_
              refine rg_iload F 5 4 rfl dX10_average_56 ?_
              refine rg_iload F 0 7 rfl dX10_average_58 ?_
              refine rg_if_eq F 78 dX10_average_60 (by decide) (by omega) (fun c60_12 => ?_) (fun c60_12 => ?_)
              · exfalso; omega
              ·
                refine rg_aload_n F 1 0 rfl dX10_average_63 rfl ?_
                refine rg_get F 0 25 tM0 cX10 k_lays_X10 (by decide) k_fl_X10_65 rfl (v := .ref (κ.2.2.2 19)) rfl dX10_average_64 ?_
                refine rg_bipush F dX10_average_67 (by decide +kernel) ?_
                refine rg_iload F 7 6 rfl dX10_average_69 ?_
                refine rg_imul F dX10_average_71 ?_
                refine rg_iload_n F 3 2 rfl dX10_average_72 rfl ?_
                refine rg_iadd F dX10_average_73 ?_
                refine rg_stk (st' := [.int (rg_I ((o * 40 + b : Nat) : Int)), .ref (κ.2.2.2 19), .int (rg_I s)]) (congrArg (fun x9 : Int => Value.int (rg_I x9) :: [.ref (κ.2.2.2 19), .int (rg_I s)]) (by omega)) ?_
                refine rg_iald F 19 (o * 40 + b) (v := (pt (o * 40 + b))) tM19 (by omega) (by omega) (by decide) (congrFun h19 (o * 40 + b)) dX10_average_74 ?_
                refine rg_goto F 79 dX10_average_75 (by decide) ?_
                refine rg_iadd F dX10_average_79 ?_
                refine rg_istore F [(4, .int (rg_I (s + (pt (o * 40 + b))))), (7, .int (rg_I 1)), (0, .ref (κ.2.2.2 0)), (1, .int (rg_I ((r : Nat) : Int))), (2, .int (rg_I ((b : Nat) : Int))), (3, .int (rg_I ((n : Nat) : Int))), (5, .int (rg_I ((k : Nat) : Int))), (6, .int (rg_I ((o : Nat) : Int)))] dX10_average_80 (by decide) rfl ?_
                refine rg_iload F 6 5 rfl dX10_average_82 ?_
                refine rg_iload F 1 7 rfl dX10_average_84 ?_
                refine rg_if_eq F 93 dX10_average_86 (by decide) (by omega) (fun c86_13 => ?_) (fun c86_13 => ?_)
                · first | exact absurd c86_13 c60_12 | exact absurd c60_12 c86_13
                ·
                  refine rg_iconst F dX10_average_89 ?_
                  refine rg_goto F 94 dX10_average_90 (by decide) ?_
                  refine rg_iadd F dX10_average_94 ?_
                  refine rg_istore F [(5, .int (rg_I (((k : Nat) : Int) + 1))), (4, .int (rg_I (s + (pt (o * 40 + b))))), (7, .int (rg_I 1)), (0, .ref (κ.2.2.2 0)), (1, .int (rg_I ((r : Nat) : Int))), (2, .int (rg_I ((b : Nat) : Int))), (3, .int (rg_I ((n : Nat) : Int))), (6, .int (rg_I ((o : Nat) : Int)))] dX10_average_95 (by decide) rfl ?_
                  refine rg_iinc F (v := ((o + 1 : Nat) : Int)) 7 [(6, .int (rg_I ((o + 1 : Nat) : Int))), (5, .int (rg_I (((k : Nat) : Int) + 1))), (4, .int (rg_I (s + (pt (o * 40 + b))))), (7, .int (rg_I 1)), (0, .ref (κ.2.2.2 0)), (1, .int (rg_I ((r : Nat) : Int))), (2, .int (rg_I ((b : Nat) : Int))), (3, .int (rg_I ((n : Nat) : Int)))] dX10_average_97 rfl (by omega) (by decide) rfl ?_
                  refine rg_goto F 9 dX10_average_100 (by decide) ?_
                  refine rg_lve (lv' := [(6, .int (rg_I ((o + 1 : Nat) : Int))), (5, .int (rg_I (((k + 1) : Nat) : Int))), (4, .int (rg_I (s + (pt (o * 40 + b))))), (7, .int (rg_I 1)), (0, .ref (κ.2.2.2 0)), (1, .int (rg_I ((r : Nat) : Int))), (2, .int (rg_I ((b : Nat) : Int))), (3, .int (rg_I ((n : Nat) : Int)))]) (congrArg (fun x9 : Int => ([(6, .int (rg_I ((o + 1 : Nat) : Int))), (5, .int (rg_I x9)), (4, .int (rg_I (s + (pt (o * 40 + b))))), (7, .int (rg_I 1)), (0, .ref (κ.2.2.2 0)), (1, .int (rg_I ((r : Nat) : Int))), (2, .int (rg_I ((b : Nat) : Int))), (3, .int (rg_I ((n : Nat) : Int)))] : List (Nat × Value))) (by omega)) ?_
                  refine rg_sub (lv' := [(0, .ref (κ.2.2.2 0)), (1, .int (rg_I ((r : Nat) : Int))), (2, .int (rg_I ((b : Nat) : Int))), (3, .int (rg_I ((n : Nat) : Int))), (4, .int (rg_I (s + (pt (o * 40 + b))))), (5, .int (rg_I (((k + 1) : Nat) : Int))), (6, .int (rg_I ((o + 1 : Nat) : Int)))]) [4, 5, 6, 7, 2, 1, 0] rfl ?_
                  exact ih9 (n - (o + 1)) (by omega) ((s + (pt (o * 40 + b)))) ((k + 1)) ((o + 1)) rfl (by omega) (by first | (rw [rg_cnt_t (p := (rg_mn sl rf fl en r b)) ⟨by omega, by assumption, by assumption⟩]; omega) | (rw [rg_cnt_f (p := (rg_mn sl rf fl en r b)) (fun q => q.1 (by omega))]; omega) | (rw [rg_cnt_f (p := (rg_mn sl rf fl en r b)) (fun q => absurd q.2.1 (by assumption))]; omega) | (rw [rg_cnt_f (p := (rg_mn sl rf fl en r b)) (fun q => q.2.2 (by assumption))]; omega)) (by first | (rw [hs]; exact rg_sum_t (p := (rg_mn sl rf fl en r b)) (pt := fun i => pt (i * 40 + b)) ⟨by omega, by assumption, by assumption⟩) | (rw [hs, Int.add_zero]; exact rg_sum_f (p := (rg_mn sl rf fl en r b)) (pt := fun i => pt (i * 40 + b)) (fun q => q.1 (by omega))) | (rw [hs, Int.add_zero]; exact rg_sum_f (p := (rg_mn sl rf fl en r b)) (pt := fun i => pt (i * 40 + b)) (fun q => absurd q.2.1 (by assumption))) | (rw [hs, Int.add_zero]; exact rg_sum_f (p := (rg_mn sl rf fl en r b)) (pt := fun i => pt (i * 40 + b)) (fun q => q.2.2 (by assumption)))) (by omega)
  refine rg_sub (lv' := [(0, .ref (κ.2.2.2 0)), (1, .int (rg_I ((r : Nat) : Int))), (2, .int (rg_I ((b : Nat) : Int))), (3, .int (rg_I ((n : Nat) : Int))), (4, .int (rg_I 0)), (5, .int (rg_I 0)), (6, .int (rg_I 0))]) [3, 4, 5, 6, 2, 1, 0] rfl ?_
  exact L9 _ (0) (0) (0) rfl (by omega) rfl rfl (by omega)
set_option maxHeartbeats 400000 in
set_option maxRecDepth 100000 in
/-- scoreOf -/
theorem k_X10_scoreOf (κ : rg_K) (σ : rg_S) (r b : Nat) (kd : Nat → Int) (pt : Nat → Int) (h3 : σ 3 = kd) (h19 : σ 19 = pt) (hr : r < 16) (hb : b < 40) (hkd : ∀ j, rg_Rg (kd j)) : rg_CI κ rg_tM yX10_scoreOf cX10_scoreOf 3 FieldType.int 0 0 [.ref (κ.2.2.2 0), .int (rg_I ((r : Nat) : Int)), .int (rg_I ((b : Nat) : Int))] σ (fun r9 σ9 => r9 = (rg_ms2 kd pt r b) ∧ σ9 = σ) := by
  refine rg_entI [(0, .ref (κ.2.2.2 0)), (1, .int (rg_I ((r : Nat) : Int))), (2, .int (rg_I ((b : Nat) : Int)))] rfl (by decide +kernel) (Nat.le_of_ble_eq_true rfl) (by first | exact Or.inl rfl | exact Or.inr rfl) (fun Γ F hR => ?_)
  refine rg_aload_n F 0 0 rfl dX10_scoreOf_0 rfl ?_
  refine rg_get F 0 5 tM0 cX10 k_lays_X10 (by decide) k_fl_X10_16 rfl (v := .ref (κ.2.2.2 3)) rfl dX10_scoreOf_1 ?_
  refine rg_iload_n F 1 1 rfl dX10_scoreOf_4 rfl ?_
  refine rg_iald F 3 r (v := (kd r)) tM3 (by omega) (by omega) (by decide) (congrFun h3 r) dX10_scoreOf_5 ?_
  refine rg_iconst F dX10_scoreOf_6 ?_
  refine rg_icmp_ne F 26 dX10_scoreOf_7 (by decide) (by have b0 := hkd (r); omega) (by omega) (fun c7_1 => ?_) (fun c7_1 => ?_)
  ·
    refine rg_aload_n F 0 0 rfl dX10_scoreOf_26 rfl ?_
    refine rg_get F 0 25 tM0 cX10 k_lays_X10 (by decide) k_fl_X10_65 rfl (v := .ref (κ.2.2.2 19)) rfl dX10_scoreOf_27 ?_
    refine rg_bipush F dX10_scoreOf_30 (by decide +kernel) ?_
    refine rg_iload_n F 1 1 rfl dX10_scoreOf_32 rfl ?_
    refine rg_imul F dX10_scoreOf_33 ?_
    refine rg_iload_n F 2 2 rfl dX10_scoreOf_34 rfl ?_
    refine rg_iadd F dX10_scoreOf_35 ?_
    refine rg_stk (st' := [.int (rg_I ((r * 40 + b : Nat) : Int)), .ref (κ.2.2.2 19)]) (congrArg (fun x9 : Int => Value.int (rg_I x9) :: [.ref (κ.2.2.2 19)]) (by omega)) ?_
    refine rg_iald F 19 (r * 40 + b) (v := (pt (r * 40 + b))) tM19 (by omega) (by omega) (by decide) (congrFun h19 (r * 40 + b)) dX10_scoreOf_36 ?_
    exact hR _ _ _ _ dX10_scoreOf_37 (fun h => nomatch h) ⟨(by unfold rg_ms2; first | (rw [if_pos (by assumption)]; done) | (rw [if_neg (by assumption)])), rfl⟩
  ·
    refine rg_iconst F dX10_scoreOf_10 ?_
    refine rg_aload_n F 0 0 rfl dX10_scoreOf_11 rfl ?_
    refine rg_get F 0 25 tM0 cX10 k_lays_X10 (by decide) k_fl_X10_65 rfl (v := .ref (κ.2.2.2 19)) rfl dX10_scoreOf_12 ?_
    refine rg_bipush F dX10_scoreOf_15 (by decide +kernel) ?_
    refine rg_iload_n F 1 1 rfl dX10_scoreOf_17 rfl ?_
    refine rg_imul F dX10_scoreOf_18 ?_
    refine rg_iload_n F 2 2 rfl dX10_scoreOf_19 rfl ?_
    refine rg_iadd F dX10_scoreOf_20 ?_
    refine rg_stk (st' := [.int (rg_I ((r * 40 + b : Nat) : Int)), .ref (κ.2.2.2 19), .int (rg_I 2)]) (congrArg (fun x9 : Int => Value.int (rg_I x9) :: [.ref (κ.2.2.2 19), .int (rg_I 2)]) (by omega)) ?_
    refine rg_iald F 19 (r * 40 + b) (v := (pt (r * 40 + b))) tM19 (by omega) (by omega) (by decide) (congrFun h19 (r * 40 + b)) dX10_scoreOf_21 ?_
    refine rg_imul F dX10_scoreOf_22 ?_
    refine rg_goto F 37 dX10_scoreOf_23 (by decide) ?_
    exact hR _ _ _ _ dX10_scoreOf_37 (fun h => nomatch h) ⟨(by unfold rg_ms2; first | (rw [if_pos (by assumption)]; done) | (rw [if_neg (by assumption)])), rfl⟩
set_option maxHeartbeats 400000 in
set_option maxRecDepth 100000 in
/-- allowed -/
theorem k_X10_allowed (κ : rg_K) (σ : rg_S) (m : Int) (sr : Nat → Int) (sm : Nat → Int) (ns : Nat) (h13 : σ 13 = sr) (h14 : σ 14 = sm) (h0_17 : σ 0 17 = ((ns : Nat) : Int)) (hns : ns ≤ 6) (hm : rg_Rg m) (hsr : ∀ j, rg_Rg (sr j)) : rg_CI κ rg_tM yX10_allowed cX10_allowed 4 FieldType.int 0 0 [.ref (κ.2.2.2 0), .int (rg_I m)] σ (fun r9 σ9 => r9 = (rg_al sr sm m ns) ∧ σ9 = σ) := by
  refine rg_entI [(0, .ref (κ.2.2.2 0)), (1, .int (rg_I m))] rfl (by decide +kernel) (Nat.le_of_ble_eq_true rfl) (by first | exact Or.inl rfl | exact Or.inr rfl) (fun Γ F hR => ?_)
  refine rg_iconst F dX10_allowed_0 ?_
  refine rg_istore_n F [(2, .int (rg_I 0)), (0, .ref (κ.2.2.2 0)), (1, .int (rg_I m))] dX10_allowed_1 rfl (by decide) rfl ?_
  refine rg_iconst F dX10_allowed_2 ?_
  refine rg_istore_n F [(3, .int (rg_I 0)), (2, .int (rg_I 0)), (0, .ref (κ.2.2.2 0)), (1, .int (rg_I m))] dX10_allowed_3 rfl (by decide) rfl ?_
  have L4 : ∀ (n4 : Nat) (a : Int) (k : Nat), n4 = ns - k → (k ≤ ns) → (a = rg_al sr sm m k) → rg_G κ Γ rg_tM 4 0 0 4 [(0, .ref (κ.2.2.2 0)), (1, .int (rg_I m)), (2, .int (rg_I a)), (3, .int (rg_I ((k : Nat) : Int)))] [] σ := by
    intro n4
    induction n4 using Nat.strongRecOn with
    | _ n4 ih4 =>
      intro a k hn4 hk ha
      refine rg_iload_n F 3 3 rfl dX10_allowed_4 rfl ?_
      refine rg_aload_n F 0 0 rfl dX10_allowed_5 rfl ?_
      refine rg_get F 0 17 tM0 cX10 k_lays_X10 (by decide) k_fl_X10_140 rfl (v := .int (rg_I ((ns : Nat) : Int))) (congrArg (fun x => Value.int (rg_I x)) h0_17) dX10_allowed_6 ?_
      refine rg_icmp_ge F 39 dX10_allowed_9 (by decide) (by omega) (by omega) (fun c9_1 => ?_) (fun c9_1 => ?_)
      ·
        refine rg_iload_n F 2 2 rfl dX10_allowed_39 rfl ?_
        exact hR _ _ _ _ dX10_allowed_40 (fun h => nomatch h) ⟨(by rw [ha, show k = ns by omega]), rfl⟩
      ·
        refine rg_aload_n F 0 0 rfl dX10_allowed_12 rfl ?_
        refine rg_get F 0 18 tM0 cX10 k_lays_X10 (by decide) k_fl_X10_47 rfl (v := .ref (κ.2.2.2 13)) rfl dX10_allowed_13 ?_
        refine rg_iload_n F 3 3 rfl dX10_allowed_16 rfl ?_
        refine rg_iald F 13 k (v := (sr k)) tM13 (by omega) (by omega) (by decide) (congrFun h13 k) dX10_allowed_17 ?_
        refine rg_iload_n F 1 1 rfl dX10_allowed_18 rfl ?_
        refine rg_icmp_gt F 31 dX10_allowed_19 (by decide) (by have b0 := hsr (k); omega) (by omega) (fun c19_2 => ?_) (fun c19_2 => ?_)
        ·
          refine rg_iload_n F 2 2 rfl dX10_allowed_31 rfl ?_
          refine rg_istore_n F [(2, .int (rg_I a)), (0, .ref (κ.2.2.2 0)), (1, .int (rg_I m)), (3, .int (rg_I ((k : Nat) : Int)))] dX10_allowed_32 rfl (by decide) rfl ?_
          refine rg_iinc F (v := ((k + 1 : Nat) : Int)) 3 [(3, .int (rg_I ((k + 1 : Nat) : Int))), (2, .int (rg_I a)), (0, .ref (κ.2.2.2 0)), (1, .int (rg_I m))] dX10_allowed_33 rfl (by omega) (by decide) rfl ?_
          refine rg_goto F 4 dX10_allowed_36 (by decide) ?_
          refine rg_sub (lv' := [(0, .ref (κ.2.2.2 0)), (1, .int (rg_I m)), (2, .int (rg_I a)), (3, .int (rg_I ((k + 1 : Nat) : Int)))]) [2, 3, 1, 0] rfl ?_
          exact ih4 (ns - (k + 1)) (by omega) (a) ((k + 1)) rfl (by omega) (by rw [rg_al]; first | (rw [if_pos (by omega)]; done) | (rw [if_neg (by omega)]; exact ha))
        ·
          refine rg_aload_n F 0 0 rfl dX10_allowed_22 rfl ?_
          refine rg_get F 0 19 tM0 cX10 k_lays_X10 (by decide) k_fl_X10_50 rfl (v := .ref (κ.2.2.2 14)) rfl dX10_allowed_23 ?_
          refine rg_iload_n F 3 3 rfl dX10_allowed_26 rfl ?_
          refine rg_iald F 14 k (v := (sm k)) tM14 (by omega) (by omega) (by decide) (congrFun h14 k) dX10_allowed_27 ?_
          refine rg_goto F 32 dX10_allowed_28 (by decide) ?_
          refine rg_istore_n F [(2, .int (rg_I (sm k))), (0, .ref (κ.2.2.2 0)), (1, .int (rg_I m)), (3, .int (rg_I ((k : Nat) : Int)))] dX10_allowed_32 rfl (by decide) rfl ?_
          refine rg_iinc F (v := ((k + 1 : Nat) : Int)) 3 [(3, .int (rg_I ((k + 1 : Nat) : Int))), (2, .int (rg_I (sm k))), (0, .ref (κ.2.2.2 0)), (1, .int (rg_I m))] dX10_allowed_33 rfl (by omega) (by decide) rfl ?_
          refine rg_goto F 4 dX10_allowed_36 (by decide) ?_
          refine rg_sub (lv' := [(0, .ref (κ.2.2.2 0)), (1, .int (rg_I m)), (2, .int (rg_I (sm k))), (3, .int (rg_I ((k + 1 : Nat) : Int)))]) [2, 3, 1, 0] rfl ?_
          exact ih4 (ns - (k + 1)) (by omega) ((sm k)) ((k + 1)) rfl (by omega) (by rw [rg_al]; first | (rw [if_pos (by omega)]; done) | (rw [if_neg (by omega)]; exact ha))
  refine rg_sub (lv' := [(0, .ref (κ.2.2.2 0)), (1, .int (rg_I m)), (2, .int (rg_I 0)), (3, .int (rg_I 0))]) [2, 3, 1, 0] rfl ?_
  exact L4 _ (0) (0) rfl (by omega) rfl
set_option maxHeartbeats 400000 in
set_option maxRecDepth 100000 in
/-- mayGo -/
theorem k_X10_mayGo (κ : rg_K) (σ : rg_S) (r b : Nat) (fl : Nat → Int) (kd : Nat → Int) (rf : Nat → Int) (en : Nat → Int) (sl : Nat → Int) (h2 : σ 2 = fl) (h3 : σ 3 = kd) (h4 : σ 4 = rf) (h15 : σ 15 = en) (h18 : σ 18 = sl) (hr : r < 16) (hb : b < 40) (hen : ∀ j, rg_Rg (en j)) (hkd : ∀ j, rg_Rg (kd j)) (hsl : ∀ j, rg_Rg (sl j)) (hfl : ∀ j, rg_Rg (fl j)) (hrf : ∀ j, rg_Rg (rf j)) : rg_CI κ rg_tM yX10_mayGo cX10_mayGo 3 FieldType.boolean 2 44 [.ref (κ.2.2.2 0), .int (rg_I ((r : Nat) : Int)), .int (rg_I ((b : Nat) : Int))] σ (fun r9 σ9 => r9 = (rg_b (rg_mg sl rf fl kd en r b)) ∧ σ9 = σ) := by
  refine rg_entI [(0, .ref (κ.2.2.2 0)), (1, .int (rg_I ((r : Nat) : Int))), (2, .int (rg_I ((b : Nat) : Int)))] rfl (by decide +kernel) (Nat.le_of_ble_eq_true rfl) (by first | exact Or.inl rfl | exact Or.inr rfl) (fun Γ F hR => ?_)
  refine rg_aload_n F 0 0 rfl dX10_mayGo_0 rfl ?_
  refine rg_iload_n F 1 1 rfl dX10_mayGo_1 rfl ?_
  refine rg_iload_n F 2 2 rfl dX10_mayGo_2 rfl ?_
  refine rg_callVI F [.int (rg_I ((r : Nat) : Int)), .int (rg_I ((b : Nat) : Int))] [] 0 (k_X10_isIn κ σ (r) (b) fl rf sl (h2) (h4) (h18) (by first | assumption | omega) (by first | assumption | omega) (by first | assumption | omega) (by first | assumption | omega) (by first | assumption | omega)) tM0 cX10 v_X10_isIn i_X10_isIn k_ml_X10_120 ⟨Nat.le_of_ble_eq_true rfl, Nat.le_of_ble_eq_true rfl⟩ rfl (Nat.le_of_ble_eq_true rfl) dX10_mayGo_3 (rg_ex2 ?_)
  show rg_G κ Γ rg_tM 3 0 0 (3 + 3) [(0, .ref (κ.2.2.2 0)), (1, .int (rg_I ((r : Nat) : Int))), (2, .int (rg_I ((b : Nat) : Int)))] [.int (rg_I (rg_b (rg_in sl rf fl r b)))] σ
  refine rg_if_eq F 38 dX10_mayGo_6 (by decide) (by have b0 := rg_b_Rg (rg_in sl rf fl r b); omega) (fun c6_1 => ?_) (fun c6_1 => ?_)
  ·
    have c6_1 := (rg_b_eq0 _).mp c6_1
    refine rg_iconst F dX10_mayGo_38 ?_
    exact hR _ _ _ _ dX10_mayGo_39 (fun _ => Or.inl rfl) ⟨(by first | exact (rg_b_f (fun q => absurd q.1 (by assumption))).symm | exact (rg_b_f (fun q => q.2.1 (by assumption))).symm | exact (rg_b_f (fun q => q.2.2 (by assumption))).symm), rfl⟩
  ·
    have c6_1 := (rg_b_ne0 _).mp c6_1
    refine rg_aload_n F 0 0 rfl dX10_mayGo_9 rfl ?_
    refine rg_get F 0 5 tM0 cX10 k_lays_X10 (by decide) k_fl_X10_16 rfl (v := .ref (κ.2.2.2 3)) rfl dX10_mayGo_10 ?_
    refine rg_iload_n F 1 1 rfl dX10_mayGo_13 rfl ?_
    refine rg_iald F 3 r (v := (kd r)) tM3 (by omega) (by omega) (by decide) (congrFun h3 r) dX10_mayGo_14 ?_
    refine rg_iconst F dX10_mayGo_15 ?_
    refine rg_icmp_eq F 38 dX10_mayGo_16 (by decide) (by have b0 := hkd (r); omega) (by omega) (fun c16_2 => ?_) (fun c16_2 => ?_)
    ·
      refine rg_iconst F dX10_mayGo_38 ?_
      exact hR _ _ _ _ dX10_mayGo_39 (fun _ => Or.inl rfl) ⟨(by first | exact (rg_b_f (fun q => absurd q.1 (by assumption))).symm | exact (rg_b_f (fun q => q.2.1 (by assumption))).symm | exact (rg_b_f (fun q => q.2.2 (by assumption))).symm), rfl⟩
    ·
      refine rg_aload_n F 0 0 rfl dX10_mayGo_19 rfl ?_
      refine rg_get F 0 21 tM0 cX10 k_lays_X10 (by decide) k_fl_X10_53 rfl (v := .ref (κ.2.2.2 15)) rfl dX10_mayGo_20 ?_
      refine rg_bipush F dX10_mayGo_23 (by decide +kernel) ?_
      refine rg_iload_n F 1 1 rfl dX10_mayGo_25 rfl ?_
      refine rg_imul F dX10_mayGo_26 ?_
      refine rg_iload_n F 2 2 rfl dX10_mayGo_27 rfl ?_
      refine rg_iadd F dX10_mayGo_28 ?_
      refine rg_stk (st' := [.int (rg_I ((r * 40 + b : Nat) : Int)), .ref (κ.2.2.2 15)]) (congrArg (fun x9 : Int => Value.int (rg_I x9) :: [.ref (κ.2.2.2 15)]) (by omega)) ?_
      refine rg_iald F 15 (r * 40 + b) (v := (en (r * 40 + b))) tM15 (by omega) (by omega) (by decide) (congrFun h15 (r * 40 + b)) dX10_mayGo_29 ?_
      refine rg_iconst F dX10_mayGo_30 ?_
      refine rg_icmp_eq F 38 dX10_mayGo_31 (by decide) (by have b0 := hen ((r * 40 + b)); omega) (by omega) (fun c31_3 => ?_) (fun c31_3 => ?_)
      ·
        refine rg_iconst F dX10_mayGo_38 ?_
        exact hR _ _ _ _ dX10_mayGo_39 (fun _ => Or.inl rfl) ⟨(by first | exact (rg_b_f (fun q => absurd q.1 (by assumption))).symm | exact (rg_b_f (fun q => q.2.1 (by assumption))).symm | exact (rg_b_f (fun q => q.2.2 (by assumption))).symm), rfl⟩
      ·
        refine rg_iconst F dX10_mayGo_34 ?_
        refine rg_goto F 39 dX10_mayGo_35 (by decide) ?_
        exact hR _ _ _ _ dX10_mayGo_39 (fun _ => Or.inr rfl) ⟨(rg_b_t ⟨by assumption, by assumption, by assumption⟩).symm, rfl⟩
