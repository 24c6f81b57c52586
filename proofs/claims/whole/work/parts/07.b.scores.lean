/-! Contracts of the steps and of the score table (laid by program). -/
set_option maxHeartbeats 4000000 in
set_option maxRecDepth 100000 in
/-- allowedOf -/
theorem k_X8_allowedOf (κ : rg_K) (σ : rg_S) (m : Int) (sr : Nat → Int) (sl : Nat → Int) (ns : Nat) (h23 : σ 23 = sr) (h24 : σ 24 = sl) (h5_2 : σ 5 2 = ((ns : Nat) : Int)) (hns : ns ≤ 6) (hm : rg_Rg m) (hsr : ∀ j, rg_Rg (sr j)) : rg_CI κ rg_tC yX8_allowedOf cX8_allowedOf 4 FieldType.int 0 0 [.ref (κ.2.2.2 5), .int (rg_I m)] σ (fun r9 σ9 => r9 = (rg_al sr sl m ns) ∧ σ9 = σ) := by
  refine rg_entI [(0, .ref (κ.2.2.2 5)), (1, .int (rg_I m))] rfl (by decide +kernel) (Nat.le_of_ble_eq_true rfl) (by first | exact Or.inl rfl | exact Or.inr rfl) (fun Γ F hR => ?_)
  refine rg_iconst F dX8_allowedOf_0 ?_
  refine rg_istore_n F [(2, .int (rg_I 0)), (0, .ref (κ.2.2.2 5)), (1, .int (rg_I m))] dX8_allowedOf_1 rfl (by decide) rfl ?_
  refine rg_iconst F dX8_allowedOf_2 ?_
  refine rg_istore_n F [(3, .int (rg_I 0)), (2, .int (rg_I 0)), (0, .ref (κ.2.2.2 5)), (1, .int (rg_I m))] dX8_allowedOf_3 rfl (by decide) rfl ?_
  have L4 : ∀ (n4 : Nat) (a : Int) (k : Nat), n4 = ns - k → (k ≤ ns) → (a = rg_al sr sl m k) → rg_G κ Γ rg_tC 4 0 0 4 [(0, .ref (κ.2.2.2 5)), (1, .int (rg_I m)), (2, .int (rg_I a)), (3, .int (rg_I ((k : Nat) : Int)))] [] σ := by
    intro n4
    induction n4 using Nat.strongRecOn with
    | _ n4 ih4 =>
      intro a k hn4 hk ha
      refine rg_iload_n F 3 3 rfl dX8_allowedOf_4 rfl ?_
      refine rg_aload_n F 0 0 rfl dX8_allowedOf_5 rfl ?_
      refine rg_get F 5 2 tC5 cX8 k_lays_X8 (by decide) k_fl_X8_18 rfl (v := .int (rg_I ((ns : Nat) : Int))) (congrArg (fun x => Value.int (rg_I x)) h5_2) dX8_allowedOf_6 ?_
      refine rg_icmp_ge F 35 dX8_allowedOf_9 (by decide) (by omega) (by omega) (fun c9_1 => ?_) (fun c9_1 => ?_)
      ·
        refine rg_iload_n F 2 2 rfl dX8_allowedOf_35 rfl ?_
        exact hR _ _ _ _ dX8_allowedOf_36 (fun h => nomatch h) ⟨(by rw [ha, show k = ns by omega]), rfl⟩
      ·
        refine rg_aload_n F 0 0 rfl dX8_allowedOf_12 rfl ?_
        refine rg_get F 5 0 tC5 cX8 k_lays_X8 (by decide) k_fl_X8_9 rfl (v := .ref (κ.2.2.2 23)) rfl dX8_allowedOf_13 ?_
        refine rg_iload_n F 3 3 rfl dX8_allowedOf_16 rfl ?_
        refine rg_iald F 23 k (v := (sr k)) tC23 (by omega) (by omega) (by decide) (congrFun h23 k) dX8_allowedOf_17 ?_
        refine rg_iload_n F 1 1 rfl dX8_allowedOf_18 rfl ?_
        refine rg_icmp_gt F 29 dX8_allowedOf_19 (by decide) (by have b0 := hsr (k); omega) (by omega) (fun c19_2 => ?_) (fun c19_2 => ?_)
        ·
          refine rg_iinc F (v := ((k + 1 : Nat) : Int)) 3 [(3, .int (rg_I ((k + 1 : Nat) : Int))), (0, .ref (κ.2.2.2 5)), (1, .int (rg_I m)), (2, .int (rg_I a))] dX8_allowedOf_29 rfl (by omega) (by decide) rfl ?_
          refine rg_goto F 4 dX8_allowedOf_32 (by decide) ?_
          refine rg_sub (lv' := [(0, .ref (κ.2.2.2 5)), (1, .int (rg_I m)), (2, .int (rg_I a)), (3, .int (rg_I ((k + 1 : Nat) : Int)))]) [1, 2, 3, 0] rfl ?_
          exact ih4 (ns - (k + 1)) (by omega) (a) ((k + 1)) rfl (by omega) (by rw [rg_al]; first | (rw [if_pos (by omega)]; done) | (rw [if_neg (by omega)]; exact ha))
        ·
          refine rg_aload_n F 0 0 rfl dX8_allowedOf_22 rfl ?_
          refine rg_get F 5 1 tC5 cX8 k_lays_X8 (by decide) k_fl_X8_15 rfl (v := .ref (κ.2.2.2 24)) rfl dX8_allowedOf_23 ?_
          refine rg_iload_n F 3 3 rfl dX8_allowedOf_26 rfl ?_
          refine rg_iald F 24 k (v := (sl k)) tC24 (by omega) (by omega) (by decide) (congrFun h24 k) dX8_allowedOf_27 ?_
          refine rg_istore_n F [(2, .int (rg_I (sl k))), (0, .ref (κ.2.2.2 5)), (1, .int (rg_I m)), (3, .int (rg_I ((k : Nat) : Int)))] dX8_allowedOf_28 rfl (by decide) rfl ?_
          refine rg_iinc F (v := ((k + 1 : Nat) : Int)) 3 [(3, .int (rg_I ((k + 1 : Nat) : Int))), (2, .int (rg_I (sl k))), (0, .ref (κ.2.2.2 5)), (1, .int (rg_I m))] dX8_allowedOf_29 rfl (by omega) (by decide) rfl ?_
          refine rg_goto F 4 dX8_allowedOf_32 (by decide) ?_
          refine rg_sub (lv' := [(0, .ref (κ.2.2.2 5)), (1, .int (rg_I m)), (2, .int (rg_I (sl k))), (3, .int (rg_I ((k + 1 : Nat) : Int)))]) [2, 3, 1, 0] rfl ?_
          exact ih4 (ns - (k + 1)) (by omega) ((sl k)) ((k + 1)) rfl (by omega) (by rw [rg_al]; first | (rw [if_pos (by omega)]; done) | (rw [if_neg (by omega)]; exact ha))
  refine rg_sub (lv' := [(0, .ref (κ.2.2.2 5)), (1, .int (rg_I m)), (2, .int (rg_I 0)), (3, .int (rg_I 0))]) [2, 3, 1, 0] rfl ?_
  exact L4 _ (0) (0) rfl (by omega) rfl
set_option maxHeartbeats 4000000 in
set_option maxRecDepth 100000 in
/-- isAboveLatest -/
theorem k_X8_isAboveLatest (κ : rg_K) (σ : rg_S) (m n : Int) (sr : Nat → Int) (sl : Nat → Int) (ns : Nat) (h23 : σ 23 = sr) (h24 : σ 24 = sl) (h5_2 : σ 5 2 = ((ns : Nat) : Int)) (hns : ns ≤ 6) (hm : rg_Rg m) (hn : rg_Rg n) (hsr : ∀ j, rg_Rg (sr j)) (hsl : ∀ j, rg_Rg (sl j)) : rg_CI κ rg_tC yX8_isAboveLatest cX8_isAboveLatest 3 FieldType.boolean 0 0 [.ref (κ.2.2.2 5), .int (rg_I m), .int (rg_I n)] σ (fun r9 σ9 => r9 = (rg_b (ns = 0 ∨ (sr (ns - 1) < m ∧ sl (ns - 1) < n))) ∧ σ9 = σ) := by
  refine rg_entI [(0, .ref (κ.2.2.2 5)), (1, .int (rg_I m)), (2, .int (rg_I n))] rfl (by decide +kernel) (Nat.le_of_ble_eq_true rfl) (by first | exact Or.inl rfl | exact Or.inr rfl) (fun Γ F hR => ?_)
  refine rg_aload_n F 0 0 rfl dX8_isAboveLatest_0 rfl ?_
  refine rg_get F 5 2 tC5 cX8 k_lays_X8 (by decide) k_fl_X8_18 rfl (v := .int (rg_I ((ns : Nat) : Int))) (congrArg (fun x => Value.int (rg_I x)) h5_2) dX8_isAboveLatest_1 ?_
  refine rg_if_eq F 37 dX8_isAboveLatest_4 (by decide) (by omega) (fun c4_1 => ?_) (fun c4_1 => ?_)
  ·
    refine rg_iconst F dX8_isAboveLatest_37 ?_
    refine rg_goto F 42 dX8_isAboveLatest_38 (by decide) ?_
    exact hR _ _ _ _ dX8_isAboveLatest_42 (fun _ => Or.inr rfl) ⟨(rg_b_t (by omega)).symm, rfl⟩
  ·
    refine rg_iload_n F 1 1 rfl dX8_isAboveLatest_7 rfl ?_
    refine rg_aload_n F 0 0 rfl dX8_isAboveLatest_8 rfl ?_
    refine rg_get F 5 0 tC5 cX8 k_lays_X8 (by decide) k_fl_X8_9 rfl (v := .ref (κ.2.2.2 23)) rfl dX8_isAboveLatest_9 ?_
    refine rg_aload_n F 0 0 rfl dX8_isAboveLatest_12 rfl ?_
    refine rg_get F 5 2 tC5 cX8 k_lays_X8 (by decide) k_fl_X8_18 rfl (v := .int (rg_I ((ns : Nat) : Int))) (congrArg (fun x => Value.int (rg_I x)) h5_2) dX8_isAboveLatest_13 ?_
    refine rg_iconst F dX8_isAboveLatest_16 ?_
    refine rg_isub F dX8_isAboveLatest_17 ?_
    refine rg_iald F 23 (ns - 1) (v := (sr (ns - 1))) tC23 (by omega) (by omega) (by decide) (congrFun h23 (ns - 1)) dX8_isAboveLatest_18 ?_
    refine rg_icmp_le F 41 dX8_isAboveLatest_19 (by decide) (by omega) (by have b0 := hsr ((ns - 1)); omega) (fun c19_2 => ?_) (fun c19_2 => ?_)
    ·
      refine rg_iconst F dX8_isAboveLatest_41 ?_
      exact hR _ _ _ _ dX8_isAboveLatest_42 (fun _ => Or.inl rfl) ⟨(rg_b_f (by omega)).symm, rfl⟩
    ·
      refine rg_iload_n F 2 2 rfl dX8_isAboveLatest_22 rfl ?_
      refine rg_aload_n F 0 0 rfl dX8_isAboveLatest_23 rfl ?_
      refine rg_get F 5 1 tC5 cX8 k_lays_X8 (by decide) k_fl_X8_15 rfl (v := .ref (κ.2.2.2 24)) rfl dX8_isAboveLatest_24 ?_
      refine rg_aload_n F 0 0 rfl dX8_isAboveLatest_27 rfl ?_
      refine rg_get F 5 2 tC5 cX8 k_lays_X8 (by decide) k_fl_X8_18 rfl (v := .int (rg_I ((ns : Nat) : Int))) (congrArg (fun x => Value.int (rg_I x)) h5_2) dX8_isAboveLatest_28 ?_
      refine rg_iconst F dX8_isAboveLatest_31 ?_
      refine rg_isub F dX8_isAboveLatest_32 ?_
      refine rg_iald F 24 (ns - 1) (v := (sl (ns - 1))) tC24 (by omega) (by omega) (by decide) (congrFun h24 (ns - 1)) dX8_isAboveLatest_33 ?_
      refine rg_icmp_le F 41 dX8_isAboveLatest_34 (by decide) (by omega) (by have b0 := hsl ((ns - 1)); omega) (fun c34_3 => ?_) (fun c34_3 => ?_)
      ·
        refine rg_iconst F dX8_isAboveLatest_41 ?_
        exact hR _ _ _ _ dX8_isAboveLatest_42 (fun _ => Or.inl rfl) ⟨(rg_b_f (by omega)).symm, rfl⟩
      ·
        refine rg_iconst F dX8_isAboveLatest_37 ?_
        refine rg_goto F 42 dX8_isAboveLatest_38 (by decide) ?_
        exact hR _ _ _ _ dX8_isAboveLatest_42 (fun _ => Or.inr rfl) ⟨(rg_b_t (by omega)).symm, rfl⟩
set_option maxHeartbeats 4000000 in
set_option maxRecDepth 100000 in
/-- Steps.addOne -/
theorem k_X8_addOne (κ : rg_K) (σ : rg_S) (m n : Int) (o5 : Nat → Int) (sr : Nat → Int) (sl : Nat → Int) (ns : Nat) (h5 : σ 5 = o5) (h23 : σ 23 = sr) (h24 : σ 24 = sl) (h5_2 : σ 5 2 = ((ns : Nat) : Int)) (hns : ns < 6) : rg_CV κ rg_tC yX8_addOne cX8_addOne 3 0 0 [.ref (κ.2.2.2 5), .int (rg_I m), .int (rg_I n)] σ (fun σ9 => σ9 = (rg_wr (rg_wr (rg_wr σ 5 (rg_up o5 2 ((ns + 1 : Nat) : Int))) 23 (rg_up sr ns m)) 24 (rg_up sl ns n))) := by
  refine rg_entV [(0, .ref (κ.2.2.2 5)), (1, .int (rg_I m)), (2, .int (rg_I n))] rfl (by decide +kernel) (Nat.le_of_ble_eq_true rfl) (fun Γ F hR => ?_)
  refine rg_aload_n F 0 0 rfl dX8_addOne_0 rfl ?_
  refine rg_get F 5 0 tC5 cX8 k_lays_X8 (by decide) k_fl_X8_9 rfl (v := .ref (κ.2.2.2 23)) rfl dX8_addOne_1 ?_
  refine rg_aload_n F 0 0 rfl dX8_addOne_4 rfl ?_
  refine rg_get F 5 2 tC5 cX8 k_lays_X8 (by decide) k_fl_X8_18 rfl (v := .int (rg_I ((ns : Nat) : Int))) (congrArg (fun x => Value.int (rg_I x)) h5_2) dX8_addOne_5 ?_
  refine rg_iload_n F 1 1 rfl dX8_addOne_8 rfl ?_
  refine rg_iast F 23 ns tC23 (by omega) (by omega) (by decide) (f9 := sr) h23 (rg_wr σ 23 (rg_up sr ns m)) rfl dX8_addOne_9 ?_
  refine rg_aload_n F 0 0 rfl dX8_addOne_10 rfl ?_
  refine rg_get F 5 1 tC5 cX8 k_lays_X8 (by decide) k_fl_X8_15 rfl (v := .ref (κ.2.2.2 24)) rfl dX8_addOne_11 ?_
  refine rg_aload_n F 0 0 rfl dX8_addOne_14 rfl ?_
  refine rg_get F 5 2 tC5 cX8 k_lays_X8 (by decide) k_fl_X8_18 rfl (v := .int (rg_I ((ns : Nat) : Int))) (congrArg (fun x => Value.int (rg_I x)) h5_2) dX8_addOne_15 ?_
  refine rg_iload_n F 2 2 rfl dX8_addOne_18 rfl ?_
  refine rg_iast F 24 ns tC24 (by omega) (by omega) (by decide) (f9 := sl) h24 (rg_wr (rg_wr σ 23 (rg_up sr ns m)) 24 (rg_up sl ns n)) rfl dX8_addOne_19 ?_
  refine rg_aload_n F 0 0 rfl dX8_addOne_20 rfl ?_
  refine rg_dup F dX8_addOne_21 rfl ?_
  refine rg_get F 5 2 tC5 cX8 k_lays_X8 (by decide) k_fl_X8_18 rfl (v := .int (rg_I ((ns : Nat) : Int))) (congrArg (fun x => Value.int (rg_I x)) h5_2) dX8_addOne_22 ?_
  refine rg_iconst F dX8_addOne_25 ?_
  refine rg_iadd F dX8_addOne_26 ?_
  refine rg_put F 5 2 tC5 cX8 k_lays_X8 tyX8_ok nmX8 (by decide) k_fl_X8_18 rfl rfl rfl rfl (f9 := o5) h5 (rg_wr (rg_wr (rg_wr σ 5 (rg_up o5 2 (((ns : Nat) : Int) + 1))) 23 (rg_up sr ns m)) 24 (rg_up sl ns n)) ((rg_wr_comm _ _ _ (by decide)).trans (rg_wr_congr 24 ((rg_wr_comm _ _ _ (by decide)).trans (rg_wr_congr 23 rfl rfl)) rfl)) dX8_addOne_27 ?_
  exact hR _ _ _ dX8_addOne_30 (rg_wr_congr (f := (rg_up sl ns n)) (g := (rg_up sl ns n)) 24 (rg_wr_congr (f := (rg_up sr ns m)) (g := (rg_up sr ns m)) 23 (rg_wr_congr (f := (rg_up o5 2 (((ns : Nat) : Int) + 1))) (g := (rg_up o5 2 ((ns + 1 : Nat) : Int))) 5 rfl rfl) rfl) rfl)
set_option maxHeartbeats 4000000 in
set_option maxRecDepth 100000 in
/-- addUp: scores, races and their sum of a boat -/
theorem k_X6_addUp (κ : rg_K) (σ : rg_S) (b : Nat) (kd : Nat → Int) (ins : Nat → Int) (pt : Nat → Int) (f34 : Nat → Int) (f36 : Nat → Int) (f38 : Nat → Int) (nr : Nat) (h13 : σ 13 = kd) (h28 : σ 28 = ins) (h29 : σ 29 = pt) (h34 : σ 34 = f34) (h36 : σ 36 = f36) (h38 : σ 38 = f38) (h2_3 : σ 2 3 = ((nr : Nat) : Int)) (hb : b < 40) (hnr : nr ≤ 16) (hins : ∀ j, rg_Rg (ins j)) (hkd : ∀ j, rg_Rg (kd j)) : rg_CV κ rg_tC yX6_addUp cX6_addUp 4 1 21 [.ref (κ.2.2.2 7), .int (rg_I ((b : Nat) : Int))] σ (fun σ9 => σ9 = (rg_wr (rg_wr (rg_wr σ 34 (rg_col f34 nr b (fun o => ¬ ins (o * 40 + b) = 0) (fun o => pt (o * 40 + b) * rg_k2 (kd o)))) 36 (rg_up f36 b ((rg_cnt (fun o => ¬ ins (o * 40 + b) = 0) nr : Nat) : Int))) 38 (rg_up f38 b (rg_sum (fun o => rg_ite (¬ ins (o * 40 + b) = 0) (pt (o * 40 + b) * rg_k2 (kd o)) 0) nr)))) := by
  refine rg_entV [(0, .ref (κ.2.2.2 7)), (1, .int (rg_I ((b : Nat) : Int)))] rfl (by decide +kernel) (Nat.le_of_ble_eq_true rfl) (fun Γ F hR => ?_)
  refine rg_aload_n F 0 0 rfl dX6_addUp_0 rfl ?_
  refine rg_get F 7 2 tC7 cX6 k_lays_X6 (by decide) k_fl_X6_19 rfl (v := .ref (κ.2.2.2 36)) rfl dX6_addUp_1 ?_
  refine rg_iload_n F 1 1 rfl dX6_addUp_4 rfl ?_
  refine rg_iconst F dX6_addUp_5 ?_
  refine rg_iast F 36 b tC36 (by omega) (by omega) (by decide) (f9 := f36) h36 (rg_wr σ 36 (rg_up f36 b 0)) rfl dX6_addUp_6 ?_
  refine rg_aload_n F 0 0 rfl dX6_addUp_7 rfl ?_
  refine rg_get F 7 4 tC7 cX6 k_lays_X6 (by decide) k_fl_X6_25 rfl (v := .ref (κ.2.2.2 38)) rfl dX6_addUp_8 ?_
  refine rg_iload_n F 1 1 rfl dX6_addUp_11 rfl ?_
  refine rg_iconst F dX6_addUp_12 ?_
  refine rg_iast F 38 b tC38 (by omega) (by omega) (by decide) (f9 := f38) h38 (rg_wr (rg_wr σ 36 (rg_up f36 b 0)) 38 (rg_up f38 b 0)) rfl dX6_addUp_13 ?_
  refine rg_iconst F dX6_addUp_14 ?_
  refine rg_istore_n F [(2, .int (rg_I 0)), (0, .ref (κ.2.2.2 7)), (1, .int (rg_I ((b : Nat) : Int)))] dX6_addUp_15 rfl (by decide) rfl ?_
  have L16 : ∀ (n16 : Nat) (r : Nat), n16 = nr - r → (r ≤ nr) → rg_G κ Γ rg_tC 4 0 0 16 [(0, .ref (κ.2.2.2 7)), (1, .int (rg_I ((b : Nat) : Int))), (2, .int (rg_I ((r : Nat) : Int)))] [] (rg_wr (rg_wr (rg_wr σ 34 (rg_col f34 r b (fun o => ¬ ins (o * 40 + b) = 0) (fun o => pt (o * 40 + b) * rg_k2 (kd o)))) 36 (rg_up f36 b ((rg_cnt (fun o => ¬ ins (o * 40 + b) = 0) r : Nat) : Int))) 38 (rg_up f38 b (rg_sum (fun o => rg_ite (¬ ins (o * 40 + b) = 0) (pt (o * 40 + b) * rg_k2 (kd o)) 0) r))) := by
    intro n16
    induction n16 using Nat.strongRecOn with
    | _ n16 ih16 =>
      intro r hn16 hr
      refine rg_iload_n F 2 2 rfl dX6_addUp_16 rfl ?_
      refine rg_aload_n F 0 0 rfl dX6_addUp_17 rfl ?_
      refine rg_get F 7 7 tC7 cX6 k_lays_X6 (by decide) k_fl_X6_35 rfl (v := .ref (κ.2.2.2 2)) rfl dX6_addUp_18 ?_
      refine rg_get F 2 3 tC2 cX4 k_lays_X4 (by decide) k_fl_X6_60 rfl (v := .int (rg_I ((nr : Nat) : Int))) (congrArg (fun x => Value.int (rg_I x)) h2_3) dX6_addUp_21 ?_
      refine rg_icmp_ge F 110 dX6_addUp_24 (by decide) (by omega) (by omega) (fun c24_1 => ?_) (fun c24_1 => ?_)
      ·
        exact hR _ _ _ dX6_addUp_110 (rg_wr_congr (f := (rg_up f38 b (rg_sum (fun o => rg_ite (¬ ins (o * 40 + b) = 0) (pt (o * 40 + b) * rg_k2 (kd o)) 0) r))) (g := (rg_up f38 b (rg_sum (fun o => rg_ite (¬ ins (o * 40 + b) = 0) (pt (o * 40 + b) * rg_k2 (kd o)) 0) nr))) 38 (rg_wr_congr (f := (rg_up f36 b ((rg_cnt (fun o => ¬ ins (o * 40 + b) = 0) r : Nat) : Int))) (g := (rg_up f36 b ((rg_cnt (fun o => ¬ ins (o * 40 + b) = 0) nr : Nat) : Int))) 36 (rg_wr_congr (f := (rg_col f34 r b (fun o => ¬ ins (o * 40 + b) = 0) (fun o => pt (o * 40 + b) * rg_k2 (kd o)))) (g := (rg_col f34 nr b (fun o => ¬ ins (o * 40 + b) = 0) (fun o => pt (o * 40 + b) * rg_k2 (kd o)))) 34 rfl (by rw [show r = nr by omega])) (by rw [show r = nr by omega])) (by rw [show r = nr by omega]))
      ·
        refine rg_iload_n F 2 2 rfl dX6_addUp_27 rfl ?_
        refine rg_iload_n F 1 1 rfl dX6_addUp_28 rfl ?_
        refine rg_callNI F [.int (rg_I ((r : Nat) : Int)), .int (rg_I ((b : Nat) : Int))] [] (k_X9_cell κ rg_tC (rg_wr (rg_wr (rg_wr σ 34 (rg_col f34 r b (fun o => ¬ ins (o * 40 + b) = 0) (fun o => pt (o * 40 + b) * rg_k2 (kd o)))) 36 (rg_up f36 b ((rg_cnt (fun o => ¬ ins (o * 40 + b) = 0) r : Nat) : Int))) 38 (rg_up f38 b (rg_sum (fun o => rg_ite (¬ ins (o * 40 + b) = 0) (pt (o * 40 + b) * rg_k2 (kd o)) 0) r))) (r) (b)) v_X9_cell k_st_yX9_cell k_mn_X6_63 ⟨Nat.le_of_ble_eq_true rfl, Nat.le_of_ble_eq_true rfl⟩ rfl (Nat.le_of_ble_eq_true rfl) dX6_addUp_29 (rg_ex2 ?_)
        show rg_G κ Γ rg_tC 4 0 0 (29 + 3) [(0, .ref (κ.2.2.2 7)), (1, .int (rg_I ((b : Nat) : Int))), (2, .int (rg_I ((r : Nat) : Int)))] [.int (rg_I ((r * 40 + b : Nat) : Int))] (rg_wr (rg_wr (rg_wr σ 34 (rg_col f34 r b (fun o => ¬ ins (o * 40 + b) = 0) (fun o => pt (o * 40 + b) * rg_k2 (kd o)))) 36 (rg_up f36 b ((rg_cnt (fun o => ¬ ins (o * 40 + b) = 0) r : Nat) : Int))) 38 (rg_up f38 b (rg_sum (fun o => rg_ite (¬ ins (o * 40 + b) = 0) (pt (o * 40 + b) * rg_k2 (kd o)) 0) r)))
        refine rg_istore_n F [(3, .int (rg_I ((r * 40 + b : Nat) : Int))), (0, .ref (κ.2.2.2 7)), (1, .int (rg_I ((b : Nat) : Int))), (2, .int (rg_I ((r : Nat) : Int)))] dX6_addUp_32 rfl (by decide) rfl ?_
        refine rg_aload_n F 1 0 rfl dX6_addUp_33 rfl ?_
        refine rg_get F 7 9 tC7 cX6 k_lays_X6 (by decide) k_fl_X6_43 rfl (v := .ref (κ.2.2.2 6)) rfl dX6_addUp_34 ?_
        refine rg_get F 6 1 tC6 cX3 k_lays_X3 (by decide) k_fl_X6_67 rfl (v := .ref (κ.2.2.2 28)) rfl dX6_addUp_37 ?_
        refine rg_iload_n F 0 3 rfl dX6_addUp_40 rfl ?_
        refine rg_zald F 28 (r * 40 + b) (v := (ins (r * 40 + b))) tC28 (by omega) (by omega) (by decide) (congrFun h28 (r * 40 + b)) dX6_addUp_41 ?_
        refine rg_if_eq F 104 dX6_addUp_42 (by decide) (by have b0 := hins ((r * 40 + b)); omega) (fun c42_2 => ?_) (fun c42_2 => ?_)
        ·
          refine rg_iinc F (v := ((r + 1 : Nat) : Int)) 3 [(2, .int (rg_I ((r + 1 : Nat) : Int))), (3, .int (rg_I ((r * 40 + b : Nat) : Int))), (0, .ref (κ.2.2.2 7)), (1, .int (rg_I ((b : Nat) : Int)))] dX6_addUp_104 rfl (by omega) (by decide) rfl ?_
          refine rg_goto F 16 dX6_addUp_107 (by decide) ?_
          refine rg_eq (σ' := (rg_wr (rg_wr (rg_wr σ 34 (rg_col f34 (r + 1) b (fun o => ¬ ins (o * 40 + b) = 0) (fun o => pt (o * 40 + b) * rg_k2 (kd o)))) 36 (rg_up f36 b ((rg_cnt (fun o => ¬ ins (o * 40 + b) = 0) (r + 1) : Nat) : Int))) 38 (rg_up f38 b (rg_sum (fun o => rg_ite (¬ ins (o * 40 + b) = 0) (pt (o * 40 + b) * rg_k2 (kd o)) 0) (r + 1))))) (rg_wr_congr (f := (rg_up f38 b (rg_sum (fun o => rg_ite (¬ ins (o * 40 + b) = 0) (pt (o * 40 + b) * rg_k2 (kd o)) 0) r))) (g := (rg_up f38 b (rg_sum (fun o => rg_ite (¬ ins (o * 40 + b) = 0) (pt (o * 40 + b) * rg_k2 (kd o)) 0) (r + 1)))) 38 (rg_wr_congr (f := (rg_up f36 b ((rg_cnt (fun o => ¬ ins (o * 40 + b) = 0) r : Nat) : Int))) (g := (rg_up f36 b ((rg_cnt (fun o => ¬ ins (o * 40 + b) = 0) (r + 1) : Nat) : Int))) 36 (rg_wr_congr (f := (rg_col f34 r b (fun o => ¬ ins (o * 40 + b) = 0) (fun o => pt (o * 40 + b) * rg_k2 (kd o)))) (g := (rg_col f34 (r + 1) b (fun o => ¬ ins (o * 40 + b) = 0) (fun o => pt (o * 40 + b) * rg_k2 (kd o)))) 34 rfl (by first | exact rg_col_s (p := fun o => ¬ ins (o * 40 + b) = 0) _ _ hb (by assumption) (by unfold rg_k2; first | (rw [if_pos (by assumption)]; done) | (rw [if_neg (by assumption)]; done)) | exact rg_col_k (p := fun o => ¬ ins (o * 40 + b) = 0) _ _ (fun z => z (by assumption)))) (by first | (rw [rg_up_up, rg_cnt_t (p := fun o => ¬ ins (o * 40 + b) = 0) (by assumption)]; rfl) | (rw [rg_cnt_f (p := fun o => ¬ ins (o * 40 + b) = 0) (fun z => z (by assumption))]))) (by first | (rw [rg_up_up, ← rg_sum_t (p := fun o => ¬ ins (o * 40 + b) = 0) (pt := fun o => pt (o * 40 + b) * rg_k2 (kd o)) (by assumption)]; unfold rg_k2; first | (rw [if_pos (by assumption)]; done) | (rw [if_neg (by assumption)]; done)) | (rw [← rg_sum_f (p := fun o => ¬ ins (o * 40 + b) = 0) (pt := fun o => pt (o * 40 + b) * rg_k2 (kd o)) (fun z => z (by assumption))]))) ?_
          refine rg_sub (lv' := [(0, .ref (κ.2.2.2 7)), (1, .int (rg_I ((b : Nat) : Int))), (2, .int (rg_I ((r + 1 : Nat) : Int)))]) [2, 3, 0] rfl ?_
          exact ih16 (nr - (r + 1)) (by omega) ((r + 1)) rfl (by omega)
        ·
          refine rg_aload_n F 1 0 rfl dX6_addUp_45 rfl ?_
          refine rg_get F 7 0 tC7 cX6 k_lays_X6 (by decide) k_fl_X6_9 rfl (v := .ref (κ.2.2.2 34)) rfl dX6_addUp_46 ?_
          refine rg_iload_n F 0 3 rfl dX6_addUp_49 rfl ?_
          refine rg_aload_n F 1 0 rfl dX6_addUp_50 rfl ?_
          refine rg_get F 7 9 tC7 cX6 k_lays_X6 (by decide) k_fl_X6_43 rfl (v := .ref (κ.2.2.2 6)) rfl dX6_addUp_51 ?_
          refine rg_get F 6 2 tC6 cX3 k_lays_X3 (by decide) k_fl_X6_72 rfl (v := .ref (κ.2.2.2 29)) rfl dX6_addUp_54 ?_
          refine rg_iload_n F 0 3 rfl dX6_addUp_57 rfl ?_
          refine rg_iald F 29 (r * 40 + b) (v := (pt (r * 40 + b))) tC29 (by omega) (by omega) (by decide) (congrFun h29 (r * 40 + b)) dX6_addUp_58 ?_
          refine rg_aload_n F 1 0 rfl dX6_addUp_59 rfl ?_
          refine rg_get F 7 7 tC7 cX6 k_lays_X6 (by decide) k_fl_X6_35 rfl (v := .ref (κ.2.2.2 2)) rfl dX6_addUp_60 ?_
          refine rg_get F 2 0 tC2 cX4 k_lays_X4 (by decide) k_fl_X6_75 rfl (v := .ref (κ.2.2.2 13)) rfl dX6_addUp_63 ?_
          refine rg_iload_n F 3 2 rfl dX6_addUp_66 rfl ?_
          refine rg_iald F 13 r (v := (kd r)) tC13 (by omega) (by omega) (by decide) (congrFun h13 r) dX6_addUp_67 ?_
          refine rg_iconst F dX6_addUp_68 ?_
          refine rg_icmp_ne F 76 dX6_addUp_69 (by decide) (by have b0 := hkd (r); omega) (by omega) (fun c69_3 => ?_) (fun c69_3 => ?_)
          ·
            refine rg_iconst F dX6_addUp_76 ?_
            refine rg_imul F dX6_addUp_77 ?_
            refine rg_iast F 34 (r * 40 + b) tC34 (by omega) (by omega) (by decide) (f9 := (rg_col f34 r b (fun o => ¬ ins (o * 40 + b) = 0) (fun o => pt (o * 40 + b) * rg_k2 (kd o)))) rfl (rg_wr (rg_wr (rg_wr σ 34 (rg_up (rg_col f34 r b (fun o => ¬ ins (o * 40 + b) = 0) (fun o => pt (o * 40 + b) * rg_k2 (kd o))) (r * 40 + b) ((pt (r * 40 + b)) * 1))) 36 (rg_up f36 b ((rg_cnt (fun o => ¬ ins (o * 40 + b) = 0) r : Nat) : Int))) 38 (rg_up f38 b (rg_sum (fun o => rg_ite (¬ ins (o * 40 + b) = 0) (pt (o * 40 + b) * rg_k2 (kd o)) 0) r))) ((rg_wr_comm _ _ _ (by decide)).trans (rg_wr_congr 38 ((rg_wr_comm _ _ _ (by decide)).trans (rg_wr_congr 36 (rg_wr_wr _ 34 _ _) rfl)) rfl)) dX6_addUp_78 ?_
            refine rg_aload_n F 1 0 rfl dX6_addUp_79 rfl ?_
            refine rg_get F 7 2 tC7 cX6 k_lays_X6 (by decide) k_fl_X6_19 rfl (v := .ref (κ.2.2.2 36)) rfl dX6_addUp_80 ?_
            refine rg_iload_n F 2 1 rfl dX6_addUp_83 rfl ?_
            refine rg_dup2 F dX6_addUp_84 rfl rfl ?_
            refine rg_iald F 36 b (v := (((rg_cnt (fun o => ¬ ins (o * 40 + b) = 0) r) : Nat) : Int)) tC36 (by omega) (by omega) (by decide) (rg_up_same _ _ _) dX6_addUp_85 ?_
            refine rg_iconst F dX6_addUp_86 ?_
            refine rg_iadd F dX6_addUp_87 ?_
            refine rg_iast F 36 b tC36 (by omega) (by omega) (by decide) (f9 := (rg_up f36 b ((rg_cnt (fun o => ¬ ins (o * 40 + b) = 0) r : Nat) : Int))) rfl (rg_wr (rg_wr (rg_wr σ 34 (rg_up (rg_col f34 r b (fun o => ¬ ins (o * 40 + b) = 0) (fun o => pt (o * 40 + b) * rg_k2 (kd o))) (r * 40 + b) ((pt (r * 40 + b)) * 1))) 36 (rg_up (rg_up f36 b ((rg_cnt (fun o => ¬ ins (o * 40 + b) = 0) r : Nat) : Int)) b ((((rg_cnt (fun o => ¬ ins (o * 40 + b) = 0) r) : Nat) : Int) + 1))) 38 (rg_up f38 b (rg_sum (fun o => rg_ite (¬ ins (o * 40 + b) = 0) (pt (o * 40 + b) * rg_k2 (kd o)) 0) r))) ((rg_wr_comm _ _ _ (by decide)).trans (rg_wr_congr 38 (rg_wr_wr _ 36 _ _) rfl)) dX6_addUp_88 ?_
            refine rg_aload_n F 1 0 rfl dX6_addUp_89 rfl ?_
            refine rg_get F 7 4 tC7 cX6 k_lays_X6 (by decide) k_fl_X6_25 rfl (v := .ref (κ.2.2.2 38)) rfl dX6_addUp_90 ?_
            refine rg_iload_n F 2 1 rfl dX6_addUp_93 rfl ?_
            refine rg_dup2 F dX6_addUp_94 rfl rfl ?_
            refine rg_iald F 38 b (v := (rg_sum (fun o => rg_ite (¬ ins (o * 40 + b) = 0) (pt (o * 40 + b) * rg_k2 (kd o)) 0) r)) tC38 (by omega) (by omega) (by decide) (rg_up_same _ _ _) dX6_addUp_95 ?_
            refine rg_aload_n F 1 0 rfl dX6_addUp_96 rfl ?_
            refine rg_get F 7 0 tC7 cX6 k_lays_X6 (by decide) k_fl_X6_9 rfl (v := .ref (κ.2.2.2 34)) rfl dX6_addUp_97 ?_
            refine rg_iload_n F 0 3 rfl dX6_addUp_100 rfl ?_
            refine rg_iald F 34 (r * 40 + b) (v := ((pt (r * 40 + b)) * 1)) tC34 (by omega) (by omega) (by decide) (rg_up_same _ _ _) dX6_addUp_101 ?_
            refine rg_iadd F dX6_addUp_102 ?_
            refine rg_iast F 38 b tC38 (by omega) (by omega) (by decide) (f9 := (rg_up f38 b (rg_sum (fun o => rg_ite (¬ ins (o * 40 + b) = 0) (pt (o * 40 + b) * rg_k2 (kd o)) 0) r))) rfl (rg_wr (rg_wr (rg_wr σ 34 (rg_up (rg_col f34 r b (fun o => ¬ ins (o * 40 + b) = 0) (fun o => pt (o * 40 + b) * rg_k2 (kd o))) (r * 40 + b) ((pt (r * 40 + b)) * 1))) 36 (rg_up (rg_up f36 b ((rg_cnt (fun o => ¬ ins (o * 40 + b) = 0) r : Nat) : Int)) b ((((rg_cnt (fun o => ¬ ins (o * 40 + b) = 0) r) : Nat) : Int) + 1))) 38 (rg_up (rg_up f38 b (rg_sum (fun o => rg_ite (¬ ins (o * 40 + b) = 0) (pt (o * 40 + b) * rg_k2 (kd o)) 0) r)) b ((rg_sum (fun o => rg_ite (¬ ins (o * 40 + b) = 0) (pt (o * 40 + b) * rg_k2 (kd o)) 0) r) + ((pt (r * 40 + b)) * 1)))) (rg_wr_wr _ 38 _ _) dX6_addUp_103 ?_
            refine rg_iinc F (v := ((r + 1 : Nat) : Int)) 3 [(2, .int (rg_I ((r + 1 : Nat) : Int))), (3, .int (rg_I ((r * 40 + b : Nat) : Int))), (0, .ref (κ.2.2.2 7)), (1, .int (rg_I ((b : Nat) : Int)))] dX6_addUp_104 rfl (by omega) (by decide) rfl ?_
            refine rg_goto F 16 dX6_addUp_107 (by decide) ?_
            refine rg_eq (σ' := (rg_wr (rg_wr (rg_wr σ 34 (rg_col f34 (r + 1) b (fun o => ¬ ins (o * 40 + b) = 0) (fun o => pt (o * 40 + b) * rg_k2 (kd o)))) 36 (rg_up f36 b ((rg_cnt (fun o => ¬ ins (o * 40 + b) = 0) (r + 1) : Nat) : Int))) 38 (rg_up f38 b (rg_sum (fun o => rg_ite (¬ ins (o * 40 + b) = 0) (pt (o * 40 + b) * rg_k2 (kd o)) 0) (r + 1))))) (rg_wr_congr (f := (rg_up (rg_up f38 b (rg_sum (fun o => rg_ite (¬ ins (o * 40 + b) = 0) (pt (o * 40 + b) * rg_k2 (kd o)) 0) r)) b ((rg_sum (fun o => rg_ite (¬ ins (o * 40 + b) = 0) (pt (o * 40 + b) * rg_k2 (kd o)) 0) r) + ((pt (r * 40 + b)) * 1)))) (g := (rg_up f38 b (rg_sum (fun o => rg_ite (¬ ins (o * 40 + b) = 0) (pt (o * 40 + b) * rg_k2 (kd o)) 0) (r + 1)))) 38 (rg_wr_congr (f := (rg_up (rg_up f36 b ((rg_cnt (fun o => ¬ ins (o * 40 + b) = 0) r : Nat) : Int)) b ((((rg_cnt (fun o => ¬ ins (o * 40 + b) = 0) r) : Nat) : Int) + 1))) (g := (rg_up f36 b ((rg_cnt (fun o => ¬ ins (o * 40 + b) = 0) (r + 1) : Nat) : Int))) 36 (rg_wr_congr (f := (rg_up (rg_col f34 r b (fun o => ¬ ins (o * 40 + b) = 0) (fun o => pt (o * 40 + b) * rg_k2 (kd o))) (r * 40 + b) ((pt (r * 40 + b)) * 1))) (g := (rg_col f34 (r + 1) b (fun o => ¬ ins (o * 40 + b) = 0) (fun o => pt (o * 40 + b) * rg_k2 (kd o)))) 34 rfl (by first | exact rg_col_s (p := fun o => ¬ ins (o * 40 + b) = 0) _ _ hb (by assumption) (by unfold rg_k2; first | (rw [if_pos (by assumption)]; done) | (rw [if_neg (by assumption)]; done)) | exact rg_col_k (p := fun o => ¬ ins (o * 40 + b) = 0) _ _ (fun z => z (by assumption)))) (by first | (rw [rg_up_up, rg_cnt_t (p := fun o => ¬ ins (o * 40 + b) = 0) (by assumption)]; rfl) | (rw [rg_cnt_f (p := fun o => ¬ ins (o * 40 + b) = 0) (fun z => z (by assumption))]))) (by first | (rw [rg_up_up, ← rg_sum_t (p := fun o => ¬ ins (o * 40 + b) = 0) (pt := fun o => pt (o * 40 + b) * rg_k2 (kd o)) (by assumption)]; unfold rg_k2; first | (rw [if_pos (by assumption)]; done) | (rw [if_neg (by assumption)]; done)) | (rw [← rg_sum_f (p := fun o => ¬ ins (o * 40 + b) = 0) (pt := fun o => pt (o * 40 + b) * rg_k2 (kd o)) (fun z => z (by assumption))]))) ?_
            refine rg_sub (lv' := [(0, .ref (κ.2.2.2 7)), (1, .int (rg_I ((b : Nat) : Int))), (2, .int (rg_I ((r + 1 : Nat) : Int)))]) [2, 3, 0] rfl ?_
            exact ih16 (nr - (r + 1)) (by omega) ((r + 1)) rfl (by omega)
          ·
            refine rg_iconst F dX6_addUp_72 ?_
            refine rg_goto F 77 dX6_addUp_73 (by decide) ?_
            refine rg_imul F dX6_addUp_77 ?_
            refine rg_iast F 34 (r * 40 + b) tC34 (by omega) (by omega) (by decide) (f9 := (rg_col f34 r b (fun o => ¬ ins (o * 40 + b) = 0) (fun o => pt (o * 40 + b) * rg_k2 (kd o)))) rfl (rg_wr (rg_wr (rg_wr σ 34 (rg_up (rg_col f34 r b (fun o => ¬ ins (o * 40 + b) = 0) (fun o => pt (o * 40 + b) * rg_k2 (kd o))) (r * 40 + b) ((pt (r * 40 + b)) * 2))) 36 (rg_up f36 b ((rg_cnt (fun o => ¬ ins (o * 40 + b) = 0) r : Nat) : Int))) 38 (rg_up f38 b (rg_sum (fun o => rg_ite (¬ ins (o * 40 + b) = 0) (pt (o * 40 + b) * rg_k2 (kd o)) 0) r))) ((rg_wr_comm _ _ _ (by decide)).trans (rg_wr_congr 38 ((rg_wr_comm _ _ _ (by decide)).trans (rg_wr_congr 36 (rg_wr_wr _ 34 _ _) rfl)) rfl)) dX6_addUp_78 ?_
            refine rg_aload_n F 1 0 rfl dX6_addUp_79 rfl ?_
            refine rg_get F 7 2 tC7 cX6 k_lays_X6 (by decide) k_fl_X6_19 rfl (v := .ref (κ.2.2.2 36)) rfl dX6_addUp_80 ?_
            refine rg_iload_n F 2 1 rfl dX6_addUp_83 rfl ?_
            refine rg_dup2 F dX6_addUp_84 rfl rfl ?_
            refine rg_iald F 36 b (v := (((rg_cnt (fun o => ¬ ins (o * 40 + b) = 0) r) : Nat) : Int)) tC36 (by omega) (by omega) (by decide) (rg_up_same _ _ _) dX6_addUp_85 ?_
            refine rg_iconst F dX6_addUp_86 ?_
            refine rg_iadd F dX6_addUp_87 ?_
            refine rg_iast F 36 b tC36 (by omega) (by omega) (by decide) (f9 := (rg_up f36 b ((rg_cnt (fun o => ¬ ins (o * 40 + b) = 0) r : Nat) : Int))) rfl (rg_wr (rg_wr (rg_wr σ 34 (rg_up (rg_col f34 r b (fun o => ¬ ins (o * 40 + b) = 0) (fun o => pt (o * 40 + b) * rg_k2 (kd o))) (r * 40 + b) ((pt (r * 40 + b)) * 2))) 36 (rg_up (rg_up f36 b ((rg_cnt (fun o => ¬ ins (o * 40 + b) = 0) r : Nat) : Int)) b ((((rg_cnt (fun o => ¬ ins (o * 40 + b) = 0) r) : Nat) : Int) + 1))) 38 (rg_up f38 b (rg_sum (fun o => rg_ite (¬ ins (o * 40 + b) = 0) (pt (o * 40 + b) * rg_k2 (kd o)) 0) r))) ((rg_wr_comm _ _ _ (by decide)).trans (rg_wr_congr 38 (rg_wr_wr _ 36 _ _) rfl)) dX6_addUp_88 ?_
            refine rg_aload_n F 1 0 rfl dX6_addUp_89 rfl ?_
            refine rg_get F 7 4 tC7 cX6 k_lays_X6 (by decide) k_fl_X6_25 rfl (v := .ref (κ.2.2.2 38)) rfl dX6_addUp_90 ?_
            refine rg_iload_n F 2 1 rfl dX6_addUp_93 rfl ?_
            refine rg_dup2 F dX6_addUp_94 rfl rfl ?_
            refine rg_iald F 38 b (v := (rg_sum (fun o => rg_ite (¬ ins (o * 40 + b) = 0) (pt (o * 40 + b) * rg_k2 (kd o)) 0) r)) tC38 (by omega) (by omega) (by decide) (rg_up_same _ _ _) dX6_addUp_95 ?_
            refine rg_aload_n F 1 0 rfl dX6_addUp_96 rfl ?_
            refine rg_get F 7 0 tC7 cX6 k_lays_X6 (by decide) k_fl_X6_9 rfl (v := .ref (κ.2.2.2 34)) rfl dX6_addUp_97 ?_
            refine rg_iload_n F 0 3 rfl dX6_addUp_100 rfl ?_
            refine rg_iald F 34 (r * 40 + b) (v := ((pt (r * 40 + b)) * 2)) tC34 (by omega) (by omega) (by decide) (rg_up_same _ _ _) dX6_addUp_101 ?_
            refine rg_iadd F dX6_addUp_102 ?_
            refine rg_iast F 38 b tC38 (by omega) (by omega) (by decide) (f9 := (rg_up f38 b (rg_sum (fun o => rg_ite (¬ ins (o * 40 + b) = 0) (pt (o * 40 + b) * rg_k2 (kd o)) 0) r))) rfl (rg_wr (rg_wr (rg_wr σ 34 (rg_up (rg_col f34 r b (fun o => ¬ ins (o * 40 + b) = 0) (fun o => pt (o * 40 + b) * rg_k2 (kd o))) (r * 40 + b) ((pt (r * 40 + b)) * 2))) 36 (rg_up (rg_up f36 b ((rg_cnt (fun o => ¬ ins (o * 40 + b) = 0) r : Nat) : Int)) b ((((rg_cnt (fun o => ¬ ins (o * 40 + b) = 0) r) : Nat) : Int) + 1))) 38 (rg_up (rg_up f38 b (rg_sum (fun o => rg_ite (¬ ins (o * 40 + b) = 0) (pt (o * 40 + b) * rg_k2 (kd o)) 0) r)) b ((rg_sum (fun o => rg_ite (¬ ins (o * 40 + b) = 0) (pt (o * 40 + b) * rg_k2 (kd o)) 0) r) + ((pt (r * 40 + b)) * 2)))) (rg_wr_wr _ 38 _ _) dX6_addUp_103 ?_
            refine rg_iinc F (v := ((r + 1 : Nat) : Int)) 3 [(2, .int (rg_I ((r + 1 : Nat) : Int))), (3, .int (rg_I ((r * 40 + b : Nat) : Int))), (0, .ref (κ.2.2.2 7)), (1, .int (rg_I ((b : Nat) : Int)))] dX6_addUp_104 rfl (by omega) (by decide) rfl ?_
            refine rg_goto F 16 dX6_addUp_107 (by decide) ?_
            refine rg_eq (σ' := (rg_wr (rg_wr (rg_wr σ 34 (rg_col f34 (r + 1) b (fun o => ¬ ins (o * 40 + b) = 0) (fun o => pt (o * 40 + b) * rg_k2 (kd o)))) 36 (rg_up f36 b ((rg_cnt (fun o => ¬ ins (o * 40 + b) = 0) (r + 1) : Nat) : Int))) 38 (rg_up f38 b (rg_sum (fun o => rg_ite (¬ ins (o * 40 + b) = 0) (pt (o * 40 + b) * rg_k2 (kd o)) 0) (r + 1))))) (rg_wr_congr (f := (rg_up (rg_up f38 b (rg_sum (fun o => rg_ite (¬ ins (o * 40 + b) = 0) (pt (o * 40 + b) * rg_k2 (kd o)) 0) r)) b ((rg_sum (fun o => rg_ite (¬ ins (o * 40 + b) = 0) (pt (o * 40 + b) * rg_k2 (kd o)) 0) r) + ((pt (r * 40 + b)) * 2)))) (g := (rg_up f38 b (rg_sum (fun o => rg_ite (¬ ins (o * 40 + b) = 0) (pt (o * 40 + b) * rg_k2 (kd o)) 0) (r + 1)))) 38 (rg_wr_congr (f := (rg_up (rg_up f36 b ((rg_cnt (fun o => ¬ ins (o * 40 + b) = 0) r : Nat) : Int)) b ((((rg_cnt (fun o => ¬ ins (o * 40 + b) = 0) r) : Nat) : Int) + 1))) (g := (rg_up f36 b ((rg_cnt (fun o => ¬ ins (o * 40 + b) = 0) (r + 1) : Nat) : Int))) 36 (rg_wr_congr (f := (rg_up (rg_col f34 r b (fun o => ¬ ins (o * 40 + b) = 0) (fun o => pt (o * 40 + b) * rg_k2 (kd o))) (r * 40 + b) ((pt (r * 40 + b)) * 2))) (g := (rg_col f34 (r + 1) b (fun o => ¬ ins (o * 40 + b) = 0) (fun o => pt (o * 40 + b) * rg_k2 (kd o)))) 34 rfl (by first | exact rg_col_s (p := fun o => ¬ ins (o * 40 + b) = 0) _ _ hb (by assumption) (by unfold rg_k2; first | (rw [if_pos (by assumption)]; done) | (rw [if_neg (by assumption)]; done)) | exact rg_col_k (p := fun o => ¬ ins (o * 40 + b) = 0) _ _ (fun z => z (by assumption)))) (by first | (rw [rg_up_up, rg_cnt_t (p := fun o => ¬ ins (o * 40 + b) = 0) (by assumption)]; rfl) | (rw [rg_cnt_f (p := fun o => ¬ ins (o * 40 + b) = 0) (fun z => z (by assumption))]))) (by first | (rw [rg_up_up, ← rg_sum_t (p := fun o => ¬ ins (o * 40 + b) = 0) (pt := fun o => pt (o * 40 + b) * rg_k2 (kd o)) (by assumption)]; unfold rg_k2; first | (rw [if_pos (by assumption)]; done) | (rw [if_neg (by assumption)]; done)) | (rw [← rg_sum_f (p := fun o => ¬ ins (o * 40 + b) = 0) (pt := fun o => pt (o * 40 + b) * rg_k2 (kd o)) (fun z => z (by assumption))]))) ?_
            refine rg_sub (lv' := [(0, .ref (κ.2.2.2 7)), (1, .int (rg_I ((b : Nat) : Int))), (2, .int (rg_I ((r + 1 : Nat) : Int)))]) [2, 3, 0] rfl ?_
            exact ih16 (nr - (r + 1)) (by omega) ((r + 1)) rfl (by omega)
  refine rg_eq (σ' := (rg_wr (rg_wr (rg_wr σ 34 (rg_col f34 0 b (fun o => ¬ ins (o * 40 + b) = 0) (fun o => pt (o * 40 + b) * rg_k2 (kd o)))) 36 (rg_up f36 b ((rg_cnt (fun o => ¬ ins (o * 40 + b) = 0) 0 : Nat) : Int))) 38 (rg_up f38 b (rg_sum (fun o => rg_ite (¬ ins (o * 40 + b) = 0) (pt (o * 40 + b) * rg_k2 (kd o)) 0) 0)))) (((rg_wr_self (σ := (rg_wr (rg_wr σ 36 (rg_up f36 b 0)) 38 (rg_up f38 b 0))) (k := 34) (f := f34) h34).trans ((rg_wr_comm _ _ _ (by decide)).trans (rg_wr_congr 38 ((rg_wr_comm _ _ _ (by decide)).trans (rg_wr_congr 36 rfl rfl)) rfl))).trans (rg_wr_congr (f := (rg_up f38 b 0)) (g := (rg_up f38 b (rg_sum (fun o => rg_ite (¬ ins (o * 40 + b) = 0) (pt (o * 40 + b) * rg_k2 (kd o)) 0) 0))) 38 (rg_wr_congr (f := (rg_up f36 b 0)) (g := (rg_up f36 b ((rg_cnt (fun o => ¬ ins (o * 40 + b) = 0) 0 : Nat) : Int))) 36 (rg_wr_congr (f := f34) (g := (rg_col f34 0 b (fun o => ¬ ins (o * 40 + b) = 0) (fun o => pt (o * 40 + b) * rg_k2 (kd o)))) 34 rfl (rg_col_0 _ _ _ _)) rfl) rfl)) ?_
  refine rg_sub (lv' := [(0, .ref (κ.2.2.2 7)), (1, .int (rg_I ((b : Nat) : Int))), (2, .int (rg_I 0))]) [1, 2, 0] rfl ?_
  exact L16 _ (0) rfl (by omega)
set_option maxHeartbeats 4000000 in
set_option maxRecDepth 100000 in
/-- canLeaveOut -/
theorem k_X6_canLeaveOut (κ : rg_K) (σ : rg_S) (r b : Nat) (kd : Nat → Int) (en : Nat → Int) (ins : Nat → Int) (dis : Nat → Int) (h13 : σ 13 = kd) (h25 : σ 25 = en) (h28 : σ 28 = ins) (h35 : σ 35 = dis) (hr : r < 16) (hb : b < 40) (hen : ∀ j, rg_Rg (en j)) (hins : ∀ j, rg_Rg (ins j)) (hkd : ∀ j, rg_Rg (kd j)) (hdis : ∀ j, rg_Rg (dis j)) : rg_CI κ rg_tC yX6_canLeaveOut cX6_canLeaveOut 4 FieldType.boolean 1 21 [.ref (κ.2.2.2 7), .int (rg_I ((r : Nat) : Int)), .int (rg_I ((b : Nat) : Int))] σ (fun r9 σ9 => r9 = (rg_b (rg_cn ins kd en r b ∧ dis (r * 40 + b) = 0)) ∧ σ9 = σ) := by
  refine rg_entI [(0, .ref (κ.2.2.2 7)), (1, .int (rg_I ((r : Nat) : Int))), (2, .int (rg_I ((b : Nat) : Int)))] rfl (by decide +kernel) (Nat.le_of_ble_eq_true rfl) (by first | exact Or.inl rfl | exact Or.inr rfl) (fun Γ F hR => ?_)
  refine rg_iload_n F 1 1 rfl dX6_canLeaveOut_0 rfl ?_
  refine rg_iload_n F 2 2 rfl dX6_canLeaveOut_1 rfl ?_
  refine rg_callNI F [.int (rg_I ((r : Nat) : Int)), .int (rg_I ((b : Nat) : Int))] [] (k_X9_cell κ rg_tC σ (r) (b)) v_X9_cell k_st_yX9_cell k_mn_X6_63 ⟨Nat.le_of_ble_eq_true rfl, Nat.le_of_ble_eq_true rfl⟩ rfl (Nat.le_of_ble_eq_true rfl) dX6_canLeaveOut_2 (rg_ex2 ?_)
  show rg_G κ Γ rg_tC 4 0 0 (2 + 3) [(0, .ref (κ.2.2.2 7)), (1, .int (rg_I ((r : Nat) : Int))), (2, .int (rg_I ((b : Nat) : Int)))] [.int (rg_I ((r * 40 + b : Nat) : Int))] σ
  refine rg_istore_n F [(3, .int (rg_I ((r * 40 + b : Nat) : Int))), (0, .ref (κ.2.2.2 7)), (1, .int (rg_I ((r : Nat) : Int))), (2, .int (rg_I ((b : Nat) : Int)))] dX6_canLeaveOut_5 rfl (by decide) rfl ?_
  refine rg_aload_n F 1 0 rfl dX6_canLeaveOut_6 rfl ?_
  refine rg_get F 7 9 tC7 cX6 k_lays_X6 (by decide) k_fl_X6_43 rfl (v := .ref (κ.2.2.2 6)) rfl dX6_canLeaveOut_7 ?_
  refine rg_get F 6 1 tC6 cX3 k_lays_X3 (by decide) k_fl_X6_67 rfl (v := .ref (κ.2.2.2 28)) rfl dX6_canLeaveOut_10 ?_
  refine rg_iload_n F 0 3 rfl dX6_canLeaveOut_13 rfl ?_
  refine rg_zald F 28 (r * 40 + b) (v := (ins (r * 40 + b))) tC28 (by omega) (by omega) (by decide) (congrFun h28 (r * 40 + b)) dX6_canLeaveOut_14 ?_
  refine rg_if_eq F 60 dX6_canLeaveOut_15 (by decide) (by have b0 := hins ((r * 40 + b)); omega) (fun c15_1 => ?_) (fun c15_1 => ?_)
  ·
    refine rg_iconst F dX6_canLeaveOut_60 ?_
    exact hR _ _ _ _ dX6_canLeaveOut_61 (fun _ => Or.inl rfl) ⟨(by first | exact (rg_b_f (fun q => q.1.1 (by assumption))).symm | exact (rg_b_f (fun q => absurd q.2 (by assumption))).symm | exact (rg_b_f (fun q => q.1.2.1 (by assumption))).symm | exact (rg_b_f (fun q => q.1.2.2 (by assumption))).symm), rfl⟩
  ·
    refine rg_aload_n F 1 0 rfl dX6_canLeaveOut_18 rfl ?_
    refine rg_get F 7 1 tC7 cX6 k_lays_X6 (by decide) k_fl_X6_15 rfl (v := .ref (κ.2.2.2 35)) rfl dX6_canLeaveOut_19 ?_
    refine rg_iload_n F 0 3 rfl dX6_canLeaveOut_22 rfl ?_
    refine rg_zald F 35 (r * 40 + b) (v := (dis (r * 40 + b))) tC35 (by omega) (by omega) (by decide) (congrFun h35 (r * 40 + b)) dX6_canLeaveOut_23 ?_
    refine rg_if_ne F 60 dX6_canLeaveOut_24 (by decide) (by have b0 := hdis ((r * 40 + b)); omega) (fun c24_2 => ?_) (fun c24_2 => ?_)
    ·
      refine rg_iconst F dX6_canLeaveOut_60 ?_
      exact hR _ _ _ _ dX6_canLeaveOut_61 (fun _ => Or.inl rfl) ⟨(by first | exact (rg_b_f (fun q => q.1.1 (by assumption))).symm | exact (rg_b_f (fun q => absurd q.2 (by assumption))).symm | exact (rg_b_f (fun q => q.1.2.1 (by assumption))).symm | exact (rg_b_f (fun q => q.1.2.2 (by assumption))).symm), rfl⟩
    ·
      refine rg_aload_n F 1 0 rfl dX6_canLeaveOut_27 rfl ?_
      refine rg_get F 7 7 tC7 cX6 k_lays_X6 (by decide) k_fl_X6_35 rfl (v := .ref (κ.2.2.2 2)) rfl dX6_canLeaveOut_28 ?_
      refine rg_get F 2 0 tC2 cX4 k_lays_X4 (by decide) k_fl_X6_75 rfl (v := .ref (κ.2.2.2 13)) rfl dX6_canLeaveOut_31 ?_
      refine rg_iload_n F 2 1 rfl dX6_canLeaveOut_34 rfl ?_
      refine rg_iald F 13 r (v := (kd r)) tC13 (by omega) (by omega) (by decide) (congrFun h13 r) dX6_canLeaveOut_35 ?_
      refine rg_iconst F dX6_canLeaveOut_36 ?_
      refine rg_icmp_eq F 60 dX6_canLeaveOut_37 (by decide) (by have b0 := hkd (r); omega) (by omega) (fun c37_3 => ?_) (fun c37_3 => ?_)
      ·
        refine rg_iconst F dX6_canLeaveOut_60 ?_
        exact hR _ _ _ _ dX6_canLeaveOut_61 (fun _ => Or.inl rfl) ⟨(by first | exact (rg_b_f (fun q => q.1.1 (by assumption))).symm | exact (rg_b_f (fun q => absurd q.2 (by assumption))).symm | exact (rg_b_f (fun q => q.1.2.1 (by assumption))).symm | exact (rg_b_f (fun q => q.1.2.2 (by assumption))).symm), rfl⟩
      ·
        refine rg_aload_n F 1 0 rfl dX6_canLeaveOut_40 rfl ?_
        refine rg_get F 7 9 tC7 cX6 k_lays_X6 (by decide) k_fl_X6_43 rfl (v := .ref (κ.2.2.2 6)) rfl dX6_canLeaveOut_41 ?_
        refine rg_get F 6 0 tC6 cX3 k_lays_X3 (by decide) k_fl_X6_91 rfl (v := .ref (κ.2.2.2 10)) rfl dX6_canLeaveOut_44 ?_
        refine rg_get F 10 0 tC10 cX2 k_lays_X2 (by decide) k_fl_X6_95 rfl (v := .ref (κ.2.2.2 25)) rfl dX6_canLeaveOut_47 ?_
        refine rg_iload_n F 0 3 rfl dX6_canLeaveOut_50 rfl ?_
        refine rg_iald F 25 (r * 40 + b) (v := (en (r * 40 + b))) tC25 (by omega) (by omega) (by decide) (congrFun h25 (r * 40 + b)) dX6_canLeaveOut_51 ?_
        refine rg_iconst F dX6_canLeaveOut_52 ?_
        refine rg_icmp_eq F 60 dX6_canLeaveOut_53 (by decide) (by have b0 := hen ((r * 40 + b)); omega) (by omega) (fun c53_4 => ?_) (fun c53_4 => ?_)
        ·
          refine rg_iconst F dX6_canLeaveOut_60 ?_
          exact hR _ _ _ _ dX6_canLeaveOut_61 (fun _ => Or.inl rfl) ⟨(by first | exact (rg_b_f (fun q => q.1.1 (by assumption))).symm | exact (rg_b_f (fun q => absurd q.2 (by assumption))).symm | exact (rg_b_f (fun q => q.1.2.1 (by assumption))).symm | exact (rg_b_f (fun q => q.1.2.2 (by assumption))).symm), rfl⟩
        ·
          refine rg_iconst F dX6_canLeaveOut_56 ?_
          refine rg_goto F 61 dX6_canLeaveOut_57 (by decide) ?_
          exact hR _ _ _ _ dX6_canLeaveOut_61 (fun _ => Or.inr rfl) ⟨(rg_b_t ⟨⟨by assumption, by assumption, by assumption⟩, by assumption⟩).symm, rfl⟩
set_option maxHeartbeats 4000000 in
set_option maxRecDepth 100000 in
/-- worstLeft -/
theorem k_X6_worstLeft (κ : rg_K) (σ : rg_S) (b : Nat) (kd : Nat → Int) (en : Nat → Int) (ins : Nat → Int) (sc : Nat → Int) (dis : Nat → Int) (nr : Nat) (h13 : σ 13 = kd) (h25 : σ 25 = en) (h28 : σ 28 = ins) (h34 : σ 34 = sc) (h35 : σ 35 = dis) (h2_3 : σ 2 3 = ((nr : Nat) : Int)) (hb : b < 40) (hnr : nr ≤ 16) (hen : ∀ j, rg_Rg (en j)) (hins : ∀ j, rg_Rg (ins j)) (hkd : ∀ j, rg_Rg (kd j)) (hdis : ∀ j, rg_Rg (dis j)) (hsc : ∀ j, rg_Rg (sc j)) : rg_CI κ rg_tC yX6_worstLeft cX6_worstLeft 4 FieldType.int 2 44 [.ref (κ.2.2.2 7), .int (rg_I ((b : Nat) : Int))] σ (fun r9 σ9 => r9 = (rg_wst (fun o => rg_cn ins kd en o b) (fun o => sc (o * 40 + b)) (fun o => dis (o * 40 + b)) nr) ∧ σ9 = σ) := by
  refine rg_entI [(0, .ref (κ.2.2.2 7)), (1, .int (rg_I ((b : Nat) : Int)))] rfl (by decide +kernel) (Nat.le_of_ble_eq_true rfl) (by first | exact Or.inl rfl | exact Or.inr rfl) (fun Γ F hR => ?_)
  refine rg_iconst F dX6_worstLeft_0 ?_
  refine rg_istore_n F [(2, .int (rg_I (-1))), (0, .ref (κ.2.2.2 7)), (1, .int (rg_I ((b : Nat) : Int)))] dX6_worstLeft_1 rfl (by decide) rfl ?_
  refine rg_iconst F dX6_worstLeft_2 ?_
  refine rg_istore_n F [(3, .int (rg_I 0)), (2, .int (rg_I (-1))), (0, .ref (κ.2.2.2 7)), (1, .int (rg_I ((b : Nat) : Int)))] dX6_worstLeft_3 rfl (by decide) rfl ?_
  have L4 : ∀ (n4 : Nat) (w : Int) (r : Nat), n4 = nr - r → (r ≤ nr) → (w = rg_wst (fun o => rg_cn ins kd en o b) (fun o => sc (o * 40 + b)) (fun o => dis (o * 40 + b)) r) → (-1 ≤ w ∧ w < ((r : Nat) : Int)) → rg_G κ Γ rg_tC 4 0 0 4 [(0, .ref (κ.2.2.2 7)), (1, .int (rg_I ((b : Nat) : Int))), (2, .int (rg_I w)), (3, .int (rg_I ((r : Nat) : Int)))] [] σ := by
    intro n4
    induction n4 using Nat.strongRecOn with
    | _ n4 ih4 =>
      intro w r hn4 hr hw hw2
      refine rg_iload_n F 3 3 rfl dX6_worstLeft_4 rfl ?_
      refine rg_aload_n F 0 0 rfl dX6_worstLeft_5 rfl ?_
      refine rg_get F 7 7 tC7 cX6 k_lays_X6 (by decide) k_fl_X6_35 rfl (v := .ref (κ.2.2.2 2)) rfl dX6_worstLeft_6 ?_
      refine rg_get F 2 3 tC2 cX4 k_lays_X4 (by decide) k_fl_X6_60 rfl (v := .int (rg_I ((nr : Nat) : Int))) (congrArg (fun x => Value.int (rg_I x)) h2_3) dX6_worstLeft_9 ?_
      refine rg_icmp_ge F 60 dX6_worstLeft_12 (by decide) (by omega) (by omega) (fun c12_1 => ?_) (fun c12_1 => ?_)
      ·
        refine rg_iload_n F 2 2 rfl dX6_worstLeft_60 rfl ?_
        exact hR _ _ _ _ dX6_worstLeft_61 (fun h => nomatch h) ⟨(by rw [hw, show r = nr by omega]), rfl⟩
      ·
        refine rg_aload_n F 0 0 rfl dX6_worstLeft_15 rfl ?_
        refine rg_iload_n F 3 3 rfl dX6_worstLeft_16 rfl ?_
        refine rg_iload_n F 1 1 rfl dX6_worstLeft_17 rfl ?_
        refine rg_callVI F [.int (rg_I ((r : Nat) : Int)), .int (rg_I ((b : Nat) : Int))] [] 7 (k_X6_canLeaveOut κ σ (r) (b) kd en ins dis (h13) (h25) (h28) (h35) (by first | assumption | omega) (by first | assumption | omega) (by first | assumption | omega) (by first | assumption | omega) (by first | assumption | omega) (by first | assumption | omega)) tC7 cX6 v_X6_canLeaveOut i_X6_canLeaveOut k_ml_X6_87 ⟨Nat.le_of_ble_eq_true rfl, Nat.le_of_ble_eq_true rfl⟩ rfl (Nat.le_of_ble_eq_true rfl) dX6_worstLeft_18 (rg_ex2 ?_)
        show rg_G κ Γ rg_tC 4 0 0 (18 + 3) [(0, .ref (κ.2.2.2 7)), (1, .int (rg_I ((b : Nat) : Int))), (2, .int (rg_I w)), (3, .int (rg_I ((r : Nat) : Int)))] [.int (rg_I (rg_b (rg_cn ins kd en r b ∧ dis (r * 40 + b) = 0)))] σ
        refine rg_if_eq F 54 dX6_worstLeft_21 (by decide) (by have b0 := rg_b_Rg (rg_cn ins kd en r b ∧ dis (r * 40 + b) = 0); omega) (fun c21_2 => ?_) (fun c21_2 => ?_)
        ·
          have c21_2 := (rg_b_eq0 _).mp c21_2
          refine rg_iinc F (v := ((r + 1 : Nat) : Int)) 3 [(3, .int (rg_I ((r + 1 : Nat) : Int))), (0, .ref (κ.2.2.2 7)), (1, .int (rg_I ((b : Nat) : Int))), (2, .int (rg_I w))] dX6_worstLeft_54 rfl (by omega) (by decide) rfl ?_
          refine rg_goto F 4 dX6_worstLeft_57 (by decide) ?_
          refine rg_sub (lv' := [(0, .ref (κ.2.2.2 7)), (1, .int (rg_I ((b : Nat) : Int))), (2, .int (rg_I w)), (3, .int (rg_I ((r + 1 : Nat) : Int)))]) [1, 2, 3, 0] rfl ?_
          exact ih4 (nr - (r + 1)) (by omega) (w) ((r + 1)) rfl (by omega) (by first | exact rg_wst_new hw (by assumption) (Or.inl (by assumption)) | exact rg_wst_new hw (by assumption) (Or.inr (by assumption)) | exact rg_wst_keep hw (Or.inl (by assumption)) | exact rg_wst_keep hw (Or.inr ⟨by assumption, by assumption⟩)) (by omega)
        ·
          have c21_2 := (rg_b_ne0 _).mp c21_2
          refine rg_iload_n F 2 2 rfl dX6_worstLeft_24 rfl ?_
          refine rg_iconst F dX6_worstLeft_25 ?_
          refine rg_icmp_eq F 52 dX6_worstLeft_26 (by decide) (by omega) (by omega) (fun c26_3 => ?_) (fun c26_3 => ?_)
          ·
            refine rg_iload_n F 3 3 rfl dX6_worstLeft_52 rfl ?_
            refine rg_istore_n F [(2, .int (rg_I ((r : Nat) : Int))), (0, .ref (κ.2.2.2 7)), (1, .int (rg_I ((b : Nat) : Int))), (3, .int (rg_I ((r : Nat) : Int)))] dX6_worstLeft_53 rfl (by decide) rfl ?_
            refine rg_iinc F (v := ((r + 1 : Nat) : Int)) 3 [(3, .int (rg_I ((r + 1 : Nat) : Int))), (2, .int (rg_I ((r : Nat) : Int))), (0, .ref (κ.2.2.2 7)), (1, .int (rg_I ((b : Nat) : Int)))] dX6_worstLeft_54 rfl (by omega) (by decide) rfl ?_
            refine rg_goto F 4 dX6_worstLeft_57 (by decide) ?_
            refine rg_sub (lv' := [(0, .ref (κ.2.2.2 7)), (1, .int (rg_I ((b : Nat) : Int))), (2, .int (rg_I ((r : Nat) : Int))), (3, .int (rg_I ((r + 1 : Nat) : Int)))]) [2, 3, 1, 0] rfl ?_
            exact ih4 (nr - (r + 1)) (by omega) (((r : Nat) : Int)) ((r + 1)) rfl (by omega) (by first | exact rg_wst_new hw (by assumption) (Or.inl (by assumption)) | exact rg_wst_new hw (by assumption) (Or.inr (by assumption)) | exact rg_wst_keep hw (Or.inl (by assumption)) | exact rg_wst_keep hw (Or.inr ⟨by assumption, by assumption⟩)) (by omega)
          ·
            refine rg_aload_n F 0 0 rfl dX6_worstLeft_29 rfl ?_
            refine rg_get F 7 0 tC7 cX6 k_lays_X6 (by decide) k_fl_X6_9 rfl (v := .ref (κ.2.2.2 34)) rfl dX6_worstLeft_30 ?_
            refine rg_iload_n F 3 3 rfl dX6_worstLeft_33 rfl ?_
            refine rg_iload_n F 1 1 rfl dX6_worstLeft_34 rfl ?_
            refine rg_callNI F [.int (rg_I ((r : Nat) : Int)), .int (rg_I ((b : Nat) : Int))] [.ref (κ.2.2.2 34)] (k_X9_cell κ rg_tC σ (r) (b)) v_X9_cell k_st_yX9_cell k_mn_X6_63 ⟨Nat.le_of_ble_eq_true rfl, Nat.le_of_ble_eq_true rfl⟩ rfl (Nat.le_of_ble_eq_true rfl) dX6_worstLeft_35 (rg_ex2 ?_)
            show rg_G κ Γ rg_tC 4 0 0 (35 + 3) [(0, .ref (κ.2.2.2 7)), (1, .int (rg_I ((b : Nat) : Int))), (2, .int (rg_I w)), (3, .int (rg_I ((r : Nat) : Int)))] [.int (rg_I ((r * 40 + b : Nat) : Int)), .ref (κ.2.2.2 34)] σ
            refine rg_iald F 34 (r * 40 + b) (v := (sc (r * 40 + b))) tC34 (by omega) (by omega) (by decide) (congrFun h34 (r * 40 + b)) dX6_worstLeft_38 ?_
            refine rg_aload_n F 0 0 rfl dX6_worstLeft_39 rfl ?_
            refine rg_get F 7 0 tC7 cX6 k_lays_X6 (by decide) k_fl_X6_9 rfl (v := .ref (κ.2.2.2 34)) rfl dX6_worstLeft_40 ?_
            refine rg_iload_n F 2 2 rfl dX6_worstLeft_43 rfl ?_
            refine rg_stk (st' := [.int (rg_I ((Int.toNat w : Nat) : Int)), .ref (κ.2.2.2 34), .int (rg_I (sc (r * 40 + b)))]) (by rw [Int.toNat_of_nonneg (a := w) (by omega)]) ?_
            refine rg_iload_n F 1 1 rfl dX6_worstLeft_44 rfl ?_
            refine rg_callNI F [.int (rg_I ((Int.toNat w : Nat) : Int)), .int (rg_I ((b : Nat) : Int))] [.ref (κ.2.2.2 34), .int (rg_I (sc (r * 40 + b)))] (k_X9_cell κ rg_tC σ ((Int.toNat w)) (b)) v_X9_cell k_st_yX9_cell k_mn_X6_63 ⟨Nat.le_of_ble_eq_true rfl, Nat.le_of_ble_eq_true rfl⟩ rfl (Nat.le_of_ble_eq_true rfl) dX6_worstLeft_45 (rg_ex2 ?_)
            show rg_G κ Γ rg_tC 4 0 0 (45 + 3) [(0, .ref (κ.2.2.2 7)), (1, .int (rg_I ((b : Nat) : Int))), (2, .int (rg_I w)), (3, .int (rg_I ((r : Nat) : Int)))] [.int (rg_I (((Int.toNat w) * 40 + b : Nat) : Int)), .ref (κ.2.2.2 34), .int (rg_I (sc (r * 40 + b)))] σ
            refine rg_iald F 34 ((Int.toNat w) * 40 + b) (v := (sc ((Int.toNat w) * 40 + b))) tC34 (by omega) (by omega) (by decide) (congrFun h34 ((Int.toNat w) * 40 + b)) dX6_worstLeft_48 ?_
            refine rg_icmp_le F 54 dX6_worstLeft_49 (by decide) (by have b0 := hsc ((r * 40 + b)); omega) (by have b0 := hsc (((Int.toNat w) * 40 + b)); omega) (fun c49_4 => ?_) (fun c49_4 => ?_)
            ·
              refine rg_iinc F (v := ((r + 1 : Nat) : Int)) 3 [(3, .int (rg_I ((r + 1 : Nat) : Int))), (0, .ref (κ.2.2.2 7)), (1, .int (rg_I ((b : Nat) : Int))), (2, .int (rg_I w))] dX6_worstLeft_54 rfl (by omega) (by decide) rfl ?_
              refine rg_goto F 4 dX6_worstLeft_57 (by decide) ?_
              refine rg_sub (lv' := [(0, .ref (κ.2.2.2 7)), (1, .int (rg_I ((b : Nat) : Int))), (2, .int (rg_I w)), (3, .int (rg_I ((r + 1 : Nat) : Int)))]) [1, 2, 3, 0] rfl ?_
              exact ih4 (nr - (r + 1)) (by omega) (w) ((r + 1)) rfl (by omega) (by first | exact rg_wst_new hw (by assumption) (Or.inl (by assumption)) | exact rg_wst_new hw (by assumption) (Or.inr (by assumption)) | exact rg_wst_keep hw (Or.inl (by assumption)) | exact rg_wst_keep hw (Or.inr ⟨by assumption, by assumption⟩)) (by omega)
            ·
              refine rg_iload_n F 3 3 rfl dX6_worstLeft_52 rfl ?_
              refine rg_istore_n F [(2, .int (rg_I ((r : Nat) : Int))), (0, .ref (κ.2.2.2 7)), (1, .int (rg_I ((b : Nat) : Int))), (3, .int (rg_I ((r : Nat) : Int)))] dX6_worstLeft_53 rfl (by decide) rfl ?_
              refine rg_iinc F (v := ((r + 1 : Nat) : Int)) 3 [(3, .int (rg_I ((r + 1 : Nat) : Int))), (2, .int (rg_I ((r : Nat) : Int))), (0, .ref (κ.2.2.2 7)), (1, .int (rg_I ((b : Nat) : Int)))] dX6_worstLeft_54 rfl (by omega) (by decide) rfl ?_
              refine rg_goto F 4 dX6_worstLeft_57 (by decide) ?_
              refine rg_sub (lv' := [(0, .ref (κ.2.2.2 7)), (1, .int (rg_I ((b : Nat) : Int))), (2, .int (rg_I ((r : Nat) : Int))), (3, .int (rg_I ((r + 1 : Nat) : Int)))]) [2, 3, 1, 0] rfl ?_
              exact ih4 (nr - (r + 1)) (by omega) (((r : Nat) : Int)) ((r + 1)) rfl (by omega) (by first | exact rg_wst_new hw (by assumption) (Or.inl (by assumption)) | exact rg_wst_new hw (by assumption) (Or.inr (by assumption)) | exact rg_wst_keep hw (Or.inl (by assumption)) | exact rg_wst_keep hw (Or.inr ⟨by assumption, by assumption⟩)) (by omega)
  refine rg_sub (lv' := [(0, .ref (κ.2.2.2 7)), (1, .int (rg_I ((b : Nat) : Int))), (2, .int (rg_I (-1))), (3, .int (rg_I 0))]) [2, 3, 1, 0] rfl ?_
  exact L4 _ ((-1)) (0) rfl (by omega) rfl (by omega)
set_option maxHeartbeats 4000000 in
set_option maxRecDepth 100000 in
/-- leaveOut -/
theorem k_X6_leaveOut (κ : rg_K) (σ : rg_S) (b : Nat) (kd : Nat → Int) (sr : Nat → Int) (sl : Nat → Int) (en : Nat → Int) (ins : Nat → Int) (sc : Nat → Int) (f35 : Nat → Int) (f36 : Nat → Int) (f37 : Nat → Int) (f38 : Nat → Int) (f39 : Nat → Int) (nr : Nat) (ns : Nat) (h13 : σ 13 = kd) (h23 : σ 23 = sr) (h24 : σ 24 = sl) (h25 : σ 25 = en) (h28 : σ 28 = ins) (h34 : σ 34 = sc) (h35 : σ 35 = f35) (h36 : σ 36 = f36) (h37 : σ 37 = f37) (h38 : σ 38 = f38) (h39 : σ 39 = f39) (h2_3 : σ 2 3 = ((nr : Nat) : Int)) (h5_2 : σ 5 2 = ((ns : Nat) : Int)) (hb : b < 40) (hnr : nr ≤ 16) (hns : ns ≤ 6) (hen : ∀ j, rg_Rg (en j)) (hins : ∀ j, rg_Rg (ins j)) (hkd : ∀ j, rg_Rg (kd j)) (hf35 : ∀ j, rg_Rg (f35 j)) (hsc : ∀ j, rg_Rg (sc j)) (hsr : ∀ j, rg_Rg (sr j)) (hsl : ∀ k, k < ns → 0 ≤ sl k ∧ sl k ≤ 15) (hm : rg_Rg (f36 b)) : rg_CV κ rg_tC yX6_leaveOut cX6_leaveOut 5 3 67 [.ref (κ.2.2.2 7), .int (rg_I ((b : Nat) : Int))] σ (fun σ9 => σ9 = (rg_wr (rg_wr (rg_wr σ 35 (rg_col f35 nr b (fun _ => True) (rg_Dt (fun o => rg_cn ins kd en o b) (fun o => sc (o * 40 + b)) nr (Int.toNat (rg_al sr sl (f36 b) ns))))) 37 (rg_up f37 b (rg_Ct (fun o => rg_cn ins kd en o b) (fun o => sc (o * 40 + b)) nr (Int.toNat (rg_al sr sl (f36 b) ns))))) 39 (rg_up f39 b (rg_Nt (fun o => rg_cn ins kd en o b) (fun o => sc (o * 40 + b)) nr (f38 b) (Int.toNat (rg_al sr sl (f36 b) ns)))))) := by
  have hal := rg_al_bd (sr := sr) (m := f36 b) hsl
  refine rg_entV [(0, .ref (κ.2.2.2 7)), (1, .int (rg_I ((b : Nat) : Int)))] rfl (by decide +kernel) (Nat.le_of_ble_eq_true rfl) (fun Γ F hR => ?_)
  refine rg_iconst F dX6_leaveOut_0 ?_
  refine rg_istore_n F [(2, .int (rg_I 0)), (0, .ref (κ.2.2.2 7)), (1, .int (rg_I ((b : Nat) : Int)))] dX6_leaveOut_1 rfl (by decide) rfl ?_
  have L2 : ∀ (n2 : Nat) (r : Nat), n2 = nr - r → (r ≤ nr) → rg_G κ Γ rg_tC 5 0 0 2 [(0, .ref (κ.2.2.2 7)), (1, .int (rg_I ((b : Nat) : Int))), (2, .int (rg_I ((r : Nat) : Int)))] [] (rg_wr σ 35 (rg_col f35 r b (fun _ => True) (fun _ => 0))) := by
    intro n2
    induction n2 using Nat.strongRecOn with
    | _ n2 ih2 =>
      intro r hn2 hr
      refine rg_iload_n F 2 2 rfl dX6_leaveOut_2 rfl ?_
      refine rg_aload_n F 0 0 rfl dX6_leaveOut_3 rfl ?_
      refine rg_get F 7 7 tC7 cX6 k_lays_X6 (by decide) k_fl_X6_35 rfl (v := .ref (κ.2.2.2 2)) rfl dX6_leaveOut_4 ?_
      refine rg_get F 2 3 tC2 cX4 k_lays_X4 (by decide) k_fl_X6_60 rfl (v := .int (rg_I ((nr : Nat) : Int))) (congrArg (fun x => Value.int (rg_I x)) h2_3) dX6_leaveOut_7 ?_
      refine rg_icmp_ge F 30 dX6_leaveOut_10 (by decide) (by omega) (by omega) (fun c10_1 => ?_) (fun c10_1 => ?_)
      ·
        refine rg_aload_n F 0 0 rfl dX6_leaveOut_30 rfl ?_
        refine rg_get F 7 3 tC7 cX6 k_lays_X6 (by decide) k_fl_X6_22 rfl (v := .ref (κ.2.2.2 37)) rfl dX6_leaveOut_31 ?_
        refine rg_iload_n F 1 1 rfl dX6_leaveOut_34 rfl ?_
        refine rg_iconst F dX6_leaveOut_35 ?_
        refine rg_iast F 37 b tC37 (by omega) (by omega) (by decide) (f9 := f37) h37 (rg_wr (rg_wr σ 35 (rg_col f35 r b (fun _ => True) (fun _ => 0))) 37 (rg_up f37 b 0)) rfl dX6_leaveOut_36 ?_
        refine rg_aload_n F 0 0 rfl dX6_leaveOut_37 rfl ?_
        refine rg_get F 7 5 tC7 cX6 k_lays_X6 (by decide) k_fl_X6_28 rfl (v := .ref (κ.2.2.2 39)) rfl dX6_leaveOut_38 ?_
        refine rg_iload_n F 1 1 rfl dX6_leaveOut_41 rfl ?_
        refine rg_aload_n F 0 0 rfl dX6_leaveOut_42 rfl ?_
        refine rg_get F 7 4 tC7 cX6 k_lays_X6 (by decide) k_fl_X6_25 rfl (v := .ref (κ.2.2.2 38)) rfl dX6_leaveOut_43 ?_
        refine rg_iload_n F 1 1 rfl dX6_leaveOut_46 rfl ?_
        refine rg_iald F 38 b (v := (f38 b)) tC38 (by omega) (by omega) (by decide) (congrFun h38 b) dX6_leaveOut_47 ?_
        refine rg_iast F 39 b tC39 (by omega) (by omega) (by decide) (f9 := f39) h39 (rg_wr (rg_wr (rg_wr σ 35 (rg_col f35 r b (fun _ => True) (fun _ => 0))) 37 (rg_up f37 b 0)) 39 (rg_up f39 b (f38 b))) rfl dX6_leaveOut_48 ?_
        refine rg_aload_n F 0 0 rfl dX6_leaveOut_49 rfl ?_
        refine rg_get F 7 8 tC7 cX6 k_lays_X6 (by decide) k_fl_X6_39 rfl (v := .ref (κ.2.2.2 5)) rfl dX6_leaveOut_50 ?_
        refine rg_aload_n F 0 0 rfl dX6_leaveOut_53 rfl ?_
        refine rg_get F 7 2 tC7 cX6 k_lays_X6 (by decide) k_fl_X6_19 rfl (v := .ref (κ.2.2.2 36)) rfl dX6_leaveOut_54 ?_
        refine rg_iload_n F 1 1 rfl dX6_leaveOut_57 rfl ?_
        refine rg_iald F 36 b (v := (f36 b)) tC36 (by omega) (by omega) (by decide) (congrFun h36 b) dX6_leaveOut_58 ?_
        refine rg_callVI F [.int (rg_I (f36 b))] [] 5 (k_X8_allowedOf κ (rg_wr (rg_wr (rg_wr σ 35 (rg_col f35 r b (fun _ => True) (fun _ => 0))) 37 (rg_up f37 b 0)) 39 (rg_up f39 b (f38 b))) ((f36 b)) sr sl (ns) (h23) (h24) (h5_2) (by first | assumption | omega) (by first | assumption | omega) (by first | assumption | omega)) tC5 cX8 v_X8_allowedOf i_X8_allowedOf k_ml_X6_78 ⟨Nat.le_of_ble_eq_true rfl, Nat.le_of_ble_eq_true rfl⟩ rfl (Nat.le_of_ble_eq_true rfl) dX6_leaveOut_59 (rg_ex2 ?_)
        show rg_G κ Γ rg_tC 5 0 0 (59 + 3) [(0, .ref (κ.2.2.2 7)), (1, .int (rg_I ((b : Nat) : Int))), (2, .int (rg_I ((r : Nat) : Int)))] [.int (rg_I (rg_al sr sl (f36 b) ns))] (rg_wr (rg_wr (rg_wr σ 35 (rg_col f35 r b (fun _ => True) (fun _ => 0))) 37 (rg_up f37 b 0)) 39 (rg_up f39 b (f38 b)))
        refine rg_istore_n F [(2, .int (rg_I (rg_al sr sl (f36 b) ns))), (0, .ref (κ.2.2.2 7)), (1, .int (rg_I ((b : Nat) : Int)))] dX6_leaveOut_62 rfl (by decide) rfl ?_
        refine rg_iconst F dX6_leaveOut_63 ?_
        refine rg_istore_n F [(3, .int (rg_I 0)), (2, .int (rg_I (rg_al sr sl (f36 b) ns))), (0, .ref (κ.2.2.2 7)), (1, .int (rg_I ((b : Nat) : Int)))] dX6_leaveOut_64 rfl (by decide) rfl ?_
        have L65 : ∀ (n65 : Nat) (n : Nat), n65 = (Int.toNat (rg_al sr sl (f36 b) ns)) - n → (n ≤ (Int.toNat (rg_al sr sl (f36 b) ns))) → rg_G κ Γ rg_tC 5 0 0 65 [(0, .ref (κ.2.2.2 7)), (1, .int (rg_I ((b : Nat) : Int))), (2, .int (rg_I (rg_al sr sl (f36 b) ns))), (3, .int (rg_I ((n : Nat) : Int)))] [] (rg_wr (rg_wr (rg_wr σ 35 (rg_col f35 nr b (fun _ => True) (rg_Dt (fun o => rg_cn ins kd en o b) (fun o => sc (o * 40 + b)) nr n))) 37 (rg_up f37 b (rg_Ct (fun o => rg_cn ins kd en o b) (fun o => sc (o * 40 + b)) nr n))) 39 (rg_up f39 b (rg_Nt (fun o => rg_cn ins kd en o b) (fun o => sc (o * 40 + b)) nr (f38 b) n))) := by
          intro n65
          induction n65 using Nat.strongRecOn with
          | _ n65 ih65 =>
            intro n hn65 hn
            refine rg_iload_n F 3 3 rfl dX6_leaveOut_65 rfl ?_
            refine rg_iload_n F 2 2 rfl dX6_leaveOut_66 rfl ?_
            refine rg_icmp_ge F 132 dX6_leaveOut_67 (by decide) (by omega) (by omega) (fun c67_2 => ?_) (fun c67_2 => ?_)
            ·
              exact hR _ _ _ dX6_leaveOut_132 (rg_wr_congr (f := (rg_up f39 b (rg_Nt (fun o => rg_cn ins kd en o b) (fun o => sc (o * 40 + b)) nr (f38 b) n))) (g := (rg_up f39 b (rg_Nt (fun o => rg_cn ins kd en o b) (fun o => sc (o * 40 + b)) nr (f38 b) (Int.toNat (rg_al sr sl (f36 b) ns))))) 39 (rg_wr_congr (f := (rg_up f37 b (rg_Ct (fun o => rg_cn ins kd en o b) (fun o => sc (o * 40 + b)) nr n))) (g := (rg_up f37 b (rg_Ct (fun o => rg_cn ins kd en o b) (fun o => sc (o * 40 + b)) nr (Int.toNat (rg_al sr sl (f36 b) ns))))) 37 (rg_wr_congr (f := (rg_col f35 nr b (fun _ => True) (rg_Dt (fun o => rg_cn ins kd en o b) (fun o => sc (o * 40 + b)) nr n))) (g := (rg_col f35 nr b (fun _ => True) (rg_Dt (fun o => rg_cn ins kd en o b) (fun o => sc (o * 40 + b)) nr (Int.toNat (rg_al sr sl (f36 b) ns))))) 35 rfl (by first | (rw [show n = (Int.toNat (rg_al sr sl (f36 b) ns)) by omega]; done) | (obtain ⟨m, hm9⟩ : ∃ m, (Int.toNat (rg_al sr sl (f36 b) ns)) = n + m := ⟨(Int.toNat (rg_al sr sl (f36 b) ns)) - n, by omega⟩; rw [hm9, rg_Dt_stop (by assumption)]))) (by first | (rw [show n = (Int.toNat (rg_al sr sl (f36 b) ns)) by omega]; done) | (obtain ⟨m, hm9⟩ : ∃ m, (Int.toNat (rg_al sr sl (f36 b) ns)) = n + m := ⟨(Int.toNat (rg_al sr sl (f36 b) ns)) - n, by omega⟩; rw [hm9, rg_Ct_stop (by assumption)]))) (by first | (rw [show n = (Int.toNat (rg_al sr sl (f36 b) ns)) by omega]; done) | (obtain ⟨m, hm9⟩ : ∃ m, (Int.toNat (rg_al sr sl (f36 b) ns)) = n + m := ⟨(Int.toNat (rg_al sr sl (f36 b) ns)) - n, by omega⟩; rw [hm9, rg_Nt_stop (by assumption)])))
            ·
              refine rg_aload_n F 0 0 rfl dX6_leaveOut_70 rfl ?_
              refine rg_iload_n F 1 1 rfl dX6_leaveOut_71 rfl ?_
              refine rg_callVI F [.int (rg_I ((b : Nat) : Int))] [] 7 (k_X6_worstLeft κ (rg_wr (rg_wr (rg_wr σ 35 (rg_col f35 nr b (fun _ => True) (rg_Dt (fun o => rg_cn ins kd en o b) (fun o => sc (o * 40 + b)) nr n))) 37 (rg_up f37 b (rg_Ct (fun o => rg_cn ins kd en o b) (fun o => sc (o * 40 + b)) nr n))) 39 (rg_up f39 b (rg_Nt (fun o => rg_cn ins kd en o b) (fun o => sc (o * 40 + b)) nr (f38 b) n))) (b) kd en ins sc (rg_col f35 nr b (fun _ => True) (rg_Dt (fun o => rg_cn ins kd en o b) (fun o => sc (o * 40 + b)) nr n)) (nr) (h13) (h25) (h28) (h34) rfl (h2_3) (by first | assumption | omega) (by first | assumption | omega) (by first | assumption | omega) (by first | assumption | omega) (by first | assumption | omega) (rg_col_Rg hf35 (rg_Dt_Rg _ _ _ _)) (by first | assumption | omega)) tC7 cX6 v_X6_worstLeft i_X6_worstLeft k_ml_X6_84 ⟨Nat.le_of_ble_eq_true rfl, Nat.le_of_ble_eq_true rfl⟩ rfl (Nat.le_of_ble_eq_true rfl) dX6_leaveOut_72 (rg_ex2 ?_)
              show rg_G κ Γ rg_tC 5 0 0 (72 + 3) [(0, .ref (κ.2.2.2 7)), (1, .int (rg_I ((b : Nat) : Int))), (2, .int (rg_I (rg_al sr sl (f36 b) ns))), (3, .int (rg_I ((n : Nat) : Int)))] [.int (rg_I (rg_wst (fun o => rg_cn ins kd en o b) (fun o => sc (o * 40 + b)) (fun o => (rg_col f35 nr b (fun _ => True) (rg_Dt (fun o => rg_cn ins kd en o b) (fun o => sc (o * 40 + b)) nr n)) (o * 40 + b)) nr))] (rg_wr (rg_wr (rg_wr σ 35 (rg_col f35 nr b (fun _ => True) (rg_Dt (fun o => rg_cn ins kd en o b) (fun o => sc (o * 40 + b)) nr n))) 37 (rg_up f37 b (rg_Ct (fun o => rg_cn ins kd en o b) (fun o => sc (o * 40 + b)) nr n))) 39 (rg_up f39 b (rg_Nt (fun o => rg_cn ins kd en o b) (fun o => sc (o * 40 + b)) nr (f38 b) n)))
              refine rg_stk (st' := [.int (rg_I (rg_wst (fun o => rg_cn ins kd en o b) (fun o => sc (o * 40 + b)) (rg_Dt (fun o => rg_cn ins kd en o b) (fun o => sc (o * 40 + b)) nr n) nr))]) (congrArg (fun x => Value.int (rg_I x) :: []) (rg_wst_congr (fun _ _ => Iff.rfl) (fun _ _ _ => rfl) (fun o ho => rg_col_at _ _ hb ho trivial)).1) ?_
              refine rg_istore F [(4, .int (rg_I (rg_wst (fun o => rg_cn ins kd en o b) (fun o => sc (o * 40 + b)) (rg_Dt (fun o => rg_cn ins kd en o b) (fun o => sc (o * 40 + b)) nr n) nr))), (0, .ref (κ.2.2.2 7)), (1, .int (rg_I ((b : Nat) : Int))), (2, .int (rg_I (rg_al sr sl (f36 b) ns))), (3, .int (rg_I ((n : Nat) : Int)))] dX6_leaveOut_75 (by decide) rfl ?_
              refine rg_iload F 0 4 rfl dX6_leaveOut_77 ?_
              refine rg_iconst F dX6_leaveOut_79 ?_
              refine rg_icmp_ne F 84 dX6_leaveOut_80 (by decide) (by have b0 := rg_wst_bd (fun o => rg_cn ins kd en o b) (fun o => sc (o * 40 + b)) (rg_Dt (fun o => rg_cn ins kd en o b) (fun o => sc (o * 40 + b)) nr n) nr; omega) (by omega) (fun c80_3 => ?_) (fun c80_3 => ?_)
              ·
                have hwb := rg_wst_bd (fun o => rg_cn ins kd en o b) (fun o => sc (o * 40 + b)) (rg_Dt (fun o => rg_cn ins kd en o b) (fun o => sc (o * 40 + b)) nr n) nr
                refine rg_aload_n F 1 0 rfl dX6_leaveOut_84 rfl ?_
                refine rg_get F 7 1 tC7 cX6 k_lays_X6 (by decide) k_fl_X6_15 rfl (v := .ref (κ.2.2.2 35)) rfl dX6_leaveOut_85 ?_
                refine rg_iload F 0 4 rfl dX6_leaveOut_88 ?_
                refine rg_stk (st' := [.int (rg_I ((Int.toNat (rg_wst (fun o => rg_cn ins kd en o b) (fun o => sc (o * 40 + b)) (rg_Dt (fun o => rg_cn ins kd en o b) (fun o => sc (o * 40 + b)) nr n) nr) : Nat) : Int)), .ref (κ.2.2.2 35)]) (by rw [Int.toNat_of_nonneg (a := (rg_wst (fun o => rg_cn ins kd en o b) (fun o => sc (o * 40 + b)) (rg_Dt (fun o => rg_cn ins kd en o b) (fun o => sc (o * 40 + b)) nr n) nr)) (by have b0 := rg_wst_bd (fun o => rg_cn ins kd en o b) (fun o => sc (o * 40 + b)) (rg_Dt (fun o => rg_cn ins kd en o b) (fun o => sc (o * 40 + b)) nr n) nr; omega)]) ?_
                refine rg_iload_n F 2 1 rfl dX6_leaveOut_90 rfl ?_
                refine rg_callNI F [.int (rg_I ((Int.toNat (rg_wst (fun o => rg_cn ins kd en o b) (fun o => sc (o * 40 + b)) (rg_Dt (fun o => rg_cn ins kd en o b) (fun o => sc (o * 40 + b)) nr n) nr) : Nat) : Int)), .int (rg_I ((b : Nat) : Int))] [.ref (κ.2.2.2 35)] (k_X9_cell κ rg_tC (rg_wr (rg_wr (rg_wr σ 35 (rg_col f35 nr b (fun _ => True) (rg_Dt (fun o => rg_cn ins kd en o b) (fun o => sc (o * 40 + b)) nr n))) 37 (rg_up f37 b (rg_Ct (fun o => rg_cn ins kd en o b) (fun o => sc (o * 40 + b)) nr n))) 39 (rg_up f39 b (rg_Nt (fun o => rg_cn ins kd en o b) (fun o => sc (o * 40 + b)) nr (f38 b) n))) ((Int.toNat (rg_wst (fun o => rg_cn ins kd en o b) (fun o => sc (o * 40 + b)) (rg_Dt (fun o => rg_cn ins kd en o b) (fun o => sc (o * 40 + b)) nr n) nr))) (b)) v_X9_cell k_st_yX9_cell k_mn_X6_63 ⟨Nat.le_of_ble_eq_true rfl, Nat.le_of_ble_eq_true rfl⟩ rfl (Nat.le_of_ble_eq_true rfl) dX6_leaveOut_91 (rg_ex2 ?_)
                show rg_G κ Γ rg_tC 5 0 0 (91 + 3) [(4, .int (rg_I (rg_wst (fun o => rg_cn ins kd en o b) (fun o => sc (o * 40 + b)) (rg_Dt (fun o => rg_cn ins kd en o b) (fun o => sc (o * 40 + b)) nr n) nr))), (0, .ref (κ.2.2.2 7)), (1, .int (rg_I ((b : Nat) : Int))), (2, .int (rg_I (rg_al sr sl (f36 b) ns))), (3, .int (rg_I ((n : Nat) : Int)))] [.int (rg_I (((Int.toNat (rg_wst (fun o => rg_cn ins kd en o b) (fun o => sc (o * 40 + b)) (rg_Dt (fun o => rg_cn ins kd en o b) (fun o => sc (o * 40 + b)) nr n) nr)) * 40 + b : Nat) : Int)), .ref (κ.2.2.2 35)] (rg_wr (rg_wr (rg_wr σ 35 (rg_col f35 nr b (fun _ => True) (rg_Dt (fun o => rg_cn ins kd en o b) (fun o => sc (o * 40 + b)) nr n))) 37 (rg_up f37 b (rg_Ct (fun o => rg_cn ins kd en o b) (fun o => sc (o * 40 + b)) nr n))) 39 (rg_up f39 b (rg_Nt (fun o => rg_cn ins kd en o b) (fun o => sc (o * 40 + b)) nr (f38 b) n)))
                refine rg_iconst F dX6_leaveOut_94 ?_
                refine rg_zast F 35 ((Int.toNat (rg_wst (fun o => rg_cn ins kd en o b) (fun o => sc (o * 40 + b)) (rg_Dt (fun o => rg_cn ins kd en o b) (fun o => sc (o * 40 + b)) nr n) nr)) * 40 + b) tC35 (by omega) (by omega) (by decide) (Or.inr rfl) (f9 := (rg_col f35 nr b (fun _ => True) (rg_Dt (fun o => rg_cn ins kd en o b) (fun o => sc (o * 40 + b)) nr n))) rfl (rg_wr (rg_wr (rg_wr σ 35 (rg_up (rg_col f35 nr b (fun _ => True) (rg_Dt (fun o => rg_cn ins kd en o b) (fun o => sc (o * 40 + b)) nr n)) ((Int.toNat (rg_wst (fun o => rg_cn ins kd en o b) (fun o => sc (o * 40 + b)) (rg_Dt (fun o => rg_cn ins kd en o b) (fun o => sc (o * 40 + b)) nr n) nr)) * 40 + b) 1)) 37 (rg_up f37 b (rg_Ct (fun o => rg_cn ins kd en o b) (fun o => sc (o * 40 + b)) nr n))) 39 (rg_up f39 b (rg_Nt (fun o => rg_cn ins kd en o b) (fun o => sc (o * 40 + b)) nr (f38 b) n))) ((rg_wr_comm _ _ _ (by decide)).trans (rg_wr_congr 39 ((rg_wr_comm _ _ _ (by decide)).trans (rg_wr_congr 37 (rg_wr_wr _ 35 _ _) rfl)) rfl)) dX6_leaveOut_95 ?_
                refine rg_aload_n F 1 0 rfl dX6_leaveOut_96 rfl ?_
                refine rg_get F 7 3 tC7 cX6 k_lays_X6 (by decide) k_fl_X6_22 rfl (v := .ref (κ.2.2.2 37)) rfl dX6_leaveOut_97 ?_
                refine rg_iload_n F 2 1 rfl dX6_leaveOut_100 rfl ?_
                refine rg_dup2 F dX6_leaveOut_101 rfl rfl ?_
                refine rg_iald F 37 b (v := (rg_Ct (fun o => rg_cn ins kd en o b) (fun o => sc (o * 40 + b)) nr n)) tC37 (by omega) (by omega) (by decide) (rg_up_same _ _ _) dX6_leaveOut_102 ?_
                refine rg_iconst F dX6_leaveOut_103 ?_
                refine rg_iadd F dX6_leaveOut_104 ?_
                refine rg_iast F 37 b tC37 (by omega) (by omega) (by decide) (f9 := (rg_up f37 b (rg_Ct (fun o => rg_cn ins kd en o b) (fun o => sc (o * 40 + b)) nr n))) rfl (rg_wr (rg_wr (rg_wr σ 35 (rg_up (rg_col f35 nr b (fun _ => True) (rg_Dt (fun o => rg_cn ins kd en o b) (fun o => sc (o * 40 + b)) nr n)) ((Int.toNat (rg_wst (fun o => rg_cn ins kd en o b) (fun o => sc (o * 40 + b)) (rg_Dt (fun o => rg_cn ins kd en o b) (fun o => sc (o * 40 + b)) nr n) nr)) * 40 + b) 1)) 37 (rg_up (rg_up f37 b (rg_Ct (fun o => rg_cn ins kd en o b) (fun o => sc (o * 40 + b)) nr n)) b ((rg_Ct (fun o => rg_cn ins kd en o b) (fun o => sc (o * 40 + b)) nr n) + 1))) 39 (rg_up f39 b (rg_Nt (fun o => rg_cn ins kd en o b) (fun o => sc (o * 40 + b)) nr (f38 b) n))) ((rg_wr_comm _ _ _ (by decide)).trans (rg_wr_congr 39 (rg_wr_wr _ 37 _ _) rfl)) dX6_leaveOut_105 ?_
                refine rg_aload_n F 1 0 rfl dX6_leaveOut_106 rfl ?_
                refine rg_get F 7 5 tC7 cX6 k_lays_X6 (by decide) k_fl_X6_28 rfl (v := .ref (κ.2.2.2 39)) rfl dX6_leaveOut_107 ?_
                refine rg_iload_n F 2 1 rfl dX6_leaveOut_110 rfl ?_
                refine rg_dup2 F dX6_leaveOut_111 rfl rfl ?_
                refine rg_iald F 39 b (v := (rg_Nt (fun o => rg_cn ins kd en o b) (fun o => sc (o * 40 + b)) nr (f38 b) n)) tC39 (by omega) (by omega) (by decide) (rg_up_same _ _ _) dX6_leaveOut_112 ?_
                refine rg_aload_n F 1 0 rfl dX6_leaveOut_113 rfl ?_
                refine rg_get F 7 0 tC7 cX6 k_lays_X6 (by decide) k_fl_X6_9 rfl (v := .ref (κ.2.2.2 34)) rfl dX6_leaveOut_114 ?_
                refine rg_iload F 0 4 rfl dX6_leaveOut_117 ?_
                refine rg_stk (st' := [.int (rg_I ((Int.toNat (rg_wst (fun o => rg_cn ins kd en o b) (fun o => sc (o * 40 + b)) (rg_Dt (fun o => rg_cn ins kd en o b) (fun o => sc (o * 40 + b)) nr n) nr) : Nat) : Int)), .ref (κ.2.2.2 34), .int (rg_I (rg_Nt (fun o => rg_cn ins kd en o b) (fun o => sc (o * 40 + b)) nr (f38 b) n)), .int (rg_I ((b : Nat) : Int)), .ref (κ.2.2.2 39)]) (by rw [Int.toNat_of_nonneg (a := (rg_wst (fun o => rg_cn ins kd en o b) (fun o => sc (o * 40 + b)) (rg_Dt (fun o => rg_cn ins kd en o b) (fun o => sc (o * 40 + b)) nr n) nr)) (by have b0 := rg_wst_bd (fun o => rg_cn ins kd en o b) (fun o => sc (o * 40 + b)) (rg_Dt (fun o => rg_cn ins kd en o b) (fun o => sc (o * 40 + b)) nr n) nr; omega)]) ?_
                refine rg_iload_n F 2 1 rfl dX6_leaveOut_119 rfl ?_
                refine rg_callNI F [.int (rg_I ((Int.toNat (rg_wst (fun o => rg_cn ins kd en o b) (fun o => sc (o * 40 + b)) (rg_Dt (fun o => rg_cn ins kd en o b) (fun o => sc (o * 40 + b)) nr n) nr) : Nat) : Int)), .int (rg_I ((b : Nat) : Int))] [.ref (κ.2.2.2 34), .int (rg_I (rg_Nt (fun o => rg_cn ins kd en o b) (fun o => sc (o * 40 + b)) nr (f38 b) n)), .int (rg_I ((b : Nat) : Int)), .ref (κ.2.2.2 39)] (k_X9_cell κ rg_tC (rg_wr (rg_wr (rg_wr σ 35 (rg_up (rg_col f35 nr b (fun _ => True) (rg_Dt (fun o => rg_cn ins kd en o b) (fun o => sc (o * 40 + b)) nr n)) ((Int.toNat (rg_wst (fun o => rg_cn ins kd en o b) (fun o => sc (o * 40 + b)) (rg_Dt (fun o => rg_cn ins kd en o b) (fun o => sc (o * 40 + b)) nr n) nr)) * 40 + b) 1)) 37 (rg_up (rg_up f37 b (rg_Ct (fun o => rg_cn ins kd en o b) (fun o => sc (o * 40 + b)) nr n)) b ((rg_Ct (fun o => rg_cn ins kd en o b) (fun o => sc (o * 40 + b)) nr n) + 1))) 39 (rg_up f39 b (rg_Nt (fun o => rg_cn ins kd en o b) (fun o => sc (o * 40 + b)) nr (f38 b) n))) ((Int.toNat (rg_wst (fun o => rg_cn ins kd en o b) (fun o => sc (o * 40 + b)) (rg_Dt (fun o => rg_cn ins kd en o b) (fun o => sc (o * 40 + b)) nr n) nr))) (b)) v_X9_cell k_st_yX9_cell k_mn_X6_63 ⟨Nat.le_of_ble_eq_true rfl, Nat.le_of_ble_eq_true rfl⟩ rfl (Nat.le_of_ble_eq_true rfl) dX6_leaveOut_120 (rg_ex2 ?_)
                show rg_G κ Γ rg_tC 5 0 0 (120 + 3) [(4, .int (rg_I (rg_wst (fun o => rg_cn ins kd en o b) (fun o => sc (o * 40 + b)) (rg_Dt (fun o => rg_cn ins kd en o b) (fun o => sc (o * 40 + b)) nr n) nr))), (0, .ref (κ.2.2.2 7)), (1, .int (rg_I ((b : Nat) : Int))), (2, .int (rg_I (rg_al sr sl (f36 b) ns))), (3, .int (rg_I ((n : Nat) : Int)))] [.int (rg_I (((Int.toNat (rg_wst (fun o => rg_cn ins kd en o b) (fun o => sc (o * 40 + b)) (rg_Dt (fun o => rg_cn ins kd en o b) (fun o => sc (o * 40 + b)) nr n) nr)) * 40 + b : Nat) : Int)), .ref (κ.2.2.2 34), .int (rg_I (rg_Nt (fun o => rg_cn ins kd en o b) (fun o => sc (o * 40 + b)) nr (f38 b) n)), .int (rg_I ((b : Nat) : Int)), .ref (κ.2.2.2 39)] (rg_wr (rg_wr (rg_wr σ 35 (rg_up (rg_col f35 nr b (fun _ => True) (rg_Dt (fun o => rg_cn ins kd en o b) (fun o => sc (o * 40 + b)) nr n)) ((Int.toNat (rg_wst (fun o => rg_cn ins kd en o b) (fun o => sc (o * 40 + b)) (rg_Dt (fun o => rg_cn ins kd en o b) (fun o => sc (o * 40 + b)) nr n) nr)) * 40 + b) 1)) 37 (rg_up (rg_up f37 b (rg_Ct (fun o => rg_cn ins kd en o b) (fun o => sc (o * 40 + b)) nr n)) b ((rg_Ct (fun o => rg_cn ins kd en o b) (fun o => sc (o * 40 + b)) nr n) + 1))) 39 (rg_up f39 b (rg_Nt (fun o => rg_cn ins kd en o b) (fun o => sc (o * 40 + b)) nr (f38 b) n)))
                refine rg_iald F 34 ((Int.toNat (rg_wst (fun o => rg_cn ins kd en o b) (fun o => sc (o * 40 + b)) (rg_Dt (fun o => rg_cn ins kd en o b) (fun o => sc (o * 40 + b)) nr n) nr)) * 40 + b) (v := (sc ((Int.toNat (rg_wst (fun o => rg_cn ins kd en o b) (fun o => sc (o * 40 + b)) (rg_Dt (fun o => rg_cn ins kd en o b) (fun o => sc (o * 40 + b)) nr n) nr)) * 40 + b))) tC34 (by omega) (by omega) (by decide) (congrFun h34 ((Int.toNat (rg_wst (fun o => rg_cn ins kd en o b) (fun o => sc (o * 40 + b)) (rg_Dt (fun o => rg_cn ins kd en o b) (fun o => sc (o * 40 + b)) nr n) nr)) * 40 + b)) dX6_leaveOut_123 ?_
                refine rg_isub F dX6_leaveOut_124 ?_
                refine rg_iast F 39 b tC39 (by omega) (by omega) (by decide) (f9 := (rg_up f39 b (rg_Nt (fun o => rg_cn ins kd en o b) (fun o => sc (o * 40 + b)) nr (f38 b) n))) rfl (rg_wr (rg_wr (rg_wr σ 35 (rg_up (rg_col f35 nr b (fun _ => True) (rg_Dt (fun o => rg_cn ins kd en o b) (fun o => sc (o * 40 + b)) nr n)) ((Int.toNat (rg_wst (fun o => rg_cn ins kd en o b) (fun o => sc (o * 40 + b)) (rg_Dt (fun o => rg_cn ins kd en o b) (fun o => sc (o * 40 + b)) nr n) nr)) * 40 + b) 1)) 37 (rg_up (rg_up f37 b (rg_Ct (fun o => rg_cn ins kd en o b) (fun o => sc (o * 40 + b)) nr n)) b ((rg_Ct (fun o => rg_cn ins kd en o b) (fun o => sc (o * 40 + b)) nr n) + 1))) 39 (rg_up (rg_up f39 b (rg_Nt (fun o => rg_cn ins kd en o b) (fun o => sc (o * 40 + b)) nr (f38 b) n)) b ((rg_Nt (fun o => rg_cn ins kd en o b) (fun o => sc (o * 40 + b)) nr (f38 b) n) - (sc ((Int.toNat (rg_wst (fun o => rg_cn ins kd en o b) (fun o => sc (o * 40 + b)) (rg_Dt (fun o => rg_cn ins kd en o b) (fun o => sc (o * 40 + b)) nr n) nr)) * 40 + b))))) (rg_wr_wr _ 39 _ _) dX6_leaveOut_125 ?_
                refine rg_iinc F (v := ((n + 1 : Nat) : Int)) 4 [(3, .int (rg_I ((n + 1 : Nat) : Int))), (4, .int (rg_I (rg_wst (fun o => rg_cn ins kd en o b) (fun o => sc (o * 40 + b)) (rg_Dt (fun o => rg_cn ins kd en o b) (fun o => sc (o * 40 + b)) nr n) nr))), (0, .ref (κ.2.2.2 7)), (1, .int (rg_I ((b : Nat) : Int))), (2, .int (rg_I (rg_al sr sl (f36 b) ns)))] dX6_leaveOut_126 rfl (by omega) (by decide) rfl ?_
                refine rg_goto F 65 dX6_leaveOut_129 (by decide) ?_
                refine rg_eq (σ' := (rg_wr (rg_wr (rg_wr σ 35 (rg_col f35 nr b (fun _ => True) (rg_Dt (fun o => rg_cn ins kd en o b) (fun o => sc (o * 40 + b)) nr (n + 1)))) 37 (rg_up f37 b (rg_Ct (fun o => rg_cn ins kd en o b) (fun o => sc (o * 40 + b)) nr (n + 1)))) 39 (rg_up f39 b (rg_Nt (fun o => rg_cn ins kd en o b) (fun o => sc (o * 40 + b)) nr (f38 b) (n + 1))))) (rg_wr_congr (f := (rg_up (rg_up f39 b (rg_Nt (fun o => rg_cn ins kd en o b) (fun o => sc (o * 40 + b)) nr (f38 b) n)) b ((rg_Nt (fun o => rg_cn ins kd en o b) (fun o => sc (o * 40 + b)) nr (f38 b) n) - (sc ((Int.toNat (rg_wst (fun o => rg_cn ins kd en o b) (fun o => sc (o * 40 + b)) (rg_Dt (fun o => rg_cn ins kd en o b) (fun o => sc (o * 40 + b)) nr n) nr)) * 40 + b))))) (g := (rg_up f39 b (rg_Nt (fun o => rg_cn ins kd en o b) (fun o => sc (o * 40 + b)) nr (f38 b) (n + 1)))) 39 (rg_wr_congr (f := (rg_up (rg_up f37 b (rg_Ct (fun o => rg_cn ins kd en o b) (fun o => sc (o * 40 + b)) nr n)) b ((rg_Ct (fun o => rg_cn ins kd en o b) (fun o => sc (o * 40 + b)) nr n) + 1))) (g := (rg_up f37 b (rg_Ct (fun o => rg_cn ins kd en o b) (fun o => sc (o * 40 + b)) nr (n + 1)))) 37 (rg_wr_congr (f := (rg_up (rg_col f35 nr b (fun _ => True) (rg_Dt (fun o => rg_cn ins kd en o b) (fun o => sc (o * 40 + b)) nr n)) ((Int.toNat (rg_wst (fun o => rg_cn ins kd en o b) (fun o => sc (o * 40 + b)) (rg_Dt (fun o => rg_cn ins kd en o b) (fun o => sc (o * 40 + b)) nr n) nr)) * 40 + b) 1)) (g := (rg_col f35 nr b (fun _ => True) (rg_Dt (fun o => rg_cn ins kd en o b) (fun o => sc (o * 40 + b)) nr (n + 1)))) 35 rfl ((rg_col_up _ _ _ hb (by omega)).trans (congrArg _ (rg_Dt_w (by assumption))))) ((rg_up_up _ _ _ _).trans (congrArg _ (rg_Ct_w (by assumption))))) ((rg_up_up _ _ _ _).trans (congrArg _ (rg_Nt_w (by assumption))))) ?_
                refine rg_sub (lv' := [(0, .ref (κ.2.2.2 7)), (1, .int (rg_I ((b : Nat) : Int))), (2, .int (rg_I (rg_al sr sl (f36 b) ns))), (3, .int (rg_I ((n + 1 : Nat) : Int)))]) [2, 3, 4, 0] rfl ?_
                exact ih65 ((Int.toNat (rg_al sr sl (f36 b) ns)) - (n + 1)) (by omega) ((n + 1)) rfl (by omega)
              ·
                exact hR _ _ _ dX6_leaveOut_83 (rg_wr_congr (f := (rg_up f39 b (rg_Nt (fun o => rg_cn ins kd en o b) (fun o => sc (o * 40 + b)) nr (f38 b) n))) (g := (rg_up f39 b (rg_Nt (fun o => rg_cn ins kd en o b) (fun o => sc (o * 40 + b)) nr (f38 b) (Int.toNat (rg_al sr sl (f36 b) ns))))) 39 (rg_wr_congr (f := (rg_up f37 b (rg_Ct (fun o => rg_cn ins kd en o b) (fun o => sc (o * 40 + b)) nr n))) (g := (rg_up f37 b (rg_Ct (fun o => rg_cn ins kd en o b) (fun o => sc (o * 40 + b)) nr (Int.toNat (rg_al sr sl (f36 b) ns))))) 37 (rg_wr_congr (f := (rg_col f35 nr b (fun _ => True) (rg_Dt (fun o => rg_cn ins kd en o b) (fun o => sc (o * 40 + b)) nr n))) (g := (rg_col f35 nr b (fun _ => True) (rg_Dt (fun o => rg_cn ins kd en o b) (fun o => sc (o * 40 + b)) nr (Int.toNat (rg_al sr sl (f36 b) ns))))) 35 rfl (by first | (rw [show n = (Int.toNat (rg_al sr sl (f36 b) ns)) by omega]; done) | (obtain ⟨m, hm9⟩ : ∃ m, (Int.toNat (rg_al sr sl (f36 b) ns)) = n + m := ⟨(Int.toNat (rg_al sr sl (f36 b) ns)) - n, by omega⟩; rw [hm9, rg_Dt_stop (by assumption)]))) (by first | (rw [show n = (Int.toNat (rg_al sr sl (f36 b) ns)) by omega]; done) | (obtain ⟨m, hm9⟩ : ∃ m, (Int.toNat (rg_al sr sl (f36 b) ns)) = n + m := ⟨(Int.toNat (rg_al sr sl (f36 b) ns)) - n, by omega⟩; rw [hm9, rg_Ct_stop (by assumption)]))) (by first | (rw [show n = (Int.toNat (rg_al sr sl (f36 b) ns)) by omega]; done) | (obtain ⟨m, hm9⟩ : ∃ m, (Int.toNat (rg_al sr sl (f36 b) ns)) = n + m := ⟨(Int.toNat (rg_al sr sl (f36 b) ns)) - n, by omega⟩; rw [hm9, rg_Nt_stop (by assumption)])))
        refine rg_eq (σ' := (rg_wr (rg_wr (rg_wr σ 35 (rg_col f35 nr b (fun _ => True) (rg_Dt (fun o => rg_cn ins kd en o b) (fun o => sc (o * 40 + b)) nr 0))) 37 (rg_up f37 b (rg_Ct (fun o => rg_cn ins kd en o b) (fun o => sc (o * 40 + b)) nr 0))) 39 (rg_up f39 b (rg_Nt (fun o => rg_cn ins kd en o b) (fun o => sc (o * 40 + b)) nr (f38 b) 0)))) (rg_wr_congr (f := (rg_up f39 b (f38 b))) (g := (rg_up f39 b (rg_Nt (fun o => rg_cn ins kd en o b) (fun o => sc (o * 40 + b)) nr (f38 b) 0))) 39 (rg_wr_congr (f := (rg_up f37 b 0)) (g := (rg_up f37 b (rg_Ct (fun o => rg_cn ins kd en o b) (fun o => sc (o * 40 + b)) nr 0))) 37 (rg_wr_congr (f := (rg_col f35 r b (fun _ => True) (fun _ => 0))) (g := (rg_col f35 nr b (fun _ => True) (rg_Dt (fun o => rg_cn ins kd en o b) (fun o => sc (o * 40 + b)) nr 0))) 35 rfl (by rw [show r = nr by omega]; rfl)) rfl) rfl) ?_
        refine rg_sub (lv' := [(0, .ref (κ.2.2.2 7)), (1, .int (rg_I ((b : Nat) : Int))), (2, .int (rg_I (rg_al sr sl (f36 b) ns))), (3, .int (rg_I 0))]) [2, 3, 1, 0] rfl ?_
        exact L65 _ (0) rfl (by omega)
      ·
        refine rg_aload_n F 0 0 rfl dX6_leaveOut_13 rfl ?_
        refine rg_get F 7 1 tC7 cX6 k_lays_X6 (by decide) k_fl_X6_15 rfl (v := .ref (κ.2.2.2 35)) rfl dX6_leaveOut_14 ?_
        refine rg_iload_n F 2 2 rfl dX6_leaveOut_17 rfl ?_
        refine rg_iload_n F 1 1 rfl dX6_leaveOut_18 rfl ?_
        refine rg_callNI F [.int (rg_I ((r : Nat) : Int)), .int (rg_I ((b : Nat) : Int))] [.ref (κ.2.2.2 35)] (k_X9_cell κ rg_tC (rg_wr σ 35 (rg_col f35 r b (fun _ => True) (fun _ => 0))) (r) (b)) v_X9_cell k_st_yX9_cell k_mn_X6_63 ⟨Nat.le_of_ble_eq_true rfl, Nat.le_of_ble_eq_true rfl⟩ rfl (Nat.le_of_ble_eq_true rfl) dX6_leaveOut_19 (rg_ex2 ?_)
        show rg_G κ Γ rg_tC 5 0 0 (19 + 3) [(0, .ref (κ.2.2.2 7)), (1, .int (rg_I ((b : Nat) : Int))), (2, .int (rg_I ((r : Nat) : Int)))] [.int (rg_I ((r * 40 + b : Nat) : Int)), .ref (κ.2.2.2 35)] (rg_wr σ 35 (rg_col f35 r b (fun _ => True) (fun _ => 0)))
        refine rg_iconst F dX6_leaveOut_22 ?_
        refine rg_zast F 35 (r * 40 + b) tC35 (by omega) (by omega) (by decide) (Or.inl rfl) (f9 := (rg_col f35 r b (fun _ => True) (fun _ => 0))) rfl (rg_wr σ 35 (rg_up (rg_col f35 r b (fun _ => True) (fun _ => 0)) (r * 40 + b) 0)) (rg_wr_wr _ 35 _ _) dX6_leaveOut_23 ?_
        refine rg_iinc F (v := ((r + 1 : Nat) : Int)) 2 [(2, .int (rg_I ((r + 1 : Nat) : Int))), (0, .ref (κ.2.2.2 7)), (1, .int (rg_I ((b : Nat) : Int)))] dX6_leaveOut_24 rfl (by omega) (by decide) rfl ?_
        refine rg_goto F 2 dX6_leaveOut_27 (by decide) ?_
        refine rg_eq (σ' := (rg_wr σ 35 (rg_col f35 (r + 1) b (fun _ => True) (fun _ => 0)))) (rg_wr_congr (f := (rg_up (rg_col f35 r b (fun _ => True) (fun _ => 0)) (r * 40 + b) 0)) (g := (rg_col f35 (r + 1) b (fun _ => True) (fun _ => 0))) 35 rfl (rg_col_s (p := fun _ => True) _ _ hb trivial rfl)) ?_
        refine rg_sub (lv' := [(0, .ref (κ.2.2.2 7)), (1, .int (rg_I ((b : Nat) : Int))), (2, .int (rg_I ((r + 1 : Nat) : Int)))]) [1, 2, 0] rfl ?_
        exact ih2 (nr - (r + 1)) (by omega) ((r + 1)) rfl (by omega)
  refine rg_eq (σ' := (rg_wr σ 35 (rg_col f35 0 b (fun _ => True) (fun _ => 0)))) (((rg_wr_self (σ := σ) (k := 35) (f := f35) h35).trans rfl).trans (rg_wr_congr (f := f35) (g := (rg_col f35 0 b (fun _ => True) (fun _ => 0))) 35 rfl (rg_col_0 _ _ _ _))) ?_
  refine rg_sub (lv' := [(0, .ref (κ.2.2.2 7)), (1, .int (rg_I ((b : Nat) : Int))), (2, .int (rg_I 0))]) [1, 2, 0] rfl ?_
  exact L2 _ (0) rfl (by omega)
