/-! Contracts of the ranking, 1 (laid by program). -/
set_option maxHeartbeats 400000 in
set_option maxRecDepth 100000 in
/-- insertKept -/
theorem k_X5_insertKept (κ : rg_K) (σ : rg_S) (lo k : Nat) (v : Int) (f40 : Nat → Int) (h40 : σ 40 = f40) (hlk : lo + k < 1440) (hv : rg_Rg v) (hf40 : ∀ j, rg_Rg (f40 j)) : rg_CV κ rg_tC yX5_insertKept cX5_insertKept 5 0 0 [.ref (κ.2.2.2 8), .int (rg_I ((lo : Nat) : Int)), .int (rg_I ((k : Nat) : Int)), .int (rg_I v)] σ (fun σ9 => σ9 = (rg_wr σ 40 (rg_ins lo v k f40))) := by
  refine rg_entV [(0, .ref (κ.2.2.2 8)), (1, .int (rg_I ((lo : Nat) : Int))), (2, .int (rg_I ((k : Nat) : Int))), (3, .int (rg_I v))] rfl (by decide +kernel) (Nat.le_of_ble_eq_true rfl) (fun Γ F hR => ?_)
  refine rg_iload_n F 1 1 rfl dX5_insertKept_0 rfl ?_
  refine rg_iload_n F 2 2 rfl dX5_insertKept_1 rfl ?_
  refine rg_iadd F dX5_insertKept_2 ?_
  refine rg_istore F [(4, .int (rg_I (((lo : Nat) : Int) + ((k : Nat) : Int)))), (0, .ref (κ.2.2.2 8)), (1, .int (rg_I ((lo : Nat) : Int))), (2, .int (rg_I ((k : Nat) : Int))), (3, .int (rg_I v))] dX5_insertKept_3 (by decide) rfl ?_
  have L5 : ∀ (n5 : Nat) (x : Nat) (g1 : Nat → Int), n5 = x - lo → (lo ≤ x ∧ x ≤ lo + k) → (rg_ins lo v (x - lo) g1 = rg_ins lo v k f40) → (∀ j, rg_Rg (g1 j)) → rg_G κ Γ rg_tC 5 0 0 5 [(0, .ref (κ.2.2.2 8)), (1, .int (rg_I ((lo : Nat) : Int))), (2, .int (rg_I ((k : Nat) : Int))), (3, .int (rg_I v)), (4, .int (rg_I ((x : Nat) : Int)))] [] (rg_wr σ 40 g1) := by
    intro n5
    induction n5 using Nat.strongRecOn with
    | _ n5 ih5 =>
      intro x g1 hn5 hx hg hg1
      refine rg_iload F 4 4 rfl dX5_insertKept_5 ?_
      refine rg_iload_n F 1 1 rfl dX5_insertKept_7 rfl ?_
      refine rg_icmp_le F 46 dX5_insertKept_8 (by decide) (by omega) (by omega) (fun c8_1 => ?_) (fun c8_1 => ?_)
      ·
        refine rg_aload_n F 0 0 rfl dX5_insertKept_46 rfl ?_
        refine rg_get F 8 4 tC8 cX5 k_lays_X5 (by decide) k_fl_X5_11 rfl (v := .ref (κ.2.2.2 40)) rfl dX5_insertKept_47 ?_
        refine rg_iload F 4 4 rfl dX5_insertKept_50 ?_
        refine rg_iload_n F 3 3 rfl dX5_insertKept_52 rfl ?_
        refine rg_iast F 40 x tC40 (by omega) (by omega) (by decide) (f9 := g1) rfl (rg_wr σ 40 (rg_up g1 x v)) (rg_wr_wr _ 40 _ _) dX5_insertKept_53 ?_
        exact hR _ _ _ dX5_insertKept_54 (rg_wr_congr (f := (rg_up g1 x v)) (g := (rg_ins lo v k f40)) 40 rfl ((rg_ins_e (by omega) (by omega)).trans hg))
      ·
        refine rg_aload_n F 0 0 rfl dX5_insertKept_11 rfl ?_
        refine rg_get F 8 4 tC8 cX5 k_lays_X5 (by decide) k_fl_X5_11 rfl (v := .ref (κ.2.2.2 40)) rfl dX5_insertKept_12 ?_
        refine rg_iload F 4 4 rfl dX5_insertKept_15 ?_
        refine rg_iconst F dX5_insertKept_17 ?_
        refine rg_isub F dX5_insertKept_18 ?_
        refine rg_iald F 40 (x - 1) (v := (g1 (x - 1))) tC40 (by omega) (by omega) (by decide) rfl dX5_insertKept_19 ?_
        refine rg_iload_n F 3 3 rfl dX5_insertKept_20 rfl ?_
        refine rg_icmp_le F 46 dX5_insertKept_21 (by decide) (by have b0 := hg1 ((x - 1)); omega) (by omega) (fun c21_2 => ?_) (fun c21_2 => ?_)
        ·
          refine rg_aload_n F 0 0 rfl dX5_insertKept_46 rfl ?_
          refine rg_get F 8 4 tC8 cX5 k_lays_X5 (by decide) k_fl_X5_11 rfl (v := .ref (κ.2.2.2 40)) rfl dX5_insertKept_47 ?_
          refine rg_iload F 4 4 rfl dX5_insertKept_50 ?_
          refine rg_iload_n F 3 3 rfl dX5_insertKept_52 rfl ?_
          refine rg_iast F 40 x tC40 (by omega) (by omega) (by decide) (f9 := g1) rfl (rg_wr σ 40 (rg_up g1 x v)) (rg_wr_wr _ 40 _ _) dX5_insertKept_53 ?_
          exact hR _ _ _ dX5_insertKept_54 (rg_wr_congr (f := (rg_up g1 x v)) (g := (rg_ins lo v k f40)) 40 rfl ((rg_ins_e (by omega) (by omega)).trans hg))
        ·
          refine rg_aload_n F 0 0 rfl dX5_insertKept_24 rfl ?_
          refine rg_get F 8 4 tC8 cX5 k_lays_X5 (by decide) k_fl_X5_11 rfl (v := .ref (κ.2.2.2 40)) rfl dX5_insertKept_25 ?_
          refine rg_iload F 4 4 rfl dX5_insertKept_28 ?_
          refine rg_aload_n F 0 0 rfl dX5_insertKept_30 rfl ?_
          refine rg_get F 8 4 tC8 cX5 k_lays_X5 (by decide) k_fl_X5_11 rfl (v := .ref (κ.2.2.2 40)) rfl dX5_insertKept_31 ?_
          refine rg_iload F 4 4 rfl dX5_insertKept_34 ?_
          refine rg_iconst F dX5_insertKept_36 ?_
          refine rg_isub F dX5_insertKept_37 ?_
          refine rg_iald F 40 (x - 1) (v := (g1 (x - 1))) tC40 (by omega) (by omega) (by decide) rfl dX5_insertKept_38 ?_
          refine rg_iast F 40 x tC40 (by omega) (by omega) (by decide) (f9 := g1) rfl (rg_wr σ 40 (rg_up g1 x (g1 (x - 1)))) (rg_wr_wr _ 40 _ _) dX5_insertKept_39 ?_
          refine rg_iinc F (v := ((x - 1 : Nat) : Int)) 4 [(4, .int (rg_I ((x - 1 : Nat) : Int))), (0, .ref (κ.2.2.2 8)), (1, .int (rg_I ((lo : Nat) : Int))), (2, .int (rg_I ((k : Nat) : Int))), (3, .int (rg_I v))] dX5_insertKept_40 rfl (by omega) (by decide) rfl ?_
          refine rg_goto F 5 dX5_insertKept_43 (by decide) ?_
          refine rg_lve (lv' := [(4, .int (rg_I (((x - 1) : Nat) : Int))), (0, .ref (κ.2.2.2 8)), (1, .int (rg_I ((lo : Nat) : Int))), (2, .int (rg_I ((k : Nat) : Int))), (3, .int (rg_I v))]) (congrArg (fun x9 : Int => ([(4, .int (rg_I x9)), (0, .ref (κ.2.2.2 8)), (1, .int (rg_I ((lo : Nat) : Int))), (2, .int (rg_I ((k : Nat) : Int))), (3, .int (rg_I v))] : List (Nat × Value))) (by omega)) ?_
          refine rg_sub (lv' := [(0, .ref (κ.2.2.2 8)), (1, .int (rg_I ((lo : Nat) : Int))), (2, .int (rg_I ((k : Nat) : Int))), (3, .int (rg_I v)), (4, .int (rg_I (((x - 1) : Nat) : Int)))]) [1, 2, 3, 4, 0] rfl ?_
          exact ih5 ((x - 1) - lo) (by omega) ((x - 1)) ((rg_up g1 x (g1 (x - 1)))) rfl (by omega) ((rg_ins_s (by omega) (by assumption)).symm.trans hg) (rg_up_all hg1 _ (hg1 _))
  refine rg_lve (lv' := [(4, .int (rg_I (((lo + k) : Nat) : Int))), (0, .ref (κ.2.2.2 8)), (1, .int (rg_I ((lo : Nat) : Int))), (2, .int (rg_I ((k : Nat) : Int))), (3, .int (rg_I v))]) (congrArg (fun x9 : Int => ([(4, .int (rg_I x9)), (0, .ref (κ.2.2.2 8)), (1, .int (rg_I ((lo : Nat) : Int))), (2, .int (rg_I ((k : Nat) : Int))), (3, .int (rg_I v))] : List (Nat × Value))) (by omega)) ?_
  refine rg_eq (σ' := (rg_wr σ 40 f40)) ((rg_wr_self (σ := σ) (k := 40) (f := f40) h40).trans rfl) ?_
  refine rg_sub (lv' := [(0, .ref (κ.2.2.2 8)), (1, .int (rg_I ((lo : Nat) : Int))), (2, .int (rg_I ((k : Nat) : Int))), (3, .int (rg_I v)), (4, .int (rg_I (((lo + k) : Nat) : Int)))]) [1, 2, 3, 4, 0] rfl ?_
  exact L5 _ ((lo + k)) (f40) rfl (by omega) (by rw [show lo + k - lo = k by omega]) hf40
set_option maxHeartbeats 400000 in
set_option maxRecDepth 100000 in
/-- firstDifference -/
theorem k_X5_firstDifference (κ : rg_K) (σ : rg_S) (a b : Nat) (f40 : Nat → Int) (h40 : σ 40 = f40) (ha : a < 40) (hb : b < 40) (hf40 : ∀ j, rg_Rg (f40 j)) : rg_CI κ rg_tC yX5_firstDifference cX5_firstDifference 4 FieldType.int 0 0 [.ref (κ.2.2.2 8), .int (rg_I ((a : Nat) : Int)), .int (rg_I ((b : Nat) : Int))] σ (fun r9 σ9 => r9 = (((rg_fd (fun i => f40 (a * 36 + i)) (fun i => f40 (b * 36 + i)) 35) : Nat) : Int) ∧ σ9 = σ) := by
  refine rg_entI [(0, .ref (κ.2.2.2 8)), (1, .int (rg_I ((a : Nat) : Int))), (2, .int (rg_I ((b : Nat) : Int)))] rfl (by decide +kernel) (Nat.le_of_ble_eq_true rfl) (by first | exact Or.inl rfl | exact Or.inr rfl) (fun Γ F hR => ?_)
  refine rg_iconst F dX5_firstDifference_0 ?_
  refine rg_istore_n F [(3, .int (rg_I 0)), (0, .ref (κ.2.2.2 8)), (1, .int (rg_I ((a : Nat) : Int))), (2, .int (rg_I ((b : Nat) : Int)))] dX5_firstDifference_1 rfl (by decide) rfl ?_
  have L2 : ∀ (n2 : Nat) (x : Nat), n2 = 35 - x → (x ≤ 35) → (∀ i, i < x → f40 (a * 36 + i) = f40 (b * 36 + i)) → rg_G κ Γ rg_tC 4 0 0 2 [(0, .ref (κ.2.2.2 8)), (1, .int (rg_I ((a : Nat) : Int))), (2, .int (rg_I ((b : Nat) : Int))), (3, .int (rg_I ((x : Nat) : Int)))] [] σ := by
    intro n2
    induction n2 using Nat.strongRecOn with
    | _ n2 ih2 =>
      intro x hn2 hx hall
      refine rg_iload_n F 3 3 rfl dX5_firstDifference_2 rfl ?_
      refine rg_bipush F dX5_firstDifference_3 (by decide +kernel) ?_
      refine rg_icmp_ge F 39 dX5_firstDifference_5 (by decide) (by omega) (by omega) (fun c5_1 => ?_) (fun c5_1 => ?_)
      ·
        refine rg_iload_n F 3 3 rfl dX5_firstDifference_39 rfl ?_
        exact hR _ _ _ _ dX5_firstDifference_40 (fun h => nomatch h) ⟨(congrArg Nat.cast (rg_fd_is (by omega) hall (by first | exact Or.inl (by omega) | exact Or.inr (by assumption)))), rfl⟩
      ·
        refine rg_aload_n F 0 0 rfl dX5_firstDifference_8 rfl ?_
        refine rg_get F 8 4 tC8 cX5 k_lays_X5 (by decide) k_fl_X5_11 rfl (v := .ref (κ.2.2.2 40)) rfl dX5_firstDifference_9 ?_
        refine rg_iload_n F 1 1 rfl dX5_firstDifference_12 rfl ?_
        refine rg_bipush F dX5_firstDifference_13 (by decide +kernel) ?_
        refine rg_imul F dX5_firstDifference_15 ?_
        refine rg_iload_n F 3 3 rfl dX5_firstDifference_16 rfl ?_
        refine rg_iadd F dX5_firstDifference_17 ?_
        refine rg_iald F 40 ((a * 36) + x) (v := (f40 ((a * 36) + x))) tC40 (by omega) (by omega) (by decide) (congrFun h40 ((a * 36) + x)) dX5_firstDifference_18 ?_
        refine rg_aload_n F 0 0 rfl dX5_firstDifference_19 rfl ?_
        refine rg_get F 8 4 tC8 cX5 k_lays_X5 (by decide) k_fl_X5_11 rfl (v := .ref (κ.2.2.2 40)) rfl dX5_firstDifference_20 ?_
        refine rg_iload_n F 2 2 rfl dX5_firstDifference_23 rfl ?_
        refine rg_bipush F dX5_firstDifference_24 (by decide +kernel) ?_
        refine rg_imul F dX5_firstDifference_26 ?_
        refine rg_iload_n F 3 3 rfl dX5_firstDifference_27 rfl ?_
        refine rg_iadd F dX5_firstDifference_28 ?_
        refine rg_iald F 40 ((b * 36) + x) (v := (f40 ((b * 36) + x))) tC40 (by omega) (by omega) (by decide) (congrFun h40 ((b * 36) + x)) dX5_firstDifference_29 ?_
        refine rg_icmp_ne F 39 dX5_firstDifference_30 (by decide) (by have b0 := hf40 (((a * 36) + x)); omega) (by have b0 := hf40 (((b * 36) + x)); omega) (fun c30_2 => ?_) (fun c30_2 => ?_)
        ·
          refine rg_iload_n F 3 3 rfl dX5_firstDifference_39 rfl ?_
          exact hR _ _ _ _ dX5_firstDifference_40 (fun h => nomatch h) ⟨(congrArg Nat.cast (rg_fd_is (by omega) hall (by first | exact Or.inl (by omega) | exact Or.inr (by assumption)))), rfl⟩
        ·
          refine rg_iinc F (v := ((x + 1 : Nat) : Int)) 3 [(3, .int (rg_I ((x + 1 : Nat) : Int))), (0, .ref (κ.2.2.2 8)), (1, .int (rg_I ((a : Nat) : Int))), (2, .int (rg_I ((b : Nat) : Int)))] dX5_firstDifference_33 rfl (by omega) (by decide) rfl ?_
          refine rg_goto F 2 dX5_firstDifference_36 (by decide) ?_
          refine rg_sub (lv' := [(0, .ref (κ.2.2.2 8)), (1, .int (rg_I ((a : Nat) : Int))), (2, .int (rg_I ((b : Nat) : Int))), (3, .int (rg_I ((x + 1 : Nat) : Int)))]) [1, 2, 3, 0] rfl ?_
          exact ih2 (35 - (x + 1)) (by omega) ((x + 1)) rfl (by omega) (fun i hi => by rcases Nat.lt_or_ge i x with z | z; exact hall i z; rw [show i = x by omega]; assumption)
  refine rg_sub (lv' := [(0, .ref (κ.2.2.2 8)), (1, .int (rg_I ((a : Nat) : Int))), (2, .int (rg_I ((b : Nat) : Int))), (3, .int (rg_I 0))]) [1, 2, 3, 0] rfl ?_
  exact L2 _ (0) rfl (by omega) (fun i hi => absurd hi (Nat.not_lt_zero i))
set_option maxHeartbeats 400000 in
set_option maxRecDepth 100000 in
/-- isBefore -/
theorem k_X5_isBefore (κ : rg_K) (σ : rg_S) (a b : Nat) (f40 : Nat → Int) (h40 : σ 40 = f40) (ha : a < 40) (hb : b < 40) (hf40 : ∀ j, rg_Rg (f40 j)) : rg_CI κ rg_tC yX5_isBefore cX5_isBefore 4 FieldType.boolean 1 23 [.ref (κ.2.2.2 8), .int (rg_I ((a : Nat) : Int)), .int (rg_I ((b : Nat) : Int))] σ (fun r9 σ9 => r9 = (rg_b (rg_lt (fun i => f40 (a * 36 + i)) (fun i => f40 (b * 36 + i)))) ∧ σ9 = σ) := by
  have hfd := (rg_fd_spec (fun i => f40 (a * 36 + i)) (fun i => f40 (b * 36 + i)) 35).1
  refine rg_entI [(0, .ref (κ.2.2.2 8)), (1, .int (rg_I ((a : Nat) : Int))), (2, .int (rg_I ((b : Nat) : Int)))] rfl (by decide +kernel) (Nat.le_of_ble_eq_true rfl) (by first | exact Or.inl rfl | exact Or.inr rfl) (fun Γ F hR => ?_)
  refine rg_aload_n F 0 0 rfl dX5_isBefore_0 rfl ?_
  refine rg_iload_n F 1 1 rfl dX5_isBefore_1 rfl ?_
  refine rg_iload_n F 2 2 rfl dX5_isBefore_2 rfl ?_
  refine rg_callVI F [.int (rg_I ((a : Nat) : Int)), .int (rg_I ((b : Nat) : Int))] [] 8 (k_X5_firstDifference κ σ (a) (b) f40 (h40) (by first | assumption | omega) (by first | assumption | omega) (by first | assumption | omega)) tC8 cX5 v_X5_firstDifference i_X5_firstDifference k_ml_X5_57 ⟨Nat.le_of_ble_eq_true rfl, Nat.le_of_ble_eq_true rfl⟩ rfl (Nat.le_of_ble_eq_true rfl) dX5_isBefore_3 (rg_ex2 ?_)
  show rg_G κ Γ rg_tC 4 0 0 (3 + 3) [(0, .ref (κ.2.2.2 8)), (1, .int (rg_I ((a : Nat) : Int))), (2, .int (rg_I ((b : Nat) : Int)))] [.int (rg_I (((rg_fd (fun i => f40 (a * 36 + i)) (fun i => f40 (b * 36 + i)) 35) : Nat) : Int))] σ
  refine rg_istore_n F [(3, .int (rg_I (((rg_fd (fun i => f40 (a * 36 + i)) (fun i => f40 (b * 36 + i)) 35) : Nat) : Int))), (0, .ref (κ.2.2.2 8)), (1, .int (rg_I ((a : Nat) : Int))), (2, .int (rg_I ((b : Nat) : Int)))] dX5_isBefore_6 rfl (by decide) rfl ?_
  refine rg_aload_n F 1 0 rfl dX5_isBefore_7 rfl ?_
  refine rg_get F 8 4 tC8 cX5 k_lays_X5 (by decide) k_fl_X5_11 rfl (v := .ref (κ.2.2.2 40)) rfl dX5_isBefore_8 ?_
  refine rg_iload_n F 2 1 rfl dX5_isBefore_11 rfl ?_
  refine rg_bipush F dX5_isBefore_12 (by decide +kernel) ?_
  refine rg_imul F dX5_isBefore_14 ?_
  refine rg_iload_n F 0 3 rfl dX5_isBefore_15 rfl ?_
  refine rg_iadd F dX5_isBefore_16 ?_
  refine rg_iald F 40 ((a * 36) + ((rg_fd (fun i => f40 (a * 36 + i)) (fun i => f40 (b * 36 + i)) 35))) (v := (f40 ((a * 36) + ((rg_fd (fun i => f40 (a * 36 + i)) (fun i => f40 (b * 36 + i)) 35))))) tC40 (by omega) (by omega) (by decide) (congrFun h40 ((a * 36) + ((rg_fd (fun i => f40 (a * 36 + i)) (fun i => f40 (b * 36 + i)) 35)))) dX5_isBefore_17 ?_
  refine rg_aload_n F 1 0 rfl dX5_isBefore_18 rfl ?_
  refine rg_get F 8 4 tC8 cX5 k_lays_X5 (by decide) k_fl_X5_11 rfl (v := .ref (κ.2.2.2 40)) rfl dX5_isBefore_19 ?_
  refine rg_iload_n F 3 2 rfl dX5_isBefore_22 rfl ?_
  refine rg_bipush F dX5_isBefore_23 (by decide +kernel) ?_
  refine rg_imul F dX5_isBefore_25 ?_
  refine rg_iload_n F 0 3 rfl dX5_isBefore_26 rfl ?_
  refine rg_iadd F dX5_isBefore_27 ?_
  refine rg_iald F 40 ((b * 36) + ((rg_fd (fun i => f40 (a * 36 + i)) (fun i => f40 (b * 36 + i)) 35))) (v := (f40 ((b * 36) + ((rg_fd (fun i => f40 (a * 36 + i)) (fun i => f40 (b * 36 + i)) 35))))) tC40 (by omega) (by omega) (by decide) (congrFun h40 ((b * 36) + ((rg_fd (fun i => f40 (a * 36 + i)) (fun i => f40 (b * 36 + i)) 35)))) dX5_isBefore_28 ?_
  refine rg_icmp_ge F 36 dX5_isBefore_29 (by decide) (by have b0 := hf40 (((a * 36) + ((rg_fd (fun i => f40 (a * 36 + i)) (fun i => f40 (b * 36 + i)) 35)))); omega) (by have b0 := hf40 (((b * 36) + ((rg_fd (fun i => f40 (a * 36 + i)) (fun i => f40 (b * 36 + i)) 35)))); omega) (fun c29_1 => ?_) (fun c29_1 => ?_)
  ·
    refine rg_iconst F dX5_isBefore_36 ?_
    exact hR _ _ _ _ dX5_isBefore_37 (fun _ => Or.inl rfl) ⟨(rg_b_f (fun q => absurd q (Int.not_lt.mpr (by assumption)))).symm, rfl⟩
  ·
    refine rg_iconst F dX5_isBefore_32 ?_
    refine rg_goto F 37 dX5_isBefore_33 (by decide) ?_
    exact hR _ _ _ _ dX5_isBefore_37 (fun _ => Or.inr rfl) ⟨(rg_b_t (by assumption)).symm, rfl⟩
set_option maxHeartbeats 400000 in
set_option maxRecDepth 100000 in
/-- insertInOrder -/
theorem k_X5_insertInOrder (κ : rg_K) (σ : rg_S) (b : Nat) (f40 : Nat → Int) (od : Nat → Int) (h40 : σ 40 = f40) (h41 : σ 41 = od) (hb : b < 40) (hf40 : ∀ j, rg_Rg (f40 j)) (hod : ∀ j, 0 ≤ od j ∧ od j < 40) : rg_CV κ rg_tC yX5_insertInOrder cX5_insertInOrder 3 2 46 [.ref (κ.2.2.2 8), .int (rg_I ((b : Nat) : Int))] σ (fun σ9 => σ9 = (rg_wr σ 41 (rg_ino (fun y => rg_lt (fun i => f40 (b * 36 + i)) (fun i => f40 (Int.toNat y * 36 + i))) ((b : Nat) : Int) b od))) := by
  refine rg_entV [(0, .ref (κ.2.2.2 8)), (1, .int (rg_I ((b : Nat) : Int)))] rfl (by decide +kernel) (Nat.le_of_ble_eq_true rfl) (fun Γ F hR => ?_)
  refine rg_iload_n F 1 1 rfl dX5_insertInOrder_0 rfl ?_
  refine rg_istore_n F [(2, .int (rg_I ((b : Nat) : Int))), (0, .ref (κ.2.2.2 8)), (1, .int (rg_I ((b : Nat) : Int)))] dX5_insertInOrder_1 rfl (by decide) rfl ?_
  have L2 : ∀ (n2 : Nat) (x : Nat) (g1 : Nat → Int), n2 = x → (x ≤ b) → (rg_ino (fun y => rg_lt (fun i => f40 (b * 36 + i)) (fun i => f40 (Int.toNat y * 36 + i))) ((b : Nat) : Int) x g1 = rg_ino (fun y => rg_lt (fun i => f40 (b * 36 + i)) (fun i => f40 (Int.toNat y * 36 + i))) ((b : Nat) : Int) b od) → (∀ j, 0 ≤ g1 j ∧ g1 j < 40) → rg_G κ Γ rg_tC 3 0 0 2 [(0, .ref (κ.2.2.2 8)), (1, .int (rg_I ((b : Nat) : Int))), (2, .int (rg_I ((x : Nat) : Int)))] [] (rg_wr σ 41 g1) := by
    intro n2
    induction n2 using Nat.strongRecOn with
    | _ n2 ih2 =>
      intro x g1 hn2 hx hg hg1
      refine rg_iload_n F 2 2 rfl dX5_insertInOrder_2 rfl ?_
      refine rg_if_le F 42 dX5_insertInOrder_3 (by decide) (by omega) (fun c3_1 => ?_) (fun c3_1 => ?_)
      ·
        refine rg_aload_n F 0 0 rfl dX5_insertInOrder_42 rfl ?_
        refine rg_get F 8 5 tC8 cX5 k_lays_X5 (by decide) k_fl_X5_15 rfl (v := .ref (κ.2.2.2 41)) rfl dX5_insertInOrder_43 ?_
        refine rg_iload_n F 2 2 rfl dX5_insertInOrder_46 rfl ?_
        refine rg_iload_n F 1 1 rfl dX5_insertInOrder_47 rfl ?_
        refine rg_iast F 41 x tC41 (by omega) (by omega) (by decide) (f9 := g1) rfl (rg_wr σ 41 (rg_up g1 x ((b : Nat) : Int))) (rg_wr_wr _ 41 _ _) dX5_insertInOrder_48 ?_
        exact hR _ _ _ dX5_insertInOrder_49 (rg_wr_congr (f := (rg_up g1 x ((b : Nat) : Int))) (g := (rg_ino (fun y => rg_lt (fun i => f40 (b * 36 + i)) (fun i => f40 (Int.toNat y * 36 + i))) ((b : Nat) : Int) b od)) 41 rfl ((rg_ino_e (lt := (fun y => rg_lt (fun i => f40 (b * 36 + i)) (fun i => f40 (Int.toNat y * 36 + i)))) (by first | exact Or.inl (by omega) | exact Or.inr (by assumption))).trans hg))
      ·
        refine rg_aload_n F 0 0 rfl dX5_insertInOrder_6 rfl ?_
        refine rg_iload_n F 1 1 rfl dX5_insertInOrder_7 rfl ?_
        refine rg_aload_n F 0 0 rfl dX5_insertInOrder_8 rfl ?_
        refine rg_get F 8 5 tC8 cX5 k_lays_X5 (by decide) k_fl_X5_15 rfl (v := .ref (κ.2.2.2 41)) rfl dX5_insertInOrder_9 ?_
        refine rg_iload_n F 2 2 rfl dX5_insertInOrder_12 rfl ?_
        refine rg_iconst F dX5_insertInOrder_13 ?_
        refine rg_isub F dX5_insertInOrder_14 ?_
        have hg1x := hg1 (x - 1)
        refine rg_iald F 41 (x - 1) (v := ((Int.toNat (g1 (x - 1)) : Nat) : Int)) tC41 (by omega) (by omega) (by decide) (Eq.trans (b := (g1 (x - 1))) (rfl) (Int.toNat_of_nonneg (a := (g1 (x - 1))) (by omega)).symm) dX5_insertInOrder_15 ?_
        refine rg_callVI F [.int (rg_I ((b : Nat) : Int)), .int (rg_I ((Int.toNat (g1 (x - 1)) : Nat) : Int))] [] 8 (k_X5_isBefore κ (rg_wr σ 41 g1) (b) ((Int.toNat (g1 (x - 1)))) f40 (h40) (by first | assumption | omega) (by first | assumption | omega) (by first | assumption | omega)) tC8 cX5 v_X5_isBefore i_X5_isBefore k_ml_X5_94 ⟨Nat.le_of_ble_eq_true rfl, Nat.le_of_ble_eq_true rfl⟩ rfl (Nat.le_of_ble_eq_true rfl) dX5_insertInOrder_16 (rg_ex2 ?_)
        show rg_G κ Γ rg_tC 3 0 0 (16 + 3) [(0, .ref (κ.2.2.2 8)), (1, .int (rg_I ((b : Nat) : Int))), (2, .int (rg_I ((x : Nat) : Int)))] [.int (rg_I (rg_b (rg_lt (fun i => f40 (b * 36 + i)) (fun i => f40 ((Int.toNat (g1 (x - 1))) * 36 + i)))))] (rg_wr σ 41 g1)
        refine rg_if_eq F 42 dX5_insertInOrder_19 (by decide) (by have b0 := rg_b_Rg (rg_lt (fun i => f40 (b * 36 + i)) (fun i => f40 ((Int.toNat (g1 (x - 1))) * 36 + i))); omega) (fun c19_2 => ?_) (fun c19_2 => ?_)
        ·
          have c19_2 := (rg_b_eq0 _).mp c19_2
          refine rg_aload_n F 0 0 rfl dX5_insertInOrder_42 rfl ?_
          refine rg_get F 8 5 tC8 cX5 k_lays_X5 (by decide) k_fl_X5_15 rfl (v := .ref (κ.2.2.2 41)) rfl dX5_insertInOrder_43 ?_
          refine rg_iload_n F 2 2 rfl dX5_insertInOrder_46 rfl ?_
          refine rg_iload_n F 1 1 rfl dX5_insertInOrder_47 rfl ?_
          refine rg_iast F 41 x tC41 (by omega) (by omega) (by decide) (f9 := g1) rfl (rg_wr σ 41 (rg_up g1 x ((b : Nat) : Int))) (rg_wr_wr _ 41 _ _) dX5_insertInOrder_48 ?_
          exact hR _ _ _ dX5_insertInOrder_49 (rg_wr_congr (f := (rg_up g1 x ((b : Nat) : Int))) (g := (rg_ino (fun y => rg_lt (fun i => f40 (b * 36 + i)) (fun i => f40 (Int.toNat y * 36 + i))) ((b : Nat) : Int) b od)) 41 rfl ((rg_ino_e (lt := (fun y => rg_lt (fun i => f40 (b * 36 + i)) (fun i => f40 (Int.toNat y * 36 + i)))) (by first | exact Or.inl (by omega) | exact Or.inr (by assumption))).trans hg))
        ·
          have c19_2 := (rg_b_ne0 _).mp c19_2
          refine rg_aload_n F 0 0 rfl dX5_insertInOrder_22 rfl ?_
          refine rg_get F 8 5 tC8 cX5 k_lays_X5 (by decide) k_fl_X5_15 rfl (v := .ref (κ.2.2.2 41)) rfl dX5_insertInOrder_23 ?_
          refine rg_iload_n F 2 2 rfl dX5_insertInOrder_26 rfl ?_
          refine rg_aload_n F 0 0 rfl dX5_insertInOrder_27 rfl ?_
          refine rg_get F 8 5 tC8 cX5 k_lays_X5 (by decide) k_fl_X5_15 rfl (v := .ref (κ.2.2.2 41)) rfl dX5_insertInOrder_28 ?_
          refine rg_iload_n F 2 2 rfl dX5_insertInOrder_31 rfl ?_
          refine rg_iconst F dX5_insertInOrder_32 ?_
          refine rg_isub F dX5_insertInOrder_33 ?_
          have hg1x := hg1 (x - 1)
          refine rg_iald F 41 (x - 1) (v := (g1 (x - 1))) tC41 (by omega) (by omega) (by decide) rfl dX5_insertInOrder_34 ?_
          refine rg_iast F 41 x tC41 (by omega) (by omega) (by decide) (f9 := g1) rfl (rg_wr σ 41 (rg_up g1 x (g1 (x - 1)))) (rg_wr_wr _ 41 _ _) dX5_insertInOrder_35 ?_
          refine rg_iinc F (v := ((x - 1 : Nat) : Int)) 2 [(2, .int (rg_I ((x - 1 : Nat) : Int))), (0, .ref (κ.2.2.2 8)), (1, .int (rg_I ((b : Nat) : Int)))] dX5_insertInOrder_36 rfl (by omega) (by decide) rfl ?_
          refine rg_goto F 2 dX5_insertInOrder_39 (by decide) ?_
          refine rg_sub (lv' := [(0, .ref (κ.2.2.2 8)), (1, .int (rg_I ((b : Nat) : Int))), (2, .int (rg_I ((x - 1 : Nat) : Int)))]) [1, 2, 0] rfl ?_
          exact ih2 ((x - 1)) (by omega) ((x - 1)) ((rg_up g1 x (g1 (x - 1)))) rfl (by omega) ((rg_ino_s (lt := (fun y => rg_lt (fun i => f40 (b * 36 + i)) (fun i => f40 (Int.toNat y * 36 + i)))) (by omega) (by assumption)).symm.trans hg) (rg_up_all (P := fun z => 0 ≤ z ∧ z < 40) hg1 _ (hg1 _))
  refine rg_eq (σ' := (rg_wr σ 41 od)) ((rg_wr_self (σ := σ) (k := 41) (f := od) h41).trans rfl) ?_
  refine rg_sub (lv' := [(0, .ref (κ.2.2.2 8)), (1, .int (rg_I ((b : Nat) : Int))), (2, .int (rg_I ((b : Nat) : Int)))]) [1, 2, 0] rfl ?_
  exact L2 _ (b) (od) rfl (by omega) rfl hod
set_option maxHeartbeats 400000 in
set_option maxRecDepth 100000 in
/-- fillRow -/
theorem k_X5_fillRow (κ : rg_K) (σ : rg_S) (b : Nat) (fl : Nat → Int) (lt : Nat → Int) (ins : Nat → Int) (sc : Nat → Int) (dis : Nat → Int) (nt : Nat → Int) (f40 : Nat → Int) (nr : Nat) (h11 : σ 11 = fl) (h12 : σ 12 = lt) (h28 : σ 28 = ins) (h34 : σ 34 = sc) (h35 : σ 35 = dis) (h39 : σ 39 = nt) (h40 : σ 40 = f40) (h2_3 : σ 2 3 = ((nr : Nat) : Int)) (hb : b < 40) (hnr : nr ≤ 16) (h40r : ∀ c, c < 36 → f40 (b * 36 + c) = 1000000) (hf40 : ∀ j, rg_Rg (f40 j)) (hlt : ∀ j, rg_Rg (lt j)) (hfl : ∀ j, rg_Rg (fl j)) (hnt : ∀ j, rg_Rg (nt j)) (hins : ∀ j, rg_Rg (ins j)) (hdis : ∀ j, rg_Rg (dis j)) (hsc : ∀ j, rg_Rg (sc j)) : rg_CV κ rg_tC yX5_fillRow cX5_fillRow 7 1 24 [.ref (κ.2.2.2 8), .int (rg_I ((b : Nat) : Int))] σ (fun σ9 => σ9 = (rg_wr σ 40 (rg_rw f40 b (rg_fw (fun o => ¬ ins (o * 40 + b) = 0) (fun o => dis (o * 40 + b)) (fun o => sc (o * 40 + b)) (rg_g0 (fl b) (nt b) (lt b) ((b : Nat) : Int)) nr nr)))) := by
  refine rg_entV [(0, .ref (κ.2.2.2 8)), (1, .int (rg_I ((b : Nat) : Int)))] rfl (by decide +kernel) (Nat.le_of_ble_eq_true rfl) (fun Γ F hR => ?_)
  refine rg_iload_n F 1 1 rfl dX5_fillRow_0 rfl ?_
  refine rg_bipush F dX5_fillRow_1 (by decide +kernel) ?_
  refine rg_imul F dX5_fillRow_3 ?_
  refine rg_istore_n F [(2, .int (rg_I (((b : Nat) : Int) * 36))), (0, .ref (κ.2.2.2 8)), (1, .int (rg_I ((b : Nat) : Int)))] dX5_fillRow_4 rfl (by decide) rfl ?_
  refine rg_aload_n F 1 0 rfl dX5_fillRow_5 rfl ?_
  refine rg_get F 8 4 tC8 cX5 k_lays_X5 (by decide) k_fl_X5_11 rfl (v := .ref (κ.2.2.2 40)) rfl dX5_fillRow_6 ?_
  refine rg_iload_n F 0 2 rfl dX5_fillRow_9 rfl ?_
  refine rg_iconst F dX5_fillRow_10 ?_
  refine rg_iadd F dX5_fillRow_11 ?_
  refine rg_aload_n F 1 0 rfl dX5_fillRow_12 rfl ?_
  refine rg_get F 8 0 tC8 cX5 k_lays_X5 (by decide) k_fl_X5_21 rfl (v := .ref (κ.2.2.2 1)) rfl dX5_fillRow_13 ?_
  refine rg_get F 1 0 tC1 cX0 k_lays_X0 (by decide) k_fl_X5_61 rfl (v := .ref (κ.2.2.2 11)) rfl dX5_fillRow_16 ?_
  refine rg_iload_n F 2 1 rfl dX5_fillRow_19 rfl ?_
  refine rg_iald F 11 b (v := (fl b)) tC11 (by omega) (by omega) (by decide) (congrFun h11 b) dX5_fillRow_20 ?_
  refine rg_iast F 40 ((b * 36) + 0) tC40 (by omega) (by omega) (by decide) (f9 := f40) h40 (rg_wr σ 40 (rg_up f40 ((b * 36) + 0) (fl b))) rfl dX5_fillRow_21 ?_
  refine rg_aload_n F 1 0 rfl dX5_fillRow_22 rfl ?_
  refine rg_get F 8 4 tC8 cX5 k_lays_X5 (by decide) k_fl_X5_11 rfl (v := .ref (κ.2.2.2 40)) rfl dX5_fillRow_23 ?_
  refine rg_iload_n F 0 2 rfl dX5_fillRow_26 rfl ?_
  refine rg_iconst F dX5_fillRow_27 ?_
  refine rg_iadd F dX5_fillRow_28 ?_
  refine rg_aload_n F 1 0 rfl dX5_fillRow_29 rfl ?_
  refine rg_get F 8 3 tC8 cX5 k_lays_X5 (by decide) k_fl_X5_33 rfl (v := .ref (κ.2.2.2 7)) rfl dX5_fillRow_30 ?_
  refine rg_get F 7 5 tC7 cX6 k_lays_X6 (by decide) k_fl_X5_64 rfl (v := .ref (κ.2.2.2 39)) rfl dX5_fillRow_33 ?_
  refine rg_iload_n F 2 1 rfl dX5_fillRow_36 rfl ?_
  refine rg_iald F 39 b (v := (nt b)) tC39 (by omega) (by omega) (by decide) (congrFun h39 b) dX5_fillRow_37 ?_
  refine rg_iast F 40 ((b * 36) + 1) tC40 (by omega) (by omega) (by decide) (f9 := (rg_up f40 ((b * 36) + 0) (fl b))) rfl (rg_wr σ 40 (rg_up (rg_up f40 ((b * 36) + 0) (fl b)) ((b * 36) + 1) (nt b))) (rg_wr_wr _ 40 _ _) dX5_fillRow_38 ?_
  refine rg_aload_n F 1 0 rfl dX5_fillRow_39 rfl ?_
  refine rg_get F 8 4 tC8 cX5 k_lays_X5 (by decide) k_fl_X5_11 rfl (v := .ref (κ.2.2.2 40)) rfl dX5_fillRow_40 ?_
  refine rg_iload_n F 0 2 rfl dX5_fillRow_43 rfl ?_
  refine rg_bipush F dX5_fillRow_44 (by decide +kernel) ?_
  refine rg_iadd F dX5_fillRow_46 ?_
  refine rg_aload_n F 1 0 rfl dX5_fillRow_47 rfl ?_
  refine rg_get F 8 0 tC8 cX5 k_lays_X5 (by decide) k_fl_X5_21 rfl (v := .ref (κ.2.2.2 1)) rfl dX5_fillRow_48 ?_
  refine rg_get F 1 1 tC1 cX0 k_lays_X0 (by decide) k_fl_X5_69 rfl (v := .ref (κ.2.2.2 12)) rfl dX5_fillRow_51 ?_
  refine rg_iload_n F 2 1 rfl dX5_fillRow_54 rfl ?_
  refine rg_iald F 12 b (v := (lt b)) tC12 (by omega) (by omega) (by decide) (congrFun h12 b) dX5_fillRow_55 ?_
  refine rg_if_ne F 64 dX5_fillRow_56 (by decide) (by have b0 := hlt (b); omega) (fun c56_1 => ?_) (fun c56_1 => ?_)
  ·
    refine rg_aload_n F 1 0 rfl dX5_fillRow_64 rfl ?_
    refine rg_get F 8 0 tC8 cX5 k_lays_X5 (by decide) k_fl_X5_21 rfl (v := .ref (κ.2.2.2 1)) rfl dX5_fillRow_65 ?_
    refine rg_get F 1 1 tC1 cX0 k_lays_X0 (by decide) k_fl_X5_69 rfl (v := .ref (κ.2.2.2 12)) rfl dX5_fillRow_68 ?_
    refine rg_iload_n F 2 1 rfl dX5_fillRow_71 rfl ?_
    refine rg_iald F 12 b (v := (lt b)) tC12 (by omega) (by omega) (by decide) (congrFun h12 b) dX5_fillRow_72 ?_
    refine rg_iast F 40 ((b * 36) + 34) tC40 (by omega) (by omega) (by decide) (f9 := (rg_up (rg_up f40 ((b * 36) + 0) (fl b)) ((b * 36) + 1) (nt b))) rfl (rg_wr σ 40 (rg_up (rg_up (rg_up f40 ((b * 36) + 0) (fl b)) ((b * 36) + 1) (nt b)) ((b * 36) + 34) (lt b))) (rg_wr_wr _ 40 _ _) dX5_fillRow_73 ?_
    refine rg_aload_n F 1 0 rfl dX5_fillRow_74 rfl ?_
    refine rg_get F 8 4 tC8 cX5 k_lays_X5 (by decide) k_fl_X5_11 rfl (v := .ref (κ.2.2.2 40)) rfl dX5_fillRow_75 ?_
    refine rg_iload_n F 0 2 rfl dX5_fillRow_78 rfl ?_
    refine rg_bipush F dX5_fillRow_79 (by decide +kernel) ?_
    refine rg_iadd F dX5_fillRow_81 ?_
    refine rg_iload_n F 2 1 rfl dX5_fillRow_82 rfl ?_
    refine rg_iast F 40 ((b * 36) + 35) tC40 (by omega) (by omega) (by decide) (f9 := (rg_up (rg_up (rg_up f40 ((b * 36) + 0) (fl b)) ((b * 36) + 1) (nt b)) ((b * 36) + 34) (lt b))) rfl (rg_wr σ 40 (rg_up (rg_up (rg_up (rg_up f40 ((b * 36) + 0) (fl b)) ((b * 36) + 1) (nt b)) ((b * 36) + 34) (lt b)) ((b * 36) + 35) ((b : Nat) : Int))) (rg_wr_wr _ 40 _ _) dX5_fillRow_83 ?_
    refine rg_iconst F dX5_fillRow_84 ?_
    refine rg_istore_n F [(3, .int (rg_I 0)), (2, .int (rg_I (((b : Nat) : Int) * 36))), (0, .ref (κ.2.2.2 8)), (1, .int (rg_I ((b : Nat) : Int)))] dX5_fillRow_85 rfl (by decide) rfl ?_
    refine rg_iconst F dX5_fillRow_86 ?_
    refine rg_istore F [(4, .int (rg_I 0)), (3, .int (rg_I 0)), (2, .int (rg_I (((b : Nat) : Int) * 36))), (0, .ref (κ.2.2.2 8)), (1, .int (rg_I ((b : Nat) : Int)))] dX5_fillRow_87 (by decide) rfl ?_
    refine rg_aload_n F 3 0 rfl dX5_fillRow_89 rfl ?_
    refine rg_get F 8 1 tC8 cX5 k_lays_X5 (by decide) k_fl_X5_25 rfl (v := .ref (κ.2.2.2 2)) rfl dX5_fillRow_90 ?_
    refine rg_get F 2 3 tC2 cX4 k_lays_X4 (by decide) k_fl_X5_72 rfl (v := .int (rg_I ((nr : Nat) : Int))) (congrArg (fun x => Value.int (rg_I x)) h2_3) dX5_fillRow_93 ?_
    refine rg_iconst F dX5_fillRow_96 ?_
    refine rg_isub F dX5_fillRow_97 ?_
    refine rg_istore F [(5, .int (rg_I (((nr : Nat) : Int) - 1))), (4, .int (rg_I 0)), (3, .int (rg_I 0)), (2, .int (rg_I (((b : Nat) : Int) * 36))), (0, .ref (κ.2.2.2 8)), (1, .int (rg_I ((b : Nat) : Int)))] dX5_fillRow_98 (by decide) rfl ?_
    have L100 : ∀ (n100 : Nat) (k : Nat) (n : Nat) (m : Nat), n100 = nr - m → (m ≤ nr) → (n = (rg_cnt (fun i => (fun o => ¬ ins (o * 40 + b) = 0) (nr - 1 - i)) m)) → (k = (rg_cnt (fun i => (fun o => ¬ ins (o * 40 + b) = 0) (nr - 1 - i) ∧ (fun o => dis (o * 40 + b)) (nr - 1 - i) = 0) m)) → (n ≤ m) → (k ≤ m) → rg_G κ Γ rg_tC 7 0 0 100 [(0, .ref (κ.2.2.2 8)), (1, .int (rg_I ((b : Nat) : Int))), (2, .int (rg_I (((b : Nat) : Int) * 36))), (3, .int (rg_I ((k : Nat) : Int))), (4, .int (rg_I ((n : Nat) : Int))), (5, .int (rg_I ((((nr : Nat) : Int) - 1) - ((m : Nat) : Int))))] [] (rg_wr σ 40 (rg_rw f40 b (rg_fw (fun o => ¬ ins (o * 40 + b) = 0) (fun o => dis (o * 40 + b)) (fun o => sc (o * 40 + b)) (rg_g0 (fl b) (nt b) (lt b) ((b : Nat) : Int)) nr m))) := by
      intro n100
      induction n100 using Nat.strongRecOn with
      | _ n100 ih100 =>
        intro k n m hn100 hm hn hk hnm hkm
        refine rg_iload F 5 5 rfl dX5_fillRow_100 ?_
        refine rg_if_lt F 191 dX5_fillRow_102 (by decide) (by omega) (fun c102_2 => ?_) (fun c102_2 => ?_)
        ·
          exact hR _ _ _ dX5_fillRow_191 (rg_wr_congr (f := (rg_rw f40 b (rg_fw (fun o => ¬ ins (o * 40 + b) = 0) (fun o => dis (o * 40 + b)) (fun o => sc (o * 40 + b)) (rg_g0 (fl b) (nt b) (lt b) ((b : Nat) : Int)) nr m))) (g := (rg_rw f40 b (rg_fw (fun o => ¬ ins (o * 40 + b) = 0) (fun o => dis (o * 40 + b)) (fun o => sc (o * 40 + b)) (rg_g0 (fl b) (nt b) (lt b) ((b : Nat) : Int)) nr nr))) 40 rfl (by rw [show m = nr by omega]))
        ·
          refine rg_iload F 5 5 rfl dX5_fillRow_105 ?_
          refine rg_stk (st' := [.int (rg_I ((nr - 1 - m : Nat) : Int))]) (congrArg (fun x => Value.int (rg_I x) :: []) (by omega)) ?_
          refine rg_iload_n F 1 1 rfl dX5_fillRow_107 rfl ?_
          refine rg_callNI F [.int (rg_I ((nr - 1 - m : Nat) : Int)), .int (rg_I ((b : Nat) : Int))] [] (k_X9_cell κ rg_tC (rg_wr σ 40 (rg_rw f40 b (rg_fw (fun o => ¬ ins (o * 40 + b) = 0) (fun o => dis (o * 40 + b)) (fun o => sc (o * 40 + b)) (rg_g0 (fl b) (nt b) (lt b) ((b : Nat) : Int)) nr m))) ((nr - 1 - m)) (b)) v_X9_cell k_st_yX9_cell k_mn_X5_75 ⟨Nat.le_of_ble_eq_true rfl, Nat.le_of_ble_eq_true rfl⟩ rfl (Nat.le_of_ble_eq_true rfl) dX5_fillRow_108 (rg_ex2 ?_)
          show rg_G κ Γ rg_tC 7 0 0 (108 + 3) [(0, .ref (κ.2.2.2 8)), (1, .int (rg_I ((b : Nat) : Int))), (2, .int (rg_I (((b : Nat) : Int) * 36))), (3, .int (rg_I ((k : Nat) : Int))), (4, .int (rg_I ((n : Nat) : Int))), (5, .int (rg_I ((((nr : Nat) : Int) - 1) - ((m : Nat) : Int))))] [.int (rg_I (((nr - 1 - m) * 40 + b : Nat) : Int))] (rg_wr σ 40 (rg_rw f40 b (rg_fw (fun o => ¬ ins (o * 40 + b) = 0) (fun o => dis (o * 40 + b)) (fun o => sc (o * 40 + b)) (rg_g0 (fl b) (nt b) (lt b) ((b : Nat) : Int)) nr m)))
          refine rg_istore F [(6, .int (rg_I (((nr - 1 - m) * 40 + b : Nat) : Int))), (0, .ref (κ.2.2.2 8)), (1, .int (rg_I ((b : Nat) : Int))), (2, .int (rg_I (((b : Nat) : Int) * 36))), (3, .int (rg_I ((k : Nat) : Int))), (4, .int (rg_I ((n : Nat) : Int))), (5, .int (rg_I ((((nr : Nat) : Int) - 1) - ((m : Nat) : Int))))] dX5_fillRow_111 (by decide) rfl ?_
          refine rg_aload_n F 1 0 rfl dX5_fillRow_113 rfl ?_
          refine rg_get F 8 2 tC8 cX5 k_lays_X5 (by decide) k_fl_X5_29 rfl (v := .ref (κ.2.2.2 6)) rfl dX5_fillRow_114 ?_
          refine rg_get F 6 1 tC6 cX3 k_lays_X3 (by decide) k_fl_X5_78 rfl (v := .ref (κ.2.2.2 28)) rfl dX5_fillRow_117 ?_
          refine rg_iload F 0 6 rfl dX5_fillRow_120 ?_
          refine rg_zald F 28 ((nr - 1 - m) * 40 + b) (v := (ins ((nr - 1 - m) * 40 + b))) tC28 (by omega) (by omega) (by decide) (congrFun h28 ((nr - 1 - m) * 40 + b)) dX5_fillRow_122 ?_
          refine rg_if_eq F 185 dX5_fillRow_123 (by decide) (by have b0 := hins (((nr - 1 - m) * 40 + b)); omega) (fun c123_3 => ?_) (fun c123_3 => ?_)
          ·
            refine rg_iinc F (v := (((((nr : Nat) : Int) - 1) - ((m : Nat) : Int)) - 1)) 6 [(5, .int (rg_I (((((nr : Nat) : Int) - 1) - ((m : Nat) : Int)) - 1))), (6, .int (rg_I (((nr - 1 - m) * 40 + b : Nat) : Int))), (0, .ref (κ.2.2.2 8)), (1, .int (rg_I ((b : Nat) : Int))), (2, .int (rg_I (((b : Nat) : Int) * 36))), (3, .int (rg_I ((k : Nat) : Int))), (4, .int (rg_I ((n : Nat) : Int)))] dX5_fillRow_185 rfl (by omega) (by decide) rfl ?_
            refine rg_goto F 100 dX5_fillRow_188 (by decide) ?_
            refine rg_lve (lv' := [(5, .int (rg_I ((((nr : Nat) : Int) - 1) - (((m + 1) : Nat) : Int)))), (6, .int (rg_I (((nr - 1 - m) * 40 + b : Nat) : Int))), (0, .ref (κ.2.2.2 8)), (1, .int (rg_I ((b : Nat) : Int))), (2, .int (rg_I (((b : Nat) : Int) * 36))), (3, .int (rg_I ((k : Nat) : Int))), (4, .int (rg_I ((n : Nat) : Int)))]) (congrArg (fun x9 : Int => ([(5, .int (rg_I x9)), (6, .int (rg_I (((nr - 1 - m) * 40 + b : Nat) : Int))), (0, .ref (κ.2.2.2 8)), (1, .int (rg_I ((b : Nat) : Int))), (2, .int (rg_I (((b : Nat) : Int) * 36))), (3, .int (rg_I ((k : Nat) : Int))), (4, .int (rg_I ((n : Nat) : Int)))] : List (Nat × Value))) (by omega)) ?_
            refine rg_eq (σ' := (rg_wr σ 40 (rg_rw f40 b (rg_fw (fun o => ¬ ins (o * 40 + b) = 0) (fun o => dis (o * 40 + b)) (fun o => sc (o * 40 + b)) (rg_g0 (fl b) (nt b) (lt b) ((b : Nat) : Int)) nr (m + 1))))) (rg_wr_congr (f := (rg_rw f40 b (rg_fw (fun o => ¬ ins (o * 40 + b) = 0) (fun o => dis (o * 40 + b)) (fun o => sc (o * 40 + b)) (rg_g0 (fl b) (nt b) (lt b) ((b : Nat) : Int)) nr m))) (g := (rg_rw f40 b (rg_fw (fun o => ¬ ins (o * 40 + b) = 0) (fun o => dis (o * 40 + b)) (fun o => sc (o * 40 + b)) (rg_g0 (fl b) (nt b) (lt b) ((b : Nat) : Int)) nr (m + 1)))) 40 rfl (by first | exact rg_fw_3 (p := (fun o => ¬ ins (o * 40 + b) = 0)) (d := (fun o => dis (o * 40 + b))) (S := (fun o => sc (o * 40 + b))) (n := n) (k := k) (by assumption) (by assumption) hn hk (by omega) (by omega) (by omega) rfl rfl | exact rg_fw_2 (p := (fun o => ¬ ins (o * 40 + b) = 0)) (d := (fun o => dis (o * 40 + b))) (S := (fun o => sc (o * 40 + b))) (n := n) (by assumption) (by assumption) hn (by omega) (by omega) rfl | exact rg_fw_1 (p := (fun o => ¬ ins (o * 40 + b) = 0)) (fun z => z (by assumption)))) ?_
            refine rg_sub (lv' := [(0, .ref (κ.2.2.2 8)), (1, .int (rg_I ((b : Nat) : Int))), (2, .int (rg_I (((b : Nat) : Int) * 36))), (3, .int (rg_I ((k : Nat) : Int))), (4, .int (rg_I ((n : Nat) : Int))), (5, .int (rg_I ((((nr : Nat) : Int) - 1) - (((m + 1) : Nat) : Int))))]) [2, 3, 4, 5, 6, 0] rfl ?_
            exact ih100 (nr - (m + 1)) (by omega) (k) (n) ((m + 1)) rfl (by omega) (by first | (rw [rg_cnt_t (p := fun i => (fun o => ¬ ins (o * 40 + b) = 0) (nr - 1 - i)) (by assumption)]; omega) | (rw [rg_cnt_f (p := fun i => (fun o => ¬ ins (o * 40 + b) = 0) (nr - 1 - i)) (fun z => z (by assumption))]; omega)) (by first | (rw [rg_cnt_t (p := fun i => (fun o => ¬ ins (o * 40 + b) = 0) (nr - 1 - i) ∧ (fun o => dis (o * 40 + b)) (nr - 1 - i) = 0) ⟨by assumption, by assumption⟩]; omega) | (rw [rg_cnt_f (p := fun i => (fun o => ¬ ins (o * 40 + b) = 0) (nr - 1 - i) ∧ (fun o => dis (o * 40 + b)) (nr - 1 - i) = 0) (fun z => absurd z.2 (by assumption))]; omega) | (rw [rg_cnt_f (p := fun i => (fun o => ¬ ins (o * 40 + b) = 0) (nr - 1 - i) ∧ (fun o => dis (o * 40 + b)) (nr - 1 - i) = 0) (fun z => z.1 (by assumption))]; omega)) (by omega) (by omega)
          ·
            refine rg_aload_n F 1 0 rfl dX5_fillRow_126 rfl ?_
            refine rg_get F 8 4 tC8 cX5 k_lays_X5 (by decide) k_fl_X5_11 rfl (v := .ref (κ.2.2.2 40)) rfl dX5_fillRow_127 ?_
            refine rg_iload_n F 3 2 rfl dX5_fillRow_130 rfl ?_
            refine rg_bipush F dX5_fillRow_131 (by decide +kernel) ?_
            refine rg_iadd F dX5_fillRow_133 ?_
            refine rg_iload F 5 4 rfl dX5_fillRow_134 ?_
            refine rg_iadd F dX5_fillRow_136 ?_
            refine rg_aload_n F 1 0 rfl dX5_fillRow_137 rfl ?_
            refine rg_get F 8 3 tC8 cX5 k_lays_X5 (by decide) k_fl_X5_33 rfl (v := .ref (κ.2.2.2 7)) rfl dX5_fillRow_138 ?_
            refine rg_get F 7 0 tC7 cX6 k_lays_X6 (by decide) k_fl_X5_84 rfl (v := .ref (κ.2.2.2 34)) rfl dX5_fillRow_141 ?_
            refine rg_iload F 0 6 rfl dX5_fillRow_144 ?_
            refine rg_iald F 34 ((nr - 1 - m) * 40 + b) (v := (sc ((nr - 1 - m) * 40 + b))) tC34 (by omega) (by omega) (by decide) (congrFun h34 ((nr - 1 - m) * 40 + b)) dX5_fillRow_146 ?_
            refine rg_iast F 40 (((b * 36) + 18) + n) tC40 (by omega) (by omega) (by decide) (f9 := (rg_rw f40 b (rg_fw (fun o => ¬ ins (o * 40 + b) = 0) (fun o => dis (o * 40 + b)) (fun o => sc (o * 40 + b)) (rg_g0 (fl b) (nt b) (lt b) ((b : Nat) : Int)) nr m))) rfl (rg_wr σ 40 (rg_up (rg_rw f40 b (rg_fw (fun o => ¬ ins (o * 40 + b) = 0) (fun o => dis (o * 40 + b)) (fun o => sc (o * 40 + b)) (rg_g0 (fl b) (nt b) (lt b) ((b : Nat) : Int)) nr m)) (((b * 36) + 18) + n) (sc ((nr - 1 - m) * 40 + b)))) (rg_wr_wr _ 40 _ _) dX5_fillRow_147 ?_
            refine rg_iinc F (v := ((n + 1 : Nat) : Int)) 5 [(4, .int (rg_I ((n + 1 : Nat) : Int))), (6, .int (rg_I (((nr - 1 - m) * 40 + b : Nat) : Int))), (0, .ref (κ.2.2.2 8)), (1, .int (rg_I ((b : Nat) : Int))), (2, .int (rg_I (((b : Nat) : Int) * 36))), (3, .int (rg_I ((k : Nat) : Int))), (5, .int (rg_I ((((nr : Nat) : Int) - 1) - ((m : Nat) : Int))))] dX5_fillRow_148 rfl (by omega) (by decide) rfl ?_
            refine rg_aload_n F 2 0 rfl dX5_fillRow_151 rfl ?_
            refine rg_get F 8 3 tC8 cX5 k_lays_X5 (by decide) k_fl_X5_33 rfl (v := .ref (κ.2.2.2 7)) rfl dX5_fillRow_152 ?_
            refine rg_get F 7 1 tC7 cX6 k_lays_X6 (by decide) k_fl_X5_87 rfl (v := .ref (κ.2.2.2 35)) rfl dX5_fillRow_155 ?_
            refine rg_iload F 1 6 rfl dX5_fillRow_158 ?_
            refine rg_zald F 35 ((nr - 1 - m) * 40 + b) (v := (dis ((nr - 1 - m) * 40 + b))) tC35 (by omega) (by omega) (by decide) (congrFun h35 ((nr - 1 - m) * 40 + b)) dX5_fillRow_160 ?_
            refine rg_if_ne F 185 dX5_fillRow_161 (by decide) (by have b0 := hdis (((nr - 1 - m) * 40 + b)); omega) (fun c161_4 => ?_) (fun c161_4 => ?_)
            ·
              refine rg_iinc F (v := (((((nr : Nat) : Int) - 1) - ((m : Nat) : Int)) - 1)) 6 [(5, .int (rg_I (((((nr : Nat) : Int) - 1) - ((m : Nat) : Int)) - 1))), (4, .int (rg_I ((n + 1 : Nat) : Int))), (6, .int (rg_I (((nr - 1 - m) * 40 + b : Nat) : Int))), (0, .ref (κ.2.2.2 8)), (1, .int (rg_I ((b : Nat) : Int))), (2, .int (rg_I (((b : Nat) : Int) * 36))), (3, .int (rg_I ((k : Nat) : Int)))] dX5_fillRow_185 rfl (by omega) (by decide) rfl ?_
              refine rg_goto F 100 dX5_fillRow_188 (by decide) ?_
              refine rg_lve (lv' := [(5, .int (rg_I ((((nr : Nat) : Int) - 1) - (((m + 1) : Nat) : Int)))), (4, .int (rg_I ((n + 1 : Nat) : Int))), (6, .int (rg_I (((nr - 1 - m) * 40 + b : Nat) : Int))), (0, .ref (κ.2.2.2 8)), (1, .int (rg_I ((b : Nat) : Int))), (2, .int (rg_I (((b : Nat) : Int) * 36))), (3, .int (rg_I ((k : Nat) : Int)))]) (congrArg (fun x9 : Int => ([(5, .int (rg_I x9)), (4, .int (rg_I ((n + 1 : Nat) : Int))), (6, .int (rg_I (((nr - 1 - m) * 40 + b : Nat) : Int))), (0, .ref (κ.2.2.2 8)), (1, .int (rg_I ((b : Nat) : Int))), (2, .int (rg_I (((b : Nat) : Int) * 36))), (3, .int (rg_I ((k : Nat) : Int)))] : List (Nat × Value))) (by omega)) ?_
              refine rg_eq (σ' := (rg_wr σ 40 (rg_rw f40 b (rg_fw (fun o => ¬ ins (o * 40 + b) = 0) (fun o => dis (o * 40 + b)) (fun o => sc (o * 40 + b)) (rg_g0 (fl b) (nt b) (lt b) ((b : Nat) : Int)) nr (m + 1))))) (rg_wr_congr (f := (rg_up (rg_rw f40 b (rg_fw (fun o => ¬ ins (o * 40 + b) = 0) (fun o => dis (o * 40 + b)) (fun o => sc (o * 40 + b)) (rg_g0 (fl b) (nt b) (lt b) ((b : Nat) : Int)) nr m)) (((b * 36) + 18) + n) (sc ((nr - 1 - m) * 40 + b)))) (g := (rg_rw f40 b (rg_fw (fun o => ¬ ins (o * 40 + b) = 0) (fun o => dis (o * 40 + b)) (fun o => sc (o * 40 + b)) (rg_g0 (fl b) (nt b) (lt b) ((b : Nat) : Int)) nr (m + 1)))) 40 rfl (by first | exact rg_fw_3 (p := (fun o => ¬ ins (o * 40 + b) = 0)) (d := (fun o => dis (o * 40 + b))) (S := (fun o => sc (o * 40 + b))) (n := n) (k := k) (by assumption) (by assumption) hn hk (by omega) (by omega) (by omega) rfl rfl | exact rg_fw_2 (p := (fun o => ¬ ins (o * 40 + b) = 0)) (d := (fun o => dis (o * 40 + b))) (S := (fun o => sc (o * 40 + b))) (n := n) (by assumption) (by assumption) hn (by omega) (by omega) rfl | exact rg_fw_1 (p := (fun o => ¬ ins (o * 40 + b) = 0)) (fun z => z (by assumption)))) ?_
              refine rg_sub (lv' := [(0, .ref (κ.2.2.2 8)), (1, .int (rg_I ((b : Nat) : Int))), (2, .int (rg_I (((b : Nat) : Int) * 36))), (3, .int (rg_I ((k : Nat) : Int))), (4, .int (rg_I ((n + 1 : Nat) : Int))), (5, .int (rg_I ((((nr : Nat) : Int) - 1) - (((m + 1) : Nat) : Int))))]) [3, 4, 5, 6, 1, 0] rfl ?_
              exact ih100 (nr - (m + 1)) (by omega) (k) ((n + 1)) ((m + 1)) rfl (by omega) (by first | (rw [rg_cnt_t (p := fun i => (fun o => ¬ ins (o * 40 + b) = 0) (nr - 1 - i)) (by assumption)]; omega) | (rw [rg_cnt_f (p := fun i => (fun o => ¬ ins (o * 40 + b) = 0) (nr - 1 - i)) (fun z => z (by assumption))]; omega)) (by first | (rw [rg_cnt_t (p := fun i => (fun o => ¬ ins (o * 40 + b) = 0) (nr - 1 - i) ∧ (fun o => dis (o * 40 + b)) (nr - 1 - i) = 0) ⟨by assumption, by assumption⟩]; omega) | (rw [rg_cnt_f (p := fun i => (fun o => ¬ ins (o * 40 + b) = 0) (nr - 1 - i) ∧ (fun o => dis (o * 40 + b)) (nr - 1 - i) = 0) (fun z => absurd z.2 (by assumption))]; omega) | (rw [rg_cnt_f (p := fun i => (fun o => ¬ ins (o * 40 + b) = 0) (nr - 1 - i) ∧ (fun o => dis (o * 40 + b)) (nr - 1 - i) = 0) (fun z => z.1 (by assumption))]; omega)) (by omega) (by omega)
            ·
              refine rg_aload_n F 2 0 rfl dX5_fillRow_164 rfl ?_
              refine rg_iload_n F 4 2 rfl dX5_fillRow_165 rfl ?_
              refine rg_iconst F dX5_fillRow_166 ?_
              refine rg_iadd F dX5_fillRow_167 ?_
              refine rg_iload_n F 5 3 rfl dX5_fillRow_168 rfl ?_
              refine rg_aload_n F 2 0 rfl dX5_fillRow_169 rfl ?_
              refine rg_get F 8 3 tC8 cX5 k_lays_X5 (by decide) k_fl_X5_33 rfl (v := .ref (κ.2.2.2 7)) rfl dX5_fillRow_170 ?_
              refine rg_get F 7 0 tC7 cX6 k_lays_X6 (by decide) k_fl_X5_84 rfl (v := .ref (κ.2.2.2 34)) rfl dX5_fillRow_173 ?_
              refine rg_iload F 1 6 rfl dX5_fillRow_176 ?_
              refine rg_iald F 34 ((nr - 1 - m) * 40 + b) (v := (sc ((nr - 1 - m) * 40 + b))) tC34 (by omega) (by omega) (by decide) (congrFun h34 ((nr - 1 - m) * 40 + b)) dX5_fillRow_178 ?_
              refine rg_stk (st' := [.int (rg_I (sc ((nr - 1 - m) * 40 + b))), .int (rg_I ((k : Nat) : Int)), .int (rg_I ((((b * 36) + 2) : Nat) : Int)), .ref (κ.2.2.2 8)]) (congrArg (fun x9 : Int => ([.int (rg_I (sc ((nr - 1 - m) * 40 + b))), .int (rg_I ((k : Nat) : Int)), .int (rg_I x9), .ref (κ.2.2.2 8)] : List Value)) (by omega)) ?_
              refine rg_callVV F [.int (rg_I ((((b * 36) + 2) : Nat) : Int)), .int (rg_I ((k : Nat) : Int)), .int (rg_I (sc ((nr - 1 - m) * 40 + b)))] [] 8 (k_X5_insertKept κ (rg_wr σ 40 (rg_up (rg_rw f40 b (rg_fw (fun o => ¬ ins (o * 40 + b) = 0) (fun o => dis (o * 40 + b)) (fun o => sc (o * 40 + b)) (rg_g0 (fl b) (nt b) (lt b) ((b : Nat) : Int)) nr m)) (((b * 36) + 18) + n) (sc ((nr - 1 - m) * 40 + b)))) ((((b * 36) + 2))) (k) ((sc ((nr - 1 - m) * 40 + b))) (rg_up (rg_rw f40 b (rg_fw (fun o => ¬ ins (o * 40 + b) = 0) (fun o => dis (o * 40 + b)) (fun o => sc (o * 40 + b)) (rg_g0 (fl b) (nt b) (lt b) ((b : Nat) : Int)) nr m)) (((b * 36) + 18) + n) (sc ((nr - 1 - m) * 40 + b))) rfl (by omega) (hsc _) (rg_up_all (rg_rw_Rg hf40 (rg_fw_Rg (rg_g0_Rg (hfl _) (hnt _) (hlt _) (by omega)) (fun _ => hsc _) _ _)) _ (hsc _))) tC8 cX5 v_X5_insertKept i_X5_insertKept k_ml_X5_90 ⟨Nat.le_of_ble_eq_true rfl, Nat.le_of_ble_eq_true rfl⟩ rfl (Nat.le_of_ble_eq_true rfl) dX5_fillRow_179 (rg_ex1 ?_)
              refine rg_eq (σ' := (rg_wr σ 40 (rg_ins (((b * 36) + 2)) (sc ((nr - 1 - m) * 40 + b)) k (rg_up (rg_rw f40 b (rg_fw (fun o => ¬ ins (o * 40 + b) = 0) (fun o => dis (o * 40 + b)) (fun o => sc (o * 40 + b)) (rg_g0 (fl b) (nt b) (lt b) ((b : Nat) : Int)) nr m)) (((b * 36) + 18) + n) (sc ((nr - 1 - m) * 40 + b)))))) (rg_wr_wr _ 40 _ _) ?_
              refine rg_iinc F (v := ((k + 1 : Nat) : Int)) 5 [(3, .int (rg_I ((k + 1 : Nat) : Int))), (4, .int (rg_I ((n + 1 : Nat) : Int))), (6, .int (rg_I (((nr - 1 - m) * 40 + b : Nat) : Int))), (0, .ref (κ.2.2.2 8)), (1, .int (rg_I ((b : Nat) : Int))), (2, .int (rg_I (((b : Nat) : Int) * 36))), (5, .int (rg_I ((((nr : Nat) : Int) - 1) - ((m : Nat) : Int))))] dX5_fillRow_182 rfl (by omega) (by decide) rfl ?_
              refine rg_iinc F (v := (((((nr : Nat) : Int) - 1) - ((m : Nat) : Int)) - 1)) 6 [(5, .int (rg_I (((((nr : Nat) : Int) - 1) - ((m : Nat) : Int)) - 1))), (3, .int (rg_I ((k + 1 : Nat) : Int))), (4, .int (rg_I ((n + 1 : Nat) : Int))), (6, .int (rg_I (((nr - 1 - m) * 40 + b : Nat) : Int))), (0, .ref (κ.2.2.2 8)), (1, .int (rg_I ((b : Nat) : Int))), (2, .int (rg_I (((b : Nat) : Int) * 36)))] dX5_fillRow_185 rfl (by omega) (by decide) rfl ?_
              refine rg_goto F 100 dX5_fillRow_188 (by decide) ?_
              refine rg_lve (lv' := [(5, .int (rg_I ((((nr : Nat) : Int) - 1) - (((m + 1) : Nat) : Int)))), (3, .int (rg_I ((k + 1 : Nat) : Int))), (4, .int (rg_I ((n + 1 : Nat) : Int))), (6, .int (rg_I (((nr - 1 - m) * 40 + b : Nat) : Int))), (0, .ref (κ.2.2.2 8)), (1, .int (rg_I ((b : Nat) : Int))), (2, .int (rg_I (((b : Nat) : Int) * 36)))]) (congrArg (fun x9 : Int => ([(5, .int (rg_I x9)), (3, .int (rg_I ((k + 1 : Nat) : Int))), (4, .int (rg_I ((n + 1 : Nat) : Int))), (6, .int (rg_I (((nr - 1 - m) * 40 + b : Nat) : Int))), (0, .ref (κ.2.2.2 8)), (1, .int (rg_I ((b : Nat) : Int))), (2, .int (rg_I (((b : Nat) : Int) * 36)))] : List (Nat × Value))) (by omega)) ?_
              refine rg_eq (σ' := (rg_wr σ 40 (rg_rw f40 b (rg_fw (fun o => ¬ ins (o * 40 + b) = 0) (fun o => dis (o * 40 + b)) (fun o => sc (o * 40 + b)) (rg_g0 (fl b) (nt b) (lt b) ((b : Nat) : Int)) nr (m + 1))))) (rg_wr_congr (f := (rg_ins (((b * 36) + 2)) (sc ((nr - 1 - m) * 40 + b)) k (rg_up (rg_rw f40 b (rg_fw (fun o => ¬ ins (o * 40 + b) = 0) (fun o => dis (o * 40 + b)) (fun o => sc (o * 40 + b)) (rg_g0 (fl b) (nt b) (lt b) ((b : Nat) : Int)) nr m)) (((b * 36) + 18) + n) (sc ((nr - 1 - m) * 40 + b))))) (g := (rg_rw f40 b (rg_fw (fun o => ¬ ins (o * 40 + b) = 0) (fun o => dis (o * 40 + b)) (fun o => sc (o * 40 + b)) (rg_g0 (fl b) (nt b) (lt b) ((b : Nat) : Int)) nr (m + 1)))) 40 rfl (by first | exact rg_fw_3 (p := (fun o => ¬ ins (o * 40 + b) = 0)) (d := (fun o => dis (o * 40 + b))) (S := (fun o => sc (o * 40 + b))) (n := n) (k := k) (by assumption) (by assumption) hn hk (by omega) (by omega) (by omega) rfl rfl | exact rg_fw_2 (p := (fun o => ¬ ins (o * 40 + b) = 0)) (d := (fun o => dis (o * 40 + b))) (S := (fun o => sc (o * 40 + b))) (n := n) (by assumption) (by assumption) hn (by omega) (by omega) rfl | exact rg_fw_1 (p := (fun o => ¬ ins (o * 40 + b) = 0)) (fun z => z (by assumption)))) ?_
              refine rg_sub (lv' := [(0, .ref (κ.2.2.2 8)), (1, .int (rg_I ((b : Nat) : Int))), (2, .int (rg_I (((b : Nat) : Int) * 36))), (3, .int (rg_I ((k + 1 : Nat) : Int))), (4, .int (rg_I ((n + 1 : Nat) : Int))), (5, .int (rg_I ((((nr : Nat) : Int) - 1) - (((m + 1) : Nat) : Int))))]) [4, 5, 6, 1, 2, 0] rfl ?_
              exact ih100 (nr - (m + 1)) (by omega) ((k + 1)) ((n + 1)) ((m + 1)) rfl (by omega) (by first | (rw [rg_cnt_t (p := fun i => (fun o => ¬ ins (o * 40 + b) = 0) (nr - 1 - i)) (by assumption)]; omega) | (rw [rg_cnt_f (p := fun i => (fun o => ¬ ins (o * 40 + b) = 0) (nr - 1 - i)) (fun z => z (by assumption))]; omega)) (by first | (rw [rg_cnt_t (p := fun i => (fun o => ¬ ins (o * 40 + b) = 0) (nr - 1 - i) ∧ (fun o => dis (o * 40 + b)) (nr - 1 - i) = 0) ⟨by assumption, by assumption⟩]; omega) | (rw [rg_cnt_f (p := fun i => (fun o => ¬ ins (o * 40 + b) = 0) (nr - 1 - i) ∧ (fun o => dis (o * 40 + b)) (nr - 1 - i) = 0) (fun z => absurd z.2 (by assumption))]; omega) | (rw [rg_cnt_f (p := fun i => (fun o => ¬ ins (o * 40 + b) = 0) (nr - 1 - i) ∧ (fun o => dis (o * 40 + b)) (nr - 1 - i) = 0) (fun z => z.1 (by assumption))]; omega)) (by omega) (by omega)
    refine rg_lve (lv' := [(5, .int (rg_I ((((nr : Nat) : Int) - 1) - ((0 : Nat) : Int)))), (4, .int (rg_I 0)), (3, .int (rg_I 0)), (2, .int (rg_I (((b : Nat) : Int) * 36))), (0, .ref (κ.2.2.2 8)), (1, .int (rg_I ((b : Nat) : Int)))]) (congrArg (fun x9 : Int => ([(5, .int (rg_I x9)), (4, .int (rg_I 0)), (3, .int (rg_I 0)), (2, .int (rg_I (((b : Nat) : Int) * 36))), (0, .ref (κ.2.2.2 8)), (1, .int (rg_I ((b : Nat) : Int)))] : List (Nat × Value))) (by omega)) ?_
    refine rg_eq (σ' := (rg_wr σ 40 (rg_rw f40 b (rg_fw (fun o => ¬ ins (o * 40 + b) = 0) (fun o => dis (o * 40 + b)) (fun o => sc (o * 40 + b)) (rg_g0 (fl b) (nt b) (lt b) ((b : Nat) : Int)) nr 0)))) (rg_wr_congr (f := (rg_up (rg_up (rg_up (rg_up f40 ((b * 36) + 0) (fl b)) ((b * 36) + 1) (nt b)) ((b * 36) + 34) (lt b)) ((b * 36) + 35) ((b : Nat) : Int))) (g := (rg_rw f40 b (rg_fw (fun o => ¬ ins (o * 40 + b) = 0) (fun o => dis (o * 40 + b)) (fun o => sc (o * 40 + b)) (rg_g0 (fl b) (nt b) (lt b) ((b : Nat) : Int)) nr 0))) 40 rfl (rg_fr0 h40r (by first | exact rg_LT_0 (by assumption) | exact rg_LT_n (by assumption)))) ?_
    refine rg_sub (lv' := [(0, .ref (κ.2.2.2 8)), (1, .int (rg_I ((b : Nat) : Int))), (2, .int (rg_I (((b : Nat) : Int) * 36))), (3, .int (rg_I 0)), (4, .int (rg_I 0)), (5, .int (rg_I ((((nr : Nat) : Int) - 1) - ((0 : Nat) : Int))))]) [4, 5, 3, 2, 1, 0] rfl ?_
    exact L100 _ (0) (0) (0) rfl (by omega) rfl rfl (by omega) (by omega)
  ·
    refine rg_ldc F (v := 1000000) k_cn_X5_37 dX5_fillRow_59 ?_
    refine rg_goto F 73 dX5_fillRow_61 (by decide) ?_
    refine rg_iast F 40 ((b * 36) + 34) tC40 (by omega) (by omega) (by decide) (f9 := (rg_up (rg_up f40 ((b * 36) + 0) (fl b)) ((b * 36) + 1) (nt b))) rfl (rg_wr σ 40 (rg_up (rg_up (rg_up f40 ((b * 36) + 0) (fl b)) ((b * 36) + 1) (nt b)) ((b * 36) + 34) 1000000)) (rg_wr_wr _ 40 _ _) dX5_fillRow_73 ?_
    refine rg_aload_n F 1 0 rfl dX5_fillRow_74 rfl ?_
    refine rg_get F 8 4 tC8 cX5 k_lays_X5 (by decide) k_fl_X5_11 rfl (v := .ref (κ.2.2.2 40)) rfl dX5_fillRow_75 ?_
    refine rg_iload_n F 0 2 rfl dX5_fillRow_78 rfl ?_
    refine rg_bipush F dX5_fillRow_79 (by decide +kernel) ?_
    refine rg_iadd F dX5_fillRow_81 ?_
    refine rg_iload_n F 2 1 rfl dX5_fillRow_82 rfl ?_
    refine rg_iast F 40 ((b * 36) + 35) tC40 (by omega) (by omega) (by decide) (f9 := (rg_up (rg_up (rg_up f40 ((b * 36) + 0) (fl b)) ((b * 36) + 1) (nt b)) ((b * 36) + 34) 1000000)) rfl (rg_wr σ 40 (rg_up (rg_up (rg_up (rg_up f40 ((b * 36) + 0) (fl b)) ((b * 36) + 1) (nt b)) ((b * 36) + 34) 1000000) ((b * 36) + 35) ((b : Nat) : Int))) (rg_wr_wr _ 40 _ _) dX5_fillRow_83 ?_
    refine rg_iconst F dX5_fillRow_84 ?_
    refine rg_istore_n F [(3, .int (rg_I 0)), (2, .int (rg_I (((b : Nat) : Int) * 36))), (0, .ref (κ.2.2.2 8)), (1, .int (rg_I ((b : Nat) : Int)))] dX5_fillRow_85 rfl (by decide) rfl ?_
    refine rg_iconst F dX5_fillRow_86 ?_
    refine rg_istore F [(4, .int (rg_I 0)), (3, .int (rg_I 0)), (2, .int (rg_I (((b : Nat) : Int) * 36))), (0, .ref (κ.2.2.2 8)), (1, .int (rg_I ((b : Nat) : Int)))] dX5_fillRow_87 (by decide) rfl ?_
    refine rg_aload_n F 3 0 rfl dX5_fillRow_89 rfl ?_
    refine rg_get F 8 1 tC8 cX5 k_lays_X5 (by decide) k_fl_X5_25 rfl (v := .ref (κ.2.2.2 2)) rfl dX5_fillRow_90 ?_
    refine rg_get F 2 3 tC2 cX4 k_lays_X4 (by decide) k_fl_X5_72 rfl (v := .int (rg_I ((nr : Nat) : Int))) (congrArg (fun x => Value.int (rg_I x)) h2_3) dX5_fillRow_93 ?_
    refine rg_iconst F dX5_fillRow_96 ?_
    refine rg_isub F dX5_fillRow_97 ?_
    refine rg_istore F [(5, .int (rg_I (((nr : Nat) : Int) - 1))), (4, .int (rg_I 0)), (3, .int (rg_I 0)), (2, .int (rg_I (((b : Nat) : Int) * 36))), (0, .ref (κ.2.2.2 8)), (1, .int (rg_I ((b : Nat) : Int)))] dX5_fillRow_98 (by decide) rfl ?_
    have L100 : ∀ (n100 : Nat) (k : Nat) (n : Nat) (m : Nat), n100 = nr - m → (m ≤ nr) → (n = (rg_cnt (fun i => (fun o => ¬ ins (o * 40 + b) = 0) (nr - 1 - i)) m)) → (k = (rg_cnt (fun i => (fun o => ¬ ins (o * 40 + b) = 0) (nr - 1 - i) ∧ (fun o => dis (o * 40 + b)) (nr - 1 - i) = 0) m)) → (n ≤ m) → (k ≤ m) → rg_G κ Γ rg_tC 7 0 0 100 [(0, .ref (κ.2.2.2 8)), (1, .int (rg_I ((b : Nat) : Int))), (2, .int (rg_I (((b : Nat) : Int) * 36))), (3, .int (rg_I ((k : Nat) : Int))), (4, .int (rg_I ((n : Nat) : Int))), (5, .int (rg_I ((((nr : Nat) : Int) - 1) - ((m : Nat) : Int))))] [] (rg_wr σ 40 (rg_rw f40 b (rg_fw (fun o => ¬ ins (o * 40 + b) = 0) (fun o => dis (o * 40 + b)) (fun o => sc (o * 40 + b)) (rg_g0 (fl b) (nt b) (lt b) ((b : Nat) : Int)) nr m))) := by
      intro n100
      induction n100 using Nat.strongRecOn with
      | _ n100 ih100 =>
        intro k n m hn100 hm hn hk hnm hkm
        refine rg_iload F 5 5 rfl dX5_fillRow_100 ?_
        refine rg_if_lt F 191 dX5_fillRow_102 (by decide) (by omega) (fun c102_5 => ?_) (fun c102_5 => ?_)
        ·
          exact hR _ _ _ dX5_fillRow_191 (rg_wr_congr (f := (rg_rw f40 b (rg_fw (fun o => ¬ ins (o * 40 + b) = 0) (fun o => dis (o * 40 + b)) (fun o => sc (o * 40 + b)) (rg_g0 (fl b) (nt b) (lt b) ((b : Nat) : Int)) nr m))) (g := (rg_rw f40 b (rg_fw (fun o => ¬ ins (o * 40 + b) = 0) (fun o => dis (o * 40 + b)) (fun o => sc (o * 40 + b)) (rg_g0 (fl b) (nt b) (lt b) ((b : Nat) : Int)) nr nr))) 40 rfl (by rw [show m = nr by omega]))
        ·
          refine rg_iload F 5 5 rfl dX5_fillRow_105 ?_
          refine rg_stk (st' := [.int (rg_I ((nr - 1 - m : Nat) : Int))]) (congrArg (fun x => Value.int (rg_I x) :: []) (by omega)) ?_
          refine rg_iload_n F 1 1 rfl dX5_fillRow_107 rfl ?_
          refine rg_callNI F [.int (rg_I ((nr - 1 - m : Nat) : Int)), .int (rg_I ((b : Nat) : Int))] [] (k_X9_cell κ rg_tC (rg_wr σ 40 (rg_rw f40 b (rg_fw (fun o => ¬ ins (o * 40 + b) = 0) (fun o => dis (o * 40 + b)) (fun o => sc (o * 40 + b)) (rg_g0 (fl b) (nt b) (lt b) ((b : Nat) : Int)) nr m))) ((nr - 1 - m)) (b)) v_X9_cell k_st_yX9_cell k_mn_X5_75 ⟨Nat.le_of_ble_eq_true rfl, Nat.le_of_ble_eq_true rfl⟩ rfl (Nat.le_of_ble_eq_true rfl) dX5_fillRow_108 (rg_ex2 ?_)
          show rg_G κ Γ rg_tC 7 0 0 (108 + 3) [(0, .ref (κ.2.2.2 8)), (1, .int (rg_I ((b : Nat) : Int))), (2, .int (rg_I (((b : Nat) : Int) * 36))), (3, .int (rg_I ((k : Nat) : Int))), (4, .int (rg_I ((n : Nat) : Int))), (5, .int (rg_I ((((nr : Nat) : Int) - 1) - ((m : Nat) : Int))))] [.int (rg_I (((nr - 1 - m) * 40 + b : Nat) : Int))] (rg_wr σ 40 (rg_rw f40 b (rg_fw (fun o => ¬ ins (o * 40 + b) = 0) (fun o => dis (o * 40 + b)) (fun o => sc (o * 40 + b)) (rg_g0 (fl b) (nt b) (lt b) ((b : Nat) : Int)) nr m)))
          refine rg_istore F [(6, .int (rg_I (((nr - 1 - m) * 40 + b : Nat) : Int))), (0, .ref (κ.2.2.2 8)), (1, .int (rg_I ((b : Nat) : Int))), (2, .int (rg_I (((b : Nat) : Int) * 36))), (3, .int (rg_I ((k : Nat) : Int))), (4, .int (rg_I ((n : Nat) : Int))), (5, .int (rg_I ((((nr : Nat) : Int) - 1) - ((m : Nat) : Int))))] dX5_fillRow_111 (by decide) rfl ?_
          refine rg_aload_n F 1 0 rfl dX5_fillRow_113 rfl ?_
          refine rg_get F 8 2 tC8 cX5 k_lays_X5 (by decide) k_fl_X5_29 rfl (v := .ref (κ.2.2.2 6)) rfl dX5_fillRow_114 ?_
          refine rg_get F 6 1 tC6 cX3 k_lays_X3 (by decide) k_fl_X5_78 rfl (v := .ref (κ.2.2.2 28)) rfl dX5_fillRow_117 ?_
          refine rg_iload F 0 6 rfl dX5_fillRow_120 ?_
          refine rg_zald F 28 ((nr - 1 - m) * 40 + b) (v := (ins ((nr - 1 - m) * 40 + b))) tC28 (by omega) (by omega) (by decide) (congrFun h28 ((nr - 1 - m) * 40 + b)) dX5_fillRow_122 ?_
          refine rg_if_eq F 185 dX5_fillRow_123 (by decide) (by have b0 := hins (((nr - 1 - m) * 40 + b)); omega) (fun c123_6 => ?_) (fun c123_6 => ?_)
          ·
            refine rg_iinc F (v := (((((nr : Nat) : Int) - 1) - ((m : Nat) : Int)) - 1)) 6 [(5, .int (rg_I (((((nr : Nat) : Int) - 1) - ((m : Nat) : Int)) - 1))), (6, .int (rg_I (((nr - 1 - m) * 40 + b : Nat) : Int))), (0, .ref (κ.2.2.2 8)), (1, .int (rg_I ((b : Nat) : Int))), (2, .int (rg_I (((b : Nat) : Int) * 36))), (3, .int (rg_I ((k : Nat) : Int))), (4, .int (rg_I ((n : Nat) : Int)))] dX5_fillRow_185 rfl (by omega) (by decide) rfl ?_
            refine rg_goto F 100 dX5_fillRow_188 (by decide) ?_
            refine rg_lve (lv' := [(5, .int (rg_I ((((nr : Nat) : Int) - 1) - (((m + 1) : Nat) : Int)))), (6, .int (rg_I (((nr - 1 - m) * 40 + b : Nat) : Int))), (0, .ref (κ.2.2.2 8)), (1, .int (rg_I ((b : Nat) : Int))), (2, .int (rg_I (((b : Nat) : Int) * 36))), (3, .int (rg_I ((k : Nat) : Int))), (4, .int (rg_I ((n : Nat) : Int)))]) (congrArg (fun x9 : Int => ([(5, .int (rg_I x9)), (6, .int (rg_I (((nr - 1 - m) * 40 + b : Nat) : Int))), (0, .ref (κ.2.2.2 8)), (1, .int (rg_I ((b : Nat) : Int))), (2, .int (rg_I (((b : Nat) : Int) * 36))), (3, .int (rg_I ((k : Nat) : Int))), (4, .int (rg_I ((n : Nat) : Int)))] : List (Nat × Value))) (by omega)) ?_
            refine rg_eq (σ' := (rg_wr σ 40 (rg_rw f40 b (rg_fw (fun o => ¬ ins (o * 40 + b) = 0) (fun o => dis (o * 40 + b)) (fun o => sc (o * 40 + b)) (rg_g0 (fl b) (nt b) (lt b) ((b : Nat) : Int)) nr (m + 1))))) (rg_wr_congr (f := (rg_rw f40 b (rg_fw (fun o => ¬ ins (o * 40 + b) = 0) (fun o => dis (o * 40 + b)) (fun o => sc (o * 40 + b)) (rg_g0 (fl b) (nt b) (lt b) ((b : Nat) : Int)) nr m))) (g := (rg_rw f40 b (rg_fw (fun o => ¬ ins (o * 40 + b) = 0) (fun o => dis (o * 40 + b)) (fun o => sc (o * 40 + b)) (rg_g0 (fl b) (nt b) (lt b) ((b : Nat) : Int)) nr (m + 1)))) 40 rfl (by first | exact rg_fw_3 (p := (fun o => ¬ ins (o * 40 + b) = 0)) (d := (fun o => dis (o * 40 + b))) (S := (fun o => sc (o * 40 + b))) (n := n) (k := k) (by assumption) (by assumption) hn hk (by omega) (by omega) (by omega) rfl rfl | exact rg_fw_2 (p := (fun o => ¬ ins (o * 40 + b) = 0)) (d := (fun o => dis (o * 40 + b))) (S := (fun o => sc (o * 40 + b))) (n := n) (by assumption) (by assumption) hn (by omega) (by omega) rfl | exact rg_fw_1 (p := (fun o => ¬ ins (o * 40 + b) = 0)) (fun z => z (by assumption)))) ?_
            refine rg_sub (lv' := [(0, .ref (κ.2.2.2 8)), (1, .int (rg_I ((b : Nat) : Int))), (2, .int (rg_I (((b : Nat) : Int) * 36))), (3, .int (rg_I ((k : Nat) : Int))), (4, .int (rg_I ((n : Nat) : Int))), (5, .int (rg_I ((((nr : Nat) : Int) - 1) - (((m + 1) : Nat) : Int))))]) [2, 3, 4, 5, 6, 0] rfl ?_
            exact ih100 (nr - (m + 1)) (by omega) (k) (n) ((m + 1)) rfl (by omega) (by first | (rw [rg_cnt_t (p := fun i => (fun o => ¬ ins (o * 40 + b) = 0) (nr - 1 - i)) (by assumption)]; omega) | (rw [rg_cnt_f (p := fun i => (fun o => ¬ ins (o * 40 + b) = 0) (nr - 1 - i)) (fun z => z (by assumption))]; omega)) (by first | (rw [rg_cnt_t (p := fun i => (fun o => ¬ ins (o * 40 + b) = 0) (nr - 1 - i) ∧ (fun o => dis (o * 40 + b)) (nr - 1 - i) = 0) ⟨by assumption, by assumption⟩]; omega) | (rw [rg_cnt_f (p := fun i => (fun o => ¬ ins (o * 40 + b) = 0) (nr - 1 - i) ∧ (fun o => dis (o * 40 + b)) (nr - 1 - i) = 0) (fun z => absurd z.2 (by assumption))]; omega) | (rw [rg_cnt_f (p := fun i => (fun o => ¬ ins (o * 40 + b) = 0) (nr - 1 - i) ∧ (fun o => dis (o * 40 + b)) (nr - 1 - i) = 0) (fun z => z.1 (by assumption))]; omega)) (by omega) (by omega)
          ·
            refine rg_aload_n F 1 0 rfl dX5_fillRow_126 rfl ?_
            refine rg_get F 8 4 tC8 cX5 k_lays_X5 (by decide) k_fl_X5_11 rfl (v := .ref (κ.2.2.2 40)) rfl dX5_fillRow_127 ?_
            refine rg_iload_n F 3 2 rfl dX5_fillRow_130 rfl ?_
            refine rg_bipush F dX5_fillRow_131 (by decide +kernel) ?_
            refine rg_iadd F dX5_fillRow_133 ?_
            refine rg_iload F 5 4 rfl dX5_fillRow_134 ?_
            refine rg_iadd F dX5_fillRow_136 ?_
            refine rg_aload_n F 1 0 rfl dX5_fillRow_137 rfl ?_
            refine rg_get F 8 3 tC8 cX5 k_lays_X5 (by decide) k_fl_X5_33 rfl (v := .ref (κ.2.2.2 7)) rfl dX5_fillRow_138 ?_
            refine rg_get F 7 0 tC7 cX6 k_lays_X6 (by decide) k_fl_X5_84 rfl (v := .ref (κ.2.2.2 34)) rfl dX5_fillRow_141 ?_
            refine rg_iload F 0 6 rfl dX5_fillRow_144 ?_
            refine rg_iald F 34 ((nr - 1 - m) * 40 + b) (v := (sc ((nr - 1 - m) * 40 + b))) tC34 (by omega) (by omega) (by decide) (congrFun h34 ((nr - 1 - m) * 40 + b)) dX5_fillRow_146 ?_
            refine rg_iast F 40 (((b * 36) + 18) + n) tC40 (by omega) (by omega) (by decide) (f9 := (rg_rw f40 b (rg_fw (fun o => ¬ ins (o * 40 + b) = 0) (fun o => dis (o * 40 + b)) (fun o => sc (o * 40 + b)) (rg_g0 (fl b) (nt b) (lt b) ((b : Nat) : Int)) nr m))) rfl (rg_wr σ 40 (rg_up (rg_rw f40 b (rg_fw (fun o => ¬ ins (o * 40 + b) = 0) (fun o => dis (o * 40 + b)) (fun o => sc (o * 40 + b)) (rg_g0 (fl b) (nt b) (lt b) ((b : Nat) : Int)) nr m)) (((b * 36) + 18) + n) (sc ((nr - 1 - m) * 40 + b)))) (rg_wr_wr _ 40 _ _) dX5_fillRow_147 ?_
            refine rg_iinc F (v := ((n + 1 : Nat) : Int)) 5 [(4, .int (rg_I ((n + 1 : Nat) : Int))), (6, .int (rg_I (((nr - 1 - m) * 40 + b : Nat) : Int))), (0, .ref (κ.2.2.2 8)), (1, .int (rg_I ((b : Nat) : Int))), (2, .int (rg_I (((b : Nat) : Int) * 36))), (3, .int (rg_I ((k : Nat) : Int))), (5, .int (rg_I ((((nr : Nat) : Int) - 1) - ((m : Nat) : Int))))] dX5_fillRow_148 rfl (by omega) (by decide) rfl ?_
            refine rg_aload_n F 2 0 rfl dX5_fillRow_151 rfl ?_
            refine rg_get F 8 3 tC8 cX5 k_lays_X5 (by decide) k_fl_X5_33 rfl (v := .ref (κ.2.2.2 7)) rfl dX5_fillRow_152 ?_
            refine rg_get F 7 1 tC7 cX6 k_lays_X6 (by decide) k_fl_X5_87 rfl (v := .ref (κ.2.2.2 35)) rfl dX5_fillRow_155 ?_
            refine rg_iload F 1 6 rfl dX5_fillRow_158 ?_
            refine rg_zald F 35 ((nr - 1 - m) * 40 + b) (v := (dis ((nr - 1 - m) * 40 + b))) tC35 (by omega) (by omega) (by decide) (congrFun h35 ((nr - 1 - m) * 40 + b)) dX5_fillRow_160 ?_
            refine rg_if_ne F 185 dX5_fillRow_161 (by decide) (by have b0 := hdis (((nr - 1 - m) * 40 + b)); omega) (fun c161_7 => ?_) (fun c161_7 => ?_)
            ·
              refine rg_iinc F (v := (((((nr : Nat) : Int) - 1) - ((m : Nat) : Int)) - 1)) 6 [(5, .int (rg_I (((((nr : Nat) : Int) - 1) - ((m : Nat) : Int)) - 1))), (4, .int (rg_I ((n + 1 : Nat) : Int))), (6, .int (rg_I (((nr - 1 - m) * 40 + b : Nat) : Int))), (0, .ref (κ.2.2.2 8)), (1, .int (rg_I ((b : Nat) : Int))), (2, .int (rg_I (((b : Nat) : Int) * 36))), (3, .int (rg_I ((k : Nat) : Int)))] dX5_fillRow_185 rfl (by omega) (by decide) rfl ?_
              refine rg_goto F 100 dX5_fillRow_188 (by decide) ?_
              refine rg_lve (lv' := [(5, .int (rg_I ((((nr : Nat) : Int) - 1) - (((m + 1) : Nat) : Int)))), (4, .int (rg_I ((n + 1 : Nat) : Int))), (6, .int (rg_I (((nr - 1 - m) * 40 + b : Nat) : Int))), (0, .ref (κ.2.2.2 8)), (1, .int (rg_I ((b : Nat) : Int))), (2, .int (rg_I (((b : Nat) : Int) * 36))), (3, .int (rg_I ((k : Nat) : Int)))]) (congrArg (fun x9 : Int => ([(5, .int (rg_I x9)), (4, .int (rg_I ((n + 1 : Nat) : Int))), (6, .int (rg_I (((nr - 1 - m) * 40 + b : Nat) : Int))), (0, .ref (κ.2.2.2 8)), (1, .int (rg_I ((b : Nat) : Int))), (2, .int (rg_I (((b : Nat) : Int) * 36))), (3, .int (rg_I ((k : Nat) : Int)))] : List (Nat × Value))) (by omega)) ?_
              refine rg_eq (σ' := (rg_wr σ 40 (rg_rw f40 b (rg_fw (fun o => ¬ ins (o * 40 + b) = 0) (fun o => dis (o * 40 + b)) (fun o => sc (o * 40 + b)) (rg_g0 (fl b) (nt b) (lt b) ((b : Nat) : Int)) nr (m + 1))))) (rg_wr_congr (f := (rg_up (rg_rw f40 b (rg_fw (fun o => ¬ ins (o * 40 + b) = 0) (fun o => dis (o * 40 + b)) (fun o => sc (o * 40 + b)) (rg_g0 (fl b) (nt b) (lt b) ((b : Nat) : Int)) nr m)) (((b * 36) + 18) + n) (sc ((nr - 1 - m) * 40 + b)))) (g := (rg_rw f40 b (rg_fw (fun o => ¬ ins (o * 40 + b) = 0) (fun o => dis (o * 40 + b)) (fun o => sc (o * 40 + b)) (rg_g0 (fl b) (nt b) (lt b) ((b : Nat) : Int)) nr (m + 1)))) 40 rfl (by first | exact rg_fw_3 (p := (fun o => ¬ ins (o * 40 + b) = 0)) (d := (fun o => dis (o * 40 + b))) (S := (fun o => sc (o * 40 + b))) (n := n) (k := k) (by assumption) (by assumption) hn hk (by omega) (by omega) (by omega) rfl rfl | exact rg_fw_2 (p := (fun o => ¬ ins (o * 40 + b) = 0)) (d := (fun o => dis (o * 40 + b))) (S := (fun o => sc (o * 40 + b))) (n := n) (by assumption) (by assumption) hn (by omega) (by omega) rfl | exact rg_fw_1 (p := (fun o => ¬ ins (o * 40 + b) = 0)) (fun z => z (by assumption)))) ?_
              refine rg_sub (lv' := [(0, .ref (κ.2.2.2 8)), (1, .int (rg_I ((b : Nat) : Int))), (2, .int (rg_I (((b : Nat) : Int) * 36))), (3, .int (rg_I ((k : Nat) : Int))), (4, .int (rg_I ((n + 1 : Nat) : Int))), (5, .int (rg_I ((((nr : Nat) : Int) - 1) - (((m + 1) : Nat) : Int))))]) [3, 4, 5, 6, 1, 0] rfl ?_
              exact ih100 (nr - (m + 1)) (by omega) (k) ((n + 1)) ((m + 1)) rfl (by omega) (by first | (rw [rg_cnt_t (p := fun i => (fun o => ¬ ins (o * 40 + b) = 0) (nr - 1 - i)) (by assumption)]; omega) | (rw [rg_cnt_f (p := fun i => (fun o => ¬ ins (o * 40 + b) = 0) (nr - 1 - i)) (fun z => z (by assumption))]; omega)) (by first | (rw [rg_cnt_t (p := fun i => (fun o => ¬ ins (o * 40 + b) = 0) (nr - 1 - i) ∧ (fun o => dis (o * 40 + b)) (nr - 1 - i) = 0) ⟨by assumption, by assumption⟩]; omega) | (rw [rg_cnt_f (p := fun i => (fun o => ¬ ins (o * 40 + b) = 0) (nr - 1 - i) ∧ (fun o => dis (o * 40 + b)) (nr - 1 - i) = 0) (fun z => absurd z.2 (by assumption))]; omega) | (rw [rg_cnt_f (p := fun i => (fun o => ¬ ins (o * 40 + b) = 0) (nr - 1 - i) ∧ (fun o => dis (o * 40 + b)) (nr - 1 - i) = 0) (fun z => z.1 (by assumption))]; omega)) (by omega) (by omega)
            ·
              refine rg_aload_n F 2 0 rfl dX5_fillRow_164 rfl ?_
              refine rg_iload_n F 4 2 rfl dX5_fillRow_165 rfl ?_
              refine rg_iconst F dX5_fillRow_166 ?_
              refine rg_iadd F dX5_fillRow_167 ?_
              refine rg_iload_n F 5 3 rfl dX5_fillRow_168 rfl ?_
              refine rg_aload_n F 2 0 rfl dX5_fillRow_169 rfl ?_
              refine rg_get F 8 3 tC8 cX5 k_lays_X5 (by decide) k_fl_X5_33 rfl (v := .ref (κ.2.2.2 7)) rfl dX5_fillRow_170 ?_
              refine rg_get F 7 0 tC7 cX6 k_lays_X6 (by decide) k_fl_X5_84 rfl (v := .ref (κ.2.2.2 34)) rfl dX5_fillRow_173 ?_
              refine rg_iload F 1 6 rfl dX5_fillRow_176 ?_
              refine rg_iald F 34 ((nr - 1 - m) * 40 + b) (v := (sc ((nr - 1 - m) * 40 + b))) tC34 (by omega) (by omega) (by decide) (congrFun h34 ((nr - 1 - m) * 40 + b)) dX5_fillRow_178 ?_
              refine rg_stk (st' := [.int (rg_I (sc ((nr - 1 - m) * 40 + b))), .int (rg_I ((k : Nat) : Int)), .int (rg_I ((((b * 36) + 2) : Nat) : Int)), .ref (κ.2.2.2 8)]) (congrArg (fun x9 : Int => ([.int (rg_I (sc ((nr - 1 - m) * 40 + b))), .int (rg_I ((k : Nat) : Int)), .int (rg_I x9), .ref (κ.2.2.2 8)] : List Value)) (by omega)) ?_
              refine rg_callVV F [.int (rg_I ((((b * 36) + 2) : Nat) : Int)), .int (rg_I ((k : Nat) : Int)), .int (rg_I (sc ((nr - 1 - m) * 40 + b)))] [] 8 (k_X5_insertKept κ (rg_wr σ 40 (rg_up (rg_rw f40 b (rg_fw (fun o => ¬ ins (o * 40 + b) = 0) (fun o => dis (o * 40 + b)) (fun o => sc (o * 40 + b)) (rg_g0 (fl b) (nt b) (lt b) ((b : Nat) : Int)) nr m)) (((b * 36) + 18) + n) (sc ((nr - 1 - m) * 40 + b)))) ((((b * 36) + 2))) (k) ((sc ((nr - 1 - m) * 40 + b))) (rg_up (rg_rw f40 b (rg_fw (fun o => ¬ ins (o * 40 + b) = 0) (fun o => dis (o * 40 + b)) (fun o => sc (o * 40 + b)) (rg_g0 (fl b) (nt b) (lt b) ((b : Nat) : Int)) nr m)) (((b * 36) + 18) + n) (sc ((nr - 1 - m) * 40 + b))) rfl (by omega) (hsc _) (rg_up_all (rg_rw_Rg hf40 (rg_fw_Rg (rg_g0_Rg (hfl _) (hnt _) (hlt _) (by omega)) (fun _ => hsc _) _ _)) _ (hsc _))) tC8 cX5 v_X5_insertKept i_X5_insertKept k_ml_X5_90 ⟨Nat.le_of_ble_eq_true rfl, Nat.le_of_ble_eq_true rfl⟩ rfl (Nat.le_of_ble_eq_true rfl) dX5_fillRow_179 (rg_ex1 ?_)
              refine rg_eq (σ' := (rg_wr σ 40 (rg_ins (((b * 36) + 2)) (sc ((nr - 1 - m) * 40 + b)) k (rg_up (rg_rw f40 b (rg_fw (fun o => ¬ ins (o * 40 + b) = 0) (fun o => dis (o * 40 + b)) (fun o => sc (o * 40 + b)) (rg_g0 (fl b) (nt b) (lt b) ((b : Nat) : Int)) nr m)) (((b * 36) + 18) + n) (sc ((nr - 1 - m) * 40 + b)))))) (rg_wr_wr _ 40 _ _) ?_
              refine rg_iinc F (v := ((k + 1 : Nat) : Int)) 5 [(3, .int (rg_I ((k + 1 : Nat) : Int))), (4, .int (rg_I ((n + 1 : Nat) : Int))), (6, .int (rg_I (((nr - 1 - m) * 40 + b : Nat) : Int))), (0, .ref (κ.2.2.2 8)), (1, .int (rg_I ((b : Nat) : Int))), (2, .int (rg_I (((b : Nat) : Int) * 36))), (5, .int (rg_I ((((nr : Nat) : Int) - 1) - ((m : Nat) : Int))))] dX5_fillRow_182 rfl (by omega) (by decide) rfl ?_
              refine rg_iinc F (v := (((((nr : Nat) : Int) - 1) - ((m : Nat) : Int)) - 1)) 6 [(5, .int (rg_I (((((nr : Nat) : Int) - 1) - ((m : Nat) : Int)) - 1))), (3, .int (rg_I ((k + 1 : Nat) : Int))), (4, .int (rg_I ((n + 1 : Nat) : Int))), (6, .int (rg_I (((nr - 1 - m) * 40 + b : Nat) : Int))), (0, .ref (κ.2.2.2 8)), (1, .int (rg_I ((b : Nat) : Int))), (2, .int (rg_I (((b : Nat) : Int) * 36)))] dX5_fillRow_185 rfl (by omega) (by decide) rfl ?_
              refine rg_goto F 100 dX5_fillRow_188 (by decide) ?_
              refine rg_lve (lv' := [(5, .int (rg_I ((((nr : Nat) : Int) - 1) - (((m + 1) : Nat) : Int)))), (3, .int (rg_I ((k + 1 : Nat) : Int))), (4, .int (rg_I ((n + 1 : Nat) : Int))), (6, .int (rg_I (((nr - 1 - m) * 40 + b : Nat) : Int))), (0, .ref (κ.2.2.2 8)), (1, .int (rg_I ((b : Nat) : Int))), (2, .int (rg_I (((b : Nat) : Int) * 36)))]) (congrArg (fun x9 : Int => ([(5, .int (rg_I x9)), (3, .int (rg_I ((k + 1 : Nat) : Int))), (4, .int (rg_I ((n + 1 : Nat) : Int))), (6, .int (rg_I (((nr - 1 - m) * 40 + b : Nat) : Int))), (0, .ref (κ.2.2.2 8)), (1, .int (rg_I ((b : Nat) : Int))), (2, .int (rg_I (((b : Nat) : Int) * 36)))] : List (Nat × Value))) (by omega)) ?_
              refine rg_eq (σ' := (rg_wr σ 40 (rg_rw f40 b (rg_fw (fun o => ¬ ins (o * 40 + b) = 0) (fun o => dis (o * 40 + b)) (fun o => sc (o * 40 + b)) (rg_g0 (fl b) (nt b) (lt b) ((b : Nat) : Int)) nr (m + 1))))) (rg_wr_congr (f := (rg_ins (((b * 36) + 2)) (sc ((nr - 1 - m) * 40 + b)) k (rg_up (rg_rw f40 b (rg_fw (fun o => ¬ ins (o * 40 + b) = 0) (fun o => dis (o * 40 + b)) (fun o => sc (o * 40 + b)) (rg_g0 (fl b) (nt b) (lt b) ((b : Nat) : Int)) nr m)) (((b * 36) + 18) + n) (sc ((nr - 1 - m) * 40 + b))))) (g := (rg_rw f40 b (rg_fw (fun o => ¬ ins (o * 40 + b) = 0) (fun o => dis (o * 40 + b)) (fun o => sc (o * 40 + b)) (rg_g0 (fl b) (nt b) (lt b) ((b : Nat) : Int)) nr (m + 1)))) 40 rfl (by first | exact rg_fw_3 (p := (fun o => ¬ ins (o * 40 + b) = 0)) (d := (fun o => dis (o * 40 + b))) (S := (fun o => sc (o * 40 + b))) (n := n) (k := k) (by assumption) (by assumption) hn hk (by omega) (by omega) (by omega) rfl rfl | exact rg_fw_2 (p := (fun o => ¬ ins (o * 40 + b) = 0)) (d := (fun o => dis (o * 40 + b))) (S := (fun o => sc (o * 40 + b))) (n := n) (by assumption) (by assumption) hn (by omega) (by omega) rfl | exact rg_fw_1 (p := (fun o => ¬ ins (o * 40 + b) = 0)) (fun z => z (by assumption)))) ?_
              refine rg_sub (lv' := [(0, .ref (κ.2.2.2 8)), (1, .int (rg_I ((b : Nat) : Int))), (2, .int (rg_I (((b : Nat) : Int) * 36))), (3, .int (rg_I ((k + 1 : Nat) : Int))), (4, .int (rg_I ((n + 1 : Nat) : Int))), (5, .int (rg_I ((((nr : Nat) : Int) - 1) - (((m + 1) : Nat) : Int))))]) [4, 5, 6, 1, 2, 0] rfl ?_
              exact ih100 (nr - (m + 1)) (by omega) ((k + 1)) ((n + 1)) ((m + 1)) rfl (by omega) (by first | (rw [rg_cnt_t (p := fun i => (fun o => ¬ ins (o * 40 + b) = 0) (nr - 1 - i)) (by assumption)]; omega) | (rw [rg_cnt_f (p := fun i => (fun o => ¬ ins (o * 40 + b) = 0) (nr - 1 - i)) (fun z => z (by assumption))]; omega)) (by first | (rw [rg_cnt_t (p := fun i => (fun o => ¬ ins (o * 40 + b) = 0) (nr - 1 - i) ∧ (fun o => dis (o * 40 + b)) (nr - 1 - i) = 0) ⟨by assumption, by assumption⟩]; omega) | (rw [rg_cnt_f (p := fun i => (fun o => ¬ ins (o * 40 + b) = 0) (nr - 1 - i) ∧ (fun o => dis (o * 40 + b)) (nr - 1 - i) = 0) (fun z => absurd z.2 (by assumption))]; omega) | (rw [rg_cnt_f (p := fun i => (fun o => ¬ ins (o * 40 + b) = 0) (nr - 1 - i) ∧ (fun o => dis (o * 40 + b)) (nr - 1 - i) = 0) (fun z => z.1 (by assumption))]; omega)) (by omega) (by omega)
    refine rg_lve (lv' := [(5, .int (rg_I ((((nr : Nat) : Int) - 1) - ((0 : Nat) : Int)))), (4, .int (rg_I 0)), (3, .int (rg_I 0)), (2, .int (rg_I (((b : Nat) : Int) * 36))), (0, .ref (κ.2.2.2 8)), (1, .int (rg_I ((b : Nat) : Int)))]) (congrArg (fun x9 : Int => ([(5, .int (rg_I x9)), (4, .int (rg_I 0)), (3, .int (rg_I 0)), (2, .int (rg_I (((b : Nat) : Int) * 36))), (0, .ref (κ.2.2.2 8)), (1, .int (rg_I ((b : Nat) : Int)))] : List (Nat × Value))) (by omega)) ?_
    refine rg_eq (σ' := (rg_wr σ 40 (rg_rw f40 b (rg_fw (fun o => ¬ ins (o * 40 + b) = 0) (fun o => dis (o * 40 + b)) (fun o => sc (o * 40 + b)) (rg_g0 (fl b) (nt b) (lt b) ((b : Nat) : Int)) nr 0)))) (rg_wr_congr (f := (rg_up (rg_up (rg_up (rg_up f40 ((b * 36) + 0) (fl b)) ((b * 36) + 1) (nt b)) ((b * 36) + 34) 1000000) ((b * 36) + 35) ((b : Nat) : Int))) (g := (rg_rw f40 b (rg_fw (fun o => ¬ ins (o * 40 + b) = 0) (fun o => dis (o * 40 + b)) (fun o => sc (o * 40 + b)) (rg_g0 (fl b) (nt b) (lt b) ((b : Nat) : Int)) nr 0))) 40 rfl (rg_fr0 h40r (by first | exact rg_LT_0 (by assumption) | exact rg_LT_n (by assumption)))) ?_
    refine rg_sub (lv' := [(0, .ref (κ.2.2.2 8)), (1, .int (rg_I ((b : Nat) : Int))), (2, .int (rg_I (((b : Nat) : Int) * 36))), (3, .int (rg_I 0)), (4, .int (rg_I 0)), (5, .int (rg_I ((((nr : Nat) : Int) - 1) - ((0 : Nat) : Int))))]) [4, 5, 3, 2, 1, 0] rfl ?_
    exact L100 _ (0) (0) (0) rfl (by omega) rfl rfl (by omega) (by omega)
set_option maxHeartbeats 400000 in
set_option maxRecDepth 100000 in
/-- rankOfBoat -/
theorem k_X5_rankOfBoat (κ : rg_K) (σ : rg_S) (b : Nat) (rk : Nat → Int) (h42 : σ 42 = rk) (hb : b < 40) : rg_CI κ rg_tC yX5_rankOfBoat cX5_rankOfBoat 2 FieldType.int 0 0 [.ref (κ.2.2.2 8), .int (rg_I ((b : Nat) : Int))] σ (fun r9 σ9 => r9 = (rk b) ∧ σ9 = σ) := by
  refine rg_entI [(0, .ref (κ.2.2.2 8)), (1, .int (rg_I ((b : Nat) : Int)))] rfl (by decide +kernel) (Nat.le_of_ble_eq_true rfl) (by first | exact Or.inl rfl | exact Or.inr rfl) (fun Γ F hR => ?_)
  refine rg_aload_n F 0 0 rfl dX5_rankOfBoat_0 rfl ?_
  refine rg_get F 8 6 tC8 cX5 k_lays_X5 (by decide) k_fl_X5_18 rfl (v := .ref (κ.2.2.2 42)) rfl dX5_rankOfBoat_1 ?_
  refine rg_iload_n F 1 1 rfl dX5_rankOfBoat_4 rfl ?_
  refine rg_iald F 42 b (v := (rk b)) tC42 (by omega) (by omega) (by decide) (congrFun h42 b) dX5_rankOfBoat_5 ?_
  exact hR _ _ _ _ dX5_rankOfBoat_6 (fun h => nomatch h) ⟨rfl, rfl⟩
set_option maxHeartbeats 400000 in
set_option maxRecDepth 100000 in
/-- boatOfRank -/
theorem k_X5_boatOfRank (κ : rg_K) (σ : rg_S) (k : Nat) (od : Nat → Int) (h41 : σ 41 = od) (hk : 1 ≤ k ∧ k ≤ 40) : rg_CI κ rg_tC yX5_boatOfRank cX5_boatOfRank 2 FieldType.int 0 0 [.ref (κ.2.2.2 8), .int (rg_I ((k : Nat) : Int))] σ (fun r9 σ9 => r9 = (od (k - 1)) ∧ σ9 = σ) := by
  refine rg_entI [(0, .ref (κ.2.2.2 8)), (1, .int (rg_I ((k : Nat) : Int)))] rfl (by decide +kernel) (Nat.le_of_ble_eq_true rfl) (by first | exact Or.inl rfl | exact Or.inr rfl) (fun Γ F hR => ?_)
  refine rg_aload_n F 0 0 rfl dX5_boatOfRank_0 rfl ?_
  refine rg_get F 8 5 tC8 cX5 k_lays_X5 (by decide) k_fl_X5_15 rfl (v := .ref (κ.2.2.2 41)) rfl dX5_boatOfRank_1 ?_
  refine rg_iload_n F 1 1 rfl dX5_boatOfRank_4 rfl ?_
  refine rg_iconst F dX5_boatOfRank_5 ?_
  refine rg_isub F dX5_boatOfRank_6 ?_
  refine rg_iald F 41 (k - 1) (v := (od (k - 1))) tC41 (by omega) (by omega) (by decide) (congrFun h41 (k - 1)) dX5_boatOfRank_7 ?_
  exact hR _ _ _ _ dX5_boatOfRank_8 (fun h => nomatch h) ⟨rfl, rfl⟩
set_option maxHeartbeats 400000 in
set_option maxRecDepth 100000 in
/-- partingStep -/
theorem k_X5_partingStep (κ : rg_K) (σ : rg_S) (a b : Nat) (f40 : Nat → Int) (h40 : σ 40 = f40) (ha : a < 40) (hb : b < 40) (hf40 : ∀ j, rg_Rg (f40 j)) : rg_CI κ rg_tC yX5_partingStep cX5_partingStep 4 FieldType.int 1 23 [.ref (κ.2.2.2 8), .int (rg_I ((a : Nat) : Int)), .int (rg_I ((b : Nat) : Int))] σ (fun r9 σ9 => r9 = (rg_ps (rg_fd (fun i => f40 (a * 36 + i)) (fun i => f40 (b * 36 + i)) 35)) ∧ σ9 = σ) := by
  have hfd := (rg_fd_spec (fun i => f40 (a * 36 + i)) (fun i => f40 (b * 36 + i)) 35).1
  refine rg_entI [(0, .ref (κ.2.2.2 8)), (1, .int (rg_I ((a : Nat) : Int))), (2, .int (rg_I ((b : Nat) : Int)))] rfl (by decide +kernel) (Nat.le_of_ble_eq_true rfl) (by first | exact Or.inl rfl | exact Or.inr rfl) (fun Γ F hR => ?_)
  refine rg_aload_n F 0 0 rfl dX5_partingStep_0 rfl ?_
  refine rg_iload_n F 1 1 rfl dX5_partingStep_1 rfl ?_
  refine rg_iload_n F 2 2 rfl dX5_partingStep_2 rfl ?_
  refine rg_callVI F [.int (rg_I ((a : Nat) : Int)), .int (rg_I ((b : Nat) : Int))] [] 8 (k_X5_firstDifference κ σ (a) (b) f40 (h40) (by first | assumption | omega) (by first | assumption | omega) (by first | assumption | omega)) tC8 cX5 v_X5_firstDifference i_X5_firstDifference k_ml_X5_57 ⟨Nat.le_of_ble_eq_true rfl, Nat.le_of_ble_eq_true rfl⟩ rfl (Nat.le_of_ble_eq_true rfl) dX5_partingStep_3 (rg_ex2 ?_)
  show rg_G κ Γ rg_tC 4 0 0 (3 + 3) [(0, .ref (κ.2.2.2 8)), (1, .int (rg_I ((a : Nat) : Int))), (2, .int (rg_I ((b : Nat) : Int)))] [.int (rg_I (((rg_fd (fun i => f40 (a * 36 + i)) (fun i => f40 (b * 36 + i)) 35) : Nat) : Int))] σ
  refine rg_istore_n F [(3, .int (rg_I (((rg_fd (fun i => f40 (a * 36 + i)) (fun i => f40 (b * 36 + i)) 35) : Nat) : Int))), (0, .ref (κ.2.2.2 8)), (1, .int (rg_I ((a : Nat) : Int))), (2, .int (rg_I ((b : Nat) : Int)))] dX5_partingStep_6 rfl (by decide) rfl ?_
  refine rg_iload_n F 0 3 rfl dX5_partingStep_7 rfl ?_
  refine rg_iconst F dX5_partingStep_8 ?_
  refine rg_icmp_ge F 14 dX5_partingStep_9 (by decide) (by omega) (by omega) (fun c9_1 => ?_) (fun c9_1 => ?_)
  ·
    refine rg_iload_n F 0 3 rfl dX5_partingStep_14 rfl ?_
    refine rg_bipush F dX5_partingStep_15 (by decide +kernel) ?_
    refine rg_icmp_ge F 22 dX5_partingStep_17 (by decide) (by omega) (by omega) (fun c17_2 => ?_) (fun c17_2 => ?_)
    ·
      refine rg_iload_n F 0 3 rfl dX5_partingStep_22 rfl ?_
      refine rg_bipush F dX5_partingStep_23 (by decide +kernel) ?_
      refine rg_icmp_ge F 30 dX5_partingStep_25 (by decide) (by omega) (by omega) (fun c25_3 => ?_) (fun c25_3 => ?_)
      ·
        refine rg_iload_n F 0 3 rfl dX5_partingStep_30 rfl ?_
        refine rg_bipush F dX5_partingStep_31 (by decide +kernel) ?_
        refine rg_icmp_ne F 40 dX5_partingStep_33 (by decide) (by omega) (by omega) (fun c33_4 => ?_) (fun c33_4 => ?_)
        ·
          refine rg_iconst F dX5_partingStep_40 ?_
          exact hR _ _ _ _ dX5_partingStep_41 (fun h => nomatch h) ⟨(by unfold rg_ps; first | (rw [if_pos (by omega)]; done) | (rw [if_neg (by omega), if_pos (by omega)]; done) | (rw [if_neg (by omega), if_neg (by omega), if_pos (by omega)]; done) | (rw [if_neg (by omega), if_neg (by omega), if_neg (by omega), if_pos (by omega)]; done) | rw [if_neg (by omega), if_neg (by omega), if_neg (by omega), if_neg (by omega)]), rfl⟩
        ·
          refine rg_iconst F dX5_partingStep_36 ?_
          refine rg_goto F 41 dX5_partingStep_37 (by decide) ?_
          exact hR _ _ _ _ dX5_partingStep_41 (fun h => nomatch h) ⟨(by unfold rg_ps; first | (rw [if_pos (by omega)]; done) | (rw [if_neg (by omega), if_pos (by omega)]; done) | (rw [if_neg (by omega), if_neg (by omega), if_pos (by omega)]; done) | (rw [if_neg (by omega), if_neg (by omega), if_neg (by omega), if_pos (by omega)]; done) | rw [if_neg (by omega), if_neg (by omega), if_neg (by omega), if_neg (by omega)]), rfl⟩
      ·
        refine rg_iconst F dX5_partingStep_28 ?_
        exact hR _ _ _ _ dX5_partingStep_29 (fun h => nomatch h) ⟨(by unfold rg_ps; first | (rw [if_pos (by omega)]; done) | (rw [if_neg (by omega), if_pos (by omega)]; done) | (rw [if_neg (by omega), if_neg (by omega), if_pos (by omega)]; done) | (rw [if_neg (by omega), if_neg (by omega), if_neg (by omega), if_pos (by omega)]; done) | rw [if_neg (by omega), if_neg (by omega), if_neg (by omega), if_neg (by omega)]), rfl⟩
    ·
      refine rg_iconst F dX5_partingStep_20 ?_
      exact hR _ _ _ _ dX5_partingStep_21 (fun h => nomatch h) ⟨(by unfold rg_ps; first | (rw [if_pos (by omega)]; done) | (rw [if_neg (by omega), if_pos (by omega)]; done) | (rw [if_neg (by omega), if_neg (by omega), if_pos (by omega)]; done) | (rw [if_neg (by omega), if_neg (by omega), if_neg (by omega), if_pos (by omega)]; done) | rw [if_neg (by omega), if_neg (by omega), if_neg (by omega), if_neg (by omega)]), rfl⟩
  ·
    refine rg_iconst F dX5_partingStep_12 ?_
    exact hR _ _ _ _ dX5_partingStep_13 (fun h => nomatch h) ⟨(by unfold rg_ps; first | (rw [if_pos (by omega)]; done) | (rw [if_neg (by omega), if_pos (by omega)]; done) | (rw [if_neg (by omega), if_neg (by omega), if_pos (by omega)]; done) | (rw [if_neg (by omega), if_neg (by omega), if_neg (by omega), if_pos (by omega)]; done) | rw [if_neg (by omega), if_neg (by omega), if_neg (by omega), if_neg (by omega)]), rfl⟩
