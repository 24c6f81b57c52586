/-! Contracts of the reference, 6 (laid by program). -/
set_option maxHeartbeats 400000 in
set_option maxRecDepth 100000 in
/-- isThere -/
theorem k_X10_isThere (κ : rg_K) (σ : rg_S) (r b : Int) (nb : Nat) (nr : Nat) (h0_1 : σ 0 1 = ((nb : Nat) : Int)) (h0_4 : σ 0 4 = ((nr : Nat) : Int)) (hnb : nb ≤ 40) (hnr : nr ≤ 16) (hr : rg_Rg r) (hb : rg_Rg b) : rg_CI κ rg_tM yX10_isThere cX10_isThere 3 FieldType.boolean 1 22 [.ref (κ.2.2.2 0), .int (rg_I r), .int (rg_I b)] σ (fun r9 σ9 => r9 = (rg_b (rg_th ((nb : Nat) : Int) ((nr : Nat) : Int) r b)) ∧ σ9 = σ) := by
  refine rg_entI [(0, .ref (κ.2.2.2 0)), (1, .int (rg_I r)), (2, .int (rg_I b))] rfl (by decide +kernel) (Nat.le_of_ble_eq_true rfl) (by first | exact Or.inl rfl | exact Or.inr rfl) (fun Γ F hR => ?_)
  refine rg_iload_n F 1 1 rfl dX10_isThere_0 rfl ?_
  refine rg_iconst F dX10_isThere_1 ?_
  refine rg_aload_n F 0 0 rfl dX10_isThere_2 rfl ?_
  refine rg_get F 0 4 tM0 cX10 k_lays_X10 (by decide) k_fl_X10_99 rfl (v := .int (rg_I ((nr : Nat) : Int))) (congrArg (fun x => Value.int (rg_I x)) h0_4) dX10_isThere_3 ?_
  refine rg_iconst F dX10_isThere_6 ?_
  refine rg_isub F dX10_isThere_7 ?_
  refine rg_callSI F [.int (rg_I r), .int (rg_I 0), .int (rg_I (((nr : Nat) : Int) - 1))] [] (k_X10_in κ rg_tM σ (r) (0) ((((nr : Nat) : Int) - 1)) (by first | assumption | omega) (by first | assumption | omega) (by first | assumption | omega)) v_X10_in k_st_yX10_in k_ml_X10_172 ⟨Nat.le_of_ble_eq_true rfl, Nat.le_of_ble_eq_true rfl⟩ rfl (Nat.le_of_ble_eq_true rfl) dX10_isThere_8 (rg_ex2 ?_)
  show rg_G κ Γ rg_tM 3 0 0 (8 + 3) [(0, .ref (κ.2.2.2 0)), (1, .int (rg_I r)), (2, .int (rg_I b))] [.int (rg_I (rg_b (0 ≤ r ∧ r ≤ (((nr : Nat) : Int) - 1))))] σ
  refine rg_if_eq F 32 dX10_isThere_11 (by decide) (by have b0 := rg_b_Rg (0 ≤ r ∧ r ≤ (((nr : Nat) : Int) - 1)); omega) (fun c11_1 => ?_) (fun c11_1 => ?_)
  ·
    have c11_1 := (rg_b_eq0 _).mp c11_1
    refine rg_iconst F dX10_isThere_32 ?_
    exact hR _ _ _ _ dX10_isThere_33 (fun _ => Or.inl rfl) ⟨(rg_b_f (by omega)).symm, rfl⟩
  ·
    have c11_1 := (rg_b_ne0 _).mp c11_1
    refine rg_iload_n F 2 2 rfl dX10_isThere_14 rfl ?_
    refine rg_iconst F dX10_isThere_15 ?_
    refine rg_aload_n F 0 0 rfl dX10_isThere_16 rfl ?_
    refine rg_get F 0 1 tM0 cX10 k_lays_X10 (by decide) k_fl_X10_102 rfl (v := .int (rg_I ((nb : Nat) : Int))) (congrArg (fun x => Value.int (rg_I x)) h0_1) dX10_isThere_17 ?_
    refine rg_iconst F dX10_isThere_20 ?_
    refine rg_isub F dX10_isThere_21 ?_
    refine rg_callSI F [.int (rg_I b), .int (rg_I 0), .int (rg_I (((nb : Nat) : Int) - 1))] [] (k_X10_in κ rg_tM σ (b) (0) ((((nb : Nat) : Int) - 1)) (by first | assumption | omega) (by first | assumption | omega) (by first | assumption | omega)) v_X10_in k_st_yX10_in k_ml_X10_172 ⟨Nat.le_of_ble_eq_true rfl, Nat.le_of_ble_eq_true rfl⟩ rfl (Nat.le_of_ble_eq_true rfl) dX10_isThere_22 (rg_ex2 ?_)
    show rg_G κ Γ rg_tM 3 0 0 (22 + 3) [(0, .ref (κ.2.2.2 0)), (1, .int (rg_I r)), (2, .int (rg_I b))] [.int (rg_I (rg_b (0 ≤ b ∧ b ≤ (((nb : Nat) : Int) - 1))))] σ
    refine rg_if_eq F 32 dX10_isThere_25 (by decide) (by have b0 := rg_b_Rg (0 ≤ b ∧ b ≤ (((nb : Nat) : Int) - 1)); omega) (fun c25_2 => ?_) (fun c25_2 => ?_)
    ·
      have c25_2 := (rg_b_eq0 _).mp c25_2
      refine rg_iconst F dX10_isThere_32 ?_
      exact hR _ _ _ _ dX10_isThere_33 (fun _ => Or.inl rfl) ⟨(rg_b_f (by omega)).symm, rfl⟩
    ·
      have c25_2 := (rg_b_ne0 _).mp c25_2
      refine rg_iconst F dX10_isThere_28 ?_
      refine rg_goto F 33 dX10_isThere_29 (by decide) ?_
      exact hR _ _ _ _ dX10_isThere_33 (fun _ => Or.inr rfl) ⟨(rg_b_t (by omega)).symm, rfl⟩
set_option maxHeartbeats 400000 in
set_option maxRecDepth 100000 in
/-- wrong -/
theorem k_X10_wrong (κ : rg_K) (σ : rg_S) (r b c x : Int) (fl : Nat → Int) (rf : Nat → Int) (nb : Nat) (nr : Nat) (h2 : σ 2 = fl) (h4 : σ 4 = rf) (h0_1 : σ 0 1 = ((nb : Nat) : Int)) (h0_4 : σ 0 4 = ((nr : Nat) : Int)) (hnb : nb ≤ 40) (hnr : nr ≤ 16) (hr : rg_Rg r) (hb : rg_Rg b) (hcc : rg_Rg c) (hx : rg_Rg x) (hfl : ∀ j, rg_Rg (fl j)) (hrf : ∀ j, rg_Rg (rf j)) : rg_CI κ rg_tM yX10_wrong cX10_wrong 6 FieldType.int 2 44 [.ref (κ.2.2.2 0), .int (rg_I r), .int (rg_I b), .int (rg_I c), .int (rg_I x)] σ (fun r9 σ9 => r9 = (rg_wg rf fl ((nb : Nat) : Int) ((nr : Nat) : Int) r b c x) ∧ σ9 = σ) := by
  refine rg_entI [(0, .ref (κ.2.2.2 0)), (1, .int (rg_I r)), (2, .int (rg_I b)), (3, .int (rg_I c)), (4, .int (rg_I x))] rfl (by decide +kernel) (Nat.le_of_ble_eq_true rfl) (by first | exact Or.inl rfl | exact Or.inr rfl) (fun Γ F hR => ?_)
  refine rg_aload_n F 0 0 rfl dX10_wrong_0 rfl ?_
  refine rg_iload_n F 1 1 rfl dX10_wrong_1 rfl ?_
  refine rg_iload_n F 2 2 rfl dX10_wrong_2 rfl ?_
  refine rg_callVI F [.int (rg_I r), .int (rg_I b)] [] 0 (k_X10_isThere κ σ (r) (b) (nb) (nr) (h0_1) (h0_4) (by first | assumption | omega) (by first | assumption | omega) (by first | assumption | omega) (by first | assumption | omega)) tM0 cX10 v_X10_isThere i_X10_isThere k_ml_X10_176 ⟨Nat.le_of_ble_eq_true rfl, Nat.le_of_ble_eq_true rfl⟩ rfl (Nat.le_of_ble_eq_true rfl) dX10_wrong_3 (rg_ex2 ?_)
  show rg_G κ Γ rg_tM 6 0 0 (3 + 3) [(0, .ref (κ.2.2.2 0)), (1, .int (rg_I r)), (2, .int (rg_I b)), (3, .int (rg_I c)), (4, .int (rg_I x))] [.int (rg_I (rg_b (rg_th ((nb : Nat) : Int) ((nr : Nat) : Int) r b)))] σ
  refine rg_if_ne F 11 dX10_wrong_6 (by decide) (by have b0 := rg_b_Rg (rg_th ((nb : Nat) : Int) ((nr : Nat) : Int) r b); omega) (fun c6_1 => ?_) (fun c6_1 => ?_)
  ·
    have c6_1 := (rg_b_ne0 _).mp c6_1
    refine rg_aload_n F 0 0 rfl dX10_wrong_11 rfl ?_
    refine rg_iload_n F 1 1 rfl dX10_wrong_12 rfl ?_
    refine rg_stk (st' := [.int (rg_I ((Int.toNat r : Nat) : Int)), .ref (κ.2.2.2 0)]) (by rw [Int.toNat_of_nonneg (a := r) (by omega)]) ?_
    refine rg_iload_n F 2 2 rfl dX10_wrong_13 rfl ?_
    refine rg_stk (st' := [.int (rg_I ((Int.toNat b : Nat) : Int)), .int (rg_I ((Int.toNat r : Nat) : Int)), .ref (κ.2.2.2 0)]) (by rw [Int.toNat_of_nonneg (a := b) (by omega)]) ?_
    refine rg_callVI F [.int (rg_I ((Int.toNat r : Nat) : Int)), .int (rg_I ((Int.toNat b : Nat) : Int))] [] 0 (k_X10_isOf κ σ ((Int.toNat r)) ((Int.toNat b)) fl rf (h2) (h4) (by first | assumption | omega) (by first | assumption | omega) (by first | assumption | omega) (by first | assumption | omega)) tM0 cX10 v_X10_isOf i_X10_isOf k_ml_X10_109 ⟨Nat.le_of_ble_eq_true rfl, Nat.le_of_ble_eq_true rfl⟩ rfl (Nat.le_of_ble_eq_true rfl) dX10_wrong_14 (rg_ex2 ?_)
    show rg_G κ Γ rg_tM 6 0 0 (14 + 3) [(0, .ref (κ.2.2.2 0)), (1, .int (rg_I r)), (2, .int (rg_I b)), (3, .int (rg_I c)), (4, .int (rg_I x))] [.int (rg_I (rg_b (rg_isr rf fl (Int.toNat r) (Int.toNat b))))] σ
    refine rg_if_ne F 22 dX10_wrong_17 (by decide) (by have b0 := rg_b_Rg (rg_isr rf fl (Int.toNat r) (Int.toNat b)); omega) (fun c17_2 => ?_) (fun c17_2 => ?_)
    ·
      have c17_2 := (rg_b_ne0 _).mp c17_2
      refine rg_iload_n F 3 3 rfl dX10_wrong_22 rfl ?_
      refine rg_if_ne F 37 dX10_wrong_23 (by decide) (by omega) (fun c23_3 => ?_) (fun c23_3 => ?_)
      ·
        refine rg_iload_n F 3 3 rfl dX10_wrong_37 rfl ?_
        refine rg_bipush F dX10_wrong_38 (by decide +kernel) ?_
        refine rg_icmp_ne F 55 dX10_wrong_40 (by decide) (by omega) (by omega) (fun c40_4 => ?_) (fun c40_4 => ?_)
        ·
          refine rg_iload_n F 3 3 rfl dX10_wrong_55 rfl ?_
          refine rg_iconst F dX10_wrong_56 ?_
          refine rg_bipush F dX10_wrong_57 (by decide +kernel) ?_
          refine rg_callSI F [.int (rg_I c), .int (rg_I 1), .int (rg_I 7)] [] (k_X10_in κ rg_tM σ (c) (1) (7) (by first | assumption | omega) (by first | assumption | omega) (by first | assumption | omega)) v_X10_in k_st_yX10_in k_ml_X10_172 ⟨Nat.le_of_ble_eq_true rfl, Nat.le_of_ble_eq_true rfl⟩ rfl (Nat.le_of_ble_eq_true rfl) dX10_wrong_59 (rg_ex2 ?_)
          show rg_G κ Γ rg_tM 6 0 0 (59 + 3) [(0, .ref (κ.2.2.2 0)), (1, .int (rg_I r)), (2, .int (rg_I b)), (3, .int (rg_I c)), (4, .int (rg_I x))] [.int (rg_I (rg_b (1 ≤ c ∧ c ≤ 7)))] σ
          refine rg_if_eq F 74 dX10_wrong_62 (by decide) (by have b0 := rg_b_Rg (1 ≤ c ∧ c ≤ 7); omega) (fun c62_5 => ?_) (fun c62_5 => ?_)
          ·
            have c62_5 := (rg_b_eq0 _).mp c62_5
            refine rg_iconst F dX10_wrong_74 ?_
            refine rg_istore F [(5, .int (rg_I 0)), (0, .ref (κ.2.2.2 0)), (1, .int (rg_I r)), (2, .int (rg_I b)), (3, .int (rg_I c)), (4, .int (rg_I x))] dX10_wrong_75 (by decide) rfl ?_
            refine rg_iload F 0 5 rfl dX10_wrong_77 ?_
            refine rg_if_eq F 86 dX10_wrong_79 (by decide) (by omega) (fun c79_6 => ?_) (fun c79_6 => ?_)
            ·
              refine rg_iconst F dX10_wrong_86 ?_
              exact hR _ _ _ _ dX10_wrong_87 (fun h => nomatch h) ⟨(by unfold rg_wg; (repeat' split) <;> omega), rfl⟩
            · exfalso; omega
          ·
            have c62_5 := (rg_b_ne0 _).mp c62_5
            refine rg_iload F 4 4 rfl dX10_wrong_65 ?_
            refine rg_if_ne F 74 dX10_wrong_67 (by decide) (by omega) (fun c67_7 => ?_) (fun c67_7 => ?_)
            ·
              refine rg_iconst F dX10_wrong_74 ?_
              refine rg_istore F [(5, .int (rg_I 0)), (0, .ref (κ.2.2.2 0)), (1, .int (rg_I r)), (2, .int (rg_I b)), (3, .int (rg_I c)), (4, .int (rg_I x))] dX10_wrong_75 (by decide) rfl ?_
              refine rg_iload F 0 5 rfl dX10_wrong_77 ?_
              refine rg_if_eq F 86 dX10_wrong_79 (by decide) (by omega) (fun c79_8 => ?_) (fun c79_8 => ?_)
              ·
                refine rg_iconst F dX10_wrong_86 ?_
                exact hR _ _ _ _ dX10_wrong_87 (fun h => nomatch h) ⟨(by unfold rg_wg; (repeat' split) <;> omega), rfl⟩
              · exfalso; omega
            ·
              refine rg_iconst F dX10_wrong_70 ?_
              refine rg_goto F 75 dX10_wrong_71 (by decide) ?_
              refine rg_istore F [(5, .int (rg_I 1)), (0, .ref (κ.2.2.2 0)), (1, .int (rg_I r)), (2, .int (rg_I b)), (3, .int (rg_I c)), (4, .int (rg_I x))] dX10_wrong_75 (by decide) rfl ?_
              refine rg_iload F 0 5 rfl dX10_wrong_77 ?_
              refine rg_if_eq F 86 dX10_wrong_79 (by decide) (by omega) (fun c79_9 => ?_) (fun c79_9 => ?_)
              · exfalso; omega
              ·
                refine rg_iconst F dX10_wrong_82 ?_
                refine rg_goto F 87 dX10_wrong_83 (by decide) ?_
                exact hR _ _ _ _ dX10_wrong_87 (fun h => nomatch h) ⟨(by unfold rg_wg; (repeat' split) <;> omega), rfl⟩
        ·
          refine rg_iload F 4 4 rfl dX10_wrong_43 ?_
          refine rg_iconst F dX10_wrong_45 ?_
          refine rg_sipush F dX10_wrong_46 (by decide +kernel) ?_
          refine rg_callSI F [.int (rg_I x), .int (rg_I 0), .int (rg_I 9999)] [] (k_X10_in κ rg_tM σ (x) (0) (9999) (by first | assumption | omega) (by first | assumption | omega) (by first | assumption | omega)) v_X10_in k_st_yX10_in k_ml_X10_172 ⟨Nat.le_of_ble_eq_true rfl, Nat.le_of_ble_eq_true rfl⟩ rfl (Nat.le_of_ble_eq_true rfl) dX10_wrong_49 (rg_ex2 ?_)
          show rg_G κ Γ rg_tM 6 0 0 (49 + 3) [(0, .ref (κ.2.2.2 0)), (1, .int (rg_I r)), (2, .int (rg_I b)), (3, .int (rg_I c)), (4, .int (rg_I x))] [.int (rg_I (rg_b (0 ≤ x ∧ x ≤ 9999)))] σ
          refine rg_goto F 75 dX10_wrong_52 (by decide) ?_
          refine rg_istore F [(5, .int (rg_I (rg_b (0 ≤ x ∧ x ≤ 9999)))), (0, .ref (κ.2.2.2 0)), (1, .int (rg_I r)), (2, .int (rg_I b)), (3, .int (rg_I c)), (4, .int (rg_I x))] dX10_wrong_75 (by decide) rfl ?_
          refine rg_iload F 0 5 rfl dX10_wrong_77 ?_
          refine rg_if_eq F 86 dX10_wrong_79 (by decide) (by have b0 := rg_b_Rg (0 ≤ x ∧ x ≤ 9999); omega) (fun c79_10 => ?_) (fun c79_10 => ?_)
          ·
            have c79_10 := (rg_b_eq0 _).mp c79_10
            refine rg_iconst F dX10_wrong_86 ?_
            exact hR _ _ _ _ dX10_wrong_87 (fun h => nomatch h) ⟨(by unfold rg_wg; (repeat' split) <;> omega), rfl⟩
          ·
            have c79_10 := (rg_b_ne0 _).mp c79_10
            refine rg_iconst F dX10_wrong_82 ?_
            refine rg_goto F 87 dX10_wrong_83 (by decide) ?_
            exact hR _ _ _ _ dX10_wrong_87 (fun h => nomatch h) ⟨(by unfold rg_wg; (repeat' split) <;> omega), rfl⟩
      ·
        refine rg_iload F 4 4 rfl dX10_wrong_26 ?_
        refine rg_iconst F dX10_wrong_28 ?_
        refine rg_bipush F dX10_wrong_29 (by decide +kernel) ?_
        refine rg_callSI F [.int (rg_I x), .int (rg_I 1), .int (rg_I 99)] [] (k_X10_in κ rg_tM σ (x) (1) (99) (by first | assumption | omega) (by first | assumption | omega) (by first | assumption | omega)) v_X10_in k_st_yX10_in k_ml_X10_172 ⟨Nat.le_of_ble_eq_true rfl, Nat.le_of_ble_eq_true rfl⟩ rfl (Nat.le_of_ble_eq_true rfl) dX10_wrong_31 (rg_ex2 ?_)
        show rg_G κ Γ rg_tM 6 0 0 (31 + 3) [(0, .ref (κ.2.2.2 0)), (1, .int (rg_I r)), (2, .int (rg_I b)), (3, .int (rg_I c)), (4, .int (rg_I x))] [.int (rg_I (rg_b (1 ≤ x ∧ x ≤ 99)))] σ
        refine rg_goto F 75 dX10_wrong_34 (by decide) ?_
        refine rg_istore F [(5, .int (rg_I (rg_b (1 ≤ x ∧ x ≤ 99)))), (0, .ref (κ.2.2.2 0)), (1, .int (rg_I r)), (2, .int (rg_I b)), (3, .int (rg_I c)), (4, .int (rg_I x))] dX10_wrong_75 (by decide) rfl ?_
        refine rg_iload F 0 5 rfl dX10_wrong_77 ?_
        refine rg_if_eq F 86 dX10_wrong_79 (by decide) (by have b0 := rg_b_Rg (1 ≤ x ∧ x ≤ 99); omega) (fun c79_11 => ?_) (fun c79_11 => ?_)
        ·
          have c79_11 := (rg_b_eq0 _).mp c79_11
          refine rg_iconst F dX10_wrong_86 ?_
          exact hR _ _ _ _ dX10_wrong_87 (fun h => nomatch h) ⟨(by unfold rg_wg; (repeat' split) <;> omega), rfl⟩
        ·
          have c79_11 := (rg_b_ne0 _).mp c79_11
          refine rg_iconst F dX10_wrong_82 ?_
          refine rg_goto F 87 dX10_wrong_83 (by decide) ?_
          exact hR _ _ _ _ dX10_wrong_87 (fun h => nomatch h) ⟨(by unfold rg_wg; (repeat' split) <;> omega), rfl⟩
    ·
      have c17_2 := (rg_b_eq0 _).mp c17_2
      refine rg_iconst F dX10_wrong_20 ?_
      exact hR _ _ _ _ dX10_wrong_21 (fun h => nomatch h) ⟨(by unfold rg_wg; (repeat' split) <;> omega), rfl⟩
  ·
    have c6_1 := (rg_b_eq0 _).mp c6_1
    refine rg_iconst F dX10_wrong_9 ?_
    exact hR _ _ _ _ dX10_wrong_10 (fun h => nomatch h) ⟨(by unfold rg_wg; (repeat' split) <;> omega), rfl⟩
set_option maxHeartbeats 400000 in
set_option maxRecDepth 100000 in
/-- enter -/
theorem k_X10_enter (κ : rg_K) (σ : rg_S) (r b : Nat) (e x : Int) (pu : Nat → Int) (pa : Nat → Int) (pp : Nat → Int) (h6 : σ 6 = pu) (h7 : σ 7 = pa) (h8 : σ 8 = pp) (hr : r < 16) (hb : b < 40) : rg_CV κ rg_tM yX10_enter cX10_enter 6 0 0 [.ref (κ.2.2.2 0), .int (rg_I ((r : Nat) : Int)), .int (rg_I ((b : Nat) : Int)), .int (rg_I e), .int (rg_I x)] σ (fun σ9 => σ9 = (rg_wr (rg_wr (rg_wr σ 6 (rg_up pu (r * 40 + b) e)) 7 (rg_up pa (r * 40 + b) x)) 8 (rg_up pp (r * 40 + b) 0))) := by
  refine rg_entV [(0, .ref (κ.2.2.2 0)), (1, .int (rg_I ((r : Nat) : Int))), (2, .int (rg_I ((b : Nat) : Int))), (3, .int (rg_I e)), (4, .int (rg_I x))] rfl (by decide +kernel) (Nat.le_of_ble_eq_true rfl) (fun Γ F hR => ?_)
  refine rg_bipush F dX10_enter_0 (by decide +kernel) ?_
  refine rg_iload_n F 1 1 rfl dX10_enter_2 rfl ?_
  refine rg_imul F dX10_enter_3 ?_
  refine rg_iload_n F 2 2 rfl dX10_enter_4 rfl ?_
  refine rg_iadd F dX10_enter_5 ?_
  refine rg_stk (st' := [.int (rg_I ((r * 40 + b : Nat) : Int))]) (congrArg (fun x9 : Int => Value.int (rg_I x9) :: []) (by omega)) ?_
  refine rg_istore F [(5, .int (rg_I ((r * 40 + b : Nat) : Int))), (0, .ref (κ.2.2.2 0)), (1, .int (rg_I ((r : Nat) : Int))), (2, .int (rg_I ((b : Nat) : Int))), (3, .int (rg_I e)), (4, .int (rg_I x))] dX10_enter_6 (by decide) rfl ?_
  refine rg_aload_n F 1 0 rfl dX10_enter_8 rfl ?_
  refine rg_get F 0 8 tM0 cX10 k_lays_X10 (by decide) k_fl_X10_26 rfl (v := .ref (κ.2.2.2 6)) rfl dX10_enter_9 ?_
  refine rg_iload F 0 5 rfl dX10_enter_12 ?_
  refine rg_iload_n F 4 3 rfl dX10_enter_14 rfl ?_
  refine rg_iast F 6 (r * 40 + b) tM6 (by omega) (by omega) (by decide) (f9 := pu) h6 (rg_wr σ 6 (rg_up pu (r * 40 + b) e)) rfl dX10_enter_15 ?_
  refine rg_aload_n F 1 0 rfl dX10_enter_16 rfl ?_
  refine rg_get F 0 9 tM0 cX10 k_lays_X10 (by decide) k_fl_X10_29 rfl (v := .ref (κ.2.2.2 7)) rfl dX10_enter_17 ?_
  refine rg_iload F 0 5 rfl dX10_enter_20 ?_
  refine rg_iload F 5 4 rfl dX10_enter_22 ?_
  refine rg_iast F 7 (r * 40 + b) tM7 (by omega) (by omega) (by decide) (f9 := pa) h7 (rg_wr (rg_wr σ 6 (rg_up pu (r * 40 + b) e)) 7 (rg_up pa (r * 40 + b) x)) rfl dX10_enter_24 ?_
  refine rg_aload_n F 1 0 rfl dX10_enter_25 rfl ?_
  refine rg_get F 0 10 tM0 cX10 k_lays_X10 (by decide) k_fl_X10_32 rfl (v := .ref (κ.2.2.2 8)) rfl dX10_enter_26 ?_
  refine rg_iload F 0 5 rfl dX10_enter_29 ?_
  refine rg_iconst F dX10_enter_31 ?_
  refine rg_iast F 8 (r * 40 + b) tM8 (by omega) (by omega) (by decide) (f9 := pp) h8 (rg_wr (rg_wr (rg_wr σ 6 (rg_up pu (r * 40 + b) e)) 7 (rg_up pa (r * 40 + b) x)) 8 (rg_up pp (r * 40 + b) 0)) rfl dX10_enter_32 ?_
  exact hR _ _ _ dX10_enter_33 rfl
set_option maxHeartbeats 400000 in
set_option maxRecDepth 100000 in
/-- decide -/
theorem k_X10_decide (κ : rg_K) (σ : rg_S) (d : Nat) (j c x : Int) (wh : Nat → Int) (wt : Nat → Int) (wa : Nat → Int) (ro : Nat → Int) (h9 : σ 9 = wh) (h10 : σ 10 = wt) (h11 : σ 11 = wa) (h12 : σ 12 = ro) (hd : d < 41) : rg_CV κ rg_tM yX10_decide cX10_decide 5 0 0 [.ref (κ.2.2.2 0), .int (rg_I ((d : Nat) : Int)), .int (rg_I j), .int (rg_I c), .int (rg_I x)] σ (fun σ9 => σ9 = (rg_wr (rg_wr (rg_wr (rg_wr σ 9 (rg_up wh d j)) 10 (rg_up wt d c)) 11 (rg_up wa d x)) 12 (rg_up ro d 0))) := by
  refine rg_entV [(0, .ref (κ.2.2.2 0)), (1, .int (rg_I ((d : Nat) : Int))), (2, .int (rg_I j)), (3, .int (rg_I c)), (4, .int (rg_I x))] rfl (by decide +kernel) (Nat.le_of_ble_eq_true rfl) (fun Γ F hR => ?_)
  refine rg_aload_n F 0 0 rfl dX10_decide_0 rfl ?_
  refine rg_get F 0 12 tM0 cX10 k_lays_X10 (by decide) k_fl_X10_35 rfl (v := .ref (κ.2.2.2 9)) rfl dX10_decide_1 ?_
  refine rg_iload_n F 1 1 rfl dX10_decide_4 rfl ?_
  refine rg_iload_n F 2 2 rfl dX10_decide_5 rfl ?_
  refine rg_iast F 9 d tM9 (by omega) (by omega) (by decide) (f9 := wh) h9 (rg_wr σ 9 (rg_up wh d j)) rfl dX10_decide_6 ?_
  refine rg_aload_n F 0 0 rfl dX10_decide_7 rfl ?_
  refine rg_get F 0 13 tM0 cX10 k_lays_X10 (by decide) k_fl_X10_38 rfl (v := .ref (κ.2.2.2 10)) rfl dX10_decide_8 ?_
  refine rg_iload_n F 1 1 rfl dX10_decide_11 rfl ?_
  refine rg_iload_n F 3 3 rfl dX10_decide_12 rfl ?_
  refine rg_iast F 10 d tM10 (by omega) (by omega) (by decide) (f9 := wt) h10 (rg_wr (rg_wr σ 9 (rg_up wh d j)) 10 (rg_up wt d c)) rfl dX10_decide_13 ?_
  refine rg_aload_n F 0 0 rfl dX10_decide_14 rfl ?_
  refine rg_get F 0 14 tM0 cX10 k_lays_X10 (by decide) k_fl_X10_41 rfl (v := .ref (κ.2.2.2 11)) rfl dX10_decide_15 ?_
  refine rg_iload_n F 1 1 rfl dX10_decide_18 rfl ?_
  refine rg_iload F 4 4 rfl dX10_decide_19 ?_
  refine rg_iast F 11 d tM11 (by omega) (by omega) (by decide) (f9 := wa) h11 (rg_wr (rg_wr (rg_wr σ 9 (rg_up wh d j)) 10 (rg_up wt d c)) 11 (rg_up wa d x)) rfl dX10_decide_21 ?_
  refine rg_aload_n F 0 0 rfl dX10_decide_22 rfl ?_
  refine rg_get F 0 15 tM0 cX10 k_lays_X10 (by decide) k_fl_X10_44 rfl (v := .ref (κ.2.2.2 12)) rfl dX10_decide_23 ?_
  refine rg_iload_n F 1 1 rfl dX10_decide_26 rfl ?_
  refine rg_iconst F dX10_decide_27 ?_
  refine rg_zast F 12 d tM12 (by omega) (by omega) (by decide) (Or.inl rfl) (f9 := ro) h12 (rg_wr (rg_wr (rg_wr (rg_wr σ 9 (rg_up wh d j)) 10 (rg_up wt d c)) 11 (rg_up wa d x)) 12 (rg_up ro d 0)) rfl dX10_decide_28 ?_
  exact hR _ _ _ dX10_decide_29 rfl
set_option maxHeartbeats 400000 in
set_option maxRecDepth 100000 in
/-- boat, done -/
theorem k_X10_boat_o (κ : rg_K) (σ : rg_S) (nb : Nat) (pa : Int) (h0_1 : σ 0 1 = ((nb : Nat) : Int)) (h0_20 : σ 0 20 = pa) (hnb : nb ≤ 40) (hpa : pa = 0 ∨ pa = 1) (hc : (rg_cB pa ((nb : Nat) : Int)) = 0) : rg_CI κ rg_tM yX10_boat cX10_boat 1 FieldType.int 0 0 [.ref (κ.2.2.2 0)] σ (fun r9 σ9 => r9 = ((nb : Nat) : Int) ∧ σ9 = (rg_wr σ 0 (rg_up (rg_up (σ 0) 0 0) 1 (((nb : Nat) : Int) + 1)))) := by
  refine rg_entI [(0, .ref (κ.2.2.2 0))] rfl (by decide +kernel) (Nat.le_of_ble_eq_true rfl) (by first | exact Or.inl rfl | exact Or.inr rfl) (fun Γ F hR => ?_)
  refine rg_aload_n F 0 0 rfl dX10_boat_0 rfl ?_
  refine rg_aload_n F 0 0 rfl dX10_boat_1 rfl ?_
  refine rg_get F 0 20 tM0 cX10 k_lays_X10 (by decide) k_fl_X10_168 rfl (v := .int (rg_I pa)) (congrArg (fun x => Value.int (rg_I x)) h0_20) dX10_boat_2 ?_
  refine rg_if_eq F 12 dX10_boat_5 (by decide) (by have b0 := hpa; omega) (fun c5_1 => ?_) (fun c5_1 => ?_)
  ·
    refine rg_aload_n F 0 0 rfl dX10_boat_12 rfl ?_
    refine rg_get F 0 1 tM0 cX10 k_lays_X10 (by decide) k_fl_X10_102 rfl (v := .int (rg_I ((nb : Nat) : Int))) (congrArg (fun x => Value.int (rg_I x)) h0_1) dX10_boat_13 ?_
    refine rg_bipush F dX10_boat_16 (by decide +kernel) ?_
    refine rg_icmp_ne F 25 dX10_boat_18 (by decide) (by omega) (by omega) (fun c18_2 => ?_) (fun c18_2 => ?_)
    ·
      refine rg_iconst F dX10_boat_25 ?_
      refine rg_put F 0 0 tM0 cX10 k_lays_X10 tyX10_ok nmX10 (by decide) k_fl_X10_89 rfl rfl rfl rfl (f9 := (σ 0)) rfl (rg_wr σ 0 (rg_up (σ 0) 0 0)) rfl dX10_boat_26 ?_
      refine rg_aload_n F 0 0 rfl dX10_boat_29 rfl ?_
      refine rg_get F 0 0 tM0 cX10 k_lays_X10 (by decide) k_fl_X10_89 rfl (v := .int (rg_I 0)) rfl dX10_boat_30 ?_
      refine rg_if_le F 38 dX10_boat_33 (by decide) (by omega) (fun c33_3 => ?_) (fun c33_3 => ?_)
      ·
        refine rg_aload_n F 0 0 rfl dX10_boat_38 rfl ?_
        refine rg_dup F dX10_boat_39 rfl ?_
        refine rg_get F 0 1 tM0 cX10 k_lays_X10 (by decide) k_fl_X10_102 rfl (v := .int (rg_I ((nb : Nat) : Int))) (congrArg (fun x => Value.int (rg_I x)) h0_1) dX10_boat_40 ?_
        refine rg_iconst F dX10_boat_43 ?_
        refine rg_iadd F dX10_boat_44 ?_
        refine rg_put F 0 1 tM0 cX10 k_lays_X10 tyX10_ok nmX10 (by decide) k_fl_X10_102 rfl rfl rfl rfl (f9 := (rg_up (σ 0) 0 0)) rfl (rg_wr σ 0 (rg_up (rg_up (σ 0) 0 0) 1 (((nb : Nat) : Int) + 1))) (rg_wr_wr _ 0 _ _) dX10_boat_45 ?_
        refine rg_aload_n F 0 0 rfl dX10_boat_48 rfl ?_
        refine rg_get F 0 1 tM0 cX10 k_lays_X10 (by decide) k_fl_X10_102 rfl (v := .int (rg_I (((nb : Nat) : Int) + 1))) rfl dX10_boat_49 ?_
        refine rg_iconst F dX10_boat_52 ?_
        refine rg_isub F dX10_boat_53 ?_
        exact hR _ _ _ _ dX10_boat_54 (fun h => nomatch h) ⟨(by omega), rfl⟩
      · exfalso; omega
    ·
      refine rg_iconst F dX10_boat_21 ?_
      refine rg_goto F 26 dX10_boat_22 (by decide) ?_
      refine rg_put F 0 0 tM0 cX10 k_lays_X10 tyX10_ok nmX10 (by decide) k_fl_X10_89 rfl rfl rfl rfl (f9 := (σ 0)) rfl (rg_wr σ 0 (rg_up (σ 0) 0 2)) rfl dX10_boat_26 ?_
      refine rg_aload_n F 0 0 rfl dX10_boat_29 rfl ?_
      refine rg_get F 0 0 tM0 cX10 k_lays_X10 (by decide) k_fl_X10_89 rfl (v := .int (rg_I 2)) rfl dX10_boat_30 ?_
      exfalso; unfold rg_cB at hc; (repeat' split at hc) <;> omega
  ·
    refine rg_iconst F dX10_boat_8 ?_
    refine rg_goto F 26 dX10_boat_9 (by decide) ?_
    refine rg_put F 0 0 tM0 cX10 k_lays_X10 tyX10_ok nmX10 (by decide) k_fl_X10_89 rfl rfl rfl rfl (f9 := (σ 0)) rfl (rg_wr σ 0 (rg_up (σ 0) 0 1)) rfl dX10_boat_26 ?_
    refine rg_aload_n F 0 0 rfl dX10_boat_29 rfl ?_
    refine rg_get F 0 0 tM0 cX10 k_lays_X10 (by decide) k_fl_X10_89 rfl (v := .int (rg_I 1)) rfl dX10_boat_30 ?_
    exfalso; unfold rg_cB at hc; (repeat' split at hc) <;> omega
set_option maxHeartbeats 400000 in
set_option maxRecDepth 100000 in
/-- boat, refused -/
theorem k_X10_boat_n (κ : rg_K) (σ : rg_S) (nb : Nat) (pa : Int) (h0_1 : σ 0 1 = ((nb : Nat) : Int)) (h0_20 : σ 0 20 = pa) (hnb : nb ≤ 40) (hpa : pa = 0 ∨ pa = 1) (hc : ¬ (rg_cB pa ((nb : Nat) : Int)) = 0) : rg_CI κ rg_tM yX10_boat cX10_boat 1 FieldType.int 0 0 [.ref (κ.2.2.2 0)] σ (fun r9 σ9 => r9 = 0 ∧ σ9 = (rg_wr σ 0 (rg_up (σ 0) 0 (rg_cB pa ((nb : Nat) : Int))))) := by
  refine rg_entI [(0, .ref (κ.2.2.2 0))] rfl (by decide +kernel) (Nat.le_of_ble_eq_true rfl) (by first | exact Or.inl rfl | exact Or.inr rfl) (fun Γ F hR => ?_)
  refine rg_aload_n F 0 0 rfl dX10_boat_0 rfl ?_
  refine rg_aload_n F 0 0 rfl dX10_boat_1 rfl ?_
  refine rg_get F 0 20 tM0 cX10 k_lays_X10 (by decide) k_fl_X10_168 rfl (v := .int (rg_I pa)) (congrArg (fun x => Value.int (rg_I x)) h0_20) dX10_boat_2 ?_
  refine rg_if_eq F 12 dX10_boat_5 (by decide) (by have b0 := hpa; omega) (fun c5_1 => ?_) (fun c5_1 => ?_)
  ·
    refine rg_aload_n F 0 0 rfl dX10_boat_12 rfl ?_
    refine rg_get F 0 1 tM0 cX10 k_lays_X10 (by decide) k_fl_X10_102 rfl (v := .int (rg_I ((nb : Nat) : Int))) (congrArg (fun x => Value.int (rg_I x)) h0_1) dX10_boat_13 ?_
    refine rg_bipush F dX10_boat_16 (by decide +kernel) ?_
    refine rg_icmp_ne F 25 dX10_boat_18 (by decide) (by omega) (by omega) (fun c18_2 => ?_) (fun c18_2 => ?_)
    ·
      refine rg_iconst F dX10_boat_25 ?_
      refine rg_put F 0 0 tM0 cX10 k_lays_X10 tyX10_ok nmX10 (by decide) k_fl_X10_89 rfl rfl rfl rfl (f9 := (σ 0)) rfl (rg_wr σ 0 (rg_up (σ 0) 0 0)) rfl dX10_boat_26 ?_
      refine rg_aload_n F 0 0 rfl dX10_boat_29 rfl ?_
      refine rg_get F 0 0 tM0 cX10 k_lays_X10 (by decide) k_fl_X10_89 rfl (v := .int (rg_I 0)) rfl dX10_boat_30 ?_
      exfalso; unfold rg_cB at hc; (repeat' split at hc) <;> omega
    ·
      refine rg_iconst F dX10_boat_21 ?_
      refine rg_goto F 26 dX10_boat_22 (by decide) ?_
      refine rg_put F 0 0 tM0 cX10 k_lays_X10 tyX10_ok nmX10 (by decide) k_fl_X10_89 rfl rfl rfl rfl (f9 := (σ 0)) rfl (rg_wr σ 0 (rg_up (σ 0) 0 2)) rfl dX10_boat_26 ?_
      refine rg_aload_n F 0 0 rfl dX10_boat_29 rfl ?_
      refine rg_get F 0 0 tM0 cX10 k_lays_X10 (by decide) k_fl_X10_89 rfl (v := .int (rg_I 2)) rfl dX10_boat_30 ?_
      refine rg_if_le F 38 dX10_boat_33 (by decide) (by omega) (fun c33_3 => ?_) (fun c33_3 => ?_)
      · exfalso; omega
      ·
        refine rg_iconst F dX10_boat_36 ?_
        exact hR _ _ _ _ dX10_boat_37 (fun h => nomatch h) ⟨rfl, (rg_wr_congr (f := (rg_up (σ 0) 0 2)) (g := (rg_up (σ 0) 0 (rg_cB pa ((nb : Nat) : Int)))) 0 rfl (by (repeat rw [rg_up_up]) <;> first | rfl | exact congrArg (rg_up _ 0) (by unfold rg_cB; (repeat' split) <;> omega)))⟩
  ·
    refine rg_iconst F dX10_boat_8 ?_
    refine rg_goto F 26 dX10_boat_9 (by decide) ?_
    refine rg_put F 0 0 tM0 cX10 k_lays_X10 tyX10_ok nmX10 (by decide) k_fl_X10_89 rfl rfl rfl rfl (f9 := (σ 0)) rfl (rg_wr σ 0 (rg_up (σ 0) 0 1)) rfl dX10_boat_26 ?_
    refine rg_aload_n F 0 0 rfl dX10_boat_29 rfl ?_
    refine rg_get F 0 0 tM0 cX10 k_lays_X10 (by decide) k_fl_X10_89 rfl (v := .int (rg_I 1)) rfl dX10_boat_30 ?_
    refine rg_if_le F 38 dX10_boat_33 (by decide) (by omega) (fun c33_4 => ?_) (fun c33_4 => ?_)
    · exfalso; omega
    ·
      refine rg_iconst F dX10_boat_36 ?_
      exact hR _ _ _ _ dX10_boat_37 (fun h => nomatch h) ⟨rfl, (rg_wr_congr (f := (rg_up (σ 0) 0 1)) (g := (rg_up (σ 0) 0 (rg_cB pa ((nb : Nat) : Int)))) 0 rfl (by (repeat rw [rg_up_up]) <;> first | rfl | exact congrArg (rg_up _ 0) (by unfold rg_cB; (repeat' split) <;> omega)))⟩
set_option maxHeartbeats 400000 in
set_option maxRecDepth 100000 in
/-- race, done -/
theorem k_X10_race_o (κ : rg_K) (σ : rg_S) (k f : Int) (kd : Nat → Int) (rf : Nat → Int) (nr : Nat) (pa : Int) (h3 : σ 3 = kd) (h4 : σ 4 = rf) (h0_4 : σ 0 4 = ((nr : Nat) : Int)) (h0_20 : σ 0 20 = pa) (hnr : nr ≤ 16) (hpa : pa = 0 ∨ pa = 1) (hk : rg_Rg k) (hf : rg_Rg f) (hc : (rg_cR pa ((nr : Nat) : Int) k f) = 0) : rg_CI κ rg_tM yX10_race cX10_race 4 FieldType.int 1 22 [.ref (κ.2.2.2 0), .int (rg_I k), .int (rg_I f)] σ (fun r9 σ9 => r9 = ((nr : Nat) : Int) ∧ σ9 = (rg_wr (rg_wr (rg_wr σ 0 (rg_up (rg_up (σ 0) 0 0) 4 (((nr : Nat) : Int) + 1))) 3 (rg_up kd nr k)) 4 (rg_up rf nr f))) := by
  refine rg_entI [(0, .ref (κ.2.2.2 0)), (1, .int (rg_I k)), (2, .int (rg_I f))] rfl (by decide +kernel) (Nat.le_of_ble_eq_true rfl) (by first | exact Or.inl rfl | exact Or.inr rfl) (fun Γ F hR => ?_)
  refine rg_aload_n F 0 0 rfl dX10_race_0 rfl ?_
  refine rg_iload_n F 1 1 rfl dX10_race_1 rfl ?_
  refine rg_iconst F dX10_race_2 ?_
  refine rg_iconst F dX10_race_3 ?_
  refine rg_callSI F [.int (rg_I k), .int (rg_I 0), .int (rg_I 2)] [.ref (κ.2.2.2 0)] (k_X10_in κ rg_tM σ (k) (0) (2) (by first | assumption | omega) (by first | assumption | omega) (by first | assumption | omega)) v_X10_in k_st_yX10_in k_ml_X10_172 ⟨Nat.le_of_ble_eq_true rfl, Nat.le_of_ble_eq_true rfl⟩ rfl (Nat.le_of_ble_eq_true rfl) dX10_race_4 (rg_ex2 ?_)
  show rg_G κ Γ rg_tM 4 0 0 (4 + 3) [(0, .ref (κ.2.2.2 0)), (1, .int (rg_I k)), (2, .int (rg_I f))] [.int (rg_I (rg_b (0 ≤ k ∧ k ≤ 2))), .ref (κ.2.2.2 0)] σ
  refine rg_if_eq F 19 dX10_race_7 (by decide) (by have b0 := rg_b_Rg (0 ≤ k ∧ k ≤ 2); omega) (fun c7_1 => ?_) (fun c7_1 => ?_)
  ·
    have c7_1 := (rg_b_eq0 _).mp c7_1
    refine rg_iconst F dX10_race_19 ?_
    refine rg_goto F 24 dX10_race_20 (by decide) ?_
    refine rg_put F 0 0 tM0 cX10 k_lays_X10 tyX10_ok nmX10 (by decide) k_fl_X10_89 rfl rfl rfl rfl (f9 := (σ 0)) rfl (rg_wr σ 0 (rg_up (σ 0) 0 1)) rfl dX10_race_24 ?_
    refine rg_aload_n F 0 0 rfl dX10_race_27 rfl ?_
    refine rg_get F 0 0 tM0 cX10 k_lays_X10 (by decide) k_fl_X10_89 rfl (v := .int (rg_I 1)) rfl dX10_race_28 ?_
    exfalso; unfold rg_cR at hc; (repeat' split at hc) <;> omega
  ·
    have c7_1 := (rg_b_ne0 _).mp c7_1
    refine rg_iload_n F 2 2 rfl dX10_race_10 rfl ?_
    refine rg_iconst F dX10_race_11 ?_
    refine rg_iconst F dX10_race_12 ?_
    refine rg_callSI F [.int (rg_I f), .int (rg_I 0), .int (rg_I 3)] [.ref (κ.2.2.2 0)] (k_X10_in κ rg_tM σ (f) (0) (3) (by first | assumption | omega) (by first | assumption | omega) (by first | assumption | omega)) v_X10_in k_st_yX10_in k_ml_X10_172 ⟨Nat.le_of_ble_eq_true rfl, Nat.le_of_ble_eq_true rfl⟩ rfl (Nat.le_of_ble_eq_true rfl) dX10_race_13 (rg_ex2 ?_)
    show rg_G κ Γ rg_tM 4 0 0 (13 + 3) [(0, .ref (κ.2.2.2 0)), (1, .int (rg_I k)), (2, .int (rg_I f))] [.int (rg_I (rg_b (0 ≤ f ∧ f ≤ 3))), .ref (κ.2.2.2 0)] σ
    refine rg_if_ne F 23 dX10_race_16 (by decide) (by have b0 := rg_b_Rg (0 ≤ f ∧ f ≤ 3); omega) (fun c16_2 => ?_) (fun c16_2 => ?_)
    ·
      have c16_2 := (rg_b_ne0 _).mp c16_2
      refine rg_iconst F dX10_race_23 ?_
      refine rg_put F 0 0 tM0 cX10 k_lays_X10 tyX10_ok nmX10 (by decide) k_fl_X10_89 rfl rfl rfl rfl (f9 := (σ 0)) rfl (rg_wr σ 0 (rg_up (σ 0) 0 0)) rfl dX10_race_24 ?_
      refine rg_aload_n F 0 0 rfl dX10_race_27 rfl ?_
      refine rg_get F 0 0 tM0 cX10 k_lays_X10 (by decide) k_fl_X10_89 rfl (v := .int (rg_I 0)) rfl dX10_race_28 ?_
      refine rg_if_le F 36 dX10_race_31 (by decide) (by omega) (fun c31_3 => ?_) (fun c31_3 => ?_)
      ·
        refine rg_aload_n F 0 0 rfl dX10_race_36 rfl ?_
        refine rg_get F 0 20 tM0 cX10 k_lays_X10 (by decide) k_fl_X10_168 rfl (v := .int (rg_I pa)) (congrArg (fun x => Value.int (rg_I x)) h0_20) dX10_race_37 ?_
        refine rg_if_eq F 59 dX10_race_40 (by decide) (by have b0 := hpa; omega) (fun c40_4 => ?_) (fun c40_4 => ?_)
        ·
          refine rg_iload_n F 1 1 rfl dX10_race_59 rfl ?_
          refine rg_iconst F dX10_race_60 ?_
          refine rg_icmp_eq F 68 dX10_race_61 (by decide) (by omega) (by omega) (fun c61_5 => ?_) (fun c61_5 => ?_)
          ·
            refine rg_iconst F dX10_race_68 ?_
            refine rg_goto F 73 dX10_race_69 (by decide) ?_
            refine rg_istore_n F [(3, .int (rg_I 1)), (0, .ref (κ.2.2.2 0)), (1, .int (rg_I k)), (2, .int (rg_I f))] dX10_race_73 rfl (by decide) rfl ?_
            refine rg_aload_n F 1 0 rfl dX10_race_74 rfl ?_
            refine rg_iload_n F 0 3 rfl dX10_race_75 rfl ?_
            refine rg_if_eq F 83 dX10_race_76 (by decide) (by omega) (fun c76_6 => ?_) (fun c76_6 => ?_)
            · exfalso; omega
            ·
              refine rg_iconst F dX10_race_79 ?_
              refine rg_goto F 97 dX10_race_80 (by decide) ?_
              refine rg_put F 0 0 tM0 cX10 k_lays_X10 tyX10_ok nmX10 (by decide) k_fl_X10_89 rfl rfl rfl rfl (f9 := (rg_up (σ 0) 0 0)) rfl (rg_wr σ 0 (rg_up (rg_up (σ 0) 0 0) 0 2)) (rg_wr_wr _ 0 _ _) dX10_race_97 ?_
              refine rg_aload_n F 1 0 rfl dX10_race_100 rfl ?_
              refine rg_get F 0 0 tM0 cX10 k_lays_X10 (by decide) k_fl_X10_89 rfl (v := .int (rg_I 2)) rfl dX10_race_101 ?_
              exfalso; unfold rg_cR at hc; (repeat' split at hc) <;> omega
          ·
            refine rg_iload_n F 2 2 rfl dX10_race_64 rfl ?_
            refine rg_if_eq F 72 dX10_race_65 (by decide) (by omega) (fun c65_7 => ?_) (fun c65_7 => ?_)
            ·
              refine rg_iconst F dX10_race_72 ?_
              refine rg_istore_n F [(3, .int (rg_I 0)), (0, .ref (κ.2.2.2 0)), (1, .int (rg_I k)), (2, .int (rg_I f))] dX10_race_73 rfl (by decide) rfl ?_
              refine rg_aload_n F 1 0 rfl dX10_race_74 rfl ?_
              refine rg_iload_n F 0 3 rfl dX10_race_75 rfl ?_
              refine rg_if_eq F 83 dX10_race_76 (by decide) (by omega) (fun c76_8 => ?_) (fun c76_8 => ?_)
              ·
                refine rg_aload_n F 1 0 rfl dX10_race_83 rfl ?_
                refine rg_get F 0 4 tM0 cX10 k_lays_X10 (by decide) k_fl_X10_99 rfl (v := .int (rg_I ((nr : Nat) : Int))) (congrArg (fun x => Value.int (rg_I x)) h0_4) dX10_race_84 ?_
                refine rg_bipush F dX10_race_87 (by decide +kernel) ?_
                refine rg_icmp_ne F 96 dX10_race_89 (by decide) (by omega) (by omega) (fun c89_9 => ?_) (fun c89_9 => ?_)
                ·
                  refine rg_iconst F dX10_race_96 ?_
                  refine rg_put F 0 0 tM0 cX10 k_lays_X10 tyX10_ok nmX10 (by decide) k_fl_X10_89 rfl rfl rfl rfl (f9 := (rg_up (σ 0) 0 0)) rfl (rg_wr σ 0 (rg_up (rg_up (σ 0) 0 0) 0 0)) (rg_wr_wr _ 0 _ _) dX10_race_97 ?_
                  refine rg_aload_n F 1 0 rfl dX10_race_100 rfl ?_
                  refine rg_get F 0 0 tM0 cX10 k_lays_X10 (by decide) k_fl_X10_89 rfl (v := .int (rg_I 0)) rfl dX10_race_101 ?_
                  refine rg_if_le F 109 dX10_race_104 (by decide) (by omega) (fun c104_10 => ?_) (fun c104_10 => ?_)
                  ·
                    refine rg_aload_n F 1 0 rfl dX10_race_109 rfl ?_
                    refine rg_get F 0 5 tM0 cX10 k_lays_X10 (by decide) k_fl_X10_16 rfl (v := .ref (κ.2.2.2 3)) rfl dX10_race_110 ?_
                    refine rg_aload_n F 1 0 rfl dX10_race_113 rfl ?_
                    refine rg_get F 0 4 tM0 cX10 k_lays_X10 (by decide) k_fl_X10_99 rfl (v := .int (rg_I ((nr : Nat) : Int))) (congrArg (fun x => Value.int (rg_I x)) h0_4) dX10_race_114 ?_
                    refine rg_iload_n F 2 1 rfl dX10_race_117 rfl ?_
                    refine rg_iast F 3 nr tM3 (by omega) (by omega) (by decide) (f9 := kd) h3 (rg_wr (rg_wr σ 0 (rg_up (rg_up (σ 0) 0 0) 0 0)) 3 (rg_up kd nr k)) rfl dX10_race_118 ?_
                    refine rg_aload_n F 1 0 rfl dX10_race_119 rfl ?_
                    refine rg_get F 0 6 tM0 cX10 k_lays_X10 (by decide) k_fl_X10_19 rfl (v := .ref (κ.2.2.2 4)) rfl dX10_race_120 ?_
                    refine rg_aload_n F 1 0 rfl dX10_race_123 rfl ?_
                    refine rg_get F 0 4 tM0 cX10 k_lays_X10 (by decide) k_fl_X10_99 rfl (v := .int (rg_I ((nr : Nat) : Int))) (congrArg (fun x => Value.int (rg_I x)) h0_4) dX10_race_124 ?_
                    refine rg_iload_n F 3 2 rfl dX10_race_127 rfl ?_
                    refine rg_iast F 4 nr tM4 (by omega) (by omega) (by decide) (f9 := rf) h4 (rg_wr (rg_wr (rg_wr σ 0 (rg_up (rg_up (σ 0) 0 0) 0 0)) 3 (rg_up kd nr k)) 4 (rg_up rf nr f)) rfl dX10_race_128 ?_
                    refine rg_aload_n F 1 0 rfl dX10_race_129 rfl ?_
                    refine rg_dup F dX10_race_130 rfl ?_
                    refine rg_get F 0 4 tM0 cX10 k_lays_X10 (by decide) k_fl_X10_99 rfl (v := .int (rg_I ((nr : Nat) : Int))) (congrArg (fun x => Value.int (rg_I x)) h0_4) dX10_race_131 ?_
                    refine rg_iconst F dX10_race_134 ?_
                    refine rg_iadd F dX10_race_135 ?_
                    refine rg_put F 0 4 tM0 cX10 k_lays_X10 tyX10_ok nmX10 (by decide) k_fl_X10_99 rfl rfl rfl rfl (f9 := (rg_up (rg_up (σ 0) 0 0) 0 0)) rfl (rg_wr (rg_wr (rg_wr σ 0 (rg_up (rg_up (rg_up (σ 0) 0 0) 0 0) 4 (((nr : Nat) : Int) + 1))) 3 (rg_up kd nr k)) 4 (rg_up rf nr f)) ((rg_wr_comm _ _ _ (by decide)).trans (rg_wr_congr 4 ((rg_wr_comm _ _ _ (by decide)).trans (rg_wr_congr 3 (rg_wr_wr _ 0 _ _) rfl)) rfl)) dX10_race_136 ?_
                    refine rg_aload_n F 1 0 rfl dX10_race_139 rfl ?_
                    refine rg_get F 0 4 tM0 cX10 k_lays_X10 (by decide) k_fl_X10_99 rfl (v := .int (rg_I (((nr : Nat) : Int) + 1))) rfl dX10_race_140 ?_
                    refine rg_iconst F dX10_race_143 ?_
                    refine rg_isub F dX10_race_144 ?_
                    exact hR _ _ _ _ dX10_race_145 (fun h => nomatch h) ⟨(by omega), (rg_wr_congr (f := (rg_up rf nr f)) (g := (rg_up rf nr f)) 4 (rg_wr_congr (f := (rg_up kd nr k)) (g := (rg_up kd nr k)) 3 (rg_wr_congr (f := (rg_up (rg_up (rg_up (σ 0) 0 0) 0 0) 4 (((nr : Nat) : Int) + 1))) (g := (rg_up (rg_up (σ 0) 0 0) 4 (((nr : Nat) : Int) + 1))) 0 rfl (by (repeat rw [rg_up_up]) <;> first | rfl | exact congrArg (rg_up _ 0) (by unfold rg_cR; (repeat' split) <;> omega))) rfl) rfl)⟩
                  · exfalso; omega
                ·
                  refine rg_iconst F dX10_race_92 ?_
                  refine rg_goto F 97 dX10_race_93 (by decide) ?_
                  refine rg_put F 0 0 tM0 cX10 k_lays_X10 tyX10_ok nmX10 (by decide) k_fl_X10_89 rfl rfl rfl rfl (f9 := (rg_up (σ 0) 0 0)) rfl (rg_wr σ 0 (rg_up (rg_up (σ 0) 0 0) 0 3)) (rg_wr_wr _ 0 _ _) dX10_race_97 ?_
                  refine rg_aload_n F 1 0 rfl dX10_race_100 rfl ?_
                  refine rg_get F 0 0 tM0 cX10 k_lays_X10 (by decide) k_fl_X10_89 rfl (v := .int (rg_I 3)) rfl dX10_race_101 ?_
                  exfalso; unfold rg_cR at hc; (repeat' split at hc) <;> omega
              · exfalso; omega
            ·
              refine rg_iconst F dX10_race_68 ?_
              refine rg_goto F 73 dX10_race_69 (by decide) ?_
              refine rg_istore_n F [(3, .int (rg_I 1)), (0, .ref (κ.2.2.2 0)), (1, .int (rg_I k)), (2, .int (rg_I f))] dX10_race_73 rfl (by decide) rfl ?_
              refine rg_aload_n F 1 0 rfl dX10_race_74 rfl ?_
              refine rg_iload_n F 0 3 rfl dX10_race_75 rfl ?_
              refine rg_if_eq F 83 dX10_race_76 (by decide) (by omega) (fun c76_11 => ?_) (fun c76_11 => ?_)
              · exfalso; omega
              ·
                refine rg_iconst F dX10_race_79 ?_
                refine rg_goto F 97 dX10_race_80 (by decide) ?_
                refine rg_put F 0 0 tM0 cX10 k_lays_X10 tyX10_ok nmX10 (by decide) k_fl_X10_89 rfl rfl rfl rfl (f9 := (rg_up (σ 0) 0 0)) rfl (rg_wr σ 0 (rg_up (rg_up (σ 0) 0 0) 0 2)) (rg_wr_wr _ 0 _ _) dX10_race_97 ?_
                refine rg_aload_n F 1 0 rfl dX10_race_100 rfl ?_
                refine rg_get F 0 0 tM0 cX10 k_lays_X10 (by decide) k_fl_X10_89 rfl (v := .int (rg_I 2)) rfl dX10_race_101 ?_
                exfalso; unfold rg_cR at hc; (repeat' split at hc) <;> omega
        ·
          refine rg_iload_n F 1 1 rfl dX10_race_43 rfl ?_
          refine rg_if_eq F 51 dX10_race_44 (by decide) (by omega) (fun c44_12 => ?_) (fun c44_12 => ?_)
          ·
            refine rg_iconst F dX10_race_51 ?_
            refine rg_goto F 73 dX10_race_52 (by decide) ?_
            refine rg_istore_n F [(3, .int (rg_I 1)), (0, .ref (κ.2.2.2 0)), (1, .int (rg_I k)), (2, .int (rg_I f))] dX10_race_73 rfl (by decide) rfl ?_
            refine rg_aload_n F 1 0 rfl dX10_race_74 rfl ?_
            refine rg_iload_n F 0 3 rfl dX10_race_75 rfl ?_
            refine rg_if_eq F 83 dX10_race_76 (by decide) (by omega) (fun c76_13 => ?_) (fun c76_13 => ?_)
            · exfalso; omega
            ·
              refine rg_iconst F dX10_race_79 ?_
              refine rg_goto F 97 dX10_race_80 (by decide) ?_
              refine rg_put F 0 0 tM0 cX10 k_lays_X10 tyX10_ok nmX10 (by decide) k_fl_X10_89 rfl rfl rfl rfl (f9 := (rg_up (σ 0) 0 0)) rfl (rg_wr σ 0 (rg_up (rg_up (σ 0) 0 0) 0 2)) (rg_wr_wr _ 0 _ _) dX10_race_97 ?_
              refine rg_aload_n F 1 0 rfl dX10_race_100 rfl ?_
              refine rg_get F 0 0 tM0 cX10 k_lays_X10 (by decide) k_fl_X10_89 rfl (v := .int (rg_I 2)) rfl dX10_race_101 ?_
              exfalso; unfold rg_cR at hc; (repeat' split at hc) <;> omega
          ·
            refine rg_iload_n F 2 2 rfl dX10_race_47 rfl ?_
            refine rg_if_ne F 55 dX10_race_48 (by decide) (by omega) (fun c48_14 => ?_) (fun c48_14 => ?_)
            ·
              refine rg_iconst F dX10_race_55 ?_
              refine rg_goto F 73 dX10_race_56 (by decide) ?_
              refine rg_istore_n F [(3, .int (rg_I 0)), (0, .ref (κ.2.2.2 0)), (1, .int (rg_I k)), (2, .int (rg_I f))] dX10_race_73 rfl (by decide) rfl ?_
              refine rg_aload_n F 1 0 rfl dX10_race_74 rfl ?_
              refine rg_iload_n F 0 3 rfl dX10_race_75 rfl ?_
              refine rg_if_eq F 83 dX10_race_76 (by decide) (by omega) (fun c76_15 => ?_) (fun c76_15 => ?_)
              ·
                refine rg_aload_n F 1 0 rfl dX10_race_83 rfl ?_
                refine rg_get F 0 4 tM0 cX10 k_lays_X10 (by decide) k_fl_X10_99 rfl (v := .int (rg_I ((nr : Nat) : Int))) (congrArg (fun x => Value.int (rg_I x)) h0_4) dX10_race_84 ?_
                refine rg_bipush F dX10_race_87 (by decide +kernel) ?_
                refine rg_icmp_ne F 96 dX10_race_89 (by decide) (by omega) (by omega) (fun c89_16 => ?_) (fun c89_16 => ?_)
                ·
                  refine rg_iconst F dX10_race_96 ?_
                  refine rg_put F 0 0 tM0 cX10 k_lays_X10 tyX10_ok nmX10 (by decide) k_fl_X10_89 rfl rfl rfl rfl (f9 := (rg_up (σ 0) 0 0)) rfl (rg_wr σ 0 (rg_up (rg_up (σ 0) 0 0) 0 0)) (rg_wr_wr _ 0 _ _) dX10_race_97 ?_
                  refine rg_aload_n F 1 0 rfl dX10_race_100 rfl ?_
                  refine rg_get F 0 0 tM0 cX10 k_lays_X10 (by decide) k_fl_X10_89 rfl (v := .int (rg_I 0)) rfl dX10_race_101 ?_
                  refine rg_if_le F 109 dX10_race_104 (by decide) (by omega) (fun c104_17 => ?_) (fun c104_17 => ?_)
                  ·
                    refine rg_aload_n F 1 0 rfl dX10_race_109 rfl ?_
                    refine rg_get F 0 5 tM0 cX10 k_lays_X10 (by decide) k_fl_X10_16 rfl (v := .ref (κ.2.2.2 3)) rfl dX10_race_110 ?_
                    refine rg_aload_n F 1 0 rfl dX10_race_113 rfl ?_
                    refine rg_get F 0 4 tM0 cX10 k_lays_X10 (by decide) k_fl_X10_99 rfl (v := .int (rg_I ((nr : Nat) : Int))) (congrArg (fun x => Value.int (rg_I x)) h0_4) dX10_race_114 ?_
                    refine rg_iload_n F 2 1 rfl dX10_race_117 rfl ?_
                    refine rg_iast F 3 nr tM3 (by omega) (by omega) (by decide) (f9 := kd) h3 (rg_wr (rg_wr σ 0 (rg_up (rg_up (σ 0) 0 0) 0 0)) 3 (rg_up kd nr k)) rfl dX10_race_118 ?_
                    refine rg_aload_n F 1 0 rfl dX10_race_119 rfl ?_
                    refine rg_get F 0 6 tM0 cX10 k_lays_X10 (by decide) k_fl_X10_19 rfl (v := .ref (κ.2.2.2 4)) rfl dX10_race_120 ?_
                    refine rg_aload_n F 1 0 rfl dX10_race_123 rfl ?_
                    refine rg_get F 0 4 tM0 cX10 k_lays_X10 (by decide) k_fl_X10_99 rfl (v := .int (rg_I ((nr : Nat) : Int))) (congrArg (fun x => Value.int (rg_I x)) h0_4) dX10_race_124 ?_
                    refine rg_iload_n F 3 2 rfl dX10_race_127 rfl ?_
                    refine rg_iast F 4 nr tM4 (by omega) (by omega) (by decide) (f9 := rf) h4 (rg_wr (rg_wr (rg_wr σ 0 (rg_up (rg_up (σ 0) 0 0) 0 0)) 3 (rg_up kd nr k)) 4 (rg_up rf nr f)) rfl dX10_race_128 ?_
                    refine rg_aload_n F 1 0 rfl dX10_race_129 rfl ?_
                    refine rg_dup F dX10_race_130 rfl ?_
                    refine rg_get F 0 4 tM0 cX10 k_lays_X10 (by decide) k_fl_X10_99 rfl (v := .int (rg_I ((nr : Nat) : Int))) (congrArg (fun x => Value.int (rg_I x)) h0_4) dX10_race_131 ?_
                    refine rg_iconst F dX10_race_134 ?_
                    refine rg_iadd F dX10_race_135 ?_
                    refine rg_put F 0 4 tM0 cX10 k_lays_X10 tyX10_ok nmX10 (by decide) k_fl_X10_99 rfl rfl rfl rfl (f9 := (rg_up (rg_up (σ 0) 0 0) 0 0)) rfl (rg_wr (rg_wr (rg_wr σ 0 (rg_up (rg_up (rg_up (σ 0) 0 0) 0 0) 4 (((nr : Nat) : Int) + 1))) 3 (rg_up kd nr k)) 4 (rg_up rf nr f)) ((rg_wr_comm _ _ _ (by decide)).trans (rg_wr_congr 4 ((rg_wr_comm _ _ _ (by decide)).trans (rg_wr_congr 3 (rg_wr_wr _ 0 _ _) rfl)) rfl)) dX10_race_136 ?_
                    refine rg_aload_n F 1 0 rfl dX10_race_139 rfl ?_
                    refine rg_get F 0 4 tM0 cX10 k_lays_X10 (by decide) k_fl_X10_99 rfl (v := .int (rg_I (((nr : Nat) : Int) + 1))) rfl dX10_race_140 ?_
                    refine rg_iconst F dX10_race_143 ?_
                    refine rg_isub F dX10_race_144 ?_
                    exact hR _ _ _ _ dX10_race_145 (fun h => nomatch h) ⟨(by omega), (rg_wr_congr (f := (rg_up rf nr f)) (g := (rg_up rf nr f)) 4 (rg_wr_congr (f := (rg_up kd nr k)) (g := (rg_up kd nr k)) 3 (rg_wr_congr (f := (rg_up (rg_up (rg_up (σ 0) 0 0) 0 0) 4 (((nr : Nat) : Int) + 1))) (g := (rg_up (rg_up (σ 0) 0 0) 4 (((nr : Nat) : Int) + 1))) 0 rfl (by (repeat rw [rg_up_up]) <;> first | rfl | exact congrArg (rg_up _ 0) (by unfold rg_cR; (repeat' split) <;> omega))) rfl) rfl)⟩
                  · exfalso; omega
                ·
                  refine rg_iconst F dX10_race_92 ?_
                  refine rg_goto F 97 dX10_race_93 (by decide) ?_
                  refine rg_put F 0 0 tM0 cX10 k_lays_X10 tyX10_ok nmX10 (by decide) k_fl_X10_89 rfl rfl rfl rfl (f9 := (rg_up (σ 0) 0 0)) rfl (rg_wr σ 0 (rg_up (rg_up (σ 0) 0 0) 0 3)) (rg_wr_wr _ 0 _ _) dX10_race_97 ?_
                  refine rg_aload_n F 1 0 rfl dX10_race_100 rfl ?_
                  refine rg_get F 0 0 tM0 cX10 k_lays_X10 (by decide) k_fl_X10_89 rfl (v := .int (rg_I 3)) rfl dX10_race_101 ?_
                  exfalso; unfold rg_cR at hc; (repeat' split at hc) <;> omega
              · exfalso; omega
            ·
              refine rg_iconst F dX10_race_51 ?_
              refine rg_goto F 73 dX10_race_52 (by decide) ?_
              refine rg_istore_n F [(3, .int (rg_I 1)), (0, .ref (κ.2.2.2 0)), (1, .int (rg_I k)), (2, .int (rg_I f))] dX10_race_73 rfl (by decide) rfl ?_
              refine rg_aload_n F 1 0 rfl dX10_race_74 rfl ?_
              refine rg_iload_n F 0 3 rfl dX10_race_75 rfl ?_
              refine rg_if_eq F 83 dX10_race_76 (by decide) (by omega) (fun c76_18 => ?_) (fun c76_18 => ?_)
              · exfalso; omega
              ·
                refine rg_iconst F dX10_race_79 ?_
                refine rg_goto F 97 dX10_race_80 (by decide) ?_
                refine rg_put F 0 0 tM0 cX10 k_lays_X10 tyX10_ok nmX10 (by decide) k_fl_X10_89 rfl rfl rfl rfl (f9 := (rg_up (σ 0) 0 0)) rfl (rg_wr σ 0 (rg_up (rg_up (σ 0) 0 0) 0 2)) (rg_wr_wr _ 0 _ _) dX10_race_97 ?_
                refine rg_aload_n F 1 0 rfl dX10_race_100 rfl ?_
                refine rg_get F 0 0 tM0 cX10 k_lays_X10 (by decide) k_fl_X10_89 rfl (v := .int (rg_I 2)) rfl dX10_race_101 ?_
                exfalso; unfold rg_cR at hc; (repeat' split at hc) <;> omega
      · exfalso; omega
    ·
      have c16_2 := (rg_b_eq0 _).mp c16_2
      refine rg_iconst F dX10_race_19 ?_
      refine rg_goto F 24 dX10_race_20 (by decide) ?_
      refine rg_put F 0 0 tM0 cX10 k_lays_X10 tyX10_ok nmX10 (by decide) k_fl_X10_89 rfl rfl rfl rfl (f9 := (σ 0)) rfl (rg_wr σ 0 (rg_up (σ 0) 0 1)) rfl dX10_race_24 ?_
      refine rg_aload_n F 0 0 rfl dX10_race_27 rfl ?_
      refine rg_get F 0 0 tM0 cX10 k_lays_X10 (by decide) k_fl_X10_89 rfl (v := .int (rg_I 1)) rfl dX10_race_28 ?_
      exfalso; unfold rg_cR at hc; (repeat' split at hc) <;> omega
set_option maxHeartbeats 400000 in
set_option maxRecDepth 100000 in
/-- race, refused -/
theorem k_X10_race_n (κ : rg_K) (σ : rg_S) (k f : Int) (kd : Nat → Int) (rf : Nat → Int) (nr : Nat) (pa : Int) (h3 : σ 3 = kd) (h4 : σ 4 = rf) (h0_4 : σ 0 4 = ((nr : Nat) : Int)) (h0_20 : σ 0 20 = pa) (hnr : nr ≤ 16) (hpa : pa = 0 ∨ pa = 1) (hk : rg_Rg k) (hf : rg_Rg f) (hc : ¬ (rg_cR pa ((nr : Nat) : Int) k f) = 0) : rg_CI κ rg_tM yX10_race cX10_race 4 FieldType.int 1 22 [.ref (κ.2.2.2 0), .int (rg_I k), .int (rg_I f)] σ (fun r9 σ9 => r9 = 0 ∧ σ9 = (rg_wr σ 0 (rg_up (σ 0) 0 (rg_cR pa ((nr : Nat) : Int) k f)))) := by
  refine rg_entI [(0, .ref (κ.2.2.2 0)), (1, .int (rg_I k)), (2, .int (rg_I f))] rfl (by decide +kernel) (Nat.le_of_ble_eq_true rfl) (by first | exact Or.inl rfl | exact Or.inr rfl) (fun Γ F hR => ?_)
  refine rg_aload_n F 0 0 rfl dX10_race_0 rfl ?_
  refine rg_iload_n F 1 1 rfl dX10_race_1 rfl ?_
  refine rg_iconst F dX10_race_2 ?_
  refine rg_iconst F dX10_race_3 ?_
  refine rg_callSI F [.int (rg_I k), .int (rg_I 0), .int (rg_I 2)] [.ref (κ.2.2.2 0)] (k_X10_in κ rg_tM σ (k) (0) (2) (by first | assumption | omega) (by first | assumption | omega) (by first | assumption | omega)) v_X10_in k_st_yX10_in k_ml_X10_172 ⟨Nat.le_of_ble_eq_true rfl, Nat.le_of_ble_eq_true rfl⟩ rfl (Nat.le_of_ble_eq_true rfl) dX10_race_4 (rg_ex2 ?_)
  show rg_G κ Γ rg_tM 4 0 0 (4 + 3) [(0, .ref (κ.2.2.2 0)), (1, .int (rg_I k)), (2, .int (rg_I f))] [.int (rg_I (rg_b (0 ≤ k ∧ k ≤ 2))), .ref (κ.2.2.2 0)] σ
  refine rg_if_eq F 19 dX10_race_7 (by decide) (by have b0 := rg_b_Rg (0 ≤ k ∧ k ≤ 2); omega) (fun c7_1 => ?_) (fun c7_1 => ?_)
  ·
    have c7_1 := (rg_b_eq0 _).mp c7_1
    refine rg_iconst F dX10_race_19 ?_
    refine rg_goto F 24 dX10_race_20 (by decide) ?_
    refine rg_put F 0 0 tM0 cX10 k_lays_X10 tyX10_ok nmX10 (by decide) k_fl_X10_89 rfl rfl rfl rfl (f9 := (σ 0)) rfl (rg_wr σ 0 (rg_up (σ 0) 0 1)) rfl dX10_race_24 ?_
    refine rg_aload_n F 0 0 rfl dX10_race_27 rfl ?_
    refine rg_get F 0 0 tM0 cX10 k_lays_X10 (by decide) k_fl_X10_89 rfl (v := .int (rg_I 1)) rfl dX10_race_28 ?_
    refine rg_if_le F 36 dX10_race_31 (by decide) (by omega) (fun c31_2 => ?_) (fun c31_2 => ?_)
    · exfalso; omega
    ·
      refine rg_iconst F dX10_race_34 ?_
      exact hR _ _ _ _ dX10_race_35 (fun h => nomatch h) ⟨rfl, (rg_wr_congr (f := (rg_up (σ 0) 0 1)) (g := (rg_up (σ 0) 0 (rg_cR pa ((nr : Nat) : Int) k f))) 0 rfl (by (repeat rw [rg_up_up]) <;> first | rfl | exact congrArg (rg_up _ 0) (by unfold rg_cR; (repeat' split) <;> omega)))⟩
  ·
    have c7_1 := (rg_b_ne0 _).mp c7_1
    refine rg_iload_n F 2 2 rfl dX10_race_10 rfl ?_
    refine rg_iconst F dX10_race_11 ?_
    refine rg_iconst F dX10_race_12 ?_
    refine rg_callSI F [.int (rg_I f), .int (rg_I 0), .int (rg_I 3)] [.ref (κ.2.2.2 0)] (k_X10_in κ rg_tM σ (f) (0) (3) (by first | assumption | omega) (by first | assumption | omega) (by first | assumption | omega)) v_X10_in k_st_yX10_in k_ml_X10_172 ⟨Nat.le_of_ble_eq_true rfl, Nat.le_of_ble_eq_true rfl⟩ rfl (Nat.le_of_ble_eq_true rfl) dX10_race_13 (rg_ex2 ?_)
    show rg_G κ Γ rg_tM 4 0 0 (13 + 3) [(0, .ref (κ.2.2.2 0)), (1, .int (rg_I k)), (2, .int (rg_I f))] [.int (rg_I (rg_b (0 ≤ f ∧ f ≤ 3))), .ref (κ.2.2.2 0)] σ
    refine rg_if_ne F 23 dX10_race_16 (by decide) (by have b0 := rg_b_Rg (0 ≤ f ∧ f ≤ 3); omega) (fun c16_3 => ?_) (fun c16_3 => ?_)
    ·
      have c16_3 := (rg_b_ne0 _).mp c16_3
      refine rg_iconst F dX10_race_23 ?_
      refine rg_put F 0 0 tM0 cX10 k_lays_X10 tyX10_ok nmX10 (by decide) k_fl_X10_89 rfl rfl rfl rfl (f9 := (σ 0)) rfl (rg_wr σ 0 (rg_up (σ 0) 0 0)) rfl dX10_race_24 ?_
      refine rg_aload_n F 0 0 rfl dX10_race_27 rfl ?_
      refine rg_get F 0 0 tM0 cX10 k_lays_X10 (by decide) k_fl_X10_89 rfl (v := .int (rg_I 0)) rfl dX10_race_28 ?_
      refine rg_if_le F 36 dX10_race_31 (by decide) (by omega) (fun c31_4 => ?_) (fun c31_4 => ?_)
      ·
        refine rg_aload_n F 0 0 rfl dX10_race_36 rfl ?_
        refine rg_get F 0 20 tM0 cX10 k_lays_X10 (by decide) k_fl_X10_168 rfl (v := .int (rg_I pa)) (congrArg (fun x => Value.int (rg_I x)) h0_20) dX10_race_37 ?_
        refine rg_if_eq F 59 dX10_race_40 (by decide) (by have b0 := hpa; omega) (fun c40_5 => ?_) (fun c40_5 => ?_)
        ·
          refine rg_iload_n F 1 1 rfl dX10_race_59 rfl ?_
          refine rg_iconst F dX10_race_60 ?_
          refine rg_icmp_eq F 68 dX10_race_61 (by decide) (by omega) (by omega) (fun c61_6 => ?_) (fun c61_6 => ?_)
          ·
            refine rg_iconst F dX10_race_68 ?_
            refine rg_goto F 73 dX10_race_69 (by decide) ?_
            refine rg_istore_n F [(3, .int (rg_I 1)), (0, .ref (κ.2.2.2 0)), (1, .int (rg_I k)), (2, .int (rg_I f))] dX10_race_73 rfl (by decide) rfl ?_
            refine rg_aload_n F 1 0 rfl dX10_race_74 rfl ?_
            refine rg_iload_n F 0 3 rfl dX10_race_75 rfl ?_
            refine rg_if_eq F 83 dX10_race_76 (by decide) (by omega) (fun c76_7 => ?_) (fun c76_7 => ?_)
            · exfalso; omega
            ·
              refine rg_iconst F dX10_race_79 ?_
              refine rg_goto F 97 dX10_race_80 (by decide) ?_
              refine rg_put F 0 0 tM0 cX10 k_lays_X10 tyX10_ok nmX10 (by decide) k_fl_X10_89 rfl rfl rfl rfl (f9 := (rg_up (σ 0) 0 0)) rfl (rg_wr σ 0 (rg_up (rg_up (σ 0) 0 0) 0 2)) (rg_wr_wr _ 0 _ _) dX10_race_97 ?_
              refine rg_aload_n F 1 0 rfl dX10_race_100 rfl ?_
              refine rg_get F 0 0 tM0 cX10 k_lays_X10 (by decide) k_fl_X10_89 rfl (v := .int (rg_I 2)) rfl dX10_race_101 ?_
              refine rg_if_le F 109 dX10_race_104 (by decide) (by omega) (fun c104_8 => ?_) (fun c104_8 => ?_)
              · exfalso; omega
              ·
                refine rg_iconst F dX10_race_107 ?_
                exact hR _ _ _ _ dX10_race_108 (fun h => nomatch h) ⟨rfl, (rg_wr_congr (f := (rg_up (rg_up (σ 0) 0 0) 0 2)) (g := (rg_up (σ 0) 0 (rg_cR pa ((nr : Nat) : Int) k f))) 0 rfl (by (repeat rw [rg_up_up]) <;> first | rfl | exact congrArg (rg_up _ 0) (by unfold rg_cR; (repeat' split) <;> omega)))⟩
          ·
            refine rg_iload_n F 2 2 rfl dX10_race_64 rfl ?_
            refine rg_if_eq F 72 dX10_race_65 (by decide) (by omega) (fun c65_9 => ?_) (fun c65_9 => ?_)
            ·
              refine rg_iconst F dX10_race_72 ?_
              refine rg_istore_n F [(3, .int (rg_I 0)), (0, .ref (κ.2.2.2 0)), (1, .int (rg_I k)), (2, .int (rg_I f))] dX10_race_73 rfl (by decide) rfl ?_
              refine rg_aload_n F 1 0 rfl dX10_race_74 rfl ?_
              refine rg_iload_n F 0 3 rfl dX10_race_75 rfl ?_
              refine rg_if_eq F 83 dX10_race_76 (by decide) (by omega) (fun c76_10 => ?_) (fun c76_10 => ?_)
              ·
                refine rg_aload_n F 1 0 rfl dX10_race_83 rfl ?_
                refine rg_get F 0 4 tM0 cX10 k_lays_X10 (by decide) k_fl_X10_99 rfl (v := .int (rg_I ((nr : Nat) : Int))) (congrArg (fun x => Value.int (rg_I x)) h0_4) dX10_race_84 ?_
                refine rg_bipush F dX10_race_87 (by decide +kernel) ?_
                refine rg_icmp_ne F 96 dX10_race_89 (by decide) (by omega) (by omega) (fun c89_11 => ?_) (fun c89_11 => ?_)
                ·
                  refine rg_iconst F dX10_race_96 ?_
                  refine rg_put F 0 0 tM0 cX10 k_lays_X10 tyX10_ok nmX10 (by decide) k_fl_X10_89 rfl rfl rfl rfl (f9 := (rg_up (σ 0) 0 0)) rfl (rg_wr σ 0 (rg_up (rg_up (σ 0) 0 0) 0 0)) (rg_wr_wr _ 0 _ _) dX10_race_97 ?_
                  refine rg_aload_n F 1 0 rfl dX10_race_100 rfl ?_
                  refine rg_get F 0 0 tM0 cX10 k_lays_X10 (by decide) k_fl_X10_89 rfl (v := .int (rg_I 0)) rfl dX10_race_101 ?_
                  exfalso; unfold rg_cR at hc; (repeat' split at hc) <;> omega
                ·
                  refine rg_iconst F dX10_race_92 ?_
                  refine rg_goto F 97 dX10_race_93 (by decide) ?_
                  refine rg_put F 0 0 tM0 cX10 k_lays_X10 tyX10_ok nmX10 (by decide) k_fl_X10_89 rfl rfl rfl rfl (f9 := (rg_up (σ 0) 0 0)) rfl (rg_wr σ 0 (rg_up (rg_up (σ 0) 0 0) 0 3)) (rg_wr_wr _ 0 _ _) dX10_race_97 ?_
                  refine rg_aload_n F 1 0 rfl dX10_race_100 rfl ?_
                  refine rg_get F 0 0 tM0 cX10 k_lays_X10 (by decide) k_fl_X10_89 rfl (v := .int (rg_I 3)) rfl dX10_race_101 ?_
                  refine rg_if_le F 109 dX10_race_104 (by decide) (by omega) (fun c104_12 => ?_) (fun c104_12 => ?_)
                  · exfalso; omega
                  ·
                    refine rg_iconst F dX10_race_107 ?_
                    exact hR _ _ _ _ dX10_race_108 (fun h => nomatch h) ⟨rfl, (rg_wr_congr (f := (rg_up (rg_up (σ 0) 0 0) 0 3)) (g := (rg_up (σ 0) 0 (rg_cR pa ((nr : Nat) : Int) k f))) 0 rfl (by (repeat rw [rg_up_up]) <;> first | rfl | exact congrArg (rg_up _ 0) (by unfold rg_cR; (repeat' split) <;> omega)))⟩
              · exfalso; omega
            ·
              refine rg_iconst F dX10_race_68 ?_
              refine rg_goto F 73 dX10_race_69 (by decide) ?_
              refine rg_istore_n F [(3, .int (rg_I 1)), (0, .ref (κ.2.2.2 0)), (1, .int (rg_I k)), (2, .int (rg_I f))] dX10_race_73 rfl (by decide) rfl ?_
              refine rg_aload_n F 1 0 rfl dX10_race_74 rfl ?_
              refine rg_iload_n F 0 3 rfl dX10_race_75 rfl ?_
              refine rg_if_eq F 83 dX10_race_76 (by decide) (by omega) (fun c76_13 => ?_) (fun c76_13 => ?_)
              · exfalso; omega
              ·
                refine rg_iconst F dX10_race_79 ?_
                refine rg_goto F 97 dX10_race_80 (by decide) ?_
                refine rg_put F 0 0 tM0 cX10 k_lays_X10 tyX10_ok nmX10 (by decide) k_fl_X10_89 rfl rfl rfl rfl (f9 := (rg_up (σ 0) 0 0)) rfl (rg_wr σ 0 (rg_up (rg_up (σ 0) 0 0) 0 2)) (rg_wr_wr _ 0 _ _) dX10_race_97 ?_
                refine rg_aload_n F 1 0 rfl dX10_race_100 rfl ?_
                refine rg_get F 0 0 tM0 cX10 k_lays_X10 (by decide) k_fl_X10_89 rfl (v := .int (rg_I 2)) rfl dX10_race_101 ?_
                refine rg_if_le F 109 dX10_race_104 (by decide) (by omega) (fun c104_14 => ?_) (fun c104_14 => ?_)
                · exfalso; omega
                ·
                  refine rg_iconst F dX10_race_107 ?_
                  exact hR _ _ _ _ dX10_race_108 (fun h => nomatch h) ⟨rfl, (rg_wr_congr (f := (rg_up (rg_up (σ 0) 0 0) 0 2)) (g := (rg_up (σ 0) 0 (rg_cR pa ((nr : Nat) : Int) k f))) 0 rfl (by (repeat rw [rg_up_up]) <;> first | rfl | exact congrArg (rg_up _ 0) (by unfold rg_cR; (repeat' split) <;> omega)))⟩
        ·
          refine rg_iload_n F 1 1 rfl dX10_race_43 rfl ?_
          refine rg_if_eq F 51 dX10_race_44 (by decide) (by omega) (fun c44_15 => ?_) (fun c44_15 => ?_)
          ·
            refine rg_iconst F dX10_race_51 ?_
            refine rg_goto F 73 dX10_race_52 (by decide) ?_
            refine rg_istore_n F [(3, .int (rg_I 1)), (0, .ref (κ.2.2.2 0)), (1, .int (rg_I k)), (2, .int (rg_I f))] dX10_race_73 rfl (by decide) rfl ?_
            refine rg_aload_n F 1 0 rfl dX10_race_74 rfl ?_
            refine rg_iload_n F 0 3 rfl dX10_race_75 rfl ?_
            refine rg_if_eq F 83 dX10_race_76 (by decide) (by omega) (fun c76_16 => ?_) (fun c76_16 => ?_)
            · exfalso; omega
            ·
              refine rg_iconst F dX10_race_79 ?_
              refine rg_goto F 97 dX10_race_80 (by decide) ?_
              refine rg_put F 0 0 tM0 cX10 k_lays_X10 tyX10_ok nmX10 (by decide) k_fl_X10_89 rfl rfl rfl rfl (f9 := (rg_up (σ 0) 0 0)) rfl (rg_wr σ 0 (rg_up (rg_up (σ 0) 0 0) 0 2)) (rg_wr_wr _ 0 _ _) dX10_race_97 ?_
              refine rg_aload_n F 1 0 rfl dX10_race_100 rfl ?_
              refine rg_get F 0 0 tM0 cX10 k_lays_X10 (by decide) k_fl_X10_89 rfl (v := .int (rg_I 2)) rfl dX10_race_101 ?_
              refine rg_if_le F 109 dX10_race_104 (by decide) (by omega) (fun c104_17 => ?_) (fun c104_17 => ?_)
              · exfalso; omega
              ·
                refine rg_iconst F dX10_race_107 ?_
                exact hR _ _ _ _ dX10_race_108 (fun h => nomatch h) ⟨rfl, (rg_wr_congr (f := (rg_up (rg_up (σ 0) 0 0) 0 2)) (g := (rg_up (σ 0) 0 (rg_cR pa ((nr : Nat) : Int) k f))) 0 rfl (by (repeat rw [rg_up_up]) <;> first | rfl | exact congrArg (rg_up _ 0) (by unfold rg_cR; (repeat' split) <;> omega)))⟩
          ·
            refine rg_iload_n F 2 2 rfl dX10_race_47 rfl ?_
            refine rg_if_ne F 55 dX10_race_48 (by decide) (by omega) (fun c48_18 => ?_) (fun c48_18 => ?_)
            ·
              refine rg_iconst F dX10_race_55 ?_
              refine rg_goto F 73 dX10_race_56 (by decide) ?_
              refine rg_istore_n F [(3, .int (rg_I 0)), (0, .ref (κ.2.2.2 0)), (1, .int (rg_I k)), (2, .int (rg_I f))] dX10_race_73 rfl (by decide) rfl ?_
              refine rg_aload_n F 1 0 rfl dX10_race_74 rfl ?_
              refine rg_iload_n F 0 3 rfl dX10_race_75 rfl ?_
              refine rg_if_eq F 83 dX10_race_76 (by decide) (by omega) (fun c76_19 => ?_) (fun c76_19 => ?_)
              ·
                refine rg_aload_n F 1 0 rfl dX10_race_83 rfl ?_
                refine rg_get F 0 4 tM0 cX10 k_lays_X10 (by decide) k_fl_X10_99 rfl (v := .int (rg_I ((nr : Nat) : Int))) (congrArg (fun x => Value.int (rg_I x)) h0_4) dX10_race_84 ?_
                refine rg_bipush F dX10_race_87 (by decide +kernel) ?_
                refine rg_icmp_ne F 96 dX10_race_89 (by decide) (by omega) (by omega) (fun c89_20 => ?_) (fun c89_20 => ?_)
                ·
                  refine rg_iconst F dX10_race_96 ?_
                  refine rg_put F 0 0 tM0 cX10 k_lays_X10 tyX10_ok nmX10 (by decide) k_fl_X10_89 rfl rfl rfl rfl (f9 := (rg_up (σ 0) 0 0)) rfl (rg_wr σ 0 (rg_up (rg_up (σ 0) 0 0) 0 0)) (rg_wr_wr _ 0 _ _) dX10_race_97 ?_
                  refine rg_aload_n F 1 0 rfl dX10_race_100 rfl ?_
                  refine rg_get F 0 0 tM0 cX10 k_lays_X10 (by decide) k_fl_X10_89 rfl (v := .int (rg_I 0)) rfl dX10_race_101 ?_
                  exfalso; unfold rg_cR at hc; (repeat' split at hc) <;> omega
                ·
                  refine rg_iconst F dX10_race_92 ?_
                  refine rg_goto F 97 dX10_race_93 (by decide) ?_
                  refine rg_put F 0 0 tM0 cX10 k_lays_X10 tyX10_ok nmX10 (by decide) k_fl_X10_89 rfl rfl rfl rfl (f9 := (rg_up (σ 0) 0 0)) rfl (rg_wr σ 0 (rg_up (rg_up (σ 0) 0 0) 0 3)) (rg_wr_wr _ 0 _ _) dX10_race_97 ?_
                  refine rg_aload_n F 1 0 rfl dX10_race_100 rfl ?_
                  refine rg_get F 0 0 tM0 cX10 k_lays_X10 (by decide) k_fl_X10_89 rfl (v := .int (rg_I 3)) rfl dX10_race_101 ?_
                  refine rg_if_le F 109 dX10_race_104 (by decide) (by omega) (fun c104_21 => ?_) (fun c104_21 => ?_)
                  · exfalso; omega
                  ·
                    refine rg_iconst F dX10_race_107 ?_
                    exact hR _ _ _ _ dX10_race_108 (fun h => nomatch h) ⟨rfl, (rg_wr_congr (f := (rg_up (rg_up (σ 0) 0 0) 0 3)) (g := (rg_up (σ 0) 0 (rg_cR pa ((nr : Nat) : Int) k f))) 0 rfl (by (repeat rw [rg_up_up]) <;> first | rfl | exact congrArg (rg_up _ 0) (by unfold rg_cR; (repeat' split) <;> omega)))⟩
              · exfalso; omega
            ·
              refine rg_iconst F dX10_race_51 ?_
              refine rg_goto F 73 dX10_race_52 (by decide) ?_
              refine rg_istore_n F [(3, .int (rg_I 1)), (0, .ref (κ.2.2.2 0)), (1, .int (rg_I k)), (2, .int (rg_I f))] dX10_race_73 rfl (by decide) rfl ?_
              refine rg_aload_n F 1 0 rfl dX10_race_74 rfl ?_
              refine rg_iload_n F 0 3 rfl dX10_race_75 rfl ?_
              refine rg_if_eq F 83 dX10_race_76 (by decide) (by omega) (fun c76_22 => ?_) (fun c76_22 => ?_)
              · exfalso; omega
              ·
                refine rg_iconst F dX10_race_79 ?_
                refine rg_goto F 97 dX10_race_80 (by decide) ?_
                refine rg_put F 0 0 tM0 cX10 k_lays_X10 tyX10_ok nmX10 (by decide) k_fl_X10_89 rfl rfl rfl rfl (f9 := (rg_up (σ 0) 0 0)) rfl (rg_wr σ 0 (rg_up (rg_up (σ 0) 0 0) 0 2)) (rg_wr_wr _ 0 _ _) dX10_race_97 ?_
                refine rg_aload_n F 1 0 rfl dX10_race_100 rfl ?_
                refine rg_get F 0 0 tM0 cX10 k_lays_X10 (by decide) k_fl_X10_89 rfl (v := .int (rg_I 2)) rfl dX10_race_101 ?_
                refine rg_if_le F 109 dX10_race_104 (by decide) (by omega) (fun c104_23 => ?_) (fun c104_23 => ?_)
                · exfalso; omega
                ·
                  refine rg_iconst F dX10_race_107 ?_
                  exact hR _ _ _ _ dX10_race_108 (fun h => nomatch h) ⟨rfl, (rg_wr_congr (f := (rg_up (rg_up (σ 0) 0 0) 0 2)) (g := (rg_up (σ 0) 0 (rg_cR pa ((nr : Nat) : Int) k f))) 0 rfl (by (repeat rw [rg_up_up]) <;> first | rfl | exact congrArg (rg_up _ 0) (by unfold rg_cR; (repeat' split) <;> omega)))⟩
      · exfalso; omega
    ·
      have c16_3 := (rg_b_eq0 _).mp c16_3
      refine rg_iconst F dX10_race_19 ?_
      refine rg_goto F 24 dX10_race_20 (by decide) ?_
      refine rg_put F 0 0 tM0 cX10 k_lays_X10 tyX10_ok nmX10 (by decide) k_fl_X10_89 rfl rfl rfl rfl (f9 := (σ 0)) rfl (rg_wr σ 0 (rg_up (σ 0) 0 1)) rfl dX10_race_24 ?_
      refine rg_aload_n F 0 0 rfl dX10_race_27 rfl ?_
      refine rg_get F 0 0 tM0 cX10 k_lays_X10 (by decide) k_fl_X10_89 rfl (v := .int (rg_I 1)) rfl dX10_race_28 ?_
      refine rg_if_le F 36 dX10_race_31 (by decide) (by omega) (fun c31_24 => ?_) (fun c31_24 => ?_)
      · exfalso; omega
      ·
        refine rg_iconst F dX10_race_34 ?_
        exact hR _ _ _ _ dX10_race_35 (fun h => nomatch h) ⟨rfl, (rg_wr_congr (f := (rg_up (σ 0) 0 1)) (g := (rg_up (σ 0) 0 (rg_cR pa ((nr : Nat) : Int) k f))) 0 rfl (by (repeat rw [rg_up_up]) <;> first | rfl | exact congrArg (rg_up _ 0) (by unfold rg_cR; (repeat' split) <;> omega)))⟩
set_option maxHeartbeats 400000 in
set_option maxRecDepth 100000 in
/-- abandon, done -/
theorem k_X10_abandon_o (κ : rg_K) (σ : rg_S) (r on : Int) (ab : Nat → Int) (nr : Nat) (h5 : σ 5 = ab) (h0_4 : σ 0 4 = ((nr : Nat) : Int)) (hnr : nr ≤ 16) (hr : rg_Rg r) (hon : on = 0 ∨ on = 1) (hab : ∀ j, ab j = 0 ∨ ab j = 1) (hc : (rg_cI ((nr : Nat) : Int) r) = 0) : rg_CI κ rg_tM yX10_abandon cX10_abandon 4 FieldType.boolean 1 22 [.ref (κ.2.2.2 0), .int (rg_I r), .int (rg_I on)] σ (fun r9 σ9 => r9 = (ab (Int.toNat r)) ∧ σ9 = (rg_wr (rg_wr σ 0 (rg_up (σ 0) 0 0)) 5 (rg_up ab (Int.toNat r) on))) := by
  refine rg_entI [(0, .ref (κ.2.2.2 0)), (1, .int (rg_I r)), (2, .int (rg_I on))] rfl (by decide +kernel) (Nat.le_of_ble_eq_true rfl) (by first | exact Or.inl rfl | exact Or.inr rfl) (fun Γ F hR => ?_)
  refine rg_aload_n F 0 0 rfl dX10_abandon_0 rfl ?_
  refine rg_iload_n F 1 1 rfl dX10_abandon_1 rfl ?_
  refine rg_iconst F dX10_abandon_2 ?_
  refine rg_aload_n F 0 0 rfl dX10_abandon_3 rfl ?_
  refine rg_get F 0 4 tM0 cX10 k_lays_X10 (by decide) k_fl_X10_99 rfl (v := .int (rg_I ((nr : Nat) : Int))) (congrArg (fun x => Value.int (rg_I x)) h0_4) dX10_abandon_4 ?_
  refine rg_iconst F dX10_abandon_7 ?_
  refine rg_isub F dX10_abandon_8 ?_
  refine rg_callSI F [.int (rg_I r), .int (rg_I 0), .int (rg_I (((nr : Nat) : Int) - 1))] [.ref (κ.2.2.2 0)] (k_X10_in κ rg_tM σ (r) (0) ((((nr : Nat) : Int) - 1)) (by first | assumption | omega) (by first | assumption | omega) (by first | assumption | omega)) v_X10_in k_st_yX10_in k_ml_X10_172 ⟨Nat.le_of_ble_eq_true rfl, Nat.le_of_ble_eq_true rfl⟩ rfl (Nat.le_of_ble_eq_true rfl) dX10_abandon_9 (rg_ex2 ?_)
  show rg_G κ Γ rg_tM 4 0 0 (9 + 3) [(0, .ref (κ.2.2.2 0)), (1, .int (rg_I r)), (2, .int (rg_I on))] [.int (rg_I (rg_b (0 ≤ r ∧ r ≤ (((nr : Nat) : Int) - 1)))), .ref (κ.2.2.2 0)] σ
  refine rg_if_eq F 19 dX10_abandon_12 (by decide) (by have b0 := rg_b_Rg (0 ≤ r ∧ r ≤ (((nr : Nat) : Int) - 1)); omega) (fun c12_1 => ?_) (fun c12_1 => ?_)
  ·
    have c12_1 := (rg_b_eq0 _).mp c12_1
    refine rg_iconst F dX10_abandon_19 ?_
    refine rg_put F 0 0 tM0 cX10 k_lays_X10 tyX10_ok nmX10 (by decide) k_fl_X10_89 rfl rfl rfl rfl (f9 := (σ 0)) rfl (rg_wr σ 0 (rg_up (σ 0) 0 1)) rfl dX10_abandon_20 ?_
    refine rg_aload_n F 0 0 rfl dX10_abandon_23 rfl ?_
    refine rg_get F 0 0 tM0 cX10 k_lays_X10 (by decide) k_fl_X10_89 rfl (v := .int (rg_I 1)) rfl dX10_abandon_24 ?_
    exfalso; unfold rg_cI at hc; (repeat' split at hc) <;> omega
  ·
    have c12_1 := (rg_b_ne0 _).mp c12_1
    refine rg_iconst F dX10_abandon_15 ?_
    refine rg_goto F 20 dX10_abandon_16 (by decide) ?_
    refine rg_put F 0 0 tM0 cX10 k_lays_X10 tyX10_ok nmX10 (by decide) k_fl_X10_89 rfl rfl rfl rfl (f9 := (σ 0)) rfl (rg_wr σ 0 (rg_up (σ 0) 0 0)) rfl dX10_abandon_20 ?_
    refine rg_aload_n F 0 0 rfl dX10_abandon_23 rfl ?_
    refine rg_get F 0 0 tM0 cX10 k_lays_X10 (by decide) k_fl_X10_89 rfl (v := .int (rg_I 0)) rfl dX10_abandon_24 ?_
    refine rg_if_le F 32 dX10_abandon_27 (by decide) (by omega) (fun c27_2 => ?_) (fun c27_2 => ?_)
    ·
      refine rg_aload_n F 0 0 rfl dX10_abandon_32 rfl ?_
      refine rg_get F 0 7 tM0 cX10 k_lays_X10 (by decide) k_fl_X10_22 rfl (v := .ref (κ.2.2.2 5)) rfl dX10_abandon_33 ?_
      refine rg_iload_n F 1 1 rfl dX10_abandon_36 rfl ?_
      refine rg_stk (st' := [.int (rg_I ((Int.toNat r : Nat) : Int)), .ref (κ.2.2.2 5)]) (by rw [Int.toNat_of_nonneg (a := r) (by omega)]) ?_
      refine rg_zald F 5 (Int.toNat r) (v := (ab (Int.toNat r))) tM5 (by omega) (by omega) (by decide) (congrFun h5 (Int.toNat r)) dX10_abandon_37 ?_
      refine rg_istore_n F [(3, .int (rg_I (ab (Int.toNat r)))), (0, .ref (κ.2.2.2 0)), (1, .int (rg_I r)), (2, .int (rg_I on))] dX10_abandon_38 rfl (by decide) rfl ?_
      refine rg_aload_n F 1 0 rfl dX10_abandon_39 rfl ?_
      refine rg_get F 0 7 tM0 cX10 k_lays_X10 (by decide) k_fl_X10_22 rfl (v := .ref (κ.2.2.2 5)) rfl dX10_abandon_40 ?_
      refine rg_iload_n F 2 1 rfl dX10_abandon_43 rfl ?_
      refine rg_stk (st' := [.int (rg_I ((Int.toNat r : Nat) : Int)), .ref (κ.2.2.2 5)]) (by rw [Int.toNat_of_nonneg (a := r) (by omega)]) ?_
      refine rg_iload_n F 3 2 rfl dX10_abandon_44 rfl ?_
      refine rg_zast F 5 (Int.toNat r) tM5 (by omega) (by omega) (by decide) (by omega) (f9 := ab) h5 (rg_wr (rg_wr σ 0 (rg_up (σ 0) 0 0)) 5 (rg_up ab (Int.toNat r) on)) rfl dX10_abandon_45 ?_
      refine rg_iload_n F 0 3 rfl dX10_abandon_46 rfl ?_
      exact hR _ _ _ _ dX10_abandon_47 (fun _ => (by have b0 := hab ((Int.toNat r)); omega)) ⟨rfl, rfl⟩
    · exfalso; omega
set_option maxHeartbeats 400000 in
set_option maxRecDepth 100000 in
/-- abandon, refused -/
theorem k_X10_abandon_n (κ : rg_K) (σ : rg_S) (r on : Int) (ab : Nat → Int) (nr : Nat) (h5 : σ 5 = ab) (h0_4 : σ 0 4 = ((nr : Nat) : Int)) (hnr : nr ≤ 16) (hr : rg_Rg r) (hon : on = 0 ∨ on = 1) (hab : ∀ j, ab j = 0 ∨ ab j = 1) (hc : ¬ (rg_cI ((nr : Nat) : Int) r) = 0) : rg_CI κ rg_tM yX10_abandon cX10_abandon 4 FieldType.boolean 1 22 [.ref (κ.2.2.2 0), .int (rg_I r), .int (rg_I on)] σ (fun r9 σ9 => r9 = 0 ∧ σ9 = (rg_wr σ 0 (rg_up (σ 0) 0 (rg_cI ((nr : Nat) : Int) r)))) := by
  refine rg_entI [(0, .ref (κ.2.2.2 0)), (1, .int (rg_I r)), (2, .int (rg_I on))] rfl (by decide +kernel) (Nat.le_of_ble_eq_true rfl) (by first | exact Or.inl rfl | exact Or.inr rfl) (fun Γ F hR => ?_)
  refine rg_aload_n F 0 0 rfl dX10_abandon_0 rfl ?_
  refine rg_iload_n F 1 1 rfl dX10_abandon_1 rfl ?_
  refine rg_iconst F dX10_abandon_2 ?_
  refine rg_aload_n F 0 0 rfl dX10_abandon_3 rfl ?_
  refine rg_get F 0 4 tM0 cX10 k_lays_X10 (by decide) k_fl_X10_99 rfl (v := .int (rg_I ((nr : Nat) : Int))) (congrArg (fun x => Value.int (rg_I x)) h0_4) dX10_abandon_4 ?_
  refine rg_iconst F dX10_abandon_7 ?_
  refine rg_isub F dX10_abandon_8 ?_
  refine rg_callSI F [.int (rg_I r), .int (rg_I 0), .int (rg_I (((nr : Nat) : Int) - 1))] [.ref (κ.2.2.2 0)] (k_X10_in κ rg_tM σ (r) (0) ((((nr : Nat) : Int) - 1)) (by first | assumption | omega) (by first | assumption | omega) (by first | assumption | omega)) v_X10_in k_st_yX10_in k_ml_X10_172 ⟨Nat.le_of_ble_eq_true rfl, Nat.le_of_ble_eq_true rfl⟩ rfl (Nat.le_of_ble_eq_true rfl) dX10_abandon_9 (rg_ex2 ?_)
  show rg_G κ Γ rg_tM 4 0 0 (9 + 3) [(0, .ref (κ.2.2.2 0)), (1, .int (rg_I r)), (2, .int (rg_I on))] [.int (rg_I (rg_b (0 ≤ r ∧ r ≤ (((nr : Nat) : Int) - 1)))), .ref (κ.2.2.2 0)] σ
  refine rg_if_eq F 19 dX10_abandon_12 (by decide) (by have b0 := rg_b_Rg (0 ≤ r ∧ r ≤ (((nr : Nat) : Int) - 1)); omega) (fun c12_1 => ?_) (fun c12_1 => ?_)
  ·
    have c12_1 := (rg_b_eq0 _).mp c12_1
    refine rg_iconst F dX10_abandon_19 ?_
    refine rg_put F 0 0 tM0 cX10 k_lays_X10 tyX10_ok nmX10 (by decide) k_fl_X10_89 rfl rfl rfl rfl (f9 := (σ 0)) rfl (rg_wr σ 0 (rg_up (σ 0) 0 1)) rfl dX10_abandon_20 ?_
    refine rg_aload_n F 0 0 rfl dX10_abandon_23 rfl ?_
    refine rg_get F 0 0 tM0 cX10 k_lays_X10 (by decide) k_fl_X10_89 rfl (v := .int (rg_I 1)) rfl dX10_abandon_24 ?_
    refine rg_if_le F 32 dX10_abandon_27 (by decide) (by omega) (fun c27_2 => ?_) (fun c27_2 => ?_)
    · exfalso; omega
    ·
      refine rg_iconst F dX10_abandon_30 ?_
      exact hR _ _ _ _ dX10_abandon_31 (fun _ => Or.inl rfl) ⟨rfl, (rg_wr_congr (f := (rg_up (σ 0) 0 1)) (g := (rg_up (σ 0) 0 (rg_cI ((nr : Nat) : Int) r))) 0 rfl (by (repeat rw [rg_up_up]) <;> first | rfl | exact congrArg (rg_up _ 0) (by unfold rg_cI; (repeat' split) <;> omega)))⟩
  ·
    have c12_1 := (rg_b_ne0 _).mp c12_1
    refine rg_iconst F dX10_abandon_15 ?_
    refine rg_goto F 20 dX10_abandon_16 (by decide) ?_
    refine rg_put F 0 0 tM0 cX10 k_lays_X10 tyX10_ok nmX10 (by decide) k_fl_X10_89 rfl rfl rfl rfl (f9 := (σ 0)) rfl (rg_wr σ 0 (rg_up (σ 0) 0 0)) rfl dX10_abandon_20 ?_
    refine rg_aload_n F 0 0 rfl dX10_abandon_23 rfl ?_
    refine rg_get F 0 0 tM0 cX10 k_lays_X10 (by decide) k_fl_X10_89 rfl (v := .int (rg_I 0)) rfl dX10_abandon_24 ?_
    exfalso; unfold rg_cI at hc; (repeat' split at hc) <;> omega
set_option maxHeartbeats 400000 in
set_option maxRecDepth 100000 in
/-- finish, done -/
theorem k_X10_finish_o (κ : rg_K) (σ : rg_S) (r b p : Int) (fl : Nat → Int) (rf : Nat → Int) (pu : Nat → Int) (pa : Nat → Int) (pp : Nat → Int) (nb : Nat) (nr : Nat) (h2 : σ 2 = fl) (h4 : σ 4 = rf) (h6 : σ 6 = pu) (h7 : σ 7 = pa) (h8 : σ 8 = pp) (h0_1 : σ 0 1 = ((nb : Nat) : Int)) (h0_4 : σ 0 4 = ((nr : Nat) : Int)) (hnb : nb ≤ 40) (hnr : nr ≤ 16) (hr : rg_Rg r) (hb : rg_Rg b) (hfl : ∀ j, rg_Rg (fl j)) (hrf : ∀ j, rg_Rg (rf j)) (hp : rg_Rg p) (hc : (rg_wg rf fl ((nb : Nat) : Int) ((nr : Nat) : Int) r b 0 p) = 0) : rg_CV κ rg_tM yX10_finish cX10_finish 4 3 69 [.ref (κ.2.2.2 0), .int (rg_I r), .int (rg_I b), .int (rg_I p)] σ (fun σ9 => σ9 = (rg_wr (rg_wr (rg_wr (rg_wr σ 0 (rg_up (σ 0) 0 0)) 6 (rg_up pu (Int.toNat r * 40 + Int.toNat b) 9)) 7 (rg_up pa (Int.toNat r * 40 + Int.toNat b) p)) 8 (rg_up pp (Int.toNat r * 40 + Int.toNat b) 0))) := by
  have hth := rg_wg_0 hc
  refine rg_entV [(0, .ref (κ.2.2.2 0)), (1, .int (rg_I r)), (2, .int (rg_I b)), (3, .int (rg_I p))] rfl (by decide +kernel) (Nat.le_of_ble_eq_true rfl) (fun Γ F hR => ?_)
  refine rg_aload_n F 0 0 rfl dX10_finish_0 rfl ?_
  refine rg_aload_n F 0 0 rfl dX10_finish_1 rfl ?_
  refine rg_iload_n F 1 1 rfl dX10_finish_2 rfl ?_
  refine rg_iload_n F 2 2 rfl dX10_finish_3 rfl ?_
  refine rg_iconst F dX10_finish_4 ?_
  refine rg_iload_n F 3 3 rfl dX10_finish_5 rfl ?_
  refine rg_callVI F [.int (rg_I r), .int (rg_I b), .int (rg_I 0), .int (rg_I p)] [.ref (κ.2.2.2 0)] 0 (k_X10_wrong κ σ (r) (b) (0) (p) fl rf (nb) (nr) (h2) (h4) (h0_1) (h0_4) (by first | assumption | omega) (by first | assumption | omega) (by first | assumption | omega) (by first | assumption | omega) (by first | assumption | omega) (by first | assumption | omega) (by first | assumption | omega) (by first | assumption | omega)) tM0 cX10 v_X10_wrong i_X10_wrong k_ml_X10_179 ⟨Nat.le_of_ble_eq_true rfl, Nat.le_of_ble_eq_true rfl⟩ rfl (Nat.le_of_ble_eq_true rfl) dX10_finish_6 (rg_ex2 ?_)
  show rg_G κ Γ rg_tM 4 0 0 (6 + 3) [(0, .ref (κ.2.2.2 0)), (1, .int (rg_I r)), (2, .int (rg_I b)), (3, .int (rg_I p))] [.int (rg_I (rg_wg rf fl ((nb : Nat) : Int) ((nr : Nat) : Int) r b 0 p)), .ref (κ.2.2.2 0)] σ
  refine rg_put F 0 0 tM0 cX10 k_lays_X10 tyX10_ok nmX10 (by decide) k_fl_X10_89 rfl rfl rfl rfl (f9 := (σ 0)) rfl (rg_wr σ 0 (rg_up (σ 0) 0 (rg_wg rf fl ((nb : Nat) : Int) ((nr : Nat) : Int) r b 0 p))) rfl dX10_finish_9 ?_
  refine rg_aload_n F 0 0 rfl dX10_finish_12 rfl ?_
  refine rg_get F 0 0 tM0 cX10 k_lays_X10 (by decide) k_fl_X10_89 rfl (v := .int (rg_I (rg_wg rf fl ((nb : Nat) : Int) ((nr : Nat) : Int) r b 0 p))) rfl dX10_finish_13 ?_
  refine rg_if_ne F 28 dX10_finish_16 (by decide) (by have b0 := rg_wg_bd (rf := rf) (fl := fl) (nb := ((nb : Nat) : Int)) (nr := ((nr : Nat) : Int)) (r := r) (b := b) (c := 0) (x := p); omega) (fun c16_1 => ?_) (fun c16_1 => ?_)
  · exfalso; omega
  ·
    refine rg_aload_n F 0 0 rfl dX10_finish_19 rfl ?_
    refine rg_iload_n F 1 1 rfl dX10_finish_20 rfl ?_
    refine rg_stk (st' := [.int (rg_I ((Int.toNat r : Nat) : Int)), .ref (κ.2.2.2 0)]) (by rw [Int.toNat_of_nonneg (a := r) (by omega)]) ?_
    refine rg_iload_n F 2 2 rfl dX10_finish_21 rfl ?_
    refine rg_stk (st' := [.int (rg_I ((Int.toNat b : Nat) : Int)), .int (rg_I ((Int.toNat r : Nat) : Int)), .ref (κ.2.2.2 0)]) (by rw [Int.toNat_of_nonneg (a := b) (by omega)]) ?_
    refine rg_bipush F dX10_finish_22 (by decide +kernel) ?_
    refine rg_iload_n F 3 3 rfl dX10_finish_24 rfl ?_
    refine rg_callVV F [.int (rg_I ((Int.toNat r : Nat) : Int)), .int (rg_I ((Int.toNat b : Nat) : Int)), .int (rg_I 9), .int (rg_I p)] [] 0 (k_X10_enter κ (rg_wr σ 0 (rg_up (σ 0) 0 (rg_wg rf fl ((nb : Nat) : Int) ((nr : Nat) : Int) r b 0 p))) ((Int.toNat r)) ((Int.toNat b)) (9) (p) pu pa pp (h6) (h7) (h8) (by first | assumption | omega) (by first | assumption | omega)) tM0 cX10 v_X10_enter i_X10_enter k_ml_X10_183 ⟨Nat.le_of_ble_eq_true rfl, Nat.le_of_ble_eq_true rfl⟩ rfl (Nat.le_of_ble_eq_true rfl) dX10_finish_25 (rg_ex1 ?_)
    refine rg_eq (σ' := (rg_wr (rg_wr (rg_wr (rg_wr σ 0 (rg_up (σ 0) 0 (rg_wg rf fl ((nb : Nat) : Int) ((nr : Nat) : Int) r b 0 p))) 6 (rg_up pu ((Int.toNat r) * 40 + (Int.toNat b)) 9)) 7 (rg_up pa ((Int.toNat r) * 40 + (Int.toNat b)) p)) 8 (rg_up pp ((Int.toNat r) * 40 + (Int.toNat b)) 0))) rfl ?_
    exact hR _ _ _ dX10_finish_28 (rg_wr_congr (f := (rg_up pp ((Int.toNat r) * 40 + (Int.toNat b)) 0)) (g := (rg_up pp (Int.toNat r * 40 + Int.toNat b) 0)) 8 (rg_wr_congr (f := (rg_up pa ((Int.toNat r) * 40 + (Int.toNat b)) p)) (g := (rg_up pa (Int.toNat r * 40 + Int.toNat b) p)) 7 (rg_wr_congr (f := (rg_up pu ((Int.toNat r) * 40 + (Int.toNat b)) 9)) (g := (rg_up pu (Int.toNat r * 40 + Int.toNat b) 9)) 6 (rg_wr_congr (f := (rg_up (σ 0) 0 (rg_wg rf fl ((nb : Nat) : Int) ((nr : Nat) : Int) r b 0 p))) (g := (rg_up (σ 0) 0 0)) 0 rfl (congrArg _ hc)) rfl) rfl) rfl)
set_option maxHeartbeats 400000 in
set_option maxRecDepth 100000 in
/-- finish, refused -/
theorem k_X10_finish_n (κ : rg_K) (σ : rg_S) (r b p : Int) (fl : Nat → Int) (rf : Nat → Int) (pu : Nat → Int) (pa : Nat → Int) (pp : Nat → Int) (nb : Nat) (nr : Nat) (h2 : σ 2 = fl) (h4 : σ 4 = rf) (h6 : σ 6 = pu) (h7 : σ 7 = pa) (h8 : σ 8 = pp) (h0_1 : σ 0 1 = ((nb : Nat) : Int)) (h0_4 : σ 0 4 = ((nr : Nat) : Int)) (hnb : nb ≤ 40) (hnr : nr ≤ 16) (hr : rg_Rg r) (hb : rg_Rg b) (hfl : ∀ j, rg_Rg (fl j)) (hrf : ∀ j, rg_Rg (rf j)) (hp : rg_Rg p) (hc : ¬ (rg_wg rf fl ((nb : Nat) : Int) ((nr : Nat) : Int) r b 0 p) = 0) : rg_CV κ rg_tM yX10_finish cX10_finish 4 3 69 [.ref (κ.2.2.2 0), .int (rg_I r), .int (rg_I b), .int (rg_I p)] σ (fun σ9 => σ9 = (rg_wr σ 0 (rg_up (σ 0) 0 (rg_wg rf fl ((nb : Nat) : Int) ((nr : Nat) : Int) r b 0 p)))) := by
  refine rg_entV [(0, .ref (κ.2.2.2 0)), (1, .int (rg_I r)), (2, .int (rg_I b)), (3, .int (rg_I p))] rfl (by decide +kernel) (Nat.le_of_ble_eq_true rfl) (fun Γ F hR => ?_)
  refine rg_aload_n F 0 0 rfl dX10_finish_0 rfl ?_
  refine rg_aload_n F 0 0 rfl dX10_finish_1 rfl ?_
  refine rg_iload_n F 1 1 rfl dX10_finish_2 rfl ?_
  refine rg_iload_n F 2 2 rfl dX10_finish_3 rfl ?_
  refine rg_iconst F dX10_finish_4 ?_
  refine rg_iload_n F 3 3 rfl dX10_finish_5 rfl ?_
  refine rg_callVI F [.int (rg_I r), .int (rg_I b), .int (rg_I 0), .int (rg_I p)] [.ref (κ.2.2.2 0)] 0 (k_X10_wrong κ σ (r) (b) (0) (p) fl rf (nb) (nr) (h2) (h4) (h0_1) (h0_4) (by first | assumption | omega) (by first | assumption | omega) (by first | assumption | omega) (by first | assumption | omega) (by first | assumption | omega) (by first | assumption | omega) (by first | assumption | omega) (by first | assumption | omega)) tM0 cX10 v_X10_wrong i_X10_wrong k_ml_X10_179 ⟨Nat.le_of_ble_eq_true rfl, Nat.le_of_ble_eq_true rfl⟩ rfl (Nat.le_of_ble_eq_true rfl) dX10_finish_6 (rg_ex2 ?_)
  show rg_G κ Γ rg_tM 4 0 0 (6 + 3) [(0, .ref (κ.2.2.2 0)), (1, .int (rg_I r)), (2, .int (rg_I b)), (3, .int (rg_I p))] [.int (rg_I (rg_wg rf fl ((nb : Nat) : Int) ((nr : Nat) : Int) r b 0 p)), .ref (κ.2.2.2 0)] σ
  refine rg_put F 0 0 tM0 cX10 k_lays_X10 tyX10_ok nmX10 (by decide) k_fl_X10_89 rfl rfl rfl rfl (f9 := (σ 0)) rfl (rg_wr σ 0 (rg_up (σ 0) 0 (rg_wg rf fl ((nb : Nat) : Int) ((nr : Nat) : Int) r b 0 p))) rfl dX10_finish_9 ?_
  refine rg_aload_n F 0 0 rfl dX10_finish_12 rfl ?_
  refine rg_get F 0 0 tM0 cX10 k_lays_X10 (by decide) k_fl_X10_89 rfl (v := .int (rg_I (rg_wg rf fl ((nb : Nat) : Int) ((nr : Nat) : Int) r b 0 p))) rfl dX10_finish_13 ?_
  refine rg_if_ne F 28 dX10_finish_16 (by decide) (by have b0 := rg_wg_bd (rf := rf) (fl := fl) (nb := ((nb : Nat) : Int)) (nr := ((nr : Nat) : Int)) (r := r) (b := b) (c := 0) (x := p); omega) (fun c16_1 => ?_) (fun c16_1 => ?_)
  ·
    exact hR _ _ _ dX10_finish_28 rfl
  · exfalso; omega
set_option maxHeartbeats 400000 in
set_option maxRecDepth 100000 in
/-- code, done -/
theorem k_X10_code_o (κ : rg_K) (σ : rg_S) (r b c x : Int) (fl : Nat → Int) (rf : Nat → Int) (pu : Nat → Int) (pa : Nat → Int) (pp : Nat → Int) (nb : Nat) (nr : Nat) (h2 : σ 2 = fl) (h4 : σ 4 = rf) (h6 : σ 6 = pu) (h7 : σ 7 = pa) (h8 : σ 8 = pp) (h0_1 : σ 0 1 = ((nb : Nat) : Int)) (h0_4 : σ 0 4 = ((nr : Nat) : Int)) (hnb : nb ≤ 40) (hnr : nr ≤ 16) (hr : rg_Rg r) (hb : rg_Rg b) (hfl : ∀ j, rg_Rg (fl j)) (hrf : ∀ j, rg_Rg (rf j)) (hcr : rg_Rg c) (hx : rg_Rg x) (hc : (rg_cC rf fl ((nb : Nat) : Int) ((nr : Nat) : Int) r b c x) = 0) : rg_CV κ rg_tM yX10_code cX10_code 5 3 69 [.ref (κ.2.2.2 0), .int (rg_I r), .int (rg_I b), .int (rg_I c), .int (rg_I x)] σ (fun σ9 => σ9 = (rg_wr (rg_wr (rg_wr (rg_wr σ 0 (rg_up (σ 0) 0 0)) 6 (rg_up pu (Int.toNat r * 40 + Int.toNat b) c)) 7 (rg_up pa (Int.toNat r * 40 + Int.toNat b) x)) 8 (rg_up pp (Int.toNat r * 40 + Int.toNat b) 0))) := by
  have hw := rg_cC_e rf fl ((nb : Nat) : Int) ((nr : Nat) : Int) r b c x
  have hw9 := rg_wg_99 rf fl ((nb : Nat) : Int) ((nr : Nat) : Int) r b x
  have hth := rg_cC_0 hc
  refine rg_entV [(0, .ref (κ.2.2.2 0)), (1, .int (rg_I r)), (2, .int (rg_I b)), (3, .int (rg_I c)), (4, .int (rg_I x))] rfl (by decide +kernel) (Nat.le_of_ble_eq_true rfl) (fun Γ F hR => ?_)
  refine rg_aload_n F 0 0 rfl dX10_code_0 rfl ?_
  refine rg_aload_n F 0 0 rfl dX10_code_1 rfl ?_
  refine rg_iload_n F 1 1 rfl dX10_code_2 rfl ?_
  refine rg_iload_n F 2 2 rfl dX10_code_3 rfl ?_
  refine rg_iload_n F 3 3 rfl dX10_code_4 rfl ?_
  refine rg_if_ne F 13 dX10_code_5 (by decide) (by omega) (fun c5_1 => ?_) (fun c5_1 => ?_)
  ·
    refine rg_iload_n F 3 3 rfl dX10_code_13 rfl ?_
    refine rg_iload F 4 4 rfl dX10_code_14 ?_
    refine rg_callVI F [.int (rg_I r), .int (rg_I b), .int (rg_I c), .int (rg_I x)] [.ref (κ.2.2.2 0)] 0 (k_X10_wrong κ σ (r) (b) (c) (x) fl rf (nb) (nr) (h2) (h4) (h0_1) (h0_4) (by first | assumption | omega) (by first | assumption | omega) (by first | assumption | omega) (by first | assumption | omega) (by first | assumption | omega) (by first | assumption | omega) (by first | assumption | omega) (by first | assumption | omega)) tM0 cX10 v_X10_wrong i_X10_wrong k_ml_X10_179 ⟨Nat.le_of_ble_eq_true rfl, Nat.le_of_ble_eq_true rfl⟩ rfl (Nat.le_of_ble_eq_true rfl) dX10_code_16 (rg_ex2 ?_)
    show rg_G κ Γ rg_tM 5 0 0 (16 + 3) [(0, .ref (κ.2.2.2 0)), (1, .int (rg_I r)), (2, .int (rg_I b)), (3, .int (rg_I c)), (4, .int (rg_I x))] [.int (rg_I (rg_wg rf fl ((nb : Nat) : Int) ((nr : Nat) : Int) r b c x)), .ref (κ.2.2.2 0)] σ
    refine rg_put F 0 0 tM0 cX10 k_lays_X10 tyX10_ok nmX10 (by decide) k_fl_X10_89 rfl rfl rfl rfl (f9 := (σ 0)) rfl (rg_wr σ 0 (rg_up (σ 0) 0 (rg_wg rf fl ((nb : Nat) : Int) ((nr : Nat) : Int) r b c x))) rfl dX10_code_19 ?_
    refine rg_aload_n F 0 0 rfl dX10_code_22 rfl ?_
    refine rg_get F 0 0 tM0 cX10 k_lays_X10 (by decide) k_fl_X10_89 rfl (v := .int (rg_I (rg_wg rf fl ((nb : Nat) : Int) ((nr : Nat) : Int) r b c x))) rfl dX10_code_23 ?_
    refine rg_if_ne F 38 dX10_code_26 (by decide) (by have b0 := rg_wg_bd (rf := rf) (fl := fl) (nb := ((nb : Nat) : Int)) (nr := ((nr : Nat) : Int)) (r := r) (b := b) (c := c) (x := x); omega) (fun c26_2 => ?_) (fun c26_2 => ?_)
    · exfalso; omega
    ·
      refine rg_aload_n F 0 0 rfl dX10_code_29 rfl ?_
      refine rg_iload_n F 1 1 rfl dX10_code_30 rfl ?_
      refine rg_stk (st' := [.int (rg_I ((Int.toNat r : Nat) : Int)), .ref (κ.2.2.2 0)]) (by rw [Int.toNat_of_nonneg (a := r) (by omega)]) ?_
      refine rg_iload_n F 2 2 rfl dX10_code_31 rfl ?_
      refine rg_stk (st' := [.int (rg_I ((Int.toNat b : Nat) : Int)), .int (rg_I ((Int.toNat r : Nat) : Int)), .ref (κ.2.2.2 0)]) (by rw [Int.toNat_of_nonneg (a := b) (by omega)]) ?_
      refine rg_iload_n F 3 3 rfl dX10_code_32 rfl ?_
      refine rg_iload F 4 4 rfl dX10_code_33 ?_
      refine rg_callVV F [.int (rg_I ((Int.toNat r : Nat) : Int)), .int (rg_I ((Int.toNat b : Nat) : Int)), .int (rg_I c), .int (rg_I x)] [] 0 (k_X10_enter κ (rg_wr σ 0 (rg_up (σ 0) 0 (rg_wg rf fl ((nb : Nat) : Int) ((nr : Nat) : Int) r b c x))) ((Int.toNat r)) ((Int.toNat b)) (c) (x) pu pa pp (h6) (h7) (h8) (by first | assumption | omega) (by first | assumption | omega)) tM0 cX10 v_X10_enter i_X10_enter k_ml_X10_183 ⟨Nat.le_of_ble_eq_true rfl, Nat.le_of_ble_eq_true rfl⟩ rfl (Nat.le_of_ble_eq_true rfl) dX10_code_35 (rg_ex1 ?_)
      refine rg_eq (σ' := (rg_wr (rg_wr (rg_wr (rg_wr σ 0 (rg_up (σ 0) 0 (rg_wg rf fl ((nb : Nat) : Int) ((nr : Nat) : Int) r b c x))) 6 (rg_up pu ((Int.toNat r) * 40 + (Int.toNat b)) c)) 7 (rg_up pa ((Int.toNat r) * 40 + (Int.toNat b)) x)) 8 (rg_up pp ((Int.toNat r) * 40 + (Int.toNat b)) 0))) rfl ?_
      exact hR _ _ _ dX10_code_38 (rg_wr_congr (f := (rg_up pp ((Int.toNat r) * 40 + (Int.toNat b)) 0)) (g := (rg_up pp (Int.toNat r * 40 + Int.toNat b) 0)) 8 (rg_wr_congr (f := (rg_up pa ((Int.toNat r) * 40 + (Int.toNat b)) x)) (g := (rg_up pa (Int.toNat r * 40 + Int.toNat b) x)) 7 (rg_wr_congr (f := (rg_up pu ((Int.toNat r) * 40 + (Int.toNat b)) c)) (g := (rg_up pu (Int.toNat r * 40 + Int.toNat b) c)) 6 (rg_wr_congr (f := (rg_up (σ 0) 0 (rg_wg rf fl ((nb : Nat) : Int) ((nr : Nat) : Int) r b c x))) (g := (rg_up (σ 0) 0 0)) 0 rfl (congrArg _ (by omega))) rfl) rfl) rfl)
  ·
    refine rg_bipush F dX10_code_8 (by decide +kernel) ?_
    refine rg_goto F 14 dX10_code_10 (by decide) ?_
    refine rg_iload F 4 4 rfl dX10_code_14 ?_
    refine rg_callVI F [.int (rg_I r), .int (rg_I b), .int (rg_I 99), .int (rg_I x)] [.ref (κ.2.2.2 0)] 0 (k_X10_wrong κ σ (r) (b) (99) (x) fl rf (nb) (nr) (h2) (h4) (h0_1) (h0_4) (by first | assumption | omega) (by first | assumption | omega) (by first | assumption | omega) (by first | assumption | omega) (by first | assumption | omega) (by first | assumption | omega) (by first | assumption | omega) (by first | assumption | omega)) tM0 cX10 v_X10_wrong i_X10_wrong k_ml_X10_179 ⟨Nat.le_of_ble_eq_true rfl, Nat.le_of_ble_eq_true rfl⟩ rfl (Nat.le_of_ble_eq_true rfl) dX10_code_16 (rg_ex2 ?_)
    show rg_G κ Γ rg_tM 5 0 0 (16 + 3) [(0, .ref (κ.2.2.2 0)), (1, .int (rg_I r)), (2, .int (rg_I b)), (3, .int (rg_I c)), (4, .int (rg_I x))] [.int (rg_I (rg_wg rf fl ((nb : Nat) : Int) ((nr : Nat) : Int) r b 99 x)), .ref (κ.2.2.2 0)] σ
    refine rg_put F 0 0 tM0 cX10 k_lays_X10 tyX10_ok nmX10 (by decide) k_fl_X10_89 rfl rfl rfl rfl (f9 := (σ 0)) rfl (rg_wr σ 0 (rg_up (σ 0) 0 (rg_wg rf fl ((nb : Nat) : Int) ((nr : Nat) : Int) r b 99 x))) rfl dX10_code_19 ?_
    refine rg_aload_n F 0 0 rfl dX10_code_22 rfl ?_
    refine rg_get F 0 0 tM0 cX10 k_lays_X10 (by decide) k_fl_X10_89 rfl (v := .int (rg_I (rg_wg rf fl ((nb : Nat) : Int) ((nr : Nat) : Int) r b 99 x))) rfl dX10_code_23 ?_
    refine rg_if_ne F 38 dX10_code_26 (by decide) (by have b0 := rg_wg_bd (rf := rf) (fl := fl) (nb := ((nb : Nat) : Int)) (nr := ((nr : Nat) : Int)) (r := r) (b := b) (c := 99) (x := x); omega) (fun c26_3 => ?_) (fun c26_3 => ?_)
    · exfalso; omega
    ·
      refine rg_aload_n F 0 0 rfl dX10_code_29 rfl ?_
      refine rg_iload_n F 1 1 rfl dX10_code_30 rfl ?_
      refine rg_stk (st' := [.int (rg_I ((Int.toNat r : Nat) : Int)), .ref (κ.2.2.2 0)]) (by rw [Int.toNat_of_nonneg (a := r) (by omega)]) ?_
      refine rg_iload_n F 2 2 rfl dX10_code_31 rfl ?_
      refine rg_stk (st' := [.int (rg_I ((Int.toNat b : Nat) : Int)), .int (rg_I ((Int.toNat r : Nat) : Int)), .ref (κ.2.2.2 0)]) (by rw [Int.toNat_of_nonneg (a := b) (by omega)]) ?_
      refine rg_iload_n F 3 3 rfl dX10_code_32 rfl ?_
      refine rg_iload F 4 4 rfl dX10_code_33 ?_
      refine rg_callVV F [.int (rg_I ((Int.toNat r : Nat) : Int)), .int (rg_I ((Int.toNat b : Nat) : Int)), .int (rg_I c), .int (rg_I x)] [] 0 (k_X10_enter κ (rg_wr σ 0 (rg_up (σ 0) 0 (rg_wg rf fl ((nb : Nat) : Int) ((nr : Nat) : Int) r b 99 x))) ((Int.toNat r)) ((Int.toNat b)) (c) (x) pu pa pp (h6) (h7) (h8) (by first | assumption | omega) (by first | assumption | omega)) tM0 cX10 v_X10_enter i_X10_enter k_ml_X10_183 ⟨Nat.le_of_ble_eq_true rfl, Nat.le_of_ble_eq_true rfl⟩ rfl (Nat.le_of_ble_eq_true rfl) dX10_code_35 (rg_ex1 ?_)
      refine rg_eq (σ' := (rg_wr (rg_wr (rg_wr (rg_wr σ 0 (rg_up (σ 0) 0 (rg_wg rf fl ((nb : Nat) : Int) ((nr : Nat) : Int) r b 99 x))) 6 (rg_up pu ((Int.toNat r) * 40 + (Int.toNat b)) c)) 7 (rg_up pa ((Int.toNat r) * 40 + (Int.toNat b)) x)) 8 (rg_up pp ((Int.toNat r) * 40 + (Int.toNat b)) 0))) rfl ?_
      exact hR _ _ _ dX10_code_38 (rg_wr_congr (f := (rg_up pp ((Int.toNat r) * 40 + (Int.toNat b)) 0)) (g := (rg_up pp (Int.toNat r * 40 + Int.toNat b) 0)) 8 (rg_wr_congr (f := (rg_up pa ((Int.toNat r) * 40 + (Int.toNat b)) x)) (g := (rg_up pa (Int.toNat r * 40 + Int.toNat b) x)) 7 (rg_wr_congr (f := (rg_up pu ((Int.toNat r) * 40 + (Int.toNat b)) c)) (g := (rg_up pu (Int.toNat r * 40 + Int.toNat b) c)) 6 (rg_wr_congr (f := (rg_up (σ 0) 0 (rg_wg rf fl ((nb : Nat) : Int) ((nr : Nat) : Int) r b 99 x))) (g := (rg_up (σ 0) 0 0)) 0 rfl (congrArg _ (by omega))) rfl) rfl) rfl)
set_option maxHeartbeats 400000 in
set_option maxRecDepth 100000 in
/-- code, refused -/
theorem k_X10_code_n (κ : rg_K) (σ : rg_S) (r b c x : Int) (fl : Nat → Int) (rf : Nat → Int) (pu : Nat → Int) (pa : Nat → Int) (pp : Nat → Int) (nb : Nat) (nr : Nat) (h2 : σ 2 = fl) (h4 : σ 4 = rf) (h6 : σ 6 = pu) (h7 : σ 7 = pa) (h8 : σ 8 = pp) (h0_1 : σ 0 1 = ((nb : Nat) : Int)) (h0_4 : σ 0 4 = ((nr : Nat) : Int)) (hnb : nb ≤ 40) (hnr : nr ≤ 16) (hr : rg_Rg r) (hb : rg_Rg b) (hfl : ∀ j, rg_Rg (fl j)) (hrf : ∀ j, rg_Rg (rf j)) (hcr : rg_Rg c) (hx : rg_Rg x) (hc : ¬ (rg_cC rf fl ((nb : Nat) : Int) ((nr : Nat) : Int) r b c x) = 0) : rg_CV κ rg_tM yX10_code cX10_code 5 3 69 [.ref (κ.2.2.2 0), .int (rg_I r), .int (rg_I b), .int (rg_I c), .int (rg_I x)] σ (fun σ9 => σ9 = (rg_wr σ 0 (rg_up (σ 0) 0 (rg_cC rf fl ((nb : Nat) : Int) ((nr : Nat) : Int) r b c x)))) := by
  have hw := rg_cC_e rf fl ((nb : Nat) : Int) ((nr : Nat) : Int) r b c x
  have hw9 := rg_wg_99 rf fl ((nb : Nat) : Int) ((nr : Nat) : Int) r b x
  refine rg_entV [(0, .ref (κ.2.2.2 0)), (1, .int (rg_I r)), (2, .int (rg_I b)), (3, .int (rg_I c)), (4, .int (rg_I x))] rfl (by decide +kernel) (Nat.le_of_ble_eq_true rfl) (fun Γ F hR => ?_)
  refine rg_aload_n F 0 0 rfl dX10_code_0 rfl ?_
  refine rg_aload_n F 0 0 rfl dX10_code_1 rfl ?_
  refine rg_iload_n F 1 1 rfl dX10_code_2 rfl ?_
  refine rg_iload_n F 2 2 rfl dX10_code_3 rfl ?_
  refine rg_iload_n F 3 3 rfl dX10_code_4 rfl ?_
  refine rg_if_ne F 13 dX10_code_5 (by decide) (by omega) (fun c5_1 => ?_) (fun c5_1 => ?_)
  ·
    refine rg_iload_n F 3 3 rfl dX10_code_13 rfl ?_
    refine rg_iload F 4 4 rfl dX10_code_14 ?_
    refine rg_callVI F [.int (rg_I r), .int (rg_I b), .int (rg_I c), .int (rg_I x)] [.ref (κ.2.2.2 0)] 0 (k_X10_wrong κ σ (r) (b) (c) (x) fl rf (nb) (nr) (h2) (h4) (h0_1) (h0_4) (by first | assumption | omega) (by first | assumption | omega) (by first | assumption | omega) (by first | assumption | omega) (by first | assumption | omega) (by first | assumption | omega) (by first | assumption | omega) (by first | assumption | omega)) tM0 cX10 v_X10_wrong i_X10_wrong k_ml_X10_179 ⟨Nat.le_of_ble_eq_true rfl, Nat.le_of_ble_eq_true rfl⟩ rfl (Nat.le_of_ble_eq_true rfl) dX10_code_16 (rg_ex2 ?_)
    show rg_G κ Γ rg_tM 5 0 0 (16 + 3) [(0, .ref (κ.2.2.2 0)), (1, .int (rg_I r)), (2, .int (rg_I b)), (3, .int (rg_I c)), (4, .int (rg_I x))] [.int (rg_I (rg_wg rf fl ((nb : Nat) : Int) ((nr : Nat) : Int) r b c x)), .ref (κ.2.2.2 0)] σ
    refine rg_put F 0 0 tM0 cX10 k_lays_X10 tyX10_ok nmX10 (by decide) k_fl_X10_89 rfl rfl rfl rfl (f9 := (σ 0)) rfl (rg_wr σ 0 (rg_up (σ 0) 0 (rg_wg rf fl ((nb : Nat) : Int) ((nr : Nat) : Int) r b c x))) rfl dX10_code_19 ?_
    refine rg_aload_n F 0 0 rfl dX10_code_22 rfl ?_
    refine rg_get F 0 0 tM0 cX10 k_lays_X10 (by decide) k_fl_X10_89 rfl (v := .int (rg_I (rg_wg rf fl ((nb : Nat) : Int) ((nr : Nat) : Int) r b c x))) rfl dX10_code_23 ?_
    refine rg_if_ne F 38 dX10_code_26 (by decide) (by have b0 := rg_wg_bd (rf := rf) (fl := fl) (nb := ((nb : Nat) : Int)) (nr := ((nr : Nat) : Int)) (r := r) (b := b) (c := c) (x := x); omega) (fun c26_2 => ?_) (fun c26_2 => ?_)
    ·
      exact hR _ _ _ dX10_code_38 (rg_wr_congr (f := (rg_up (σ 0) 0 (rg_wg rf fl ((nb : Nat) : Int) ((nr : Nat) : Int) r b c x))) (g := (rg_up (σ 0) 0 (rg_cC rf fl ((nb : Nat) : Int) ((nr : Nat) : Int) r b c x))) 0 rfl (congrArg _ (by omega)))
    · exfalso; omega
  ·
    refine rg_bipush F dX10_code_8 (by decide +kernel) ?_
    refine rg_goto F 14 dX10_code_10 (by decide) ?_
    refine rg_iload F 4 4 rfl dX10_code_14 ?_
    refine rg_callVI F [.int (rg_I r), .int (rg_I b), .int (rg_I 99), .int (rg_I x)] [.ref (κ.2.2.2 0)] 0 (k_X10_wrong κ σ (r) (b) (99) (x) fl rf (nb) (nr) (h2) (h4) (h0_1) (h0_4) (by first | assumption | omega) (by first | assumption | omega) (by first | assumption | omega) (by first | assumption | omega) (by first | assumption | omega) (by first | assumption | omega) (by first | assumption | omega) (by first | assumption | omega)) tM0 cX10 v_X10_wrong i_X10_wrong k_ml_X10_179 ⟨Nat.le_of_ble_eq_true rfl, Nat.le_of_ble_eq_true rfl⟩ rfl (Nat.le_of_ble_eq_true rfl) dX10_code_16 (rg_ex2 ?_)
    show rg_G κ Γ rg_tM 5 0 0 (16 + 3) [(0, .ref (κ.2.2.2 0)), (1, .int (rg_I r)), (2, .int (rg_I b)), (3, .int (rg_I c)), (4, .int (rg_I x))] [.int (rg_I (rg_wg rf fl ((nb : Nat) : Int) ((nr : Nat) : Int) r b 99 x)), .ref (κ.2.2.2 0)] σ
    refine rg_put F 0 0 tM0 cX10 k_lays_X10 tyX10_ok nmX10 (by decide) k_fl_X10_89 rfl rfl rfl rfl (f9 := (σ 0)) rfl (rg_wr σ 0 (rg_up (σ 0) 0 (rg_wg rf fl ((nb : Nat) : Int) ((nr : Nat) : Int) r b 99 x))) rfl dX10_code_19 ?_
    refine rg_aload_n F 0 0 rfl dX10_code_22 rfl ?_
    refine rg_get F 0 0 tM0 cX10 k_lays_X10 (by decide) k_fl_X10_89 rfl (v := .int (rg_I (rg_wg rf fl ((nb : Nat) : Int) ((nr : Nat) : Int) r b 99 x))) rfl dX10_code_23 ?_
    refine rg_if_ne F 38 dX10_code_26 (by decide) (by have b0 := rg_wg_bd (rf := rf) (fl := fl) (nb := ((nb : Nat) : Int)) (nr := ((nr : Nat) : Int)) (r := r) (b := b) (c := 99) (x := x); omega) (fun c26_3 => ?_) (fun c26_3 => ?_)
    ·
      exact hR _ _ _ dX10_code_38 (rg_wr_congr (f := (rg_up (σ 0) 0 (rg_wg rf fl ((nb : Nat) : Int) ((nr : Nat) : Int) r b 99 x))) (g := (rg_up (σ 0) 0 (rg_cC rf fl ((nb : Nat) : Int) ((nr : Nat) : Int) r b c x))) 0 rfl (congrArg _ (by omega)))
    · exfalso; omega
set_option maxHeartbeats 400000 in
set_option maxRecDepth 100000 in
/-- penalty, done -/
theorem k_X10_penalty_o (κ : rg_K) (σ : rg_S) (r b p : Int) (pu : Nat → Int) (pp : Nat → Int) (nb : Nat) (nr : Nat) (h6 : σ 6 = pu) (h8 : σ 8 = pp) (h0_1 : σ 0 1 = ((nb : Nat) : Int)) (h0_4 : σ 0 4 = ((nr : Nat) : Int)) (hnb : nb ≤ 40) (hnr : nr ≤ 16) (hr : rg_Rg r) (hb : rg_Rg b) (hp : rg_Rg p) (hpu : ∀ j, rg_Rg (pu j)) (hc : (rg_cP pu ((nb : Nat) : Int) ((nr : Nat) : Int) r b p) = 0) : rg_CV κ rg_tM yX10_penalty cX10_penalty 4 2 44 [.ref (κ.2.2.2 0), .int (rg_I r), .int (rg_I b), .int (rg_I p)] σ (fun σ9 => σ9 = (rg_wr (rg_wr σ 0 (rg_up (σ 0) 0 0)) 8 (rg_up pp (Int.toNat r * 40 + Int.toNat b) p))) := by
  refine rg_entV [(0, .ref (κ.2.2.2 0)), (1, .int (rg_I r)), (2, .int (rg_I b)), (3, .int (rg_I p))] rfl (by decide +kernel) (Nat.le_of_ble_eq_true rfl) (fun Γ F hR => ?_)
  refine rg_aload_n F 0 0 rfl dX10_penalty_0 rfl ?_
  refine rg_aload_n F 0 0 rfl dX10_penalty_1 rfl ?_
  refine rg_iload_n F 1 1 rfl dX10_penalty_2 rfl ?_
  refine rg_iload_n F 2 2 rfl dX10_penalty_3 rfl ?_
  refine rg_callVI F [.int (rg_I r), .int (rg_I b)] [.ref (κ.2.2.2 0)] 0 (k_X10_isThere κ σ (r) (b) (nb) (nr) (h0_1) (h0_4) (by first | assumption | omega) (by first | assumption | omega) (by first | assumption | omega) (by first | assumption | omega)) tM0 cX10 v_X10_isThere i_X10_isThere k_ml_X10_176 ⟨Nat.le_of_ble_eq_true rfl, Nat.le_of_ble_eq_true rfl⟩ rfl (Nat.le_of_ble_eq_true rfl) dX10_penalty_4 (rg_ex2 ?_)
  show rg_G κ Γ rg_tM 4 0 0 (4 + 3) [(0, .ref (κ.2.2.2 0)), (1, .int (rg_I r)), (2, .int (rg_I b)), (3, .int (rg_I p))] [.int (rg_I (rg_b (rg_th ((nb : Nat) : Int) ((nr : Nat) : Int) r b))), .ref (κ.2.2.2 0)] σ
  refine rg_if_ne F 14 dX10_penalty_7 (by decide) (by have b0 := rg_b_Rg (rg_th ((nb : Nat) : Int) ((nr : Nat) : Int) r b); omega) (fun c7_1 => ?_) (fun c7_1 => ?_)
  ·
    have c7_1 := (rg_b_ne0 _).mp c7_1
    refine rg_aload_n F 0 0 rfl dX10_penalty_14 rfl ?_
    refine rg_get F 0 8 tM0 cX10 k_lays_X10 (by decide) k_fl_X10_26 rfl (v := .ref (κ.2.2.2 6)) rfl dX10_penalty_15 ?_
    refine rg_bipush F dX10_penalty_18 (by decide +kernel) ?_
    refine rg_iload_n F 1 1 rfl dX10_penalty_20 rfl ?_
    refine rg_stk (st' := [.int (rg_I ((Int.toNat r : Nat) : Int)), .int (rg_I 40), .ref (κ.2.2.2 6), .ref (κ.2.2.2 0)]) (by rw [Int.toNat_of_nonneg (a := r) (by omega)]) ?_
    refine rg_imul F dX10_penalty_21 ?_
    refine rg_iload_n F 2 2 rfl dX10_penalty_22 rfl ?_
    refine rg_stk (st' := [.int (rg_I ((Int.toNat b : Nat) : Int)), .int (rg_I (40 * ((Int.toNat r : Nat) : Int))), .ref (κ.2.2.2 6), .ref (κ.2.2.2 0)]) (by rw [Int.toNat_of_nonneg (a := b) (by omega)]) ?_
    refine rg_iadd F dX10_penalty_23 ?_
    refine rg_stk (st' := [.int (rg_I (((Int.toNat r) * 40 + (Int.toNat b) : Nat) : Int)), .ref (κ.2.2.2 6), .ref (κ.2.2.2 0)]) (congrArg (fun x9 : Int => Value.int (rg_I x9) :: [.ref (κ.2.2.2 6), .ref (κ.2.2.2 0)]) (by omega)) ?_
    refine rg_iald F 6 ((Int.toNat r) * 40 + (Int.toNat b)) (v := (pu ((Int.toNat r) * 40 + (Int.toNat b)))) tM6 (by omega) (by omega) (by decide) (congrFun h6 ((Int.toNat r) * 40 + (Int.toNat b))) dX10_penalty_24 ?_
    refine rg_bipush F dX10_penalty_25 (by decide +kernel) ?_
    refine rg_icmp_eq F 34 dX10_penalty_27 (by decide) (by have b0 := hpu (((Int.toNat r) * 40 + (Int.toNat b))); omega) (by omega) (fun c27_2 => ?_) (fun c27_2 => ?_)
    ·
      refine rg_iload_n F 3 3 rfl dX10_penalty_34 rfl ?_
      refine rg_iconst F dX10_penalty_35 ?_
      refine rg_bipush F dX10_penalty_36 (by decide +kernel) ?_
      refine rg_callSI F [.int (rg_I p), .int (rg_I 0), .int (rg_I 100)] [.ref (κ.2.2.2 0)] (k_X10_in κ rg_tM σ (p) (0) (100) (by first | assumption | omega) (by first | assumption | omega) (by first | assumption | omega)) v_X10_in k_st_yX10_in k_ml_X10_172 ⟨Nat.le_of_ble_eq_true rfl, Nat.le_of_ble_eq_true rfl⟩ rfl (Nat.le_of_ble_eq_true rfl) dX10_penalty_38 (rg_ex2 ?_)
      show rg_G κ Γ rg_tM 4 0 0 (38 + 3) [(0, .ref (κ.2.2.2 0)), (1, .int (rg_I r)), (2, .int (rg_I b)), (3, .int (rg_I p))] [.int (rg_I (rg_b (0 ≤ p ∧ p ≤ 100))), .ref (κ.2.2.2 0)] σ
      refine rg_if_eq F 48 dX10_penalty_41 (by decide) (by have b0 := rg_b_Rg (0 ≤ p ∧ p ≤ 100); omega) (fun c41_3 => ?_) (fun c41_3 => ?_)
      ·
        have c41_3 := (rg_b_eq0 _).mp c41_3
        refine rg_iconst F dX10_penalty_48 ?_
        refine rg_put F 0 0 tM0 cX10 k_lays_X10 tyX10_ok nmX10 (by decide) k_fl_X10_89 rfl rfl rfl rfl (f9 := (σ 0)) rfl (rg_wr σ 0 (rg_up (σ 0) 0 3)) rfl dX10_penalty_49 ?_
        refine rg_aload_n F 0 0 rfl dX10_penalty_52 rfl ?_
        refine rg_get F 0 0 tM0 cX10 k_lays_X10 (by decide) k_fl_X10_89 rfl (v := .int (rg_I 3)) rfl dX10_penalty_53 ?_
        exfalso; unfold rg_cP at hc; (repeat' split at hc) <;> omega
      ·
        have c41_3 := (rg_b_ne0 _).mp c41_3
        refine rg_iconst F dX10_penalty_44 ?_
        refine rg_goto F 49 dX10_penalty_45 (by decide) ?_
        refine rg_put F 0 0 tM0 cX10 k_lays_X10 tyX10_ok nmX10 (by decide) k_fl_X10_89 rfl rfl rfl rfl (f9 := (σ 0)) rfl (rg_wr σ 0 (rg_up (σ 0) 0 0)) rfl dX10_penalty_49 ?_
        refine rg_aload_n F 0 0 rfl dX10_penalty_52 rfl ?_
        refine rg_get F 0 0 tM0 cX10 k_lays_X10 (by decide) k_fl_X10_89 rfl (v := .int (rg_I 0)) rfl dX10_penalty_53 ?_
        refine rg_if_ne F 71 dX10_penalty_56 (by decide) (by omega) (fun c56_4 => ?_) (fun c56_4 => ?_)
        · exfalso; omega
        ·
          refine rg_aload_n F 0 0 rfl dX10_penalty_59 rfl ?_
          refine rg_get F 0 10 tM0 cX10 k_lays_X10 (by decide) k_fl_X10_32 rfl (v := .ref (κ.2.2.2 8)) rfl dX10_penalty_60 ?_
          refine rg_bipush F dX10_penalty_63 (by decide +kernel) ?_
          refine rg_iload_n F 1 1 rfl dX10_penalty_65 rfl ?_
          refine rg_stk (st' := [.int (rg_I ((Int.toNat r : Nat) : Int)), .int (rg_I 40), .ref (κ.2.2.2 8)]) (by rw [Int.toNat_of_nonneg (a := r) (by omega)]) ?_
          refine rg_imul F dX10_penalty_66 ?_
          refine rg_iload_n F 2 2 rfl dX10_penalty_67 rfl ?_
          refine rg_stk (st' := [.int (rg_I ((Int.toNat b : Nat) : Int)), .int (rg_I (40 * ((Int.toNat r : Nat) : Int))), .ref (κ.2.2.2 8)]) (by rw [Int.toNat_of_nonneg (a := b) (by omega)]) ?_
          refine rg_iadd F dX10_penalty_68 ?_
          refine rg_stk (st' := [.int (rg_I (((Int.toNat r) * 40 + (Int.toNat b) : Nat) : Int)), .ref (κ.2.2.2 8)]) (congrArg (fun x9 : Int => Value.int (rg_I x9) :: [.ref (κ.2.2.2 8)]) (by omega)) ?_
          refine rg_iload_n F 3 3 rfl dX10_penalty_69 rfl ?_
          refine rg_iast F 8 ((Int.toNat r) * 40 + (Int.toNat b)) tM8 (by omega) (by omega) (by decide) (f9 := pp) h8 (rg_wr (rg_wr σ 0 (rg_up (σ 0) 0 0)) 8 (rg_up pp ((Int.toNat r) * 40 + (Int.toNat b)) p)) rfl dX10_penalty_70 ?_
          exact hR _ _ _ dX10_penalty_71 (rg_wr_congr (f := (rg_up pp ((Int.toNat r) * 40 + (Int.toNat b)) p)) (g := (rg_up pp (Int.toNat r * 40 + Int.toNat b) p)) 8 (rg_wr_congr (f := (rg_up (σ 0) 0 0)) (g := (rg_up (σ 0) 0 0)) 0 rfl rfl) rfl)
    ·
      refine rg_iconst F dX10_penalty_30 ?_
      refine rg_goto F 49 dX10_penalty_31 (by decide) ?_
      refine rg_put F 0 0 tM0 cX10 k_lays_X10 tyX10_ok nmX10 (by decide) k_fl_X10_89 rfl rfl rfl rfl (f9 := (σ 0)) rfl (rg_wr σ 0 (rg_up (σ 0) 0 2)) rfl dX10_penalty_49 ?_
      refine rg_aload_n F 0 0 rfl dX10_penalty_52 rfl ?_
      refine rg_get F 0 0 tM0 cX10 k_lays_X10 (by decide) k_fl_X10_89 rfl (v := .int (rg_I 2)) rfl dX10_penalty_53 ?_
      exfalso; unfold rg_cP at hc; (repeat' split at hc) <;> omega
  ·
    have c7_1 := (rg_b_eq0 _).mp c7_1
    refine rg_iconst F dX10_penalty_10 ?_
    refine rg_goto F 49 dX10_penalty_11 (by decide) ?_
    refine rg_put F 0 0 tM0 cX10 k_lays_X10 tyX10_ok nmX10 (by decide) k_fl_X10_89 rfl rfl rfl rfl (f9 := (σ 0)) rfl (rg_wr σ 0 (rg_up (σ 0) 0 1)) rfl dX10_penalty_49 ?_
    refine rg_aload_n F 0 0 rfl dX10_penalty_52 rfl ?_
    refine rg_get F 0 0 tM0 cX10 k_lays_X10 (by decide) k_fl_X10_89 rfl (v := .int (rg_I 1)) rfl dX10_penalty_53 ?_
    exfalso; unfold rg_cP at hc; (repeat' split at hc) <;> omega
set_option maxHeartbeats 400000 in
set_option maxRecDepth 100000 in
/-- penalty, refused -/
theorem k_X10_penalty_n (κ : rg_K) (σ : rg_S) (r b p : Int) (pu : Nat → Int) (pp : Nat → Int) (nb : Nat) (nr : Nat) (h6 : σ 6 = pu) (h8 : σ 8 = pp) (h0_1 : σ 0 1 = ((nb : Nat) : Int)) (h0_4 : σ 0 4 = ((nr : Nat) : Int)) (hnb : nb ≤ 40) (hnr : nr ≤ 16) (hr : rg_Rg r) (hb : rg_Rg b) (hp : rg_Rg p) (hpu : ∀ j, rg_Rg (pu j)) (hc : ¬ (rg_cP pu ((nb : Nat) : Int) ((nr : Nat) : Int) r b p) = 0) : rg_CV κ rg_tM yX10_penalty cX10_penalty 4 2 44 [.ref (κ.2.2.2 0), .int (rg_I r), .int (rg_I b), .int (rg_I p)] σ (fun σ9 => σ9 = (rg_wr σ 0 (rg_up (σ 0) 0 (rg_cP pu ((nb : Nat) : Int) ((nr : Nat) : Int) r b p)))) := by
  refine rg_entV [(0, .ref (κ.2.2.2 0)), (1, .int (rg_I r)), (2, .int (rg_I b)), (3, .int (rg_I p))] rfl (by decide +kernel) (Nat.le_of_ble_eq_true rfl) (fun Γ F hR => ?_)
  refine rg_aload_n F 0 0 rfl dX10_penalty_0 rfl ?_
  refine rg_aload_n F 0 0 rfl dX10_penalty_1 rfl ?_
  refine rg_iload_n F 1 1 rfl dX10_penalty_2 rfl ?_
  refine rg_iload_n F 2 2 rfl dX10_penalty_3 rfl ?_
  refine rg_callVI F [.int (rg_I r), .int (rg_I b)] [.ref (κ.2.2.2 0)] 0 (k_X10_isThere κ σ (r) (b) (nb) (nr) (h0_1) (h0_4) (by first | assumption | omega) (by first | assumption | omega) (by first | assumption | omega) (by first | assumption | omega)) tM0 cX10 v_X10_isThere i_X10_isThere k_ml_X10_176 ⟨Nat.le_of_ble_eq_true rfl, Nat.le_of_ble_eq_true rfl⟩ rfl (Nat.le_of_ble_eq_true rfl) dX10_penalty_4 (rg_ex2 ?_)
  show rg_G κ Γ rg_tM 4 0 0 (4 + 3) [(0, .ref (κ.2.2.2 0)), (1, .int (rg_I r)), (2, .int (rg_I b)), (3, .int (rg_I p))] [.int (rg_I (rg_b (rg_th ((nb : Nat) : Int) ((nr : Nat) : Int) r b))), .ref (κ.2.2.2 0)] σ
  refine rg_if_ne F 14 dX10_penalty_7 (by decide) (by have b0 := rg_b_Rg (rg_th ((nb : Nat) : Int) ((nr : Nat) : Int) r b); omega) (fun c7_1 => ?_) (fun c7_1 => ?_)
  ·
    have c7_1 := (rg_b_ne0 _).mp c7_1
    refine rg_aload_n F 0 0 rfl dX10_penalty_14 rfl ?_
    refine rg_get F 0 8 tM0 cX10 k_lays_X10 (by decide) k_fl_X10_26 rfl (v := .ref (κ.2.2.2 6)) rfl dX10_penalty_15 ?_
    refine rg_bipush F dX10_penalty_18 (by decide +kernel) ?_
    refine rg_iload_n F 1 1 rfl dX10_penalty_20 rfl ?_
    refine rg_stk (st' := [.int (rg_I ((Int.toNat r : Nat) : Int)), .int (rg_I 40), .ref (κ.2.2.2 6), .ref (κ.2.2.2 0)]) (by rw [Int.toNat_of_nonneg (a := r) (by omega)]) ?_
    refine rg_imul F dX10_penalty_21 ?_
    refine rg_iload_n F 2 2 rfl dX10_penalty_22 rfl ?_
    refine rg_stk (st' := [.int (rg_I ((Int.toNat b : Nat) : Int)), .int (rg_I (40 * ((Int.toNat r : Nat) : Int))), .ref (κ.2.2.2 6), .ref (κ.2.2.2 0)]) (by rw [Int.toNat_of_nonneg (a := b) (by omega)]) ?_
    refine rg_iadd F dX10_penalty_23 ?_
    refine rg_stk (st' := [.int (rg_I (((Int.toNat r) * 40 + (Int.toNat b) : Nat) : Int)), .ref (κ.2.2.2 6), .ref (κ.2.2.2 0)]) (congrArg (fun x9 : Int => Value.int (rg_I x9) :: [.ref (κ.2.2.2 6), .ref (κ.2.2.2 0)]) (by omega)) ?_
    refine rg_iald F 6 ((Int.toNat r) * 40 + (Int.toNat b)) (v := (pu ((Int.toNat r) * 40 + (Int.toNat b)))) tM6 (by omega) (by omega) (by decide) (congrFun h6 ((Int.toNat r) * 40 + (Int.toNat b))) dX10_penalty_24 ?_
    refine rg_bipush F dX10_penalty_25 (by decide +kernel) ?_
    refine rg_icmp_eq F 34 dX10_penalty_27 (by decide) (by have b0 := hpu (((Int.toNat r) * 40 + (Int.toNat b))); omega) (by omega) (fun c27_2 => ?_) (fun c27_2 => ?_)
    ·
      refine rg_iload_n F 3 3 rfl dX10_penalty_34 rfl ?_
      refine rg_iconst F dX10_penalty_35 ?_
      refine rg_bipush F dX10_penalty_36 (by decide +kernel) ?_
      refine rg_callSI F [.int (rg_I p), .int (rg_I 0), .int (rg_I 100)] [.ref (κ.2.2.2 0)] (k_X10_in κ rg_tM σ (p) (0) (100) (by first | assumption | omega) (by first | assumption | omega) (by first | assumption | omega)) v_X10_in k_st_yX10_in k_ml_X10_172 ⟨Nat.le_of_ble_eq_true rfl, Nat.le_of_ble_eq_true rfl⟩ rfl (Nat.le_of_ble_eq_true rfl) dX10_penalty_38 (rg_ex2 ?_)
      show rg_G κ Γ rg_tM 4 0 0 (38 + 3) [(0, .ref (κ.2.2.2 0)), (1, .int (rg_I r)), (2, .int (rg_I b)), (3, .int (rg_I p))] [.int (rg_I (rg_b (0 ≤ p ∧ p ≤ 100))), .ref (κ.2.2.2 0)] σ
      refine rg_if_eq F 48 dX10_penalty_41 (by decide) (by have b0 := rg_b_Rg (0 ≤ p ∧ p ≤ 100); omega) (fun c41_3 => ?_) (fun c41_3 => ?_)
      ·
        have c41_3 := (rg_b_eq0 _).mp c41_3
        refine rg_iconst F dX10_penalty_48 ?_
        refine rg_put F 0 0 tM0 cX10 k_lays_X10 tyX10_ok nmX10 (by decide) k_fl_X10_89 rfl rfl rfl rfl (f9 := (σ 0)) rfl (rg_wr σ 0 (rg_up (σ 0) 0 3)) rfl dX10_penalty_49 ?_
        refine rg_aload_n F 0 0 rfl dX10_penalty_52 rfl ?_
        refine rg_get F 0 0 tM0 cX10 k_lays_X10 (by decide) k_fl_X10_89 rfl (v := .int (rg_I 3)) rfl dX10_penalty_53 ?_
        refine rg_if_ne F 71 dX10_penalty_56 (by decide) (by omega) (fun c56_4 => ?_) (fun c56_4 => ?_)
        ·
          exact hR _ _ _ dX10_penalty_71 (rg_wr_congr (f := (rg_up (σ 0) 0 3)) (g := (rg_up (σ 0) 0 (rg_cP pu ((nb : Nat) : Int) ((nr : Nat) : Int) r b p))) 0 rfl (by (repeat rw [rg_up_up]) <;> first | rfl | exact congrArg (rg_up _ 0) (by unfold rg_cP; (repeat' split) <;> omega)))
        · exfalso; omega
      ·
        have c41_3 := (rg_b_ne0 _).mp c41_3
        refine rg_iconst F dX10_penalty_44 ?_
        refine rg_goto F 49 dX10_penalty_45 (by decide) ?_
        refine rg_put F 0 0 tM0 cX10 k_lays_X10 tyX10_ok nmX10 (by decide) k_fl_X10_89 rfl rfl rfl rfl (f9 := (σ 0)) rfl (rg_wr σ 0 (rg_up (σ 0) 0 0)) rfl dX10_penalty_49 ?_
        refine rg_aload_n F 0 0 rfl dX10_penalty_52 rfl ?_
        refine rg_get F 0 0 tM0 cX10 k_lays_X10 (by decide) k_fl_X10_89 rfl (v := .int (rg_I 0)) rfl dX10_penalty_53 ?_
        exfalso; unfold rg_cP at hc; (repeat' split at hc) <;> omega
    ·
      refine rg_iconst F dX10_penalty_30 ?_
      refine rg_goto F 49 dX10_penalty_31 (by decide) ?_
      refine rg_put F 0 0 tM0 cX10 k_lays_X10 tyX10_ok nmX10 (by decide) k_fl_X10_89 rfl rfl rfl rfl (f9 := (σ 0)) rfl (rg_wr σ 0 (rg_up (σ 0) 0 2)) rfl dX10_penalty_49 ?_
      refine rg_aload_n F 0 0 rfl dX10_penalty_52 rfl ?_
      refine rg_get F 0 0 tM0 cX10 k_lays_X10 (by decide) k_fl_X10_89 rfl (v := .int (rg_I 2)) rfl dX10_penalty_53 ?_
      refine rg_if_ne F 71 dX10_penalty_56 (by decide) (by omega) (fun c56_5 => ?_) (fun c56_5 => ?_)
      ·
        exact hR _ _ _ dX10_penalty_71 (rg_wr_congr (f := (rg_up (σ 0) 0 2)) (g := (rg_up (σ 0) 0 (rg_cP pu ((nb : Nat) : Int) ((nr : Nat) : Int) r b p))) 0 rfl (by (repeat rw [rg_up_up]) <;> first | rfl | exact congrArg (rg_up _ 0) (by unfold rg_cP; (repeat' split) <;> omega)))
      · exfalso; omega
  ·
    have c7_1 := (rg_b_eq0 _).mp c7_1
    refine rg_iconst F dX10_penalty_10 ?_
    refine rg_goto F 49 dX10_penalty_11 (by decide) ?_
    refine rg_put F 0 0 tM0 cX10 k_lays_X10 tyX10_ok nmX10 (by decide) k_fl_X10_89 rfl rfl rfl rfl (f9 := (σ 0)) rfl (rg_wr σ 0 (rg_up (σ 0) 0 1)) rfl dX10_penalty_49 ?_
    refine rg_aload_n F 0 0 rfl dX10_penalty_52 rfl ?_
    refine rg_get F 0 0 tM0 cX10 k_lays_X10 (by decide) k_fl_X10_89 rfl (v := .int (rg_I 1)) rfl dX10_penalty_53 ?_
    refine rg_if_ne F 71 dX10_penalty_56 (by decide) (by omega) (fun c56_6 => ?_) (fun c56_6 => ?_)
    ·
      exact hR _ _ _ dX10_penalty_71 (rg_wr_congr (f := (rg_up (σ 0) 0 1)) (g := (rg_up (σ 0) 0 (rg_cP pu ((nb : Nat) : Int) ((nr : Nat) : Int) r b p))) 0 rfl (by (repeat rw [rg_up_up]) <;> first | rfl | exact congrArg (rg_up _ 0) (by unfold rg_cP; (repeat' split) <;> omega)))
    · exfalso; omega
set_option maxHeartbeats 400000 in
set_option maxRecDepth 100000 in
/-- clear, done -/
theorem k_X10_clear_o (κ : rg_K) (σ : rg_S) (r b : Int) (pu : Nat → Int) (pa : Nat → Int) (pp : Nat → Int) (nb : Nat) (nr : Nat) (h6 : σ 6 = pu) (h7 : σ 7 = pa) (h8 : σ 8 = pp) (h0_1 : σ 0 1 = ((nb : Nat) : Int)) (h0_4 : σ 0 4 = ((nr : Nat) : Int)) (hnb : nb ≤ 40) (hnr : nr ≤ 16) (hr : rg_Rg r) (hb : rg_Rg b) (hpu : ∀ j, rg_Rg (pu j)) (hc : (rg_cT ((nb : Nat) : Int) ((nr : Nat) : Int) r b) = 0) : rg_CI κ rg_tM yX10_clear cX10_clear 4 FieldType.boolean 2 44 [.ref (κ.2.2.2 0), .int (rg_I r), .int (rg_I b)] σ (fun r9 σ9 => r9 = (rg_b (¬ pu (Int.toNat r * 40 + Int.toNat b) = 0)) ∧ σ9 = (rg_wr (rg_wr (rg_wr (rg_wr σ 0 (rg_up (σ 0) 0 0)) 6 (rg_up pu (Int.toNat r * 40 + Int.toNat b) 0)) 7 (rg_up pa (Int.toNat r * 40 + Int.toNat b) 0)) 8 (rg_up pp (Int.toNat r * 40 + Int.toNat b) 0))) := by
  refine rg_entI [(0, .ref (κ.2.2.2 0)), (1, .int (rg_I r)), (2, .int (rg_I b))] rfl (by decide +kernel) (Nat.le_of_ble_eq_true rfl) (by first | exact Or.inl rfl | exact Or.inr rfl) (fun Γ F hR => ?_)
  refine rg_aload_n F 0 0 rfl dX10_clear_0 rfl ?_
  refine rg_aload_n F 0 0 rfl dX10_clear_1 rfl ?_
  refine rg_iload_n F 1 1 rfl dX10_clear_2 rfl ?_
  refine rg_iload_n F 2 2 rfl dX10_clear_3 rfl ?_
  refine rg_callVI F [.int (rg_I r), .int (rg_I b)] [.ref (κ.2.2.2 0)] 0 (k_X10_isThere κ σ (r) (b) (nb) (nr) (h0_1) (h0_4) (by first | assumption | omega) (by first | assumption | omega) (by first | assumption | omega) (by first | assumption | omega)) tM0 cX10 v_X10_isThere i_X10_isThere k_ml_X10_176 ⟨Nat.le_of_ble_eq_true rfl, Nat.le_of_ble_eq_true rfl⟩ rfl (Nat.le_of_ble_eq_true rfl) dX10_clear_4 (rg_ex2 ?_)
  show rg_G κ Γ rg_tM 4 0 0 (4 + 3) [(0, .ref (κ.2.2.2 0)), (1, .int (rg_I r)), (2, .int (rg_I b))] [.int (rg_I (rg_b (rg_th ((nb : Nat) : Int) ((nr : Nat) : Int) r b))), .ref (κ.2.2.2 0)] σ
  refine rg_if_eq F 14 dX10_clear_7 (by decide) (by have b0 := rg_b_Rg (rg_th ((nb : Nat) : Int) ((nr : Nat) : Int) r b); omega) (fun c7_1 => ?_) (fun c7_1 => ?_)
  ·
    have c7_1 := (rg_b_eq0 _).mp c7_1
    refine rg_iconst F dX10_clear_14 ?_
    refine rg_put F 0 0 tM0 cX10 k_lays_X10 tyX10_ok nmX10 (by decide) k_fl_X10_89 rfl rfl rfl rfl (f9 := (σ 0)) rfl (rg_wr σ 0 (rg_up (σ 0) 0 1)) rfl dX10_clear_15 ?_
    refine rg_aload_n F 0 0 rfl dX10_clear_18 rfl ?_
    refine rg_get F 0 0 tM0 cX10 k_lays_X10 (by decide) k_fl_X10_89 rfl (v := .int (rg_I 1)) rfl dX10_clear_19 ?_
    exfalso; unfold rg_cT at hc; (repeat' split at hc) <;> omega
  ·
    have c7_1 := (rg_b_ne0 _).mp c7_1
    refine rg_iconst F dX10_clear_10 ?_
    refine rg_goto F 15 dX10_clear_11 (by decide) ?_
    refine rg_put F 0 0 tM0 cX10 k_lays_X10 tyX10_ok nmX10 (by decide) k_fl_X10_89 rfl rfl rfl rfl (f9 := (σ 0)) rfl (rg_wr σ 0 (rg_up (σ 0) 0 0)) rfl dX10_clear_15 ?_
    refine rg_aload_n F 0 0 rfl dX10_clear_18 rfl ?_
    refine rg_get F 0 0 tM0 cX10 k_lays_X10 (by decide) k_fl_X10_89 rfl (v := .int (rg_I 0)) rfl dX10_clear_19 ?_
    refine rg_if_le F 27 dX10_clear_22 (by decide) (by omega) (fun c22_2 => ?_) (fun c22_2 => ?_)
    ·
      refine rg_aload_n F 0 0 rfl dX10_clear_27 rfl ?_
      refine rg_get F 0 8 tM0 cX10 k_lays_X10 (by decide) k_fl_X10_26 rfl (v := .ref (κ.2.2.2 6)) rfl dX10_clear_28 ?_
      refine rg_bipush F dX10_clear_31 (by decide +kernel) ?_
      refine rg_iload_n F 1 1 rfl dX10_clear_33 rfl ?_
      refine rg_stk (st' := [.int (rg_I ((Int.toNat r : Nat) : Int)), .int (rg_I 40), .ref (κ.2.2.2 6)]) (by rw [Int.toNat_of_nonneg (a := r) (by omega)]) ?_
      refine rg_imul F dX10_clear_34 ?_
      refine rg_iload_n F 2 2 rfl dX10_clear_35 rfl ?_
      refine rg_stk (st' := [.int (rg_I ((Int.toNat b : Nat) : Int)), .int (rg_I (40 * ((Int.toNat r : Nat) : Int))), .ref (κ.2.2.2 6)]) (by rw [Int.toNat_of_nonneg (a := b) (by omega)]) ?_
      refine rg_iadd F dX10_clear_36 ?_
      refine rg_stk (st' := [.int (rg_I (((Int.toNat r) * 40 + (Int.toNat b) : Nat) : Int)), .ref (κ.2.2.2 6)]) (congrArg (fun x9 : Int => Value.int (rg_I x9) :: [.ref (κ.2.2.2 6)]) (by omega)) ?_
      refine rg_iald F 6 ((Int.toNat r) * 40 + (Int.toNat b)) (v := (pu ((Int.toNat r) * 40 + (Int.toNat b)))) tM6 (by omega) (by omega) (by decide) (congrFun h6 ((Int.toNat r) * 40 + (Int.toNat b))) dX10_clear_37 ?_
      refine rg_if_eq F 45 dX10_clear_38 (by decide) (by have b0 := hpu (((Int.toNat r) * 40 + (Int.toNat b))); omega) (fun c38_3 => ?_) (fun c38_3 => ?_)
      ·
        refine rg_iconst F dX10_clear_45 ?_
        refine rg_istore_n F [(3, .int (rg_I 0)), (0, .ref (κ.2.2.2 0)), (1, .int (rg_I r)), (2, .int (rg_I b))] dX10_clear_46 rfl (by decide) rfl ?_
        refine rg_aload_n F 1 0 rfl dX10_clear_47 rfl ?_
        refine rg_iload_n F 2 1 rfl dX10_clear_48 rfl ?_
        refine rg_stk (st' := [.int (rg_I ((Int.toNat r : Nat) : Int)), .ref (κ.2.2.2 0)]) (by rw [Int.toNat_of_nonneg (a := r) (by omega)]) ?_
        refine rg_iload_n F 3 2 rfl dX10_clear_49 rfl ?_
        refine rg_stk (st' := [.int (rg_I ((Int.toNat b : Nat) : Int)), .int (rg_I ((Int.toNat r : Nat) : Int)), .ref (κ.2.2.2 0)]) (by rw [Int.toNat_of_nonneg (a := b) (by omega)]) ?_
        refine rg_iconst F dX10_clear_50 ?_
        refine rg_iconst F dX10_clear_51 ?_
        refine rg_callVV F [.int (rg_I ((Int.toNat r : Nat) : Int)), .int (rg_I ((Int.toNat b : Nat) : Int)), .int (rg_I 0), .int (rg_I 0)] [] 0 (k_X10_enter κ (rg_wr σ 0 (rg_up (σ 0) 0 0)) ((Int.toNat r)) ((Int.toNat b)) (0) (0) pu pa pp (h6) (h7) (h8) (by first | assumption | omega) (by first | assumption | omega)) tM0 cX10 v_X10_enter i_X10_enter k_ml_X10_183 ⟨Nat.le_of_ble_eq_true rfl, Nat.le_of_ble_eq_true rfl⟩ rfl (Nat.le_of_ble_eq_true rfl) dX10_clear_52 (rg_ex1 ?_)
        refine rg_eq (σ' := (rg_wr (rg_wr (rg_wr (rg_wr σ 0 (rg_up (σ 0) 0 0)) 6 (rg_up pu ((Int.toNat r) * 40 + (Int.toNat b)) 0)) 7 (rg_up pa ((Int.toNat r) * 40 + (Int.toNat b)) 0)) 8 (rg_up pp ((Int.toNat r) * 40 + (Int.toNat b)) 0))) rfl ?_
        refine rg_iload_n F 0 3 rfl dX10_clear_55 rfl ?_
        exact hR _ _ _ _ dX10_clear_56 (fun _ => Or.inl rfl) ⟨(by first | exact (rg_b_t (by assumption)).symm | exact (rg_b_f (fun q => q (by assumption))).symm), (rg_wr_congr (f := (rg_up pp ((Int.toNat r) * 40 + (Int.toNat b)) 0)) (g := (rg_up pp (Int.toNat r * 40 + Int.toNat b) 0)) 8 (rg_wr_congr (f := (rg_up pa ((Int.toNat r) * 40 + (Int.toNat b)) 0)) (g := (rg_up pa (Int.toNat r * 40 + Int.toNat b) 0)) 7 (rg_wr_congr (f := (rg_up pu ((Int.toNat r) * 40 + (Int.toNat b)) 0)) (g := (rg_up pu (Int.toNat r * 40 + Int.toNat b) 0)) 6 (rg_wr_congr (f := (rg_up (σ 0) 0 0)) (g := (rg_up (σ 0) 0 0)) 0 rfl rfl) rfl) rfl) rfl)⟩
      ·
        refine rg_iconst F dX10_clear_41 ?_
        refine rg_goto F 46 dX10_clear_42 (by decide) ?_
        refine rg_istore_n F [(3, .int (rg_I 1)), (0, .ref (κ.2.2.2 0)), (1, .int (rg_I r)), (2, .int (rg_I b))] dX10_clear_46 rfl (by decide) rfl ?_
        refine rg_aload_n F 1 0 rfl dX10_clear_47 rfl ?_
        refine rg_iload_n F 2 1 rfl dX10_clear_48 rfl ?_
        refine rg_stk (st' := [.int (rg_I ((Int.toNat r : Nat) : Int)), .ref (κ.2.2.2 0)]) (by rw [Int.toNat_of_nonneg (a := r) (by omega)]) ?_
        refine rg_iload_n F 3 2 rfl dX10_clear_49 rfl ?_
        refine rg_stk (st' := [.int (rg_I ((Int.toNat b : Nat) : Int)), .int (rg_I ((Int.toNat r : Nat) : Int)), .ref (κ.2.2.2 0)]) (by rw [Int.toNat_of_nonneg (a := b) (by omega)]) ?_
        refine rg_iconst F dX10_clear_50 ?_
        refine rg_iconst F dX10_clear_51 ?_
        refine rg_callVV F [.int (rg_I ((Int.toNat r : Nat) : Int)), .int (rg_I ((Int.toNat b : Nat) : Int)), .int (rg_I 0), .int (rg_I 0)] [] 0 (k_X10_enter κ (rg_wr σ 0 (rg_up (σ 0) 0 0)) ((Int.toNat r)) ((Int.toNat b)) (0) (0) pu pa pp (h6) (h7) (h8) (by first | assumption | omega) (by first | assumption | omega)) tM0 cX10 v_X10_enter i_X10_enter k_ml_X10_183 ⟨Nat.le_of_ble_eq_true rfl, Nat.le_of_ble_eq_true rfl⟩ rfl (Nat.le_of_ble_eq_true rfl) dX10_clear_52 (rg_ex1 ?_)
        refine rg_eq (σ' := (rg_wr (rg_wr (rg_wr (rg_wr σ 0 (rg_up (σ 0) 0 0)) 6 (rg_up pu ((Int.toNat r) * 40 + (Int.toNat b)) 0)) 7 (rg_up pa ((Int.toNat r) * 40 + (Int.toNat b)) 0)) 8 (rg_up pp ((Int.toNat r) * 40 + (Int.toNat b)) 0))) rfl ?_
        refine rg_iload_n F 0 3 rfl dX10_clear_55 rfl ?_
        exact hR _ _ _ _ dX10_clear_56 (fun _ => Or.inr rfl) ⟨(by first | exact (rg_b_t (by assumption)).symm | exact (rg_b_f (fun q => q (by assumption))).symm), (rg_wr_congr (f := (rg_up pp ((Int.toNat r) * 40 + (Int.toNat b)) 0)) (g := (rg_up pp (Int.toNat r * 40 + Int.toNat b) 0)) 8 (rg_wr_congr (f := (rg_up pa ((Int.toNat r) * 40 + (Int.toNat b)) 0)) (g := (rg_up pa (Int.toNat r * 40 + Int.toNat b) 0)) 7 (rg_wr_congr (f := (rg_up pu ((Int.toNat r) * 40 + (Int.toNat b)) 0)) (g := (rg_up pu (Int.toNat r * 40 + Int.toNat b) 0)) 6 (rg_wr_congr (f := (rg_up (σ 0) 0 0)) (g := (rg_up (σ 0) 0 0)) 0 rfl rfl) rfl) rfl) rfl)⟩
    · exfalso; omega
set_option maxHeartbeats 400000 in
set_option maxRecDepth 100000 in
/-- clear, refused -/
theorem k_X10_clear_n (κ : rg_K) (σ : rg_S) (r b : Int) (pu : Nat → Int) (pa : Nat → Int) (pp : Nat → Int) (nb : Nat) (nr : Nat) (h6 : σ 6 = pu) (h7 : σ 7 = pa) (h8 : σ 8 = pp) (h0_1 : σ 0 1 = ((nb : Nat) : Int)) (h0_4 : σ 0 4 = ((nr : Nat) : Int)) (hnb : nb ≤ 40) (hnr : nr ≤ 16) (hr : rg_Rg r) (hb : rg_Rg b) (hpu : ∀ j, rg_Rg (pu j)) (hc : ¬ (rg_cT ((nb : Nat) : Int) ((nr : Nat) : Int) r b) = 0) : rg_CI κ rg_tM yX10_clear cX10_clear 4 FieldType.boolean 2 44 [.ref (κ.2.2.2 0), .int (rg_I r), .int (rg_I b)] σ (fun r9 σ9 => r9 = 0 ∧ σ9 = (rg_wr σ 0 (rg_up (σ 0) 0 (rg_cT ((nb : Nat) : Int) ((nr : Nat) : Int) r b)))) := by
  refine rg_entI [(0, .ref (κ.2.2.2 0)), (1, .int (rg_I r)), (2, .int (rg_I b))] rfl (by decide +kernel) (Nat.le_of_ble_eq_true rfl) (by first | exact Or.inl rfl | exact Or.inr rfl) (fun Γ F hR => ?_)
  refine rg_aload_n F 0 0 rfl dX10_clear_0 rfl ?_
  refine rg_aload_n F 0 0 rfl dX10_clear_1 rfl ?_
  refine rg_iload_n F 1 1 rfl dX10_clear_2 rfl ?_
  refine rg_iload_n F 2 2 rfl dX10_clear_3 rfl ?_
  refine rg_callVI F [.int (rg_I r), .int (rg_I b)] [.ref (κ.2.2.2 0)] 0 (k_X10_isThere κ σ (r) (b) (nb) (nr) (h0_1) (h0_4) (by first | assumption | omega) (by first | assumption | omega) (by first | assumption | omega) (by first | assumption | omega)) tM0 cX10 v_X10_isThere i_X10_isThere k_ml_X10_176 ⟨Nat.le_of_ble_eq_true rfl, Nat.le_of_ble_eq_true rfl⟩ rfl (Nat.le_of_ble_eq_true rfl) dX10_clear_4 (rg_ex2 ?_)
  show rg_G κ Γ rg_tM 4 0 0 (4 + 3) [(0, .ref (κ.2.2.2 0)), (1, .int (rg_I r)), (2, .int (rg_I b))] [.int (rg_I (rg_b (rg_th ((nb : Nat) : Int) ((nr : Nat) : Int) r b))), .ref (κ.2.2.2 0)] σ
  refine rg_if_eq F 14 dX10_clear_7 (by decide) (by have b0 := rg_b_Rg (rg_th ((nb : Nat) : Int) ((nr : Nat) : Int) r b); omega) (fun c7_1 => ?_) (fun c7_1 => ?_)
  ·
    have c7_1 := (rg_b_eq0 _).mp c7_1
    refine rg_iconst F dX10_clear_14 ?_
    refine rg_put F 0 0 tM0 cX10 k_lays_X10 tyX10_ok nmX10 (by decide) k_fl_X10_89 rfl rfl rfl rfl (f9 := (σ 0)) rfl (rg_wr σ 0 (rg_up (σ 0) 0 1)) rfl dX10_clear_15 ?_
    refine rg_aload_n F 0 0 rfl dX10_clear_18 rfl ?_
    refine rg_get F 0 0 tM0 cX10 k_lays_X10 (by decide) k_fl_X10_89 rfl (v := .int (rg_I 1)) rfl dX10_clear_19 ?_
    refine rg_if_le F 27 dX10_clear_22 (by decide) (by omega) (fun c22_2 => ?_) (fun c22_2 => ?_)
    · exfalso; omega
    ·
      refine rg_iconst F dX10_clear_25 ?_
      exact hR _ _ _ _ dX10_clear_26 (fun _ => Or.inl rfl) ⟨rfl, (rg_wr_congr (f := (rg_up (σ 0) 0 1)) (g := (rg_up (σ 0) 0 (rg_cT ((nb : Nat) : Int) ((nr : Nat) : Int) r b))) 0 rfl (by (repeat rw [rg_up_up]) <;> first | rfl | exact congrArg (rg_up _ 0) (by unfold rg_cT; (repeat' split) <;> omega)))⟩
  ·
    have c7_1 := (rg_b_ne0 _).mp c7_1
    refine rg_iconst F dX10_clear_10 ?_
    refine rg_goto F 15 dX10_clear_11 (by decide) ?_
    refine rg_put F 0 0 tM0 cX10 k_lays_X10 tyX10_ok nmX10 (by decide) k_fl_X10_89 rfl rfl rfl rfl (f9 := (σ 0)) rfl (rg_wr σ 0 (rg_up (σ 0) 0 0)) rfl dX10_clear_15 ?_
    refine rg_aload_n F 0 0 rfl dX10_clear_18 rfl ?_
    refine rg_get F 0 0 tM0 cX10 k_lays_X10 (by decide) k_fl_X10_89 rfl (v := .int (rg_I 0)) rfl dX10_clear_19 ?_
    exfalso; unfold rg_cT at hc; (repeat' split at hc) <;> omega
set_option maxHeartbeats 400000 in
set_option maxRecDepth 100000 in
/-- protest, done -/
theorem k_X10_protest_o (κ : rg_K) (σ : rg_S) (r b c x : Int) (fl : Nat → Int) (rf : Nat → Int) (wh : Nat → Int) (wt : Nat → Int) (wa : Nat → Int) (ro : Nat → Int) (nb : Nat) (nr : Nat) (nd : Nat) (h2 : σ 2 = fl) (h4 : σ 4 = rf) (h9 : σ 9 = wh) (h10 : σ 10 = wt) (h11 : σ 11 = wa) (h12 : σ 12 = ro) (h0_1 : σ 0 1 = ((nb : Nat) : Int)) (h0_4 : σ 0 4 = ((nr : Nat) : Int)) (h0_11 : σ 0 11 = ((nd : Nat) : Int)) (hnb : nb ≤ 40) (hnr : nr ≤ 16) (hr : rg_Rg r) (hb : rg_Rg b) (hfl : ∀ j, rg_Rg (fl j)) (hrf : ∀ j, rg_Rg (rf j)) (hcr : rg_Rg c) (hx : rg_Rg x) (hnd : nd ≤ 40) (hc : (rg_cQ (rg_wg rf fl ((nb : Nat) : Int) ((nr : Nat) : Int) r b c x) ((nd : Nat) : Int)) = 0) : rg_CI κ rg_tM yX10_protest cX10_protest 5 FieldType.int 3 69 [.ref (κ.2.2.2 0), .int (rg_I r), .int (rg_I b), .int (rg_I c), .int (rg_I x)] σ (fun r9 σ9 => r9 = ((nd : Nat) : Int) ∧ σ9 = (rg_wr (rg_wr (rg_wr (rg_wr (rg_wr σ 0 (rg_up (rg_up (σ 0) 0 0) 11 (((nd : Nat) : Int) + 1))) 9 (rg_up wh nd (((Int.toNat r * 40 + Int.toNat b) : Nat) : Int))) 10 (rg_up wt nd c)) 11 (rg_up wa nd x)) 12 (rg_up ro nd 0))) := by
  have hq := rg_cQ_e (rg_wg rf fl ((nb : Nat) : Int) ((nr : Nat) : Int) r b c x) ((nd : Nat) : Int)
  have hwb : 0 ≤ (rg_wg rf fl ((nb : Nat) : Int) ((nr : Nat) : Int) r b c x) ∧ (rg_wg rf fl ((nb : Nat) : Int) ((nr : Nat) : Int) r b c x) ≤ 3 := rg_wg_bd
  have hq0 := rg_cQ_0 hc
  have hth := rg_wg_0 hq0.1
  refine rg_entI [(0, .ref (κ.2.2.2 0)), (1, .int (rg_I r)), (2, .int (rg_I b)), (3, .int (rg_I c)), (4, .int (rg_I x))] rfl (by decide +kernel) (Nat.le_of_ble_eq_true rfl) (by first | exact Or.inl rfl | exact Or.inr rfl) (fun Γ F hR => ?_)
  refine rg_aload_n F 0 0 rfl dX10_protest_0 rfl ?_
  refine rg_aload_n F 0 0 rfl dX10_protest_1 rfl ?_
  refine rg_iload_n F 1 1 rfl dX10_protest_2 rfl ?_
  refine rg_iload_n F 2 2 rfl dX10_protest_3 rfl ?_
  refine rg_iload_n F 3 3 rfl dX10_protest_4 rfl ?_
  refine rg_iload F 4 4 rfl dX10_protest_5 ?_
  refine rg_callVI F [.int (rg_I r), .int (rg_I b), .int (rg_I c), .int (rg_I x)] [.ref (κ.2.2.2 0)] 0 (k_X10_wrong κ σ (r) (b) (c) (x) fl rf (nb) (nr) (h2) (h4) (h0_1) (h0_4) (by first | assumption | omega) (by first | assumption | omega) (by first | assumption | omega) (by first | assumption | omega) (by first | assumption | omega) (by first | assumption | omega) (by first | assumption | omega) (by first | assumption | omega)) tM0 cX10 v_X10_wrong i_X10_wrong k_ml_X10_179 ⟨Nat.le_of_ble_eq_true rfl, Nat.le_of_ble_eq_true rfl⟩ rfl (Nat.le_of_ble_eq_true rfl) dX10_protest_7 (rg_ex2 ?_)
  show rg_G κ Γ rg_tM 5 0 0 (7 + 3) [(0, .ref (κ.2.2.2 0)), (1, .int (rg_I r)), (2, .int (rg_I b)), (3, .int (rg_I c)), (4, .int (rg_I x))] [.int (rg_I (rg_wg rf fl ((nb : Nat) : Int) ((nr : Nat) : Int) r b c x)), .ref (κ.2.2.2 0)] σ
  refine rg_put F 0 0 tM0 cX10 k_lays_X10 tyX10_ok nmX10 (by decide) k_fl_X10_89 rfl rfl rfl rfl (f9 := (σ 0)) rfl (rg_wr σ 0 (rg_up (σ 0) 0 (rg_wg rf fl ((nb : Nat) : Int) ((nr : Nat) : Int) r b c x))) rfl dX10_protest_10 ?_
  refine rg_aload_n F 0 0 rfl dX10_protest_13 rfl ?_
  refine rg_aload_n F 0 0 rfl dX10_protest_14 rfl ?_
  refine rg_get F 0 0 tM0 cX10 k_lays_X10 (by decide) k_fl_X10_89 rfl (v := .int (rg_I (rg_wg rf fl ((nb : Nat) : Int) ((nr : Nat) : Int) r b c x))) rfl dX10_protest_15 ?_
  refine rg_if_ne F 34 dX10_protest_18 (by decide) (by have b0 := rg_wg_bd (rf := rf) (fl := fl) (nb := ((nb : Nat) : Int)) (nr := ((nr : Nat) : Int)) (r := r) (b := b) (c := c) (x := x); omega) (fun c18_1 => ?_) (fun c18_1 => ?_)
  ·
    refine rg_aload_n F 0 0 rfl dX10_protest_34 rfl ?_
    refine rg_get F 0 0 tM0 cX10 k_lays_X10 (by decide) k_fl_X10_89 rfl (v := .int (rg_I (rg_wg rf fl ((nb : Nat) : Int) ((nr : Nat) : Int) r b c x))) rfl dX10_protest_35 ?_
    refine rg_put F 0 0 tM0 cX10 k_lays_X10 tyX10_ok nmX10 (by decide) k_fl_X10_89 rfl rfl rfl rfl (f9 := (rg_up (σ 0) 0 (rg_wg rf fl ((nb : Nat) : Int) ((nr : Nat) : Int) r b c x))) rfl (rg_wr σ 0 (rg_up (rg_up (σ 0) 0 (rg_wg rf fl ((nb : Nat) : Int) ((nr : Nat) : Int) r b c x)) 0 (rg_wg rf fl ((nb : Nat) : Int) ((nr : Nat) : Int) r b c x))) (rg_wr_wr _ 0 _ _) dX10_protest_38 ?_
    refine rg_aload_n F 0 0 rfl dX10_protest_41 rfl ?_
    refine rg_get F 0 0 tM0 cX10 k_lays_X10 (by decide) k_fl_X10_89 rfl (v := .int (rg_I (rg_wg rf fl ((nb : Nat) : Int) ((nr : Nat) : Int) r b c x))) rfl dX10_protest_42 ?_
    refine rg_if_le F 50 dX10_protest_45 (by decide) (by have b0 := rg_wg_bd (rf := rf) (fl := fl) (nb := ((nb : Nat) : Int)) (nr := ((nr : Nat) : Int)) (r := r) (b := b) (c := c) (x := x); omega) (fun c45_2 => ?_) (fun c45_2 => ?_)
    ·
      refine rg_aload_n F 0 0 rfl dX10_protest_50 rfl ?_
      refine rg_aload_n F 0 0 rfl dX10_protest_51 rfl ?_
      refine rg_get F 0 11 tM0 cX10 k_lays_X10 (by decide) k_fl_X10_93 rfl (v := .int (rg_I ((nd : Nat) : Int))) (congrArg (fun x => Value.int (rg_I x)) h0_11) dX10_protest_52 ?_
      refine rg_bipush F dX10_protest_55 (by decide +kernel) ?_
      refine rg_iload_n F 1 1 rfl dX10_protest_57 rfl ?_
      refine rg_stk (st' := [.int (rg_I ((Int.toNat r : Nat) : Int)), .int (rg_I 40), .int (rg_I ((nd : Nat) : Int)), .ref (κ.2.2.2 0)]) (by rw [Int.toNat_of_nonneg (a := r) (by omega)]) ?_
      refine rg_imul F dX10_protest_58 ?_
      refine rg_iload_n F 2 2 rfl dX10_protest_59 rfl ?_
      refine rg_stk (st' := [.int (rg_I ((Int.toNat b : Nat) : Int)), .int (rg_I (40 * ((Int.toNat r : Nat) : Int))), .int (rg_I ((nd : Nat) : Int)), .ref (κ.2.2.2 0)]) (by rw [Int.toNat_of_nonneg (a := b) (by omega)]) ?_
      refine rg_iadd F dX10_protest_60 ?_
      refine rg_stk (st' := [.int (rg_I (((Int.toNat r) * 40 + (Int.toNat b) : Nat) : Int)), .int (rg_I ((nd : Nat) : Int)), .ref (κ.2.2.2 0)]) (congrArg (fun x9 : Int => Value.int (rg_I x9) :: [.int (rg_I ((nd : Nat) : Int)), .ref (κ.2.2.2 0)]) (by omega)) ?_
      refine rg_iload_n F 3 3 rfl dX10_protest_61 rfl ?_
      refine rg_iload F 4 4 rfl dX10_protest_62 ?_
      refine rg_callVV F [.int (rg_I ((nd : Nat) : Int)), .int (rg_I (((Int.toNat r) * 40 + (Int.toNat b) : Nat) : Int)), .int (rg_I c), .int (rg_I x)] [] 0 (k_X10_decide κ (rg_wr σ 0 (rg_up (rg_up (σ 0) 0 (rg_wg rf fl ((nb : Nat) : Int) ((nr : Nat) : Int) r b c x)) 0 (rg_wg rf fl ((nb : Nat) : Int) ((nr : Nat) : Int) r b c x))) (nd) ((((Int.toNat r) * 40 + (Int.toNat b) : Nat) : Int)) (c) (x) wh wt wa ro (h9) (h10) (h11) (h12) (by first | assumption | omega)) tM0 cX10 v_X10_decide i_X10_decide k_ml_X10_187 ⟨Nat.le_of_ble_eq_true rfl, Nat.le_of_ble_eq_true rfl⟩ rfl (Nat.le_of_ble_eq_true rfl) dX10_protest_64 (rg_ex1 ?_)
      refine rg_eq (σ' := (rg_wr (rg_wr (rg_wr (rg_wr (rg_wr σ 0 (rg_up (rg_up (σ 0) 0 (rg_wg rf fl ((nb : Nat) : Int) ((nr : Nat) : Int) r b c x)) 0 (rg_wg rf fl ((nb : Nat) : Int) ((nr : Nat) : Int) r b c x))) 9 (rg_up wh nd (((Int.toNat r) * 40 + (Int.toNat b) : Nat) : Int))) 10 (rg_up wt nd c)) 11 (rg_up wa nd x)) 12 (rg_up ro nd 0))) rfl ?_
      refine rg_aload_n F 0 0 rfl dX10_protest_67 rfl ?_
      refine rg_dup F dX10_protest_68 rfl ?_
      refine rg_get F 0 11 tM0 cX10 k_lays_X10 (by decide) k_fl_X10_93 rfl (v := .int (rg_I ((nd : Nat) : Int))) (congrArg (fun x => Value.int (rg_I x)) h0_11) dX10_protest_69 ?_
      refine rg_iconst F dX10_protest_72 ?_
      refine rg_iadd F dX10_protest_73 ?_
      refine rg_put F 0 11 tM0 cX10 k_lays_X10 tyX10_ok nmX10 (by decide) k_fl_X10_93 rfl rfl rfl rfl (f9 := (rg_up (rg_up (σ 0) 0 (rg_wg rf fl ((nb : Nat) : Int) ((nr : Nat) : Int) r b c x)) 0 (rg_wg rf fl ((nb : Nat) : Int) ((nr : Nat) : Int) r b c x))) rfl (rg_wr (rg_wr (rg_wr (rg_wr (rg_wr σ 0 (rg_up (rg_up (rg_up (σ 0) 0 (rg_wg rf fl ((nb : Nat) : Int) ((nr : Nat) : Int) r b c x)) 0 (rg_wg rf fl ((nb : Nat) : Int) ((nr : Nat) : Int) r b c x)) 11 (((nd : Nat) : Int) + 1))) 9 (rg_up wh nd (((Int.toNat r) * 40 + (Int.toNat b) : Nat) : Int))) 10 (rg_up wt nd c)) 11 (rg_up wa nd x)) 12 (rg_up ro nd 0)) ((rg_wr_comm _ _ _ (by decide)).trans (rg_wr_congr 12 ((rg_wr_comm _ _ _ (by decide)).trans (rg_wr_congr 11 ((rg_wr_comm _ _ _ (by decide)).trans (rg_wr_congr 10 ((rg_wr_comm _ _ _ (by decide)).trans (rg_wr_congr 9 (rg_wr_wr _ 0 _ _) rfl)) rfl)) rfl)) rfl)) dX10_protest_74 ?_
      refine rg_aload_n F 0 0 rfl dX10_protest_77 rfl ?_
      refine rg_get F 0 11 tM0 cX10 k_lays_X10 (by decide) k_fl_X10_93 rfl (v := .int (rg_I (((nd : Nat) : Int) + 1))) rfl dX10_protest_78 ?_
      refine rg_iconst F dX10_protest_81 ?_
      refine rg_isub F dX10_protest_82 ?_
      exact hR _ _ _ _ dX10_protest_83 (fun h => nomatch h) ⟨(by omega), (rg_wr_congr (f := (rg_up ro nd 0)) (g := (rg_up ro nd 0)) 12 (rg_wr_congr (f := (rg_up wa nd x)) (g := (rg_up wa nd x)) 11 (rg_wr_congr (f := (rg_up wt nd c)) (g := (rg_up wt nd c)) 10 (rg_wr_congr (f := (rg_up wh nd (((Int.toNat r) * 40 + (Int.toNat b) : Nat) : Int))) (g := (rg_up wh nd (((Int.toNat r * 40 + Int.toNat b) : Nat) : Int))) 9 (rg_wr_congr (f := (rg_up (rg_up (rg_up (σ 0) 0 (rg_wg rf fl ((nb : Nat) : Int) ((nr : Nat) : Int) r b c x)) 0 (rg_wg rf fl ((nb : Nat) : Int) ((nr : Nat) : Int) r b c x)) 11 (((nd : Nat) : Int) + 1))) (g := (rg_up (rg_up (σ 0) 0 0) 11 (((nd : Nat) : Int) + 1))) 0 rfl (by (repeat rw [rg_up_up]) <;> exact congrArg (fun z => rg_up (rg_up (σ 0) 0 z) 11 _) (by omega))) rfl) rfl) rfl) rfl)⟩
    · exfalso; omega
  ·
    refine rg_aload_n F 0 0 rfl dX10_protest_21 rfl ?_
    refine rg_get F 0 11 tM0 cX10 k_lays_X10 (by decide) k_fl_X10_93 rfl (v := .int (rg_I ((nd : Nat) : Int))) (congrArg (fun x => Value.int (rg_I x)) h0_11) dX10_protest_22 ?_
    refine rg_bipush F dX10_protest_25 (by decide +kernel) ?_
    refine rg_icmp_ne F 34 dX10_protest_27 (by decide) (by omega) (by omega) (fun c27_3 => ?_) (fun c27_3 => ?_)
    ·
      refine rg_aload_n F 0 0 rfl dX10_protest_34 rfl ?_
      refine rg_get F 0 0 tM0 cX10 k_lays_X10 (by decide) k_fl_X10_89 rfl (v := .int (rg_I (rg_wg rf fl ((nb : Nat) : Int) ((nr : Nat) : Int) r b c x))) rfl dX10_protest_35 ?_
      refine rg_put F 0 0 tM0 cX10 k_lays_X10 tyX10_ok nmX10 (by decide) k_fl_X10_89 rfl rfl rfl rfl (f9 := (rg_up (σ 0) 0 (rg_wg rf fl ((nb : Nat) : Int) ((nr : Nat) : Int) r b c x))) rfl (rg_wr σ 0 (rg_up (rg_up (σ 0) 0 (rg_wg rf fl ((nb : Nat) : Int) ((nr : Nat) : Int) r b c x)) 0 (rg_wg rf fl ((nb : Nat) : Int) ((nr : Nat) : Int) r b c x))) (rg_wr_wr _ 0 _ _) dX10_protest_38 ?_
      refine rg_aload_n F 0 0 rfl dX10_protest_41 rfl ?_
      refine rg_get F 0 0 tM0 cX10 k_lays_X10 (by decide) k_fl_X10_89 rfl (v := .int (rg_I (rg_wg rf fl ((nb : Nat) : Int) ((nr : Nat) : Int) r b c x))) rfl dX10_protest_42 ?_
      refine rg_if_le F 50 dX10_protest_45 (by decide) (by have b0 := rg_wg_bd (rf := rf) (fl := fl) (nb := ((nb : Nat) : Int)) (nr := ((nr : Nat) : Int)) (r := r) (b := b) (c := c) (x := x); omega) (fun c45_4 => ?_) (fun c45_4 => ?_)
      ·
        refine rg_aload_n F 0 0 rfl dX10_protest_50 rfl ?_
        refine rg_aload_n F 0 0 rfl dX10_protest_51 rfl ?_
        refine rg_get F 0 11 tM0 cX10 k_lays_X10 (by decide) k_fl_X10_93 rfl (v := .int (rg_I ((nd : Nat) : Int))) (congrArg (fun x => Value.int (rg_I x)) h0_11) dX10_protest_52 ?_
        refine rg_bipush F dX10_protest_55 (by decide +kernel) ?_
        refine rg_iload_n F 1 1 rfl dX10_protest_57 rfl ?_
        refine rg_stk (st' := [.int (rg_I ((Int.toNat r : Nat) : Int)), .int (rg_I 40), .int (rg_I ((nd : Nat) : Int)), .ref (κ.2.2.2 0)]) (by rw [Int.toNat_of_nonneg (a := r) (by omega)]) ?_
        refine rg_imul F dX10_protest_58 ?_
        refine rg_iload_n F 2 2 rfl dX10_protest_59 rfl ?_
        refine rg_stk (st' := [.int (rg_I ((Int.toNat b : Nat) : Int)), .int (rg_I (40 * ((Int.toNat r : Nat) : Int))), .int (rg_I ((nd : Nat) : Int)), .ref (κ.2.2.2 0)]) (by rw [Int.toNat_of_nonneg (a := b) (by omega)]) ?_
        refine rg_iadd F dX10_protest_60 ?_
        refine rg_stk (st' := [.int (rg_I (((Int.toNat r) * 40 + (Int.toNat b) : Nat) : Int)), .int (rg_I ((nd : Nat) : Int)), .ref (κ.2.2.2 0)]) (congrArg (fun x9 : Int => Value.int (rg_I x9) :: [.int (rg_I ((nd : Nat) : Int)), .ref (κ.2.2.2 0)]) (by omega)) ?_
        refine rg_iload_n F 3 3 rfl dX10_protest_61 rfl ?_
        refine rg_iload F 4 4 rfl dX10_protest_62 ?_
        refine rg_callVV F [.int (rg_I ((nd : Nat) : Int)), .int (rg_I (((Int.toNat r) * 40 + (Int.toNat b) : Nat) : Int)), .int (rg_I c), .int (rg_I x)] [] 0 (k_X10_decide κ (rg_wr σ 0 (rg_up (rg_up (σ 0) 0 (rg_wg rf fl ((nb : Nat) : Int) ((nr : Nat) : Int) r b c x)) 0 (rg_wg rf fl ((nb : Nat) : Int) ((nr : Nat) : Int) r b c x))) (nd) ((((Int.toNat r) * 40 + (Int.toNat b) : Nat) : Int)) (c) (x) wh wt wa ro (h9) (h10) (h11) (h12) (by first | assumption | omega)) tM0 cX10 v_X10_decide i_X10_decide k_ml_X10_187 ⟨Nat.le_of_ble_eq_true rfl, Nat.le_of_ble_eq_true rfl⟩ rfl (Nat.le_of_ble_eq_true rfl) dX10_protest_64 (rg_ex1 ?_)
        refine rg_eq (σ' := (rg_wr (rg_wr (rg_wr (rg_wr (rg_wr σ 0 (rg_up (rg_up (σ 0) 0 (rg_wg rf fl ((nb : Nat) : Int) ((nr : Nat) : Int) r b c x)) 0 (rg_wg rf fl ((nb : Nat) : Int) ((nr : Nat) : Int) r b c x))) 9 (rg_up wh nd (((Int.toNat r) * 40 + (Int.toNat b) : Nat) : Int))) 10 (rg_up wt nd c)) 11 (rg_up wa nd x)) 12 (rg_up ro nd 0))) rfl ?_
        refine rg_aload_n F 0 0 rfl dX10_protest_67 rfl ?_
        refine rg_dup F dX10_protest_68 rfl ?_
        refine rg_get F 0 11 tM0 cX10 k_lays_X10 (by decide) k_fl_X10_93 rfl (v := .int (rg_I ((nd : Nat) : Int))) (congrArg (fun x => Value.int (rg_I x)) h0_11) dX10_protest_69 ?_
        refine rg_iconst F dX10_protest_72 ?_
        refine rg_iadd F dX10_protest_73 ?_
        refine rg_put F 0 11 tM0 cX10 k_lays_X10 tyX10_ok nmX10 (by decide) k_fl_X10_93 rfl rfl rfl rfl (f9 := (rg_up (rg_up (σ 0) 0 (rg_wg rf fl ((nb : Nat) : Int) ((nr : Nat) : Int) r b c x)) 0 (rg_wg rf fl ((nb : Nat) : Int) ((nr : Nat) : Int) r b c x))) rfl (rg_wr (rg_wr (rg_wr (rg_wr (rg_wr σ 0 (rg_up (rg_up (rg_up (σ 0) 0 (rg_wg rf fl ((nb : Nat) : Int) ((nr : Nat) : Int) r b c x)) 0 (rg_wg rf fl ((nb : Nat) : Int) ((nr : Nat) : Int) r b c x)) 11 (((nd : Nat) : Int) + 1))) 9 (rg_up wh nd (((Int.toNat r) * 40 + (Int.toNat b) : Nat) : Int))) 10 (rg_up wt nd c)) 11 (rg_up wa nd x)) 12 (rg_up ro nd 0)) ((rg_wr_comm _ _ _ (by decide)).trans (rg_wr_congr 12 ((rg_wr_comm _ _ _ (by decide)).trans (rg_wr_congr 11 ((rg_wr_comm _ _ _ (by decide)).trans (rg_wr_congr 10 ((rg_wr_comm _ _ _ (by decide)).trans (rg_wr_congr 9 (rg_wr_wr _ 0 _ _) rfl)) rfl)) rfl)) rfl)) dX10_protest_74 ?_
        refine rg_aload_n F 0 0 rfl dX10_protest_77 rfl ?_
        refine rg_get F 0 11 tM0 cX10 k_lays_X10 (by decide) k_fl_X10_93 rfl (v := .int (rg_I (((nd : Nat) : Int) + 1))) rfl dX10_protest_78 ?_
        refine rg_iconst F dX10_protest_81 ?_
        refine rg_isub F dX10_protest_82 ?_
        exact hR _ _ _ _ dX10_protest_83 (fun h => nomatch h) ⟨(by omega), (rg_wr_congr (f := (rg_up ro nd 0)) (g := (rg_up ro nd 0)) 12 (rg_wr_congr (f := (rg_up wa nd x)) (g := (rg_up wa nd x)) 11 (rg_wr_congr (f := (rg_up wt nd c)) (g := (rg_up wt nd c)) 10 (rg_wr_congr (f := (rg_up wh nd (((Int.toNat r) * 40 + (Int.toNat b) : Nat) : Int))) (g := (rg_up wh nd (((Int.toNat r * 40 + Int.toNat b) : Nat) : Int))) 9 (rg_wr_congr (f := (rg_up (rg_up (rg_up (σ 0) 0 (rg_wg rf fl ((nb : Nat) : Int) ((nr : Nat) : Int) r b c x)) 0 (rg_wg rf fl ((nb : Nat) : Int) ((nr : Nat) : Int) r b c x)) 11 (((nd : Nat) : Int) + 1))) (g := (rg_up (rg_up (σ 0) 0 0) 11 (((nd : Nat) : Int) + 1))) 0 rfl (by (repeat rw [rg_up_up]) <;> exact congrArg (fun z => rg_up (rg_up (σ 0) 0 z) 11 _) (by omega))) rfl) rfl) rfl) rfl)⟩
      · exfalso; omega
    ·
      refine rg_iconst F dX10_protest_30 ?_
      refine rg_goto F 38 dX10_protest_31 (by decide) ?_
      refine rg_put F 0 0 tM0 cX10 k_lays_X10 tyX10_ok nmX10 (by decide) k_fl_X10_89 rfl rfl rfl rfl (f9 := (rg_up (σ 0) 0 (rg_wg rf fl ((nb : Nat) : Int) ((nr : Nat) : Int) r b c x))) rfl (rg_wr σ 0 (rg_up (rg_up (σ 0) 0 (rg_wg rf fl ((nb : Nat) : Int) ((nr : Nat) : Int) r b c x)) 0 4)) (rg_wr_wr _ 0 _ _) dX10_protest_38 ?_
      refine rg_aload_n F 0 0 rfl dX10_protest_41 rfl ?_
      refine rg_get F 0 0 tM0 cX10 k_lays_X10 (by decide) k_fl_X10_89 rfl (v := .int (rg_I 4)) rfl dX10_protest_42 ?_
      exfalso; unfold rg_cQ at hc; (repeat' split at hc) <;> omega
set_option maxHeartbeats 400000 in
set_option maxRecDepth 100000 in
/-- protest, refused -/
theorem k_X10_protest_n (κ : rg_K) (σ : rg_S) (r b c x : Int) (fl : Nat → Int) (rf : Nat → Int) (wh : Nat → Int) (wt : Nat → Int) (wa : Nat → Int) (ro : Nat → Int) (nb : Nat) (nr : Nat) (nd : Nat) (h2 : σ 2 = fl) (h4 : σ 4 = rf) (h9 : σ 9 = wh) (h10 : σ 10 = wt) (h11 : σ 11 = wa) (h12 : σ 12 = ro) (h0_1 : σ 0 1 = ((nb : Nat) : Int)) (h0_4 : σ 0 4 = ((nr : Nat) : Int)) (h0_11 : σ 0 11 = ((nd : Nat) : Int)) (hnb : nb ≤ 40) (hnr : nr ≤ 16) (hr : rg_Rg r) (hb : rg_Rg b) (hfl : ∀ j, rg_Rg (fl j)) (hrf : ∀ j, rg_Rg (rf j)) (hcr : rg_Rg c) (hx : rg_Rg x) (hnd : nd ≤ 40) (hc : ¬ (rg_cQ (rg_wg rf fl ((nb : Nat) : Int) ((nr : Nat) : Int) r b c x) ((nd : Nat) : Int)) = 0) : rg_CI κ rg_tM yX10_protest cX10_protest 5 FieldType.int 3 69 [.ref (κ.2.2.2 0), .int (rg_I r), .int (rg_I b), .int (rg_I c), .int (rg_I x)] σ (fun r9 σ9 => r9 = 0 ∧ σ9 = (rg_wr σ 0 (rg_up (σ 0) 0 (rg_cQ (rg_wg rf fl ((nb : Nat) : Int) ((nr : Nat) : Int) r b c x) ((nd : Nat) : Int))))) := by
  have hq := rg_cQ_e (rg_wg rf fl ((nb : Nat) : Int) ((nr : Nat) : Int) r b c x) ((nd : Nat) : Int)
  have hwb : 0 ≤ (rg_wg rf fl ((nb : Nat) : Int) ((nr : Nat) : Int) r b c x) ∧ (rg_wg rf fl ((nb : Nat) : Int) ((nr : Nat) : Int) r b c x) ≤ 3 := rg_wg_bd
  refine rg_entI [(0, .ref (κ.2.2.2 0)), (1, .int (rg_I r)), (2, .int (rg_I b)), (3, .int (rg_I c)), (4, .int (rg_I x))] rfl (by decide +kernel) (Nat.le_of_ble_eq_true rfl) (by first | exact Or.inl rfl | exact Or.inr rfl) (fun Γ F hR => ?_)
  refine rg_aload_n F 0 0 rfl dX10_protest_0 rfl ?_
  refine rg_aload_n F 0 0 rfl dX10_protest_1 rfl ?_
  refine rg_iload_n F 1 1 rfl dX10_protest_2 rfl ?_
  refine rg_iload_n F 2 2 rfl dX10_protest_3 rfl ?_
  refine rg_iload_n F 3 3 rfl dX10_protest_4 rfl ?_
  refine rg_iload F 4 4 rfl dX10_protest_5 ?_
  refine rg_callVI F [.int (rg_I r), .int (rg_I b), .int (rg_I c), .int (rg_I x)] [.ref (κ.2.2.2 0)] 0 (k_X10_wrong κ σ (r) (b) (c) (x) fl rf (nb) (nr) (h2) (h4) (h0_1) (h0_4) (by first | assumption | omega) (by first | assumption | omega) (by first | assumption | omega) (by first | assumption | omega) (by first | assumption | omega) (by first | assumption | omega) (by first | assumption | omega) (by first | assumption | omega)) tM0 cX10 v_X10_wrong i_X10_wrong k_ml_X10_179 ⟨Nat.le_of_ble_eq_true rfl, Nat.le_of_ble_eq_true rfl⟩ rfl (Nat.le_of_ble_eq_true rfl) dX10_protest_7 (rg_ex2 ?_)
  show rg_G κ Γ rg_tM 5 0 0 (7 + 3) [(0, .ref (κ.2.2.2 0)), (1, .int (rg_I r)), (2, .int (rg_I b)), (3, .int (rg_I c)), (4, .int (rg_I x))] [.int (rg_I (rg_wg rf fl ((nb : Nat) : Int) ((nr : Nat) : Int) r b c x)), .ref (κ.2.2.2 0)] σ
  refine rg_put F 0 0 tM0 cX10 k_lays_X10 tyX10_ok nmX10 (by decide) k_fl_X10_89 rfl rfl rfl rfl (f9 := (σ 0)) rfl (rg_wr σ 0 (rg_up (σ 0) 0 (rg_wg rf fl ((nb : Nat) : Int) ((nr : Nat) : Int) r b c x))) rfl dX10_protest_10 ?_
  refine rg_aload_n F 0 0 rfl dX10_protest_13 rfl ?_
  refine rg_aload_n F 0 0 rfl dX10_protest_14 rfl ?_
  refine rg_get F 0 0 tM0 cX10 k_lays_X10 (by decide) k_fl_X10_89 rfl (v := .int (rg_I (rg_wg rf fl ((nb : Nat) : Int) ((nr : Nat) : Int) r b c x))) rfl dX10_protest_15 ?_
  refine rg_if_ne F 34 dX10_protest_18 (by decide) (by have b0 := rg_wg_bd (rf := rf) (fl := fl) (nb := ((nb : Nat) : Int)) (nr := ((nr : Nat) : Int)) (r := r) (b := b) (c := c) (x := x); omega) (fun c18_1 => ?_) (fun c18_1 => ?_)
  ·
    refine rg_aload_n F 0 0 rfl dX10_protest_34 rfl ?_
    refine rg_get F 0 0 tM0 cX10 k_lays_X10 (by decide) k_fl_X10_89 rfl (v := .int (rg_I (rg_wg rf fl ((nb : Nat) : Int) ((nr : Nat) : Int) r b c x))) rfl dX10_protest_35 ?_
    refine rg_put F 0 0 tM0 cX10 k_lays_X10 tyX10_ok nmX10 (by decide) k_fl_X10_89 rfl rfl rfl rfl (f9 := (rg_up (σ 0) 0 (rg_wg rf fl ((nb : Nat) : Int) ((nr : Nat) : Int) r b c x))) rfl (rg_wr σ 0 (rg_up (rg_up (σ 0) 0 (rg_wg rf fl ((nb : Nat) : Int) ((nr : Nat) : Int) r b c x)) 0 (rg_wg rf fl ((nb : Nat) : Int) ((nr : Nat) : Int) r b c x))) (rg_wr_wr _ 0 _ _) dX10_protest_38 ?_
    refine rg_aload_n F 0 0 rfl dX10_protest_41 rfl ?_
    refine rg_get F 0 0 tM0 cX10 k_lays_X10 (by decide) k_fl_X10_89 rfl (v := .int (rg_I (rg_wg rf fl ((nb : Nat) : Int) ((nr : Nat) : Int) r b c x))) rfl dX10_protest_42 ?_
    refine rg_if_le F 50 dX10_protest_45 (by decide) (by have b0 := rg_wg_bd (rf := rf) (fl := fl) (nb := ((nb : Nat) : Int)) (nr := ((nr : Nat) : Int)) (r := r) (b := b) (c := c) (x := x); omega) (fun c45_2 => ?_) (fun c45_2 => ?_)
    · exfalso; omega
    ·
      refine rg_iconst F dX10_protest_48 ?_
      exact hR _ _ _ _ dX10_protest_49 (fun h => nomatch h) ⟨rfl, (rg_wr_congr (f := (rg_up (rg_up (σ 0) 0 (rg_wg rf fl ((nb : Nat) : Int) ((nr : Nat) : Int) r b c x)) 0 (rg_wg rf fl ((nb : Nat) : Int) ((nr : Nat) : Int) r b c x))) (g := (rg_up (σ 0) 0 (rg_cQ (rg_wg rf fl ((nb : Nat) : Int) ((nr : Nat) : Int) r b c x) ((nd : Nat) : Int)))) 0 rfl (by (repeat rw [rg_up_up]) <;> exact congrArg _ (by omega)))⟩
  ·
    refine rg_aload_n F 0 0 rfl dX10_protest_21 rfl ?_
    refine rg_get F 0 11 tM0 cX10 k_lays_X10 (by decide) k_fl_X10_93 rfl (v := .int (rg_I ((nd : Nat) : Int))) (congrArg (fun x => Value.int (rg_I x)) h0_11) dX10_protest_22 ?_
    refine rg_bipush F dX10_protest_25 (by decide +kernel) ?_
    refine rg_icmp_ne F 34 dX10_protest_27 (by decide) (by omega) (by omega) (fun c27_3 => ?_) (fun c27_3 => ?_)
    ·
      refine rg_aload_n F 0 0 rfl dX10_protest_34 rfl ?_
      refine rg_get F 0 0 tM0 cX10 k_lays_X10 (by decide) k_fl_X10_89 rfl (v := .int (rg_I (rg_wg rf fl ((nb : Nat) : Int) ((nr : Nat) : Int) r b c x))) rfl dX10_protest_35 ?_
      refine rg_put F 0 0 tM0 cX10 k_lays_X10 tyX10_ok nmX10 (by decide) k_fl_X10_89 rfl rfl rfl rfl (f9 := (rg_up (σ 0) 0 (rg_wg rf fl ((nb : Nat) : Int) ((nr : Nat) : Int) r b c x))) rfl (rg_wr σ 0 (rg_up (rg_up (σ 0) 0 (rg_wg rf fl ((nb : Nat) : Int) ((nr : Nat) : Int) r b c x)) 0 (rg_wg rf fl ((nb : Nat) : Int) ((nr : Nat) : Int) r b c x))) (rg_wr_wr _ 0 _ _) dX10_protest_38 ?_
      refine rg_aload_n F 0 0 rfl dX10_protest_41 rfl ?_
      refine rg_get F 0 0 tM0 cX10 k_lays_X10 (by decide) k_fl_X10_89 rfl (v := .int (rg_I (rg_wg rf fl ((nb : Nat) : Int) ((nr : Nat) : Int) r b c x))) rfl dX10_protest_42 ?_
      refine rg_if_le F 50 dX10_protest_45 (by decide) (by have b0 := rg_wg_bd (rf := rf) (fl := fl) (nb := ((nb : Nat) : Int)) (nr := ((nr : Nat) : Int)) (r := r) (b := b) (c := c) (x := x); omega) (fun c45_4 => ?_) (fun c45_4 => ?_)
      · exfalso; omega
      ·
        refine rg_iconst F dX10_protest_48 ?_
        exact hR _ _ _ _ dX10_protest_49 (fun h => nomatch h) ⟨rfl, (rg_wr_congr (f := (rg_up (rg_up (σ 0) 0 (rg_wg rf fl ((nb : Nat) : Int) ((nr : Nat) : Int) r b c x)) 0 (rg_wg rf fl ((nb : Nat) : Int) ((nr : Nat) : Int) r b c x))) (g := (rg_up (σ 0) 0 (rg_cQ (rg_wg rf fl ((nb : Nat) : Int) ((nr : Nat) : Int) r b c x) ((nd : Nat) : Int)))) 0 rfl (by (repeat rw [rg_up_up]) <;> exact congrArg _ (by omega)))⟩
    ·
      refine rg_iconst F dX10_protest_30 ?_
      refine rg_goto F 38 dX10_protest_31 (by decide) ?_
      refine rg_put F 0 0 tM0 cX10 k_lays_X10 tyX10_ok nmX10 (by decide) k_fl_X10_89 rfl rfl rfl rfl (f9 := (rg_up (σ 0) 0 (rg_wg rf fl ((nb : Nat) : Int) ((nr : Nat) : Int) r b c x))) rfl (rg_wr σ 0 (rg_up (rg_up (σ 0) 0 (rg_wg rf fl ((nb : Nat) : Int) ((nr : Nat) : Int) r b c x)) 0 4)) (rg_wr_wr _ 0 _ _) dX10_protest_38 ?_
      refine rg_aload_n F 0 0 rfl dX10_protest_41 rfl ?_
      refine rg_get F 0 0 tM0 cX10 k_lays_X10 (by decide) k_fl_X10_89 rfl (v := .int (rg_I 4)) rfl dX10_protest_42 ?_
      refine rg_if_le F 50 dX10_protest_45 (by decide) (by omega) (fun c45_5 => ?_) (fun c45_5 => ?_)
      · exfalso; omega
      ·
        refine rg_iconst F dX10_protest_48 ?_
        exact hR _ _ _ _ dX10_protest_49 (fun h => nomatch h) ⟨rfl, (rg_wr_congr (f := (rg_up (rg_up (σ 0) 0 (rg_wg rf fl ((nb : Nat) : Int) ((nr : Nat) : Int) r b c x)) 0 4)) (g := (rg_up (σ 0) 0 (rg_cQ (rg_wg rf fl ((nb : Nat) : Int) ((nr : Nat) : Int) r b c x) ((nd : Nat) : Int)))) 0 rfl (by (repeat rw [rg_up_up]) <;> exact congrArg _ (by omega)))⟩
set_option maxHeartbeats 400000 in
set_option maxRecDepth 100000 in
/-- reopen, done -/
theorem k_X10_reopen_o (κ : rg_K) (σ : rg_S) (d : Int) (ro : Nat → Int) (nd : Nat) (h12 : σ 12 = ro) (h0_11 : σ 0 11 = ((nd : Nat) : Int)) (hnd : nd ≤ 40) (hd : rg_Rg d) (hro : ∀ j, ro j = 0 ∨ ro j = 1) (hc : (rg_cO ro ((nd : Nat) : Int) d) = 0) : rg_CV κ rg_tM yX10_reopen cX10_reopen 2 1 22 [.ref (κ.2.2.2 0), .int (rg_I d)] σ (fun σ9 => σ9 = (rg_wr (rg_wr σ 0 (rg_up (σ 0) 0 0)) 12 (rg_up ro (Int.toNat d) 1))) := by
  refine rg_entV [(0, .ref (κ.2.2.2 0)), (1, .int (rg_I d))] rfl (by decide +kernel) (Nat.le_of_ble_eq_true rfl) (fun Γ F hR => ?_)
  refine rg_aload_n F 0 0 rfl dX10_reopen_0 rfl ?_
  refine rg_iload_n F 1 1 rfl dX10_reopen_1 rfl ?_
  refine rg_iconst F dX10_reopen_2 ?_
  refine rg_aload_n F 0 0 rfl dX10_reopen_3 rfl ?_
  refine rg_get F 0 11 tM0 cX10 k_lays_X10 (by decide) k_fl_X10_93 rfl (v := .int (rg_I ((nd : Nat) : Int))) (congrArg (fun x => Value.int (rg_I x)) h0_11) dX10_reopen_4 ?_
  refine rg_iconst F dX10_reopen_7 ?_
  refine rg_isub F dX10_reopen_8 ?_
  refine rg_callSI F [.int (rg_I d), .int (rg_I 0), .int (rg_I (((nd : Nat) : Int) - 1))] [.ref (κ.2.2.2 0)] (k_X10_in κ rg_tM σ (d) (0) ((((nd : Nat) : Int) - 1)) (by first | assumption | omega) (by first | assumption | omega) (by first | assumption | omega)) v_X10_in k_st_yX10_in k_ml_X10_172 ⟨Nat.le_of_ble_eq_true rfl, Nat.le_of_ble_eq_true rfl⟩ rfl (Nat.le_of_ble_eq_true rfl) dX10_reopen_9 (rg_ex2 ?_)
  show rg_G κ Γ rg_tM 2 0 0 (9 + 3) [(0, .ref (κ.2.2.2 0)), (1, .int (rg_I d))] [.int (rg_I (rg_b (0 ≤ d ∧ d ≤ (((nd : Nat) : Int) - 1)))), .ref (κ.2.2.2 0)] σ
  refine rg_if_ne F 19 dX10_reopen_12 (by decide) (by have b0 := rg_b_Rg (0 ≤ d ∧ d ≤ (((nd : Nat) : Int) - 1)); omega) (fun c12_1 => ?_) (fun c12_1 => ?_)
  ·
    have c12_1 := (rg_b_ne0 _).mp c12_1
    refine rg_aload_n F 0 0 rfl dX10_reopen_19 rfl ?_
    refine rg_get F 0 15 tM0 cX10 k_lays_X10 (by decide) k_fl_X10_44 rfl (v := .ref (κ.2.2.2 12)) rfl dX10_reopen_20 ?_
    refine rg_iload_n F 1 1 rfl dX10_reopen_23 rfl ?_
    refine rg_stk (st' := [.int (rg_I ((Int.toNat d : Nat) : Int)), .ref (κ.2.2.2 12), .ref (κ.2.2.2 0)]) (by rw [Int.toNat_of_nonneg (a := d) (by omega)]) ?_
    refine rg_zald F 12 (Int.toNat d) (v := (ro (Int.toNat d))) tM12 (by omega) (by omega) (by decide) (congrFun h12 (Int.toNat d)) dX10_reopen_24 ?_
    refine rg_if_eq F 32 dX10_reopen_25 (by decide) (by have b0 := hro ((Int.toNat d)); omega) (fun c25_2 => ?_) (fun c25_2 => ?_)
    ·
      refine rg_iconst F dX10_reopen_32 ?_
      refine rg_put F 0 0 tM0 cX10 k_lays_X10 tyX10_ok nmX10 (by decide) k_fl_X10_89 rfl rfl rfl rfl (f9 := (σ 0)) rfl (rg_wr σ 0 (rg_up (σ 0) 0 0)) rfl dX10_reopen_33 ?_
      refine rg_aload_n F 0 0 rfl dX10_reopen_36 rfl ?_
      refine rg_get F 0 0 tM0 cX10 k_lays_X10 (by decide) k_fl_X10_89 rfl (v := .int (rg_I 0)) rfl dX10_reopen_37 ?_
      refine rg_if_ne F 50 dX10_reopen_40 (by decide) (by omega) (fun c40_3 => ?_) (fun c40_3 => ?_)
      · exfalso; omega
      ·
        refine rg_aload_n F 0 0 rfl dX10_reopen_43 rfl ?_
        refine rg_get F 0 15 tM0 cX10 k_lays_X10 (by decide) k_fl_X10_44 rfl (v := .ref (κ.2.2.2 12)) rfl dX10_reopen_44 ?_
        refine rg_iload_n F 1 1 rfl dX10_reopen_47 rfl ?_
        refine rg_stk (st' := [.int (rg_I ((Int.toNat d : Nat) : Int)), .ref (κ.2.2.2 12)]) (by rw [Int.toNat_of_nonneg (a := d) (by omega)]) ?_
        refine rg_iconst F dX10_reopen_48 ?_
        refine rg_zast F 12 (Int.toNat d) tM12 (by omega) (by omega) (by decide) (Or.inr rfl) (f9 := ro) h12 (rg_wr (rg_wr σ 0 (rg_up (σ 0) 0 0)) 12 (rg_up ro (Int.toNat d) 1)) rfl dX10_reopen_49 ?_
        exact hR _ _ _ dX10_reopen_50 rfl
    ·
      refine rg_iconst F dX10_reopen_28 ?_
      refine rg_goto F 33 dX10_reopen_29 (by decide) ?_
      refine rg_put F 0 0 tM0 cX10 k_lays_X10 tyX10_ok nmX10 (by decide) k_fl_X10_89 rfl rfl rfl rfl (f9 := (σ 0)) rfl (rg_wr σ 0 (rg_up (σ 0) 0 2)) rfl dX10_reopen_33 ?_
      refine rg_aload_n F 0 0 rfl dX10_reopen_36 rfl ?_
      refine rg_get F 0 0 tM0 cX10 k_lays_X10 (by decide) k_fl_X10_89 rfl (v := .int (rg_I 2)) rfl dX10_reopen_37 ?_
      exfalso; unfold rg_cO at hc; (repeat' split at hc) <;> omega
  ·
    have c12_1 := (rg_b_eq0 _).mp c12_1
    refine rg_iconst F dX10_reopen_15 ?_
    refine rg_goto F 33 dX10_reopen_16 (by decide) ?_
    refine rg_put F 0 0 tM0 cX10 k_lays_X10 tyX10_ok nmX10 (by decide) k_fl_X10_89 rfl rfl rfl rfl (f9 := (σ 0)) rfl (rg_wr σ 0 (rg_up (σ 0) 0 1)) rfl dX10_reopen_33 ?_
    refine rg_aload_n F 0 0 rfl dX10_reopen_36 rfl ?_
    refine rg_get F 0 0 tM0 cX10 k_lays_X10 (by decide) k_fl_X10_89 rfl (v := .int (rg_I 1)) rfl dX10_reopen_37 ?_
    exfalso; unfold rg_cO at hc; (repeat' split at hc) <;> omega
set_option maxHeartbeats 400000 in
set_option maxRecDepth 100000 in
/-- reopen, refused -/
theorem k_X10_reopen_n (κ : rg_K) (σ : rg_S) (d : Int) (ro : Nat → Int) (nd : Nat) (h12 : σ 12 = ro) (h0_11 : σ 0 11 = ((nd : Nat) : Int)) (hnd : nd ≤ 40) (hd : rg_Rg d) (hro : ∀ j, ro j = 0 ∨ ro j = 1) (hc : ¬ (rg_cO ro ((nd : Nat) : Int) d) = 0) : rg_CV κ rg_tM yX10_reopen cX10_reopen 2 1 22 [.ref (κ.2.2.2 0), .int (rg_I d)] σ (fun σ9 => σ9 = (rg_wr σ 0 (rg_up (σ 0) 0 (rg_cO ro ((nd : Nat) : Int) d)))) := by
  refine rg_entV [(0, .ref (κ.2.2.2 0)), (1, .int (rg_I d))] rfl (by decide +kernel) (Nat.le_of_ble_eq_true rfl) (fun Γ F hR => ?_)
  refine rg_aload_n F 0 0 rfl dX10_reopen_0 rfl ?_
  refine rg_iload_n F 1 1 rfl dX10_reopen_1 rfl ?_
  refine rg_iconst F dX10_reopen_2 ?_
  refine rg_aload_n F 0 0 rfl dX10_reopen_3 rfl ?_
  refine rg_get F 0 11 tM0 cX10 k_lays_X10 (by decide) k_fl_X10_93 rfl (v := .int (rg_I ((nd : Nat) : Int))) (congrArg (fun x => Value.int (rg_I x)) h0_11) dX10_reopen_4 ?_
  refine rg_iconst F dX10_reopen_7 ?_
  refine rg_isub F dX10_reopen_8 ?_
  refine rg_callSI F [.int (rg_I d), .int (rg_I 0), .int (rg_I (((nd : Nat) : Int) - 1))] [.ref (κ.2.2.2 0)] (k_X10_in κ rg_tM σ (d) (0) ((((nd : Nat) : Int) - 1)) (by first | assumption | omega) (by first | assumption | omega) (by first | assumption | omega)) v_X10_in k_st_yX10_in k_ml_X10_172 ⟨Nat.le_of_ble_eq_true rfl, Nat.le_of_ble_eq_true rfl⟩ rfl (Nat.le_of_ble_eq_true rfl) dX10_reopen_9 (rg_ex2 ?_)
  show rg_G κ Γ rg_tM 2 0 0 (9 + 3) [(0, .ref (κ.2.2.2 0)), (1, .int (rg_I d))] [.int (rg_I (rg_b (0 ≤ d ∧ d ≤ (((nd : Nat) : Int) - 1)))), .ref (κ.2.2.2 0)] σ
  refine rg_if_ne F 19 dX10_reopen_12 (by decide) (by have b0 := rg_b_Rg (0 ≤ d ∧ d ≤ (((nd : Nat) : Int) - 1)); omega) (fun c12_1 => ?_) (fun c12_1 => ?_)
  ·
    have c12_1 := (rg_b_ne0 _).mp c12_1
    refine rg_aload_n F 0 0 rfl dX10_reopen_19 rfl ?_
    refine rg_get F 0 15 tM0 cX10 k_lays_X10 (by decide) k_fl_X10_44 rfl (v := .ref (κ.2.2.2 12)) rfl dX10_reopen_20 ?_
    refine rg_iload_n F 1 1 rfl dX10_reopen_23 rfl ?_
    refine rg_stk (st' := [.int (rg_I ((Int.toNat d : Nat) : Int)), .ref (κ.2.2.2 12), .ref (κ.2.2.2 0)]) (by rw [Int.toNat_of_nonneg (a := d) (by omega)]) ?_
    refine rg_zald F 12 (Int.toNat d) (v := (ro (Int.toNat d))) tM12 (by omega) (by omega) (by decide) (congrFun h12 (Int.toNat d)) dX10_reopen_24 ?_
    refine rg_if_eq F 32 dX10_reopen_25 (by decide) (by have b0 := hro ((Int.toNat d)); omega) (fun c25_2 => ?_) (fun c25_2 => ?_)
    ·
      refine rg_iconst F dX10_reopen_32 ?_
      refine rg_put F 0 0 tM0 cX10 k_lays_X10 tyX10_ok nmX10 (by decide) k_fl_X10_89 rfl rfl rfl rfl (f9 := (σ 0)) rfl (rg_wr σ 0 (rg_up (σ 0) 0 0)) rfl dX10_reopen_33 ?_
      refine rg_aload_n F 0 0 rfl dX10_reopen_36 rfl ?_
      refine rg_get F 0 0 tM0 cX10 k_lays_X10 (by decide) k_fl_X10_89 rfl (v := .int (rg_I 0)) rfl dX10_reopen_37 ?_
      exfalso; unfold rg_cO at hc; (repeat' split at hc) <;> omega
    ·
      refine rg_iconst F dX10_reopen_28 ?_
      refine rg_goto F 33 dX10_reopen_29 (by decide) ?_
      refine rg_put F 0 0 tM0 cX10 k_lays_X10 tyX10_ok nmX10 (by decide) k_fl_X10_89 rfl rfl rfl rfl (f9 := (σ 0)) rfl (rg_wr σ 0 (rg_up (σ 0) 0 2)) rfl dX10_reopen_33 ?_
      refine rg_aload_n F 0 0 rfl dX10_reopen_36 rfl ?_
      refine rg_get F 0 0 tM0 cX10 k_lays_X10 (by decide) k_fl_X10_89 rfl (v := .int (rg_I 2)) rfl dX10_reopen_37 ?_
      refine rg_if_ne F 50 dX10_reopen_40 (by decide) (by omega) (fun c40_3 => ?_) (fun c40_3 => ?_)
      ·
        exact hR _ _ _ dX10_reopen_50 (rg_wr_congr (f := (rg_up (σ 0) 0 2)) (g := (rg_up (σ 0) 0 (rg_cO ro ((nd : Nat) : Int) d))) 0 rfl (by (repeat rw [rg_up_up]) <;> first | rfl | exact congrArg (rg_up _ 0) (by unfold rg_cO; (repeat' split) <;> omega)))
      · exfalso; omega
  ·
    have c12_1 := (rg_b_eq0 _).mp c12_1
    refine rg_iconst F dX10_reopen_15 ?_
    refine rg_goto F 33 dX10_reopen_16 (by decide) ?_
    refine rg_put F 0 0 tM0 cX10 k_lays_X10 tyX10_ok nmX10 (by decide) k_fl_X10_89 rfl rfl rfl rfl (f9 := (σ 0)) rfl (rg_wr σ 0 (rg_up (σ 0) 0 1)) rfl dX10_reopen_33 ?_
    refine rg_aload_n F 0 0 rfl dX10_reopen_36 rfl ?_
    refine rg_get F 0 0 tM0 cX10 k_lays_X10 (by decide) k_fl_X10_89 rfl (v := .int (rg_I 1)) rfl dX10_reopen_37 ?_
    refine rg_if_ne F 50 dX10_reopen_40 (by decide) (by omega) (fun c40_4 => ?_) (fun c40_4 => ?_)
    ·
      exact hR _ _ _ dX10_reopen_50 (rg_wr_congr (f := (rg_up (σ 0) 0 1)) (g := (rg_up (σ 0) 0 (rg_cO ro ((nd : Nat) : Int) d))) 0 rfl (by (repeat rw [rg_up_up]) <;> first | rfl | exact congrArg (rg_up _ 0) (by unfold rg_cO; (repeat' split) <;> omega)))
    · exfalso; omega
set_option maxHeartbeats 400000 in
set_option maxRecDepth 100000 in
/-- discards, done -/
theorem k_X10_discards_o (κ : rg_K) (σ : rg_S) (m n : Int) (sr : Nat → Int) (sm : Nat → Int) (ns : Nat) (h13 : σ 13 = sr) (h14 : σ 14 = sm) (h0_17 : σ 0 17 = ((ns : Nat) : Int)) (hns : ns ≤ 6) (hm : rg_Rg m) (hn : rg_Rg n) (hsr : ∀ j, rg_Rg (sr j)) (hsm : ∀ j, rg_Rg (sm j)) (hc : (rg_cD sr sm ns m n) = 0) : rg_CV κ rg_tM yX10_discards cX10_discards 4 1 22 [.ref (κ.2.2.2 0), .int (rg_I m), .int (rg_I n)] σ (fun σ9 => σ9 = (rg_wr (rg_wr (rg_wr σ 0 (rg_up (rg_up (σ 0) 0 0) 17 (((ns : Nat) : Int) + 1))) 13 (rg_up sr ns m)) 14 (rg_up sm ns n))) := by
  refine rg_entV [(0, .ref (κ.2.2.2 0)), (1, .int (rg_I m)), (2, .int (rg_I n))] rfl (by decide +kernel) (Nat.le_of_ble_eq_true rfl) (fun Γ F hR => ?_)
  refine rg_iload_n F 1 1 rfl dX10_discards_0 rfl ?_
  refine rg_iconst F dX10_discards_1 ?_
  refine rg_bipush F dX10_discards_2 (by decide +kernel) ?_
  refine rg_callSI F [.int (rg_I m), .int (rg_I 1), .int (rg_I 16)] [] (k_X10_in κ rg_tM σ (m) (1) (16) (by first | assumption | omega) (by first | assumption | omega) (by first | assumption | omega)) v_X10_in k_st_yX10_in k_ml_X10_172 ⟨Nat.le_of_ble_eq_true rfl, Nat.le_of_ble_eq_true rfl⟩ rfl (Nat.le_of_ble_eq_true rfl) dX10_discards_4 (rg_ex2 ?_)
  show rg_G κ Γ rg_tM 4 0 0 (4 + 3) [(0, .ref (κ.2.2.2 0)), (1, .int (rg_I m)), (2, .int (rg_I n))] [.int (rg_I (rg_b (1 ≤ m ∧ m ≤ 16)))] σ
  refine rg_if_eq F 24 dX10_discards_7 (by decide) (by have b0 := rg_b_Rg (1 ≤ m ∧ m ≤ 16); omega) (fun c7_1 => ?_) (fun c7_1 => ?_)
  ·
    have c7_1 := (rg_b_eq0 _).mp c7_1
    refine rg_iconst F dX10_discards_24 ?_
    refine rg_istore_n F [(3, .int (rg_I 0)), (0, .ref (κ.2.2.2 0)), (1, .int (rg_I m)), (2, .int (rg_I n))] dX10_discards_25 rfl (by decide) rfl ?_
    refine rg_iload_n F 0 3 rfl dX10_discards_26 rfl ?_
    refine rg_if_eq F 71 dX10_discards_27 (by decide) (by omega) (fun c27_2 => ?_) (fun c27_2 => ?_)
    ·
      refine rg_iconst F dX10_discards_71 ?_
      refine rg_istore_n F [(3, .int (rg_I 0)), (0, .ref (κ.2.2.2 0)), (1, .int (rg_I m)), (2, .int (rg_I n))] dX10_discards_72 rfl (by decide) rfl ?_
      refine rg_aload_n F 1 0 rfl dX10_discards_73 rfl ?_
      refine rg_iload_n F 0 3 rfl dX10_discards_74 rfl ?_
      refine rg_if_ne F 82 dX10_discards_75 (by decide) (by omega) (fun c75_3 => ?_) (fun c75_3 => ?_)
      · first | exact absurd c75_3 c27_2 | exact absurd c27_2 c75_3 | exact absurd ((rg_b_ne0 _).mp c75_3) c27_2 | exact absurd c27_2 ((rg_b_eq0 _).mp c75_3)
      ·
        refine rg_iconst F dX10_discards_78 ?_
        refine rg_goto F 96 dX10_discards_79 (by decide) ?_
        refine rg_put F 0 0 tM0 cX10 k_lays_X10 tyX10_ok nmX10 (by decide) k_fl_X10_89 rfl rfl rfl rfl (f9 := (σ 0)) rfl (rg_wr σ 0 (rg_up (σ 0) 0 1)) rfl dX10_discards_96 ?_
        refine rg_aload_n F 1 0 rfl dX10_discards_99 rfl ?_
        refine rg_get F 0 0 tM0 cX10 k_lays_X10 (by decide) k_fl_X10_89 rfl (v := .int (rg_I 1)) rfl dX10_discards_100 ?_
        exfalso; unfold rg_cD at hc; (repeat' split at hc) <;> omega
    · exfalso; omega
  ·
    have c7_1 := (rg_b_ne0 _).mp c7_1
    refine rg_iload_n F 2 2 rfl dX10_discards_10 rfl ?_
    refine rg_iconst F dX10_discards_11 ?_
    refine rg_bipush F dX10_discards_12 (by decide +kernel) ?_
    refine rg_callSI F [.int (rg_I n), .int (rg_I 1), .int (rg_I 15)] [] (k_X10_in κ rg_tM σ (n) (1) (15) (by first | assumption | omega) (by first | assumption | omega) (by first | assumption | omega)) v_X10_in k_st_yX10_in k_ml_X10_172 ⟨Nat.le_of_ble_eq_true rfl, Nat.le_of_ble_eq_true rfl⟩ rfl (Nat.le_of_ble_eq_true rfl) dX10_discards_14 (rg_ex2 ?_)
    show rg_G κ Γ rg_tM 4 0 0 (14 + 3) [(0, .ref (κ.2.2.2 0)), (1, .int (rg_I m)), (2, .int (rg_I n))] [.int (rg_I (rg_b (1 ≤ n ∧ n ≤ 15)))] σ
    refine rg_if_eq F 24 dX10_discards_17 (by decide) (by have b0 := rg_b_Rg (1 ≤ n ∧ n ≤ 15); omega) (fun c17_4 => ?_) (fun c17_4 => ?_)
    ·
      have c17_4 := (rg_b_eq0 _).mp c17_4
      refine rg_iconst F dX10_discards_24 ?_
      refine rg_istore_n F [(3, .int (rg_I 0)), (0, .ref (κ.2.2.2 0)), (1, .int (rg_I m)), (2, .int (rg_I n))] dX10_discards_25 rfl (by decide) rfl ?_
      refine rg_iload_n F 0 3 rfl dX10_discards_26 rfl ?_
      refine rg_if_eq F 71 dX10_discards_27 (by decide) (by omega) (fun c27_5 => ?_) (fun c27_5 => ?_)
      ·
        refine rg_iconst F dX10_discards_71 ?_
        refine rg_istore_n F [(3, .int (rg_I 0)), (0, .ref (κ.2.2.2 0)), (1, .int (rg_I m)), (2, .int (rg_I n))] dX10_discards_72 rfl (by decide) rfl ?_
        refine rg_aload_n F 1 0 rfl dX10_discards_73 rfl ?_
        refine rg_iload_n F 0 3 rfl dX10_discards_74 rfl ?_
        refine rg_if_ne F 82 dX10_discards_75 (by decide) (by omega) (fun c75_6 => ?_) (fun c75_6 => ?_)
        · first | exact absurd c75_6 c27_5 | exact absurd c27_5 c75_6 | exact absurd ((rg_b_ne0 _).mp c75_6) c27_5 | exact absurd c27_5 ((rg_b_eq0 _).mp c75_6)
        ·
          refine rg_iconst F dX10_discards_78 ?_
          refine rg_goto F 96 dX10_discards_79 (by decide) ?_
          refine rg_put F 0 0 tM0 cX10 k_lays_X10 tyX10_ok nmX10 (by decide) k_fl_X10_89 rfl rfl rfl rfl (f9 := (σ 0)) rfl (rg_wr σ 0 (rg_up (σ 0) 0 1)) rfl dX10_discards_96 ?_
          refine rg_aload_n F 1 0 rfl dX10_discards_99 rfl ?_
          refine rg_get F 0 0 tM0 cX10 k_lays_X10 (by decide) k_fl_X10_89 rfl (v := .int (rg_I 1)) rfl dX10_discards_100 ?_
          exfalso; unfold rg_cD at hc; (repeat' split at hc) <;> omega
      · exfalso; omega
    ·
      have c17_4 := (rg_b_ne0 _).mp c17_4
      refine rg_iconst F dX10_discards_20 ?_
      refine rg_goto F 25 dX10_discards_21 (by decide) ?_
      refine rg_istore_n F [(3, .int (rg_I 1)), (0, .ref (κ.2.2.2 0)), (1, .int (rg_I m)), (2, .int (rg_I n))] dX10_discards_25 rfl (by decide) rfl ?_
      refine rg_iload_n F 0 3 rfl dX10_discards_26 rfl ?_
      refine rg_if_eq F 71 dX10_discards_27 (by decide) (by omega) (fun c27_7 => ?_) (fun c27_7 => ?_)
      · exfalso; omega
      ·
        refine rg_aload_n F 1 0 rfl dX10_discards_30 rfl ?_
        refine rg_get F 0 17 tM0 cX10 k_lays_X10 (by decide) k_fl_X10_140 rfl (v := .int (rg_I ((ns : Nat) : Int))) (congrArg (fun x => Value.int (rg_I x)) h0_17) dX10_discards_31 ?_
        refine rg_if_eq F 67 dX10_discards_34 (by decide) (by omega) (fun c34_8 => ?_) (fun c34_8 => ?_)
        ·
          refine rg_iconst F dX10_discards_67 ?_
          refine rg_goto F 72 dX10_discards_68 (by decide) ?_
          refine rg_istore_n F [(3, .int (rg_I 1)), (0, .ref (κ.2.2.2 0)), (1, .int (rg_I m)), (2, .int (rg_I n))] dX10_discards_72 rfl (by decide) rfl ?_
          refine rg_aload_n F 1 0 rfl dX10_discards_73 rfl ?_
          refine rg_iload_n F 0 3 rfl dX10_discards_74 rfl ?_
          refine rg_if_ne F 82 dX10_discards_75 (by decide) (by omega) (fun c75_9 => ?_) (fun c75_9 => ?_)
          ·
            refine rg_aload_n F 1 0 rfl dX10_discards_82 rfl ?_
            refine rg_get F 0 17 tM0 cX10 k_lays_X10 (by decide) k_fl_X10_140 rfl (v := .int (rg_I ((ns : Nat) : Int))) (congrArg (fun x => Value.int (rg_I x)) h0_17) dX10_discards_83 ?_
            refine rg_bipush F dX10_discards_86 (by decide +kernel) ?_
            refine rg_icmp_ne F 95 dX10_discards_88 (by decide) (by omega) (by omega) (fun c88_10 => ?_) (fun c88_10 => ?_)
            ·
              refine rg_iconst F dX10_discards_95 ?_
              refine rg_put F 0 0 tM0 cX10 k_lays_X10 tyX10_ok nmX10 (by decide) k_fl_X10_89 rfl rfl rfl rfl (f9 := (σ 0)) rfl (rg_wr σ 0 (rg_up (σ 0) 0 0)) rfl dX10_discards_96 ?_
              refine rg_aload_n F 1 0 rfl dX10_discards_99 rfl ?_
              refine rg_get F 0 0 tM0 cX10 k_lays_X10 (by decide) k_fl_X10_89 rfl (v := .int (rg_I 0)) rfl dX10_discards_100 ?_
              refine rg_if_ne F 136 dX10_discards_103 (by decide) (by omega) (fun c103_11 => ?_) (fun c103_11 => ?_)
              · exfalso; omega
              ·
                refine rg_aload_n F 1 0 rfl dX10_discards_106 rfl ?_
                refine rg_get F 0 18 tM0 cX10 k_lays_X10 (by decide) k_fl_X10_47 rfl (v := .ref (κ.2.2.2 13)) rfl dX10_discards_107 ?_
                refine rg_aload_n F 1 0 rfl dX10_discards_110 rfl ?_
                refine rg_get F 0 17 tM0 cX10 k_lays_X10 (by decide) k_fl_X10_140 rfl (v := .int (rg_I ((ns : Nat) : Int))) (congrArg (fun x => Value.int (rg_I x)) h0_17) dX10_discards_111 ?_
                refine rg_iload_n F 2 1 rfl dX10_discards_114 rfl ?_
                refine rg_iast F 13 ns tM13 (by omega) (by omega) (by decide) (f9 := sr) h13 (rg_wr (rg_wr σ 0 (rg_up (σ 0) 0 0)) 13 (rg_up sr ns m)) rfl dX10_discards_115 ?_
                refine rg_aload_n F 1 0 rfl dX10_discards_116 rfl ?_
                refine rg_get F 0 19 tM0 cX10 k_lays_X10 (by decide) k_fl_X10_50 rfl (v := .ref (κ.2.2.2 14)) rfl dX10_discards_117 ?_
                refine rg_aload_n F 1 0 rfl dX10_discards_120 rfl ?_
                refine rg_get F 0 17 tM0 cX10 k_lays_X10 (by decide) k_fl_X10_140 rfl (v := .int (rg_I ((ns : Nat) : Int))) (congrArg (fun x => Value.int (rg_I x)) h0_17) dX10_discards_121 ?_
                refine rg_iload_n F 3 2 rfl dX10_discards_124 rfl ?_
                refine rg_iast F 14 ns tM14 (by omega) (by omega) (by decide) (f9 := sm) h14 (rg_wr (rg_wr (rg_wr σ 0 (rg_up (σ 0) 0 0)) 13 (rg_up sr ns m)) 14 (rg_up sm ns n)) rfl dX10_discards_125 ?_
                refine rg_aload_n F 1 0 rfl dX10_discards_126 rfl ?_
                refine rg_dup F dX10_discards_127 rfl ?_
                refine rg_get F 0 17 tM0 cX10 k_lays_X10 (by decide) k_fl_X10_140 rfl (v := .int (rg_I ((ns : Nat) : Int))) (congrArg (fun x => Value.int (rg_I x)) h0_17) dX10_discards_128 ?_
                refine rg_iconst F dX10_discards_131 ?_
                refine rg_iadd F dX10_discards_132 ?_
                refine rg_put F 0 17 tM0 cX10 k_lays_X10 tyX10_ok nmX10 (by decide) k_fl_X10_140 rfl rfl rfl rfl (f9 := (rg_up (σ 0) 0 0)) rfl (rg_wr (rg_wr (rg_wr σ 0 (rg_up (rg_up (σ 0) 0 0) 17 (((ns : Nat) : Int) + 1))) 13 (rg_up sr ns m)) 14 (rg_up sm ns n)) ((rg_wr_comm _ _ _ (by decide)).trans (rg_wr_congr 14 ((rg_wr_comm _ _ _ (by decide)).trans (rg_wr_congr 13 (rg_wr_wr _ 0 _ _) rfl)) rfl)) dX10_discards_133 ?_
                exact hR _ _ _ dX10_discards_136 rfl
            ·
              refine rg_iconst F dX10_discards_91 ?_
              refine rg_goto F 96 dX10_discards_92 (by decide) ?_
              refine rg_put F 0 0 tM0 cX10 k_lays_X10 tyX10_ok nmX10 (by decide) k_fl_X10_89 rfl rfl rfl rfl (f9 := (σ 0)) rfl (rg_wr σ 0 (rg_up (σ 0) 0 2)) rfl dX10_discards_96 ?_
              refine rg_aload_n F 1 0 rfl dX10_discards_99 rfl ?_
              refine rg_get F 0 0 tM0 cX10 k_lays_X10 (by decide) k_fl_X10_89 rfl (v := .int (rg_I 2)) rfl dX10_discards_100 ?_
              exfalso; unfold rg_cD at hc; (repeat' split at hc) <;> omega
          · first | exact absurd c75_9 c27_7 | exact absurd c27_7 c75_9 | exact absurd ((rg_b_ne0 _).mp c75_9) c27_7 | exact absurd c27_7 ((rg_b_eq0 _).mp c75_9)
        ·
          refine rg_iload_n F 2 1 rfl dX10_discards_37 rfl ?_
          refine rg_aload_n F 1 0 rfl dX10_discards_38 rfl ?_
          refine rg_get F 0 18 tM0 cX10 k_lays_X10 (by decide) k_fl_X10_47 rfl (v := .ref (κ.2.2.2 13)) rfl dX10_discards_39 ?_
          refine rg_aload_n F 1 0 rfl dX10_discards_42 rfl ?_
          refine rg_get F 0 17 tM0 cX10 k_lays_X10 (by decide) k_fl_X10_140 rfl (v := .int (rg_I ((ns : Nat) : Int))) (congrArg (fun x => Value.int (rg_I x)) h0_17) dX10_discards_43 ?_
          refine rg_iconst F dX10_discards_46 ?_
          refine rg_isub F dX10_discards_47 ?_
          refine rg_iald F 13 (ns - 1) (v := (sr (ns - 1))) tM13 (by omega) (by omega) (by decide) (congrFun h13 (ns - 1)) dX10_discards_48 ?_
          refine rg_icmp_le F 71 dX10_discards_49 (by decide) (by omega) (by have b0 := hsr ((ns - 1)); omega) (fun c49_12 => ?_) (fun c49_12 => ?_)
          ·
            refine rg_iconst F dX10_discards_71 ?_
            refine rg_istore_n F [(3, .int (rg_I 0)), (0, .ref (κ.2.2.2 0)), (1, .int (rg_I m)), (2, .int (rg_I n))] dX10_discards_72 rfl (by decide) rfl ?_
            refine rg_aload_n F 1 0 rfl dX10_discards_73 rfl ?_
            refine rg_iload_n F 0 3 rfl dX10_discards_74 rfl ?_
            refine rg_if_ne F 82 dX10_discards_75 (by decide) (by omega) (fun c75_13 => ?_) (fun c75_13 => ?_)
            · exfalso; omega
            ·
              refine rg_iconst F dX10_discards_78 ?_
              refine rg_goto F 96 dX10_discards_79 (by decide) ?_
              refine rg_put F 0 0 tM0 cX10 k_lays_X10 tyX10_ok nmX10 (by decide) k_fl_X10_89 rfl rfl rfl rfl (f9 := (σ 0)) rfl (rg_wr σ 0 (rg_up (σ 0) 0 1)) rfl dX10_discards_96 ?_
              refine rg_aload_n F 1 0 rfl dX10_discards_99 rfl ?_
              refine rg_get F 0 0 tM0 cX10 k_lays_X10 (by decide) k_fl_X10_89 rfl (v := .int (rg_I 1)) rfl dX10_discards_100 ?_
              exfalso; unfold rg_cD at hc; (repeat' split at hc) <;> omega
          ·
            refine rg_iload_n F 3 2 rfl dX10_discards_52 rfl ?_
            refine rg_aload_n F 1 0 rfl dX10_discards_53 rfl ?_
            refine rg_get F 0 19 tM0 cX10 k_lays_X10 (by decide) k_fl_X10_50 rfl (v := .ref (κ.2.2.2 14)) rfl dX10_discards_54 ?_
            refine rg_aload_n F 1 0 rfl dX10_discards_57 rfl ?_
            refine rg_get F 0 17 tM0 cX10 k_lays_X10 (by decide) k_fl_X10_140 rfl (v := .int (rg_I ((ns : Nat) : Int))) (congrArg (fun x => Value.int (rg_I x)) h0_17) dX10_discards_58 ?_
            refine rg_iconst F dX10_discards_61 ?_
            refine rg_isub F dX10_discards_62 ?_
            refine rg_iald F 14 (ns - 1) (v := (sm (ns - 1))) tM14 (by omega) (by omega) (by decide) (congrFun h14 (ns - 1)) dX10_discards_63 ?_
            refine rg_icmp_le F 71 dX10_discards_64 (by decide) (by omega) (by have b0 := hsm ((ns - 1)); omega) (fun c64_14 => ?_) (fun c64_14 => ?_)
            ·
              refine rg_iconst F dX10_discards_71 ?_
              refine rg_istore_n F [(3, .int (rg_I 0)), (0, .ref (κ.2.2.2 0)), (1, .int (rg_I m)), (2, .int (rg_I n))] dX10_discards_72 rfl (by decide) rfl ?_
              refine rg_aload_n F 1 0 rfl dX10_discards_73 rfl ?_
              refine rg_iload_n F 0 3 rfl dX10_discards_74 rfl ?_
              refine rg_if_ne F 82 dX10_discards_75 (by decide) (by omega) (fun c75_15 => ?_) (fun c75_15 => ?_)
              · exfalso; omega
              ·
                refine rg_iconst F dX10_discards_78 ?_
                refine rg_goto F 96 dX10_discards_79 (by decide) ?_
                refine rg_put F 0 0 tM0 cX10 k_lays_X10 tyX10_ok nmX10 (by decide) k_fl_X10_89 rfl rfl rfl rfl (f9 := (σ 0)) rfl (rg_wr σ 0 (rg_up (σ 0) 0 1)) rfl dX10_discards_96 ?_
                refine rg_aload_n F 1 0 rfl dX10_discards_99 rfl ?_
                refine rg_get F 0 0 tM0 cX10 k_lays_X10 (by decide) k_fl_X10_89 rfl (v := .int (rg_I 1)) rfl dX10_discards_100 ?_
                exfalso; unfold rg_cD at hc; (repeat' split at hc) <;> omega
            ·
              refine rg_iconst F dX10_discards_67 ?_
              refine rg_goto F 72 dX10_discards_68 (by decide) ?_
              refine rg_istore_n F [(3, .int (rg_I 1)), (0, .ref (κ.2.2.2 0)), (1, .int (rg_I m)), (2, .int (rg_I n))] dX10_discards_72 rfl (by decide) rfl ?_
              refine rg_aload_n F 1 0 rfl dX10_discards_73 rfl ?_
              refine rg_iload_n F 0 3 rfl dX10_discards_74 rfl ?_
              refine rg_if_ne F 82 dX10_discards_75 (by decide) (by omega) (fun c75_16 => ?_) (fun c75_16 => ?_)
              ·
                refine rg_aload_n F 1 0 rfl dX10_discards_82 rfl ?_
                refine rg_get F 0 17 tM0 cX10 k_lays_X10 (by decide) k_fl_X10_140 rfl (v := .int (rg_I ((ns : Nat) : Int))) (congrArg (fun x => Value.int (rg_I x)) h0_17) dX10_discards_83 ?_
                refine rg_bipush F dX10_discards_86 (by decide +kernel) ?_
                refine rg_icmp_ne F 95 dX10_discards_88 (by decide) (by omega) (by omega) (fun c88_17 => ?_) (fun c88_17 => ?_)
                ·
                  refine rg_iconst F dX10_discards_95 ?_
                  refine rg_put F 0 0 tM0 cX10 k_lays_X10 tyX10_ok nmX10 (by decide) k_fl_X10_89 rfl rfl rfl rfl (f9 := (σ 0)) rfl (rg_wr σ 0 (rg_up (σ 0) 0 0)) rfl dX10_discards_96 ?_
                  refine rg_aload_n F 1 0 rfl dX10_discards_99 rfl ?_
                  refine rg_get F 0 0 tM0 cX10 k_lays_X10 (by decide) k_fl_X10_89 rfl (v := .int (rg_I 0)) rfl dX10_discards_100 ?_
                  refine rg_if_ne F 136 dX10_discards_103 (by decide) (by omega) (fun c103_18 => ?_) (fun c103_18 => ?_)
                  · exfalso; omega
                  ·
                    refine rg_aload_n F 1 0 rfl dX10_discards_106 rfl ?_
                    refine rg_get F 0 18 tM0 cX10 k_lays_X10 (by decide) k_fl_X10_47 rfl (v := .ref (κ.2.2.2 13)) rfl dX10_discards_107 ?_
                    refine rg_aload_n F 1 0 rfl dX10_discards_110 rfl ?_
                    refine rg_get F 0 17 tM0 cX10 k_lays_X10 (by decide) k_fl_X10_140 rfl (v := .int (rg_I ((ns : Nat) : Int))) (congrArg (fun x => Value.int (rg_I x)) h0_17) dX10_discards_111 ?_
                    refine rg_iload_n F 2 1 rfl dX10_discards_114 rfl ?_
                    refine rg_iast F 13 ns tM13 (by omega) (by omega) (by decide) (f9 := sr) h13 (rg_wr (rg_wr σ 0 (rg_up (σ 0) 0 0)) 13 (rg_up sr ns m)) rfl dX10_discards_115 ?_
                    refine rg_aload_n F 1 0 rfl dX10_discards_116 rfl ?_
                    refine rg_get F 0 19 tM0 cX10 k_lays_X10 (by decide) k_fl_X10_50 rfl (v := .ref (κ.2.2.2 14)) rfl dX10_discards_117 ?_
                    refine rg_aload_n F 1 0 rfl dX10_discards_120 rfl ?_
                    refine rg_get F 0 17 tM0 cX10 k_lays_X10 (by decide) k_fl_X10_140 rfl (v := .int (rg_I ((ns : Nat) : Int))) (congrArg (fun x => Value.int (rg_I x)) h0_17) dX10_discards_121 ?_
                    refine rg_iload_n F 3 2 rfl dX10_discards_124 rfl ?_
                    refine rg_iast F 14 ns tM14 (by omega) (by omega) (by decide) (f9 := sm) h14 (rg_wr (rg_wr (rg_wr σ 0 (rg_up (σ 0) 0 0)) 13 (rg_up sr ns m)) 14 (rg_up sm ns n)) rfl dX10_discards_125 ?_
                    refine rg_aload_n F 1 0 rfl dX10_discards_126 rfl ?_
                    refine rg_dup F dX10_discards_127 rfl ?_
                    refine rg_get F 0 17 tM0 cX10 k_lays_X10 (by decide) k_fl_X10_140 rfl (v := .int (rg_I ((ns : Nat) : Int))) (congrArg (fun x => Value.int (rg_I x)) h0_17) dX10_discards_128 ?_
                    refine rg_iconst F dX10_discards_131 ?_
                    refine rg_iadd F dX10_discards_132 ?_
                    refine rg_put F 0 17 tM0 cX10 k_lays_X10 tyX10_ok nmX10 (by decide) k_fl_X10_140 rfl rfl rfl rfl (f9 := (rg_up (σ 0) 0 0)) rfl (rg_wr (rg_wr (rg_wr σ 0 (rg_up (rg_up (σ 0) 0 0) 17 (((ns : Nat) : Int) + 1))) 13 (rg_up sr ns m)) 14 (rg_up sm ns n)) ((rg_wr_comm _ _ _ (by decide)).trans (rg_wr_congr 14 ((rg_wr_comm _ _ _ (by decide)).trans (rg_wr_congr 13 (rg_wr_wr _ 0 _ _) rfl)) rfl)) dX10_discards_133 ?_
                    exact hR _ _ _ dX10_discards_136 rfl
                ·
                  refine rg_iconst F dX10_discards_91 ?_
                  refine rg_goto F 96 dX10_discards_92 (by decide) ?_
                  refine rg_put F 0 0 tM0 cX10 k_lays_X10 tyX10_ok nmX10 (by decide) k_fl_X10_89 rfl rfl rfl rfl (f9 := (σ 0)) rfl (rg_wr σ 0 (rg_up (σ 0) 0 2)) rfl dX10_discards_96 ?_
                  refine rg_aload_n F 1 0 rfl dX10_discards_99 rfl ?_
                  refine rg_get F 0 0 tM0 cX10 k_lays_X10 (by decide) k_fl_X10_89 rfl (v := .int (rg_I 2)) rfl dX10_discards_100 ?_
                  exfalso; unfold rg_cD at hc; (repeat' split at hc) <;> omega
              · first | exact absurd c75_16 c27_7 | exact absurd c27_7 c75_16 | exact absurd ((rg_b_ne0 _).mp c75_16) c27_7 | exact absurd c27_7 ((rg_b_eq0 _).mp c75_16)
set_option maxHeartbeats 400000 in
set_option maxRecDepth 100000 in
/-- discards, refused -/
theorem k_X10_discards_n (κ : rg_K) (σ : rg_S) (m n : Int) (sr : Nat → Int) (sm : Nat → Int) (ns : Nat) (h13 : σ 13 = sr) (h14 : σ 14 = sm) (h0_17 : σ 0 17 = ((ns : Nat) : Int)) (hns : ns ≤ 6) (hm : rg_Rg m) (hn : rg_Rg n) (hsr : ∀ j, rg_Rg (sr j)) (hsm : ∀ j, rg_Rg (sm j)) (hc : ¬ (rg_cD sr sm ns m n) = 0) : rg_CV κ rg_tM yX10_discards cX10_discards 4 1 22 [.ref (κ.2.2.2 0), .int (rg_I m), .int (rg_I n)] σ (fun σ9 => σ9 = (rg_wr σ 0 (rg_up (σ 0) 0 (rg_cD sr sm ns m n)))) := by
  refine rg_entV [(0, .ref (κ.2.2.2 0)), (1, .int (rg_I m)), (2, .int (rg_I n))] rfl (by decide +kernel) (Nat.le_of_ble_eq_true rfl) (fun Γ F hR => ?_)
  refine rg_iload_n F 1 1 rfl dX10_discards_0 rfl ?_
  refine rg_iconst F dX10_discards_1 ?_
  refine rg_bipush F dX10_discards_2 (by decide +kernel) ?_
  refine rg_callSI F [.int (rg_I m), .int (rg_I 1), .int (rg_I 16)] [] (k_X10_in κ rg_tM σ (m) (1) (16) (by first | assumption | omega) (by first | assumption | omega) (by first | assumption | omega)) v_X10_in k_st_yX10_in k_ml_X10_172 ⟨Nat.le_of_ble_eq_true rfl, Nat.le_of_ble_eq_true rfl⟩ rfl (Nat.le_of_ble_eq_true rfl) dX10_discards_4 (rg_ex2 ?_)
  show rg_G κ Γ rg_tM 4 0 0 (4 + 3) [(0, .ref (κ.2.2.2 0)), (1, .int (rg_I m)), (2, .int (rg_I n))] [.int (rg_I (rg_b (1 ≤ m ∧ m ≤ 16)))] σ
  refine rg_if_eq F 24 dX10_discards_7 (by decide) (by have b0 := rg_b_Rg (1 ≤ m ∧ m ≤ 16); omega) (fun c7_1 => ?_) (fun c7_1 => ?_)
  ·
    have c7_1 := (rg_b_eq0 _).mp c7_1
    refine rg_iconst F dX10_discards_24 ?_
    refine rg_istore_n F [(3, .int (rg_I 0)), (0, .ref (κ.2.2.2 0)), (1, .int (rg_I m)), (2, .int (rg_I n))] dX10_discards_25 rfl (by decide) rfl ?_
    refine rg_iload_n F 0 3 rfl dX10_discards_26 rfl ?_
    refine rg_if_eq F 71 dX10_discards_27 (by decide) (by omega) (fun c27_2 => ?_) (fun c27_2 => ?_)
    ·
      refine rg_iconst F dX10_discards_71 ?_
      refine rg_istore_n F [(3, .int (rg_I 0)), (0, .ref (κ.2.2.2 0)), (1, .int (rg_I m)), (2, .int (rg_I n))] dX10_discards_72 rfl (by decide) rfl ?_
      refine rg_aload_n F 1 0 rfl dX10_discards_73 rfl ?_
      refine rg_iload_n F 0 3 rfl dX10_discards_74 rfl ?_
      refine rg_if_ne F 82 dX10_discards_75 (by decide) (by omega) (fun c75_3 => ?_) (fun c75_3 => ?_)
      · first | exact absurd c75_3 c27_2 | exact absurd c27_2 c75_3 | exact absurd ((rg_b_ne0 _).mp c75_3) c27_2 | exact absurd c27_2 ((rg_b_eq0 _).mp c75_3)
      ·
        refine rg_iconst F dX10_discards_78 ?_
        refine rg_goto F 96 dX10_discards_79 (by decide) ?_
        refine rg_put F 0 0 tM0 cX10 k_lays_X10 tyX10_ok nmX10 (by decide) k_fl_X10_89 rfl rfl rfl rfl (f9 := (σ 0)) rfl (rg_wr σ 0 (rg_up (σ 0) 0 1)) rfl dX10_discards_96 ?_
        refine rg_aload_n F 1 0 rfl dX10_discards_99 rfl ?_
        refine rg_get F 0 0 tM0 cX10 k_lays_X10 (by decide) k_fl_X10_89 rfl (v := .int (rg_I 1)) rfl dX10_discards_100 ?_
        refine rg_if_ne F 136 dX10_discards_103 (by decide) (by omega) (fun c103_4 => ?_) (fun c103_4 => ?_)
        ·
          exact hR _ _ _ dX10_discards_136 (rg_wr_congr (f := (rg_up (σ 0) 0 1)) (g := (rg_up (σ 0) 0 (rg_cD sr sm ns m n))) 0 rfl (by (repeat rw [rg_up_up]) <;> first | rfl | exact congrArg (rg_up _ 0) (by unfold rg_cD; (repeat' split) <;> omega)))
        · exfalso; omega
    · exfalso; omega
  ·
    have c7_1 := (rg_b_ne0 _).mp c7_1
    refine rg_iload_n F 2 2 rfl dX10_discards_10 rfl ?_
    refine rg_iconst F dX10_discards_11 ?_
    refine rg_bipush F dX10_discards_12 (by decide +kernel) ?_
    refine rg_callSI F [.int (rg_I n), .int (rg_I 1), .int (rg_I 15)] [] (k_X10_in κ rg_tM σ (n) (1) (15) (by first | assumption | omega) (by first | assumption | omega) (by first | assumption | omega)) v_X10_in k_st_yX10_in k_ml_X10_172 ⟨Nat.le_of_ble_eq_true rfl, Nat.le_of_ble_eq_true rfl⟩ rfl (Nat.le_of_ble_eq_true rfl) dX10_discards_14 (rg_ex2 ?_)
    show rg_G κ Γ rg_tM 4 0 0 (14 + 3) [(0, .ref (κ.2.2.2 0)), (1, .int (rg_I m)), (2, .int (rg_I n))] [.int (rg_I (rg_b (1 ≤ n ∧ n ≤ 15)))] σ
    refine rg_if_eq F 24 dX10_discards_17 (by decide) (by have b0 := rg_b_Rg (1 ≤ n ∧ n ≤ 15); omega) (fun c17_5 => ?_) (fun c17_5 => ?_)
    ·
      have c17_5 := (rg_b_eq0 _).mp c17_5
      refine rg_iconst F dX10_discards_24 ?_
      refine rg_istore_n F [(3, .int (rg_I 0)), (0, .ref (κ.2.2.2 0)), (1, .int (rg_I m)), (2, .int (rg_I n))] dX10_discards_25 rfl (by decide) rfl ?_
      refine rg_iload_n F 0 3 rfl dX10_discards_26 rfl ?_
      refine rg_if_eq F 71 dX10_discards_27 (by decide) (by omega) (fun c27_6 => ?_) (fun c27_6 => ?_)
      ·
        refine rg_iconst F dX10_discards_71 ?_
        refine rg_istore_n F [(3, .int (rg_I 0)), (0, .ref (κ.2.2.2 0)), (1, .int (rg_I m)), (2, .int (rg_I n))] dX10_discards_72 rfl (by decide) rfl ?_
        refine rg_aload_n F 1 0 rfl dX10_discards_73 rfl ?_
        refine rg_iload_n F 0 3 rfl dX10_discards_74 rfl ?_
        refine rg_if_ne F 82 dX10_discards_75 (by decide) (by omega) (fun c75_7 => ?_) (fun c75_7 => ?_)
        · first | exact absurd c75_7 c27_6 | exact absurd c27_6 c75_7 | exact absurd ((rg_b_ne0 _).mp c75_7) c27_6 | exact absurd c27_6 ((rg_b_eq0 _).mp c75_7)
        ·
          refine rg_iconst F dX10_discards_78 ?_
          refine rg_goto F 96 dX10_discards_79 (by decide) ?_
          refine rg_put F 0 0 tM0 cX10 k_lays_X10 tyX10_ok nmX10 (by decide) k_fl_X10_89 rfl rfl rfl rfl (f9 := (σ 0)) rfl (rg_wr σ 0 (rg_up (σ 0) 0 1)) rfl dX10_discards_96 ?_
          refine rg_aload_n F 1 0 rfl dX10_discards_99 rfl ?_
          refine rg_get F 0 0 tM0 cX10 k_lays_X10 (by decide) k_fl_X10_89 rfl (v := .int (rg_I 1)) rfl dX10_discards_100 ?_
          refine rg_if_ne F 136 dX10_discards_103 (by decide) (by omega) (fun c103_8 => ?_) (fun c103_8 => ?_)
          ·
            exact hR _ _ _ dX10_discards_136 (rg_wr_congr (f := (rg_up (σ 0) 0 1)) (g := (rg_up (σ 0) 0 (rg_cD sr sm ns m n))) 0 rfl (by (repeat rw [rg_up_up]) <;> first | rfl | exact congrArg (rg_up _ 0) (by unfold rg_cD; (repeat' split) <;> omega)))
          · exfalso; omega
      · exfalso; omega
    ·
      have c17_5 := (rg_b_ne0 _).mp c17_5
      refine rg_iconst F dX10_discards_20 ?_
      refine rg_goto F 25 dX10_discards_21 (by decide) ?_
      refine rg_istore_n F [(3, .int (rg_I 1)), (0, .ref (κ.2.2.2 0)), (1, .int (rg_I m)), (2, .int (rg_I n))] dX10_discards_25 rfl (by decide) rfl ?_
      refine rg_iload_n F 0 3 rfl dX10_discards_26 rfl ?_
      refine rg_if_eq F 71 dX10_discards_27 (by decide) (by omega) (fun c27_9 => ?_) (fun c27_9 => ?_)
      · exfalso; omega
      ·
        refine rg_aload_n F 1 0 rfl dX10_discards_30 rfl ?_
        refine rg_get F 0 17 tM0 cX10 k_lays_X10 (by decide) k_fl_X10_140 rfl (v := .int (rg_I ((ns : Nat) : Int))) (congrArg (fun x => Value.int (rg_I x)) h0_17) dX10_discards_31 ?_
        refine rg_if_eq F 67 dX10_discards_34 (by decide) (by omega) (fun c34_10 => ?_) (fun c34_10 => ?_)
        ·
          refine rg_iconst F dX10_discards_67 ?_
          refine rg_goto F 72 dX10_discards_68 (by decide) ?_
          refine rg_istore_n F [(3, .int (rg_I 1)), (0, .ref (κ.2.2.2 0)), (1, .int (rg_I m)), (2, .int (rg_I n))] dX10_discards_72 rfl (by decide) rfl ?_
          refine rg_aload_n F 1 0 rfl dX10_discards_73 rfl ?_
          refine rg_iload_n F 0 3 rfl dX10_discards_74 rfl ?_
          refine rg_if_ne F 82 dX10_discards_75 (by decide) (by omega) (fun c75_11 => ?_) (fun c75_11 => ?_)
          ·
            refine rg_aload_n F 1 0 rfl dX10_discards_82 rfl ?_
            refine rg_get F 0 17 tM0 cX10 k_lays_X10 (by decide) k_fl_X10_140 rfl (v := .int (rg_I ((ns : Nat) : Int))) (congrArg (fun x => Value.int (rg_I x)) h0_17) dX10_discards_83 ?_
            refine rg_bipush F dX10_discards_86 (by decide +kernel) ?_
            refine rg_icmp_ne F 95 dX10_discards_88 (by decide) (by omega) (by omega) (fun c88_12 => ?_) (fun c88_12 => ?_)
            ·
              refine rg_iconst F dX10_discards_95 ?_
              refine rg_put F 0 0 tM0 cX10 k_lays_X10 tyX10_ok nmX10 (by decide) k_fl_X10_89 rfl rfl rfl rfl (f9 := (σ 0)) rfl (rg_wr σ 0 (rg_up (σ 0) 0 0)) rfl dX10_discards_96 ?_
              refine rg_aload_n F 1 0 rfl dX10_discards_99 rfl ?_
              refine rg_get F 0 0 tM0 cX10 k_lays_X10 (by decide) k_fl_X10_89 rfl (v := .int (rg_I 0)) rfl dX10_discards_100 ?_
              exfalso; unfold rg_cD at hc; (repeat' split at hc) <;> omega
            ·
              refine rg_iconst F dX10_discards_91 ?_
              refine rg_goto F 96 dX10_discards_92 (by decide) ?_
              refine rg_put F 0 0 tM0 cX10 k_lays_X10 tyX10_ok nmX10 (by decide) k_fl_X10_89 rfl rfl rfl rfl (f9 := (σ 0)) rfl (rg_wr σ 0 (rg_up (σ 0) 0 2)) rfl dX10_discards_96 ?_
              refine rg_aload_n F 1 0 rfl dX10_discards_99 rfl ?_
              refine rg_get F 0 0 tM0 cX10 k_lays_X10 (by decide) k_fl_X10_89 rfl (v := .int (rg_I 2)) rfl dX10_discards_100 ?_
              refine rg_if_ne F 136 dX10_discards_103 (by decide) (by omega) (fun c103_13 => ?_) (fun c103_13 => ?_)
              ·
                exact hR _ _ _ dX10_discards_136 (rg_wr_congr (f := (rg_up (σ 0) 0 2)) (g := (rg_up (σ 0) 0 (rg_cD sr sm ns m n))) 0 rfl (by (repeat rw [rg_up_up]) <;> first | rfl | exact congrArg (rg_up _ 0) (by unfold rg_cD; (repeat' split) <;> omega)))
              · exfalso; omega
          · first | exact absurd c75_11 c27_9 | exact absurd c27_9 c75_11 | exact absurd ((rg_b_ne0 _).mp c75_11) c27_9 | exact absurd c27_9 ((rg_b_eq0 _).mp c75_11)
        ·
          refine rg_iload_n F 2 1 rfl dX10_discards_37 rfl ?_
          refine rg_aload_n F 1 0 rfl dX10_discards_38 rfl ?_
          refine rg_get F 0 18 tM0 cX10 k_lays_X10 (by decide) k_fl_X10_47 rfl (v := .ref (κ.2.2.2 13)) rfl dX10_discards_39 ?_
          refine rg_aload_n F 1 0 rfl dX10_discards_42 rfl ?_
          refine rg_get F 0 17 tM0 cX10 k_lays_X10 (by decide) k_fl_X10_140 rfl (v := .int (rg_I ((ns : Nat) : Int))) (congrArg (fun x => Value.int (rg_I x)) h0_17) dX10_discards_43 ?_
          refine rg_iconst F dX10_discards_46 ?_
          refine rg_isub F dX10_discards_47 ?_
          refine rg_iald F 13 (ns - 1) (v := (sr (ns - 1))) tM13 (by omega) (by omega) (by decide) (congrFun h13 (ns - 1)) dX10_discards_48 ?_
          refine rg_icmp_le F 71 dX10_discards_49 (by decide) (by omega) (by have b0 := hsr ((ns - 1)); omega) (fun c49_14 => ?_) (fun c49_14 => ?_)
          ·
            refine rg_iconst F dX10_discards_71 ?_
            refine rg_istore_n F [(3, .int (rg_I 0)), (0, .ref (κ.2.2.2 0)), (1, .int (rg_I m)), (2, .int (rg_I n))] dX10_discards_72 rfl (by decide) rfl ?_
            refine rg_aload_n F 1 0 rfl dX10_discards_73 rfl ?_
            refine rg_iload_n F 0 3 rfl dX10_discards_74 rfl ?_
            refine rg_if_ne F 82 dX10_discards_75 (by decide) (by omega) (fun c75_15 => ?_) (fun c75_15 => ?_)
            · exfalso; omega
            ·
              refine rg_iconst F dX10_discards_78 ?_
              refine rg_goto F 96 dX10_discards_79 (by decide) ?_
              refine rg_put F 0 0 tM0 cX10 k_lays_X10 tyX10_ok nmX10 (by decide) k_fl_X10_89 rfl rfl rfl rfl (f9 := (σ 0)) rfl (rg_wr σ 0 (rg_up (σ 0) 0 1)) rfl dX10_discards_96 ?_
              refine rg_aload_n F 1 0 rfl dX10_discards_99 rfl ?_
              refine rg_get F 0 0 tM0 cX10 k_lays_X10 (by decide) k_fl_X10_89 rfl (v := .int (rg_I 1)) rfl dX10_discards_100 ?_
              refine rg_if_ne F 136 dX10_discards_103 (by decide) (by omega) (fun c103_16 => ?_) (fun c103_16 => ?_)
              ·
                exact hR _ _ _ dX10_discards_136 (rg_wr_congr (f := (rg_up (σ 0) 0 1)) (g := (rg_up (σ 0) 0 (rg_cD sr sm ns m n))) 0 rfl (by (repeat rw [rg_up_up]) <;> first | rfl | exact congrArg (rg_up _ 0) (by unfold rg_cD; (repeat' split) <;> omega)))
              · first | exact absurd c103_16 c27_9 | exact absurd c27_9 c103_16 | exact absurd ((rg_b_ne0 _).mp c103_16) c27_9 | exact absurd c27_9 ((rg_b_eq0 _).mp c103_16)
          ·
            refine rg_iload_n F 3 2 rfl dX10_discards_52 rfl ?_
            refine rg_aload_n F 1 0 rfl dX10_discards_53 rfl ?_
            refine rg_get F 0 19 tM0 cX10 k_lays_X10 (by decide) k_fl_X10_50 rfl (v := .ref (κ.2.2.2 14)) rfl dX10_discards_54 ?_
            refine rg_aload_n F 1 0 rfl dX10_discards_57 rfl ?_
            refine rg_get F 0 17 tM0 cX10 k_lays_X10 (by decide) k_fl_X10_140 rfl (v := .int (rg_I ((ns : Nat) : Int))) (congrArg (fun x => Value.int (rg_I x)) h0_17) dX10_discards_58 ?_
            refine rg_iconst F dX10_discards_61 ?_
            refine rg_isub F dX10_discards_62 ?_
            refine rg_iald F 14 (ns - 1) (v := (sm (ns - 1))) tM14 (by omega) (by omega) (by decide) (congrFun h14 (ns - 1)) dX10_discards_63 ?_
            refine rg_icmp_le F 71 dX10_discards_64 (by decide) (by omega) (by have b0 := hsm ((ns - 1)); omega) (fun c64_17 => ?_) (fun c64_17 => ?_)
            ·
              refine rg_iconst F dX10_discards_71 ?_
              refine rg_istore_n F [(3, .int (rg_I 0)), (0, .ref (κ.2.2.2 0)), (1, .int (rg_I m)), (2, .int (rg_I n))] dX10_discards_72 rfl (by decide) rfl ?_
              refine rg_aload_n F 1 0 rfl dX10_discards_73 rfl ?_
              refine rg_iload_n F 0 3 rfl dX10_discards_74 rfl ?_
              refine rg_if_ne F 82 dX10_discards_75 (by decide) (by omega) (fun c75_18 => ?_) (fun c75_18 => ?_)
              · exfalso; omega
              ·
                refine rg_iconst F dX10_discards_78 ?_
                refine rg_goto F 96 dX10_discards_79 (by decide) ?_
                refine rg_put F 0 0 tM0 cX10 k_lays_X10 tyX10_ok nmX10 (by decide) k_fl_X10_89 rfl rfl rfl rfl (f9 := (σ 0)) rfl (rg_wr σ 0 (rg_up (σ 0) 0 1)) rfl dX10_discards_96 ?_
                refine rg_aload_n F 1 0 rfl dX10_discards_99 rfl ?_
                refine rg_get F 0 0 tM0 cX10 k_lays_X10 (by decide) k_fl_X10_89 rfl (v := .int (rg_I 1)) rfl dX10_discards_100 ?_
                refine rg_if_ne F 136 dX10_discards_103 (by decide) (by omega) (fun c103_19 => ?_) (fun c103_19 => ?_)
                ·
                  exact hR _ _ _ dX10_discards_136 (rg_wr_congr (f := (rg_up (σ 0) 0 1)) (g := (rg_up (σ 0) 0 (rg_cD sr sm ns m n))) 0 rfl (by (repeat rw [rg_up_up]) <;> first | rfl | exact congrArg (rg_up _ 0) (by unfold rg_cD; (repeat' split) <;> omega)))
                · first | exact absurd c103_19 c27_9 | exact absurd c27_9 c103_19 | exact absurd ((rg_b_ne0 _).mp c103_19) c27_9 | exact absurd c27_9 ((rg_b_eq0 _).mp c103_19)
            ·
              refine rg_iconst F dX10_discards_67 ?_
              refine rg_goto F 72 dX10_discards_68 (by decide) ?_
              refine rg_istore_n F [(3, .int (rg_I 1)), (0, .ref (κ.2.2.2 0)), (1, .int (rg_I m)), (2, .int (rg_I n))] dX10_discards_72 rfl (by decide) rfl ?_
              refine rg_aload_n F 1 0 rfl dX10_discards_73 rfl ?_
              refine rg_iload_n F 0 3 rfl dX10_discards_74 rfl ?_
              refine rg_if_ne F 82 dX10_discards_75 (by decide) (by omega) (fun c75_20 => ?_) (fun c75_20 => ?_)
              ·
                refine rg_aload_n F 1 0 rfl dX10_discards_82 rfl ?_
                refine rg_get F 0 17 tM0 cX10 k_lays_X10 (by decide) k_fl_X10_140 rfl (v := .int (rg_I ((ns : Nat) : Int))) (congrArg (fun x => Value.int (rg_I x)) h0_17) dX10_discards_83 ?_
                refine rg_bipush F dX10_discards_86 (by decide +kernel) ?_
                refine rg_icmp_ne F 95 dX10_discards_88 (by decide) (by omega) (by omega) (fun c88_21 => ?_) (fun c88_21 => ?_)
                ·
                  refine rg_iconst F dX10_discards_95 ?_
                  refine rg_put F 0 0 tM0 cX10 k_lays_X10 tyX10_ok nmX10 (by decide) k_fl_X10_89 rfl rfl rfl rfl (f9 := (σ 0)) rfl (rg_wr σ 0 (rg_up (σ 0) 0 0)) rfl dX10_discards_96 ?_
                  refine rg_aload_n F 1 0 rfl dX10_discards_99 rfl ?_
                  refine rg_get F 0 0 tM0 cX10 k_lays_X10 (by decide) k_fl_X10_89 rfl (v := .int (rg_I 0)) rfl dX10_discards_100 ?_
                  exfalso; unfold rg_cD at hc; (repeat' split at hc) <;> omega
                ·
                  refine rg_iconst F dX10_discards_91 ?_
                  refine rg_goto F 96 dX10_discards_92 (by decide) ?_
                  refine rg_put F 0 0 tM0 cX10 k_lays_X10 tyX10_ok nmX10 (by decide) k_fl_X10_89 rfl rfl rfl rfl (f9 := (σ 0)) rfl (rg_wr σ 0 (rg_up (σ 0) 0 2)) rfl dX10_discards_96 ?_
                  refine rg_aload_n F 1 0 rfl dX10_discards_99 rfl ?_
                  refine rg_get F 0 0 tM0 cX10 k_lays_X10 (by decide) k_fl_X10_89 rfl (v := .int (rg_I 2)) rfl dX10_discards_100 ?_
                  refine rg_if_ne F 136 dX10_discards_103 (by decide) (by omega) (fun c103_22 => ?_) (fun c103_22 => ?_)
                  ·
                    exact hR _ _ _ dX10_discards_136 (rg_wr_congr (f := (rg_up (σ 0) 0 2)) (g := (rg_up (σ 0) 0 (rg_cD sr sm ns m n))) 0 rfl (by (repeat rw [rg_up_up]) <;> first | rfl | exact congrArg (rg_up _ 0) (by unfold rg_cD; (repeat' split) <;> omega)))
                  · exfalso; omega
              · first | exact absurd c75_20 c27_9 | exact absurd c27_9 c75_20 | exact absurd ((rg_b_ne0 _).mp c75_20) c27_9 | exact absurd c27_9 ((rg_b_eq0 _).mp c75_20)
set_option maxHeartbeats 400000 in
set_option maxRecDepth 100000 in
/-- lot, done -/
theorem k_X10_lot_o (κ : rg_K) (σ : rg_S) (b x : Int) (lo : Nat → Int) (nb : Nat) (h1 : σ 1 = lo) (h0_1 : σ 0 1 = ((nb : Nat) : Int)) (hnb : nb ≤ 40) (hb : rg_Rg b) (hx : rg_Rg x) (hc : (rg_cL ((nb : Nat) : Int) b x) = 0) : rg_CI κ rg_tM yX10_lot cX10_lot 4 FieldType.int 1 22 [.ref (κ.2.2.2 0), .int (rg_I b), .int (rg_I x)] σ (fun r9 σ9 => r9 = (lo (Int.toNat b)) ∧ σ9 = (rg_wr (rg_wr σ 0 (rg_up (σ 0) 0 0)) 1 (rg_up lo (Int.toNat b) x))) := by
  refine rg_entI [(0, .ref (κ.2.2.2 0)), (1, .int (rg_I b)), (2, .int (rg_I x))] rfl (by decide +kernel) (Nat.le_of_ble_eq_true rfl) (by first | exact Or.inl rfl | exact Or.inr rfl) (fun Γ F hR => ?_)
  refine rg_aload_n F 0 0 rfl dX10_lot_0 rfl ?_
  refine rg_iload_n F 1 1 rfl dX10_lot_1 rfl ?_
  refine rg_iconst F dX10_lot_2 ?_
  refine rg_aload_n F 0 0 rfl dX10_lot_3 rfl ?_
  refine rg_get F 0 1 tM0 cX10 k_lays_X10 (by decide) k_fl_X10_102 rfl (v := .int (rg_I ((nb : Nat) : Int))) (congrArg (fun x => Value.int (rg_I x)) h0_1) dX10_lot_4 ?_
  refine rg_iconst F dX10_lot_7 ?_
  refine rg_isub F dX10_lot_8 ?_
  refine rg_callSI F [.int (rg_I b), .int (rg_I 0), .int (rg_I (((nb : Nat) : Int) - 1))] [.ref (κ.2.2.2 0)] (k_X10_in κ rg_tM σ (b) (0) ((((nb : Nat) : Int) - 1)) (by first | assumption | omega) (by first | assumption | omega) (by first | assumption | omega)) v_X10_in k_st_yX10_in k_ml_X10_172 ⟨Nat.le_of_ble_eq_true rfl, Nat.le_of_ble_eq_true rfl⟩ rfl (Nat.le_of_ble_eq_true rfl) dX10_lot_9 (rg_ex2 ?_)
  show rg_G κ Γ rg_tM 4 0 0 (9 + 3) [(0, .ref (κ.2.2.2 0)), (1, .int (rg_I b)), (2, .int (rg_I x))] [.int (rg_I (rg_b (0 ≤ b ∧ b ≤ (((nb : Nat) : Int) - 1)))), .ref (κ.2.2.2 0)] σ
  refine rg_if_ne F 19 dX10_lot_12 (by decide) (by have b0 := rg_b_Rg (0 ≤ b ∧ b ≤ (((nb : Nat) : Int) - 1)); omega) (fun c12_1 => ?_) (fun c12_1 => ?_)
  ·
    have c12_1 := (rg_b_ne0 _).mp c12_1
    refine rg_iload_n F 2 2 rfl dX10_lot_19 rfl ?_
    refine rg_iconst F dX10_lot_20 ?_
    refine rg_sipush F dX10_lot_21 (by decide +kernel) ?_
    refine rg_callSI F [.int (rg_I x), .int (rg_I 0), .int (rg_I 999)] [.ref (κ.2.2.2 0)] (k_X10_in κ rg_tM σ (x) (0) (999) (by first | assumption | omega) (by first | assumption | omega) (by first | assumption | omega)) v_X10_in k_st_yX10_in k_ml_X10_172 ⟨Nat.le_of_ble_eq_true rfl, Nat.le_of_ble_eq_true rfl⟩ rfl (Nat.le_of_ble_eq_true rfl) dX10_lot_24 (rg_ex2 ?_)
    show rg_G κ Γ rg_tM 4 0 0 (24 + 3) [(0, .ref (κ.2.2.2 0)), (1, .int (rg_I b)), (2, .int (rg_I x))] [.int (rg_I (rg_b (0 ≤ x ∧ x ≤ 999))), .ref (κ.2.2.2 0)] σ
    refine rg_if_eq F 34 dX10_lot_27 (by decide) (by have b0 := rg_b_Rg (0 ≤ x ∧ x ≤ 999); omega) (fun c27_2 => ?_) (fun c27_2 => ?_)
    ·
      have c27_2 := (rg_b_eq0 _).mp c27_2
      refine rg_iconst F dX10_lot_34 ?_
      refine rg_put F 0 0 tM0 cX10 k_lays_X10 tyX10_ok nmX10 (by decide) k_fl_X10_89 rfl rfl rfl rfl (f9 := (σ 0)) rfl (rg_wr σ 0 (rg_up (σ 0) 0 2)) rfl dX10_lot_35 ?_
      refine rg_aload_n F 0 0 rfl dX10_lot_38 rfl ?_
      refine rg_get F 0 0 tM0 cX10 k_lays_X10 (by decide) k_fl_X10_89 rfl (v := .int (rg_I 2)) rfl dX10_lot_39 ?_
      exfalso; unfold rg_cL at hc; (repeat' split at hc) <;> omega
    ·
      have c27_2 := (rg_b_ne0 _).mp c27_2
      refine rg_iconst F dX10_lot_30 ?_
      refine rg_goto F 35 dX10_lot_31 (by decide) ?_
      refine rg_put F 0 0 tM0 cX10 k_lays_X10 tyX10_ok nmX10 (by decide) k_fl_X10_89 rfl rfl rfl rfl (f9 := (σ 0)) rfl (rg_wr σ 0 (rg_up (σ 0) 0 0)) rfl dX10_lot_35 ?_
      refine rg_aload_n F 0 0 rfl dX10_lot_38 rfl ?_
      refine rg_get F 0 0 tM0 cX10 k_lays_X10 (by decide) k_fl_X10_89 rfl (v := .int (rg_I 0)) rfl dX10_lot_39 ?_
      refine rg_if_le F 47 dX10_lot_42 (by decide) (by omega) (fun c42_3 => ?_) (fun c42_3 => ?_)
      ·
        refine rg_aload_n F 0 0 rfl dX10_lot_47 rfl ?_
        refine rg_get F 0 2 tM0 cX10 k_lays_X10 (by decide) k_fl_X10_7 rfl (v := .ref (κ.2.2.2 1)) rfl dX10_lot_48 ?_
        refine rg_iload_n F 1 1 rfl dX10_lot_51 rfl ?_
        refine rg_stk (st' := [.int (rg_I ((Int.toNat b : Nat) : Int)), .ref (κ.2.2.2 1)]) (by rw [Int.toNat_of_nonneg (a := b) (by omega)]) ?_
        refine rg_iald F 1 (Int.toNat b) (v := (lo (Int.toNat b))) tM1 (by omega) (by omega) (by decide) (congrFun h1 (Int.toNat b)) dX10_lot_52 ?_
        refine rg_istore_n F [(3, .int (rg_I (lo (Int.toNat b)))), (0, .ref (κ.2.2.2 0)), (1, .int (rg_I b)), (2, .int (rg_I x))] dX10_lot_53 rfl (by decide) rfl ?_
        refine rg_aload_n F 1 0 rfl dX10_lot_54 rfl ?_
        refine rg_get F 0 2 tM0 cX10 k_lays_X10 (by decide) k_fl_X10_7 rfl (v := .ref (κ.2.2.2 1)) rfl dX10_lot_55 ?_
        refine rg_iload_n F 2 1 rfl dX10_lot_58 rfl ?_
        refine rg_stk (st' := [.int (rg_I ((Int.toNat b : Nat) : Int)), .ref (κ.2.2.2 1)]) (by rw [Int.toNat_of_nonneg (a := b) (by omega)]) ?_
        refine rg_iload_n F 3 2 rfl dX10_lot_59 rfl ?_
        refine rg_iast F 1 (Int.toNat b) tM1 (by omega) (by omega) (by decide) (f9 := lo) h1 (rg_wr (rg_wr σ 0 (rg_up (σ 0) 0 0)) 1 (rg_up lo (Int.toNat b) x)) rfl dX10_lot_60 ?_
        refine rg_iload_n F 0 3 rfl dX10_lot_61 rfl ?_
        exact hR _ _ _ _ dX10_lot_62 (fun h => nomatch h) ⟨rfl, rfl⟩
      · exfalso; omega
  ·
    have c12_1 := (rg_b_eq0 _).mp c12_1
    refine rg_iconst F dX10_lot_15 ?_
    refine rg_goto F 35 dX10_lot_16 (by decide) ?_
    refine rg_put F 0 0 tM0 cX10 k_lays_X10 tyX10_ok nmX10 (by decide) k_fl_X10_89 rfl rfl rfl rfl (f9 := (σ 0)) rfl (rg_wr σ 0 (rg_up (σ 0) 0 1)) rfl dX10_lot_35 ?_
    refine rg_aload_n F 0 0 rfl dX10_lot_38 rfl ?_
    refine rg_get F 0 0 tM0 cX10 k_lays_X10 (by decide) k_fl_X10_89 rfl (v := .int (rg_I 1)) rfl dX10_lot_39 ?_
    exfalso; unfold rg_cL at hc; (repeat' split at hc) <;> omega
set_option maxHeartbeats 400000 in
set_option maxRecDepth 100000 in
/-- lot, refused -/
theorem k_X10_lot_n (κ : rg_K) (σ : rg_S) (b x : Int) (lo : Nat → Int) (nb : Nat) (h1 : σ 1 = lo) (h0_1 : σ 0 1 = ((nb : Nat) : Int)) (hnb : nb ≤ 40) (hb : rg_Rg b) (hx : rg_Rg x) (hc : ¬ (rg_cL ((nb : Nat) : Int) b x) = 0) : rg_CI κ rg_tM yX10_lot cX10_lot 4 FieldType.int 1 22 [.ref (κ.2.2.2 0), .int (rg_I b), .int (rg_I x)] σ (fun r9 σ9 => r9 = 0 ∧ σ9 = (rg_wr σ 0 (rg_up (σ 0) 0 (rg_cL ((nb : Nat) : Int) b x)))) := by
  refine rg_entI [(0, .ref (κ.2.2.2 0)), (1, .int (rg_I b)), (2, .int (rg_I x))] rfl (by decide +kernel) (Nat.le_of_ble_eq_true rfl) (by first | exact Or.inl rfl | exact Or.inr rfl) (fun Γ F hR => ?_)
  refine rg_aload_n F 0 0 rfl dX10_lot_0 rfl ?_
  refine rg_iload_n F 1 1 rfl dX10_lot_1 rfl ?_
  refine rg_iconst F dX10_lot_2 ?_
  refine rg_aload_n F 0 0 rfl dX10_lot_3 rfl ?_
  refine rg_get F 0 1 tM0 cX10 k_lays_X10 (by decide) k_fl_X10_102 rfl (v := .int (rg_I ((nb : Nat) : Int))) (congrArg (fun x => Value.int (rg_I x)) h0_1) dX10_lot_4 ?_
  refine rg_iconst F dX10_lot_7 ?_
  refine rg_isub F dX10_lot_8 ?_
  refine rg_callSI F [.int (rg_I b), .int (rg_I 0), .int (rg_I (((nb : Nat) : Int) - 1))] [.ref (κ.2.2.2 0)] (k_X10_in κ rg_tM σ (b) (0) ((((nb : Nat) : Int) - 1)) (by first | assumption | omega) (by first | assumption | omega) (by first | assumption | omega)) v_X10_in k_st_yX10_in k_ml_X10_172 ⟨Nat.le_of_ble_eq_true rfl, Nat.le_of_ble_eq_true rfl⟩ rfl (Nat.le_of_ble_eq_true rfl) dX10_lot_9 (rg_ex2 ?_)
  show rg_G κ Γ rg_tM 4 0 0 (9 + 3) [(0, .ref (κ.2.2.2 0)), (1, .int (rg_I b)), (2, .int (rg_I x))] [.int (rg_I (rg_b (0 ≤ b ∧ b ≤ (((nb : Nat) : Int) - 1)))), .ref (κ.2.2.2 0)] σ
  refine rg_if_ne F 19 dX10_lot_12 (by decide) (by have b0 := rg_b_Rg (0 ≤ b ∧ b ≤ (((nb : Nat) : Int) - 1)); omega) (fun c12_1 => ?_) (fun c12_1 => ?_)
  ·
    have c12_1 := (rg_b_ne0 _).mp c12_1
    refine rg_iload_n F 2 2 rfl dX10_lot_19 rfl ?_
    refine rg_iconst F dX10_lot_20 ?_
    refine rg_sipush F dX10_lot_21 (by decide +kernel) ?_
    refine rg_callSI F [.int (rg_I x), .int (rg_I 0), .int (rg_I 999)] [.ref (κ.2.2.2 0)] (k_X10_in κ rg_tM σ (x) (0) (999) (by first | assumption | omega) (by first | assumption | omega) (by first | assumption | omega)) v_X10_in k_st_yX10_in k_ml_X10_172 ⟨Nat.le_of_ble_eq_true rfl, Nat.le_of_ble_eq_true rfl⟩ rfl (Nat.le_of_ble_eq_true rfl) dX10_lot_24 (rg_ex2 ?_)
    show rg_G κ Γ rg_tM 4 0 0 (24 + 3) [(0, .ref (κ.2.2.2 0)), (1, .int (rg_I b)), (2, .int (rg_I x))] [.int (rg_I (rg_b (0 ≤ x ∧ x ≤ 999))), .ref (κ.2.2.2 0)] σ
    refine rg_if_eq F 34 dX10_lot_27 (by decide) (by have b0 := rg_b_Rg (0 ≤ x ∧ x ≤ 999); omega) (fun c27_2 => ?_) (fun c27_2 => ?_)
    ·
      have c27_2 := (rg_b_eq0 _).mp c27_2
      refine rg_iconst F dX10_lot_34 ?_
      refine rg_put F 0 0 tM0 cX10 k_lays_X10 tyX10_ok nmX10 (by decide) k_fl_X10_89 rfl rfl rfl rfl (f9 := (σ 0)) rfl (rg_wr σ 0 (rg_up (σ 0) 0 2)) rfl dX10_lot_35 ?_
      refine rg_aload_n F 0 0 rfl dX10_lot_38 rfl ?_
      refine rg_get F 0 0 tM0 cX10 k_lays_X10 (by decide) k_fl_X10_89 rfl (v := .int (rg_I 2)) rfl dX10_lot_39 ?_
      refine rg_if_le F 47 dX10_lot_42 (by decide) (by omega) (fun c42_3 => ?_) (fun c42_3 => ?_)
      · exfalso; omega
      ·
        refine rg_iconst F dX10_lot_45 ?_
        exact hR _ _ _ _ dX10_lot_46 (fun h => nomatch h) ⟨rfl, (rg_wr_congr (f := (rg_up (σ 0) 0 2)) (g := (rg_up (σ 0) 0 (rg_cL ((nb : Nat) : Int) b x))) 0 rfl (by (repeat rw [rg_up_up]) <;> first | rfl | exact congrArg (rg_up _ 0) (by unfold rg_cL; (repeat' split) <;> omega)))⟩
    ·
      have c27_2 := (rg_b_ne0 _).mp c27_2
      refine rg_iconst F dX10_lot_30 ?_
      refine rg_goto F 35 dX10_lot_31 (by decide) ?_
      refine rg_put F 0 0 tM0 cX10 k_lays_X10 tyX10_ok nmX10 (by decide) k_fl_X10_89 rfl rfl rfl rfl (f9 := (σ 0)) rfl (rg_wr σ 0 (rg_up (σ 0) 0 0)) rfl dX10_lot_35 ?_
      refine rg_aload_n F 0 0 rfl dX10_lot_38 rfl ?_
      refine rg_get F 0 0 tM0 cX10 k_lays_X10 (by decide) k_fl_X10_89 rfl (v := .int (rg_I 0)) rfl dX10_lot_39 ?_
      exfalso; unfold rg_cL at hc; (repeat' split at hc) <;> omega
  ·
    have c12_1 := (rg_b_eq0 _).mp c12_1
    refine rg_iconst F dX10_lot_15 ?_
    refine rg_goto F 35 dX10_lot_16 (by decide) ?_
    refine rg_put F 0 0 tM0 cX10 k_lays_X10 tyX10_ok nmX10 (by decide) k_fl_X10_89 rfl rfl rfl rfl (f9 := (σ 0)) rfl (rg_wr σ 0 (rg_up (σ 0) 0 1)) rfl dX10_lot_35 ?_
    refine rg_aload_n F 0 0 rfl dX10_lot_38 rfl ?_
    refine rg_get F 0 0 tM0 cX10 k_lays_X10 (by decide) k_fl_X10_89 rfl (v := .int (rg_I 1)) rfl dX10_lot_39 ?_
    refine rg_if_le F 47 dX10_lot_42 (by decide) (by omega) (fun c42_4 => ?_) (fun c42_4 => ?_)
    · exfalso; omega
    ·
      refine rg_iconst F dX10_lot_45 ?_
      exact hR _ _ _ _ dX10_lot_46 (fun h => nomatch h) ⟨rfl, (rg_wr_congr (f := (rg_up (σ 0) 0 1)) (g := (rg_up (σ 0) 0 (rg_cL ((nb : Nat) : Int) b x))) 0 rfl (by (repeat rw [rg_up_up]) <;> first | rfl | exact congrArg (rg_up _ 0) (by unfold rg_cL; (repeat' split) <;> omega)))⟩
