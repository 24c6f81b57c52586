/-! Contracts of the sheet (laid by program). -/
set_option maxHeartbeats 400000 in
set_option maxRecDepth 100000 in
/-- restart -/
theorem k_X7_restart (κ : rg_K) (σ : rg_S) (o9 : Nat → Int) (h9 : σ 9 = o9) : rg_CV κ rg_tC yX7_restart cX7_restart 1 0 0 [.ref (κ.2.2.2 9)] σ (fun σ9 => σ9 = (rg_wr σ 9 (rg_up o9 1 0))) := by
  refine rg_entV [(0, .ref (κ.2.2.2 9))] rfl (by decide +kernel) (Nat.le_of_ble_eq_true rfl) (fun Γ F hR => ?_)
  refine rg_aload_n F 0 0 rfl dX7_restart_0 rfl ?_
  refine rg_iconst F dX7_restart_1 ?_
  refine rg_put F 9 1 tC9 cX7 k_lays_X7 tyX7_ok nmX7 (by decide) k_fl_X7_15 rfl rfl rfl rfl (f9 := o9) h9 (rg_wr σ 9 (rg_up o9 1 0)) rfl dX7_restart_2 ?_
  exact hR _ _ _ dX7_restart_5 rfl
set_option maxHeartbeats 400000 in
set_option maxRecDepth 100000 in
/-- putByte -/
theorem k_X7_putByte (κ : rg_K) (σ : rg_S) (v : Int) (o9 : Nat → Int) (B : Nat → Int) (L : Nat) (h9 : σ 9 = o9) (h43 : σ 43 = B) (h9_1 : σ 9 1 = ((L : Nat) : Int)) (hL : L < 8040) (hv : -128 ≤ v ∧ v < 128) : rg_CV κ rg_tC yX7_putByte cX7_putByte 2 0 0 [.ref (κ.2.2.2 9), .int (rg_I v)] σ (fun σ9 => σ9 = (rg_wr (rg_wr σ 9 (rg_up o9 1 ((L + ([v]).length : Nat) : Int))) 43 (rg_wx B L ([v])))) := by
  refine rg_entV [(0, .ref (κ.2.2.2 9)), (1, .int (rg_I v))] rfl (by decide +kernel) (Nat.le_of_ble_eq_true rfl) (fun Γ F hR => ?_)
  refine rg_aload_n F 0 0 rfl dX7_putByte_0 rfl ?_
  refine rg_get F 9 1 tC9 cX7 k_lays_X7 (by decide) k_fl_X7_15 rfl (v := .int (rg_I ((L : Nat) : Int))) (congrArg (fun x => Value.int (rg_I x)) h9_1) dX7_putByte_1 ?_
  refine rg_aload_n F 0 0 rfl dX7_putByte_4 rfl ?_
  refine rg_get F 9 0 tC9 cX7 k_lays_X7 (by decide) k_fl_X7_11 rfl (v := .ref (κ.2.2.2 43)) rfl dX7_putByte_5 ?_
  refine rg_alen F 43 tC43 (fun cy => rfl) dX7_putByte_8 ?_
  refine rg_icmp_ge F 33 dX7_putByte_9 (by decide) (by omega) (by omega) (fun c9_1 => ?_) (fun c9_1 => ?_)
  · exfalso; omega
  ·
    refine rg_aload_n F 0 0 rfl dX7_putByte_12 rfl ?_
    refine rg_get F 9 0 tC9 cX7 k_lays_X7 (by decide) k_fl_X7_11 rfl (v := .ref (κ.2.2.2 43)) rfl dX7_putByte_13 ?_
    refine rg_aload_n F 0 0 rfl dX7_putByte_16 rfl ?_
    refine rg_get F 9 1 tC9 cX7 k_lays_X7 (by decide) k_fl_X7_15 rfl (v := .int (rg_I ((L : Nat) : Int))) (congrArg (fun x => Value.int (rg_I x)) h9_1) dX7_putByte_17 ?_
    refine rg_iload_n F 1 1 rfl dX7_putByte_20 rfl ?_
    refine rg_i2b F dX7_putByte_21 (by omega) ?_
    refine rg_bast F 43 L tC43 (by omega) (by omega) (by decide) (by omega) (f9 := B) h43 (rg_wr σ 43 (rg_up B L v)) rfl dX7_putByte_22 ?_
    refine rg_aload_n F 0 0 rfl dX7_putByte_23 rfl ?_
    refine rg_dup F dX7_putByte_24 rfl ?_
    refine rg_get F 9 1 tC9 cX7 k_lays_X7 (by decide) k_fl_X7_15 rfl (v := .int (rg_I ((L : Nat) : Int))) (congrArg (fun x => Value.int (rg_I x)) h9_1) dX7_putByte_25 ?_
    refine rg_iconst F dX7_putByte_28 ?_
    refine rg_iadd F dX7_putByte_29 ?_
    refine rg_put F 9 1 tC9 cX7 k_lays_X7 tyX7_ok nmX7 (by decide) k_fl_X7_15 rfl rfl rfl rfl (f9 := o9) h9 (rg_wr (rg_wr σ 9 (rg_up o9 1 (((L : Nat) : Int) + 1))) 43 (rg_up B L v)) ((rg_wr_comm _ _ _ (by decide)).trans (rg_wr_congr 43 rfl rfl)) dX7_putByte_30 ?_
    exact hR _ _ _ dX7_putByte_33 (rg_wr_congr (f := (rg_up B L v)) (g := (rg_wx B L ([v]))) 43 (rg_wr_congr (f := (rg_up o9 1 (((L : Nat) : Int) + 1))) (g := (rg_up o9 1 ((L + ([v]).length : Nat) : Int))) 9 rfl rfl) (rg_wx_1 _ _ _))
set_option maxHeartbeats 400000 in
set_option maxRecDepth 100000 in
/-- putNumber -/
theorem k_X7_putNumber (κ : rg_K) (σ : rg_S) (v : Int) (o9 : Nat → Int) (B : Nat → Int) (L : Nat) (h9 : σ 9 = o9) (h43 : σ 43 = B) (h9_1 : σ 9 1 = ((L : Nat) : Int)) (hL : L + (rg_nx v).length ≤ 8040) (hv : 0 ≤ v ∧ v < 100000) : rg_CV κ rg_tC yX7_putNumber cX7_putNumber 3 1 21 [.ref (κ.2.2.2 9), .int (rg_I v)] σ (fun σ9 => σ9 = (rg_wr (rg_wr σ 9 (rg_up o9 1 ((L + (rg_nx v).length : Nat) : Int))) 43 (rg_wx B L (rg_nx v)))) := by
  refine rg_entV [(0, .ref (κ.2.2.2 9)), (1, .int (rg_I v))] rfl (by decide +kernel) (Nat.le_of_ble_eq_true rfl) (fun Γ F hR => ?_)
  refine rg_sipush F dX7_putNumber_0 (by decide +kernel) ?_
  refine rg_istore_n F [(2, .int (rg_I 10000)), (0, .ref (κ.2.2.2 9)), (1, .int (rg_I v))] dX7_putNumber_3 rfl (by decide) rfl ?_
  have L4 : ∀ (n4 : Nat) (t : Nat), n4 = 5 - t → (t ≤ 5) → rg_G κ Γ rg_tC 3 0 0 4 [(0, .ref (κ.2.2.2 9)), (1, .int (rg_I v)), (2, .int (rg_I (rg_dv t)))] [] (rg_wr (rg_wr σ 9 (rg_up o9 1 ((L + (rg_nt v t).length : Nat) : Int))) 43 (rg_wx B L (rg_nt v t))) := by
    intro n4
    induction n4 using Nat.strongRecOn with
    | _ n4 ih4 =>
      intro t hn4 ht
      refine rg_iload_n F 2 2 rfl dX7_putNumber_4 rfl ?_
      refine rg_if_le F 39 dX7_putNumber_5 (by decide) (by have b0 := rg_dv_bd t; omega) (fun c5_1 => ?_) (fun c5_1 => ?_)
      ·
        exact hR _ _ _ dX7_putNumber_39 (rg_wr_congr (f := (rg_wx B L (rg_nt v t))) (g := (rg_wx B L (rg_nx v))) 43 (rg_wr_congr (f := (rg_up o9 1 ((L + (rg_nt v t).length : Nat) : Int))) (g := (rg_up o9 1 ((L + (rg_nx v).length : Nat) : Int))) 9 rfl (by rw [rg_dv_e (t := t) (by assumption) ht]; rfl)) (by rw [rg_dv_e (t := t) (by assumption) ht]; rfl))
      ·
        have hds := rg_dv_s (t := t) (by omega)
        refine rg_iload_n F 1 1 rfl dX7_putNumber_8 rfl ?_
        refine rg_iload_n F 2 2 rfl dX7_putNumber_9 rfl ?_
        refine rg_icmp_ge F 18 dX7_putNumber_10 (by decide) (by omega) (by have b0 := rg_dv_bd t; omega) (fun c10_2 => ?_) (fun c10_2 => ?_)
        ·
          have hmn := rg_nt_mono v (t := t + 1) (u := 5) (by omega)
          rw [rg_nt_y (v := v) (t := t) (by first | exact Or.inl (by assumption) | exact Or.inr (by assumption)), List.length_append, List.length_singleton] at hmn
          have hL2 : L + (rg_nt v 5).length ≤ 8040 := hL
          refine rg_aload_n F 0 0 rfl dX7_putNumber_18 rfl ?_
          refine rg_bipush F dX7_putNumber_19 (by decide +kernel) ?_
          refine rg_iload_n F 1 1 rfl dX7_putNumber_21 rfl ?_
          refine rg_iload_n F 2 2 rfl dX7_putNumber_22 rfl ?_
          refine rg_idiv F dX7_putNumber_23 (by omega) (by have b0 := rg_dv_bd t; omega) ?_
          refine rg_bipush F dX7_putNumber_24 (by decide +kernel) ?_
          refine rg_irem F dX7_putNumber_26 ⟨Int.ediv_nonneg (by omega) (by omega), Int.lt_of_le_of_lt (Int.ediv_le_self _ (by omega)) (by omega)⟩ (by omega) ?_
          refine rg_iadd F dX7_putNumber_27 ?_
          refine rg_callVV F [.int (rg_I (48 + ((v / (rg_dv t)) % 10)))] [] 9 (k_X7_putByte κ (rg_wr (rg_wr σ 9 (rg_up o9 1 ((L + (rg_nt v t).length : Nat) : Int))) 43 (rg_wx B L (rg_nt v t))) ((48 + ((v / (rg_dv t)) % 10))) (rg_up o9 1 ((L + (rg_nt v t).length : Nat) : Int)) (rg_wx B L (rg_nt v t)) ((L + (rg_nt v t).length)) rfl rfl rfl (by omega) (by have b1 := Int.emod_nonneg (v / rg_dv t) (show (10 : Int) ≠ 0 by omega); have b2 := Int.emod_lt_of_pos (v / rg_dv t) (show (0 : Int) < 10 by omega); omega)) tC9 cX7 v_X7_putByte i_X7_putByte k_ml_X7_28 ⟨Nat.le_of_ble_eq_true rfl, Nat.le_of_ble_eq_true rfl⟩ rfl (Nat.le_of_ble_eq_true rfl) dX7_putNumber_28 (rg_ex1 ?_)
          refine rg_eq (σ' := (rg_wr (rg_wr σ 9 (rg_up (rg_up o9 1 ((L + (rg_nt v t).length : Nat) : Int)) 1 (((L + (rg_nt v t).length) + ([(48 + ((v / (rg_dv t)) % 10))]).length : Nat) : Int))) 43 (rg_wx (rg_wx B L (rg_nt v t)) (L + (rg_nt v t).length) ([(48 + ((v / (rg_dv t)) % 10))])))) ((rg_wr_congr 43 ((rg_wr_comm _ _ _ (by decide)).trans (rg_wr_congr 43 (rg_wr_wr _ 9 _ _) rfl)) rfl).trans (rg_wr_wr _ 43 _ _)) ?_
          refine rg_iload_n F 2 2 rfl dX7_putNumber_31 rfl ?_
          refine rg_bipush F dX7_putNumber_32 (by decide +kernel) ?_
          refine rg_idiv F dX7_putNumber_34 (by have b0 := rg_dv_bd t; omega) (by omega) ?_
          refine rg_istore_n F [(2, .int (rg_I ((rg_dv t) / 10))), (0, .ref (κ.2.2.2 9)), (1, .int (rg_I v))] dX7_putNumber_35 rfl (by decide) rfl ?_
          refine rg_goto F 4 dX7_putNumber_36 (by decide) ?_
          refine rg_lve (lv' := [(2, .int (rg_I (rg_dv (t + 1)))), (0, .ref (κ.2.2.2 9)), (1, .int (rg_I v))]) (congrArg (fun x9 : Int => ([(2, .int (rg_I x9)), (0, .ref (κ.2.2.2 9)), (1, .int (rg_I v))] : List (Nat × Value))) hds.2) ?_
          refine rg_eq (σ' := (rg_wr (rg_wr σ 9 (rg_up o9 1 ((L + (rg_nt v (t + 1)).length : Nat) : Int))) 43 (rg_wx B L (rg_nt v (t + 1))))) (rg_wr_congr (f := (rg_wx (rg_wx B L (rg_nt v t)) (L + (rg_nt v t).length) ([(48 + ((v / (rg_dv t)) % 10))]))) (g := (rg_wx B L (rg_nt v (t + 1)))) 43 (rg_wr_congr (f := (rg_up (rg_up o9 1 ((L + (rg_nt v t).length : Nat) : Int)) 1 (((L + (rg_nt v t).length) + ([(48 + ((v / (rg_dv t)) % 10))]).length : Nat) : Int))) (g := (rg_up o9 1 ((L + (rg_nt v (t + 1)).length : Nat) : Int))) 9 rfl (by first | (rw [rg_nt_y (by first | exact Or.inl (by assumption) | exact Or.inr (by assumption)), List.length_append, List.length_singleton, rg_up_up]; rfl) | (rw [rg_nt_n (by omega)]))) (by first | (rw [rg_nt_y (by first | exact Or.inl (by assumption) | exact Or.inr (by assumption))]; exact rg_wx_app _ _ _ _) | (rw [rg_nt_n (by omega)]))) ?_
          refine rg_sub (lv' := [(0, .ref (κ.2.2.2 9)), (1, .int (rg_I v)), (2, .int (rg_I (rg_dv (t + 1))))]) [1, 2, 0] rfl ?_
          exact ih4 (5 - (t + 1)) (by omega) ((t + 1)) rfl (by omega)
        ·
          refine rg_iload_n F 2 2 rfl dX7_putNumber_13 rfl ?_
          refine rg_iconst F dX7_putNumber_14 ?_
          refine rg_icmp_ne F 31 dX7_putNumber_15 (by decide) (by have b0 := rg_dv_bd t; omega) (by omega) (fun c15_3 => ?_) (fun c15_3 => ?_)
          ·
            refine rg_iload_n F 2 2 rfl dX7_putNumber_31 rfl ?_
            refine rg_bipush F dX7_putNumber_32 (by decide +kernel) ?_
            refine rg_idiv F dX7_putNumber_34 (by have b0 := rg_dv_bd t; omega) (by omega) ?_
            refine rg_istore_n F [(2, .int (rg_I ((rg_dv t) / 10))), (0, .ref (κ.2.2.2 9)), (1, .int (rg_I v))] dX7_putNumber_35 rfl (by decide) rfl ?_
            refine rg_goto F 4 dX7_putNumber_36 (by decide) ?_
            refine rg_lve (lv' := [(2, .int (rg_I (rg_dv (t + 1)))), (0, .ref (κ.2.2.2 9)), (1, .int (rg_I v))]) (congrArg (fun x9 : Int => ([(2, .int (rg_I x9)), (0, .ref (κ.2.2.2 9)), (1, .int (rg_I v))] : List (Nat × Value))) hds.2) ?_
            refine rg_eq (σ' := (rg_wr (rg_wr σ 9 (rg_up o9 1 ((L + (rg_nt v (t + 1)).length : Nat) : Int))) 43 (rg_wx B L (rg_nt v (t + 1))))) (rg_wr_congr (f := (rg_wx B L (rg_nt v t))) (g := (rg_wx B L (rg_nt v (t + 1)))) 43 (rg_wr_congr (f := (rg_up o9 1 ((L + (rg_nt v t).length : Nat) : Int))) (g := (rg_up o9 1 ((L + (rg_nt v (t + 1)).length : Nat) : Int))) 9 rfl (by first | (rw [rg_nt_y (by first | exact Or.inl (by assumption) | exact Or.inr (by assumption)), List.length_append, List.length_singleton, rg_up_up]; rfl) | (rw [rg_nt_n (by omega)]))) (by first | (rw [rg_nt_y (by first | exact Or.inl (by assumption) | exact Or.inr (by assumption))]; exact rg_wx_app _ _ _ _) | (rw [rg_nt_n (by omega)]))) ?_
            refine rg_sub (lv' := [(0, .ref (κ.2.2.2 9)), (1, .int (rg_I v)), (2, .int (rg_I (rg_dv (t + 1))))]) [1, 2, 0] rfl ?_
            exact ih4 (5 - (t + 1)) (by omega) ((t + 1)) rfl (by omega)
          ·
            have hmn := rg_nt_mono v (t := t + 1) (u := 5) (by omega)
            rw [rg_nt_y (v := v) (t := t) (by first | exact Or.inl (by assumption) | exact Or.inr (by assumption)), List.length_append, List.length_singleton] at hmn
            have hL2 : L + (rg_nt v 5).length ≤ 8040 := hL
            refine rg_aload_n F 0 0 rfl dX7_putNumber_18 rfl ?_
            refine rg_bipush F dX7_putNumber_19 (by decide +kernel) ?_
            refine rg_iload_n F 1 1 rfl dX7_putNumber_21 rfl ?_
            refine rg_iload_n F 2 2 rfl dX7_putNumber_22 rfl ?_
            refine rg_idiv F dX7_putNumber_23 (by omega) (by have b0 := rg_dv_bd t; omega) ?_
            refine rg_bipush F dX7_putNumber_24 (by decide +kernel) ?_
            refine rg_irem F dX7_putNumber_26 ⟨Int.ediv_nonneg (by omega) (by omega), Int.lt_of_le_of_lt (Int.ediv_le_self _ (by omega)) (by omega)⟩ (by omega) ?_
            refine rg_iadd F dX7_putNumber_27 ?_
            refine rg_callVV F [.int (rg_I (48 + ((v / (rg_dv t)) % 10)))] [] 9 (k_X7_putByte κ (rg_wr (rg_wr σ 9 (rg_up o9 1 ((L + (rg_nt v t).length : Nat) : Int))) 43 (rg_wx B L (rg_nt v t))) ((48 + ((v / (rg_dv t)) % 10))) (rg_up o9 1 ((L + (rg_nt v t).length : Nat) : Int)) (rg_wx B L (rg_nt v t)) ((L + (rg_nt v t).length)) rfl rfl rfl (by omega) (by have b1 := Int.emod_nonneg (v / rg_dv t) (show (10 : Int) ≠ 0 by omega); have b2 := Int.emod_lt_of_pos (v / rg_dv t) (show (0 : Int) < 10 by omega); omega)) tC9 cX7 v_X7_putByte i_X7_putByte k_ml_X7_28 ⟨Nat.le_of_ble_eq_true rfl, Nat.le_of_ble_eq_true rfl⟩ rfl (Nat.le_of_ble_eq_true rfl) dX7_putNumber_28 (rg_ex1 ?_)
            refine rg_eq (σ' := (rg_wr (rg_wr σ 9 (rg_up (rg_up o9 1 ((L + (rg_nt v t).length : Nat) : Int)) 1 (((L + (rg_nt v t).length) + ([(48 + ((v / (rg_dv t)) % 10))]).length : Nat) : Int))) 43 (rg_wx (rg_wx B L (rg_nt v t)) (L + (rg_nt v t).length) ([(48 + ((v / (rg_dv t)) % 10))])))) ((rg_wr_congr 43 ((rg_wr_comm _ _ _ (by decide)).trans (rg_wr_congr 43 (rg_wr_wr _ 9 _ _) rfl)) rfl).trans (rg_wr_wr _ 43 _ _)) ?_
            refine rg_iload_n F 2 2 rfl dX7_putNumber_31 rfl ?_
            refine rg_bipush F dX7_putNumber_32 (by decide +kernel) ?_
            refine rg_idiv F dX7_putNumber_34 (by have b0 := rg_dv_bd t; omega) (by omega) ?_
            refine rg_istore_n F [(2, .int (rg_I ((rg_dv t) / 10))), (0, .ref (κ.2.2.2 9)), (1, .int (rg_I v))] dX7_putNumber_35 rfl (by decide) rfl ?_
            refine rg_goto F 4 dX7_putNumber_36 (by decide) ?_
            refine rg_lve (lv' := [(2, .int (rg_I (rg_dv (t + 1)))), (0, .ref (κ.2.2.2 9)), (1, .int (rg_I v))]) (congrArg (fun x9 : Int => ([(2, .int (rg_I x9)), (0, .ref (κ.2.2.2 9)), (1, .int (rg_I v))] : List (Nat × Value))) hds.2) ?_
            refine rg_eq (σ' := (rg_wr (rg_wr σ 9 (rg_up o9 1 ((L + (rg_nt v (t + 1)).length : Nat) : Int))) 43 (rg_wx B L (rg_nt v (t + 1))))) (rg_wr_congr (f := (rg_wx (rg_wx B L (rg_nt v t)) (L + (rg_nt v t).length) ([(48 + ((v / (rg_dv t)) % 10))]))) (g := (rg_wx B L (rg_nt v (t + 1)))) 43 (rg_wr_congr (f := (rg_up (rg_up o9 1 ((L + (rg_nt v t).length : Nat) : Int)) 1 (((L + (rg_nt v t).length) + ([(48 + ((v / (rg_dv t)) % 10))]).length : Nat) : Int))) (g := (rg_up o9 1 ((L + (rg_nt v (t + 1)).length : Nat) : Int))) 9 rfl (by first | (rw [rg_nt_y (by first | exact Or.inl (by assumption) | exact Or.inr (by assumption)), List.length_append, List.length_singleton, rg_up_up]; rfl) | (rw [rg_nt_n (by omega)]))) (by first | (rw [rg_nt_y (by first | exact Or.inl (by assumption) | exact Or.inr (by assumption))]; exact rg_wx_app _ _ _ _) | (rw [rg_nt_n (by omega)]))) ?_
            refine rg_sub (lv' := [(0, .ref (κ.2.2.2 9)), (1, .int (rg_I v)), (2, .int (rg_I (rg_dv (t + 1))))]) [1, 2, 0] rfl ?_
            exact ih4 (5 - (t + 1)) (by omega) ((t + 1)) rfl (by omega)
  refine rg_lve (lv' := [(2, .int (rg_I (rg_dv 0))), (0, .ref (κ.2.2.2 9)), (1, .int (rg_I v))]) (congrArg (fun x9 : Int => ([(2, .int (rg_I x9)), (0, .ref (κ.2.2.2 9)), (1, .int (rg_I v))] : List (Nat × Value))) rfl) ?_
  refine rg_eq (σ' := (rg_wr (rg_wr σ 9 (rg_up o9 1 ((L + (rg_nt v 0).length : Nat) : Int))) 43 (rg_wx B L (rg_nt v 0)))) ((((rg_wr_self (σ := σ) (k := 9) (f := o9) h9).trans rfl).trans ((rg_wr_self (σ := (rg_wr σ 9 o9)) (k := 43) (f := B) h43).trans rfl)).trans (rg_wr_congr (f := B) (g := (rg_wx B L (rg_nt v 0))) 43 (rg_wr_congr (f := o9) (g := (rg_up o9 1 ((L + (rg_nt v 0).length : Nat) : Int))) 9 rfl (rg_sh0 (by rw [← h9]; exact h9_1))) (rg_wx_nil _ _))) ?_
  refine rg_sub (lv' := [(0, .ref (κ.2.2.2 9)), (1, .int (rg_I v)), (2, .int (rg_I (rg_dv 0)))]) [1, 2, 0] rfl ?_
  exact L4 _ (0) rfl (by omega)
set_option maxHeartbeats 400000 in
set_option maxRecDepth 100000 in
/-- putTenths -/
theorem k_X7_putTenths (κ : rg_K) (σ : rg_S) (v : Int) (o9 : Nat → Int) (B : Nat → Int) (L : Nat) (h9 : σ 9 = o9) (h43 : σ 43 = B) (h9_1 : σ 9 1 = ((L : Nat) : Int)) (hL : L + (rg_tt v).length ≤ 8040) (hv : 0 ≤ v ∧ v < 1000000) : rg_CV κ rg_tC yX7_putTenths cX7_putTenths 2 2 43 [.ref (κ.2.2.2 9), .int (rg_I v)] σ (fun σ9 => σ9 = (rg_wr (rg_wr σ 9 (rg_up o9 1 ((L + (rg_tt v).length : Nat) : Int))) 43 (rg_wx B L (rg_tt v)))) := by
  have hlen : (rg_tt v).length = (rg_nx (v / 10)).length + 2 := by unfold rg_tt; rw [List.length_append, List.length_append]; rfl
  refine rg_entV [(0, .ref (κ.2.2.2 9)), (1, .int (rg_I v))] rfl (by decide +kernel) (Nat.le_of_ble_eq_true rfl) (fun Γ F hR => ?_)
  refine rg_aload_n F 0 0 rfl dX7_putTenths_0 rfl ?_
  refine rg_iload_n F 1 1 rfl dX7_putTenths_1 rfl ?_
  refine rg_bipush F dX7_putTenths_2 (by decide +kernel) ?_
  refine rg_idiv F dX7_putTenths_4 (by omega) (by omega) ?_
  refine rg_callVV F [.int (rg_I (v / 10))] [] 9 (k_X7_putNumber κ σ ((v / 10)) o9 B (L) (h9) (h43) (h9_1) (by omega) (by omega)) tC9 cX7 v_X7_putNumber i_X7_putNumber k_ml_X7_32 ⟨Nat.le_of_ble_eq_true rfl, Nat.le_of_ble_eq_true rfl⟩ rfl (Nat.le_of_ble_eq_true rfl) dX7_putTenths_5 (rg_ex1 ?_)
  refine rg_eq (σ' := (rg_wr (rg_wr σ 9 (rg_up o9 1 ((L + (rg_nx (v / 10)).length : Nat) : Int))) 43 (rg_wx B L (rg_nx (v / 10))))) rfl ?_
  refine rg_aload_n F 0 0 rfl dX7_putTenths_8 rfl ?_
  refine rg_bipush F dX7_putTenths_9 (by decide +kernel) ?_
  refine rg_callVV F [.int (rg_I 46)] [] 9 (k_X7_putByte κ (rg_wr (rg_wr σ 9 (rg_up o9 1 ((L + (rg_nx (v / 10)).length : Nat) : Int))) 43 (rg_wx B L (rg_nx (v / 10)))) (46) (rg_up o9 1 ((L + (rg_nx (v / 10)).length : Nat) : Int)) (rg_wx B L (rg_nx (v / 10))) ((L + (rg_nx (v / 10)).length)) rfl rfl rfl (by first | omega | (simp only [List.length_append, List.length_singleton]; omega)) (by omega)) tC9 cX7 v_X7_putByte i_X7_putByte k_ml_X7_28 ⟨Nat.le_of_ble_eq_true rfl, Nat.le_of_ble_eq_true rfl⟩ rfl (Nat.le_of_ble_eq_true rfl) dX7_putTenths_11 (rg_ex1 ?_)
  refine rg_eq (σ' := (rg_wr (rg_wr σ 9 (rg_up (rg_up o9 1 ((L + (rg_nx (v / 10)).length : Nat) : Int)) 1 (((L + (rg_nx (v / 10)).length) + ([46]).length : Nat) : Int))) 43 (rg_wx (rg_wx B L (rg_nx (v / 10))) (L + (rg_nx (v / 10)).length) ([46])))) ((rg_wr_congr 43 ((rg_wr_comm _ _ _ (by decide)).trans (rg_wr_congr 43 (rg_wr_wr _ 9 _ _) rfl)) rfl).trans (rg_wr_wr _ 43 _ _)) ?_
  refine rg_aload_n F 0 0 rfl dX7_putTenths_14 rfl ?_
  refine rg_bipush F dX7_putTenths_15 (by decide +kernel) ?_
  refine rg_iload_n F 1 1 rfl dX7_putTenths_17 rfl ?_
  refine rg_bipush F dX7_putTenths_18 (by decide +kernel) ?_
  refine rg_irem F dX7_putTenths_20 (by omega) (by omega) ?_
  refine rg_iadd F dX7_putTenths_21 ?_
  refine rg_callVV F [.int (rg_I (48 + (v % 10)))] [] 9 (k_X7_putByte κ (rg_wr (rg_wr σ 9 (rg_up (rg_up o9 1 ((L + (rg_nx (v / 10)).length : Nat) : Int)) 1 (((L + (rg_nx (v / 10)).length) + ([46]).length : Nat) : Int))) 43 (rg_wx (rg_wx B L (rg_nx (v / 10))) (L + (rg_nx (v / 10)).length) ([46]))) ((48 + (v % 10))) (rg_up (rg_up o9 1 ((L + (rg_nx (v / 10)).length : Nat) : Int)) 1 (((L + (rg_nx (v / 10)).length) + ([46]).length : Nat) : Int)) (rg_wx (rg_wx B L (rg_nx (v / 10))) (L + (rg_nx (v / 10)).length) ([46])) (((L + (rg_nx (v / 10)).length) + ([46]).length)) rfl rfl rfl (by first | omega | (simp only [List.length_append, List.length_singleton]; omega)) (by omega)) tC9 cX7 v_X7_putByte i_X7_putByte k_ml_X7_28 ⟨Nat.le_of_ble_eq_true rfl, Nat.le_of_ble_eq_true rfl⟩ rfl (Nat.le_of_ble_eq_true rfl) dX7_putTenths_22 (rg_ex1 ?_)
  refine rg_eq (σ' := (rg_wr (rg_wr σ 9 (rg_up (rg_up (rg_up o9 1 ((L + (rg_nx (v / 10)).length : Nat) : Int)) 1 (((L + (rg_nx (v / 10)).length) + ([46]).length : Nat) : Int)) 1 ((((L + (rg_nx (v / 10)).length) + ([46]).length) + ([(48 + (v % 10))]).length : Nat) : Int))) 43 (rg_wx (rg_wx (rg_wx B L (rg_nx (v / 10))) (L + (rg_nx (v / 10)).length) ([46])) ((L + (rg_nx (v / 10)).length) + ([46]).length) ([(48 + (v % 10))])))) ((rg_wr_congr 43 ((rg_wr_comm _ _ _ (by decide)).trans (rg_wr_congr 43 (rg_wr_wr _ 9 _ _) rfl)) rfl).trans (rg_wr_wr _ 43 _ _)) ?_
  exact hR _ _ _ dX7_putTenths_25 (rg_wr_congr (f := (rg_wx (rg_wx (rg_wx B L (rg_nx (v / 10))) (L + (rg_nx (v / 10)).length) ([46])) ((L + (rg_nx (v / 10)).length) + ([46]).length) ([(48 + (v % 10))]))) (g := (rg_wx B L (rg_tt v))) 43 (rg_wr_congr (f := (rg_up (rg_up (rg_up o9 1 ((L + (rg_nx (v / 10)).length : Nat) : Int)) 1 (((L + (rg_nx (v / 10)).length) + ([46]).length : Nat) : Int)) 1 ((((L + (rg_nx (v / 10)).length) + ([46]).length) + ([(48 + (v % 10))]).length : Nat) : Int))) (g := (rg_up o9 1 ((L + (rg_tt v).length : Nat) : Int))) 9 rfl (by rw [rg_up_up, rg_up_up, hlen]; congr 1)) ((congrArg (fun z => rg_wx z _ _) (rg_wx_app _ _ _ _)).trans (by rw [show L + (rg_nx (v / 10)).length + [(46 : Int)].length = L + (rg_nx (v / 10) ++ [46]).length by rw [List.length_append, Nat.add_assoc]]; exact rg_wx_app _ _ _ _)))
set_option maxHeartbeats 400000 in
set_option maxRecDepth 100000 in
/-- putText -/
theorem k_X7_putText (κ : rg_K) (σ : rg_S) (k : Nat) (o9 : Nat → Int) (B : Nat → Int) (L : Nat) (h9 : σ 9 = o9) (h43 : σ 43 = B) (h9_1 : σ 9 1 = ((L : Nat) : Int)) (hk : k < 18) (hL : L + (rg_text k).length ≤ 8040) : rg_CV κ rg_tC yX7_putText cX7_putText 3 4 85 [.ref (κ.2.2.2 9), .ref (κ.2.2.2 (100 + k))] σ (fun σ9 => σ9 = (rg_wr (rg_wr σ 9 (rg_up o9 1 ((L + (rg_text k).length : Nat) : Int))) 43 (rg_wx B L (rg_text k)))) := by
  have hl3 := lw_sl_ok k hk
  have hlen : (rg_text k).length = lw_sl.getD k 0 := rg_tx_len _ _
  refine rg_entV [(0, .ref (κ.2.2.2 9)), (1, .ref (κ.2.2.2 (100 + k)))] rfl (by decide +kernel) (Nat.le_of_ble_eq_true rfl) (fun Γ F hR => ?_)
  refine rg_iconst F dX7_putText_0 ?_
  refine rg_istore_n F [(2, .int (rg_I 0)), (0, .ref (κ.2.2.2 9)), (1, .ref (κ.2.2.2 (100 + k)))] dX7_putText_1 rfl (by decide) rfl ?_
  have L2 : ∀ (n2 : Nat) (t : Nat), n2 = lw_sl.getD k 0 - t → (t ≤ lw_sl.getD k 0) → rg_G κ Γ rg_tC 3 0 0 2 [(0, .ref (κ.2.2.2 9)), (1, .ref (κ.2.2.2 (100 + k))), (2, .int (rg_I ((t : Nat) : Int)))] [] (rg_wr (rg_wr σ 9 (rg_up o9 1 ((L + (rg_tx k t).length : Nat) : Int))) 43 (rg_wx B L (rg_tx k t))) := by
    intro n2
    induction n2 using Nat.strongRecOn with
    | _ n2 ih2 =>
      intro t hn2 ht
      refine rg_iload_n F 2 2 rfl dX7_putText_2 rfl ?_
      refine rg_aload_n F 1 1 rfl dX7_putText_3 rfl ?_
      refine rg_callTI F [] [.int (rg_I ((t : Nat) : Int))] k hk (k_J0_length κ rg_tC (rg_wr (rg_wr σ 9 (rg_up o9 1 ((L + (rg_tx k t).length : Nat) : Int))) 43 (rg_wx B L (rg_tx k t))) k hk) rfl v_J0_length_8abf5 i_J0_length_8abf5 k_ml_X7_19 ⟨Nat.le_of_ble_eq_true rfl, Nat.le_of_ble_eq_true rfl⟩ rfl (Nat.le_of_ble_eq_true rfl) dX7_putText_4 (rg_ex2 ?_)
      refine rg_icmp_ge F 25 dX7_putText_7 (by decide) (by omega) (by omega) (fun c7_1 => ?_) (fun c7_1 => ?_)
      ·
        exact hR _ _ _ dX7_putText_25 (rg_wr_congr (f := (rg_wx B L (rg_tx k t))) (g := (rg_wx B L (rg_text k))) 43 (rg_wr_congr (f := (rg_up o9 1 ((L + (rg_tx k t).length : Nat) : Int))) (g := (rg_up o9 1 ((L + (rg_text k).length : Nat) : Int))) 9 rfl (by rw [show t = lw_sl.getD k 0 by omega]; rfl)) (by rw [show t = lw_sl.getD k 0 by omega]; rfl))
      ·
        have hcb := lw_cb_ok k hk t (by omega)
        have htl := rg_tx_len k t
        refine rg_aload_n F 0 0 rfl dX7_putText_10 rfl ?_
        refine rg_aload_n F 1 1 rfl dX7_putText_11 rfl ?_
        refine rg_iload_n F 2 2 rfl dX7_putText_12 rfl ?_
        refine rg_callTI F [.int (rg_I ((t : Nat) : Int))] [.ref (κ.2.2.2 9)] k hk (k_J0_charAt κ rg_tC (rg_wr (rg_wr σ 9 (rg_up o9 1 ((L + (rg_tx k t).length : Nat) : Int))) 43 (rg_wx B L (rg_tx k t))) k t hk (by omega)) rfl v_J0_charAt_5068e i_J0_charAt_5068e k_ml_X7_24 ⟨Nat.le_of_ble_eq_true rfl, Nat.le_of_ble_eq_true rfl⟩ rfl (Nat.le_of_ble_eq_true rfl) dX7_putText_13 (rg_ex2 ?_)
        refine rg_callVV F [.int (rg_I (lw_cb k t))] [] 9 (k_X7_putByte κ (rg_wr (rg_wr σ 9 (rg_up o9 1 ((L + (rg_tx k t).length : Nat) : Int))) 43 (rg_wx B L (rg_tx k t))) ((lw_cb k t)) (rg_up o9 1 ((L + (rg_tx k t).length : Nat) : Int)) (rg_wx B L (rg_tx k t)) ((L + (rg_tx k t).length)) rfl rfl rfl (by omega) (by omega)) tC9 cX7 v_X7_putByte i_X7_putByte k_ml_X7_28 ⟨Nat.le_of_ble_eq_true rfl, Nat.le_of_ble_eq_true rfl⟩ rfl (Nat.le_of_ble_eq_true rfl) dX7_putText_16 (rg_ex1 ?_)
        refine rg_eq (σ' := (rg_wr (rg_wr σ 9 (rg_up (rg_up o9 1 ((L + (rg_tx k t).length : Nat) : Int)) 1 (((L + (rg_tx k t).length) + ([(lw_cb k t)]).length : Nat) : Int))) 43 (rg_wx (rg_wx B L (rg_tx k t)) (L + (rg_tx k t).length) ([(lw_cb k t)])))) ((rg_wr_congr 43 ((rg_wr_comm _ _ _ (by decide)).trans (rg_wr_congr 43 (rg_wr_wr _ 9 _ _) rfl)) rfl).trans (rg_wr_wr _ 43 _ _)) ?_
        refine rg_iinc F (v := ((t + 1 : Nat) : Int)) 2 [(2, .int (rg_I ((t + 1 : Nat) : Int))), (0, .ref (κ.2.2.2 9)), (1, .ref (κ.2.2.2 (100 + k)))] dX7_putText_19 rfl (by omega) (by decide) rfl ?_
        refine rg_goto F 2 dX7_putText_22 (by decide) ?_
        refine rg_eq (σ' := (rg_wr (rg_wr σ 9 (rg_up o9 1 ((L + (rg_tx k (t + 1)).length : Nat) : Int))) 43 (rg_wx B L (rg_tx k (t + 1))))) (rg_wr_congr (f := (rg_wx (rg_wx B L (rg_tx k t)) (L + (rg_tx k t).length) ([(lw_cb k t)]))) (g := (rg_wx B L (rg_tx k (t + 1)))) 43 (rg_wr_congr (f := (rg_up (rg_up o9 1 ((L + (rg_tx k t).length : Nat) : Int)) 1 (((L + (rg_tx k t).length) + ([(lw_cb k t)]).length : Nat) : Int))) (g := (rg_up o9 1 ((L + (rg_tx k (t + 1)).length : Nat) : Int))) 9 rfl (by rw [rg_up_up, ← rg_tx_s, List.length_append]; rfl)) (by rw [← rg_tx_s]; exact rg_wx_app _ _ _ _)) ?_
        refine rg_sub (lv' := [(0, .ref (κ.2.2.2 9)), (1, .ref (κ.2.2.2 (100 + k))), (2, .int (rg_I ((t + 1 : Nat) : Int)))]) [1, 2, 0] rfl ?_
        exact ih2 (lw_sl.getD k 0 - (t + 1)) (by omega) ((t + 1)) rfl (by omega)
  refine rg_eq (σ' := (rg_wr (rg_wr σ 9 (rg_up o9 1 ((L + (rg_tx k 0).length : Nat) : Int))) 43 (rg_wx B L (rg_tx k 0)))) ((((rg_wr_self (σ := σ) (k := 9) (f := o9) h9).trans rfl).trans ((rg_wr_self (σ := (rg_wr σ 9 o9)) (k := 43) (f := B) h43).trans rfl)).trans (rg_wr_congr (f := B) (g := (rg_wx B L (rg_tx k 0))) 43 (rg_wr_congr (f := o9) (g := (rg_up o9 1 ((L + (rg_tx k 0).length : Nat) : Int))) 9 rfl (rg_sh0 (by rw [← h9]; exact h9_1))) (rg_wx_nil _ _))) ?_
  refine rg_sub (lv' := [(0, .ref (κ.2.2.2 9)), (1, .ref (κ.2.2.2 (100 + k))), (2, .int (rg_I 0))]) [1, 2, 0] rfl ?_
  exact L2 _ (0) rfl (by omega)
