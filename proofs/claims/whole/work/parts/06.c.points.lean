/-! Contracts of the point table's methods, 1 (laid by program). -/
set_option maxHeartbeats 4000000 in
set_option maxRecDepth 100000 in
/-- copyAll: the entries 10 become those of 3 -/
theorem k_X2_copyAll (κ : rg_K) (σ : rg_S) (f16 : Nat → Int) (f17 : Nat → Int) (f18 : Nat → Int) (h16 : σ 16 = f16) (h17 : σ 17 = f17) (h18 : σ 18 = f18) : rg_CV κ rg_tC yX2_copyAll cX2_copyAll 2 1 60 [.ref (κ.2.2.2 10), .ref (κ.2.2.2 3)] σ (fun σ9 => σ9 = (rg_wr (rg_wr (rg_wr σ 25 f16) 26 f17) 27 f18)) := by
  refine rg_entV [(0, .ref (κ.2.2.2 10)), (1, .ref (κ.2.2.2 3))] rfl (by decide +kernel) (Nat.le_of_ble_eq_true rfl) (fun Γ F hR => ?_)
  refine rg_aload_n F 1 1 rfl dX2_copyAll_0 rfl ?_
  refine rg_get F 3 0 tC3 cX2 k_lays_X2 (by decide) k_fl_X2_9 rfl (v := .ref (κ.2.2.2 16)) rfl dX2_copyAll_1 ?_
  refine rg_iconst F dX2_copyAll_4 ?_
  refine rg_aload_n F 0 0 rfl dX2_copyAll_5 rfl ?_
  refine rg_get F 10 0 tC10 cX2 k_lays_X2 (by decide) k_fl_X2_9 rfl (v := .ref (κ.2.2.2 25)) rfl dX2_copyAll_6 ?_
  refine rg_iconst F dX2_copyAll_9 ?_
  refine rg_sipush F dX2_copyAll_10 (by decide +kernel) ?_
  refine rg_copy F (rest := []) 16 25 tC16 tC25 (by decide) k_ml_X2_27 k_nt_arraycopyName k_st_arraycopyName k_in_System ⟨Nat.le_of_ble_eq_true rfl, Nat.le_of_ble_eq_true rfl⟩ dX2_copyAll_13 ?_
  refine rg_ext (g := f16) 25 tC25 (fun j hj => (if_pos hj).trans (congrFun (show σ 16 = f16 from h16) j)) ?_
  refine rg_aload_n F 1 1 rfl dX2_copyAll_16 rfl ?_
  refine rg_get F 3 1 tC3 cX2 k_lays_X2 (by decide) k_fl_X2_15 rfl (v := .ref (κ.2.2.2 17)) rfl dX2_copyAll_17 ?_
  refine rg_iconst F dX2_copyAll_20 ?_
  refine rg_aload_n F 0 0 rfl dX2_copyAll_21 rfl ?_
  refine rg_get F 10 1 tC10 cX2 k_lays_X2 (by decide) k_fl_X2_15 rfl (v := .ref (κ.2.2.2 26)) rfl dX2_copyAll_22 ?_
  refine rg_iconst F dX2_copyAll_25 ?_
  refine rg_sipush F dX2_copyAll_26 (by decide +kernel) ?_
  refine rg_copy F (rest := []) 17 26 tC17 tC26 (by decide) k_ml_X2_27 k_nt_arraycopyName k_st_arraycopyName k_in_System ⟨Nat.le_of_ble_eq_true rfl, Nat.le_of_ble_eq_true rfl⟩ dX2_copyAll_29 ?_
  refine rg_ext (g := f17) 26 tC26 (fun j hj => (if_pos hj).trans (congrFun (show (rg_wr σ 25 f16) 17 = f17 from h17) j)) ?_
  refine rg_aload_n F 1 1 rfl dX2_copyAll_32 rfl ?_
  refine rg_get F 3 2 tC3 cX2 k_lays_X2 (by decide) k_fl_X2_18 rfl (v := .ref (κ.2.2.2 18)) rfl dX2_copyAll_33 ?_
  refine rg_iconst F dX2_copyAll_36 ?_
  refine rg_aload_n F 0 0 rfl dX2_copyAll_37 rfl ?_
  refine rg_get F 10 2 tC10 cX2 k_lays_X2 (by decide) k_fl_X2_18 rfl (v := .ref (κ.2.2.2 27)) rfl dX2_copyAll_38 ?_
  refine rg_iconst F dX2_copyAll_41 ?_
  refine rg_sipush F dX2_copyAll_42 (by decide +kernel) ?_
  refine rg_copy F (rest := []) 18 27 tC18 tC27 (by decide) k_ml_X2_27 k_nt_arraycopyName k_st_arraycopyName k_in_System ⟨Nat.le_of_ble_eq_true rfl, Nat.le_of_ble_eq_true rfl⟩ dX2_copyAll_45 ?_
  refine rg_ext (g := f18) 27 tC27 (fun j hj => (if_pos hj).trans (congrFun (show (rg_wr (rg_wr σ 25 f16) 26 f17) 18 = f18 from h18) j)) ?_
  exact hR _ _ _ dX2_copyAll_48 rfl
set_option maxHeartbeats 4000000 in
set_option maxRecDepth 100000 in
/-- putInto: the decisions laid over the entries 10 -/
theorem k_X1_putInto (κ : rg_K) (σ : rg_S) (dc : Nat → Int) (dk : Nat → Int) (da : Nat → Int) (ro : Nat → Int) (f25 : Nat → Int) (f26 : Nat → Int) (f27 : Nat → Int) (nd : Nat) (h19 : σ 19 = dc) (h20 : σ 20 = dk) (h21 : σ 21 = da) (h22 : σ 22 = ro) (h25 : σ 25 = f25) (h26 : σ 26 = f26) (h27 : σ 27 = f27) (h4_4 : σ 4 4 = ((nd : Nat) : Int)) (hnd : nd ≤ 41) (hD : rg_okD nd dc dk da) (hro : ∀ j, rg_Rg (ro j)) : rg_CV κ rg_tC yX1_putInto cX1_putInto 3 1 23 [.ref (κ.2.2.2 4), .ref (κ.2.2.2 10)] σ (fun σ9 => σ9 = (rg_wr (rg_wr (rg_wr σ 25 (rg_app dc ro dk f25 nd)) 26 (rg_app dc ro da f26 nd)) 27 (rg_app dc ro (fun _ => 0) f27 nd))) := by
  refine rg_entV [(0, .ref (κ.2.2.2 4)), (1, .ref (κ.2.2.2 10))] rfl (by decide +kernel) (Nat.le_of_ble_eq_true rfl) (fun Γ F hR => ?_)
  refine rg_iconst F dX1_putInto_0 ?_
  refine rg_istore_n F [(2, .int (rg_I 0)), (0, .ref (κ.2.2.2 4)), (1, .ref (κ.2.2.2 10))] dX1_putInto_1 rfl (by decide) rfl ?_
  have L2 : ∀ (n2 : Nat) (d : Nat), n2 = nd - d → (d ≤ nd) → rg_G κ Γ rg_tC 3 0 0 2 [(0, .ref (κ.2.2.2 4)), (1, .ref (κ.2.2.2 10)), (2, .int (rg_I ((d : Nat) : Int)))] [] (rg_wr (rg_wr (rg_wr σ 25 (rg_app dc ro dk f25 d)) 26 (rg_app dc ro da f26 d)) 27 (rg_app dc ro (fun _ => 0) f27 d)) := by
    intro n2
    induction n2 using Nat.strongRecOn with
    | _ n2 ih2 =>
      intro d hn2 hd
      refine rg_iload_n F 2 2 rfl dX1_putInto_2 rfl ?_
      refine rg_aload_n F 0 0 rfl dX1_putInto_3 rfl ?_
      refine rg_get F 4 4 tC4 cX1 k_lays_X1 (by decide) k_fl_X1_25 rfl (v := .int (rg_I ((nd : Nat) : Int))) (congrArg (fun x => Value.int (rg_I x)) h4_4) dX1_putInto_4 ?_
      refine rg_icmp_ge F 47 dX1_putInto_7 (by decide) (by omega) (by omega) (fun c7_1 => ?_) (fun c7_1 => ?_)
      ·
        exact hR _ _ _ dX1_putInto_47 (rg_wr_congr (f := (rg_app dc ro (fun _ => 0) f27 d)) (g := (rg_app dc ro (fun _ => 0) f27 nd)) 27 (rg_wr_congr (f := (rg_app dc ro da f26 d)) (g := (rg_app dc ro da f26 nd)) 26 (rg_wr_congr (f := (rg_app dc ro dk f25 d)) (g := (rg_app dc ro dk f25 nd)) 25 rfl (congrArg (rg_app _ _ _ _) (by omega))) (congrArg (rg_app _ _ _ _) (by omega))) (congrArg (rg_app _ _ _ _) (by omega)))
      ·
        refine rg_aload_n F 0 0 rfl dX1_putInto_10 rfl ?_
        refine rg_get F 4 3 tC4 cX1 k_lays_X1 (by decide) k_fl_X1_21 rfl (v := .ref (κ.2.2.2 22)) rfl dX1_putInto_11 ?_
        refine rg_iload_n F 2 2 rfl dX1_putInto_14 rfl ?_
        refine rg_zald F 22 d (v := (ro d)) tC22 (by omega) (by omega) (by decide) (congrFun h22 d) dX1_putInto_15 ?_
        refine rg_if_ne F 41 dX1_putInto_16 (by decide) (by have b0 := hro (d); omega) (fun c16_2 => ?_) (fun c16_2 => ?_)
        ·
          refine rg_iinc F (v := ((d + 1 : Nat) : Int)) 2 [(2, .int (rg_I ((d + 1 : Nat) : Int))), (0, .ref (κ.2.2.2 4)), (1, .ref (κ.2.2.2 10))] dX1_putInto_41 rfl (by omega) (by decide) rfl ?_
          refine rg_goto F 2 dX1_putInto_44 (by decide) ?_
          refine rg_eq (σ' := (rg_wr (rg_wr (rg_wr σ 25 (rg_app dc ro dk f25 (d + 1))) 26 (rg_app dc ro da f26 (d + 1))) 27 (rg_app dc ro (fun _ => 0) f27 (d + 1)))) (rg_wr_congr (f := (rg_app dc ro (fun _ => 0) f27 d)) (g := (rg_app dc ro (fun _ => 0) f27 (d + 1))) 27 (rg_wr_congr (f := (rg_app dc ro da f26 d)) (g := (rg_app dc ro da f26 (d + 1))) 26 (rg_wr_congr (f := (rg_app dc ro dk f25 d)) (g := (rg_app dc ro dk f25 (d + 1))) 25 rfl (by first | exact rg_app_s _ _ _ _ (by assumption) | exact rg_app_k _ _ _ _ (by assumption))) (by first | exact rg_app_s _ _ _ _ (by assumption) | exact rg_app_k _ _ _ _ (by assumption))) (by first | exact rg_app_s _ _ _ _ (by assumption) | exact rg_app_k _ _ _ _ (by assumption))) ?_
          refine rg_sub (lv' := [(0, .ref (κ.2.2.2 4)), (1, .ref (κ.2.2.2 10)), (2, .int (rg_I ((d + 1 : Nat) : Int)))]) [1, 2, 0] rfl ?_
          exact ih2 (nd - (d + 1)) (by omega) ((d + 1)) rfl (by omega)
        ·
          refine rg_aload_n F 1 1 rfl dX1_putInto_19 rfl ?_
          refine rg_aload_n F 0 0 rfl dX1_putInto_20 rfl ?_
          refine rg_get F 4 0 tC4 cX1 k_lays_X1 (by decide) k_fl_X1_9 rfl (v := .ref (κ.2.2.2 19)) rfl dX1_putInto_21 ?_
          refine rg_iload_n F 2 2 rfl dX1_putInto_24 rfl ?_
          have hDd := hD d (by omega)
          refine rg_iald F 19 d (v := ((Int.toNat (dc d) : Nat) : Int)) tC19 (by omega) (by omega) (by decide) ((congrFun h19 d).trans (Int.toNat_of_nonneg (hD d (by omega)).1).symm) dX1_putInto_25 ?_
          refine rg_aload_n F 0 0 rfl dX1_putInto_26 rfl ?_
          refine rg_get F 4 1 tC4 cX1 k_lays_X1 (by decide) k_fl_X1_15 rfl (v := .ref (κ.2.2.2 20)) rfl dX1_putInto_27 ?_
          refine rg_iload_n F 2 2 rfl dX1_putInto_30 rfl ?_
          refine rg_iald F 20 d (v := (dk d)) tC20 (by omega) (by omega) (by decide) (congrFun h20 d) dX1_putInto_31 ?_
          refine rg_aload_n F 0 0 rfl dX1_putInto_32 rfl ?_
          refine rg_get F 4 2 tC4 cX1 k_lays_X1 (by decide) k_fl_X1_18 rfl (v := .ref (κ.2.2.2 21)) rfl dX1_putInto_33 ?_
          refine rg_iload_n F 2 2 rfl dX1_putInto_36 rfl ?_
          refine rg_iald F 21 d (v := (da d)) tC21 (by omega) (by omega) (by decide) (congrFun h21 d) dX1_putInto_37 ?_
          refine rg_callVV F [.int (rg_I ((Int.toNat (dc d) : Nat) : Int)), .int (rg_I (dk d)), .int (rg_I (da d))] [] 10 (k_X2_put_10 κ (rg_wr (rg_wr (rg_wr σ 25 (rg_app dc ro dk f25 d)) 26 (rg_app dc ro da f26 d)) 27 (rg_app dc ro (fun _ => 0) f27 d)) ((Int.toNat (dc d))) ((dk d)) ((da d)) (rg_app dc ro dk f25 d) (rg_app dc ro da f26 d) (rg_app dc ro (fun _ => 0) f27 d) rfl rfl rfl (by first | assumption | omega)) tC10 cX2 v_X2_put i_X2_put k_ml_X1_29 ⟨Nat.le_of_ble_eq_true rfl, Nat.le_of_ble_eq_true rfl⟩ rfl (Nat.le_of_ble_eq_true rfl) dX1_putInto_38 (rg_ex1 ?_)
          refine rg_eq (σ' := (rg_wr (rg_wr (rg_wr σ 25 (rg_up (rg_app dc ro dk f25 d) (Int.toNat (dc d)) (dk d))) 26 (rg_up (rg_app dc ro da f26 d) (Int.toNat (dc d)) (da d))) 27 (rg_up (rg_app dc ro (fun _ => 0) f27 d) (Int.toNat (dc d)) 0))) ((rg_wr_congr 27 ((rg_wr_congr 26 ((rg_wr_comm _ _ _ (by decide)).trans (rg_wr_congr 27 ((rg_wr_comm _ _ _ (by decide)).trans (rg_wr_congr 26 (rg_wr_wr _ 25 _ _) rfl)) rfl)) rfl).trans ((rg_wr_comm _ _ _ (by decide)).trans (rg_wr_congr 27 (rg_wr_wr _ 26 _ _) rfl))) rfl).trans (rg_wr_wr _ 27 _ _)) ?_
          refine rg_iinc F (v := ((d + 1 : Nat) : Int)) 2 [(2, .int (rg_I ((d + 1 : Nat) : Int))), (0, .ref (κ.2.2.2 4)), (1, .ref (κ.2.2.2 10))] dX1_putInto_41 rfl (by omega) (by decide) rfl ?_
          refine rg_goto F 2 dX1_putInto_44 (by decide) ?_
          refine rg_eq (σ' := (rg_wr (rg_wr (rg_wr σ 25 (rg_app dc ro dk f25 (d + 1))) 26 (rg_app dc ro da f26 (d + 1))) 27 (rg_app dc ro (fun _ => 0) f27 (d + 1)))) (rg_wr_congr (f := (rg_up (rg_app dc ro (fun _ => 0) f27 d) (Int.toNat (dc d)) 0)) (g := (rg_app dc ro (fun _ => 0) f27 (d + 1))) 27 (rg_wr_congr (f := (rg_up (rg_app dc ro da f26 d) (Int.toNat (dc d)) (da d))) (g := (rg_app dc ro da f26 (d + 1))) 26 (rg_wr_congr (f := (rg_up (rg_app dc ro dk f25 d) (Int.toNat (dc d)) (dk d))) (g := (rg_app dc ro dk f25 (d + 1))) 25 rfl (by first | exact rg_app_s _ _ _ _ (by assumption) | exact rg_app_k _ _ _ _ (by assumption))) (by first | exact rg_app_s _ _ _ _ (by assumption) | exact rg_app_k _ _ _ _ (by assumption))) (by first | exact rg_app_s _ _ _ _ (by assumption) | exact rg_app_k _ _ _ _ (by assumption))) ?_
          refine rg_sub (lv' := [(0, .ref (κ.2.2.2 4)), (1, .ref (κ.2.2.2 10)), (2, .int (rg_I ((d + 1 : Nat) : Int)))]) [1, 2, 0] rfl ?_
          exact ih2 (nd - (d + 1)) (by omega) ((d + 1)) rfl (by omega)
  refine rg_eq (σ' := (rg_wr (rg_wr (rg_wr σ 25 (rg_app dc ro dk f25 0)) 26 (rg_app dc ro da f26 0)) 27 (rg_app dc ro (fun _ => 0) f27 0))) (((((rg_wr_self (σ := σ) (k := 25) (f := f25) h25).trans rfl).trans ((rg_wr_self (σ := (rg_wr σ 25 f25)) (k := 26) (f := f26) h26).trans rfl)).trans ((rg_wr_self (σ := (rg_wr (rg_wr σ 25 f25) 26 f26)) (k := 27) (f := f27) h27).trans rfl)).trans (rg_wr_congr (f := f27) (g := (rg_app dc ro (fun _ => 0) f27 0)) 27 (rg_wr_congr (f := f26) (g := (rg_app dc ro da f26 0)) 26 (rg_wr_congr (f := f25) (g := (rg_app dc ro dk f25 0)) 25 rfl rfl) rfl) rfl)) ?_
  refine rg_sub (lv' := [(0, .ref (κ.2.2.2 4)), (1, .ref (κ.2.2.2 10)), (2, .int (rg_I 0))]) [1, 2, 0] rfl ?_
  exact L2 _ (0) rfl (by omega)
set_option maxHeartbeats 4000000 in
set_option maxRecDepth 100000 in
/-- hasEntry: some boat has an entry in the race -/
theorem k_X3_hasEntry (κ : rg_K) (σ : rg_S) (r : Nat) (en : Nat → Int) (nb : Nat) (h25 : σ 25 = en) (h1_2 : σ 1 2 = ((nb : Nat) : Int)) (hr : r < 16) (hnb : nb ≤ 40) (hen : ∀ j, rg_Rg (en j)) : rg_CI κ rg_tC yX3_hasEntry cX3_hasEntry 3 FieldType.boolean 1 21 [.ref (κ.2.2.2 6), .int (rg_I ((r : Nat) : Int))] σ (fun r9 σ9 => r9 = (rg_b (∃ b, b < nb ∧ ¬ en (r * 40 + b) = -1)) ∧ σ9 = σ) := by
  refine rg_entI [(0, .ref (κ.2.2.2 6)), (1, .int (rg_I ((r : Nat) : Int)))] rfl (by decide +kernel) (Nat.le_of_ble_eq_true rfl) (by first | exact Or.inl rfl | exact Or.inr rfl) (fun Γ F hR => ?_)
  refine rg_iconst F dX3_hasEntry_0 ?_
  refine rg_istore_n F [(2, .int (rg_I 0)), (0, .ref (κ.2.2.2 6)), (1, .int (rg_I ((r : Nat) : Int)))] dX3_hasEntry_1 rfl (by decide) rfl ?_
  have L2 : ∀ (n2 : Nat) (b : Nat), n2 = nb - b → (b ≤ nb) → (∀ i, i < b → en (r * 40 + i) = -1) → rg_G κ Γ rg_tC 3 0 0 2 [(0, .ref (κ.2.2.2 6)), (1, .int (rg_I ((r : Nat) : Int))), (2, .int (rg_I ((b : Nat) : Int)))] [] σ := by
    intro n2
    induction n2 using Nat.strongRecOn with
    | _ n2 ih2 =>
      intro b hn2 hb hall
      refine rg_iload_n F 2 2 rfl dX3_hasEntry_2 rfl ?_
      refine rg_aload_n F 0 0 rfl dX3_hasEntry_3 rfl ?_
      refine rg_get F 6 3 tC6 cX3 k_lays_X3 (by decide) k_fl_X3_38 rfl (v := .ref (κ.2.2.2 1)) rfl dX3_hasEntry_4 ?_
      refine rg_get F 1 2 tC1 cX0 k_lays_X0 (by decide) k_fl_X3_102 rfl (v := .int (rg_I ((nb : Nat) : Int))) (congrArg (fun x => Value.int (rg_I x)) h1_2) dX3_hasEntry_7 ?_
      refine rg_icmp_ge F 36 dX3_hasEntry_10 (by decide) (by omega) (by omega) (fun c10_1 => ?_) (fun c10_1 => ?_)
      ·
        refine rg_iconst F dX3_hasEntry_36 ?_
        exact hR _ _ _ _ dX3_hasEntry_37 (fun _ => Or.inl rfl) ⟨(rg_b_f (by rintro ⟨i, h1, h2⟩; exact h2 (hall i (by omega)))).symm, rfl⟩
      ·
        refine rg_aload_n F 0 0 rfl dX3_hasEntry_13 rfl ?_
        refine rg_get F 6 0 tC6 cX3 k_lays_X3 (by decide) k_fl_X3_12 rfl (v := .ref (κ.2.2.2 10)) rfl dX3_hasEntry_14 ?_
        refine rg_iload_n F 1 1 rfl dX3_hasEntry_17 rfl ?_
        refine rg_iload_n F 2 2 rfl dX3_hasEntry_18 rfl ?_
        refine rg_callNI F [.int (rg_I ((r : Nat) : Int)), .int (rg_I ((b : Nat) : Int))] [.ref (κ.2.2.2 10)] (k_X9_cell κ rg_tC σ (r) (b)) v_X9_cell k_st_yX9_cell k_mn_X3_95 ⟨Nat.le_of_ble_eq_true rfl, Nat.le_of_ble_eq_true rfl⟩ rfl (Nat.le_of_ble_eq_true rfl) dX3_hasEntry_19 (rg_ex2 ?_)
        show rg_G κ Γ rg_tC 3 0 0 (19 + 3) [(0, .ref (κ.2.2.2 6)), (1, .int (rg_I ((r : Nat) : Int))), (2, .int (rg_I ((b : Nat) : Int)))] [.int (rg_I ((r * 40 + b : Nat) : Int)), .ref (κ.2.2.2 10)] σ
        refine rg_callVI F [.int (rg_I ((r * 40 + b : Nat) : Int))] [] 10 (k_X2_isAt_10 κ σ ((r * 40 + b)) en (h25) (by first | assumption | omega) (by first | assumption | omega)) tC10 cX2 v_X2_isAt i_X2_isAt k_ml_X3_99 ⟨Nat.le_of_ble_eq_true rfl, Nat.le_of_ble_eq_true rfl⟩ rfl (Nat.le_of_ble_eq_true rfl) dX3_hasEntry_22 (rg_ex2 ?_)
        show rg_G κ Γ rg_tC 3 0 0 (22 + 3) [(0, .ref (κ.2.2.2 6)), (1, .int (rg_I ((r : Nat) : Int))), (2, .int (rg_I ((b : Nat) : Int)))] [.int (rg_I (rg_b (¬ en (r * 40 + b) = -1)))] σ
        refine rg_if_eq F 30 dX3_hasEntry_25 (by decide) (by have b0 := rg_b_Rg (¬ en (r * 40 + b) = -1); omega) (fun c25_2 => ?_) (fun c25_2 => ?_)
        ·
          have c25_2 := (rg_b_eq0 _).mp c25_2
          refine rg_iinc F (v := ((b + 1 : Nat) : Int)) 2 [(2, .int (rg_I ((b + 1 : Nat) : Int))), (0, .ref (κ.2.2.2 6)), (1, .int (rg_I ((r : Nat) : Int)))] dX3_hasEntry_30 rfl (by omega) (by decide) rfl ?_
          refine rg_goto F 2 dX3_hasEntry_33 (by decide) ?_
          refine rg_sub (lv' := [(0, .ref (κ.2.2.2 6)), (1, .int (rg_I ((r : Nat) : Int))), (2, .int (rg_I ((b + 1 : Nat) : Int)))]) [1, 2, 0] rfl ?_
          exact ih2 (nb - (b + 1)) (by omega) ((b + 1)) rfl (by omega) (fun i hi => by rcases Nat.lt_or_ge i b with z | z; exact hall i z; rw [show i = b by omega]; omega)
        ·
          have c25_2 := (rg_b_ne0 _).mp c25_2
          refine rg_iconst F dX3_hasEntry_28 ?_
          exact hR _ _ _ _ dX3_hasEntry_29 (fun _ => Or.inr rfl) ⟨(rg_b_t ⟨b, by omega, by assumption⟩).symm, rfl⟩
  refine rg_sub (lv' := [(0, .ref (κ.2.2.2 6)), (1, .int (rg_I ((r : Nat) : Int))), (2, .int (rg_I 0))]) [1, 2, 0] rfl ?_
  exact L2 _ (0) rfl (by omega) (fun i hi => absurd hi (Nat.not_lt_zero i))
set_option maxHeartbeats 4000000 in
set_option maxRecDepth 100000 in
/-- countPlaces: how many have each place of a race, and a lower one -/
theorem k_X3_countPlaces (κ : rg_K) (σ : rg_S) (r : Nat) (en : Nat → Int) (ar : Nat → Int) (w0 : Nat → Int) (nb : Nat) (h25 : σ 25 = en) (h26 : σ 26 = ar) (h33 : σ 33 = w0) (h1_2 : σ 1 2 = ((nb : Nat) : Int)) (hr : r < 16) (hnb : nb ≤ 40) (hen : ∀ j, rg_Rg (en j)) (hok : ∀ j, en j = 0 → 1 ≤ ar j ∧ ar j ≤ 99) (hw0 : w0 0 = 0) : rg_CV κ rg_tC yX3_countPlaces cX3_countPlaces 4 1 23 [.ref (κ.2.2.2 6), .int (rg_I ((r : Nat) : Int))] σ (fun σ9 => σ9 = (rg_wr (rg_wr σ 32 (rg_wp en ar r nb)) 33 (rg_wl w0 (rg_wp en ar r nb) 100))) := by
  refine rg_entV [(0, .ref (κ.2.2.2 6)), (1, .int (rg_I ((r : Nat) : Int)))] rfl (by decide +kernel) (Nat.le_of_ble_eq_true rfl) (fun Γ F hR => ?_)
  refine rg_aload_n F 0 0 rfl dX3_countPlaces_0 rfl ?_
  refine rg_get F 6 9 tC6 cX3 k_lays_X3 (by decide) k_fl_X3_32 rfl (v := .ref (κ.2.2.2 32)) rfl dX3_countPlaces_1 ?_
  refine rg_iconst F dX3_countPlaces_4 ?_
  refine rg_callSV F [.ref (κ.2.2.2 32), .int (rg_I 0)] [] (k_J7_fill_53178_32 κ σ (0)) v_J7_fill_53178 k_st_yJ7_fill_53178 k_ml_X3_109 ⟨Nat.le_of_ble_eq_true rfl, Nat.le_of_ble_eq_true rfl⟩ rfl (Nat.le_of_ble_eq_true rfl) dX3_countPlaces_5 (rg_ex1 ?_)
  refine rg_eq (σ' := (rg_wr σ 32 (fun _ => 0))) rfl ?_
  refine rg_iconst F dX3_countPlaces_8 ?_
  refine rg_istore_n F [(2, .int (rg_I 0)), (0, .ref (κ.2.2.2 6)), (1, .int (rg_I ((r : Nat) : Int)))] dX3_countPlaces_9 rfl (by decide) rfl ?_
  have L10 : ∀ (n10 : Nat) (b : Nat), n10 = nb - b → (b ≤ nb) → rg_G κ Γ rg_tC 4 0 0 10 [(0, .ref (κ.2.2.2 6)), (1, .int (rg_I ((r : Nat) : Int))), (2, .int (rg_I ((b : Nat) : Int)))] [] (rg_wr σ 32 (rg_wp en ar r b)) := by
    intro n10
    induction n10 using Nat.strongRecOn with
    | _ n10 ih10 =>
      intro b hn10 hb
      refine rg_iload_n F 2 2 rfl dX3_countPlaces_10 rfl ?_
      refine rg_aload_n F 0 0 rfl dX3_countPlaces_11 rfl ?_
      refine rg_get F 6 3 tC6 cX3 k_lays_X3 (by decide) k_fl_X3_38 rfl (v := .ref (κ.2.2.2 1)) rfl dX3_countPlaces_12 ?_
      refine rg_get F 1 2 tC1 cX0 k_lays_X0 (by decide) k_fl_X3_102 rfl (v := .int (rg_I ((nb : Nat) : Int))) (congrArg (fun x => Value.int (rg_I x)) h1_2) dX3_countPlaces_15 ?_
      refine rg_icmp_ge F 63 dX3_countPlaces_18 (by decide) (by omega) (by omega) (fun c18_1 => ?_) (fun c18_1 => ?_)
      ·
        refine rg_iconst F dX3_countPlaces_63 ?_
        refine rg_istore_n F [(2, .int (rg_I 1)), (0, .ref (κ.2.2.2 6)), (1, .int (rg_I ((r : Nat) : Int)))] dX3_countPlaces_64 rfl (by decide) rfl ?_
        have L65 : ∀ (n65 : Nat) (p : Nat), n65 = 100 - p → (1 ≤ p) → (p ≤ 100) → rg_G κ Γ rg_tC 4 0 0 65 [(0, .ref (κ.2.2.2 6)), (1, .int (rg_I ((r : Nat) : Int))), (2, .int (rg_I ((p : Nat) : Int)))] [] (rg_wr (rg_wr σ 32 (rg_wp en ar r nb)) 33 (rg_wl w0 (rg_wp en ar r nb) p)) := by
          intro n65
          induction n65 using Nat.strongRecOn with
          | _ n65 ih65 =>
            intro p hn65 hp1 hp2
            refine rg_iload_n F 2 2 rfl dX3_countPlaces_65 rfl ?_
            refine rg_bipush F dX3_countPlaces_66 (by decide +kernel) ?_
            refine rg_icmp_gt F 100 dX3_countPlaces_68 (by decide) (by omega) (by omega) (fun c68_2 => ?_) (fun c68_2 => ?_)
            ·
              exact hR _ _ _ dX3_countPlaces_100 (rg_wr_congr (f := (rg_wl w0 (rg_wp en ar r nb) p)) (g := (rg_wl w0 (rg_wp en ar r nb) 100)) 33 (rg_wr_congr (f := (rg_wp en ar r nb)) (g := (rg_wp en ar r nb)) 32 rfl rfl) (congrArg (rg_wl _ _) (by omega)))
            ·
              refine rg_aload_n F 0 0 rfl dX3_countPlaces_71 rfl ?_
              refine rg_get F 6 10 tC6 cX3 k_lays_X3 (by decide) k_fl_X3_35 rfl (v := .ref (κ.2.2.2 33)) rfl dX3_countPlaces_72 ?_
              refine rg_iload_n F 2 2 rfl dX3_countPlaces_75 rfl ?_
              refine rg_aload_n F 0 0 rfl dX3_countPlaces_76 rfl ?_
              refine rg_get F 6 10 tC6 cX3 k_lays_X3 (by decide) k_fl_X3_35 rfl (v := .ref (κ.2.2.2 33)) rfl dX3_countPlaces_77 ?_
              refine rg_iload_n F 2 2 rfl dX3_countPlaces_80 rfl ?_
              refine rg_iconst F dX3_countPlaces_81 ?_
              refine rg_isub F dX3_countPlaces_82 ?_
              refine rg_iald F 33 (p - 1) (v := ((rg_wl w0 (rg_wp en ar r nb) p) (p - 1))) tC33 (by omega) (by omega) (by decide) rfl dX3_countPlaces_83 ?_
              refine rg_aload_n F 0 0 rfl dX3_countPlaces_84 rfl ?_
              refine rg_get F 6 9 tC6 cX3 k_lays_X3 (by decide) k_fl_X3_32 rfl (v := .ref (κ.2.2.2 32)) rfl dX3_countPlaces_85 ?_
              refine rg_iload_n F 2 2 rfl dX3_countPlaces_88 rfl ?_
              refine rg_iconst F dX3_countPlaces_89 ?_
              refine rg_isub F dX3_countPlaces_90 ?_
              refine rg_iald F 32 (p - 1) (v := ((rg_wp en ar r nb) (p - 1))) tC32 (by omega) (by omega) (by decide) rfl dX3_countPlaces_91 ?_
              refine rg_iadd F dX3_countPlaces_92 ?_
              refine rg_iast F 33 p tC33 (by omega) (by omega) (by decide) (f9 := (rg_wl w0 (rg_wp en ar r nb) p)) rfl (rg_wr (rg_wr σ 32 (rg_wp en ar r nb)) 33 (rg_up (rg_wl w0 (rg_wp en ar r nb) p) p (((rg_wl w0 (rg_wp en ar r nb) p) (p - 1)) + ((rg_wp en ar r nb) (p - 1))))) (rg_wr_wr _ 33 _ _) dX3_countPlaces_93 ?_
              refine rg_iinc F (v := ((p + 1 : Nat) : Int)) 2 [(2, .int (rg_I ((p + 1 : Nat) : Int))), (0, .ref (κ.2.2.2 6)), (1, .int (rg_I ((r : Nat) : Int)))] dX3_countPlaces_94 rfl (by omega) (by decide) rfl ?_
              refine rg_goto F 65 dX3_countPlaces_97 (by decide) ?_
              refine rg_eq (σ' := (rg_wr (rg_wr σ 32 (rg_wp en ar r nb)) 33 (rg_wl w0 (rg_wp en ar r nb) (p + 1)))) (rg_wr_congr (f := (rg_up (rg_wl w0 (rg_wp en ar r nb) p) p (((rg_wl w0 (rg_wp en ar r nb) p) (p - 1)) + ((rg_wp en ar r nb) (p - 1))))) (g := (rg_wl w0 (rg_wp en ar r nb) (p + 1))) 33 (rg_wr_congr (f := (rg_wp en ar r nb)) (g := (rg_wp en ar r nb)) 32 rfl rfl) (rg_wl_s _ _ (by omega) rfl)) ?_
              refine rg_sub (lv' := [(0, .ref (κ.2.2.2 6)), (1, .int (rg_I ((r : Nat) : Int))), (2, .int (rg_I ((p + 1 : Nat) : Int)))]) [1, 2, 0] rfl ?_
              exact ih65 (100 - (p + 1)) (by omega) ((p + 1)) rfl (by omega) (by omega)
        refine rg_eq (σ' := (rg_wr (rg_wr σ 32 (rg_wp en ar r nb)) 33 (rg_wl w0 (rg_wp en ar r nb) 1))) (((rg_wr_self (σ := (rg_wr σ 32 (rg_wp en ar r b))) (k := 33) (f := w0) h33).trans rfl).trans (rg_wr_congr (f := w0) (g := (rg_wl w0 (rg_wp en ar r nb) 1)) 33 (rg_wr_congr (f := (rg_wp en ar r b)) (g := (rg_wp en ar r nb)) 32 rfl (congrArg (rg_wp en ar r) (by omega))) (rg_wl_1 hw0))) ?_
        refine rg_sub (lv' := [(0, .ref (κ.2.2.2 6)), (1, .int (rg_I ((r : Nat) : Int))), (2, .int (rg_I 1))]) [1, 2, 0] rfl ?_
        exact L65 _ (1) rfl (by omega) (by omega)
      ·
        refine rg_iload_n F 1 1 rfl dX3_countPlaces_21 rfl ?_
        refine rg_iload_n F 2 2 rfl dX3_countPlaces_22 rfl ?_
        refine rg_callNI F [.int (rg_I ((r : Nat) : Int)), .int (rg_I ((b : Nat) : Int))] [] (k_X9_cell κ rg_tC (rg_wr σ 32 (rg_wp en ar r b)) (r) (b)) v_X9_cell k_st_yX9_cell k_mn_X3_95 ⟨Nat.le_of_ble_eq_true rfl, Nat.le_of_ble_eq_true rfl⟩ rfl (Nat.le_of_ble_eq_true rfl) dX3_countPlaces_23 (rg_ex2 ?_)
        show rg_G κ Γ rg_tC 4 0 0 (23 + 3) [(0, .ref (κ.2.2.2 6)), (1, .int (rg_I ((r : Nat) : Int))), (2, .int (rg_I ((b : Nat) : Int)))] [.int (rg_I ((r * 40 + b : Nat) : Int))] (rg_wr σ 32 (rg_wp en ar r b))
        refine rg_istore_n F [(3, .int (rg_I ((r * 40 + b : Nat) : Int))), (0, .ref (κ.2.2.2 6)), (1, .int (rg_I ((r : Nat) : Int))), (2, .int (rg_I ((b : Nat) : Int)))] dX3_countPlaces_26 rfl (by decide) rfl ?_
        refine rg_aload_n F 1 0 rfl dX3_countPlaces_27 rfl ?_
        refine rg_get F 6 0 tC6 cX3 k_lays_X3 (by decide) k_fl_X3_12 rfl (v := .ref (κ.2.2.2 10)) rfl dX3_countPlaces_28 ?_
        refine rg_get F 10 0 tC10 cX2 k_lays_X2 (by decide) k_fl_X3_115 rfl (v := .ref (κ.2.2.2 25)) rfl dX3_countPlaces_31 ?_
        refine rg_iload_n F 0 3 rfl dX3_countPlaces_34 rfl ?_
        refine rg_iald F 25 (r * 40 + b) (v := (en (r * 40 + b))) tC25 (by omega) (by omega) (by decide) (congrFun h25 (r * 40 + b)) dX3_countPlaces_35 ?_
        refine rg_if_ne F 57 dX3_countPlaces_36 (by decide) (by have b0 := hen ((r * 40 + b)); omega) (fun c36_3 => ?_) (fun c36_3 => ?_)
        ·
          refine rg_iinc F (v := ((b + 1 : Nat) : Int)) 3 [(2, .int (rg_I ((b + 1 : Nat) : Int))), (3, .int (rg_I ((r * 40 + b : Nat) : Int))), (0, .ref (κ.2.2.2 6)), (1, .int (rg_I ((r : Nat) : Int)))] dX3_countPlaces_57 rfl (by omega) (by decide) rfl ?_
          refine rg_goto F 10 dX3_countPlaces_60 (by decide) ?_
          refine rg_eq (σ' := (rg_wr σ 32 (rg_wp en ar r (b + 1)))) (rg_wr_congr (f := (rg_wp en ar r b)) (g := (rg_wp en ar r (b + 1))) 32 rfl (by first | exact rg_wp_t (by assumption) (by omega) | exact rg_wp_f (by assumption))) ?_
          refine rg_sub (lv' := [(0, .ref (κ.2.2.2 6)), (1, .int (rg_I ((r : Nat) : Int))), (2, .int (rg_I ((b + 1 : Nat) : Int)))]) [2, 3, 0] rfl ?_
          exact ih10 (nb - (b + 1)) (by omega) ((b + 1)) rfl (by omega)
        ·
          refine rg_aload_n F 1 0 rfl dX3_countPlaces_39 rfl ?_
          refine rg_get F 6 9 tC6 cX3 k_lays_X3 (by decide) k_fl_X3_32 rfl (v := .ref (κ.2.2.2 32)) rfl dX3_countPlaces_40 ?_
          refine rg_aload_n F 1 0 rfl dX3_countPlaces_43 rfl ?_
          refine rg_get F 6 0 tC6 cX3 k_lays_X3 (by decide) k_fl_X3_12 rfl (v := .ref (κ.2.2.2 10)) rfl dX3_countPlaces_44 ?_
          refine rg_get F 10 1 tC10 cX2 k_lays_X2 (by decide) k_fl_X3_118 rfl (v := .ref (κ.2.2.2 26)) rfl dX3_countPlaces_47 ?_
          refine rg_iload_n F 0 3 rfl dX3_countPlaces_50 rfl ?_
          have ha := hok (r * 40 + b) (by assumption)
          refine rg_iald F 26 (r * 40 + b) (v := ((Int.toNat (ar (r * 40 + b)) : Nat) : Int)) tC26 (by omega) (by omega) (by decide) ((congrFun h26 (r * 40 + b)).trans (Int.toNat_of_nonneg (by omega)).symm) dX3_countPlaces_51 ?_
          refine rg_dup2 F dX3_countPlaces_52 rfl rfl ?_
          refine rg_iald F 32 (Int.toNat (ar (r * 40 + b))) (v := ((rg_wp en ar r b) (Int.toNat (ar (r * 40 + b))))) tC32 (by omega) (by omega) (by decide) rfl dX3_countPlaces_53 ?_
          refine rg_iconst F dX3_countPlaces_54 ?_
          refine rg_iadd F dX3_countPlaces_55 ?_
          refine rg_iast F 32 (Int.toNat (ar (r * 40 + b))) tC32 (by omega) (by omega) (by decide) (f9 := (rg_wp en ar r b)) rfl (rg_wr σ 32 (rg_up (rg_wp en ar r b) (Int.toNat (ar (r * 40 + b))) (((rg_wp en ar r b) (Int.toNat (ar (r * 40 + b)))) + 1))) (rg_wr_wr _ 32 _ _) dX3_countPlaces_56 ?_
          refine rg_iinc F (v := ((b + 1 : Nat) : Int)) 3 [(2, .int (rg_I ((b + 1 : Nat) : Int))), (3, .int (rg_I ((r * 40 + b : Nat) : Int))), (0, .ref (κ.2.2.2 6)), (1, .int (rg_I ((r : Nat) : Int)))] dX3_countPlaces_57 rfl (by omega) (by decide) rfl ?_
          refine rg_goto F 10 dX3_countPlaces_60 (by decide) ?_
          refine rg_eq (σ' := (rg_wr σ 32 (rg_wp en ar r (b + 1)))) (rg_wr_congr (f := (rg_up (rg_wp en ar r b) (Int.toNat (ar (r * 40 + b))) (((rg_wp en ar r b) (Int.toNat (ar (r * 40 + b)))) + 1))) (g := (rg_wp en ar r (b + 1))) 32 rfl (by first | exact rg_wp_t (by assumption) (by omega) | exact rg_wp_f (by assumption))) ?_
          refine rg_sub (lv' := [(0, .ref (κ.2.2.2 6)), (1, .int (rg_I ((r : Nat) : Int))), (2, .int (rg_I ((b + 1 : Nat) : Int)))]) [2, 3, 0] rfl ?_
          exact ih10 (nb - (b + 1)) (by omega) ((b + 1)) rfl (by omega)
  refine rg_eq (σ' := (rg_wr σ 32 (rg_wp en ar r 0))) (rg_wr_congr (f := (fun _ => 0)) (g := (rg_wp en ar r 0)) 32 rfl (rg_wp_0 _ _ _)) ?_
  refine rg_sub (lv' := [(0, .ref (κ.2.2.2 6)), (1, .int (rg_I ((r : Nat) : Int))), (2, .int (rg_I 0))]) [1, 2, 0] rfl ?_
  exact L10 _ (0) rfl (by omega)
set_option maxHeartbeats 4000000 in
set_option maxRecDepth 100000 in
/-- pointsOfLast: 10 N + 10 -/
theorem k_X3_pointsOfLast (κ : rg_K) (σ : rg_S) (r : Nat) (sz : Nat → Int) (h31 : σ 31 = sz) (hr : r < 16) : rg_CI κ rg_tC yX3_pointsOfLast cX3_pointsOfLast 2 FieldType.int 0 0 [.ref (κ.2.2.2 6), .int (rg_I ((r : Nat) : Int))] σ (fun r9 σ9 => r9 = (10 * sz r + 10) ∧ σ9 = σ) := by
  refine rg_entI [(0, .ref (κ.2.2.2 6)), (1, .int (rg_I ((r : Nat) : Int)))] rfl (by decide +kernel) (Nat.le_of_ble_eq_true rfl) (by first | exact Or.inl rfl | exact Or.inr rfl) (fun Γ F hR => ?_)
  refine rg_bipush F dX3_pointsOfLast_0 (by decide +kernel) ?_
  refine rg_aload_n F 0 0 rfl dX3_pointsOfLast_2 rfl ?_
  refine rg_get F 6 8 tC6 cX3 k_lays_X3 (by decide) k_fl_X3_29 rfl (v := .ref (κ.2.2.2 31)) rfl dX3_pointsOfLast_3 ?_
  refine rg_iload_n F 1 1 rfl dX3_pointsOfLast_6 rfl ?_
  refine rg_iald F 31 r (v := (sz r)) tC31 (by omega) (by omega) (by decide) (congrFun h31 r) dX3_pointsOfLast_7 ?_
  refine rg_imul F dX3_pointsOfLast_8 ?_
  refine rg_bipush F dX3_pointsOfLast_9 (by decide +kernel) ?_
  refine rg_iadd F dX3_pointsOfLast_11 ?_
  exact hR _ _ _ _ dX3_pointsOfLast_12 (fun h => nomatch h) ⟨rfl, rfl⟩
set_option maxHeartbeats 4000000 in
set_option maxRecDepth 100000 in
/-- pointsOfPlace -/
theorem k_X3_pointsOfPlace (κ : rg_K) (σ : rg_S) (r p : Nat) (q : Int) (sz : Nat → Int) (wp : Nat → Int) (wl : Nat → Int) (h31 : σ 31 = sz) (h32 : σ 32 = wp) (h33 : σ 33 = wl) (hr : r < 16) (hp : p < 100) (hsz : 0 ≤ sz r ∧ sz r ≤ 40) (hwp : 0 ≤ wp p ∧ wp p ≤ 40) (hwl : 0 ≤ wl p ∧ wl p ≤ 40) (hq : 0 ≤ q ∧ q ≤ 100) : rg_CI κ rg_tC yX3_pointsOfPlace cX3_pointsOfPlace 6 FieldType.int 1 21 [.ref (κ.2.2.2 6), .int (rg_I ((r : Nat) : Int)), .int (rg_I ((p : Nat) : Int)), .int (rg_I q)] σ (fun r9 σ9 => r9 = (rg_pp (sz r) (wp p) (wl p) q) ∧ σ9 = σ) := by
  have hm1 : 0 ≤ sz r * q := Int.mul_nonneg hsz.1 hq.1
  have hm2 : sz r * q ≤ 4000 := Int.le_trans (Int.mul_le_mul hsz.2 hq.2 hq.1 (by omega)) (by omega)
  refine rg_entI [(0, .ref (κ.2.2.2 6)), (1, .int (rg_I ((r : Nat) : Int))), (2, .int (rg_I ((p : Nat) : Int))), (3, .int (rg_I q))] rfl (by decide +kernel) (Nat.le_of_ble_eq_true rfl) (by first | exact Or.inl rfl | exact Or.inr rfl) (fun Γ F hR => ?_)
  refine rg_bipush F dX3_pointsOfPlace_0 (by decide +kernel) ?_
  refine rg_iconst F dX3_pointsOfPlace_2 ?_
  refine rg_aload_n F 0 0 rfl dX3_pointsOfPlace_3 rfl ?_
  refine rg_get F 6 10 tC6 cX3 k_lays_X3 (by decide) k_fl_X3_35 rfl (v := .ref (κ.2.2.2 33)) rfl dX3_pointsOfPlace_4 ?_
  refine rg_iload_n F 2 2 rfl dX3_pointsOfPlace_7 rfl ?_
  refine rg_iald F 33 p (v := (wl p)) tC33 (by omega) (by omega) (by decide) (congrFun h33 p) dX3_pointsOfPlace_8 ?_
  refine rg_iadd F dX3_pointsOfPlace_9 ?_
  refine rg_imul F dX3_pointsOfPlace_10 ?_
  refine rg_iconst F dX3_pointsOfPlace_11 ?_
  refine rg_aload_n F 0 0 rfl dX3_pointsOfPlace_12 rfl ?_
  refine rg_get F 6 9 tC6 cX3 k_lays_X3 (by decide) k_fl_X3_32 rfl (v := .ref (κ.2.2.2 32)) rfl dX3_pointsOfPlace_13 ?_
  refine rg_iload_n F 2 2 rfl dX3_pointsOfPlace_16 rfl ?_
  refine rg_iald F 32 p (v := (wp p)) tC32 (by omega) (by omega) (by decide) (congrFun h32 p) dX3_pointsOfPlace_17 ?_
  refine rg_iconst F dX3_pointsOfPlace_18 ?_
  refine rg_isub F dX3_pointsOfPlace_19 ?_
  refine rg_imul F dX3_pointsOfPlace_20 ?_
  refine rg_iadd F dX3_pointsOfPlace_21 ?_
  refine rg_istore F [(4, .int (rg_I ((10 * (1 + (wl p))) + (5 * ((wp p) - 1))))), (0, .ref (κ.2.2.2 6)), (1, .int (rg_I ((r : Nat) : Int))), (2, .int (rg_I ((p : Nat) : Int))), (3, .int (rg_I q))] dX3_pointsOfPlace_22 (by decide) rfl ?_
  refine rg_aload_n F 1 0 rfl dX3_pointsOfPlace_24 rfl ?_
  refine rg_get F 6 8 tC6 cX3 k_lays_X3 (by decide) k_fl_X3_29 rfl (v := .ref (κ.2.2.2 31)) rfl dX3_pointsOfPlace_25 ?_
  refine rg_iload_n F 2 1 rfl dX3_pointsOfPlace_28 rfl ?_
  refine rg_iald F 31 r (v := (sz r)) tC31 (by omega) (by omega) (by decide) (congrFun h31 r) dX3_pointsOfPlace_29 ?_
  refine rg_iload_n F 4 3 rfl dX3_pointsOfPlace_30 rfl ?_
  refine rg_imul F dX3_pointsOfPlace_31 ?_
  refine rg_iconst F dX3_pointsOfPlace_32 ?_
  refine rg_iadd F dX3_pointsOfPlace_33 ?_
  refine rg_bipush F dX3_pointsOfPlace_34 (by decide +kernel) ?_
  refine rg_idiv F dX3_pointsOfPlace_36 (by omega) (by omega) ?_
  refine rg_istore F [(5, .int (rg_I ((((sz r) * q) + 5) / 10))), (4, .int (rg_I ((10 * (1 + (wl p))) + (5 * ((wp p) - 1))))), (0, .ref (κ.2.2.2 6)), (1, .int (rg_I ((r : Nat) : Int))), (2, .int (rg_I ((p : Nat) : Int))), (3, .int (rg_I q))] dX3_pointsOfPlace_37 (by decide) rfl ?_
  refine rg_iload F 1 4 rfl dX3_pointsOfPlace_39 ?_
  refine rg_iload F 0 5 rfl dX3_pointsOfPlace_41 ?_
  refine rg_iadd F dX3_pointsOfPlace_43 ?_
  refine rg_aload_n F 2 0 rfl dX3_pointsOfPlace_44 rfl ?_
  refine rg_iload_n F 3 1 rfl dX3_pointsOfPlace_45 rfl ?_
  refine rg_callVI F [.int (rg_I ((r : Nat) : Int))] [.int (rg_I (((10 * (1 + (wl p))) + (5 * ((wp p) - 1))) + ((((sz r) * q) + 5) / 10)))] 6 (k_X3_pointsOfLast κ σ (r) sz (h31) (by first | assumption | omega)) tC6 cX3 v_X3_pointsOfLast i_X3_pointsOfLast k_ml_X3_128 ⟨Nat.le_of_ble_eq_true rfl, Nat.le_of_ble_eq_true rfl⟩ rfl (Nat.le_of_ble_eq_true rfl) dX3_pointsOfPlace_46 (rg_ex2 ?_)
  show rg_G κ Γ rg_tC 6 0 0 (46 + 3) [(5, .int (rg_I ((((sz r) * q) + 5) / 10))), (4, .int (rg_I ((10 * (1 + (wl p))) + (5 * ((wp p) - 1))))), (0, .ref (κ.2.2.2 6)), (1, .int (rg_I ((r : Nat) : Int))), (2, .int (rg_I ((p : Nat) : Int))), (3, .int (rg_I q))] [.int (rg_I (10 * sz r + 10)), .int (rg_I (((10 * (1 + (wl p))) + (5 * ((wp p) - 1))) + ((((sz r) * q) + 5) / 10)))] σ
  refine rg_min F (rest := []) k_ml_X3_131 k_st_yJ9_min_7cf53 k_in_J9 k_co_yJ9_min_7cf53 ⟨Nat.le_of_ble_eq_true rfl, Nat.le_of_ble_eq_true rfl⟩ (by omega) (by omega) dX3_pointsOfPlace_49 ?_
  exact hR _ _ _ _ dX3_pointsOfPlace_52 (fun h => nomatch h) ⟨rfl, rfl⟩
set_option maxHeartbeats 4000000 in
set_option maxRecDepth 100000 in
/-- pointsWithoutOthers -/
theorem k_X3_pointsWithoutOthers (κ : rg_K) (σ : rg_S) (r j : Nat) (en : Nat → Int) (ar : Nat → Int) (pe : Nat → Int) (sz : Nat → Int) (wp : Nat → Int) (wl : Nat → Int) (h25 : σ 25 = en) (h26 : σ 26 = ar) (h27 : σ 27 = pe) (h31 : σ 31 = sz) (h32 : σ 32 = wp) (h33 : σ 33 = wl) (hr : r < 16) (hj : j < 640) (hok : rg_okE en ar pe) (hsz : 0 ≤ sz r ∧ sz r ≤ 40) (hwp : ∀ p, 0 ≤ wp p ∧ wp p ≤ 40) (hwl : ∀ p, p < 100 → 0 ≤ wl p ∧ wl p ≤ 40) : rg_CI κ rg_tC yX3_pointsWithoutOthers cX3_pointsWithoutOthers 3 FieldType.int 2 46 [.ref (κ.2.2.2 6), .int (rg_I ((r : Nat) : Int)), .int (rg_I ((j : Nat) : Int))] σ (fun r9 σ9 => r9 = (rg_p0 sz wp wl en ar pe r j) ∧ σ9 = σ) := by
  refine rg_entI [(0, .ref (κ.2.2.2 6)), (1, .int (rg_I ((r : Nat) : Int))), (2, .int (rg_I ((j : Nat) : Int)))] rfl (by decide +kernel) (Nat.le_of_ble_eq_true rfl) (by first | exact Or.inl rfl | exact Or.inr rfl) (fun Γ F hR => ?_)
  refine rg_aload_n F 0 0 rfl dX3_pointsWithoutOthers_0 rfl ?_
  refine rg_get F 6 0 tC6 cX3 k_lays_X3 (by decide) k_fl_X3_12 rfl (v := .ref (κ.2.2.2 10)) rfl dX3_pointsWithoutOthers_1 ?_
  refine rg_get F 10 0 tC10 cX2 k_lays_X2 (by decide) k_fl_X3_115 rfl (v := .ref (κ.2.2.2 25)) rfl dX3_pointsWithoutOthers_4 ?_
  refine rg_iload_n F 2 2 rfl dX3_pointsWithoutOthers_7 rfl ?_
  refine rg_iald F 25 j (v := (en j)) tC25 (by omega) (by omega) (by decide) (congrFun h25 j) dX3_pointsWithoutOthers_8 ?_
  by_cases z0 : en j = 0
  · refine rg_lookup F (off := 27) 36 dX3_pointsWithoutOthers_9 (by have b0 := rg_okE_en hok (j); omega) (by decide) (by rw [z0]; decide) (by decide) ?_
    have hj0 := hok j
    refine rg_aload_n F 0 0 rfl dX3_pointsWithoutOthers_36 rfl ?_
    refine rg_iload_n F 1 1 rfl dX3_pointsWithoutOthers_37 rfl ?_
    refine rg_aload_n F 0 0 rfl dX3_pointsWithoutOthers_38 rfl ?_
    refine rg_get F 6 0 tC6 cX3 k_lays_X3 (by decide) k_fl_X3_12 rfl (v := .ref (κ.2.2.2 10)) rfl dX3_pointsWithoutOthers_39 ?_
    refine rg_get F 10 1 tC10 cX2 k_lays_X2 (by decide) k_fl_X3_118 rfl (v := .ref (κ.2.2.2 26)) rfl dX3_pointsWithoutOthers_42 ?_
    refine rg_iload_n F 2 2 rfl dX3_pointsWithoutOthers_45 rfl ?_
    refine rg_iald F 26 j (v := ((Int.toNat (ar j) : Nat) : Int)) tC26 (by omega) (by omega) (by decide) ((congrFun h26 j).trans (Int.toNat_of_nonneg (by omega)).symm) dX3_pointsWithoutOthers_46 ?_
    refine rg_aload_n F 0 0 rfl dX3_pointsWithoutOthers_47 rfl ?_
    refine rg_get F 6 0 tC6 cX3 k_lays_X3 (by decide) k_fl_X3_12 rfl (v := .ref (κ.2.2.2 10)) rfl dX3_pointsWithoutOthers_48 ?_
    refine rg_get F 10 2 tC10 cX2 k_lays_X2 (by decide) k_fl_X3_121 rfl (v := .ref (κ.2.2.2 27)) rfl dX3_pointsWithoutOthers_51 ?_
    refine rg_iload_n F 2 2 rfl dX3_pointsWithoutOthers_54 rfl ?_
    refine rg_iald F 27 j (v := (pe j)) tC27 (by omega) (by omega) (by decide) (congrFun h27 j) dX3_pointsWithoutOthers_55 ?_
    refine rg_callVI F [.int (rg_I ((r : Nat) : Int)), .int (rg_I ((Int.toNat (ar j) : Nat) : Int)), .int (rg_I (pe j))] [] 6 (k_X3_pointsOfPlace κ σ (r) ((Int.toNat (ar j))) ((pe j)) sz wp wl (h31) (h32) (h33) (by first | assumption | omega) (by omega) (by first | assumption | omega) (hwp _) (hwl _ (by omega)) (by omega)) tC6 cX3 v_X3_pointsOfPlace i_X3_pointsOfPlace k_ml_X3_124 ⟨Nat.le_of_ble_eq_true rfl, Nat.le_of_ble_eq_true rfl⟩ rfl (Nat.le_of_ble_eq_true rfl) dX3_pointsWithoutOthers_56 (rg_ex2 ?_)
    show rg_G κ Γ rg_tC 3 0 0 (56 + 3) [(0, .ref (κ.2.2.2 6)), (1, .int (rg_I ((r : Nat) : Int))), (2, .int (rg_I ((j : Nat) : Int)))] [.int (rg_I (rg_pp (sz r) (wp (Int.toNat (ar j))) (wl (Int.toNat (ar j))) (pe j)))] σ
    exact hR _ _ _ _ dX3_pointsWithoutOthers_59 (fun h => nomatch h) ⟨(by unfold rg_p0; first | (rw [if_pos z0]; done) | (rw [if_neg z0, if_pos z8]; done) | (rw [if_neg z0, if_neg z8])), rfl⟩
  by_cases z8 : en j = 8
  · refine rg_lookup F (off := 51) 60 dX3_pointsWithoutOthers_9 (by have b0 := rg_okE_en hok (j); omega) (by decide) (by rw [z8]; decide) (by decide) ?_
    refine rg_aload_n F 0 0 rfl dX3_pointsWithoutOthers_60 rfl ?_
    refine rg_get F 6 0 tC6 cX3 k_lays_X3 (by decide) k_fl_X3_12 rfl (v := .ref (κ.2.2.2 10)) rfl dX3_pointsWithoutOthers_61 ?_
    refine rg_get F 10 1 tC10 cX2 k_lays_X2 (by decide) k_fl_X3_118 rfl (v := .ref (κ.2.2.2 26)) rfl dX3_pointsWithoutOthers_64 ?_
    refine rg_iload_n F 2 2 rfl dX3_pointsWithoutOthers_67 rfl ?_
    refine rg_iald F 26 j (v := (ar j)) tC26 (by omega) (by omega) (by decide) (congrFun h26 j) dX3_pointsWithoutOthers_68 ?_
    exact hR _ _ _ _ dX3_pointsWithoutOthers_69 (fun h => nomatch h) ⟨(by unfold rg_p0; first | (rw [if_pos z0]; done) | (rw [if_neg z0, if_pos z8]; done) | (rw [if_neg z0, if_neg z8])), rfl⟩
  · refine rg_lookup F (off := 61) 70 dX3_pointsWithoutOthers_9 (by have b0 := rg_okE_en hok (j); omega) (by decide) (by simp only [Op.lookupswitch.offset]; rw [if_neg (fun h => z0 h.symm), if_neg (fun h => z8 h.symm)]) (by decide) ?_
    refine rg_aload_n F 0 0 rfl dX3_pointsWithoutOthers_70 rfl ?_
    refine rg_iload_n F 1 1 rfl dX3_pointsWithoutOthers_71 rfl ?_
    refine rg_callVI F [.int (rg_I ((r : Nat) : Int))] [] 6 (k_X3_pointsOfLast κ σ (r) sz (h31) (by first | assumption | omega)) tC6 cX3 v_X3_pointsOfLast i_X3_pointsOfLast k_ml_X3_128 ⟨Nat.le_of_ble_eq_true rfl, Nat.le_of_ble_eq_true rfl⟩ rfl (Nat.le_of_ble_eq_true rfl) dX3_pointsWithoutOthers_72 (rg_ex2 ?_)
    show rg_G κ Γ rg_tC 3 0 0 (72 + 3) [(0, .ref (κ.2.2.2 6)), (1, .int (rg_I ((r : Nat) : Int))), (2, .int (rg_I ((j : Nat) : Int)))] [.int (rg_I (10 * sz r + 10))] σ
    exact hR _ _ _ _ dX3_pointsWithoutOthers_75 (fun h => nomatch h) ⟨(by unfold rg_p0; first | (rw [if_pos z0]; done) | (rw [if_neg z0, if_pos z8]; done) | (rw [if_neg z0, if_neg z8])), rfl⟩
