/-! Contracts of the class's small methods (laid by program). -/
set_option maxHeartbeats 400000 in
set_option maxRecDepth 100000 in
/-- addOne: a boat more -/
theorem k_X0_addOne (κ : rg_K) (σ : rg_S) (nb : Nat) (h1_2 : σ 1 2 = ((nb : Nat) : Int)) (hnb : nb < 40) : rg_CI κ rg_tC yX0_addOne cX0_addOne 1 FieldType.int 0 0 [.ref (κ.2.2.2 1)] σ (fun r9 σ9 => r9 = ((nb : Nat) : Int) ∧ σ9 = (rg_wr σ 1 (rg_up (σ 1) 2 (((nb : Nat) : Int) + 1)))) := by
  refine rg_entI [(0, .ref (κ.2.2.2 1))] rfl (by decide +kernel) (Nat.le_of_ble_eq_true rfl) (by first | exact Or.inl rfl | exact Or.inr rfl) (fun Γ F hR => ?_)
  refine rg_aload_n F 0 0 rfl dX0_addOne_0 rfl ?_
  refine rg_dup F dX0_addOne_1 rfl ?_
  refine rg_get F 1 2 tC1 cX0 k_lays_X0 (by decide) k_fl_X0_18 rfl (v := .int (rg_I ((nb : Nat) : Int))) (congrArg (fun x => Value.int (rg_I x)) h1_2) dX0_addOne_2 ?_
  refine rg_iconst F dX0_addOne_5 ?_
  refine rg_iadd F dX0_addOne_6 ?_
  refine rg_put F 1 2 tC1 cX0 k_lays_X0 tyX0_ok nmX0 (by decide) k_fl_X0_18 rfl rfl rfl rfl (f9 := (σ 1)) rfl (rg_wr σ 1 (rg_up (σ 1) 2 (((nb : Nat) : Int) + 1))) rfl dX0_addOne_7 ?_
  refine rg_aload_n F 0 0 rfl dX0_addOne_10 rfl ?_
  refine rg_get F 1 2 tC1 cX0 k_lays_X0 (by decide) k_fl_X0_18 rfl (v := .int (rg_I (((nb : Nat) : Int) + 1))) rfl dX0_addOne_11 ?_
  refine rg_iconst F dX0_addOne_14 ?_
  refine rg_isub F dX0_addOne_15 ?_
  exact hR _ _ _ _ dX0_addOne_16 (fun h => nomatch h) ⟨(by omega), rfl⟩
set_option maxHeartbeats 400000 in
set_option maxRecDepth 100000 in
/-- addOne: a decision more -/
theorem k_X1_addOne (κ : rg_K) (σ : rg_S) (j c a : Int) (dc : Nat → Int) (dk : Nat → Int) (da : Nat → Int) (nd : Nat) (h19 : σ 19 = dc) (h20 : σ 20 = dk) (h21 : σ 21 = da) (h4_4 : σ 4 4 = ((nd : Nat) : Int)) (hnd : nd ≤ 40) : rg_CI κ rg_tC yX1_addOne cX1_addOne 4 FieldType.int 0 0 [.ref (κ.2.2.2 4), .int (rg_I j), .int (rg_I c), .int (rg_I a)] σ (fun r9 σ9 => r9 = ((nd : Nat) : Int) ∧ σ9 = (rg_wr (rg_wr (rg_wr (rg_wr σ 4 (rg_up (σ 4) 4 (((nd : Nat) : Int) + 1))) 19 (rg_up dc nd j)) 20 (rg_up dk nd c)) 21 (rg_up da nd a))) := by
  refine rg_entI [(0, .ref (κ.2.2.2 4)), (1, .int (rg_I j)), (2, .int (rg_I c)), (3, .int (rg_I a))] rfl (by decide +kernel) (Nat.le_of_ble_eq_true rfl) (by first | exact Or.inl rfl | exact Or.inr rfl) (fun Γ F hR => ?_)
  refine rg_aload_n F 0 0 rfl dX1_addOne_0 rfl ?_
  refine rg_get F 4 0 tC4 cX1 k_lays_X1 (by decide) k_fl_X1_9 rfl (v := .ref (κ.2.2.2 19)) rfl dX1_addOne_1 ?_
  refine rg_aload_n F 0 0 rfl dX1_addOne_4 rfl ?_
  refine rg_get F 4 4 tC4 cX1 k_lays_X1 (by decide) k_fl_X1_25 rfl (v := .int (rg_I ((nd : Nat) : Int))) (congrArg (fun x => Value.int (rg_I x)) h4_4) dX1_addOne_5 ?_
  refine rg_iload_n F 1 1 rfl dX1_addOne_8 rfl ?_
  refine rg_iast F 19 nd tC19 (by omega) (by omega) (by decide) (f9 := dc) h19 (rg_wr σ 19 (rg_up dc nd j)) rfl dX1_addOne_9 ?_
  refine rg_aload_n F 0 0 rfl dX1_addOne_10 rfl ?_
  refine rg_get F 4 1 tC4 cX1 k_lays_X1 (by decide) k_fl_X1_15 rfl (v := .ref (κ.2.2.2 20)) rfl dX1_addOne_11 ?_
  refine rg_aload_n F 0 0 rfl dX1_addOne_14 rfl ?_
  refine rg_get F 4 4 tC4 cX1 k_lays_X1 (by decide) k_fl_X1_25 rfl (v := .int (rg_I ((nd : Nat) : Int))) (congrArg (fun x => Value.int (rg_I x)) h4_4) dX1_addOne_15 ?_
  refine rg_iload_n F 2 2 rfl dX1_addOne_18 rfl ?_
  refine rg_iast F 20 nd tC20 (by omega) (by omega) (by decide) (f9 := dk) h20 (rg_wr (rg_wr σ 19 (rg_up dc nd j)) 20 (rg_up dk nd c)) rfl dX1_addOne_19 ?_
  refine rg_aload_n F 0 0 rfl dX1_addOne_20 rfl ?_
  refine rg_get F 4 2 tC4 cX1 k_lays_X1 (by decide) k_fl_X1_18 rfl (v := .ref (κ.2.2.2 21)) rfl dX1_addOne_21 ?_
  refine rg_aload_n F 0 0 rfl dX1_addOne_24 rfl ?_
  refine rg_get F 4 4 tC4 cX1 k_lays_X1 (by decide) k_fl_X1_25 rfl (v := .int (rg_I ((nd : Nat) : Int))) (congrArg (fun x => Value.int (rg_I x)) h4_4) dX1_addOne_25 ?_
  refine rg_iload_n F 3 3 rfl dX1_addOne_28 rfl ?_
  refine rg_iast F 21 nd tC21 (by omega) (by omega) (by decide) (f9 := da) h21 (rg_wr (rg_wr (rg_wr σ 19 (rg_up dc nd j)) 20 (rg_up dk nd c)) 21 (rg_up da nd a)) rfl dX1_addOne_29 ?_
  refine rg_aload_n F 0 0 rfl dX1_addOne_30 rfl ?_
  refine rg_dup F dX1_addOne_31 rfl ?_
  refine rg_get F 4 4 tC4 cX1 k_lays_X1 (by decide) k_fl_X1_25 rfl (v := .int (rg_I ((nd : Nat) : Int))) (congrArg (fun x => Value.int (rg_I x)) h4_4) dX1_addOne_32 ?_
  refine rg_iconst F dX1_addOne_35 ?_
  refine rg_iadd F dX1_addOne_36 ?_
  refine rg_put F 4 4 tC4 cX1 k_lays_X1 tyX1_ok nmX1 (by decide) k_fl_X1_25 rfl rfl rfl rfl (f9 := (σ 4)) rfl (rg_wr (rg_wr (rg_wr (rg_wr σ 4 (rg_up (σ 4) 4 (((nd : Nat) : Int) + 1))) 19 (rg_up dc nd j)) 20 (rg_up dk nd c)) 21 (rg_up da nd a)) ((rg_wr_comm _ _ _ (by decide)).trans (rg_wr_congr 21 ((rg_wr_comm _ _ _ (by decide)).trans (rg_wr_congr 20 ((rg_wr_comm _ _ _ (by decide)).trans (rg_wr_congr 19 rfl rfl)) rfl)) rfl)) dX1_addOne_37 ?_
  refine rg_aload_n F 0 0 rfl dX1_addOne_40 rfl ?_
  refine rg_get F 4 4 tC4 cX1 k_lays_X1 (by decide) k_fl_X1_25 rfl (v := .int (rg_I (((nd : Nat) : Int) + 1))) rfl dX1_addOne_41 ?_
  refine rg_iconst F dX1_addOne_44 ?_
  refine rg_isub F dX1_addOne_45 ?_
  exact hR _ _ _ _ dX1_addOne_46 (fun h => nomatch h) ⟨(by omega), rfl⟩
set_option maxHeartbeats 400000 in
set_option maxRecDepth 100000 in
/-- dropLatest -/
theorem k_X1_dropLatest (κ : rg_K) (σ : rg_S) (nd : Nat) (h4_4 : σ 4 4 = ((nd : Nat) : Int)) (hnd : 0 < nd ∧ nd ≤ 41) : rg_CV κ rg_tC yX1_dropLatest cX1_dropLatest 1 0 0 [.ref (κ.2.2.2 4)] σ (fun σ9 => σ9 = (rg_wr σ 4 (rg_up (σ 4) 4 (((nd : Nat) : Int) - 1)))) := by
  refine rg_entV [(0, .ref (κ.2.2.2 4))] rfl (by decide +kernel) (Nat.le_of_ble_eq_true rfl) (fun Γ F hR => ?_)
  refine rg_aload_n F 0 0 rfl dX1_dropLatest_0 rfl ?_
  refine rg_dup F dX1_dropLatest_1 rfl ?_
  refine rg_get F 4 4 tC4 cX1 k_lays_X1 (by decide) k_fl_X1_25 rfl (v := .int (rg_I ((nd : Nat) : Int))) (congrArg (fun x => Value.int (rg_I x)) h4_4) dX1_dropLatest_2 ?_
  refine rg_iconst F dX1_dropLatest_5 ?_
  refine rg_isub F dX1_dropLatest_6 ?_
  refine rg_put F 4 4 tC4 cX1 k_lays_X1 tyX1_ok nmX1 (by decide) k_fl_X1_25 rfl rfl rfl rfl (f9 := (σ 4)) rfl (rg_wr σ 4 (rg_up (σ 4) 4 (((nd : Nat) : Int) - 1))) rfl dX1_dropLatest_7 ?_
  exact hR _ _ _ dX1_dropLatest_10 rfl
set_option maxHeartbeats 400000 in
set_option maxRecDepth 100000 in
/-- addOne: a race more -/
theorem k_X4_addOne (κ : rg_K) (σ : rg_S) (k f : Int) (kd : Nat → Int) (rf : Nat → Int) (nr : Nat) (h13 : σ 13 = kd) (h14 : σ 14 = rf) (h2_3 : σ 2 3 = ((nr : Nat) : Int)) (hnr : nr < 16) : rg_CI κ rg_tC yX4_addOne cX4_addOne 3 FieldType.int 0 0 [.ref (κ.2.2.2 2), .int (rg_I k), .int (rg_I f)] σ (fun r9 σ9 => r9 = ((nr : Nat) : Int) ∧ σ9 = (rg_wr (rg_wr (rg_wr σ 2 (rg_up (σ 2) 3 (((nr : Nat) : Int) + 1))) 13 (rg_up kd nr k)) 14 (rg_up rf nr f))) := by
  refine rg_entI [(0, .ref (κ.2.2.2 2)), (1, .int (rg_I k)), (2, .int (rg_I f))] rfl (by decide +kernel) (Nat.le_of_ble_eq_true rfl) (by first | exact Or.inl rfl | exact Or.inr rfl) (fun Γ F hR => ?_)
  refine rg_aload_n F 0 0 rfl dX4_addOne_0 rfl ?_
  refine rg_get F 2 0 tC2 cX4 k_lays_X4 (by decide) k_fl_X4_9 rfl (v := .ref (κ.2.2.2 13)) rfl dX4_addOne_1 ?_
  refine rg_aload_n F 0 0 rfl dX4_addOne_4 rfl ?_
  refine rg_get F 2 3 tC2 cX4 k_lays_X4 (by decide) k_fl_X4_22 rfl (v := .int (rg_I ((nr : Nat) : Int))) (congrArg (fun x => Value.int (rg_I x)) h2_3) dX4_addOne_5 ?_
  refine rg_iload_n F 1 1 rfl dX4_addOne_8 rfl ?_
  refine rg_iast F 13 nr tC13 (by omega) (by omega) (by decide) (f9 := kd) h13 (rg_wr σ 13 (rg_up kd nr k)) rfl dX4_addOne_9 ?_
  refine rg_aload_n F 0 0 rfl dX4_addOne_10 rfl ?_
  refine rg_get F 2 1 tC2 cX4 k_lays_X4 (by decide) k_fl_X4_15 rfl (v := .ref (κ.2.2.2 14)) rfl dX4_addOne_11 ?_
  refine rg_aload_n F 0 0 rfl dX4_addOne_14 rfl ?_
  refine rg_get F 2 3 tC2 cX4 k_lays_X4 (by decide) k_fl_X4_22 rfl (v := .int (rg_I ((nr : Nat) : Int))) (congrArg (fun x => Value.int (rg_I x)) h2_3) dX4_addOne_15 ?_
  refine rg_iload_n F 2 2 rfl dX4_addOne_18 rfl ?_
  refine rg_iast F 14 nr tC14 (by omega) (by omega) (by decide) (f9 := rf) h14 (rg_wr (rg_wr σ 13 (rg_up kd nr k)) 14 (rg_up rf nr f)) rfl dX4_addOne_19 ?_
  refine rg_aload_n F 0 0 rfl dX4_addOne_20 rfl ?_
  refine rg_dup F dX4_addOne_21 rfl ?_
  refine rg_get F 2 3 tC2 cX4 k_lays_X4 (by decide) k_fl_X4_22 rfl (v := .int (rg_I ((nr : Nat) : Int))) (congrArg (fun x => Value.int (rg_I x)) h2_3) dX4_addOne_22 ?_
  refine rg_iconst F dX4_addOne_25 ?_
  refine rg_iadd F dX4_addOne_26 ?_
  refine rg_put F 2 3 tC2 cX4 k_lays_X4 tyX4_ok nmX4 (by decide) k_fl_X4_22 rfl rfl rfl rfl (f9 := (σ 2)) rfl (rg_wr (rg_wr (rg_wr σ 2 (rg_up (σ 2) 3 (((nr : Nat) : Int) + 1))) 13 (rg_up kd nr k)) 14 (rg_up rf nr f)) ((rg_wr_comm _ _ _ (by decide)).trans (rg_wr_congr 14 ((rg_wr_comm _ _ _ (by decide)).trans (rg_wr_congr 13 rfl rfl)) rfl)) dX4_addOne_27 ?_
  refine rg_aload_n F 0 0 rfl dX4_addOne_30 rfl ?_
  refine rg_get F 2 3 tC2 cX4 k_lays_X4 (by decide) k_fl_X4_22 rfl (v := .int (rg_I (((nr : Nat) : Int) + 1))) rfl dX4_addOne_31 ?_
  refine rg_iconst F dX4_addOne_34 ?_
  refine rg_isub F dX4_addOne_35 ?_
  exact hR _ _ _ _ dX4_addOne_36 (fun h => nomatch h) ⟨(by omega), rfl⟩
set_option maxHeartbeats 400000 in
set_option maxRecDepth 100000 in
/-- isEntry -/
theorem k_X9_isEntry (κ : rg_K) (tb : List rg_Sh) (σ : rg_S) (c x : Int) (hcr : rg_Rg c) (hx : rg_Rg x) : rg_CI κ tb yX9_isEntry cX9_isEntry 2 FieldType.boolean 0 0 [.int (rg_I c), .int (rg_I x)] σ (fun r9 σ9 => r9 = (rg_b (rg_gd c x)) ∧ σ9 = σ) := by
  refine rg_entI [(0, .int (rg_I c)), (1, .int (rg_I x))] rfl (by decide +kernel) (Nat.le_of_ble_eq_true rfl) (by first | exact Or.inl rfl | exact Or.inr rfl) (fun Γ F hR => ?_)
  refine rg_iload_n F 0 0 rfl dX9_isEntry_0 rfl ?_
  refine rg_if_ne F 21 dX9_isEntry_1 (by decide) (by omega) (fun c1_1 => ?_) (fun c1_1 => ?_)
  ·
    refine rg_iload_n F 0 0 rfl dX9_isEntry_21 rfl ?_
    refine rg_bipush F dX9_isEntry_22 (by decide +kernel) ?_
    refine rg_icmp_ne F 44 dX9_isEntry_24 (by decide) (by omega) (by omega) (fun c24_2 => ?_) (fun c24_2 => ?_)
    ·
      refine rg_iload_n F 0 0 rfl dX9_isEntry_44 rfl ?_
      refine rg_iconst F dX9_isEntry_45 ?_
      refine rg_icmp_lt F 63 dX9_isEntry_46 (by decide) (by omega) (by omega) (fun c46_3 => ?_) (fun c46_3 => ?_)
      ·
        refine rg_iconst F dX9_isEntry_63 ?_
        exact hR _ _ _ _ dX9_isEntry_64 (fun _ => Or.inl rfl) ⟨(rg_b_f (by omega)).symm, rfl⟩
      ·
        refine rg_iload_n F 0 0 rfl dX9_isEntry_49 rfl ?_
        refine rg_bipush F dX9_isEntry_50 (by decide +kernel) ?_
        refine rg_icmp_gt F 63 dX9_isEntry_52 (by decide) (by omega) (by omega) (fun c52_4 => ?_) (fun c52_4 => ?_)
        ·
          refine rg_iconst F dX9_isEntry_63 ?_
          exact hR _ _ _ _ dX9_isEntry_64 (fun _ => Or.inl rfl) ⟨(rg_b_f (by omega)).symm, rfl⟩
        ·
          refine rg_iload_n F 1 1 rfl dX9_isEntry_55 rfl ?_
          refine rg_if_ne F 63 dX9_isEntry_56 (by decide) (by omega) (fun c56_5 => ?_) (fun c56_5 => ?_)
          ·
            refine rg_iconst F dX9_isEntry_63 ?_
            exact hR _ _ _ _ dX9_isEntry_64 (fun _ => Or.inl rfl) ⟨(rg_b_f (by omega)).symm, rfl⟩
          ·
            refine rg_iconst F dX9_isEntry_59 ?_
            refine rg_goto F 64 dX9_isEntry_60 (by decide) ?_
            exact hR _ _ _ _ dX9_isEntry_64 (fun _ => Or.inr rfl) ⟨(rg_b_t (by omega)).symm, rfl⟩
    ·
      refine rg_iload_n F 1 1 rfl dX9_isEntry_27 rfl ?_
      refine rg_if_lt F 42 dX9_isEntry_28 (by decide) (by omega) (fun c28_6 => ?_) (fun c28_6 => ?_)
      ·
        refine rg_iconst F dX9_isEntry_42 ?_
        exact hR _ _ _ _ dX9_isEntry_43 (fun _ => Or.inl rfl) ⟨(rg_b_f (by omega)).symm, rfl⟩
      ·
        refine rg_iload_n F 1 1 rfl dX9_isEntry_31 rfl ?_
        refine rg_sipush F dX9_isEntry_32 (by decide +kernel) ?_
        refine rg_icmp_gt F 42 dX9_isEntry_35 (by decide) (by omega) (by omega) (fun c35_7 => ?_) (fun c35_7 => ?_)
        ·
          refine rg_iconst F dX9_isEntry_42 ?_
          exact hR _ _ _ _ dX9_isEntry_43 (fun _ => Or.inl rfl) ⟨(rg_b_f (by omega)).symm, rfl⟩
        ·
          refine rg_iconst F dX9_isEntry_38 ?_
          refine rg_goto F 43 dX9_isEntry_39 (by decide) ?_
          exact hR _ _ _ _ dX9_isEntry_43 (fun _ => Or.inr rfl) ⟨(rg_b_t (by omega)).symm, rfl⟩
  ·
    refine rg_iload_n F 1 1 rfl dX9_isEntry_4 rfl ?_
    refine rg_iconst F dX9_isEntry_5 ?_
    refine rg_icmp_lt F 19 dX9_isEntry_6 (by decide) (by omega) (by omega) (fun c6_8 => ?_) (fun c6_8 => ?_)
    ·
      refine rg_iconst F dX9_isEntry_19 ?_
      exact hR _ _ _ _ dX9_isEntry_20 (fun _ => Or.inl rfl) ⟨(rg_b_f (by omega)).symm, rfl⟩
    ·
      refine rg_iload_n F 1 1 rfl dX9_isEntry_9 rfl ?_
      refine rg_bipush F dX9_isEntry_10 (by decide +kernel) ?_
      refine rg_icmp_gt F 19 dX9_isEntry_12 (by decide) (by omega) (by omega) (fun c12_9 => ?_) (fun c12_9 => ?_)
      ·
        refine rg_iconst F dX9_isEntry_19 ?_
        exact hR _ _ _ _ dX9_isEntry_20 (fun _ => Or.inl rfl) ⟨(rg_b_f (by omega)).symm, rfl⟩
      ·
        refine rg_iconst F dX9_isEntry_15 ?_
        refine rg_goto F 20 dX9_isEntry_16 (by decide) ?_
        exact hR _ _ _ _ dX9_isEntry_20 (fun _ => Or.inr rfl) ⟨(rg_b_t (by omega)).symm, rfl⟩
set_option maxHeartbeats 400000 in
set_option maxRecDepth 100000 in
/-- fitsTheSplit -/
theorem k_X9_fitsTheSplit (κ : rg_K) (σ : rg_S) (k f : Int) (sp : Int) (h1_3 : σ 1 3 = sp) (hsp : sp = 0 ∨ sp = 1) (hk : rg_Rg k) (hf : rg_Rg f) : rg_CI κ rg_tC yX9_fitsTheSplit cX9_fitsTheSplit 3 FieldType.boolean 0 0 [.ref (κ.2.2.2 0), .int (rg_I k), .int (rg_I f)] σ (fun r9 σ9 => r9 = (rg_b ((¬ sp = 0 ∧ ¬ k = 0 ∧ ¬ f = 0) ∨ (sp = 0 ∧ ¬ k = 1 ∧ f = 0))) ∧ σ9 = σ) := by
  refine rg_entI [(0, .ref (κ.2.2.2 0)), (1, .int (rg_I k)), (2, .int (rg_I f))] rfl (by decide +kernel) (Nat.le_of_ble_eq_true rfl) (by first | exact Or.inl rfl | exact Or.inr rfl) (fun Γ F hR => ?_)
  refine rg_aload_n F 0 0 rfl dX9_fitsTheSplit_0 rfl ?_
  refine rg_get F 0 0 tC0 cX9 k_lays_X9 (by decide) k_fl_X9_12 rfl (v := .ref (κ.2.2.2 1)) rfl dX9_fitsTheSplit_1 ?_
  refine rg_get F 1 3 tC1 cX0 k_lays_X0 (by decide) k_fl_X9_82 rfl (v := .int (rg_I sp)) (congrArg (fun x => Value.int (rg_I x)) h1_3) dX9_fitsTheSplit_4 ?_
  refine rg_if_eq F 24 dX9_fitsTheSplit_7 (by decide) (by have b0 := hsp; omega) (fun c7_1 => ?_) (fun c7_1 => ?_)
  ·
    refine rg_iload_n F 1 1 rfl dX9_fitsTheSplit_24 rfl ?_
    refine rg_iconst F dX9_fitsTheSplit_25 ?_
    refine rg_icmp_eq F 37 dX9_fitsTheSplit_26 (by decide) (by omega) (by omega) (fun c26_2 => ?_) (fun c26_2 => ?_)
    ·
      refine rg_iconst F dX9_fitsTheSplit_37 ?_
      exact hR _ _ _ _ dX9_fitsTheSplit_38 (fun _ => Or.inl rfl) ⟨(rg_b_f (by omega)).symm, rfl⟩
    ·
      refine rg_iload_n F 2 2 rfl dX9_fitsTheSplit_29 rfl ?_
      refine rg_if_ne F 37 dX9_fitsTheSplit_30 (by decide) (by omega) (fun c30_3 => ?_) (fun c30_3 => ?_)
      ·
        refine rg_iconst F dX9_fitsTheSplit_37 ?_
        exact hR _ _ _ _ dX9_fitsTheSplit_38 (fun _ => Or.inl rfl) ⟨(rg_b_f (by omega)).symm, rfl⟩
      ·
        refine rg_iconst F dX9_fitsTheSplit_33 ?_
        refine rg_goto F 38 dX9_fitsTheSplit_34 (by decide) ?_
        exact hR _ _ _ _ dX9_fitsTheSplit_38 (fun _ => Or.inr rfl) ⟨(rg_b_t (by omega)).symm, rfl⟩
  ·
    refine rg_iload_n F 1 1 rfl dX9_fitsTheSplit_10 rfl ?_
    refine rg_if_eq F 22 dX9_fitsTheSplit_11 (by decide) (by omega) (fun c11_4 => ?_) (fun c11_4 => ?_)
    ·
      refine rg_iconst F dX9_fitsTheSplit_22 ?_
      exact hR _ _ _ _ dX9_fitsTheSplit_23 (fun _ => Or.inl rfl) ⟨(rg_b_f (by omega)).symm, rfl⟩
    ·
      refine rg_iload_n F 2 2 rfl dX9_fitsTheSplit_14 rfl ?_
      refine rg_if_eq F 22 dX9_fitsTheSplit_15 (by decide) (by omega) (fun c15_5 => ?_) (fun c15_5 => ?_)
      ·
        refine rg_iconst F dX9_fitsTheSplit_22 ?_
        exact hR _ _ _ _ dX9_fitsTheSplit_23 (fun _ => Or.inl rfl) ⟨(rg_b_f (by omega)).symm, rfl⟩
      ·
        refine rg_iconst F dX9_fitsTheSplit_18 ?_
        refine rg_goto F 23 dX9_fitsTheSplit_19 (by decide) ?_
        exact hR _ _ _ _ dX9_fitsTheSplit_23 (fun _ => Or.inr rfl) ⟨(rg_b_t (by omega)).symm, rfl⟩
set_option maxHeartbeats 400000 in
set_option maxRecDepth 100000 in
/-- fleetOfRank -/
theorem k_X9_fleetOfRank (κ : rg_K) (tb : List rg_Sh) (σ : rg_S) (k g v : Int) (hk : rg_Rg k) (hgv : 0 ≤ g ∧ g ≤ 40 ∧ 0 ≤ v ∧ v ≤ 40) : rg_CI κ tb yX9_fleetOfRank cX9_fleetOfRank 3 FieldType.int 0 0 [.int (rg_I k), .int (rg_I g), .int (rg_I v)] σ (fun r9 σ9 => r9 = (rg_pf g v k) ∧ σ9 = σ) := by
  refine rg_entI [(0, .int (rg_I k)), (1, .int (rg_I g)), (2, .int (rg_I v))] rfl (by decide +kernel) (Nat.le_of_ble_eq_true rfl) (by first | exact Or.inl rfl | exact Or.inr rfl) (fun Γ F hR => ?_)
  refine rg_iload_n F 0 0 rfl dX9_fleetOfRank_0 rfl ?_
  refine rg_iload_n F 1 1 rfl dX9_fleetOfRank_1 rfl ?_
  refine rg_icmp_gt F 7 dX9_fleetOfRank_2 (by decide) (by omega) (by omega) (fun c2_1 => ?_) (fun c2_1 => ?_)
  ·
    refine rg_iload_n F 0 0 rfl dX9_fleetOfRank_7 rfl ?_
    refine rg_iload_n F 1 1 rfl dX9_fleetOfRank_8 rfl ?_
    refine rg_iload_n F 2 2 rfl dX9_fleetOfRank_9 rfl ?_
    refine rg_iadd F dX9_fleetOfRank_10 ?_
    refine rg_icmp_gt F 18 dX9_fleetOfRank_11 (by decide) (by omega) (by omega) (fun c11_2 => ?_) (fun c11_2 => ?_)
    ·
      refine rg_iconst F dX9_fleetOfRank_18 ?_
      exact hR _ _ _ _ dX9_fleetOfRank_19 (fun h => nomatch h) ⟨(by unfold rg_pf; first | (rw [if_pos (by assumption)]; done) | (rw [if_neg (by omega), if_pos (by omega)]; done) | (rw [if_neg (by omega), if_neg (by omega)])), rfl⟩
    ·
      refine rg_iconst F dX9_fleetOfRank_14 ?_
      refine rg_goto F 19 dX9_fleetOfRank_15 (by decide) ?_
      exact hR _ _ _ _ dX9_fleetOfRank_19 (fun h => nomatch h) ⟨(by unfold rg_pf; first | (rw [if_pos (by assumption)]; done) | (rw [if_neg (by omega), if_pos (by omega)]; done) | (rw [if_neg (by omega), if_neg (by omega)])), rfl⟩
  ·
    refine rg_iconst F dX9_fleetOfRank_5 ?_
    exact hR _ _ _ _ dX9_fleetOfRank_6 (fun h => nomatch h) ⟨(by unfold rg_pf; first | (rw [if_pos (by assumption)]; done) | (rw [if_neg (by omega), if_pos (by omega)]; done) | (rw [if_neg (by omega), if_neg (by omega)])), rfl⟩
