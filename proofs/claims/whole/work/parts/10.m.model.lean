/-! Contracts of the reference, 7 (laid by program). -/
set_option maxHeartbeats 400000 in
set_option maxRecDepth 100000 in
/-- reckonFor, done -/
theorem k_X10_reckonFor_o (κ : rg_K) (σ : rg_S) (b : Int) (nb : Nat) (nr : Nat) (nd : Nat) (tr : Int) (ns : Nat) (h0_1 : σ 0 1 = ((nb : Nat) : Int)) (h0_4 : σ 0 4 = ((nr : Nat) : Int)) (h0_11 : σ 0 11 = ((nd : Nat) : Int)) (h0_16 : σ 0 16 = tr) (h0_17 : σ 0 17 = ((ns : Nat) : Int)) (hI : rg_IM σ nb nr nd ns tr) (hb : rg_Rg b) (hc : (rg_cI ((nb : Nat) : Int) b) = 0) : rg_CI κ rg_tM yX10_reckonFor cX10_reckonFor 2 FieldType.boolean 5 119 [.ref (κ.2.2.2 0), .int (rg_I b)] σ (fun r9 σ9 => r9 = 1 ∧ σ9 = (rg_wr (rg_wr (rg_wr (rg_wr (rg_wr (rg_wr (rg_wr (rg_wr (rg_wr (rg_wr (rg_wr σ 0 (rg_up (σ 0) 0 0)) 15 (rg_kE σ tr nd nb nr)) 16 (rg_kA σ tr nd nb nr)) 17 (rg_kP σ tr nd nb nr)) 18 (rg_kS σ tr nd nb nr)) 19 (rg_kT σ tr nd nb nr)) 20 (rg_ctb (σ 20) nr nb (fun _ _ => True) (rg_kD σ tr nd nb nr ns))) 21 (rg_hd (σ 21) nb (rg_kG σ tr nd nb nr))) 22 (rg_hd (σ 22) nb (rg_kN σ tr nd nb nr ns))) 23 (rg_hd (σ 23) nb (rg_kM σ tr nd nb nr))) 24 (rg_hd (σ 24) nb (rg_kC σ tr nd nb nr ns)))) := by
  have hnb := hI.hnb
  have hnr := hI.hnr
  have hnd := hI.hnd
  have hns := hI.hns
  refine rg_entI [(0, .ref (κ.2.2.2 0)), (1, .int (rg_I b))] rfl (by decide +kernel) (Nat.le_of_ble_eq_true rfl) (by first | exact Or.inl rfl | exact Or.inr rfl) (fun Γ F hR => ?_)
  refine rg_aload_n F 0 0 rfl dX10_reckonFor_0 rfl ?_
  refine rg_iload_n F 1 1 rfl dX10_reckonFor_1 rfl ?_
  refine rg_iconst F dX10_reckonFor_2 ?_
  refine rg_aload_n F 0 0 rfl dX10_reckonFor_3 rfl ?_
  refine rg_get F 0 1 tM0 cX10 k_lays_X10 (by decide) k_fl_X10_102 rfl (v := .int (rg_I ((nb : Nat) : Int))) (congrArg (fun x => Value.int (rg_I x)) h0_1) dX10_reckonFor_4 ?_
  refine rg_iconst F dX10_reckonFor_7 ?_
  refine rg_isub F dX10_reckonFor_8 ?_
  refine rg_callSI F [.int (rg_I b), .int (rg_I 0), .int (rg_I (((nb : Nat) : Int) - 1))] [.ref (κ.2.2.2 0)] (k_X10_in κ rg_tM σ (b) (0) ((((nb : Nat) : Int) - 1)) (by first | assumption | omega) (by first | assumption | omega) (by first | assumption | omega)) v_X10_in k_st_yX10_in k_ml_X10_172 ⟨Nat.le_of_ble_eq_true rfl, Nat.le_of_ble_eq_true rfl⟩ rfl (Nat.le_of_ble_eq_true rfl) dX10_reckonFor_9 (rg_ex2 ?_)
  show rg_G κ Γ rg_tM 2 0 0 (9 + 3) [(0, .ref (κ.2.2.2 0)), (1, .int (rg_I b))] [.int (rg_I (rg_b (0 ≤ b ∧ b ≤ (((nb : Nat) : Int) - 1)))), .ref (κ.2.2.2 0)] σ
  refine rg_if_eq F 19 dX10_reckonFor_12 (by decide) (by have b0 := rg_b_Rg (0 ≤ b ∧ b ≤ (((nb : Nat) : Int) - 1)); omega) (fun c12_1 => ?_) (fun c12_1 => ?_)
  ·
    have c12_1 := (rg_b_eq0 _).mp c12_1
    refine rg_iconst F dX10_reckonFor_19 ?_
    refine rg_put F 0 0 tM0 cX10 k_lays_X10 tyX10_ok nmX10 (by decide) k_fl_X10_89 rfl rfl rfl rfl (f9 := (σ 0)) rfl (rg_wr σ 0 (rg_up (σ 0) 0 1)) rfl dX10_reckonFor_20 ?_
    refine rg_aload_n F 0 0 rfl dX10_reckonFor_23 rfl ?_
    refine rg_get F 0 0 tM0 cX10 k_lays_X10 (by decide) k_fl_X10_89 rfl (v := .int (rg_I 1)) rfl dX10_reckonFor_24 ?_
    exfalso; unfold rg_cI at hc; (repeat' split at hc) <;> omega
  ·
    have c12_1 := (rg_b_ne0 _).mp c12_1
    refine rg_iconst F dX10_reckonFor_15 ?_
    refine rg_goto F 20 dX10_reckonFor_16 (by decide) ?_
    refine rg_put F 0 0 tM0 cX10 k_lays_X10 tyX10_ok nmX10 (by decide) k_fl_X10_89 rfl rfl rfl rfl (f9 := (σ 0)) rfl (rg_wr σ 0 (rg_up (σ 0) 0 0)) rfl dX10_reckonFor_20 ?_
    refine rg_aload_n F 0 0 rfl dX10_reckonFor_23 rfl ?_
    refine rg_get F 0 0 tM0 cX10 k_lays_X10 (by decide) k_fl_X10_89 rfl (v := .int (rg_I 0)) rfl dX10_reckonFor_24 ?_
    refine rg_if_ne F 34 dX10_reckonFor_27 (by decide) (by omega) (fun c27_2 => ?_) (fun c27_2 => ?_)
    · exfalso; omega
    ·
      refine rg_aload_n F 0 0 rfl dX10_reckonFor_30 rfl ?_
      refine rg_callVV F [] [] 0 (k_X10_reckon κ (rg_wr σ 0 (rg_up (σ 0) 0 0)) (nb) (nr) (nd) (tr) (ns) (h0_1) (h0_4) (h0_11) (h0_16) (h0_17) (rg_IM_0 hI _)) tM0 cX10 v_X10_reckon i_X10_reckon k_ml_X10_190 ⟨Nat.le_of_ble_eq_true rfl, Nat.le_of_ble_eq_true rfl⟩ rfl (Nat.le_of_ble_eq_true rfl) dX10_reckonFor_31 (rg_ex1 ?_)
      refine rg_eq (σ' := (rg_wr (rg_wr (rg_wr (rg_wr (rg_wr (rg_wr (rg_wr (rg_wr (rg_wr (rg_wr (rg_wr σ 0 (rg_up (σ 0) 0 0)) 15 (rg_kE σ tr nd nb nr)) 16 (rg_kA σ tr nd nb nr)) 17 (rg_kP σ tr nd nb nr)) 18 (rg_kS σ tr nd nb nr)) 19 (rg_kT σ tr nd nb nr)) 20 (rg_ctb (σ 20) nr nb (fun _ _ => True) (rg_kD σ tr nd nb nr ns))) 21 (rg_hd (σ 21) nb (rg_kG σ tr nd nb nr))) 22 (rg_hd (σ 22) nb (rg_kN σ tr nd nb nr ns))) 23 (rg_hd (σ 23) nb (rg_kM σ tr nd nb nr))) 24 (rg_hd (σ 24) nb (rg_kC σ tr nd nb nr ns)))) rfl ?_
      refine rg_aload_n F 0 0 rfl dX10_reckonFor_34 rfl ?_
      refine rg_get F 0 0 tM0 cX10 k_lays_X10 (by decide) k_fl_X10_89 rfl (v := .int (rg_I 0)) rfl dX10_reckonFor_35 ?_
      refine rg_if_ne F 45 dX10_reckonFor_38 (by decide) (by omega) (fun c38_3 => ?_) (fun c38_3 => ?_)
      · first | exact absurd c38_3 c27_2 | exact absurd c27_2 c38_3 | exact absurd ((rg_b_ne0 _).mp c38_3) c27_2 | exact absurd c27_2 ((rg_b_eq0 _).mp c38_3)
      ·
        refine rg_iconst F dX10_reckonFor_41 ?_
        refine rg_goto F 46 dX10_reckonFor_42 (by decide) ?_
        exact hR _ _ _ _ dX10_reckonFor_46 (fun _ => Or.inr rfl) ⟨rfl, rfl⟩
set_option maxHeartbeats 400000 in
set_option maxRecDepth 100000 in
/-- reckonFor, refused -/
theorem k_X10_reckonFor_n (κ : rg_K) (σ : rg_S) (b : Int) (nb : Nat) (nr : Nat) (nd : Nat) (tr : Int) (ns : Nat) (h0_1 : σ 0 1 = ((nb : Nat) : Int)) (h0_4 : σ 0 4 = ((nr : Nat) : Int)) (h0_11 : σ 0 11 = ((nd : Nat) : Int)) (h0_16 : σ 0 16 = tr) (h0_17 : σ 0 17 = ((ns : Nat) : Int)) (hI : rg_IM σ nb nr nd ns tr) (hb : rg_Rg b) (hc : ¬ (rg_cI ((nb : Nat) : Int) b) = 0) : rg_CI κ rg_tM yX10_reckonFor cX10_reckonFor 2 FieldType.boolean 5 119 [.ref (κ.2.2.2 0), .int (rg_I b)] σ (fun r9 σ9 => r9 = 0 ∧ σ9 = (rg_wr σ 0 (rg_up (σ 0) 0 (rg_cI ((nb : Nat) : Int) b)))) := by
  have hnb := hI.hnb
  have hnr := hI.hnr
  have hnd := hI.hnd
  have hns := hI.hns
  refine rg_entI [(0, .ref (κ.2.2.2 0)), (1, .int (rg_I b))] rfl (by decide +kernel) (Nat.le_of_ble_eq_true rfl) (by first | exact Or.inl rfl | exact Or.inr rfl) (fun Γ F hR => ?_)
  refine rg_aload_n F 0 0 rfl dX10_reckonFor_0 rfl ?_
  refine rg_iload_n F 1 1 rfl dX10_reckonFor_1 rfl ?_
  refine rg_iconst F dX10_reckonFor_2 ?_
  refine rg_aload_n F 0 0 rfl dX10_reckonFor_3 rfl ?_
  refine rg_get F 0 1 tM0 cX10 k_lays_X10 (by decide) k_fl_X10_102 rfl (v := .int (rg_I ((nb : Nat) : Int))) (congrArg (fun x => Value.int (rg_I x)) h0_1) dX10_reckonFor_4 ?_
  refine rg_iconst F dX10_reckonFor_7 ?_
  refine rg_isub F dX10_reckonFor_8 ?_
  refine rg_callSI F [.int (rg_I b), .int (rg_I 0), .int (rg_I (((nb : Nat) : Int) - 1))] [.ref (κ.2.2.2 0)] (k_X10_in κ rg_tM σ (b) (0) ((((nb : Nat) : Int) - 1)) (by first | assumption | omega) (by first | assumption | omega) (by first | assumption | omega)) v_X10_in k_st_yX10_in k_ml_X10_172 ⟨Nat.le_of_ble_eq_true rfl, Nat.le_of_ble_eq_true rfl⟩ rfl (Nat.le_of_ble_eq_true rfl) dX10_reckonFor_9 (rg_ex2 ?_)
  show rg_G κ Γ rg_tM 2 0 0 (9 + 3) [(0, .ref (κ.2.2.2 0)), (1, .int (rg_I b))] [.int (rg_I (rg_b (0 ≤ b ∧ b ≤ (((nb : Nat) : Int) - 1)))), .ref (κ.2.2.2 0)] σ
  refine rg_if_eq F 19 dX10_reckonFor_12 (by decide) (by have b0 := rg_b_Rg (0 ≤ b ∧ b ≤ (((nb : Nat) : Int) - 1)); omega) (fun c12_1 => ?_) (fun c12_1 => ?_)
  ·
    have c12_1 := (rg_b_eq0 _).mp c12_1
    refine rg_iconst F dX10_reckonFor_19 ?_
    refine rg_put F 0 0 tM0 cX10 k_lays_X10 tyX10_ok nmX10 (by decide) k_fl_X10_89 rfl rfl rfl rfl (f9 := (σ 0)) rfl (rg_wr σ 0 (rg_up (σ 0) 0 1)) rfl dX10_reckonFor_20 ?_
    refine rg_aload_n F 0 0 rfl dX10_reckonFor_23 rfl ?_
    refine rg_get F 0 0 tM0 cX10 k_lays_X10 (by decide) k_fl_X10_89 rfl (v := .int (rg_I 1)) rfl dX10_reckonFor_24 ?_
    refine rg_if_ne F 34 dX10_reckonFor_27 (by decide) (by omega) (fun c27_2 => ?_) (fun c27_2 => ?_)
    ·
      refine rg_aload_n F 0 0 rfl dX10_reckonFor_34 rfl ?_
      refine rg_get F 0 0 tM0 cX10 k_lays_X10 (by decide) k_fl_X10_89 rfl (v := .int (rg_I 1)) rfl dX10_reckonFor_35 ?_
      refine rg_if_ne F 45 dX10_reckonFor_38 (by decide) (by omega) (fun c38_3 => ?_) (fun c38_3 => ?_)
      ·
        refine rg_iconst F dX10_reckonFor_45 ?_
        exact hR _ _ _ _ dX10_reckonFor_46 (fun _ => Or.inl rfl) ⟨rfl, (rg_wr_congr (f := (rg_up (σ 0) 0 1)) (g := (rg_up (σ 0) 0 (rg_cI ((nb : Nat) : Int) b))) 0 rfl (by (repeat rw [rg_up_up]) <;> first | rfl | exact congrArg (rg_up _ 0) (by unfold rg_cI; (repeat' split) <;> omega)))⟩
      · first | exact absurd c38_3 c27_2 | exact absurd c27_2 c38_3 | exact absurd ((rg_b_ne0 _).mp c38_3) c27_2 | exact absurd c27_2 ((rg_b_eq0 _).mp c38_3)
    · exfalso; omega
  ·
    have c12_1 := (rg_b_ne0 _).mp c12_1
    refine rg_iconst F dX10_reckonFor_15 ?_
    refine rg_goto F 20 dX10_reckonFor_16 (by decide) ?_
    refine rg_put F 0 0 tM0 cX10 k_lays_X10 tyX10_ok nmX10 (by decide) k_fl_X10_89 rfl rfl rfl rfl (f9 := (σ 0)) rfl (rg_wr σ 0 (rg_up (σ 0) 0 0)) rfl dX10_reckonFor_20 ?_
    refine rg_aload_n F 0 0 rfl dX10_reckonFor_23 rfl ?_
    refine rg_get F 0 0 tM0 cX10 k_lays_X10 (by decide) k_fl_X10_89 rfl (v := .int (rg_I 0)) rfl dX10_reckonFor_24 ?_
    exfalso; unfold rg_cI at hc; (repeat' split at hc) <;> omega
set_option maxHeartbeats 400000 in
set_option maxRecDepth 100000 in
/-- net, done -/
theorem k_X10_net_o (κ : rg_K) (σ : rg_S) (b : Int) (nb : Nat) (nr : Nat) (nd : Nat) (tr : Int) (ns : Nat) (h0_1 : σ 0 1 = ((nb : Nat) : Int)) (h0_4 : σ 0 4 = ((nr : Nat) : Int)) (h0_11 : σ 0 11 = ((nd : Nat) : Int)) (h0_16 : σ 0 16 = tr) (h0_17 : σ 0 17 = ((ns : Nat) : Int)) (hI : rg_IM σ nb nr nd ns tr) (hb : rg_Rg b) (hc : (rg_cI ((nb : Nat) : Int) b) = 0) : rg_CI κ rg_tM yX10_net cX10_net 2 FieldType.int 6 140 [.ref (κ.2.2.2 0), .int (rg_I b)] σ (fun r9 σ9 => r9 = (rg_kN σ tr nd nb nr ns (Int.toNat b)) ∧ σ9 = (rg_wr (rg_wr (rg_wr (rg_wr (rg_wr (rg_wr (rg_wr (rg_wr (rg_wr (rg_wr (rg_wr σ 0 (rg_up (σ 0) 0 0)) 15 (rg_kE σ tr nd nb nr)) 16 (rg_kA σ tr nd nb nr)) 17 (rg_kP σ tr nd nb nr)) 18 (rg_kS σ tr nd nb nr)) 19 (rg_kT σ tr nd nb nr)) 20 (rg_ctb (σ 20) nr nb (fun _ _ => True) (rg_kD σ tr nd nb nr ns))) 21 (rg_hd (σ 21) nb (rg_kG σ tr nd nb nr))) 22 (rg_hd (σ 22) nb (rg_kN σ tr nd nb nr ns))) 23 (rg_hd (σ 23) nb (rg_kM σ tr nd nb nr))) 24 (rg_hd (σ 24) nb (rg_kC σ tr nd nb nr ns)))) := by
  have hnb := hI.hnb
  have hnr := hI.hnr
  have hnd := hI.hnd
  have hns := hI.hns
  have hcb := rg_cI_0 hc
  refine rg_entI [(0, .ref (κ.2.2.2 0)), (1, .int (rg_I b))] rfl (by decide +kernel) (Nat.le_of_ble_eq_true rfl) (by first | exact Or.inl rfl | exact Or.inr rfl) (fun Γ F hR => ?_)
  refine rg_aload_n F 0 0 rfl dX10_net_0 rfl ?_
  refine rg_iload_n F 1 1 rfl dX10_net_1 rfl ?_
  refine rg_callVI F [.int (rg_I b)] [] 0 (k_X10_reckonFor_o κ σ (b) (nb) (nr) (nd) (tr) (ns) (h0_1) (h0_4) (h0_11) (h0_16) (h0_17) hI (by first | assumption | omega) (by first | assumption | omega)) tM0 cX10 v_X10_reckonFor i_X10_reckonFor k_ml_X10_196 ⟨Nat.le_of_ble_eq_true rfl, Nat.le_of_ble_eq_true rfl⟩ rfl (Nat.le_of_ble_eq_true rfl) dX10_net_2 (rg_ex2 ?_)
  refine rg_eq (σ' := (rg_wr (rg_wr (rg_wr (rg_wr (rg_wr (rg_wr (rg_wr (rg_wr (rg_wr (rg_wr (rg_wr σ 0 (rg_up (σ 0) 0 0)) 15 (rg_kE σ tr nd nb nr)) 16 (rg_kA σ tr nd nb nr)) 17 (rg_kP σ tr nd nb nr)) 18 (rg_kS σ tr nd nb nr)) 19 (rg_kT σ tr nd nb nr)) 20 (rg_ctb (σ 20) nr nb (fun _ _ => True) (rg_kD σ tr nd nb nr ns))) 21 (rg_hd (σ 21) nb (rg_kG σ tr nd nb nr))) 22 (rg_hd (σ 22) nb (rg_kN σ tr nd nb nr ns))) 23 (rg_hd (σ 23) nb (rg_kM σ tr nd nb nr))) 24 (rg_hd (σ 24) nb (rg_kC σ tr nd nb nr ns)))) rfl ?_
  refine rg_if_eq F 17 dX10_net_5 (by decide) (by omega) (fun c5_1 => ?_) (fun c5_1 => ?_)
  · exfalso; omega
  ·
    refine rg_aload_n F 0 0 rfl dX10_net_8 rfl ?_
    refine rg_get F 0 28 tM0 cX10 k_lays_X10 (by decide) k_fl_X10_74 rfl (v := .ref (κ.2.2.2 22)) rfl dX10_net_9 ?_
    refine rg_iload_n F 1 1 rfl dX10_net_12 rfl ?_
    refine rg_stk (st' := [.int (rg_I ((Int.toNat b : Nat) : Int)), .ref (κ.2.2.2 22)]) (by rw [Int.toNat_of_nonneg (a := b) (by omega)]) ?_
    refine rg_iald F 22 (Int.toNat b) (v := (rg_kN σ tr nd nb nr ns (Int.toNat b))) tM22 (by omega) (by omega) (by decide) ((show (rg_hd (σ 22) nb (rg_kN σ tr nd nb nr ns)) (Int.toNat b) = (rg_kN σ tr nd nb nr ns (Int.toNat b)) from (rg_hd_at _ _ (by omega)))) dX10_net_13 ?_
    refine rg_goto F 18 dX10_net_14 (by decide) ?_
    exact hR _ _ _ _ dX10_net_18 (fun h => nomatch h) ⟨rfl, rfl⟩
set_option maxHeartbeats 400000 in
set_option maxRecDepth 100000 in
/-- net, refused -/
theorem k_X10_net_n (κ : rg_K) (σ : rg_S) (b : Int) (nb : Nat) (nr : Nat) (nd : Nat) (tr : Int) (ns : Nat) (h0_1 : σ 0 1 = ((nb : Nat) : Int)) (h0_4 : σ 0 4 = ((nr : Nat) : Int)) (h0_11 : σ 0 11 = ((nd : Nat) : Int)) (h0_16 : σ 0 16 = tr) (h0_17 : σ 0 17 = ((ns : Nat) : Int)) (hI : rg_IM σ nb nr nd ns tr) (hb : rg_Rg b) (hc : ¬ (rg_cI ((nb : Nat) : Int) b) = 0) : rg_CI κ rg_tM yX10_net cX10_net 2 FieldType.int 6 140 [.ref (κ.2.2.2 0), .int (rg_I b)] σ (fun r9 σ9 => r9 = 0 ∧ σ9 = (rg_wr σ 0 (rg_up (σ 0) 0 (rg_cI ((nb : Nat) : Int) b)))) := by
  have hnb := hI.hnb
  have hnr := hI.hnr
  have hnd := hI.hnd
  have hns := hI.hns
  refine rg_entI [(0, .ref (κ.2.2.2 0)), (1, .int (rg_I b))] rfl (by decide +kernel) (Nat.le_of_ble_eq_true rfl) (by first | exact Or.inl rfl | exact Or.inr rfl) (fun Γ F hR => ?_)
  refine rg_aload_n F 0 0 rfl dX10_net_0 rfl ?_
  refine rg_iload_n F 1 1 rfl dX10_net_1 rfl ?_
  refine rg_callVI F [.int (rg_I b)] [] 0 (k_X10_reckonFor_n κ σ (b) (nb) (nr) (nd) (tr) (ns) (h0_1) (h0_4) (h0_11) (h0_16) (h0_17) hI (by first | assumption | omega) (by first | assumption | omega)) tM0 cX10 v_X10_reckonFor i_X10_reckonFor k_ml_X10_196 ⟨Nat.le_of_ble_eq_true rfl, Nat.le_of_ble_eq_true rfl⟩ rfl (Nat.le_of_ble_eq_true rfl) dX10_net_2 (rg_ex2 ?_)
  refine rg_eq (σ' := (rg_wr σ 0 (rg_up (σ 0) 0 (rg_cI ((nb : Nat) : Int) b)))) rfl ?_
  refine rg_if_eq F 17 dX10_net_5 (by decide) (by omega) (fun c5_1 => ?_) (fun c5_1 => ?_)
  ·
    refine rg_iconst F dX10_net_17 ?_
    exact hR _ _ _ _ dX10_net_18 (fun h => nomatch h) ⟨rfl, rfl⟩
  · exfalso; omega
set_option maxHeartbeats 400000 in
set_option maxRecDepth 100000 in
/-- gross, done -/
theorem k_X10_gross_o (κ : rg_K) (σ : rg_S) (b : Int) (nb : Nat) (nr : Nat) (nd : Nat) (tr : Int) (ns : Nat) (h0_1 : σ 0 1 = ((nb : Nat) : Int)) (h0_4 : σ 0 4 = ((nr : Nat) : Int)) (h0_11 : σ 0 11 = ((nd : Nat) : Int)) (h0_16 : σ 0 16 = tr) (h0_17 : σ 0 17 = ((ns : Nat) : Int)) (hI : rg_IM σ nb nr nd ns tr) (hb : rg_Rg b) (hc : (rg_cI ((nb : Nat) : Int) b) = 0) : rg_CI κ rg_tM yX10_gross cX10_gross 2 FieldType.int 6 140 [.ref (κ.2.2.2 0), .int (rg_I b)] σ (fun r9 σ9 => r9 = (rg_kG σ tr nd nb nr (Int.toNat b)) ∧ σ9 = (rg_wr (rg_wr (rg_wr (rg_wr (rg_wr (rg_wr (rg_wr (rg_wr (rg_wr (rg_wr (rg_wr σ 0 (rg_up (σ 0) 0 0)) 15 (rg_kE σ tr nd nb nr)) 16 (rg_kA σ tr nd nb nr)) 17 (rg_kP σ tr nd nb nr)) 18 (rg_kS σ tr nd nb nr)) 19 (rg_kT σ tr nd nb nr)) 20 (rg_ctb (σ 20) nr nb (fun _ _ => True) (rg_kD σ tr nd nb nr ns))) 21 (rg_hd (σ 21) nb (rg_kG σ tr nd nb nr))) 22 (rg_hd (σ 22) nb (rg_kN σ tr nd nb nr ns))) 23 (rg_hd (σ 23) nb (rg_kM σ tr nd nb nr))) 24 (rg_hd (σ 24) nb (rg_kC σ tr nd nb nr ns)))) := by
  have hnb := hI.hnb
  have hnr := hI.hnr
  have hnd := hI.hnd
  have hns := hI.hns
  have hcb := rg_cI_0 hc
  refine rg_entI [(0, .ref (κ.2.2.2 0)), (1, .int (rg_I b))] rfl (by decide +kernel) (Nat.le_of_ble_eq_true rfl) (by first | exact Or.inl rfl | exact Or.inr rfl) (fun Γ F hR => ?_)
  refine rg_aload_n F 0 0 rfl dX10_gross_0 rfl ?_
  refine rg_iload_n F 1 1 rfl dX10_gross_1 rfl ?_
  refine rg_callVI F [.int (rg_I b)] [] 0 (k_X10_reckonFor_o κ σ (b) (nb) (nr) (nd) (tr) (ns) (h0_1) (h0_4) (h0_11) (h0_16) (h0_17) hI (by first | assumption | omega) (by first | assumption | omega)) tM0 cX10 v_X10_reckonFor i_X10_reckonFor k_ml_X10_196 ⟨Nat.le_of_ble_eq_true rfl, Nat.le_of_ble_eq_true rfl⟩ rfl (Nat.le_of_ble_eq_true rfl) dX10_gross_2 (rg_ex2 ?_)
  refine rg_eq (σ' := (rg_wr (rg_wr (rg_wr (rg_wr (rg_wr (rg_wr (rg_wr (rg_wr (rg_wr (rg_wr (rg_wr σ 0 (rg_up (σ 0) 0 0)) 15 (rg_kE σ tr nd nb nr)) 16 (rg_kA σ tr nd nb nr)) 17 (rg_kP σ tr nd nb nr)) 18 (rg_kS σ tr nd nb nr)) 19 (rg_kT σ tr nd nb nr)) 20 (rg_ctb (σ 20) nr nb (fun _ _ => True) (rg_kD σ tr nd nb nr ns))) 21 (rg_hd (σ 21) nb (rg_kG σ tr nd nb nr))) 22 (rg_hd (σ 22) nb (rg_kN σ tr nd nb nr ns))) 23 (rg_hd (σ 23) nb (rg_kM σ tr nd nb nr))) 24 (rg_hd (σ 24) nb (rg_kC σ tr nd nb nr ns)))) rfl ?_
  refine rg_if_eq F 17 dX10_gross_5 (by decide) (by omega) (fun c5_1 => ?_) (fun c5_1 => ?_)
  · exfalso; omega
  ·
    refine rg_aload_n F 0 0 rfl dX10_gross_8 rfl ?_
    refine rg_get F 0 27 tM0 cX10 k_lays_X10 (by decide) k_fl_X10_71 rfl (v := .ref (κ.2.2.2 21)) rfl dX10_gross_9 ?_
    refine rg_iload_n F 1 1 rfl dX10_gross_12 rfl ?_
    refine rg_stk (st' := [.int (rg_I ((Int.toNat b : Nat) : Int)), .ref (κ.2.2.2 21)]) (by rw [Int.toNat_of_nonneg (a := b) (by omega)]) ?_
    refine rg_iald F 21 (Int.toNat b) (v := (rg_kG σ tr nd nb nr (Int.toNat b))) tM21 (by omega) (by omega) (by decide) ((show (rg_hd (σ 21) nb (rg_kG σ tr nd nb nr)) (Int.toNat b) = (rg_kG σ tr nd nb nr (Int.toNat b)) from (rg_hd_at _ _ (by omega)))) dX10_gross_13 ?_
    refine rg_goto F 18 dX10_gross_14 (by decide) ?_
    exact hR _ _ _ _ dX10_gross_18 (fun h => nomatch h) ⟨rfl, rfl⟩
set_option maxHeartbeats 400000 in
set_option maxRecDepth 100000 in
/-- gross, refused -/
theorem k_X10_gross_n (κ : rg_K) (σ : rg_S) (b : Int) (nb : Nat) (nr : Nat) (nd : Nat) (tr : Int) (ns : Nat) (h0_1 : σ 0 1 = ((nb : Nat) : Int)) (h0_4 : σ 0 4 = ((nr : Nat) : Int)) (h0_11 : σ 0 11 = ((nd : Nat) : Int)) (h0_16 : σ 0 16 = tr) (h0_17 : σ 0 17 = ((ns : Nat) : Int)) (hI : rg_IM σ nb nr nd ns tr) (hb : rg_Rg b) (hc : ¬ (rg_cI ((nb : Nat) : Int) b) = 0) : rg_CI κ rg_tM yX10_gross cX10_gross 2 FieldType.int 6 140 [.ref (κ.2.2.2 0), .int (rg_I b)] σ (fun r9 σ9 => r9 = 0 ∧ σ9 = (rg_wr σ 0 (rg_up (σ 0) 0 (rg_cI ((nb : Nat) : Int) b)))) := by
  have hnb := hI.hnb
  have hnr := hI.hnr
  have hnd := hI.hnd
  have hns := hI.hns
  refine rg_entI [(0, .ref (κ.2.2.2 0)), (1, .int (rg_I b))] rfl (by decide +kernel) (Nat.le_of_ble_eq_true rfl) (by first | exact Or.inl rfl | exact Or.inr rfl) (fun Γ F hR => ?_)
  refine rg_aload_n F 0 0 rfl dX10_gross_0 rfl ?_
  refine rg_iload_n F 1 1 rfl dX10_gross_1 rfl ?_
  refine rg_callVI F [.int (rg_I b)] [] 0 (k_X10_reckonFor_n κ σ (b) (nb) (nr) (nd) (tr) (ns) (h0_1) (h0_4) (h0_11) (h0_16) (h0_17) hI (by first | assumption | omega) (by first | assumption | omega)) tM0 cX10 v_X10_reckonFor i_X10_reckonFor k_ml_X10_196 ⟨Nat.le_of_ble_eq_true rfl, Nat.le_of_ble_eq_true rfl⟩ rfl (Nat.le_of_ble_eq_true rfl) dX10_gross_2 (rg_ex2 ?_)
  refine rg_eq (σ' := (rg_wr σ 0 (rg_up (σ 0) 0 (rg_cI ((nb : Nat) : Int) b)))) rfl ?_
  refine rg_if_eq F 17 dX10_gross_5 (by decide) (by omega) (fun c5_1 => ?_) (fun c5_1 => ?_)
  ·
    refine rg_iconst F dX10_gross_17 ?_
    exact hR _ _ _ _ dX10_gross_18 (fun h => nomatch h) ⟨rfl, rfl⟩
  · exfalso; omega
set_option maxHeartbeats 400000 in
set_option maxRecDepth 100000 in
/-- rank, done -/
theorem k_X10_rank_o (κ : rg_K) (σ : rg_S) (b : Int) (nb : Nat) (nr : Nat) (nd : Nat) (tr : Int) (ns : Nat) (h0_1 : σ 0 1 = ((nb : Nat) : Int)) (h0_4 : σ 0 4 = ((nr : Nat) : Int)) (h0_11 : σ 0 11 = ((nd : Nat) : Int)) (h0_16 : σ 0 16 = tr) (h0_17 : σ 0 17 = ((ns : Nat) : Int)) (hI : rg_IM σ nb nr nd ns tr) (hb : rg_Rg b) (hc : (rg_cI ((nb : Nat) : Int) b) = 0) : rg_CI κ rg_tM yX10_rank cX10_rank 2 FieldType.int 6 143 [.ref (κ.2.2.2 0), .int (rg_I b)] σ (fun r9 σ9 => r9 = ((rg_rO (rg_kO σ tr nd nb nr ns) nb (Int.toNat b) : Nat) : Int) ∧ σ9 = (rg_wr (rg_wr (rg_wr (rg_wr (rg_wr (rg_wr (rg_wr (rg_wr (rg_wr (rg_wr (rg_wr σ 0 (rg_rC (rg_kK σ tr nd nb nr ns) (Int.toNat b) (rg_up (σ 0) 0 0) nb)) 15 (rg_kE σ tr nd nb nr)) 16 (rg_kA σ tr nd nb nr)) 17 (rg_kP σ tr nd nb nr)) 18 (rg_kS σ tr nd nb nr)) 19 (rg_kT σ tr nd nb nr)) 20 (rg_ctb (σ 20) nr nb (fun _ _ => True) (rg_kD σ tr nd nb nr ns))) 21 (rg_hd (σ 21) nb (rg_kG σ tr nd nb nr))) 22 (rg_hd (σ 22) nb (rg_kN σ tr nd nb nr ns))) 23 (rg_hd (σ 23) nb (rg_kM σ tr nd nb nr))) 24 (rg_hd (σ 24) nb (rg_kC σ tr nd nb nr ns)))) := by
  have hnb := hI.hnb
  have hnr := hI.hnr
  have hnd := hI.hnd
  have hns := hI.hns
  have hcb := rg_cI_0 hc
  refine rg_entI [(0, .ref (κ.2.2.2 0)), (1, .int (rg_I b))] rfl (by decide +kernel) (Nat.le_of_ble_eq_true rfl) (by first | exact Or.inl rfl | exact Or.inr rfl) (fun Γ F hR => ?_)
  refine rg_aload_n F 0 0 rfl dX10_rank_0 rfl ?_
  refine rg_iload_n F 1 1 rfl dX10_rank_1 rfl ?_
  refine rg_callVI F [.int (rg_I b)] [] 0 (k_X10_reckonFor_o κ σ (b) (nb) (nr) (nd) (tr) (ns) (h0_1) (h0_4) (h0_11) (h0_16) (h0_17) hI (by first | assumption | omega) (by first | assumption | omega)) tM0 cX10 v_X10_reckonFor i_X10_reckonFor k_ml_X10_196 ⟨Nat.le_of_ble_eq_true rfl, Nat.le_of_ble_eq_true rfl⟩ rfl (Nat.le_of_ble_eq_true rfl) dX10_rank_2 (rg_ex2 ?_)
  refine rg_eq (σ' := (rg_wr (rg_wr (rg_wr (rg_wr (rg_wr (rg_wr (rg_wr (rg_wr (rg_wr (rg_wr (rg_wr σ 0 (rg_up (σ 0) 0 0)) 15 (rg_kE σ tr nd nb nr)) 16 (rg_kA σ tr nd nb nr)) 17 (rg_kP σ tr nd nb nr)) 18 (rg_kS σ tr nd nb nr)) 19 (rg_kT σ tr nd nb nr)) 20 (rg_ctb (σ 20) nr nb (fun _ _ => True) (rg_kD σ tr nd nb nr ns))) 21 (rg_hd (σ 21) nb (rg_kG σ tr nd nb nr))) 22 (rg_hd (σ 22) nb (rg_kN σ tr nd nb nr ns))) 23 (rg_hd (σ 23) nb (rg_kM σ tr nd nb nr))) 24 (rg_hd (σ 24) nb (rg_kC σ tr nd nb nr ns)))) rfl ?_
  refine rg_if_eq F 16 dX10_rank_5 (by decide) (by omega) (fun c5_1 => ?_) (fun c5_1 => ?_)
  · exfalso; omega
  ·
    refine rg_aload_n F 0 0 rfl dX10_rank_8 rfl ?_
    refine rg_iload_n F 1 1 rfl dX10_rank_9 rfl ?_
    refine rg_stk (st' := [.int (rg_I ((Int.toNat b : Nat) : Int)), .ref (κ.2.2.2 0)]) (by rw [Int.toNat_of_nonneg (a := b) (by omega)]) ?_
    refine rg_callVI F [.int (rg_I ((Int.toNat b : Nat) : Int))] [] 0 (k_X10_rankOf κ (rg_wr (rg_wr (rg_wr (rg_wr (rg_wr (rg_wr (rg_wr (rg_wr (rg_wr (rg_wr (rg_wr σ 0 (rg_up (σ 0) 0 0)) 15 (rg_kE σ tr nd nb nr)) 16 (rg_kA σ tr nd nb nr)) 17 (rg_kP σ tr nd nb nr)) 18 (rg_kS σ tr nd nb nr)) 19 (rg_kT σ tr nd nb nr)) 20 (rg_ctb (σ 20) nr nb (fun _ _ => True) (rg_kD σ tr nd nb nr ns))) 21 (rg_hd (σ 21) nb (rg_kG σ tr nd nb nr))) 22 (rg_hd (σ 22) nb (rg_kN σ tr nd nb nr ns))) 23 (rg_hd (σ 23) nb (rg_kM σ tr nd nb nr))) 24 (rg_hd (σ 24) nb (rg_kC σ tr nd nb nr ns))) ((Int.toNat b)) (σ 1) (σ 2) (σ 3) (σ 4) (rg_kS σ tr nd nb nr) (rg_kT σ tr nd nb nr) (rg_ctb (σ 20) nr nb (fun _ _ => True) (rg_kD σ tr nd nb nr ns)) (rg_hd (σ 22) nb (rg_kN σ tr nd nb nr ns)) (nb) (nr) rfl rfl rfl rfl rfl rfl rfl rfl (h0_1) (h0_4) (by first | assumption | omega) (by first | assumption | omega) (by first | assumption | omega) hI.hlo hI.hfl (fun j => rg_Rg_of (hI.hkd j)) (rg_kS_Rg hI) (fun j => rg_Rg_of (hI.hrf j)) (rg_w20_Rg hI) (rg_w22_bd hI) (fun c hc o ho => rg_ms2_bd hI ho hc)) tM0 cX10 v_X10_rankOf i_X10_rankOf k_ml_X10_199 ⟨Nat.le_of_ble_eq_true rfl, Nat.le_of_ble_eq_true rfl⟩ rfl (Nat.le_of_ble_eq_true rfl) dX10_rank_10 (rg_ex2 ?_)
    refine rg_eq (σ' := (rg_wr (rg_wr (rg_wr (rg_wr (rg_wr (rg_wr (rg_wr (rg_wr (rg_wr (rg_wr (rg_wr σ 0 (rg_rC (rg_ok (σ 1) (σ 2) (rg_hd (σ 22) nb (rg_kN σ tr nd nb nr ns)) (rg_kS σ tr nd nb nr) (σ 4) (σ 3) (rg_kT σ tr nd nb nr) (rg_ctb (σ 20) nr nb (fun _ _ => True) (rg_kD σ tr nd nb nr ns)) nr) (Int.toNat b) (rg_up (σ 0) 0 0) nb)) 15 (rg_kE σ tr nd nb nr)) 16 (rg_kA σ tr nd nb nr)) 17 (rg_kP σ tr nd nb nr)) 18 (rg_kS σ tr nd nb nr)) 19 (rg_kT σ tr nd nb nr)) 20 (rg_ctb (σ 20) nr nb (fun _ _ => True) (rg_kD σ tr nd nb nr ns))) 21 (rg_hd (σ 21) nb (rg_kG σ tr nd nb nr))) 22 (rg_hd (σ 22) nb (rg_kN σ tr nd nb nr ns))) 23 (rg_hd (σ 23) nb (rg_kM σ tr nd nb nr))) 24 (rg_hd (σ 24) nb (rg_kC σ tr nd nb nr ns)))) ((rg_wr_comm _ _ _ (by decide)).trans (rg_wr_congr 24 ((rg_wr_comm _ _ _ (by decide)).trans (rg_wr_congr 23 ((rg_wr_comm _ _ _ (by decide)).trans (rg_wr_congr 22 ((rg_wr_comm _ _ _ (by decide)).trans (rg_wr_congr 21 ((rg_wr_comm _ _ _ (by decide)).trans (rg_wr_congr 20 ((rg_wr_comm _ _ _ (by decide)).trans (rg_wr_congr 19 ((rg_wr_comm _ _ _ (by decide)).trans (rg_wr_congr 18 ((rg_wr_comm _ _ _ (by decide)).trans (rg_wr_congr 17 ((rg_wr_comm _ _ _ (by decide)).trans (rg_wr_congr 16 ((rg_wr_comm _ _ _ (by decide)).trans (rg_wr_congr 15 (rg_wr_wr _ 0 _ _) rfl)) rfl)) rfl)) rfl)) rfl)) rfl)) rfl)) rfl)) rfl)) rfl)) ?_
    refine rg_goto F 17 dX10_rank_13 (by decide) ?_
    exact hR _ _ _ _ dX10_rank_17 (fun h => nomatch h) ⟨rfl, (rg_wr_congr (f := (rg_hd (σ 24) nb (rg_kC σ tr nd nb nr ns))) (g := (rg_hd (σ 24) nb (rg_kC σ tr nd nb nr ns))) 24 (rg_wr_congr (f := (rg_hd (σ 23) nb (rg_kM σ tr nd nb nr))) (g := (rg_hd (σ 23) nb (rg_kM σ tr nd nb nr))) 23 (rg_wr_congr (f := (rg_hd (σ 22) nb (rg_kN σ tr nd nb nr ns))) (g := (rg_hd (σ 22) nb (rg_kN σ tr nd nb nr ns))) 22 (rg_wr_congr (f := (rg_hd (σ 21) nb (rg_kG σ tr nd nb nr))) (g := (rg_hd (σ 21) nb (rg_kG σ tr nd nb nr))) 21 (rg_wr_congr (f := (rg_ctb (σ 20) nr nb (fun _ _ => True) (rg_kD σ tr nd nb nr ns))) (g := (rg_ctb (σ 20) nr nb (fun _ _ => True) (rg_kD σ tr nd nb nr ns))) 20 (rg_wr_congr (f := (rg_kT σ tr nd nb nr)) (g := (rg_kT σ tr nd nb nr)) 19 (rg_wr_congr (f := (rg_kS σ tr nd nb nr)) (g := (rg_kS σ tr nd nb nr)) 18 (rg_wr_congr (f := (rg_kP σ tr nd nb nr)) (g := (rg_kP σ tr nd nb nr)) 17 (rg_wr_congr (f := (rg_kA σ tr nd nb nr)) (g := (rg_kA σ tr nd nb nr)) 16 (rg_wr_congr (f := (rg_kE σ tr nd nb nr)) (g := (rg_kE σ tr nd nb nr)) 15 (rg_wr_congr (f := (rg_rC (rg_ok (σ 1) (σ 2) (rg_hd (σ 22) nb (rg_kN σ tr nd nb nr ns)) (rg_kS σ tr nd nb nr) (σ 4) (σ 3) (rg_kT σ tr nd nb nr) (rg_ctb (σ 20) nr nb (fun _ _ => True) (rg_kD σ tr nd nb nr ns)) nr) (Int.toNat b) (rg_up (σ 0) 0 0) nb)) (g := (rg_rC (rg_kK σ tr nd nb nr ns) (Int.toNat b) (rg_up (σ 0) 0 0) nb)) 0 rfl rfl) rfl) rfl) rfl) rfl) rfl) rfl) rfl) rfl) rfl) rfl)⟩
set_option maxHeartbeats 400000 in
set_option maxRecDepth 100000 in
/-- rank, refused -/
theorem k_X10_rank_n (κ : rg_K) (σ : rg_S) (b : Int) (nb : Nat) (nr : Nat) (nd : Nat) (tr : Int) (ns : Nat) (h0_1 : σ 0 1 = ((nb : Nat) : Int)) (h0_4 : σ 0 4 = ((nr : Nat) : Int)) (h0_11 : σ 0 11 = ((nd : Nat) : Int)) (h0_16 : σ 0 16 = tr) (h0_17 : σ 0 17 = ((ns : Nat) : Int)) (hI : rg_IM σ nb nr nd ns tr) (hb : rg_Rg b) (hc : ¬ (rg_cI ((nb : Nat) : Int) b) = 0) : rg_CI κ rg_tM yX10_rank cX10_rank 2 FieldType.int 6 143 [.ref (κ.2.2.2 0), .int (rg_I b)] σ (fun r9 σ9 => r9 = 0 ∧ σ9 = (rg_wr σ 0 (rg_up (σ 0) 0 (rg_cI ((nb : Nat) : Int) b)))) := by
  have hnb := hI.hnb
  have hnr := hI.hnr
  have hnd := hI.hnd
  have hns := hI.hns
  refine rg_entI [(0, .ref (κ.2.2.2 0)), (1, .int (rg_I b))] rfl (by decide +kernel) (Nat.le_of_ble_eq_true rfl) (by first | exact Or.inl rfl | exact Or.inr rfl) (fun Γ F hR => ?_)
  refine rg_aload_n F 0 0 rfl dX10_rank_0 rfl ?_
  refine rg_iload_n F 1 1 rfl dX10_rank_1 rfl ?_
  refine rg_callVI F [.int (rg_I b)] [] 0 (k_X10_reckonFor_n κ σ (b) (nb) (nr) (nd) (tr) (ns) (h0_1) (h0_4) (h0_11) (h0_16) (h0_17) hI (by first | assumption | omega) (by first | assumption | omega)) tM0 cX10 v_X10_reckonFor i_X10_reckonFor k_ml_X10_196 ⟨Nat.le_of_ble_eq_true rfl, Nat.le_of_ble_eq_true rfl⟩ rfl (Nat.le_of_ble_eq_true rfl) dX10_rank_2 (rg_ex2 ?_)
  refine rg_eq (σ' := (rg_wr σ 0 (rg_up (σ 0) 0 (rg_cI ((nb : Nat) : Int) b)))) rfl ?_
  refine rg_if_eq F 16 dX10_rank_5 (by decide) (by omega) (fun c5_1 => ?_) (fun c5_1 => ?_)
  ·
    refine rg_iconst F dX10_rank_16 ?_
    exact hR _ _ _ _ dX10_rank_17 (fun h => nomatch h) ⟨rfl, rfl⟩
  · exfalso; omega
set_option maxHeartbeats 400000 in
set_option maxRecDepth 100000 in
/-- points, done -/
theorem k_X10_points_o (κ : rg_K) (σ : rg_S) (r b : Int) (nb : Nat) (nr : Nat) (nd : Nat) (tr : Int) (ns : Nat) (h0_1 : σ 0 1 = ((nb : Nat) : Int)) (h0_4 : σ 0 4 = ((nr : Nat) : Int)) (h0_11 : σ 0 11 = ((nd : Nat) : Int)) (h0_16 : σ 0 16 = tr) (h0_17 : σ 0 17 = ((ns : Nat) : Int)) (hI : rg_IM σ nb nr nd ns tr) (hr : rg_Rg r) (hb : rg_Rg b) (hc : (rg_cT ((nb : Nat) : Int) ((nr : Nat) : Int) r b) = 0) : rg_CI κ rg_tM yX10_points cX10_points 3 FieldType.int 5 119 [.ref (κ.2.2.2 0), .int (rg_I r), .int (rg_I b)] σ (fun r9 σ9 => r9 = (rg_ite (rg_in (rg_kS σ tr nd nb nr) (σ 4) (σ 2) (Int.toNat r) (Int.toNat b)) (rg_kT σ tr nd nb nr ((Int.toNat r) * 40 + (Int.toNat b))) (-1)) ∧ σ9 = (rg_wr (rg_wr (rg_wr (rg_wr (rg_wr (rg_wr (rg_wr (rg_wr (rg_wr (rg_wr (rg_wr σ 0 (rg_up (σ 0) 0 0)) 15 (rg_kE σ tr nd nb nr)) 16 (rg_kA σ tr nd nb nr)) 17 (rg_kP σ tr nd nb nr)) 18 (rg_kS σ tr nd nb nr)) 19 (rg_kT σ tr nd nb nr)) 20 (rg_ctb (σ 20) nr nb (fun _ _ => True) (rg_kD σ tr nd nb nr ns))) 21 (rg_hd (σ 21) nb (rg_kG σ tr nd nb nr))) 22 (rg_hd (σ 22) nb (rg_kN σ tr nd nb nr ns))) 23 (rg_hd (σ 23) nb (rg_kM σ tr nd nb nr))) 24 (rg_hd (σ 24) nb (rg_kC σ tr nd nb nr ns)))) := by
  have hnb := hI.hnb
  have hnr := hI.hnr
  have hnd := hI.hnd
  have hns := hI.hns
  have hth := rg_cT_0 hc
  refine rg_entI [(0, .ref (κ.2.2.2 0)), (1, .int (rg_I r)), (2, .int (rg_I b))] rfl (by decide +kernel) (Nat.le_of_ble_eq_true rfl) (by first | exact Or.inl rfl | exact Or.inr rfl) (fun Γ F hR => ?_)
  refine rg_aload_n F 0 0 rfl dX10_points_0 rfl ?_
  refine rg_aload_n F 0 0 rfl dX10_points_1 rfl ?_
  refine rg_iload_n F 1 1 rfl dX10_points_2 rfl ?_
  refine rg_iload_n F 2 2 rfl dX10_points_3 rfl ?_
  refine rg_callVI F [.int (rg_I r), .int (rg_I b)] [.ref (κ.2.2.2 0)] 0 (k_X10_isThere κ σ (r) (b) (nb) (nr) (h0_1) (h0_4) (by first | assumption | omega) (by first | assumption | omega) (by first | assumption | omega) (by first | assumption | omega)) tM0 cX10 v_X10_isThere i_X10_isThere k_ml_X10_176 ⟨Nat.le_of_ble_eq_true rfl, Nat.le_of_ble_eq_true rfl⟩ rfl (Nat.le_of_ble_eq_true rfl) dX10_points_4 (rg_ex2 ?_)
  show rg_G κ Γ rg_tM 3 0 0 (4 + 3) [(0, .ref (κ.2.2.2 0)), (1, .int (rg_I r)), (2, .int (rg_I b))] [.int (rg_I (rg_b (rg_th ((nb : Nat) : Int) ((nr : Nat) : Int) r b))), .ref (κ.2.2.2 0)] σ
  refine rg_if_eq F 14 dX10_points_7 (by decide) (by have b0 := rg_b_Rg (rg_th ((nb : Nat) : Int) ((nr : Nat) : Int) r b); omega) (fun c7_1 => ?_) (fun c7_1 => ?_)
  ·
    have c7_1 := (rg_b_eq0 _).mp c7_1
    refine rg_iconst F dX10_points_14 ?_
    refine rg_put F 0 0 tM0 cX10 k_lays_X10 tyX10_ok nmX10 (by decide) k_fl_X10_89 rfl rfl rfl rfl (f9 := (σ 0)) rfl (rg_wr σ 0 (rg_up (σ 0) 0 1)) rfl dX10_points_15 ?_
    refine rg_aload_n F 0 0 rfl dX10_points_18 rfl ?_
    refine rg_get F 0 0 tM0 cX10 k_lays_X10 (by decide) k_fl_X10_89 rfl (v := .int (rg_I 1)) rfl dX10_points_19 ?_
    exfalso; unfold rg_cT at hc; (repeat' split at hc) <;> omega
  ·
    have c7_1 := (rg_b_ne0 _).mp c7_1
    refine rg_iconst F dX10_points_10 ?_
    refine rg_goto F 15 dX10_points_11 (by decide) ?_
    refine rg_put F 0 0 tM0 cX10 k_lays_X10 tyX10_ok nmX10 (by decide) k_fl_X10_89 rfl rfl rfl rfl (f9 := (σ 0)) rfl (rg_wr σ 0 (rg_up (σ 0) 0 0)) rfl dX10_points_15 ?_
    refine rg_aload_n F 0 0 rfl dX10_points_18 rfl ?_
    refine rg_get F 0 0 tM0 cX10 k_lays_X10 (by decide) k_fl_X10_89 rfl (v := .int (rg_I 0)) rfl dX10_points_19 ?_
    refine rg_if_le F 27 dX10_points_22 (by decide) (by omega) (fun c22_2 => ?_) (fun c22_2 => ?_)
    ·
      refine rg_aload_n F 0 0 rfl dX10_points_27 rfl ?_
      refine rg_callVV F [] [] 0 (k_X10_reckon κ (rg_wr σ 0 (rg_up (σ 0) 0 0)) (nb) (nr) (nd) (tr) (ns) (h0_1) (h0_4) (h0_11) (h0_16) (h0_17) (rg_IM_0 hI _)) tM0 cX10 v_X10_reckon i_X10_reckon k_ml_X10_190 ⟨Nat.le_of_ble_eq_true rfl, Nat.le_of_ble_eq_true rfl⟩ rfl (Nat.le_of_ble_eq_true rfl) dX10_points_28 (rg_ex1 ?_)
      refine rg_eq (σ' := (rg_wr (rg_wr (rg_wr (rg_wr (rg_wr (rg_wr (rg_wr (rg_wr (rg_wr (rg_wr (rg_wr σ 0 (rg_up (σ 0) 0 0)) 15 (rg_kE σ tr nd nb nr)) 16 (rg_kA σ tr nd nb nr)) 17 (rg_kP σ tr nd nb nr)) 18 (rg_kS σ tr nd nb nr)) 19 (rg_kT σ tr nd nb nr)) 20 (rg_ctb (σ 20) nr nb (fun _ _ => True) (rg_kD σ tr nd nb nr ns))) 21 (rg_hd (σ 21) nb (rg_kG σ tr nd nb nr))) 22 (rg_hd (σ 22) nb (rg_kN σ tr nd nb nr ns))) 23 (rg_hd (σ 23) nb (rg_kM σ tr nd nb nr))) 24 (rg_hd (σ 24) nb (rg_kC σ tr nd nb nr ns)))) rfl ?_
      refine rg_aload_n F 0 0 rfl dX10_points_31 rfl ?_
      refine rg_iload_n F 1 1 rfl dX10_points_32 rfl ?_
      refine rg_stk (st' := [.int (rg_I ((Int.toNat r : Nat) : Int)), .ref (κ.2.2.2 0)]) (by rw [Int.toNat_of_nonneg (a := r) (by omega)]) ?_
      refine rg_iload_n F 2 2 rfl dX10_points_33 rfl ?_
      refine rg_stk (st' := [.int (rg_I ((Int.toNat b : Nat) : Int)), .int (rg_I ((Int.toNat r : Nat) : Int)), .ref (κ.2.2.2 0)]) (by rw [Int.toNat_of_nonneg (a := b) (by omega)]) ?_
      refine rg_callVI F [.int (rg_I ((Int.toNat r : Nat) : Int)), .int (rg_I ((Int.toNat b : Nat) : Int))] [] 0 (k_X10_isIn κ (rg_wr (rg_wr (rg_wr (rg_wr (rg_wr (rg_wr (rg_wr (rg_wr (rg_wr (rg_wr (rg_wr σ 0 (rg_up (σ 0) 0 0)) 15 (rg_kE σ tr nd nb nr)) 16 (rg_kA σ tr nd nb nr)) 17 (rg_kP σ tr nd nb nr)) 18 (rg_kS σ tr nd nb nr)) 19 (rg_kT σ tr nd nb nr)) 20 (rg_ctb (σ 20) nr nb (fun _ _ => True) (rg_kD σ tr nd nb nr ns))) 21 (rg_hd (σ 21) nb (rg_kG σ tr nd nb nr))) 22 (rg_hd (σ 22) nb (rg_kN σ tr nd nb nr ns))) 23 (rg_hd (σ 23) nb (rg_kM σ tr nd nb nr))) 24 (rg_hd (σ 24) nb (rg_kC σ tr nd nb nr ns))) ((Int.toNat r)) ((Int.toNat b)) (σ 2) (σ 4) (rg_kS σ tr nd nb nr) rfl rfl rfl (by first | assumption | omega) (by first | assumption | omega) (rg_kS_Rg hI) (fun j => rg_Rg_of (hI.hfl j)) (fun j => rg_Rg_of (hI.hrf j))) tM0 cX10 v_X10_isIn i_X10_isIn k_ml_X10_120 ⟨Nat.le_of_ble_eq_true rfl, Nat.le_of_ble_eq_true rfl⟩ rfl (Nat.le_of_ble_eq_true rfl) dX10_points_34 (rg_ex2 ?_)
      show rg_G κ Γ rg_tM 3 0 0 (34 + 3) [(0, .ref (κ.2.2.2 0)), (1, .int (rg_I r)), (2, .int (rg_I b))] [.int (rg_I (rg_b (rg_in (rg_kS σ tr nd nb nr) (σ 4) (σ 2) (Int.toNat r) (Int.toNat b))))] (rg_wr (rg_wr (rg_wr (rg_wr (rg_wr (rg_wr (rg_wr (rg_wr (rg_wr (rg_wr (rg_wr σ 0 (rg_up (σ 0) 0 0)) 15 (rg_kE σ tr nd nb nr)) 16 (rg_kA σ tr nd nb nr)) 17 (rg_kP σ tr nd nb nr)) 18 (rg_kS σ tr nd nb nr)) 19 (rg_kT σ tr nd nb nr)) 20 (rg_ctb (σ 20) nr nb (fun _ _ => True) (rg_kD σ tr nd nb nr ns))) 21 (rg_hd (σ 21) nb (rg_kG σ tr nd nb nr))) 22 (rg_hd (σ 22) nb (rg_kN σ tr nd nb nr ns))) 23 (rg_hd (σ 23) nb (rg_kM σ tr nd nb nr))) 24 (rg_hd (σ 24) nb (rg_kC σ tr nd nb nr ns)))
      refine rg_if_eq F 54 dX10_points_37 (by decide) (by have b0 := rg_b_Rg (rg_in (rg_kS σ tr nd nb nr) (σ 4) (σ 2) (Int.toNat r) (Int.toNat b)); omega) (fun c37_3 => ?_) (fun c37_3 => ?_)
      ·
        have c37_3 := (rg_b_eq0 _).mp c37_3
        refine rg_iconst F dX10_points_54 ?_
        exact hR _ _ _ _ dX10_points_55 (fun h => nomatch h) ⟨(by first | exact (rg_ite_t (by assumption) _ _).symm | exact (rg_ite_f (by assumption) _ _).symm), rfl⟩
      ·
        have c37_3 := (rg_b_ne0 _).mp c37_3
        refine rg_aload_n F 0 0 rfl dX10_points_40 rfl ?_
        refine rg_get F 0 25 tM0 cX10 k_lays_X10 (by decide) k_fl_X10_65 rfl (v := .ref (κ.2.2.2 19)) rfl dX10_points_41 ?_
        refine rg_bipush F dX10_points_44 (by decide +kernel) ?_
        refine rg_iload_n F 1 1 rfl dX10_points_46 rfl ?_
        refine rg_stk (st' := [.int (rg_I ((Int.toNat r : Nat) : Int)), .int (rg_I 40), .ref (κ.2.2.2 19)]) (by rw [Int.toNat_of_nonneg (a := r) (by omega)]) ?_
        refine rg_imul F dX10_points_47 ?_
        refine rg_iload_n F 2 2 rfl dX10_points_48 rfl ?_
        refine rg_stk (st' := [.int (rg_I ((Int.toNat b : Nat) : Int)), .int (rg_I (40 * ((Int.toNat r : Nat) : Int))), .ref (κ.2.2.2 19)]) (by rw [Int.toNat_of_nonneg (a := b) (by omega)]) ?_
        refine rg_iadd F dX10_points_49 ?_
        refine rg_stk (st' := [.int (rg_I (((Int.toNat r) * 40 + (Int.toNat b) : Nat) : Int)), .ref (κ.2.2.2 19)]) (congrArg (fun x9 : Int => Value.int (rg_I x9) :: [.ref (κ.2.2.2 19)]) (by omega)) ?_
        refine rg_iald F 19 ((Int.toNat r) * 40 + (Int.toNat b)) (v := ((rg_kT σ tr nd nb nr) ((Int.toNat r) * 40 + (Int.toNat b)))) tM19 (by omega) (by omega) (by decide) rfl dX10_points_50 ?_
        refine rg_goto F 55 dX10_points_51 (by decide) ?_
        exact hR _ _ _ _ dX10_points_55 (fun h => nomatch h) ⟨(by first | exact (rg_ite_t (by assumption) _ _).symm | exact (rg_ite_f (by assumption) _ _).symm), rfl⟩
    · exfalso; omega
set_option maxHeartbeats 400000 in
set_option maxRecDepth 100000 in
/-- points, refused -/
theorem k_X10_points_n (κ : rg_K) (σ : rg_S) (r b : Int) (nb : Nat) (nr : Nat) (nd : Nat) (tr : Int) (ns : Nat) (h0_1 : σ 0 1 = ((nb : Nat) : Int)) (h0_4 : σ 0 4 = ((nr : Nat) : Int)) (h0_11 : σ 0 11 = ((nd : Nat) : Int)) (h0_16 : σ 0 16 = tr) (h0_17 : σ 0 17 = ((ns : Nat) : Int)) (hI : rg_IM σ nb nr nd ns tr) (hr : rg_Rg r) (hb : rg_Rg b) (hc : ¬ (rg_cT ((nb : Nat) : Int) ((nr : Nat) : Int) r b) = 0) : rg_CI κ rg_tM yX10_points cX10_points 3 FieldType.int 5 119 [.ref (κ.2.2.2 0), .int (rg_I r), .int (rg_I b)] σ (fun r9 σ9 => r9 = 0 ∧ σ9 = (rg_wr σ 0 (rg_up (σ 0) 0 (rg_cT ((nb : Nat) : Int) ((nr : Nat) : Int) r b)))) := by
  have hnb := hI.hnb
  have hnr := hI.hnr
  have hnd := hI.hnd
  have hns := hI.hns
  refine rg_entI [(0, .ref (κ.2.2.2 0)), (1, .int (rg_I r)), (2, .int (rg_I b))] rfl (by decide +kernel) (Nat.le_of_ble_eq_true rfl) (by first | exact Or.inl rfl | exact Or.inr rfl) (fun Γ F hR => ?_)
  refine rg_aload_n F 0 0 rfl dX10_points_0 rfl ?_
  refine rg_aload_n F 0 0 rfl dX10_points_1 rfl ?_
  refine rg_iload_n F 1 1 rfl dX10_points_2 rfl ?_
  refine rg_iload_n F 2 2 rfl dX10_points_3 rfl ?_
  refine rg_callVI F [.int (rg_I r), .int (rg_I b)] [.ref (κ.2.2.2 0)] 0 (k_X10_isThere κ σ (r) (b) (nb) (nr) (h0_1) (h0_4) (by first | assumption | omega) (by first | assumption | omega) (by first | assumption | omega) (by first | assumption | omega)) tM0 cX10 v_X10_isThere i_X10_isThere k_ml_X10_176 ⟨Nat.le_of_ble_eq_true rfl, Nat.le_of_ble_eq_true rfl⟩ rfl (Nat.le_of_ble_eq_true rfl) dX10_points_4 (rg_ex2 ?_)
  show rg_G κ Γ rg_tM 3 0 0 (4 + 3) [(0, .ref (κ.2.2.2 0)), (1, .int (rg_I r)), (2, .int (rg_I b))] [.int (rg_I (rg_b (rg_th ((nb : Nat) : Int) ((nr : Nat) : Int) r b))), .ref (κ.2.2.2 0)] σ
  refine rg_if_eq F 14 dX10_points_7 (by decide) (by have b0 := rg_b_Rg (rg_th ((nb : Nat) : Int) ((nr : Nat) : Int) r b); omega) (fun c7_1 => ?_) (fun c7_1 => ?_)
  ·
    have c7_1 := (rg_b_eq0 _).mp c7_1
    refine rg_iconst F dX10_points_14 ?_
    refine rg_put F 0 0 tM0 cX10 k_lays_X10 tyX10_ok nmX10 (by decide) k_fl_X10_89 rfl rfl rfl rfl (f9 := (σ 0)) rfl (rg_wr σ 0 (rg_up (σ 0) 0 1)) rfl dX10_points_15 ?_
    refine rg_aload_n F 0 0 rfl dX10_points_18 rfl ?_
    refine rg_get F 0 0 tM0 cX10 k_lays_X10 (by decide) k_fl_X10_89 rfl (v := .int (rg_I 1)) rfl dX10_points_19 ?_
    refine rg_if_le F 27 dX10_points_22 (by decide) (by omega) (fun c22_2 => ?_) (fun c22_2 => ?_)
    · exfalso; omega
    ·
      refine rg_iconst F dX10_points_25 ?_
      exact hR _ _ _ _ dX10_points_26 (fun h => nomatch h) ⟨rfl, (rg_wr_congr (f := (rg_up (σ 0) 0 1)) (g := (rg_up (σ 0) 0 (rg_cT ((nb : Nat) : Int) ((nr : Nat) : Int) r b))) 0 rfl (by (repeat rw [rg_up_up]) <;> first | rfl | exact congrArg (rg_up _ 0) (by unfold rg_cT; (repeat' split) <;> omega)))⟩
  ·
    have c7_1 := (rg_b_ne0 _).mp c7_1
    refine rg_iconst F dX10_points_10 ?_
    refine rg_goto F 15 dX10_points_11 (by decide) ?_
    refine rg_put F 0 0 tM0 cX10 k_lays_X10 tyX10_ok nmX10 (by decide) k_fl_X10_89 rfl rfl rfl rfl (f9 := (σ 0)) rfl (rg_wr σ 0 (rg_up (σ 0) 0 0)) rfl dX10_points_15 ?_
    refine rg_aload_n F 0 0 rfl dX10_points_18 rfl ?_
    refine rg_get F 0 0 tM0 cX10 k_lays_X10 (by decide) k_fl_X10_89 rfl (v := .int (rg_I 0)) rfl dX10_points_19 ?_
    exfalso; unfold rg_cT at hc; (repeat' split at hc) <;> omega
set_option maxHeartbeats 400000 in
set_option maxRecDepth 100000 in
/-- isDiscard, done -/
theorem k_X10_isDiscard_o (κ : rg_K) (σ : rg_S) (r b : Int) (nb : Nat) (nr : Nat) (nd : Nat) (tr : Int) (ns : Nat) (h0_1 : σ 0 1 = ((nb : Nat) : Int)) (h0_4 : σ 0 4 = ((nr : Nat) : Int)) (h0_11 : σ 0 11 = ((nd : Nat) : Int)) (h0_16 : σ 0 16 = tr) (h0_17 : σ 0 17 = ((ns : Nat) : Int)) (hI : rg_IM σ nb nr nd ns tr) (hr : rg_Rg r) (hb : rg_Rg b) (hc : (rg_cT ((nb : Nat) : Int) ((nr : Nat) : Int) r b) = 0) : rg_CI κ rg_tM yX10_isDiscard cX10_isDiscard 3 FieldType.boolean 5 119 [.ref (κ.2.2.2 0), .int (rg_I r), .int (rg_I b)] σ (fun r9 σ9 => r9 = (rg_kD σ tr nd nb nr ns (Int.toNat r) (Int.toNat b)) ∧ σ9 = (rg_wr (rg_wr (rg_wr (rg_wr (rg_wr (rg_wr (rg_wr (rg_wr (rg_wr (rg_wr (rg_wr σ 0 (rg_up (σ 0) 0 0)) 15 (rg_kE σ tr nd nb nr)) 16 (rg_kA σ tr nd nb nr)) 17 (rg_kP σ tr nd nb nr)) 18 (rg_kS σ tr nd nb nr)) 19 (rg_kT σ tr nd nb nr)) 20 (rg_ctb (σ 20) nr nb (fun _ _ => True) (rg_kD σ tr nd nb nr ns))) 21 (rg_hd (σ 21) nb (rg_kG σ tr nd nb nr))) 22 (rg_hd (σ 22) nb (rg_kN σ tr nd nb nr ns))) 23 (rg_hd (σ 23) nb (rg_kM σ tr nd nb nr))) 24 (rg_hd (σ 24) nb (rg_kC σ tr nd nb nr ns)))) := by
  have hnb := hI.hnb
  have hnr := hI.hnr
  have hnd := hI.hnd
  have hns := hI.hns
  have hth := rg_cT_0 hc
  refine rg_entI [(0, .ref (κ.2.2.2 0)), (1, .int (rg_I r)), (2, .int (rg_I b))] rfl (by decide +kernel) (Nat.le_of_ble_eq_true rfl) (by first | exact Or.inl rfl | exact Or.inr rfl) (fun Γ F hR => ?_)
  refine rg_aload_n F 0 0 rfl dX10_isDiscard_0 rfl ?_
  refine rg_aload_n F 0 0 rfl dX10_isDiscard_1 rfl ?_
  refine rg_iload_n F 1 1 rfl dX10_isDiscard_2 rfl ?_
  refine rg_iload_n F 2 2 rfl dX10_isDiscard_3 rfl ?_
  refine rg_callVI F [.int (rg_I r), .int (rg_I b)] [.ref (κ.2.2.2 0)] 0 (k_X10_isThere κ σ (r) (b) (nb) (nr) (h0_1) (h0_4) (by first | assumption | omega) (by first | assumption | omega) (by first | assumption | omega) (by first | assumption | omega)) tM0 cX10 v_X10_isThere i_X10_isThere k_ml_X10_176 ⟨Nat.le_of_ble_eq_true rfl, Nat.le_of_ble_eq_true rfl⟩ rfl (Nat.le_of_ble_eq_true rfl) dX10_isDiscard_4 (rg_ex2 ?_)
  show rg_G κ Γ rg_tM 3 0 0 (4 + 3) [(0, .ref (κ.2.2.2 0)), (1, .int (rg_I r)), (2, .int (rg_I b))] [.int (rg_I (rg_b (rg_th ((nb : Nat) : Int) ((nr : Nat) : Int) r b))), .ref (κ.2.2.2 0)] σ
  refine rg_if_eq F 14 dX10_isDiscard_7 (by decide) (by have b0 := rg_b_Rg (rg_th ((nb : Nat) : Int) ((nr : Nat) : Int) r b); omega) (fun c7_1 => ?_) (fun c7_1 => ?_)
  ·
    have c7_1 := (rg_b_eq0 _).mp c7_1
    refine rg_iconst F dX10_isDiscard_14 ?_
    refine rg_put F 0 0 tM0 cX10 k_lays_X10 tyX10_ok nmX10 (by decide) k_fl_X10_89 rfl rfl rfl rfl (f9 := (σ 0)) rfl (rg_wr σ 0 (rg_up (σ 0) 0 1)) rfl dX10_isDiscard_15 ?_
    refine rg_aload_n F 0 0 rfl dX10_isDiscard_18 rfl ?_
    refine rg_get F 0 0 tM0 cX10 k_lays_X10 (by decide) k_fl_X10_89 rfl (v := .int (rg_I 1)) rfl dX10_isDiscard_19 ?_
    exfalso; unfold rg_cT at hc; (repeat' split at hc) <;> omega
  ·
    have c7_1 := (rg_b_ne0 _).mp c7_1
    refine rg_iconst F dX10_isDiscard_10 ?_
    refine rg_goto F 15 dX10_isDiscard_11 (by decide) ?_
    refine rg_put F 0 0 tM0 cX10 k_lays_X10 tyX10_ok nmX10 (by decide) k_fl_X10_89 rfl rfl rfl rfl (f9 := (σ 0)) rfl (rg_wr σ 0 (rg_up (σ 0) 0 0)) rfl dX10_isDiscard_15 ?_
    refine rg_aload_n F 0 0 rfl dX10_isDiscard_18 rfl ?_
    refine rg_get F 0 0 tM0 cX10 k_lays_X10 (by decide) k_fl_X10_89 rfl (v := .int (rg_I 0)) rfl dX10_isDiscard_19 ?_
    refine rg_if_le F 27 dX10_isDiscard_22 (by decide) (by omega) (fun c22_2 => ?_) (fun c22_2 => ?_)
    ·
      refine rg_aload_n F 0 0 rfl dX10_isDiscard_27 rfl ?_
      refine rg_callVV F [] [] 0 (k_X10_reckon κ (rg_wr σ 0 (rg_up (σ 0) 0 0)) (nb) (nr) (nd) (tr) (ns) (h0_1) (h0_4) (h0_11) (h0_16) (h0_17) (rg_IM_0 hI _)) tM0 cX10 v_X10_reckon i_X10_reckon k_ml_X10_190 ⟨Nat.le_of_ble_eq_true rfl, Nat.le_of_ble_eq_true rfl⟩ rfl (Nat.le_of_ble_eq_true rfl) dX10_isDiscard_28 (rg_ex1 ?_)
      refine rg_eq (σ' := (rg_wr (rg_wr (rg_wr (rg_wr (rg_wr (rg_wr (rg_wr (rg_wr (rg_wr (rg_wr (rg_wr σ 0 (rg_up (σ 0) 0 0)) 15 (rg_kE σ tr nd nb nr)) 16 (rg_kA σ tr nd nb nr)) 17 (rg_kP σ tr nd nb nr)) 18 (rg_kS σ tr nd nb nr)) 19 (rg_kT σ tr nd nb nr)) 20 (rg_ctb (σ 20) nr nb (fun _ _ => True) (rg_kD σ tr nd nb nr ns))) 21 (rg_hd (σ 21) nb (rg_kG σ tr nd nb nr))) 22 (rg_hd (σ 22) nb (rg_kN σ tr nd nb nr ns))) 23 (rg_hd (σ 23) nb (rg_kM σ tr nd nb nr))) 24 (rg_hd (σ 24) nb (rg_kC σ tr nd nb nr ns)))) rfl ?_
      refine rg_aload_n F 0 0 rfl dX10_isDiscard_31 rfl ?_
      refine rg_get F 0 26 tM0 cX10 k_lays_X10 (by decide) k_fl_X10_68 rfl (v := .ref (κ.2.2.2 20)) rfl dX10_isDiscard_32 ?_
      refine rg_bipush F dX10_isDiscard_35 (by decide +kernel) ?_
      refine rg_iload_n F 1 1 rfl dX10_isDiscard_37 rfl ?_
      refine rg_stk (st' := [.int (rg_I ((Int.toNat r : Nat) : Int)), .int (rg_I 40), .ref (κ.2.2.2 20)]) (by rw [Int.toNat_of_nonneg (a := r) (by omega)]) ?_
      refine rg_imul F dX10_isDiscard_38 ?_
      refine rg_iload_n F 2 2 rfl dX10_isDiscard_39 rfl ?_
      refine rg_stk (st' := [.int (rg_I ((Int.toNat b : Nat) : Int)), .int (rg_I (40 * ((Int.toNat r : Nat) : Int))), .ref (κ.2.2.2 20)]) (by rw [Int.toNat_of_nonneg (a := b) (by omega)]) ?_
      refine rg_iadd F dX10_isDiscard_40 ?_
      refine rg_stk (st' := [.int (rg_I (((Int.toNat r) * 40 + (Int.toNat b) : Nat) : Int)), .ref (κ.2.2.2 20)]) (congrArg (fun x9 : Int => Value.int (rg_I x9) :: [.ref (κ.2.2.2 20)]) (by omega)) ?_
      refine rg_zald F 20 ((Int.toNat r) * 40 + (Int.toNat b)) (v := (rg_kD σ tr nd nb nr ns (Int.toNat r) (Int.toNat b))) tM20 (by omega) (by omega) (by decide) ((show (rg_ctb (σ 20) nr nb (fun _ _ => True) (rg_kD σ tr nd nb nr ns)) ((Int.toNat r) * 40 + (Int.toNat b)) = (rg_kD σ tr nd nb nr ns (Int.toNat r) (Int.toNat b)) from (rg_ctb_at _ _ _ (by omega) (by omega) (by omega) trivial))) dX10_isDiscard_41 ?_
      exact hR _ _ _ _ dX10_isDiscard_42 (fun _ => (by have b0 := (rg_kD_01 : rg_kD σ tr nd nb nr ns (Int.toNat r) (Int.toNat b) = 0 ∨ rg_kD σ tr nd nb nr ns (Int.toNat r) (Int.toNat b) = 1); omega)) ⟨rfl, rfl⟩
    · exfalso; omega
set_option maxHeartbeats 400000 in
set_option maxRecDepth 100000 in
/-- isDiscard, refused -/
theorem k_X10_isDiscard_n (κ : rg_K) (σ : rg_S) (r b : Int) (nb : Nat) (nr : Nat) (nd : Nat) (tr : Int) (ns : Nat) (h0_1 : σ 0 1 = ((nb : Nat) : Int)) (h0_4 : σ 0 4 = ((nr : Nat) : Int)) (h0_11 : σ 0 11 = ((nd : Nat) : Int)) (h0_16 : σ 0 16 = tr) (h0_17 : σ 0 17 = ((ns : Nat) : Int)) (hI : rg_IM σ nb nr nd ns tr) (hr : rg_Rg r) (hb : rg_Rg b) (hc : ¬ (rg_cT ((nb : Nat) : Int) ((nr : Nat) : Int) r b) = 0) : rg_CI κ rg_tM yX10_isDiscard cX10_isDiscard 3 FieldType.boolean 5 119 [.ref (κ.2.2.2 0), .int (rg_I r), .int (rg_I b)] σ (fun r9 σ9 => r9 = 0 ∧ σ9 = (rg_wr σ 0 (rg_up (σ 0) 0 (rg_cT ((nb : Nat) : Int) ((nr : Nat) : Int) r b)))) := by
  have hnb := hI.hnb
  have hnr := hI.hnr
  have hnd := hI.hnd
  have hns := hI.hns
  refine rg_entI [(0, .ref (κ.2.2.2 0)), (1, .int (rg_I r)), (2, .int (rg_I b))] rfl (by decide +kernel) (Nat.le_of_ble_eq_true rfl) (by first | exact Or.inl rfl | exact Or.inr rfl) (fun Γ F hR => ?_)
  refine rg_aload_n F 0 0 rfl dX10_isDiscard_0 rfl ?_
  refine rg_aload_n F 0 0 rfl dX10_isDiscard_1 rfl ?_
  refine rg_iload_n F 1 1 rfl dX10_isDiscard_2 rfl ?_
  refine rg_iload_n F 2 2 rfl dX10_isDiscard_3 rfl ?_
  refine rg_callVI F [.int (rg_I r), .int (rg_I b)] [.ref (κ.2.2.2 0)] 0 (k_X10_isThere κ σ (r) (b) (nb) (nr) (h0_1) (h0_4) (by first | assumption | omega) (by first | assumption | omega) (by first | assumption | omega) (by first | assumption | omega)) tM0 cX10 v_X10_isThere i_X10_isThere k_ml_X10_176 ⟨Nat.le_of_ble_eq_true rfl, Nat.le_of_ble_eq_true rfl⟩ rfl (Nat.le_of_ble_eq_true rfl) dX10_isDiscard_4 (rg_ex2 ?_)
  show rg_G κ Γ rg_tM 3 0 0 (4 + 3) [(0, .ref (κ.2.2.2 0)), (1, .int (rg_I r)), (2, .int (rg_I b))] [.int (rg_I (rg_b (rg_th ((nb : Nat) : Int) ((nr : Nat) : Int) r b))), .ref (κ.2.2.2 0)] σ
  refine rg_if_eq F 14 dX10_isDiscard_7 (by decide) (by have b0 := rg_b_Rg (rg_th ((nb : Nat) : Int) ((nr : Nat) : Int) r b); omega) (fun c7_1 => ?_) (fun c7_1 => ?_)
  ·
    have c7_1 := (rg_b_eq0 _).mp c7_1
    refine rg_iconst F dX10_isDiscard_14 ?_
    refine rg_put F 0 0 tM0 cX10 k_lays_X10 tyX10_ok nmX10 (by decide) k_fl_X10_89 rfl rfl rfl rfl (f9 := (σ 0)) rfl (rg_wr σ 0 (rg_up (σ 0) 0 1)) rfl dX10_isDiscard_15 ?_
    refine rg_aload_n F 0 0 rfl dX10_isDiscard_18 rfl ?_
    refine rg_get F 0 0 tM0 cX10 k_lays_X10 (by decide) k_fl_X10_89 rfl (v := .int (rg_I 1)) rfl dX10_isDiscard_19 ?_
    refine rg_if_le F 27 dX10_isDiscard_22 (by decide) (by omega) (fun c22_2 => ?_) (fun c22_2 => ?_)
    · exfalso; omega
    ·
      refine rg_iconst F dX10_isDiscard_25 ?_
      exact hR _ _ _ _ dX10_isDiscard_26 (fun _ => Or.inl rfl) ⟨rfl, (rg_wr_congr (f := (rg_up (σ 0) 0 1)) (g := (rg_up (σ 0) 0 (rg_cT ((nb : Nat) : Int) ((nr : Nat) : Int) r b))) 0 rfl (by (repeat rw [rg_up_up]) <;> first | rfl | exact congrArg (rg_up _ 0) (by unfold rg_cT; (repeat' split) <;> omega)))⟩
  ·
    have c7_1 := (rg_b_ne0 _).mp c7_1
    refine rg_iconst F dX10_isDiscard_10 ?_
    refine rg_goto F 15 dX10_isDiscard_11 (by decide) ?_
    refine rg_put F 0 0 tM0 cX10 k_lays_X10 tyX10_ok nmX10 (by decide) k_fl_X10_89 rfl rfl rfl rfl (f9 := (σ 0)) rfl (rg_wr σ 0 (rg_up (σ 0) 0 0)) rfl dX10_isDiscard_15 ?_
    refine rg_aload_n F 0 0 rfl dX10_isDiscard_18 rfl ?_
    refine rg_get F 0 0 tM0 cX10 k_lays_X10 (by decide) k_fl_X10_89 rfl (v := .int (rg_I 0)) rfl dX10_isDiscard_19 ?_
    exfalso; unfold rg_cT at hc; (repeat' split at hc) <;> omega
