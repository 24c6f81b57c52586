/-! The class's calls that are done, 2 (laid by program). -/
set_option maxHeartbeats 400000 in
set_option maxRecDepth 100000 in
/-- penalty, done -/
theorem k_X9_penalty_o (κ : rg_K) (σ : rg_S) (r b p : Int) (f16 : Nat → Int) (f18 : Nat → Int) (nb : Nat) (nr : Nat) (h16 : σ 16 = f16) (h18 : σ 18 = f18) (h1_2 : σ 1 2 = ((nb : Nat) : Int)) (h2_3 : σ 2 3 = ((nr : Nat) : Int)) (hnb : nb ≤ 40) (hnr : nr ≤ 16) (hth : rg_th ((nb : Nat) : Int) ((nr : Nat) : Int) r b) (hp0 : f16 (Int.toNat r * 40 + Int.toNat b) = 0) (hp : 0 ≤ p ∧ p ≤ 100) (hf16 : ∀ j, rg_Rg (f16 j)) : rg_CV κ rg_tC yX9_penalty cX9_penalty 4 2 43 [.ref (κ.2.2.2 0), .int (rg_I r), .int (rg_I b), .int (rg_I p)] σ (fun σ9 => σ9 = (rg_wr (rg_wr σ 0 (rg_up (σ 0) 9 1)) 18 (rg_up f18 (Int.toNat r * 40 + Int.toNat b) p))) := by
  refine rg_entV [(0, .ref (κ.2.2.2 0)), (1, .int (rg_I r)), (2, .int (rg_I b)), (3, .int (rg_I p))] rfl (by decide +kernel) (Nat.le_of_ble_eq_true rfl) (fun Γ F hR => ?_)
  refine rg_aload_n F 0 0 rfl dX9_penalty_0 rfl ?_
  refine rg_iload_n F 1 1 rfl dX9_penalty_1 rfl ?_
  refine rg_iload_n F 2 2 rfl dX9_penalty_2 rfl ?_
  refine rg_callVV F [.int (rg_I r), .int (rg_I b)] [] 0 (k_X9_requireRaceAndBoat_o κ σ (r) (b) (nb) (nr) (h1_2) (h2_3) (by first | assumption | omega) (by first | assumption | omega) hth) tC0 cX9 v_X9_requireRaceAndBoat i_X9_requireRaceAndBoat k_ml_X9_146 ⟨Nat.le_of_ble_eq_true rfl, Nat.le_of_ble_eq_true rfl⟩ rfl (Nat.le_of_ble_eq_true rfl) dX9_penalty_3 (rg_ex1 ?_)
  refine rg_aload_n F 0 0 rfl dX9_penalty_6 rfl ?_
  refine rg_get F 0 2 tC0 cX9 k_lays_X9 (by decide) k_fl_X9_26 rfl (v := .ref (κ.2.2.2 3)) rfl dX9_penalty_7 ?_
  refine rg_get F 3 0 tC3 cX2 k_lays_X2 (by decide) k_fl_X9_149 rfl (v := .ref (κ.2.2.2 16)) rfl dX9_penalty_10 ?_
  refine rg_iload_n F 1 1 rfl dX9_penalty_13 rfl ?_
  refine rg_stk (st' := [.int (rg_I ((Int.toNat r : Nat) : Int)), .ref (κ.2.2.2 16)]) (by rw [Int.toNat_of_nonneg (a := r) (by omega)]) ?_
  refine rg_iload_n F 2 2 rfl dX9_penalty_14 rfl ?_
  refine rg_stk (st' := [.int (rg_I ((Int.toNat b : Nat) : Int)), .int (rg_I ((Int.toNat r : Nat) : Int)), .ref (κ.2.2.2 16)]) (by rw [Int.toNat_of_nonneg (a := b) (by omega)]) ?_
  refine rg_callSI F [.int (rg_I ((Int.toNat r : Nat) : Int)), .int (rg_I ((Int.toNat b : Nat) : Int))] [.ref (κ.2.2.2 16)] (k_X9_cell κ rg_tC σ ((Int.toNat r)) ((Int.toNat b))) v_X9_cell k_st_yX9_cell k_ml_X9_137 ⟨Nat.le_of_ble_eq_true rfl, Nat.le_of_ble_eq_true rfl⟩ rfl (Nat.le_of_ble_eq_true rfl) dX9_penalty_15 (rg_ex2 ?_)
  show rg_G κ Γ rg_tC 4 0 0 (15 + 3) [(0, .ref (κ.2.2.2 0)), (1, .int (rg_I r)), (2, .int (rg_I b)), (3, .int (rg_I p))] [.int (rg_I (((Int.toNat r) * 40 + (Int.toNat b) : Nat) : Int)), .ref (κ.2.2.2 16)] σ
  refine rg_iald F 16 ((Int.toNat r) * 40 + (Int.toNat b)) (v := (f16 ((Int.toNat r) * 40 + (Int.toNat b)))) tC16 (by omega) (by omega) (by decide) (congrFun h16 ((Int.toNat r) * 40 + (Int.toNat b))) dX9_penalty_18 ?_
  refine rg_if_eq F 32 dX9_penalty_19 (by decide) (by have b0 := hf16 (((Int.toNat r) * 40 + (Int.toNat b))); omega) (fun c19_1 => ?_) (fun c19_1 => ?_)
  ·
    refine rg_iload_n F 3 3 rfl dX9_penalty_32 rfl ?_
    refine rg_if_lt F 42 dX9_penalty_33 (by decide) (by omega) (fun c33_2 => ?_) (fun c33_2 => ?_)
    · exfalso; omega
    ·
      refine rg_iload_n F 3 3 rfl dX9_penalty_36 rfl ?_
      refine rg_bipush F dX9_penalty_37 (by decide +kernel) ?_
      refine rg_icmp_le F 52 dX9_penalty_39 (by decide) (by omega) (by omega) (fun c39_3 => ?_) (fun c39_3 => ?_)
      ·
        refine rg_aload_n F 0 0 rfl dX9_penalty_52 rfl ?_
        refine rg_get F 0 2 tC0 cX9 k_lays_X9 (by decide) k_fl_X9_26 rfl (v := .ref (κ.2.2.2 3)) rfl dX9_penalty_53 ?_
        refine rg_get F 3 2 tC3 cX2 k_lays_X2 (by decide) k_fl_X9_157 rfl (v := .ref (κ.2.2.2 18)) rfl dX9_penalty_56 ?_
        refine rg_iload_n F 1 1 rfl dX9_penalty_59 rfl ?_
        refine rg_stk (st' := [.int (rg_I ((Int.toNat r : Nat) : Int)), .ref (κ.2.2.2 18)]) (by rw [Int.toNat_of_nonneg (a := r) (by omega)]) ?_
        refine rg_iload_n F 2 2 rfl dX9_penalty_60 rfl ?_
        refine rg_stk (st' := [.int (rg_I ((Int.toNat b : Nat) : Int)), .int (rg_I ((Int.toNat r : Nat) : Int)), .ref (κ.2.2.2 18)]) (by rw [Int.toNat_of_nonneg (a := b) (by omega)]) ?_
        refine rg_callSI F [.int (rg_I ((Int.toNat r : Nat) : Int)), .int (rg_I ((Int.toNat b : Nat) : Int))] [.ref (κ.2.2.2 18)] (k_X9_cell κ rg_tC σ ((Int.toNat r)) ((Int.toNat b))) v_X9_cell k_st_yX9_cell k_ml_X9_137 ⟨Nat.le_of_ble_eq_true rfl, Nat.le_of_ble_eq_true rfl⟩ rfl (Nat.le_of_ble_eq_true rfl) dX9_penalty_61 (rg_ex2 ?_)
        show rg_G κ Γ rg_tC 4 0 0 (61 + 3) [(0, .ref (κ.2.2.2 0)), (1, .int (rg_I r)), (2, .int (rg_I b)), (3, .int (rg_I p))] [.int (rg_I (((Int.toNat r) * 40 + (Int.toNat b) : Nat) : Int)), .ref (κ.2.2.2 18)] σ
        refine rg_iload_n F 3 3 rfl dX9_penalty_64 rfl ?_
        refine rg_iast F 18 ((Int.toNat r) * 40 + (Int.toNat b)) tC18 (by omega) (by omega) (by decide) (f9 := f18) h18 (rg_wr σ 18 (rg_up f18 ((Int.toNat r) * 40 + (Int.toNat b)) p)) rfl dX9_penalty_65 ?_
        refine rg_aload_n F 0 0 rfl dX9_penalty_66 rfl ?_
        refine rg_iconst F dX9_penalty_67 ?_
        refine rg_put F 0 9 tC0 cX9 k_lays_X9 tyX9_ok nmX9 (by decide) k_fl_X9_78 rfl rfl (rg_narrow_z (Or.inr rfl)) rfl (f9 := (σ 0)) rfl (rg_wr (rg_wr σ 0 (rg_up (σ 0) 9 1)) 18 (rg_up f18 ((Int.toNat r) * 40 + (Int.toNat b)) p)) ((rg_wr_comm _ _ _ (by decide)).trans (rg_wr_congr 18 rfl rfl)) dX9_penalty_68 ?_
        exact hR _ _ _ dX9_penalty_71 (rg_wr_congr (f := (rg_up f18 ((Int.toNat r) * 40 + (Int.toNat b)) p)) (g := (rg_up f18 (Int.toNat r * 40 + Int.toNat b) p)) 18 (rg_wr_congr (f := (rg_up (σ 0) 9 1)) (g := (rg_up (σ 0) 9 1)) 0 rfl rfl) rfl)
      · exfalso; omega
  · exfalso; omega
set_option maxHeartbeats 400000 in
set_option maxRecDepth 100000 in
/-- clear, done -/
theorem k_X9_clear_o (κ : rg_K) (σ : rg_S) (r b : Int) (f16 : Nat → Int) (nb : Nat) (nr : Nat) (h16 : σ 16 = f16) (h1_2 : σ 1 2 = ((nb : Nat) : Int)) (h2_3 : σ 2 3 = ((nr : Nat) : Int)) (hnb : nb ≤ 40) (hnr : nr ≤ 16) (hth : rg_th ((nb : Nat) : Int) ((nr : Nat) : Int) r b) (hf16 : ∀ j, rg_Rg (f16 j)) : rg_CI κ rg_tC yX9_clear cX9_clear 4 FieldType.boolean 2 43 [.ref (κ.2.2.2 0), .int (rg_I r), .int (rg_I b)] σ (fun r9 σ9 => r9 = (rg_b (¬ f16 (Int.toNat r * 40 + Int.toNat b) = -1)) ∧ σ9 = (rg_wr (rg_wr σ 0 (rg_up (σ 0) 9 1)) 16 (rg_up f16 (Int.toNat r * 40 + Int.toNat b) (-1)))) := by
  refine rg_entI [(0, .ref (κ.2.2.2 0)), (1, .int (rg_I r)), (2, .int (rg_I b))] rfl (by decide +kernel) (Nat.le_of_ble_eq_true rfl) (by first | exact Or.inl rfl | exact Or.inr rfl) (fun Γ F hR => ?_)
  refine rg_aload_n F 0 0 rfl dX9_clear_0 rfl ?_
  refine rg_iload_n F 1 1 rfl dX9_clear_1 rfl ?_
  refine rg_iload_n F 2 2 rfl dX9_clear_2 rfl ?_
  refine rg_callVV F [.int (rg_I r), .int (rg_I b)] [] 0 (k_X9_requireRaceAndBoat_o κ σ (r) (b) (nb) (nr) (h1_2) (h2_3) (by first | assumption | omega) (by first | assumption | omega) hth) tC0 cX9 v_X9_requireRaceAndBoat i_X9_requireRaceAndBoat k_ml_X9_146 ⟨Nat.le_of_ble_eq_true rfl, Nat.le_of_ble_eq_true rfl⟩ rfl (Nat.le_of_ble_eq_true rfl) dX9_clear_3 (rg_ex1 ?_)
  refine rg_aload_n F 0 0 rfl dX9_clear_6 rfl ?_
  refine rg_get F 0 2 tC0 cX9 k_lays_X9 (by decide) k_fl_X9_26 rfl (v := .ref (κ.2.2.2 3)) rfl dX9_clear_7 ?_
  refine rg_iload_n F 1 1 rfl dX9_clear_10 rfl ?_
  refine rg_stk (st' := [.int (rg_I ((Int.toNat r : Nat) : Int)), .ref (κ.2.2.2 3)]) (by rw [Int.toNat_of_nonneg (a := r) (by omega)]) ?_
  refine rg_iload_n F 2 2 rfl dX9_clear_11 rfl ?_
  refine rg_stk (st' := [.int (rg_I ((Int.toNat b : Nat) : Int)), .int (rg_I ((Int.toNat r : Nat) : Int)), .ref (κ.2.2.2 3)]) (by rw [Int.toNat_of_nonneg (a := b) (by omega)]) ?_
  refine rg_callSI F [.int (rg_I ((Int.toNat r : Nat) : Int)), .int (rg_I ((Int.toNat b : Nat) : Int))] [.ref (κ.2.2.2 3)] (k_X9_cell κ rg_tC σ ((Int.toNat r)) ((Int.toNat b))) v_X9_cell k_st_yX9_cell k_ml_X9_137 ⟨Nat.le_of_ble_eq_true rfl, Nat.le_of_ble_eq_true rfl⟩ rfl (Nat.le_of_ble_eq_true rfl) dX9_clear_12 (rg_ex2 ?_)
  show rg_G κ Γ rg_tC 4 0 0 (12 + 3) [(0, .ref (κ.2.2.2 0)), (1, .int (rg_I r)), (2, .int (rg_I b))] [.int (rg_I (((Int.toNat r) * 40 + (Int.toNat b) : Nat) : Int)), .ref (κ.2.2.2 3)] σ
  refine rg_callVI F [.int (rg_I (((Int.toNat r) * 40 + (Int.toNat b) : Nat) : Int))] [] 3 (k_X2_isAt_3 κ σ (((Int.toNat r) * 40 + (Int.toNat b))) f16 (h16) (by first | assumption | omega) hf16) tC3 cX2 v_X2_isAt i_X2_isAt k_ml_X9_160 ⟨Nat.le_of_ble_eq_true rfl, Nat.le_of_ble_eq_true rfl⟩ rfl (Nat.le_of_ble_eq_true rfl) dX9_clear_15 (rg_ex2 ?_)
  show rg_G κ Γ rg_tC 4 0 0 (15 + 3) [(0, .ref (κ.2.2.2 0)), (1, .int (rg_I r)), (2, .int (rg_I b))] [.int (rg_I (rg_b (¬ f16 ((Int.toNat r) * 40 + (Int.toNat b)) = -1)))] σ
  refine rg_istore_n F [(3, .int (rg_I (rg_b (¬ f16 ((Int.toNat r) * 40 + (Int.toNat b)) = -1)))), (0, .ref (κ.2.2.2 0)), (1, .int (rg_I r)), (2, .int (rg_I b))] dX9_clear_18 rfl (by decide) rfl ?_
  refine rg_aload_n F 1 0 rfl dX9_clear_19 rfl ?_
  refine rg_get F 0 2 tC0 cX9 k_lays_X9 (by decide) k_fl_X9_26 rfl (v := .ref (κ.2.2.2 3)) rfl dX9_clear_20 ?_
  refine rg_iload_n F 2 1 rfl dX9_clear_23 rfl ?_
  refine rg_stk (st' := [.int (rg_I ((Int.toNat r : Nat) : Int)), .ref (κ.2.2.2 3)]) (by rw [Int.toNat_of_nonneg (a := r) (by omega)]) ?_
  refine rg_iload_n F 3 2 rfl dX9_clear_24 rfl ?_
  refine rg_stk (st' := [.int (rg_I ((Int.toNat b : Nat) : Int)), .int (rg_I ((Int.toNat r : Nat) : Int)), .ref (κ.2.2.2 3)]) (by rw [Int.toNat_of_nonneg (a := b) (by omega)]) ?_
  refine rg_callSI F [.int (rg_I ((Int.toNat r : Nat) : Int)), .int (rg_I ((Int.toNat b : Nat) : Int))] [.ref (κ.2.2.2 3)] (k_X9_cell κ rg_tC σ ((Int.toNat r)) ((Int.toNat b))) v_X9_cell k_st_yX9_cell k_ml_X9_137 ⟨Nat.le_of_ble_eq_true rfl, Nat.le_of_ble_eq_true rfl⟩ rfl (Nat.le_of_ble_eq_true rfl) dX9_clear_25 (rg_ex2 ?_)
  show rg_G κ Γ rg_tC 4 0 0 (25 + 3) [(3, .int (rg_I (rg_b (¬ f16 ((Int.toNat r) * 40 + (Int.toNat b)) = -1)))), (0, .ref (κ.2.2.2 0)), (1, .int (rg_I r)), (2, .int (rg_I b))] [.int (rg_I (((Int.toNat r) * 40 + (Int.toNat b) : Nat) : Int)), .ref (κ.2.2.2 3)] σ
  refine rg_callVV F [.int (rg_I (((Int.toNat r) * 40 + (Int.toNat b) : Nat) : Int))] [] 3 (k_X2_remove_3 κ σ (((Int.toNat r) * 40 + (Int.toNat b))) f16 (h16) (by first | assumption | omega)) tC3 cX2 v_X2_remove i_X2_remove k_ml_X9_164 ⟨Nat.le_of_ble_eq_true rfl, Nat.le_of_ble_eq_true rfl⟩ rfl (Nat.le_of_ble_eq_true rfl) dX9_clear_28 (rg_ex1 ?_)
  refine rg_eq (σ' := (rg_wr σ 16 (rg_up f16 ((Int.toNat r) * 40 + (Int.toNat b)) (-1)))) rfl ?_
  refine rg_aload_n F 1 0 rfl dX9_clear_31 rfl ?_
  refine rg_iconst F dX9_clear_32 ?_
  refine rg_put F 0 9 tC0 cX9 k_lays_X9 tyX9_ok nmX9 (by decide) k_fl_X9_78 rfl rfl (rg_narrow_z (Or.inr rfl)) rfl (f9 := (σ 0)) rfl (rg_wr (rg_wr σ 0 (rg_up (σ 0) 9 1)) 16 (rg_up f16 ((Int.toNat r) * 40 + (Int.toNat b)) (-1))) ((rg_wr_comm _ _ _ (by decide)).trans (rg_wr_congr 16 rfl rfl)) dX9_clear_33 ?_
  refine rg_iload_n F 0 3 rfl dX9_clear_36 rfl ?_
  exact hR _ _ _ _ dX9_clear_37 (fun _ => rg_b_01 _) ⟨rfl, (rg_wr_congr (f := (rg_up f16 ((Int.toNat r) * 40 + (Int.toNat b)) (-1))) (g := (rg_up f16 (Int.toNat r * 40 + Int.toNat b) (-1))) 16 (rg_wr_congr (f := (rg_up (σ 0) 9 1)) (g := (rg_up (σ 0) 9 1)) 0 rfl rfl) rfl)⟩
set_option maxHeartbeats 400000 in
set_option maxRecDepth 100000 in
/-- protest, done -/
theorem k_X9_protest_o (κ : rg_K) (σ : rg_S) (r b c x : Int) (fl : Nat → Int) (rf : Nat → Int) (dc : Nat → Int) (dk : Nat → Int) (da : Nat → Int) (nb : Nat) (nr : Nat) (nd : Nat) (h11 : σ 11 = fl) (h14 : σ 14 = rf) (h19 : σ 19 = dc) (h20 : σ 20 = dk) (h21 : σ 21 = da) (h1_2 : σ 1 2 = ((nb : Nat) : Int)) (h2_3 : σ 2 3 = ((nr : Nat) : Int)) (h4_4 : σ 4 4 = ((nd : Nat) : Int)) (hnb : nb ≤ 40) (hnr : nr ≤ 16) (hc : rg_wg rf fl ((nb : Nat) : Int) ((nr : Nat) : Int) r b c x = 0) (hnd : nd < 40) (hfl : ∀ j, rg_Rg (fl j)) (hrf : ∀ j, rg_Rg (rf j)) (hcr : rg_Rg c) (hxr : rg_Rg x) : rg_CI κ rg_tC yX9_protest cX9_protest 5 FieldType.int 3 65 [.ref (κ.2.2.2 0), .int (rg_I r), .int (rg_I b), .int (rg_I c), .int (rg_I x)] σ (fun r9 σ9 => r9 = ((nd : Nat) : Int) ∧ σ9 = (rg_wr (rg_wr (rg_wr (rg_wr (rg_wr σ 0 (rg_up (σ 0) 9 1)) 4 (rg_up (σ 4) 4 (((nd : Nat) : Int) + 1))) 19 (rg_up dc nd (((Int.toNat r * 40 + Int.toNat b) : Nat) : Int))) 20 (rg_up dk nd c)) 21 (rg_up da nd x))) := by
  have hq := rg_wg_0 hc
  refine rg_entI [(0, .ref (κ.2.2.2 0)), (1, .int (rg_I r)), (2, .int (rg_I b)), (3, .int (rg_I c)), (4, .int (rg_I x))] rfl (by decide +kernel) (Nat.le_of_ble_eq_true rfl) (by first | exact Or.inl rfl | exact Or.inr rfl) (fun Γ F hR => ?_)
  refine rg_aload_n F 0 0 rfl dX9_protest_0 rfl ?_
  refine rg_iload_n F 1 1 rfl dX9_protest_1 rfl ?_
  refine rg_iload_n F 2 2 rfl dX9_protest_2 rfl ?_
  refine rg_callVV F [.int (rg_I r), .int (rg_I b)] [] 0 (k_X9_requireRaceOfBoat_o κ σ (r) (b) fl rf (nb) (nr) (h11) (h14) (h1_2) (h2_3) (by first | assumption | omega) (by first | assumption | omega) hq.1.1 hq.1.2 (by first | assumption | omega) (by first | assumption | omega)) tC0 cX9 v_X9_requireRaceOfBoat i_X9_requireRaceOfBoat k_ml_X9_130 ⟨Nat.le_of_ble_eq_true rfl, Nat.le_of_ble_eq_true rfl⟩ rfl (Nat.le_of_ble_eq_true rfl) dX9_protest_3 (rg_ex1 ?_)
  refine rg_iload_n F 3 3 rfl dX9_protest_6 rfl ?_
  refine rg_iload F 4 4 rfl dX9_protest_7 ?_
  refine rg_callSV F [.int (rg_I c), .int (rg_I x)] [] (k_X9_requireEntry_o κ rg_tC σ (c) (x) (by first | assumption | omega) (by first | assumption | omega) hq.2) v_X9_requireEntry k_st_yX9_requireEntry k_ml_X9_134 ⟨Nat.le_of_ble_eq_true rfl, Nat.le_of_ble_eq_true rfl⟩ rfl (Nat.le_of_ble_eq_true rfl) dX9_protest_9 (rg_ex1 ?_)
  refine rg_aload_n F 0 0 rfl dX9_protest_12 rfl ?_
  refine rg_get F 0 3 tC0 cX9 k_lays_X9 (by decide) k_fl_X9_33 rfl (v := .ref (κ.2.2.2 4)) rfl dX9_protest_13 ?_
  refine rg_get F 4 4 tC4 cX1 k_lays_X1 (by decide) k_fl_X9_167 rfl (v := .int (rg_I ((nd : Nat) : Int))) (congrArg (fun x => Value.int (rg_I x)) h4_4) dX9_protest_16 ?_
  refine rg_bipush F dX9_protest_19 (by decide +kernel) ?_
  refine rg_icmp_lt F 34 dX9_protest_21 (by decide) (by omega) (by omega) (fun c21_1 => ?_) (fun c21_1 => ?_)
  ·
    refine rg_aload_n F 0 0 rfl dX9_protest_34 rfl ?_
    refine rg_iconst F dX9_protest_35 ?_
    refine rg_put F 0 9 tC0 cX9 k_lays_X9 tyX9_ok nmX9 (by decide) k_fl_X9_78 rfl rfl (rg_narrow_z (Or.inr rfl)) rfl (f9 := (σ 0)) rfl (rg_wr σ 0 (rg_up (σ 0) 9 1)) rfl dX9_protest_36 ?_
    refine rg_aload_n F 0 0 rfl dX9_protest_39 rfl ?_
    refine rg_get F 0 3 tC0 cX9 k_lays_X9 (by decide) k_fl_X9_33 rfl (v := .ref (κ.2.2.2 4)) rfl dX9_protest_40 ?_
    refine rg_iload_n F 1 1 rfl dX9_protest_43 rfl ?_
    refine rg_stk (st' := [.int (rg_I ((Int.toNat r : Nat) : Int)), .ref (κ.2.2.2 4)]) (by rw [Int.toNat_of_nonneg (a := r) (by omega)]) ?_
    refine rg_iload_n F 2 2 rfl dX9_protest_44 rfl ?_
    refine rg_stk (st' := [.int (rg_I ((Int.toNat b : Nat) : Int)), .int (rg_I ((Int.toNat r : Nat) : Int)), .ref (κ.2.2.2 4)]) (by rw [Int.toNat_of_nonneg (a := b) (by omega)]) ?_
    refine rg_callSI F [.int (rg_I ((Int.toNat r : Nat) : Int)), .int (rg_I ((Int.toNat b : Nat) : Int))] [.ref (κ.2.2.2 4)] (k_X9_cell κ rg_tC (rg_wr σ 0 (rg_up (σ 0) 9 1)) ((Int.toNat r)) ((Int.toNat b))) v_X9_cell k_st_yX9_cell k_ml_X9_137 ⟨Nat.le_of_ble_eq_true rfl, Nat.le_of_ble_eq_true rfl⟩ rfl (Nat.le_of_ble_eq_true rfl) dX9_protest_45 (rg_ex2 ?_)
    show rg_G κ Γ rg_tC 5 0 0 (45 + 3) [(0, .ref (κ.2.2.2 0)), (1, .int (rg_I r)), (2, .int (rg_I b)), (3, .int (rg_I c)), (4, .int (rg_I x))] [.int (rg_I (((Int.toNat r) * 40 + (Int.toNat b) : Nat) : Int)), .ref (κ.2.2.2 4)] (rg_wr σ 0 (rg_up (σ 0) 9 1))
    refine rg_iload_n F 3 3 rfl dX9_protest_48 rfl ?_
    refine rg_iload F 4 4 rfl dX9_protest_49 ?_
    refine rg_callVI F [.int (rg_I (((Int.toNat r) * 40 + (Int.toNat b) : Nat) : Int)), .int (rg_I c), .int (rg_I x)] [] 4 (k_X1_addOne κ (rg_wr σ 0 (rg_up (σ 0) 9 1)) ((((Int.toNat r) * 40 + (Int.toNat b) : Nat) : Int)) (c) (x) dc dk da (nd) (h19) (h20) (h21) (h4_4) (by first | assumption | omega)) tC4 cX1 v_X1_addOne i_X1_addOne k_ml_X9_170 ⟨Nat.le_of_ble_eq_true rfl, Nat.le_of_ble_eq_true rfl⟩ rfl (Nat.le_of_ble_eq_true rfl) dX9_protest_51 (rg_ex2 ?_)
    refine rg_eq (σ' := (rg_wr (rg_wr (rg_wr (rg_wr (rg_wr σ 0 (rg_up (σ 0) 9 1)) 4 (rg_up (σ 4) 4 (((nd : Nat) : Int) + 1))) 19 (rg_up dc nd (((Int.toNat r) * 40 + (Int.toNat b) : Nat) : Int))) 20 (rg_up dk nd c)) 21 (rg_up da nd x))) rfl ?_
    exact hR _ _ _ _ dX9_protest_54 (fun h => nomatch h) ⟨rfl, (rg_wr_congr (f := (rg_up da nd x)) (g := (rg_up da nd x)) 21 (rg_wr_congr (f := (rg_up dk nd c)) (g := (rg_up dk nd c)) 20 (rg_wr_congr (f := (rg_up dc nd (((Int.toNat r) * 40 + (Int.toNat b) : Nat) : Int))) (g := (rg_up dc nd (((Int.toNat r * 40 + Int.toNat b) : Nat) : Int))) 19 (rg_wr_congr (f := (rg_up (σ 4) 4 (((nd : Nat) : Int) + 1))) (g := (rg_up (σ 4) 4 (((nd : Nat) : Int) + 1))) 4 (rg_wr_congr (f := (rg_up (σ 0) 9 1)) (g := (rg_up (σ 0) 9 1)) 0 rfl rfl) rfl) rfl) rfl) rfl)⟩
  · exfalso; omega
set_option maxHeartbeats 400000 in
set_option maxRecDepth 100000 in
/-- reopen, done -/
theorem k_X9_reopen_o (κ : rg_K) (σ : rg_S) (d : Int) (ro : Nat → Int) (nd : Nat) (h22 : σ 22 = ro) (h4_4 : σ 4 4 = ((nd : Nat) : Int)) (hnd : nd ≤ 40) (hro : ∀ j, ro j = 0 ∨ ro j = 1) (hc : rg_cO ro ((nd : Nat) : Int) d = 0) : rg_CV κ rg_tC yX9_reopen cX9_reopen 2 0 0 [.ref (κ.2.2.2 0), .int (rg_I d)] σ (fun σ9 => σ9 = (rg_wr (rg_wr σ 0 (rg_up (σ 0) 9 1)) 22 (rg_up ro (Int.toNat d) 1))) := by
  have hq := rg_cO_0 hc
  refine rg_entV [(0, .ref (κ.2.2.2 0)), (1, .int (rg_I d))] rfl (by decide +kernel) (Nat.le_of_ble_eq_true rfl) (fun Γ F hR => ?_)
  refine rg_iload_n F 1 1 rfl dX9_reopen_0 rfl ?_
  refine rg_if_lt F 15 dX9_reopen_1 (by decide) (by omega) (fun c1_1 => ?_) (fun c1_1 => ?_)
  · exfalso; omega
  ·
    refine rg_iload_n F 1 1 rfl dX9_reopen_4 rfl ?_
    refine rg_aload_n F 0 0 rfl dX9_reopen_5 rfl ?_
    refine rg_get F 0 3 tC0 cX9 k_lays_X9 (by decide) k_fl_X9_33 rfl (v := .ref (κ.2.2.2 4)) rfl dX9_reopen_6 ?_
    refine rg_get F 4 4 tC4 cX1 k_lays_X1 (by decide) k_fl_X9_167 rfl (v := .int (rg_I ((nd : Nat) : Int))) (congrArg (fun x => Value.int (rg_I x)) h4_4) dX9_reopen_9 ?_
    refine rg_icmp_lt F 25 dX9_reopen_12 (by decide) (by omega) (by omega) (fun c12_2 => ?_) (fun c12_2 => ?_)
    ·
      refine rg_aload_n F 0 0 rfl dX9_reopen_25 rfl ?_
      refine rg_get F 0 3 tC0 cX9 k_lays_X9 (by decide) k_fl_X9_33 rfl (v := .ref (κ.2.2.2 4)) rfl dX9_reopen_26 ?_
      refine rg_get F 4 3 tC4 cX1 k_lays_X1 (by decide) k_fl_X9_178 rfl (v := .ref (κ.2.2.2 22)) rfl dX9_reopen_29 ?_
      refine rg_iload_n F 1 1 rfl dX9_reopen_32 rfl ?_
      refine rg_stk (st' := [.int (rg_I ((Int.toNat d : Nat) : Int)), .ref (κ.2.2.2 22)]) (by rw [Int.toNat_of_nonneg (a := d) (by omega)]) ?_
      refine rg_zald F 22 (Int.toNat d) (v := (ro (Int.toNat d))) tC22 (by omega) (by omega) (by decide) (congrFun h22 (Int.toNat d)) dX9_reopen_33 ?_
      refine rg_if_eq F 47 dX9_reopen_34 (by decide) (by have b0 := hro ((Int.toNat d)); omega) (fun c34_3 => ?_) (fun c34_3 => ?_)
      ·
        refine rg_aload_n F 0 0 rfl dX9_reopen_47 rfl ?_
        refine rg_get F 0 3 tC0 cX9 k_lays_X9 (by decide) k_fl_X9_33 rfl (v := .ref (κ.2.2.2 4)) rfl dX9_reopen_48 ?_
        refine rg_get F 4 3 tC4 cX1 k_lays_X1 (by decide) k_fl_X9_178 rfl (v := .ref (κ.2.2.2 22)) rfl dX9_reopen_51 ?_
        refine rg_iload_n F 1 1 rfl dX9_reopen_54 rfl ?_
        refine rg_stk (st' := [.int (rg_I ((Int.toNat d : Nat) : Int)), .ref (κ.2.2.2 22)]) (by rw [Int.toNat_of_nonneg (a := d) (by omega)]) ?_
        refine rg_iconst F dX9_reopen_55 ?_
        refine rg_zast F 22 (Int.toNat d) tC22 (by omega) (by omega) (by decide) (Or.inr rfl) (f9 := ro) h22 (rg_wr σ 22 (rg_up ro (Int.toNat d) 1)) rfl dX9_reopen_56 ?_
        refine rg_aload_n F 0 0 rfl dX9_reopen_57 rfl ?_
        refine rg_iconst F dX9_reopen_58 ?_
        refine rg_put F 0 9 tC0 cX9 k_lays_X9 tyX9_ok nmX9 (by decide) k_fl_X9_78 rfl rfl (rg_narrow_z (Or.inr rfl)) rfl (f9 := (σ 0)) rfl (rg_wr (rg_wr σ 0 (rg_up (σ 0) 9 1)) 22 (rg_up ro (Int.toNat d) 1)) ((rg_wr_comm _ _ _ (by decide)).trans (rg_wr_congr 22 rfl rfl)) dX9_reopen_59 ?_
        exact hR _ _ _ dX9_reopen_62 rfl
      · exfalso; omega
    · exfalso; omega
set_option maxHeartbeats 400000 in
set_option maxRecDepth 100000 in
/-- discards, done -/
theorem k_X9_discards_o (κ : rg_K) (σ : rg_S) (m n : Int) (sr : Nat → Int) (sl : Nat → Int) (ns : Nat) (h23 : σ 23 = sr) (h24 : σ 24 = sl) (h5_2 : σ 5 2 = ((ns : Nat) : Int)) (hns : ns ≤ 6) (hsr : ∀ j, rg_Rg (sr j)) (hsl : ∀ j, rg_Rg (sl j)) (hc : rg_cD sr sl ns m n = 0) : rg_CV κ rg_tC yX9_discards cX9_discards 3 1 22 [.ref (κ.2.2.2 0), .int (rg_I m), .int (rg_I n)] σ (fun σ9 => σ9 = (rg_wr (rg_wr (rg_wr (rg_wr σ 0 (rg_up (σ 0) 9 1)) 5 (rg_up (σ 5) 2 ((ns + 1 : Nat) : Int))) 23 (rg_up sr ns m)) 24 (rg_up sl ns n))) := by
  have hq := rg_cD_0 hc
  have hmr : rg_Rg m := ⟨by omega, by omega⟩
  have hnr : rg_Rg n := ⟨by omega, by omega⟩
  refine rg_entV [(0, .ref (κ.2.2.2 0)), (1, .int (rg_I m)), (2, .int (rg_I n))] rfl (by decide +kernel) (Nat.le_of_ble_eq_true rfl) (fun Γ F hR => ?_)
  refine rg_iload_n F 1 1 rfl dX9_discards_0 rfl ?_
  refine rg_iconst F dX9_discards_1 ?_
  refine rg_icmp_lt F 22 dX9_discards_2 (by decide) (by omega) (by omega) (fun c2_1 => ?_) (fun c2_1 => ?_)
  · exfalso; omega
  ·
    refine rg_iload_n F 1 1 rfl dX9_discards_5 rfl ?_
    refine rg_bipush F dX9_discards_6 (by decide +kernel) ?_
    refine rg_icmp_gt F 22 dX9_discards_8 (by decide) (by omega) (by omega) (fun c8_2 => ?_) (fun c8_2 => ?_)
    · exfalso; omega
    ·
      refine rg_iload_n F 2 2 rfl dX9_discards_11 rfl ?_
      refine rg_iconst F dX9_discards_12 ?_
      refine rg_icmp_lt F 22 dX9_discards_13 (by decide) (by omega) (by omega) (fun c13_3 => ?_) (fun c13_3 => ?_)
      · exfalso; omega
      ·
        refine rg_iload_n F 2 2 rfl dX9_discards_16 rfl ?_
        refine rg_bipush F dX9_discards_17 (by decide +kernel) ?_
        refine rg_icmp_le F 32 dX9_discards_19 (by decide) (by omega) (by omega) (fun c19_4 => ?_) (fun c19_4 => ?_)
        ·
          refine rg_aload_n F 0 0 rfl dX9_discards_32 rfl ?_
          refine rg_get F 0 4 tC0 cX9 k_lays_X9 (by decide) k_fl_X9_40 rfl (v := .ref (κ.2.2.2 5)) rfl dX9_discards_33 ?_
          refine rg_iload_n F 1 1 rfl dX9_discards_36 rfl ?_
          refine rg_iload_n F 2 2 rfl dX9_discards_37 rfl ?_
          refine rg_callVI F [.int (rg_I m), .int (rg_I n)] [] 5 (k_X8_isAboveLatest κ σ (m) (n) sr sl (ns) (h23) (h24) (h5_2) (by first | assumption | omega) hmr hnr (by first | assumption | omega) (by first | assumption | omega)) tC5 cX8 v_X8_isAboveLatest i_X8_isAboveLatest k_ml_X9_185 ⟨Nat.le_of_ble_eq_true rfl, Nat.le_of_ble_eq_true rfl⟩ rfl (Nat.le_of_ble_eq_true rfl) dX9_discards_38 (rg_ex2 ?_)
          show rg_G κ Γ rg_tC 3 0 0 (38 + 3) [(0, .ref (κ.2.2.2 0)), (1, .int (rg_I m)), (2, .int (rg_I n))] [.int (rg_I (rg_b (ns = 0 ∨ (sr (ns - 1) < m ∧ sl (ns - 1) < n))))] σ
          refine rg_if_ne F 54 dX9_discards_41 (by decide) (by have b0 := rg_b_Rg (ns = 0 ∨ (sr (ns - 1) < m ∧ sl (ns - 1) < n)); omega) (fun c41_5 => ?_) (fun c41_5 => ?_)
          ·
            have c41_5 := (rg_b_ne0 _).mp c41_5
            refine rg_aload_n F 0 0 rfl dX9_discards_54 rfl ?_
            refine rg_get F 0 4 tC0 cX9 k_lays_X9 (by decide) k_fl_X9_40 rfl (v := .ref (κ.2.2.2 5)) rfl dX9_discards_55 ?_
            refine rg_get F 5 2 tC5 cX8 k_lays_X8 (by decide) k_fl_X9_190 rfl (v := .int (rg_I ((ns : Nat) : Int))) (congrArg (fun x => Value.int (rg_I x)) h5_2) dX9_discards_58 ?_
            refine rg_bipush F dX9_discards_61 (by decide +kernel) ?_
            refine rg_icmp_lt F 76 dX9_discards_63 (by decide) (by omega) (by omega) (fun c63_6 => ?_) (fun c63_6 => ?_)
            ·
              refine rg_aload_n F 0 0 rfl dX9_discards_76 rfl ?_
              refine rg_get F 0 4 tC0 cX9 k_lays_X9 (by decide) k_fl_X9_40 rfl (v := .ref (κ.2.2.2 5)) rfl dX9_discards_77 ?_
              refine rg_iload_n F 1 1 rfl dX9_discards_80 rfl ?_
              refine rg_iload_n F 2 2 rfl dX9_discards_81 rfl ?_
              refine rg_callVV F [.int (rg_I m), .int (rg_I n)] [] 5 (k_X8_addOne κ σ (m) (n) (σ 5) sr sl (ns) rfl (h23) (h24) (h5_2) (by first | assumption | omega)) tC5 cX8 v_X8_addOne i_X8_addOne k_ml_X9_193 ⟨Nat.le_of_ble_eq_true rfl, Nat.le_of_ble_eq_true rfl⟩ rfl (Nat.le_of_ble_eq_true rfl) dX9_discards_82 (rg_ex1 ?_)
              refine rg_eq (σ' := (rg_wr (rg_wr (rg_wr σ 5 (rg_up (σ 5) 2 ((ns + 1 : Nat) : Int))) 23 (rg_up sr ns m)) 24 (rg_up sl ns n))) rfl ?_
              refine rg_aload_n F 0 0 rfl dX9_discards_85 rfl ?_
              refine rg_iconst F dX9_discards_86 ?_
              refine rg_put F 0 9 tC0 cX9 k_lays_X9 tyX9_ok nmX9 (by decide) k_fl_X9_78 rfl rfl (rg_narrow_z (Or.inr rfl)) rfl (f9 := (σ 0)) rfl (rg_wr (rg_wr (rg_wr (rg_wr σ 0 (rg_up (σ 0) 9 1)) 5 (rg_up (σ 5) 2 ((ns + 1 : Nat) : Int))) 23 (rg_up sr ns m)) 24 (rg_up sl ns n)) ((rg_wr_comm _ _ _ (by decide)).trans (rg_wr_congr 24 ((rg_wr_comm _ _ _ (by decide)).trans (rg_wr_congr 23 ((rg_wr_comm _ _ _ (by decide)).trans (rg_wr_congr 5 rfl rfl)) rfl)) rfl)) dX9_discards_87 ?_
              exact hR _ _ _ dX9_discards_90 rfl
            · exfalso; omega
          · exact absurd c41_5 ((rg_b_ne0 _).mpr (by omega))
        · exfalso; omega
set_option maxHeartbeats 400000 in
set_option maxRecDepth 100000 in
/-- lot, done -/
theorem k_X9_lot_o (κ : rg_K) (σ : rg_S) (b x : Int) (lt : Nat → Int) (nb : Nat) (h12 : σ 12 = lt) (h1_2 : σ 1 2 = ((nb : Nat) : Int)) (hnb : nb ≤ 40) (hc : rg_cL ((nb : Nat) : Int) b x = 0) : rg_CI κ rg_tC yX9_lot cX9_lot 4 FieldType.int 1 21 [.ref (κ.2.2.2 0), .int (rg_I b), .int (rg_I x)] σ (fun r9 σ9 => r9 = (lt (Int.toNat b)) ∧ σ9 = (rg_wr (rg_wr σ 0 (rg_up (σ 0) 9 1)) 12 (rg_up lt (Int.toNat b) x))) := by
  have hq := rg_cL_0 hc
  refine rg_entI [(0, .ref (κ.2.2.2 0)), (1, .int (rg_I b)), (2, .int (rg_I x))] rfl (by decide +kernel) (Nat.le_of_ble_eq_true rfl) (by first | exact Or.inl rfl | exact Or.inr rfl) (fun Γ F hR => ?_)
  refine rg_aload_n F 0 0 rfl dX9_lot_0 rfl ?_
  refine rg_iload_n F 1 1 rfl dX9_lot_1 rfl ?_
  refine rg_callVV F [.int (rg_I b)] [] 0 (k_X9_requireBoat_o κ σ (b) (nb) (h1_2) (by first | assumption | omega) hq.1) tC0 cX9 v_X9_requireBoat i_X9_requireBoat k_ml_X9_195 ⟨Nat.le_of_ble_eq_true rfl, Nat.le_of_ble_eq_true rfl⟩ rfl (Nat.le_of_ble_eq_true rfl) dX9_lot_2 (rg_ex1 ?_)
  refine rg_iload_n F 2 2 rfl dX9_lot_5 rfl ?_
  refine rg_if_lt F 16 dX9_lot_6 (by decide) (by omega) (fun c6_1 => ?_) (fun c6_1 => ?_)
  · exfalso; omega
  ·
    refine rg_iload_n F 2 2 rfl dX9_lot_9 rfl ?_
    refine rg_sipush F dX9_lot_10 (by decide +kernel) ?_
    refine rg_icmp_le F 26 dX9_lot_13 (by decide) (by omega) (by omega) (fun c13_2 => ?_) (fun c13_2 => ?_)
    ·
      refine rg_aload_n F 0 0 rfl dX9_lot_26 rfl ?_
      refine rg_get F 0 0 tC0 cX9 k_lays_X9 (by decide) k_fl_X9_12 rfl (v := .ref (κ.2.2.2 1)) rfl dX9_lot_27 ?_
      refine rg_get F 1 1 tC1 cX0 k_lays_X0 (by decide) k_fl_X9_200 rfl (v := .ref (κ.2.2.2 12)) rfl dX9_lot_30 ?_
      refine rg_iload_n F 1 1 rfl dX9_lot_33 rfl ?_
      refine rg_stk (st' := [.int (rg_I ((Int.toNat b : Nat) : Int)), .ref (κ.2.2.2 12)]) (by rw [Int.toNat_of_nonneg (a := b) (by omega)]) ?_
      refine rg_iald F 12 (Int.toNat b) (v := (lt (Int.toNat b))) tC12 (by omega) (by omega) (by decide) (congrFun h12 (Int.toNat b)) dX9_lot_34 ?_
      refine rg_istore_n F [(3, .int (rg_I (lt (Int.toNat b)))), (0, .ref (κ.2.2.2 0)), (1, .int (rg_I b)), (2, .int (rg_I x))] dX9_lot_35 rfl (by decide) rfl ?_
      refine rg_aload_n F 1 0 rfl dX9_lot_36 rfl ?_
      refine rg_get F 0 0 tC0 cX9 k_lays_X9 (by decide) k_fl_X9_12 rfl (v := .ref (κ.2.2.2 1)) rfl dX9_lot_37 ?_
      refine rg_get F 1 1 tC1 cX0 k_lays_X0 (by decide) k_fl_X9_200 rfl (v := .ref (κ.2.2.2 12)) rfl dX9_lot_40 ?_
      refine rg_iload_n F 2 1 rfl dX9_lot_43 rfl ?_
      refine rg_stk (st' := [.int (rg_I ((Int.toNat b : Nat) : Int)), .ref (κ.2.2.2 12)]) (by rw [Int.toNat_of_nonneg (a := b) (by omega)]) ?_
      refine rg_iload_n F 3 2 rfl dX9_lot_44 rfl ?_
      refine rg_iast F 12 (Int.toNat b) tC12 (by omega) (by omega) (by decide) (f9 := lt) h12 (rg_wr σ 12 (rg_up lt (Int.toNat b) x)) rfl dX9_lot_45 ?_
      refine rg_aload_n F 1 0 rfl dX9_lot_46 rfl ?_
      refine rg_iconst F dX9_lot_47 ?_
      refine rg_put F 0 9 tC0 cX9 k_lays_X9 tyX9_ok nmX9 (by decide) k_fl_X9_78 rfl rfl (rg_narrow_z (Or.inr rfl)) rfl (f9 := (σ 0)) rfl (rg_wr (rg_wr σ 0 (rg_up (σ 0) 9 1)) 12 (rg_up lt (Int.toNat b) x)) ((rg_wr_comm _ _ _ (by decide)).trans (rg_wr_congr 12 rfl rfl)) dX9_lot_48 ?_
      refine rg_iload_n F 0 3 rfl dX9_lot_51 rfl ?_
      exact hR _ _ _ _ dX9_lot_52 (fun h => nomatch h) ⟨rfl, rfl⟩
    · exfalso; omega
set_option maxHeartbeats 400000 in
set_option maxRecDepth 100000 in
/-- points, stale -/
theorem k_X9_points_y (κ : rg_K) (σ : rg_S) (r b : Int) (st : Int) (nb : Nat) (nr : Nat) (nd : Nat) (ns : Nat) (h0_9 : σ 0 9 = st) (h1_2 : σ 1 2 = ((nb : Nat) : Int)) (h2_3 : σ 2 3 = ((nr : Nat) : Int)) (h4_4 : σ 4 4 = ((nd : Nat) : Int)) (h5_2 : σ 5 2 = ((ns : Nat) : Int)) (hI : rg_IC σ nb nr nd ns) (hst : st = 0 ∨ st = 1) (hs : ¬ st = 0) (hth : rg_th ((nb : Nat) : Int) ((nr : Nat) : Int) r b) : rg_CI κ rg_tC yX9_points cX9_points 3 FieldType.int 6 132 [.ref (κ.2.2.2 0), .int (rg_I r), .int (rg_I b)] σ (fun r9 σ9 => r9 = ((rg_zT σ nd nb nr) (Int.toNat r * 40 + Int.toNat b)) ∧ σ9 = (rg_wr (rg_wr (rg_wr (rg_wr (rg_wr (rg_wr (rg_wr (rg_wr (rg_wr (rg_wr (rg_wr (rg_wr (rg_wr (rg_wr (rg_wr (rg_wr (rg_wr (rg_wr (rg_wr σ 0 (rg_up (σ 0) 9 0)) 25 (rg_zE σ nd)) 26 (rg_zA σ nd)) 27 (rg_zP σ nd)) 28 (rg_zI σ nd nb nr)) 29 (rg_zT σ nd nb nr)) 30 (rg_zS σ nd nb nr)) 31 (rg_hd (σ 31) nr (rg_SZ (σ 14) (σ 11) nb))) 32 (rg_s32 (σ 32) (rg_zE σ nd) (rg_zA σ nd) nb nr)) 33 (rg_s33 (σ 33) (rg_zE σ nd) (rg_zA σ nd) nb nr)) 34 (rg_zC σ nd nb nr)) 35 (rg_zD σ nd nb nr ns)) 36 (rg_zM σ nd nb nr)) 37 (rg_zK σ nd nb nr ns)) 38 (rg_zG σ nd nb nr)) 39 (rg_zN σ nd nb nr ns)) 40 (rg_rws nb (rg_zR σ nd nb nr ns))) 41 (rg_zO σ nd nb nr ns)) 42 (rg_RK (rg_zO σ nd nb nr ns) (σ 42) nb))) := by
  have hnb := hI.hnb
  have hnr := hI.hnr
  refine rg_entI [(0, .ref (κ.2.2.2 0)), (1, .int (rg_I r)), (2, .int (rg_I b))] rfl (by decide +kernel) (Nat.le_of_ble_eq_true rfl) (by first | exact Or.inl rfl | exact Or.inr rfl) (fun Γ F hR => ?_)
  refine rg_aload_n F 0 0 rfl dX9_points_0 rfl ?_
  refine rg_iload_n F 1 1 rfl dX9_points_1 rfl ?_
  refine rg_iload_n F 2 2 rfl dX9_points_2 rfl ?_
  refine rg_callVV F [.int (rg_I r), .int (rg_I b)] [] 0 (k_X9_requireRaceAndBoat_o κ σ (r) (b) (nb) (nr) (h1_2) (h2_3) (by first | assumption | omega) (by first | assumption | omega) hth) tC0 cX9 v_X9_requireRaceAndBoat i_X9_requireRaceAndBoat k_ml_X9_146 ⟨Nat.le_of_ble_eq_true rfl, Nat.le_of_ble_eq_true rfl⟩ rfl (Nat.le_of_ble_eq_true rfl) dX9_points_3 (rg_ex1 ?_)
  refine rg_aload_n F 0 0 rfl dX9_points_6 rfl ?_
  refine rg_callVV F [] [] 0 (k_X9_bringUpToDate_y κ σ (st) (nb) (nr) (nd) (ns) (h0_9) (h1_2) (h2_3) (h4_4) (h5_2) hI hst hs) tC0 cX9 v_X9_bringUpToDate i_X9_bringUpToDate k_ml_X9_203 ⟨Nat.le_of_ble_eq_true rfl, Nat.le_of_ble_eq_true rfl⟩ rfl (Nat.le_of_ble_eq_true rfl) dX9_points_7 (rg_ex1 ?_)
  refine rg_eq (σ' := (rg_wr (rg_wr (rg_wr (rg_wr (rg_wr (rg_wr (rg_wr (rg_wr (rg_wr (rg_wr (rg_wr (rg_wr (rg_wr (rg_wr (rg_wr (rg_wr (rg_wr (rg_wr (rg_wr σ 0 (rg_up (σ 0) 9 0)) 25 (rg_zE σ nd)) 26 (rg_zA σ nd)) 27 (rg_zP σ nd)) 28 (rg_zI σ nd nb nr)) 29 (rg_zT σ nd nb nr)) 30 (rg_zS σ nd nb nr)) 31 (rg_hd (σ 31) nr (rg_SZ (σ 14) (σ 11) nb))) 32 (rg_s32 (σ 32) (rg_zE σ nd) (rg_zA σ nd) nb nr)) 33 (rg_s33 (σ 33) (rg_zE σ nd) (rg_zA σ nd) nb nr)) 34 (rg_zC σ nd nb nr)) 35 (rg_zD σ nd nb nr ns)) 36 (rg_zM σ nd nb nr)) 37 (rg_zK σ nd nb nr ns)) 38 (rg_zG σ nd nb nr)) 39 (rg_zN σ nd nb nr ns)) 40 (rg_rws nb (rg_zR σ nd nb nr ns))) 41 (rg_zO σ nd nb nr ns)) 42 (rg_RK (rg_zO σ nd nb nr ns) (σ 42) nb))) rfl ?_
  refine rg_aload_n F 0 0 rfl dX9_points_10 rfl ?_
  refine rg_get F 0 5 tC0 cX9 k_lays_X9 (by decide) k_fl_X9_49 rfl (v := .ref (κ.2.2.2 6)) rfl dX9_points_11 ?_
  refine rg_get F 6 2 tC6 cX3 k_lays_X3 (by decide) k_fl_X9_224 rfl (v := .ref (κ.2.2.2 29)) rfl dX9_points_14 ?_
  refine rg_iload_n F 1 1 rfl dX9_points_17 rfl ?_
  refine rg_stk (st' := [.int (rg_I ((Int.toNat r : Nat) : Int)), .ref (κ.2.2.2 29)]) (by rw [Int.toNat_of_nonneg (a := r) (by omega)]) ?_
  refine rg_iload_n F 2 2 rfl dX9_points_18 rfl ?_
  refine rg_stk (st' := [.int (rg_I ((Int.toNat b : Nat) : Int)), .int (rg_I ((Int.toNat r : Nat) : Int)), .ref (κ.2.2.2 29)]) (by rw [Int.toNat_of_nonneg (a := b) (by omega)]) ?_
  refine rg_callSI F [.int (rg_I ((Int.toNat r : Nat) : Int)), .int (rg_I ((Int.toNat b : Nat) : Int))] [.ref (κ.2.2.2 29)] (k_X9_cell κ rg_tC (rg_wr (rg_wr (rg_wr (rg_wr (rg_wr (rg_wr (rg_wr (rg_wr (rg_wr (rg_wr (rg_wr (rg_wr (rg_wr (rg_wr (rg_wr (rg_wr (rg_wr (rg_wr (rg_wr σ 0 (rg_up (σ 0) 9 0)) 25 (rg_zE σ nd)) 26 (rg_zA σ nd)) 27 (rg_zP σ nd)) 28 (rg_zI σ nd nb nr)) 29 (rg_zT σ nd nb nr)) 30 (rg_zS σ nd nb nr)) 31 (rg_hd (σ 31) nr (rg_SZ (σ 14) (σ 11) nb))) 32 (rg_s32 (σ 32) (rg_zE σ nd) (rg_zA σ nd) nb nr)) 33 (rg_s33 (σ 33) (rg_zE σ nd) (rg_zA σ nd) nb nr)) 34 (rg_zC σ nd nb nr)) 35 (rg_zD σ nd nb nr ns)) 36 (rg_zM σ nd nb nr)) 37 (rg_zK σ nd nb nr ns)) 38 (rg_zG σ nd nb nr)) 39 (rg_zN σ nd nb nr ns)) 40 (rg_rws nb (rg_zR σ nd nb nr ns))) 41 (rg_zO σ nd nb nr ns)) 42 (rg_RK (rg_zO σ nd nb nr ns) (σ 42) nb)) ((Int.toNat r)) ((Int.toNat b))) v_X9_cell k_st_yX9_cell k_ml_X9_137 ⟨Nat.le_of_ble_eq_true rfl, Nat.le_of_ble_eq_true rfl⟩ rfl (Nat.le_of_ble_eq_true rfl) dX9_points_19 (rg_ex2 ?_)
  show rg_G κ Γ rg_tC 3 0 0 (19 + 3) [(0, .ref (κ.2.2.2 0)), (1, .int (rg_I r)), (2, .int (rg_I b))] [.int (rg_I (((Int.toNat r) * 40 + (Int.toNat b) : Nat) : Int)), .ref (κ.2.2.2 29)] (rg_wr (rg_wr (rg_wr (rg_wr (rg_wr (rg_wr (rg_wr (rg_wr (rg_wr (rg_wr (rg_wr (rg_wr (rg_wr (rg_wr (rg_wr (rg_wr (rg_wr (rg_wr (rg_wr σ 0 (rg_up (σ 0) 9 0)) 25 (rg_zE σ nd)) 26 (rg_zA σ nd)) 27 (rg_zP σ nd)) 28 (rg_zI σ nd nb nr)) 29 (rg_zT σ nd nb nr)) 30 (rg_zS σ nd nb nr)) 31 (rg_hd (σ 31) nr (rg_SZ (σ 14) (σ 11) nb))) 32 (rg_s32 (σ 32) (rg_zE σ nd) (rg_zA σ nd) nb nr)) 33 (rg_s33 (σ 33) (rg_zE σ nd) (rg_zA σ nd) nb nr)) 34 (rg_zC σ nd nb nr)) 35 (rg_zD σ nd nb nr ns)) 36 (rg_zM σ nd nb nr)) 37 (rg_zK σ nd nb nr ns)) 38 (rg_zG σ nd nb nr)) 39 (rg_zN σ nd nb nr ns)) 40 (rg_rws nb (rg_zR σ nd nb nr ns))) 41 (rg_zO σ nd nb nr ns)) 42 (rg_RK (rg_zO σ nd nb nr ns) (σ 42) nb))
  refine rg_iald F 29 ((Int.toNat r) * 40 + (Int.toNat b)) (v := ((rg_zT σ nd nb nr) ((Int.toNat r) * 40 + (Int.toNat b)))) tC29 (by omega) (by omega) (by decide) rfl dX9_points_22 ?_
  exact hR _ _ _ _ dX9_points_23 (fun h => nomatch h) ⟨(by omega), rfl⟩
set_option maxHeartbeats 400000 in
set_option maxRecDepth 100000 in
/-- points, at rest -/
theorem k_X9_points_n (κ : rg_K) (σ : rg_S) (r b : Int) (st : Int) (nb : Nat) (nr : Nat) (nd : Nat) (ns : Nat) (h0_9 : σ 0 9 = st) (h1_2 : σ 1 2 = ((nb : Nat) : Int)) (h2_3 : σ 2 3 = ((nr : Nat) : Int)) (h4_4 : σ 4 4 = ((nd : Nat) : Int)) (h5_2 : σ 5 2 = ((ns : Nat) : Int)) (hI : rg_IC σ nb nr nd ns) (hst : st = 0 ∨ st = 1) (hs : st = 0) (hth : rg_th ((nb : Nat) : Int) ((nr : Nat) : Int) r b) : rg_CI κ rg_tC yX9_points cX9_points 3 FieldType.int 6 132 [.ref (κ.2.2.2 0), .int (rg_I r), .int (rg_I b)] σ (fun r9 σ9 => r9 = ((σ 29) (Int.toNat r * 40 + Int.toNat b)) ∧ σ9 = σ) := by
  have hnb := hI.hnb
  have hnr := hI.hnr
  refine rg_entI [(0, .ref (κ.2.2.2 0)), (1, .int (rg_I r)), (2, .int (rg_I b))] rfl (by decide +kernel) (Nat.le_of_ble_eq_true rfl) (by first | exact Or.inl rfl | exact Or.inr rfl) (fun Γ F hR => ?_)
  refine rg_aload_n F 0 0 rfl dX9_points_0 rfl ?_
  refine rg_iload_n F 1 1 rfl dX9_points_1 rfl ?_
  refine rg_iload_n F 2 2 rfl dX9_points_2 rfl ?_
  refine rg_callVV F [.int (rg_I r), .int (rg_I b)] [] 0 (k_X9_requireRaceAndBoat_o κ σ (r) (b) (nb) (nr) (h1_2) (h2_3) (by first | assumption | omega) (by first | assumption | omega) hth) tC0 cX9 v_X9_requireRaceAndBoat i_X9_requireRaceAndBoat k_ml_X9_146 ⟨Nat.le_of_ble_eq_true rfl, Nat.le_of_ble_eq_true rfl⟩ rfl (Nat.le_of_ble_eq_true rfl) dX9_points_3 (rg_ex1 ?_)
  refine rg_aload_n F 0 0 rfl dX9_points_6 rfl ?_
  refine rg_callVV F [] [] 0 (k_X9_bringUpToDate_n κ σ (st) (nb) (nr) (nd) (ns) (h0_9) (h1_2) (h2_3) (h4_4) (h5_2) hI hst hs) tC0 cX9 v_X9_bringUpToDate i_X9_bringUpToDate k_ml_X9_203 ⟨Nat.le_of_ble_eq_true rfl, Nat.le_of_ble_eq_true rfl⟩ rfl (Nat.le_of_ble_eq_true rfl) dX9_points_7 (rg_ex1 ?_)
  refine rg_aload_n F 0 0 rfl dX9_points_10 rfl ?_
  refine rg_get F 0 5 tC0 cX9 k_lays_X9 (by decide) k_fl_X9_49 rfl (v := .ref (κ.2.2.2 6)) rfl dX9_points_11 ?_
  refine rg_get F 6 2 tC6 cX3 k_lays_X3 (by decide) k_fl_X9_224 rfl (v := .ref (κ.2.2.2 29)) rfl dX9_points_14 ?_
  refine rg_iload_n F 1 1 rfl dX9_points_17 rfl ?_
  refine rg_stk (st' := [.int (rg_I ((Int.toNat r : Nat) : Int)), .ref (κ.2.2.2 29)]) (by rw [Int.toNat_of_nonneg (a := r) (by omega)]) ?_
  refine rg_iload_n F 2 2 rfl dX9_points_18 rfl ?_
  refine rg_stk (st' := [.int (rg_I ((Int.toNat b : Nat) : Int)), .int (rg_I ((Int.toNat r : Nat) : Int)), .ref (κ.2.2.2 29)]) (by rw [Int.toNat_of_nonneg (a := b) (by omega)]) ?_
  refine rg_callSI F [.int (rg_I ((Int.toNat r : Nat) : Int)), .int (rg_I ((Int.toNat b : Nat) : Int))] [.ref (κ.2.2.2 29)] (k_X9_cell κ rg_tC σ ((Int.toNat r)) ((Int.toNat b))) v_X9_cell k_st_yX9_cell k_ml_X9_137 ⟨Nat.le_of_ble_eq_true rfl, Nat.le_of_ble_eq_true rfl⟩ rfl (Nat.le_of_ble_eq_true rfl) dX9_points_19 (rg_ex2 ?_)
  show rg_G κ Γ rg_tC 3 0 0 (19 + 3) [(0, .ref (κ.2.2.2 0)), (1, .int (rg_I r)), (2, .int (rg_I b))] [.int (rg_I (((Int.toNat r) * 40 + (Int.toNat b) : Nat) : Int)), .ref (κ.2.2.2 29)] σ
  refine rg_iald F 29 ((Int.toNat r) * 40 + (Int.toNat b)) (v := ((σ 29) ((Int.toNat r) * 40 + (Int.toNat b)))) tC29 (by omega) (by omega) (by decide) rfl dX9_points_22 ?_
  exact hR _ _ _ _ dX9_points_23 (fun h => nomatch h) ⟨(by omega), rfl⟩
set_option maxHeartbeats 400000 in
set_option maxRecDepth 100000 in
/-- isDiscard, stale -/
theorem k_X9_isDiscard_y (κ : rg_K) (σ : rg_S) (r b : Int) (st : Int) (nb : Nat) (nr : Nat) (nd : Nat) (ns : Nat) (h0_9 : σ 0 9 = st) (h1_2 : σ 1 2 = ((nb : Nat) : Int)) (h2_3 : σ 2 3 = ((nr : Nat) : Int)) (h4_4 : σ 4 4 = ((nd : Nat) : Int)) (h5_2 : σ 5 2 = ((ns : Nat) : Int)) (hI : rg_IC σ nb nr nd ns) (hst : st = 0 ∨ st = 1) (hs : ¬ st = 0) (hth : rg_th ((nb : Nat) : Int) ((nr : Nat) : Int) r b) : rg_CI κ rg_tC yX9_isDiscard cX9_isDiscard 3 FieldType.boolean 6 132 [.ref (κ.2.2.2 0), .int (rg_I r), .int (rg_I b)] σ (fun r9 σ9 => r9 = ((rg_zD σ nd nb nr ns) (Int.toNat r * 40 + Int.toNat b)) ∧ σ9 = (rg_wr (rg_wr (rg_wr (rg_wr (rg_wr (rg_wr (rg_wr (rg_wr (rg_wr (rg_wr (rg_wr (rg_wr (rg_wr (rg_wr (rg_wr (rg_wr (rg_wr (rg_wr (rg_wr σ 0 (rg_up (σ 0) 9 0)) 25 (rg_zE σ nd)) 26 (rg_zA σ nd)) 27 (rg_zP σ nd)) 28 (rg_zI σ nd nb nr)) 29 (rg_zT σ nd nb nr)) 30 (rg_zS σ nd nb nr)) 31 (rg_hd (σ 31) nr (rg_SZ (σ 14) (σ 11) nb))) 32 (rg_s32 (σ 32) (rg_zE σ nd) (rg_zA σ nd) nb nr)) 33 (rg_s33 (σ 33) (rg_zE σ nd) (rg_zA σ nd) nb nr)) 34 (rg_zC σ nd nb nr)) 35 (rg_zD σ nd nb nr ns)) 36 (rg_zM σ nd nb nr)) 37 (rg_zK σ nd nb nr ns)) 38 (rg_zG σ nd nb nr)) 39 (rg_zN σ nd nb nr ns)) 40 (rg_rws nb (rg_zR σ nd nb nr ns))) 41 (rg_zO σ nd nb nr ns)) 42 (rg_RK (rg_zO σ nd nb nr ns) (σ 42) nb))) := by
  have hnb := hI.hnb
  have hnr := hI.hnr
  refine rg_entI [(0, .ref (κ.2.2.2 0)), (1, .int (rg_I r)), (2, .int (rg_I b))] rfl (by decide +kernel) (Nat.le_of_ble_eq_true rfl) (by first | exact Or.inl rfl | exact Or.inr rfl) (fun Γ F hR => ?_)
  refine rg_aload_n F 0 0 rfl dX9_isDiscard_0 rfl ?_
  refine rg_iload_n F 1 1 rfl dX9_isDiscard_1 rfl ?_
  refine rg_iload_n F 2 2 rfl dX9_isDiscard_2 rfl ?_
  refine rg_callVV F [.int (rg_I r), .int (rg_I b)] [] 0 (k_X9_requireRaceAndBoat_o κ σ (r) (b) (nb) (nr) (h1_2) (h2_3) (by first | assumption | omega) (by first | assumption | omega) hth) tC0 cX9 v_X9_requireRaceAndBoat i_X9_requireRaceAndBoat k_ml_X9_146 ⟨Nat.le_of_ble_eq_true rfl, Nat.le_of_ble_eq_true rfl⟩ rfl (Nat.le_of_ble_eq_true rfl) dX9_isDiscard_3 (rg_ex1 ?_)
  refine rg_aload_n F 0 0 rfl dX9_isDiscard_6 rfl ?_
  refine rg_callVV F [] [] 0 (k_X9_bringUpToDate_y κ σ (st) (nb) (nr) (nd) (ns) (h0_9) (h1_2) (h2_3) (h4_4) (h5_2) hI hst hs) tC0 cX9 v_X9_bringUpToDate i_X9_bringUpToDate k_ml_X9_203 ⟨Nat.le_of_ble_eq_true rfl, Nat.le_of_ble_eq_true rfl⟩ rfl (Nat.le_of_ble_eq_true rfl) dX9_isDiscard_7 (rg_ex1 ?_)
  refine rg_eq (σ' := (rg_wr (rg_wr (rg_wr (rg_wr (rg_wr (rg_wr (rg_wr (rg_wr (rg_wr (rg_wr (rg_wr (rg_wr (rg_wr (rg_wr (rg_wr (rg_wr (rg_wr (rg_wr (rg_wr σ 0 (rg_up (σ 0) 9 0)) 25 (rg_zE σ nd)) 26 (rg_zA σ nd)) 27 (rg_zP σ nd)) 28 (rg_zI σ nd nb nr)) 29 (rg_zT σ nd nb nr)) 30 (rg_zS σ nd nb nr)) 31 (rg_hd (σ 31) nr (rg_SZ (σ 14) (σ 11) nb))) 32 (rg_s32 (σ 32) (rg_zE σ nd) (rg_zA σ nd) nb nr)) 33 (rg_s33 (σ 33) (rg_zE σ nd) (rg_zA σ nd) nb nr)) 34 (rg_zC σ nd nb nr)) 35 (rg_zD σ nd nb nr ns)) 36 (rg_zM σ nd nb nr)) 37 (rg_zK σ nd nb nr ns)) 38 (rg_zG σ nd nb nr)) 39 (rg_zN σ nd nb nr ns)) 40 (rg_rws nb (rg_zR σ nd nb nr ns))) 41 (rg_zO σ nd nb nr ns)) 42 (rg_RK (rg_zO σ nd nb nr ns) (σ 42) nb))) rfl ?_
  refine rg_aload_n F 0 0 rfl dX9_isDiscard_10 rfl ?_
  refine rg_get F 0 6 tC0 cX9 k_lays_X9 (by decide) k_fl_X9_58 rfl (v := .ref (κ.2.2.2 7)) rfl dX9_isDiscard_11 ?_
  refine rg_get F 7 1 tC7 cX6 k_lays_X6 (by decide) k_fl_X9_227 rfl (v := .ref (κ.2.2.2 35)) rfl dX9_isDiscard_14 ?_
  refine rg_iload_n F 1 1 rfl dX9_isDiscard_17 rfl ?_
  refine rg_stk (st' := [.int (rg_I ((Int.toNat r : Nat) : Int)), .ref (κ.2.2.2 35)]) (by rw [Int.toNat_of_nonneg (a := r) (by omega)]) ?_
  refine rg_iload_n F 2 2 rfl dX9_isDiscard_18 rfl ?_
  refine rg_stk (st' := [.int (rg_I ((Int.toNat b : Nat) : Int)), .int (rg_I ((Int.toNat r : Nat) : Int)), .ref (κ.2.2.2 35)]) (by rw [Int.toNat_of_nonneg (a := b) (by omega)]) ?_
  refine rg_callSI F [.int (rg_I ((Int.toNat r : Nat) : Int)), .int (rg_I ((Int.toNat b : Nat) : Int))] [.ref (κ.2.2.2 35)] (k_X9_cell κ rg_tC (rg_wr (rg_wr (rg_wr (rg_wr (rg_wr (rg_wr (rg_wr (rg_wr (rg_wr (rg_wr (rg_wr (rg_wr (rg_wr (rg_wr (rg_wr (rg_wr (rg_wr (rg_wr (rg_wr σ 0 (rg_up (σ 0) 9 0)) 25 (rg_zE σ nd)) 26 (rg_zA σ nd)) 27 (rg_zP σ nd)) 28 (rg_zI σ nd nb nr)) 29 (rg_zT σ nd nb nr)) 30 (rg_zS σ nd nb nr)) 31 (rg_hd (σ 31) nr (rg_SZ (σ 14) (σ 11) nb))) 32 (rg_s32 (σ 32) (rg_zE σ nd) (rg_zA σ nd) nb nr)) 33 (rg_s33 (σ 33) (rg_zE σ nd) (rg_zA σ nd) nb nr)) 34 (rg_zC σ nd nb nr)) 35 (rg_zD σ nd nb nr ns)) 36 (rg_zM σ nd nb nr)) 37 (rg_zK σ nd nb nr ns)) 38 (rg_zG σ nd nb nr)) 39 (rg_zN σ nd nb nr ns)) 40 (rg_rws nb (rg_zR σ nd nb nr ns))) 41 (rg_zO σ nd nb nr ns)) 42 (rg_RK (rg_zO σ nd nb nr ns) (σ 42) nb)) ((Int.toNat r)) ((Int.toNat b))) v_X9_cell k_st_yX9_cell k_ml_X9_137 ⟨Nat.le_of_ble_eq_true rfl, Nat.le_of_ble_eq_true rfl⟩ rfl (Nat.le_of_ble_eq_true rfl) dX9_isDiscard_19 (rg_ex2 ?_)
  show rg_G κ Γ rg_tC 3 0 0 (19 + 3) [(0, .ref (κ.2.2.2 0)), (1, .int (rg_I r)), (2, .int (rg_I b))] [.int (rg_I (((Int.toNat r) * 40 + (Int.toNat b) : Nat) : Int)), .ref (κ.2.2.2 35)] (rg_wr (rg_wr (rg_wr (rg_wr (rg_wr (rg_wr (rg_wr (rg_wr (rg_wr (rg_wr (rg_wr (rg_wr (rg_wr (rg_wr (rg_wr (rg_wr (rg_wr (rg_wr (rg_wr σ 0 (rg_up (σ 0) 9 0)) 25 (rg_zE σ nd)) 26 (rg_zA σ nd)) 27 (rg_zP σ nd)) 28 (rg_zI σ nd nb nr)) 29 (rg_zT σ nd nb nr)) 30 (rg_zS σ nd nb nr)) 31 (rg_hd (σ 31) nr (rg_SZ (σ 14) (σ 11) nb))) 32 (rg_s32 (σ 32) (rg_zE σ nd) (rg_zA σ nd) nb nr)) 33 (rg_s33 (σ 33) (rg_zE σ nd) (rg_zA σ nd) nb nr)) 34 (rg_zC σ nd nb nr)) 35 (rg_zD σ nd nb nr ns)) 36 (rg_zM σ nd nb nr)) 37 (rg_zK σ nd nb nr ns)) 38 (rg_zG σ nd nb nr)) 39 (rg_zN σ nd nb nr ns)) 40 (rg_rws nb (rg_zR σ nd nb nr ns))) 41 (rg_zO σ nd nb nr ns)) 42 (rg_RK (rg_zO σ nd nb nr ns) (σ 42) nb))
  refine rg_zald F 35 ((Int.toNat r) * 40 + (Int.toNat b)) (v := ((rg_zD σ nd nb nr ns) ((Int.toNat r) * 40 + (Int.toNat b)))) tC35 (by omega) (by omega) (by decide) rfl dX9_isDiscard_22 ?_
  exact hR _ _ _ _ dX9_isDiscard_23 (fun _ => (by have b0 := rg_zD_01 hI (r := Int.toNat r) (b := Int.toNat b) (by omega) (by omega); omega)) ⟨(by omega), rfl⟩
set_option maxHeartbeats 400000 in
set_option maxRecDepth 100000 in
/-- isDiscard, at rest -/
theorem k_X9_isDiscard_n (κ : rg_K) (σ : rg_S) (r b : Int) (st : Int) (nb : Nat) (nr : Nat) (nd : Nat) (ns : Nat) (h0_9 : σ 0 9 = st) (h1_2 : σ 1 2 = ((nb : Nat) : Int)) (h2_3 : σ 2 3 = ((nr : Nat) : Int)) (h4_4 : σ 4 4 = ((nd : Nat) : Int)) (h5_2 : σ 5 2 = ((ns : Nat) : Int)) (hI : rg_IC σ nb nr nd ns) (hst : st = 0 ∨ st = 1) (hs : st = 0) (hth : rg_th ((nb : Nat) : Int) ((nr : Nat) : Int) r b) (h35b : ∀ j, σ 35 j = 0 ∨ σ 35 j = 1) : rg_CI κ rg_tC yX9_isDiscard cX9_isDiscard 3 FieldType.boolean 6 132 [.ref (κ.2.2.2 0), .int (rg_I r), .int (rg_I b)] σ (fun r9 σ9 => r9 = ((σ 35) (Int.toNat r * 40 + Int.toNat b)) ∧ σ9 = σ) := by
  have hnb := hI.hnb
  have hnr := hI.hnr
  refine rg_entI [(0, .ref (κ.2.2.2 0)), (1, .int (rg_I r)), (2, .int (rg_I b))] rfl (by decide +kernel) (Nat.le_of_ble_eq_true rfl) (by first | exact Or.inl rfl | exact Or.inr rfl) (fun Γ F hR => ?_)
  refine rg_aload_n F 0 0 rfl dX9_isDiscard_0 rfl ?_
  refine rg_iload_n F 1 1 rfl dX9_isDiscard_1 rfl ?_
  refine rg_iload_n F 2 2 rfl dX9_isDiscard_2 rfl ?_
  refine rg_callVV F [.int (rg_I r), .int (rg_I b)] [] 0 (k_X9_requireRaceAndBoat_o κ σ (r) (b) (nb) (nr) (h1_2) (h2_3) (by first | assumption | omega) (by first | assumption | omega) hth) tC0 cX9 v_X9_requireRaceAndBoat i_X9_requireRaceAndBoat k_ml_X9_146 ⟨Nat.le_of_ble_eq_true rfl, Nat.le_of_ble_eq_true rfl⟩ rfl (Nat.le_of_ble_eq_true rfl) dX9_isDiscard_3 (rg_ex1 ?_)
  refine rg_aload_n F 0 0 rfl dX9_isDiscard_6 rfl ?_
  refine rg_callVV F [] [] 0 (k_X9_bringUpToDate_n κ σ (st) (nb) (nr) (nd) (ns) (h0_9) (h1_2) (h2_3) (h4_4) (h5_2) hI hst hs) tC0 cX9 v_X9_bringUpToDate i_X9_bringUpToDate k_ml_X9_203 ⟨Nat.le_of_ble_eq_true rfl, Nat.le_of_ble_eq_true rfl⟩ rfl (Nat.le_of_ble_eq_true rfl) dX9_isDiscard_7 (rg_ex1 ?_)
  refine rg_aload_n F 0 0 rfl dX9_isDiscard_10 rfl ?_
  refine rg_get F 0 6 tC0 cX9 k_lays_X9 (by decide) k_fl_X9_58 rfl (v := .ref (κ.2.2.2 7)) rfl dX9_isDiscard_11 ?_
  refine rg_get F 7 1 tC7 cX6 k_lays_X6 (by decide) k_fl_X9_227 rfl (v := .ref (κ.2.2.2 35)) rfl dX9_isDiscard_14 ?_
  refine rg_iload_n F 1 1 rfl dX9_isDiscard_17 rfl ?_
  refine rg_stk (st' := [.int (rg_I ((Int.toNat r : Nat) : Int)), .ref (κ.2.2.2 35)]) (by rw [Int.toNat_of_nonneg (a := r) (by omega)]) ?_
  refine rg_iload_n F 2 2 rfl dX9_isDiscard_18 rfl ?_
  refine rg_stk (st' := [.int (rg_I ((Int.toNat b : Nat) : Int)), .int (rg_I ((Int.toNat r : Nat) : Int)), .ref (κ.2.2.2 35)]) (by rw [Int.toNat_of_nonneg (a := b) (by omega)]) ?_
  refine rg_callSI F [.int (rg_I ((Int.toNat r : Nat) : Int)), .int (rg_I ((Int.toNat b : Nat) : Int))] [.ref (κ.2.2.2 35)] (k_X9_cell κ rg_tC σ ((Int.toNat r)) ((Int.toNat b))) v_X9_cell k_st_yX9_cell k_ml_X9_137 ⟨Nat.le_of_ble_eq_true rfl, Nat.le_of_ble_eq_true rfl⟩ rfl (Nat.le_of_ble_eq_true rfl) dX9_isDiscard_19 (rg_ex2 ?_)
  show rg_G κ Γ rg_tC 3 0 0 (19 + 3) [(0, .ref (κ.2.2.2 0)), (1, .int (rg_I r)), (2, .int (rg_I b))] [.int (rg_I (((Int.toNat r) * 40 + (Int.toNat b) : Nat) : Int)), .ref (κ.2.2.2 35)] σ
  refine rg_zald F 35 ((Int.toNat r) * 40 + (Int.toNat b)) (v := ((σ 35) ((Int.toNat r) * 40 + (Int.toNat b)))) tC35 (by omega) (by omega) (by decide) rfl dX9_isDiscard_22 ?_
  exact hR _ _ _ _ dX9_isDiscard_23 (fun _ => (by have b0 := h35b (((Int.toNat r) * 40 + (Int.toNat b))); omega)) ⟨(by omega), rfl⟩
set_option maxHeartbeats 400000 in
set_option maxRecDepth 100000 in
/-- net, stale -/
theorem k_X9_net_y (κ : rg_K) (σ : rg_S) (b : Int) (st : Int) (nb : Nat) (nr : Nat) (nd : Nat) (ns : Nat) (h0_9 : σ 0 9 = st) (h1_2 : σ 1 2 = ((nb : Nat) : Int)) (h2_3 : σ 2 3 = ((nr : Nat) : Int)) (h4_4 : σ 4 4 = ((nd : Nat) : Int)) (h5_2 : σ 5 2 = ((ns : Nat) : Int)) (hI : rg_IC σ nb nr nd ns) (hst : st = 0 ∨ st = 1) (hs : ¬ st = 0) (hb : 0 ≤ b ∧ b ≤ ((nb : Nat) : Int) - 1) : rg_CI κ rg_tC yX9_net cX9_net 2 FieldType.int 6 132 [.ref (κ.2.2.2 0), .int (rg_I b)] σ (fun r9 σ9 => r9 = ((rg_zN σ nd nb nr ns) (Int.toNat b)) ∧ σ9 = (rg_wr (rg_wr (rg_wr (rg_wr (rg_wr (rg_wr (rg_wr (rg_wr (rg_wr (rg_wr (rg_wr (rg_wr (rg_wr (rg_wr (rg_wr (rg_wr (rg_wr (rg_wr (rg_wr σ 0 (rg_up (σ 0) 9 0)) 25 (rg_zE σ nd)) 26 (rg_zA σ nd)) 27 (rg_zP σ nd)) 28 (rg_zI σ nd nb nr)) 29 (rg_zT σ nd nb nr)) 30 (rg_zS σ nd nb nr)) 31 (rg_hd (σ 31) nr (rg_SZ (σ 14) (σ 11) nb))) 32 (rg_s32 (σ 32) (rg_zE σ nd) (rg_zA σ nd) nb nr)) 33 (rg_s33 (σ 33) (rg_zE σ nd) (rg_zA σ nd) nb nr)) 34 (rg_zC σ nd nb nr)) 35 (rg_zD σ nd nb nr ns)) 36 (rg_zM σ nd nb nr)) 37 (rg_zK σ nd nb nr ns)) 38 (rg_zG σ nd nb nr)) 39 (rg_zN σ nd nb nr ns)) 40 (rg_rws nb (rg_zR σ nd nb nr ns))) 41 (rg_zO σ nd nb nr ns)) 42 (rg_RK (rg_zO σ nd nb nr ns) (σ 42) nb))) := by
  have hnb := hI.hnb
  have hnr := hI.hnr
  refine rg_entI [(0, .ref (κ.2.2.2 0)), (1, .int (rg_I b))] rfl (by decide +kernel) (Nat.le_of_ble_eq_true rfl) (by first | exact Or.inl rfl | exact Or.inr rfl) (fun Γ F hR => ?_)
  refine rg_aload_n F 0 0 rfl dX9_net_0 rfl ?_
  refine rg_iload_n F 1 1 rfl dX9_net_1 rfl ?_
  refine rg_callVV F [.int (rg_I b)] [] 0 (k_X9_requireBoat_o κ σ (b) (nb) (h1_2) (by first | assumption | omega) (by first | assumption | omega)) tC0 cX9 v_X9_requireBoat i_X9_requireBoat k_ml_X9_195 ⟨Nat.le_of_ble_eq_true rfl, Nat.le_of_ble_eq_true rfl⟩ rfl (Nat.le_of_ble_eq_true rfl) dX9_net_2 (rg_ex1 ?_)
  refine rg_aload_n F 0 0 rfl dX9_net_5 rfl ?_
  refine rg_callVV F [] [] 0 (k_X9_bringUpToDate_y κ σ (st) (nb) (nr) (nd) (ns) (h0_9) (h1_2) (h2_3) (h4_4) (h5_2) hI hst hs) tC0 cX9 v_X9_bringUpToDate i_X9_bringUpToDate k_ml_X9_203 ⟨Nat.le_of_ble_eq_true rfl, Nat.le_of_ble_eq_true rfl⟩ rfl (Nat.le_of_ble_eq_true rfl) dX9_net_6 (rg_ex1 ?_)
  refine rg_eq (σ' := (rg_wr (rg_wr (rg_wr (rg_wr (rg_wr (rg_wr (rg_wr (rg_wr (rg_wr (rg_wr (rg_wr (rg_wr (rg_wr (rg_wr (rg_wr (rg_wr (rg_wr (rg_wr (rg_wr σ 0 (rg_up (σ 0) 9 0)) 25 (rg_zE σ nd)) 26 (rg_zA σ nd)) 27 (rg_zP σ nd)) 28 (rg_zI σ nd nb nr)) 29 (rg_zT σ nd nb nr)) 30 (rg_zS σ nd nb nr)) 31 (rg_hd (σ 31) nr (rg_SZ (σ 14) (σ 11) nb))) 32 (rg_s32 (σ 32) (rg_zE σ nd) (rg_zA σ nd) nb nr)) 33 (rg_s33 (σ 33) (rg_zE σ nd) (rg_zA σ nd) nb nr)) 34 (rg_zC σ nd nb nr)) 35 (rg_zD σ nd nb nr ns)) 36 (rg_zM σ nd nb nr)) 37 (rg_zK σ nd nb nr ns)) 38 (rg_zG σ nd nb nr)) 39 (rg_zN σ nd nb nr ns)) 40 (rg_rws nb (rg_zR σ nd nb nr ns))) 41 (rg_zO σ nd nb nr ns)) 42 (rg_RK (rg_zO σ nd nb nr ns) (σ 42) nb))) rfl ?_
  refine rg_aload_n F 0 0 rfl dX9_net_9 rfl ?_
  refine rg_get F 0 6 tC0 cX9 k_lays_X9 (by decide) k_fl_X9_58 rfl (v := .ref (κ.2.2.2 7)) rfl dX9_net_10 ?_
  refine rg_get F 7 5 tC7 cX6 k_lays_X6 (by decide) k_fl_X9_230 rfl (v := .ref (κ.2.2.2 39)) rfl dX9_net_13 ?_
  refine rg_iload_n F 1 1 rfl dX9_net_16 rfl ?_
  refine rg_stk (st' := [.int (rg_I ((Int.toNat b : Nat) : Int)), .ref (κ.2.2.2 39)]) (by rw [Int.toNat_of_nonneg (a := b) (by omega)]) ?_
  refine rg_iald F 39 (Int.toNat b) (v := ((rg_zN σ nd nb nr ns) (Int.toNat b))) tC39 (by omega) (by omega) (by decide) rfl dX9_net_17 ?_
  exact hR _ _ _ _ dX9_net_18 (fun h => nomatch h) ⟨rfl, rfl⟩
set_option maxHeartbeats 400000 in
set_option maxRecDepth 100000 in
/-- net, at rest -/
theorem k_X9_net_n (κ : rg_K) (σ : rg_S) (b : Int) (st : Int) (nb : Nat) (nr : Nat) (nd : Nat) (ns : Nat) (h0_9 : σ 0 9 = st) (h1_2 : σ 1 2 = ((nb : Nat) : Int)) (h2_3 : σ 2 3 = ((nr : Nat) : Int)) (h4_4 : σ 4 4 = ((nd : Nat) : Int)) (h5_2 : σ 5 2 = ((ns : Nat) : Int)) (hI : rg_IC σ nb nr nd ns) (hst : st = 0 ∨ st = 1) (hs : st = 0) (hb : 0 ≤ b ∧ b ≤ ((nb : Nat) : Int) - 1) : rg_CI κ rg_tC yX9_net cX9_net 2 FieldType.int 6 132 [.ref (κ.2.2.2 0), .int (rg_I b)] σ (fun r9 σ9 => r9 = ((σ 39) (Int.toNat b)) ∧ σ9 = σ) := by
  have hnb := hI.hnb
  have hnr := hI.hnr
  refine rg_entI [(0, .ref (κ.2.2.2 0)), (1, .int (rg_I b))] rfl (by decide +kernel) (Nat.le_of_ble_eq_true rfl) (by first | exact Or.inl rfl | exact Or.inr rfl) (fun Γ F hR => ?_)
  refine rg_aload_n F 0 0 rfl dX9_net_0 rfl ?_
  refine rg_iload_n F 1 1 rfl dX9_net_1 rfl ?_
  refine rg_callVV F [.int (rg_I b)] [] 0 (k_X9_requireBoat_o κ σ (b) (nb) (h1_2) (by first | assumption | omega) (by first | assumption | omega)) tC0 cX9 v_X9_requireBoat i_X9_requireBoat k_ml_X9_195 ⟨Nat.le_of_ble_eq_true rfl, Nat.le_of_ble_eq_true rfl⟩ rfl (Nat.le_of_ble_eq_true rfl) dX9_net_2 (rg_ex1 ?_)
  refine rg_aload_n F 0 0 rfl dX9_net_5 rfl ?_
  refine rg_callVV F [] [] 0 (k_X9_bringUpToDate_n κ σ (st) (nb) (nr) (nd) (ns) (h0_9) (h1_2) (h2_3) (h4_4) (h5_2) hI hst hs) tC0 cX9 v_X9_bringUpToDate i_X9_bringUpToDate k_ml_X9_203 ⟨Nat.le_of_ble_eq_true rfl, Nat.le_of_ble_eq_true rfl⟩ rfl (Nat.le_of_ble_eq_true rfl) dX9_net_6 (rg_ex1 ?_)
  refine rg_aload_n F 0 0 rfl dX9_net_9 rfl ?_
  refine rg_get F 0 6 tC0 cX9 k_lays_X9 (by decide) k_fl_X9_58 rfl (v := .ref (κ.2.2.2 7)) rfl dX9_net_10 ?_
  refine rg_get F 7 5 tC7 cX6 k_lays_X6 (by decide) k_fl_X9_230 rfl (v := .ref (κ.2.2.2 39)) rfl dX9_net_13 ?_
  refine rg_iload_n F 1 1 rfl dX9_net_16 rfl ?_
  refine rg_stk (st' := [.int (rg_I ((Int.toNat b : Nat) : Int)), .ref (κ.2.2.2 39)]) (by rw [Int.toNat_of_nonneg (a := b) (by omega)]) ?_
  refine rg_iald F 39 (Int.toNat b) (v := ((σ 39) (Int.toNat b))) tC39 (by omega) (by omega) (by decide) rfl dX9_net_17 ?_
  exact hR _ _ _ _ dX9_net_18 (fun h => nomatch h) ⟨rfl, rfl⟩
set_option maxHeartbeats 400000 in
set_option maxRecDepth 100000 in
/-- gross, stale -/
theorem k_X9_gross_y (κ : rg_K) (σ : rg_S) (b : Int) (st : Int) (nb : Nat) (nr : Nat) (nd : Nat) (ns : Nat) (h0_9 : σ 0 9 = st) (h1_2 : σ 1 2 = ((nb : Nat) : Int)) (h2_3 : σ 2 3 = ((nr : Nat) : Int)) (h4_4 : σ 4 4 = ((nd : Nat) : Int)) (h5_2 : σ 5 2 = ((ns : Nat) : Int)) (hI : rg_IC σ nb nr nd ns) (hst : st = 0 ∨ st = 1) (hs : ¬ st = 0) (hb : 0 ≤ b ∧ b ≤ ((nb : Nat) : Int) - 1) : rg_CI κ rg_tC yX9_gross cX9_gross 2 FieldType.int 6 132 [.ref (κ.2.2.2 0), .int (rg_I b)] σ (fun r9 σ9 => r9 = ((rg_zG σ nd nb nr) (Int.toNat b)) ∧ σ9 = (rg_wr (rg_wr (rg_wr (rg_wr (rg_wr (rg_wr (rg_wr (rg_wr (rg_wr (rg_wr (rg_wr (rg_wr (rg_wr (rg_wr (rg_wr (rg_wr (rg_wr (rg_wr (rg_wr σ 0 (rg_up (σ 0) 9 0)) 25 (rg_zE σ nd)) 26 (rg_zA σ nd)) 27 (rg_zP σ nd)) 28 (rg_zI σ nd nb nr)) 29 (rg_zT σ nd nb nr)) 30 (rg_zS σ nd nb nr)) 31 (rg_hd (σ 31) nr (rg_SZ (σ 14) (σ 11) nb))) 32 (rg_s32 (σ 32) (rg_zE σ nd) (rg_zA σ nd) nb nr)) 33 (rg_s33 (σ 33) (rg_zE σ nd) (rg_zA σ nd) nb nr)) 34 (rg_zC σ nd nb nr)) 35 (rg_zD σ nd nb nr ns)) 36 (rg_zM σ nd nb nr)) 37 (rg_zK σ nd nb nr ns)) 38 (rg_zG σ nd nb nr)) 39 (rg_zN σ nd nb nr ns)) 40 (rg_rws nb (rg_zR σ nd nb nr ns))) 41 (rg_zO σ nd nb nr ns)) 42 (rg_RK (rg_zO σ nd nb nr ns) (σ 42) nb))) := by
  have hnb := hI.hnb
  have hnr := hI.hnr
  refine rg_entI [(0, .ref (κ.2.2.2 0)), (1, .int (rg_I b))] rfl (by decide +kernel) (Nat.le_of_ble_eq_true rfl) (by first | exact Or.inl rfl | exact Or.inr rfl) (fun Γ F hR => ?_)
  refine rg_aload_n F 0 0 rfl dX9_gross_0 rfl ?_
  refine rg_iload_n F 1 1 rfl dX9_gross_1 rfl ?_
  refine rg_callVV F [.int (rg_I b)] [] 0 (k_X9_requireBoat_o κ σ (b) (nb) (h1_2) (by first | assumption | omega) (by first | assumption | omega)) tC0 cX9 v_X9_requireBoat i_X9_requireBoat k_ml_X9_195 ⟨Nat.le_of_ble_eq_true rfl, Nat.le_of_ble_eq_true rfl⟩ rfl (Nat.le_of_ble_eq_true rfl) dX9_gross_2 (rg_ex1 ?_)
  refine rg_aload_n F 0 0 rfl dX9_gross_5 rfl ?_
  refine rg_callVV F [] [] 0 (k_X9_bringUpToDate_y κ σ (st) (nb) (nr) (nd) (ns) (h0_9) (h1_2) (h2_3) (h4_4) (h5_2) hI hst hs) tC0 cX9 v_X9_bringUpToDate i_X9_bringUpToDate k_ml_X9_203 ⟨Nat.le_of_ble_eq_true rfl, Nat.le_of_ble_eq_true rfl⟩ rfl (Nat.le_of_ble_eq_true rfl) dX9_gross_6 (rg_ex1 ?_)
  refine rg_eq (σ' := (rg_wr (rg_wr (rg_wr (rg_wr (rg_wr (rg_wr (rg_wr (rg_wr (rg_wr (rg_wr (rg_wr (rg_wr (rg_wr (rg_wr (rg_wr (rg_wr (rg_wr (rg_wr (rg_wr σ 0 (rg_up (σ 0) 9 0)) 25 (rg_zE σ nd)) 26 (rg_zA σ nd)) 27 (rg_zP σ nd)) 28 (rg_zI σ nd nb nr)) 29 (rg_zT σ nd nb nr)) 30 (rg_zS σ nd nb nr)) 31 (rg_hd (σ 31) nr (rg_SZ (σ 14) (σ 11) nb))) 32 (rg_s32 (σ 32) (rg_zE σ nd) (rg_zA σ nd) nb nr)) 33 (rg_s33 (σ 33) (rg_zE σ nd) (rg_zA σ nd) nb nr)) 34 (rg_zC σ nd nb nr)) 35 (rg_zD σ nd nb nr ns)) 36 (rg_zM σ nd nb nr)) 37 (rg_zK σ nd nb nr ns)) 38 (rg_zG σ nd nb nr)) 39 (rg_zN σ nd nb nr ns)) 40 (rg_rws nb (rg_zR σ nd nb nr ns))) 41 (rg_zO σ nd nb nr ns)) 42 (rg_RK (rg_zO σ nd nb nr ns) (σ 42) nb))) rfl ?_
  refine rg_aload_n F 0 0 rfl dX9_gross_9 rfl ?_
  refine rg_get F 0 6 tC0 cX9 k_lays_X9 (by decide) k_fl_X9_58 rfl (v := .ref (κ.2.2.2 7)) rfl dX9_gross_10 ?_
  refine rg_get F 7 4 tC7 cX6 k_lays_X6 (by decide) k_fl_X9_233 rfl (v := .ref (κ.2.2.2 38)) rfl dX9_gross_13 ?_
  refine rg_iload_n F 1 1 rfl dX9_gross_16 rfl ?_
  refine rg_stk (st' := [.int (rg_I ((Int.toNat b : Nat) : Int)), .ref (κ.2.2.2 38)]) (by rw [Int.toNat_of_nonneg (a := b) (by omega)]) ?_
  refine rg_iald F 38 (Int.toNat b) (v := ((rg_zG σ nd nb nr) (Int.toNat b))) tC38 (by omega) (by omega) (by decide) rfl dX9_gross_17 ?_
  exact hR _ _ _ _ dX9_gross_18 (fun h => nomatch h) ⟨rfl, rfl⟩
set_option maxHeartbeats 400000 in
set_option maxRecDepth 100000 in
/-- gross, at rest -/
theorem k_X9_gross_n (κ : rg_K) (σ : rg_S) (b : Int) (st : Int) (nb : Nat) (nr : Nat) (nd : Nat) (ns : Nat) (h0_9 : σ 0 9 = st) (h1_2 : σ 1 2 = ((nb : Nat) : Int)) (h2_3 : σ 2 3 = ((nr : Nat) : Int)) (h4_4 : σ 4 4 = ((nd : Nat) : Int)) (h5_2 : σ 5 2 = ((ns : Nat) : Int)) (hI : rg_IC σ nb nr nd ns) (hst : st = 0 ∨ st = 1) (hs : st = 0) (hb : 0 ≤ b ∧ b ≤ ((nb : Nat) : Int) - 1) : rg_CI κ rg_tC yX9_gross cX9_gross 2 FieldType.int 6 132 [.ref (κ.2.2.2 0), .int (rg_I b)] σ (fun r9 σ9 => r9 = ((σ 38) (Int.toNat b)) ∧ σ9 = σ) := by
  have hnb := hI.hnb
  have hnr := hI.hnr
  refine rg_entI [(0, .ref (κ.2.2.2 0)), (1, .int (rg_I b))] rfl (by decide +kernel) (Nat.le_of_ble_eq_true rfl) (by first | exact Or.inl rfl | exact Or.inr rfl) (fun Γ F hR => ?_)
  refine rg_aload_n F 0 0 rfl dX9_gross_0 rfl ?_
  refine rg_iload_n F 1 1 rfl dX9_gross_1 rfl ?_
  refine rg_callVV F [.int (rg_I b)] [] 0 (k_X9_requireBoat_o κ σ (b) (nb) (h1_2) (by first | assumption | omega) (by first | assumption | omega)) tC0 cX9 v_X9_requireBoat i_X9_requireBoat k_ml_X9_195 ⟨Nat.le_of_ble_eq_true rfl, Nat.le_of_ble_eq_true rfl⟩ rfl (Nat.le_of_ble_eq_true rfl) dX9_gross_2 (rg_ex1 ?_)
  refine rg_aload_n F 0 0 rfl dX9_gross_5 rfl ?_
  refine rg_callVV F [] [] 0 (k_X9_bringUpToDate_n κ σ (st) (nb) (nr) (nd) (ns) (h0_9) (h1_2) (h2_3) (h4_4) (h5_2) hI hst hs) tC0 cX9 v_X9_bringUpToDate i_X9_bringUpToDate k_ml_X9_203 ⟨Nat.le_of_ble_eq_true rfl, Nat.le_of_ble_eq_true rfl⟩ rfl (Nat.le_of_ble_eq_true rfl) dX9_gross_6 (rg_ex1 ?_)
  refine rg_aload_n F 0 0 rfl dX9_gross_9 rfl ?_
  refine rg_get F 0 6 tC0 cX9 k_lays_X9 (by decide) k_fl_X9_58 rfl (v := .ref (κ.2.2.2 7)) rfl dX9_gross_10 ?_
  refine rg_get F 7 4 tC7 cX6 k_lays_X6 (by decide) k_fl_X9_233 rfl (v := .ref (κ.2.2.2 38)) rfl dX9_gross_13 ?_
  refine rg_iload_n F 1 1 rfl dX9_gross_16 rfl ?_
  refine rg_stk (st' := [.int (rg_I ((Int.toNat b : Nat) : Int)), .ref (κ.2.2.2 38)]) (by rw [Int.toNat_of_nonneg (a := b) (by omega)]) ?_
  refine rg_iald F 38 (Int.toNat b) (v := ((σ 38) (Int.toNat b))) tC38 (by omega) (by omega) (by decide) rfl dX9_gross_17 ?_
  exact hR _ _ _ _ dX9_gross_18 (fun h => nomatch h) ⟨rfl, rfl⟩
set_option maxHeartbeats 400000 in
set_option maxRecDepth 100000 in
/-- rank, stale -/
theorem k_X9_rank_y (κ : rg_K) (σ : rg_S) (b : Int) (st : Int) (nb : Nat) (nr : Nat) (nd : Nat) (ns : Nat) (h0_9 : σ 0 9 = st) (h1_2 : σ 1 2 = ((nb : Nat) : Int)) (h2_3 : σ 2 3 = ((nr : Nat) : Int)) (h4_4 : σ 4 4 = ((nd : Nat) : Int)) (h5_2 : σ 5 2 = ((ns : Nat) : Int)) (hI : rg_IC σ nb nr nd ns) (hst : st = 0 ∨ st = 1) (hs : ¬ st = 0) (hb : 0 ≤ b ∧ b ≤ ((nb : Nat) : Int) - 1) : rg_CI κ rg_tC yX9_rank cX9_rank 2 FieldType.int 6 132 [.ref (κ.2.2.2 0), .int (rg_I b)] σ (fun r9 σ9 => r9 = ((rg_RK (rg_zO σ nd nb nr ns) (σ 42) nb) (Int.toNat b)) ∧ σ9 = (rg_wr (rg_wr (rg_wr (rg_wr (rg_wr (rg_wr (rg_wr (rg_wr (rg_wr (rg_wr (rg_wr (rg_wr (rg_wr (rg_wr (rg_wr (rg_wr (rg_wr (rg_wr (rg_wr σ 0 (rg_up (σ 0) 9 0)) 25 (rg_zE σ nd)) 26 (rg_zA σ nd)) 27 (rg_zP σ nd)) 28 (rg_zI σ nd nb nr)) 29 (rg_zT σ nd nb nr)) 30 (rg_zS σ nd nb nr)) 31 (rg_hd (σ 31) nr (rg_SZ (σ 14) (σ 11) nb))) 32 (rg_s32 (σ 32) (rg_zE σ nd) (rg_zA σ nd) nb nr)) 33 (rg_s33 (σ 33) (rg_zE σ nd) (rg_zA σ nd) nb nr)) 34 (rg_zC σ nd nb nr)) 35 (rg_zD σ nd nb nr ns)) 36 (rg_zM σ nd nb nr)) 37 (rg_zK σ nd nb nr ns)) 38 (rg_zG σ nd nb nr)) 39 (rg_zN σ nd nb nr ns)) 40 (rg_rws nb (rg_zR σ nd nb nr ns))) 41 (rg_zO σ nd nb nr ns)) 42 (rg_RK (rg_zO σ nd nb nr ns) (σ 42) nb))) := by
  have hnb := hI.hnb
  have hnr := hI.hnr
  refine rg_entI [(0, .ref (κ.2.2.2 0)), (1, .int (rg_I b))] rfl (by decide +kernel) (Nat.le_of_ble_eq_true rfl) (by first | exact Or.inl rfl | exact Or.inr rfl) (fun Γ F hR => ?_)
  refine rg_aload_n F 0 0 rfl dX9_rank_0 rfl ?_
  refine rg_iload_n F 1 1 rfl dX9_rank_1 rfl ?_
  refine rg_callVV F [.int (rg_I b)] [] 0 (k_X9_requireBoat_o κ σ (b) (nb) (h1_2) (by first | assumption | omega) (by first | assumption | omega)) tC0 cX9 v_X9_requireBoat i_X9_requireBoat k_ml_X9_195 ⟨Nat.le_of_ble_eq_true rfl, Nat.le_of_ble_eq_true rfl⟩ rfl (Nat.le_of_ble_eq_true rfl) dX9_rank_2 (rg_ex1 ?_)
  refine rg_aload_n F 0 0 rfl dX9_rank_5 rfl ?_
  refine rg_callVV F [] [] 0 (k_X9_bringUpToDate_y κ σ (st) (nb) (nr) (nd) (ns) (h0_9) (h1_2) (h2_3) (h4_4) (h5_2) hI hst hs) tC0 cX9 v_X9_bringUpToDate i_X9_bringUpToDate k_ml_X9_203 ⟨Nat.le_of_ble_eq_true rfl, Nat.le_of_ble_eq_true rfl⟩ rfl (Nat.le_of_ble_eq_true rfl) dX9_rank_6 (rg_ex1 ?_)
  refine rg_eq (σ' := (rg_wr (rg_wr (rg_wr (rg_wr (rg_wr (rg_wr (rg_wr (rg_wr (rg_wr (rg_wr (rg_wr (rg_wr (rg_wr (rg_wr (rg_wr (rg_wr (rg_wr (rg_wr (rg_wr σ 0 (rg_up (σ 0) 9 0)) 25 (rg_zE σ nd)) 26 (rg_zA σ nd)) 27 (rg_zP σ nd)) 28 (rg_zI σ nd nb nr)) 29 (rg_zT σ nd nb nr)) 30 (rg_zS σ nd nb nr)) 31 (rg_hd (σ 31) nr (rg_SZ (σ 14) (σ 11) nb))) 32 (rg_s32 (σ 32) (rg_zE σ nd) (rg_zA σ nd) nb nr)) 33 (rg_s33 (σ 33) (rg_zE σ nd) (rg_zA σ nd) nb nr)) 34 (rg_zC σ nd nb nr)) 35 (rg_zD σ nd nb nr ns)) 36 (rg_zM σ nd nb nr)) 37 (rg_zK σ nd nb nr ns)) 38 (rg_zG σ nd nb nr)) 39 (rg_zN σ nd nb nr ns)) 40 (rg_rws nb (rg_zR σ nd nb nr ns))) 41 (rg_zO σ nd nb nr ns)) 42 (rg_RK (rg_zO σ nd nb nr ns) (σ 42) nb))) rfl ?_
  refine rg_aload_n F 0 0 rfl dX9_rank_9 rfl ?_
  refine rg_get F 0 7 tC0 cX9 k_lays_X9 (by decide) k_fl_X9_67 rfl (v := .ref (κ.2.2.2 8)) rfl dX9_rank_10 ?_
  refine rg_iload_n F 1 1 rfl dX9_rank_13 rfl ?_
  refine rg_stk (st' := [.int (rg_I ((Int.toNat b : Nat) : Int)), .ref (κ.2.2.2 8)]) (by rw [Int.toNat_of_nonneg (a := b) (by omega)]) ?_
  refine rg_callVI F [.int (rg_I ((Int.toNat b : Nat) : Int))] [] 8 (k_X5_rankOfBoat κ (rg_wr (rg_wr (rg_wr (rg_wr (rg_wr (rg_wr (rg_wr (rg_wr (rg_wr (rg_wr (rg_wr (rg_wr (rg_wr (rg_wr (rg_wr (rg_wr (rg_wr (rg_wr (rg_wr σ 0 (rg_up (σ 0) 9 0)) 25 (rg_zE σ nd)) 26 (rg_zA σ nd)) 27 (rg_zP σ nd)) 28 (rg_zI σ nd nb nr)) 29 (rg_zT σ nd nb nr)) 30 (rg_zS σ nd nb nr)) 31 (rg_hd (σ 31) nr (rg_SZ (σ 14) (σ 11) nb))) 32 (rg_s32 (σ 32) (rg_zE σ nd) (rg_zA σ nd) nb nr)) 33 (rg_s33 (σ 33) (rg_zE σ nd) (rg_zA σ nd) nb nr)) 34 (rg_zC σ nd nb nr)) 35 (rg_zD σ nd nb nr ns)) 36 (rg_zM σ nd nb nr)) 37 (rg_zK σ nd nb nr ns)) 38 (rg_zG σ nd nb nr)) 39 (rg_zN σ nd nb nr ns)) 40 (rg_rws nb (rg_zR σ nd nb nr ns))) 41 (rg_zO σ nd nb nr ns)) 42 (rg_RK (rg_zO σ nd nb nr ns) (σ 42) nb)) ((Int.toNat b)) (rg_RK (rg_zO σ nd nb nr ns) (σ 42) nb) rfl (by first | assumption | omega)) tC8 cX5 v_X5_rankOfBoat i_X5_rankOfBoat k_ml_X9_239 ⟨Nat.le_of_ble_eq_true rfl, Nat.le_of_ble_eq_true rfl⟩ rfl (Nat.le_of_ble_eq_true rfl) dX9_rank_14 (rg_ex2 ?_)
  show rg_G κ Γ rg_tC 2 0 0 (14 + 3) [(0, .ref (κ.2.2.2 0)), (1, .int (rg_I b))] [.int (rg_I ((rg_RK (rg_zO σ nd nb nr ns) (σ 42) nb) (Int.toNat b)))] (rg_wr (rg_wr (rg_wr (rg_wr (rg_wr (rg_wr (rg_wr (rg_wr (rg_wr (rg_wr (rg_wr (rg_wr (rg_wr (rg_wr (rg_wr (rg_wr (rg_wr (rg_wr (rg_wr σ 0 (rg_up (σ 0) 9 0)) 25 (rg_zE σ nd)) 26 (rg_zA σ nd)) 27 (rg_zP σ nd)) 28 (rg_zI σ nd nb nr)) 29 (rg_zT σ nd nb nr)) 30 (rg_zS σ nd nb nr)) 31 (rg_hd (σ 31) nr (rg_SZ (σ 14) (σ 11) nb))) 32 (rg_s32 (σ 32) (rg_zE σ nd) (rg_zA σ nd) nb nr)) 33 (rg_s33 (σ 33) (rg_zE σ nd) (rg_zA σ nd) nb nr)) 34 (rg_zC σ nd nb nr)) 35 (rg_zD σ nd nb nr ns)) 36 (rg_zM σ nd nb nr)) 37 (rg_zK σ nd nb nr ns)) 38 (rg_zG σ nd nb nr)) 39 (rg_zN σ nd nb nr ns)) 40 (rg_rws nb (rg_zR σ nd nb nr ns))) 41 (rg_zO σ nd nb nr ns)) 42 (rg_RK (rg_zO σ nd nb nr ns) (σ 42) nb))
  exact hR _ _ _ _ dX9_rank_17 (fun h => nomatch h) ⟨rfl, rfl⟩
set_option maxHeartbeats 400000 in
set_option maxRecDepth 100000 in
/-- rank, at rest -/
theorem k_X9_rank_n (κ : rg_K) (σ : rg_S) (b : Int) (st : Int) (nb : Nat) (nr : Nat) (nd : Nat) (ns : Nat) (h0_9 : σ 0 9 = st) (h1_2 : σ 1 2 = ((nb : Nat) : Int)) (h2_3 : σ 2 3 = ((nr : Nat) : Int)) (h4_4 : σ 4 4 = ((nd : Nat) : Int)) (h5_2 : σ 5 2 = ((ns : Nat) : Int)) (hI : rg_IC σ nb nr nd ns) (hst : st = 0 ∨ st = 1) (hs : st = 0) (hb : 0 ≤ b ∧ b ≤ ((nb : Nat) : Int) - 1) : rg_CI κ rg_tC yX9_rank cX9_rank 2 FieldType.int 6 132 [.ref (κ.2.2.2 0), .int (rg_I b)] σ (fun r9 σ9 => r9 = ((σ 42) (Int.toNat b)) ∧ σ9 = σ) := by
  have hnb := hI.hnb
  have hnr := hI.hnr
  refine rg_entI [(0, .ref (κ.2.2.2 0)), (1, .int (rg_I b))] rfl (by decide +kernel) (Nat.le_of_ble_eq_true rfl) (by first | exact Or.inl rfl | exact Or.inr rfl) (fun Γ F hR => ?_)
  refine rg_aload_n F 0 0 rfl dX9_rank_0 rfl ?_
  refine rg_iload_n F 1 1 rfl dX9_rank_1 rfl ?_
  refine rg_callVV F [.int (rg_I b)] [] 0 (k_X9_requireBoat_o κ σ (b) (nb) (h1_2) (by first | assumption | omega) (by first | assumption | omega)) tC0 cX9 v_X9_requireBoat i_X9_requireBoat k_ml_X9_195 ⟨Nat.le_of_ble_eq_true rfl, Nat.le_of_ble_eq_true rfl⟩ rfl (Nat.le_of_ble_eq_true rfl) dX9_rank_2 (rg_ex1 ?_)
  refine rg_aload_n F 0 0 rfl dX9_rank_5 rfl ?_
  refine rg_callVV F [] [] 0 (k_X9_bringUpToDate_n κ σ (st) (nb) (nr) (nd) (ns) (h0_9) (h1_2) (h2_3) (h4_4) (h5_2) hI hst hs) tC0 cX9 v_X9_bringUpToDate i_X9_bringUpToDate k_ml_X9_203 ⟨Nat.le_of_ble_eq_true rfl, Nat.le_of_ble_eq_true rfl⟩ rfl (Nat.le_of_ble_eq_true rfl) dX9_rank_6 (rg_ex1 ?_)
  refine rg_aload_n F 0 0 rfl dX9_rank_9 rfl ?_
  refine rg_get F 0 7 tC0 cX9 k_lays_X9 (by decide) k_fl_X9_67 rfl (v := .ref (κ.2.2.2 8)) rfl dX9_rank_10 ?_
  refine rg_iload_n F 1 1 rfl dX9_rank_13 rfl ?_
  refine rg_stk (st' := [.int (rg_I ((Int.toNat b : Nat) : Int)), .ref (κ.2.2.2 8)]) (by rw [Int.toNat_of_nonneg (a := b) (by omega)]) ?_
  refine rg_callVI F [.int (rg_I ((Int.toNat b : Nat) : Int))] [] 8 (k_X5_rankOfBoat κ σ ((Int.toNat b)) (σ 42) rfl (by first | assumption | omega)) tC8 cX5 v_X5_rankOfBoat i_X5_rankOfBoat k_ml_X9_239 ⟨Nat.le_of_ble_eq_true rfl, Nat.le_of_ble_eq_true rfl⟩ rfl (Nat.le_of_ble_eq_true rfl) dX9_rank_14 (rg_ex2 ?_)
  show rg_G κ Γ rg_tC 2 0 0 (14 + 3) [(0, .ref (κ.2.2.2 0)), (1, .int (rg_I b))] [.int (rg_I ((σ 42) (Int.toNat b)))] σ
  exact hR _ _ _ _ dX9_rank_17 (fun h => nomatch h) ⟨rfl, rfl⟩
set_option maxHeartbeats 400000 in
set_option maxRecDepth 100000 in
/-- at, stale -/
theorem k_X9_at_y (κ : rg_K) (σ : rg_S) (x : Int) (st : Int) (nb : Nat) (nr : Nat) (nd : Nat) (ns : Nat) (h0_9 : σ 0 9 = st) (h1_2 : σ 1 2 = ((nb : Nat) : Int)) (h2_3 : σ 2 3 = ((nr : Nat) : Int)) (h4_4 : σ 4 4 = ((nd : Nat) : Int)) (h5_2 : σ 5 2 = ((ns : Nat) : Int)) (hI : rg_IC σ nb nr nd ns) (hst : st = 0 ∨ st = 1) (hs : ¬ st = 0) (hx : 1 ≤ x ∧ x ≤ ((nb : Nat) : Int)) : rg_CI κ rg_tC yX9_at cX9_at 2 FieldType.int 6 132 [.ref (κ.2.2.2 0), .int (rg_I x)] σ (fun r9 σ9 => r9 = ((rg_zO σ nd nb nr ns) ((Int.toNat x) - 1)) ∧ σ9 = (rg_wr (rg_wr (rg_wr (rg_wr (rg_wr (rg_wr (rg_wr (rg_wr (rg_wr (rg_wr (rg_wr (rg_wr (rg_wr (rg_wr (rg_wr (rg_wr (rg_wr (rg_wr (rg_wr σ 0 (rg_up (σ 0) 9 0)) 25 (rg_zE σ nd)) 26 (rg_zA σ nd)) 27 (rg_zP σ nd)) 28 (rg_zI σ nd nb nr)) 29 (rg_zT σ nd nb nr)) 30 (rg_zS σ nd nb nr)) 31 (rg_hd (σ 31) nr (rg_SZ (σ 14) (σ 11) nb))) 32 (rg_s32 (σ 32) (rg_zE σ nd) (rg_zA σ nd) nb nr)) 33 (rg_s33 (σ 33) (rg_zE σ nd) (rg_zA σ nd) nb nr)) 34 (rg_zC σ nd nb nr)) 35 (rg_zD σ nd nb nr ns)) 36 (rg_zM σ nd nb nr)) 37 (rg_zK σ nd nb nr ns)) 38 (rg_zG σ nd nb nr)) 39 (rg_zN σ nd nb nr ns)) 40 (rg_rws nb (rg_zR σ nd nb nr ns))) 41 (rg_zO σ nd nb nr ns)) 42 (rg_RK (rg_zO σ nd nb nr ns) (σ 42) nb))) := by
  have hnb := hI.hnb
  have hnr := hI.hnr
  refine rg_entI [(0, .ref (κ.2.2.2 0)), (1, .int (rg_I x))] rfl (by decide +kernel) (Nat.le_of_ble_eq_true rfl) (by first | exact Or.inl rfl | exact Or.inr rfl) (fun Γ F hR => ?_)
  refine rg_iload_n F 1 1 rfl dX9_at_0 rfl ?_
  refine rg_iconst F dX9_at_1 ?_
  refine rg_icmp_lt F 16 dX9_at_2 (by decide) (by omega) (by omega) (fun c2_1 => ?_) (fun c2_1 => ?_)
  · exfalso; omega
  ·
    refine rg_iload_n F 1 1 rfl dX9_at_5 rfl ?_
    refine rg_aload_n F 0 0 rfl dX9_at_6 rfl ?_
    refine rg_get F 0 0 tC0 cX9 k_lays_X9 (by decide) k_fl_X9_12 rfl (v := .ref (κ.2.2.2 1)) rfl dX9_at_7 ?_
    refine rg_get F 1 2 tC1 cX0 k_lays_X0 (by decide) k_fl_X9_92 rfl (v := .int (rg_I ((nb : Nat) : Int))) (congrArg (fun x => Value.int (rg_I x)) h1_2) dX9_at_10 ?_
    refine rg_icmp_le F 26 dX9_at_13 (by decide) (by omega) (by omega) (fun c13_2 => ?_) (fun c13_2 => ?_)
    ·
      refine rg_aload_n F 0 0 rfl dX9_at_26 rfl ?_
      refine rg_callVV F [] [] 0 (k_X9_bringUpToDate_y κ σ (st) (nb) (nr) (nd) (ns) (h0_9) (h1_2) (h2_3) (h4_4) (h5_2) hI hst hs) tC0 cX9 v_X9_bringUpToDate i_X9_bringUpToDate k_ml_X9_203 ⟨Nat.le_of_ble_eq_true rfl, Nat.le_of_ble_eq_true rfl⟩ rfl (Nat.le_of_ble_eq_true rfl) dX9_at_27 (rg_ex1 ?_)
      refine rg_eq (σ' := (rg_wr (rg_wr (rg_wr (rg_wr (rg_wr (rg_wr (rg_wr (rg_wr (rg_wr (rg_wr (rg_wr (rg_wr (rg_wr (rg_wr (rg_wr (rg_wr (rg_wr (rg_wr (rg_wr σ 0 (rg_up (σ 0) 9 0)) 25 (rg_zE σ nd)) 26 (rg_zA σ nd)) 27 (rg_zP σ nd)) 28 (rg_zI σ nd nb nr)) 29 (rg_zT σ nd nb nr)) 30 (rg_zS σ nd nb nr)) 31 (rg_hd (σ 31) nr (rg_SZ (σ 14) (σ 11) nb))) 32 (rg_s32 (σ 32) (rg_zE σ nd) (rg_zA σ nd) nb nr)) 33 (rg_s33 (σ 33) (rg_zE σ nd) (rg_zA σ nd) nb nr)) 34 (rg_zC σ nd nb nr)) 35 (rg_zD σ nd nb nr ns)) 36 (rg_zM σ nd nb nr)) 37 (rg_zK σ nd nb nr ns)) 38 (rg_zG σ nd nb nr)) 39 (rg_zN σ nd nb nr ns)) 40 (rg_rws nb (rg_zR σ nd nb nr ns))) 41 (rg_zO σ nd nb nr ns)) 42 (rg_RK (rg_zO σ nd nb nr ns) (σ 42) nb))) rfl ?_
      refine rg_aload_n F 0 0 rfl dX9_at_30 rfl ?_
      refine rg_get F 0 7 tC0 cX9 k_lays_X9 (by decide) k_fl_X9_67 rfl (v := .ref (κ.2.2.2 8)) rfl dX9_at_31 ?_
      refine rg_iload_n F 1 1 rfl dX9_at_34 rfl ?_
      refine rg_stk (st' := [.int (rg_I ((Int.toNat x : Nat) : Int)), .ref (κ.2.2.2 8)]) (by rw [Int.toNat_of_nonneg (a := x) (by omega)]) ?_
      refine rg_callVI F [.int (rg_I ((Int.toNat x : Nat) : Int))] [] 8 (k_X5_boatOfRank κ (rg_wr (rg_wr (rg_wr (rg_wr (rg_wr (rg_wr (rg_wr (rg_wr (rg_wr (rg_wr (rg_wr (rg_wr (rg_wr (rg_wr (rg_wr (rg_wr (rg_wr (rg_wr (rg_wr σ 0 (rg_up (σ 0) 9 0)) 25 (rg_zE σ nd)) 26 (rg_zA σ nd)) 27 (rg_zP σ nd)) 28 (rg_zI σ nd nb nr)) 29 (rg_zT σ nd nb nr)) 30 (rg_zS σ nd nb nr)) 31 (rg_hd (σ 31) nr (rg_SZ (σ 14) (σ 11) nb))) 32 (rg_s32 (σ 32) (rg_zE σ nd) (rg_zA σ nd) nb nr)) 33 (rg_s33 (σ 33) (rg_zE σ nd) (rg_zA σ nd) nb nr)) 34 (rg_zC σ nd nb nr)) 35 (rg_zD σ nd nb nr ns)) 36 (rg_zM σ nd nb nr)) 37 (rg_zK σ nd nb nr ns)) 38 (rg_zG σ nd nb nr)) 39 (rg_zN σ nd nb nr ns)) 40 (rg_rws nb (rg_zR σ nd nb nr ns))) 41 (rg_zO σ nd nb nr ns)) 42 (rg_RK (rg_zO σ nd nb nr ns) (σ 42) nb)) ((Int.toNat x)) (rg_zO σ nd nb nr ns) rfl (by first | assumption | omega)) tC8 cX5 v_X5_boatOfRank i_X5_boatOfRank k_ml_X9_217 ⟨Nat.le_of_ble_eq_true rfl, Nat.le_of_ble_eq_true rfl⟩ rfl (Nat.le_of_ble_eq_true rfl) dX9_at_35 (rg_ex2 ?_)
      show rg_G κ Γ rg_tC 2 0 0 (35 + 3) [(0, .ref (κ.2.2.2 0)), (1, .int (rg_I x))] [.int (rg_I ((rg_zO σ nd nb nr ns) ((Int.toNat x) - 1)))] (rg_wr (rg_wr (rg_wr (rg_wr (rg_wr (rg_wr (rg_wr (rg_wr (rg_wr (rg_wr (rg_wr (rg_wr (rg_wr (rg_wr (rg_wr (rg_wr (rg_wr (rg_wr (rg_wr σ 0 (rg_up (σ 0) 9 0)) 25 (rg_zE σ nd)) 26 (rg_zA σ nd)) 27 (rg_zP σ nd)) 28 (rg_zI σ nd nb nr)) 29 (rg_zT σ nd nb nr)) 30 (rg_zS σ nd nb nr)) 31 (rg_hd (σ 31) nr (rg_SZ (σ 14) (σ 11) nb))) 32 (rg_s32 (σ 32) (rg_zE σ nd) (rg_zA σ nd) nb nr)) 33 (rg_s33 (σ 33) (rg_zE σ nd) (rg_zA σ nd) nb nr)) 34 (rg_zC σ nd nb nr)) 35 (rg_zD σ nd nb nr ns)) 36 (rg_zM σ nd nb nr)) 37 (rg_zK σ nd nb nr ns)) 38 (rg_zG σ nd nb nr)) 39 (rg_zN σ nd nb nr ns)) 40 (rg_rws nb (rg_zR σ nd nb nr ns))) 41 (rg_zO σ nd nb nr ns)) 42 (rg_RK (rg_zO σ nd nb nr ns) (σ 42) nb))
      exact hR _ _ _ _ dX9_at_38 (fun h => nomatch h) ⟨rfl, rfl⟩
    · exfalso; omega
set_option maxHeartbeats 400000 in
set_option maxRecDepth 100000 in
/-- at, at rest -/
theorem k_X9_at_n (κ : rg_K) (σ : rg_S) (x : Int) (st : Int) (nb : Nat) (nr : Nat) (nd : Nat) (ns : Nat) (h0_9 : σ 0 9 = st) (h1_2 : σ 1 2 = ((nb : Nat) : Int)) (h2_3 : σ 2 3 = ((nr : Nat) : Int)) (h4_4 : σ 4 4 = ((nd : Nat) : Int)) (h5_2 : σ 5 2 = ((ns : Nat) : Int)) (hI : rg_IC σ nb nr nd ns) (hst : st = 0 ∨ st = 1) (hs : st = 0) (hx : 1 ≤ x ∧ x ≤ ((nb : Nat) : Int)) : rg_CI κ rg_tC yX9_at cX9_at 2 FieldType.int 6 132 [.ref (κ.2.2.2 0), .int (rg_I x)] σ (fun r9 σ9 => r9 = ((σ 41) ((Int.toNat x) - 1)) ∧ σ9 = σ) := by
  have hnb := hI.hnb
  have hnr := hI.hnr
  refine rg_entI [(0, .ref (κ.2.2.2 0)), (1, .int (rg_I x))] rfl (by decide +kernel) (Nat.le_of_ble_eq_true rfl) (by first | exact Or.inl rfl | exact Or.inr rfl) (fun Γ F hR => ?_)
  refine rg_iload_n F 1 1 rfl dX9_at_0 rfl ?_
  refine rg_iconst F dX9_at_1 ?_
  refine rg_icmp_lt F 16 dX9_at_2 (by decide) (by omega) (by omega) (fun c2_1 => ?_) (fun c2_1 => ?_)
  · exfalso; omega
  ·
    refine rg_iload_n F 1 1 rfl dX9_at_5 rfl ?_
    refine rg_aload_n F 0 0 rfl dX9_at_6 rfl ?_
    refine rg_get F 0 0 tC0 cX9 k_lays_X9 (by decide) k_fl_X9_12 rfl (v := .ref (κ.2.2.2 1)) rfl dX9_at_7 ?_
    refine rg_get F 1 2 tC1 cX0 k_lays_X0 (by decide) k_fl_X9_92 rfl (v := .int (rg_I ((nb : Nat) : Int))) (congrArg (fun x => Value.int (rg_I x)) h1_2) dX9_at_10 ?_
    refine rg_icmp_le F 26 dX9_at_13 (by decide) (by omega) (by omega) (fun c13_2 => ?_) (fun c13_2 => ?_)
    ·
      refine rg_aload_n F 0 0 rfl dX9_at_26 rfl ?_
      refine rg_callVV F [] [] 0 (k_X9_bringUpToDate_n κ σ (st) (nb) (nr) (nd) (ns) (h0_9) (h1_2) (h2_3) (h4_4) (h5_2) hI hst hs) tC0 cX9 v_X9_bringUpToDate i_X9_bringUpToDate k_ml_X9_203 ⟨Nat.le_of_ble_eq_true rfl, Nat.le_of_ble_eq_true rfl⟩ rfl (Nat.le_of_ble_eq_true rfl) dX9_at_27 (rg_ex1 ?_)
      refine rg_aload_n F 0 0 rfl dX9_at_30 rfl ?_
      refine rg_get F 0 7 tC0 cX9 k_lays_X9 (by decide) k_fl_X9_67 rfl (v := .ref (κ.2.2.2 8)) rfl dX9_at_31 ?_
      refine rg_iload_n F 1 1 rfl dX9_at_34 rfl ?_
      refine rg_stk (st' := [.int (rg_I ((Int.toNat x : Nat) : Int)), .ref (κ.2.2.2 8)]) (by rw [Int.toNat_of_nonneg (a := x) (by omega)]) ?_
      refine rg_callVI F [.int (rg_I ((Int.toNat x : Nat) : Int))] [] 8 (k_X5_boatOfRank κ σ ((Int.toNat x)) (σ 41) rfl (by first | assumption | omega)) tC8 cX5 v_X5_boatOfRank i_X5_boatOfRank k_ml_X9_217 ⟨Nat.le_of_ble_eq_true rfl, Nat.le_of_ble_eq_true rfl⟩ rfl (Nat.le_of_ble_eq_true rfl) dX9_at_35 (rg_ex2 ?_)
      show rg_G κ Γ rg_tC 2 0 0 (35 + 3) [(0, .ref (κ.2.2.2 0)), (1, .int (rg_I x))] [.int (rg_I ((σ 41) ((Int.toNat x) - 1)))] σ
      exact hR _ _ _ _ dX9_at_38 (fun h => nomatch h) ⟨rfl, rfl⟩
    · exfalso; omega
