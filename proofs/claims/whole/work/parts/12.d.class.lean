/-! The class's calls that are done, 1 (laid by program). -/
set_option maxHeartbeats 400000 in
set_option maxRecDepth 100000 in
/-- requireRace, done -/
theorem k_X9_requireRace_o (κ : rg_K) (σ : rg_S) (r : Int) (nr : Nat) (h2_3 : σ 2 3 = ((nr : Nat) : Int)) (hnr : nr ≤ 16) (hr : 0 ≤ r ∧ r ≤ ((nr : Nat) : Int) - 1) : rg_CV κ rg_tC yX9_requireRace cX9_requireRace 2 0 0 [.ref (κ.2.2.2 0), .int (rg_I r)] σ (fun σ9 => σ9 = σ) := by
  refine rg_entV [(0, .ref (κ.2.2.2 0)), (1, .int (rg_I r))] rfl (by decide +kernel) (Nat.le_of_ble_eq_true rfl) (fun Γ F hR => ?_)
  refine rg_iload_n F 1 1 rfl dX9_requireRace_0 rfl ?_
  refine rg_if_lt F 15 dX9_requireRace_1 (by decide) (by omega) (fun c1_1 => ?_) (fun c1_1 => ?_)
  · exfalso; omega
  ·
    refine rg_iload_n F 1 1 rfl dX9_requireRace_4 rfl ?_
    refine rg_aload_n F 0 0 rfl dX9_requireRace_5 rfl ?_
    refine rg_get F 0 1 tC0 cX9 k_lays_X9 (by decide) k_fl_X9_19 rfl (v := .ref (κ.2.2.2 2)) rfl dX9_requireRace_6 ?_
    refine rg_get F 2 3 tC2 cX4 k_lays_X4 (by decide) k_fl_X9_116 rfl (v := .int (rg_I ((nr : Nat) : Int))) (congrArg (fun x => Value.int (rg_I x)) h2_3) dX9_requireRace_9 ?_
    refine rg_icmp_lt F 26 dX9_requireRace_12 (by decide) (by omega) (by omega) (fun c12_2 => ?_) (fun c12_2 => ?_)
    ·
      exact hR _ _ _ dX9_requireRace_26 rfl
    · exfalso; omega
set_option maxHeartbeats 400000 in
set_option maxRecDepth 100000 in
/-- requireBoat, done -/
theorem k_X9_requireBoat_o (κ : rg_K) (σ : rg_S) (b : Int) (nb : Nat) (h1_2 : σ 1 2 = ((nb : Nat) : Int)) (hnb : nb ≤ 40) (hb : 0 ≤ b ∧ b ≤ ((nb : Nat) : Int) - 1) : rg_CV κ rg_tC yX9_requireBoat cX9_requireBoat 2 0 0 [.ref (κ.2.2.2 0), .int (rg_I b)] σ (fun σ9 => σ9 = σ) := by
  refine rg_entV [(0, .ref (κ.2.2.2 0)), (1, .int (rg_I b))] rfl (by decide +kernel) (Nat.le_of_ble_eq_true rfl) (fun Γ F hR => ?_)
  refine rg_iload_n F 1 1 rfl dX9_requireBoat_0 rfl ?_
  refine rg_if_lt F 15 dX9_requireBoat_1 (by decide) (by omega) (fun c1_1 => ?_) (fun c1_1 => ?_)
  · exfalso; omega
  ·
    refine rg_iload_n F 1 1 rfl dX9_requireBoat_4 rfl ?_
    refine rg_aload_n F 0 0 rfl dX9_requireBoat_5 rfl ?_
    refine rg_get F 0 0 tC0 cX9 k_lays_X9 (by decide) k_fl_X9_12 rfl (v := .ref (κ.2.2.2 1)) rfl dX9_requireBoat_6 ?_
    refine rg_get F 1 2 tC1 cX0 k_lays_X0 (by decide) k_fl_X9_92 rfl (v := .int (rg_I ((nb : Nat) : Int))) (congrArg (fun x => Value.int (rg_I x)) h1_2) dX9_requireBoat_9 ?_
    refine rg_icmp_lt F 26 dX9_requireBoat_12 (by decide) (by omega) (by omega) (fun c12_2 => ?_) (fun c12_2 => ?_)
    ·
      exact hR _ _ _ dX9_requireBoat_26 rfl
    · exfalso; omega
set_option maxHeartbeats 400000 in
set_option maxRecDepth 100000 in
/-- requireRaceAndBoat, done -/
theorem k_X9_requireRaceAndBoat_o (κ : rg_K) (σ : rg_S) (r b : Int) (nb : Nat) (nr : Nat) (h1_2 : σ 1 2 = ((nb : Nat) : Int)) (h2_3 : σ 2 3 = ((nr : Nat) : Int)) (hnb : nb ≤ 40) (hnr : nr ≤ 16) (hth : rg_th ((nb : Nat) : Int) ((nr : Nat) : Int) r b) : rg_CV κ rg_tC yX9_requireRaceAndBoat cX9_requireRaceAndBoat 3 1 21 [.ref (κ.2.2.2 0), .int (rg_I r), .int (rg_I b)] σ (fun σ9 => σ9 = σ) := by
  refine rg_entV [(0, .ref (κ.2.2.2 0)), (1, .int (rg_I r)), (2, .int (rg_I b))] rfl (by decide +kernel) (Nat.le_of_ble_eq_true rfl) (fun Γ F hR => ?_)
  refine rg_aload_n F 0 0 rfl dX9_requireRaceAndBoat_0 rfl ?_
  refine rg_iload_n F 1 1 rfl dX9_requireRaceAndBoat_1 rfl ?_
  refine rg_callVV F [.int (rg_I r)] [] 0 (k_X9_requireRace_o κ σ (r) (nr) (h2_3) (by first | assumption | omega) (by omega)) tC0 cX9 v_X9_requireRace i_X9_requireRace k_ml_X9_122 ⟨Nat.le_of_ble_eq_true rfl, Nat.le_of_ble_eq_true rfl⟩ rfl (Nat.le_of_ble_eq_true rfl) dX9_requireRaceAndBoat_2 (rg_ex1 ?_)
  refine rg_aload_n F 0 0 rfl dX9_requireRaceAndBoat_5 rfl ?_
  refine rg_iload_n F 2 2 rfl dX9_requireRaceAndBoat_6 rfl ?_
  refine rg_callVV F [.int (rg_I b)] [] 0 (k_X9_requireBoat_o κ σ (b) (nb) (h1_2) (by first | assumption | omega) (by omega)) tC0 cX9 v_X9_requireBoat i_X9_requireBoat k_ml_X9_195 ⟨Nat.le_of_ble_eq_true rfl, Nat.le_of_ble_eq_true rfl⟩ rfl (Nat.le_of_ble_eq_true rfl) dX9_requireRaceAndBoat_7 (rg_ex1 ?_)
  exact hR _ _ _ dX9_requireRaceAndBoat_10 rfl
set_option maxHeartbeats 400000 in
set_option maxRecDepth 100000 in
/-- requireRaceOfBoat, done -/
theorem k_X9_requireRaceOfBoat_o (κ : rg_K) (σ : rg_S) (r b : Int) (fl : Nat → Int) (rf : Nat → Int) (nb : Nat) (nr : Nat) (h11 : σ 11 = fl) (h14 : σ 14 = rf) (h1_2 : σ 1 2 = ((nb : Nat) : Int)) (h2_3 : σ 2 3 = ((nr : Nat) : Int)) (hnb : nb ≤ 40) (hnr : nr ≤ 16) (hth : rg_th ((nb : Nat) : Int) ((nr : Nat) : Int) r b) (his : rf (Int.toNat r) = 0 ∨ rf (Int.toNat r) = fl (Int.toNat b)) (hfl : ∀ j, rg_Rg (fl j)) (hrf : ∀ j, rg_Rg (rf j)) : rg_CV κ rg_tC yX9_requireRaceOfBoat cX9_requireRaceOfBoat 3 2 43 [.ref (κ.2.2.2 0), .int (rg_I r), .int (rg_I b)] σ (fun σ9 => σ9 = σ) := by
  refine rg_entV [(0, .ref (κ.2.2.2 0)), (1, .int (rg_I r)), (2, .int (rg_I b))] rfl (by decide +kernel) (Nat.le_of_ble_eq_true rfl) (fun Γ F hR => ?_)
  refine rg_aload_n F 0 0 rfl dX9_requireRaceOfBoat_0 rfl ?_
  refine rg_iload_n F 1 1 rfl dX9_requireRaceOfBoat_1 rfl ?_
  refine rg_iload_n F 2 2 rfl dX9_requireRaceOfBoat_2 rfl ?_
  refine rg_callVV F [.int (rg_I r), .int (rg_I b)] [] 0 (k_X9_requireRaceAndBoat_o κ σ (r) (b) (nb) (nr) (h1_2) (h2_3) (by first | assumption | omega) (by first | assumption | omega) hth) tC0 cX9 v_X9_requireRaceAndBoat i_X9_requireRaceAndBoat k_ml_X9_146 ⟨Nat.le_of_ble_eq_true rfl, Nat.le_of_ble_eq_true rfl⟩ rfl (Nat.le_of_ble_eq_true rfl) dX9_requireRaceOfBoat_3 (rg_ex1 ?_)
  refine rg_aload_n F 0 0 rfl dX9_requireRaceOfBoat_6 rfl ?_
  refine rg_get F 0 0 tC0 cX9 k_lays_X9 (by decide) k_fl_X9_12 rfl (v := .ref (κ.2.2.2 1)) rfl dX9_requireRaceOfBoat_7 ?_
  refine rg_iload_n F 2 2 rfl dX9_requireRaceOfBoat_10 rfl ?_
  refine rg_stk (st' := [.int (rg_I ((Int.toNat b : Nat) : Int)), .ref (κ.2.2.2 1)]) (by rw [Int.toNat_of_nonneg (a := b) (by omega)]) ?_
  refine rg_aload_n F 0 0 rfl dX9_requireRaceOfBoat_11 rfl ?_
  refine rg_get F 0 1 tC0 cX9 k_lays_X9 (by decide) k_fl_X9_19 rfl (v := .ref (κ.2.2.2 2)) rfl dX9_requireRaceOfBoat_12 ?_
  refine rg_get F 2 1 tC2 cX4 k_lays_X4 (by decide) k_fl_X9_283 rfl (v := .ref (κ.2.2.2 14)) rfl dX9_requireRaceOfBoat_15 ?_
  refine rg_iload_n F 1 1 rfl dX9_requireRaceOfBoat_18 rfl ?_
  refine rg_stk (st' := [.int (rg_I ((Int.toNat r : Nat) : Int)), .ref (κ.2.2.2 14), .int (rg_I ((Int.toNat b : Nat) : Int)), .ref (κ.2.2.2 1)]) (by rw [Int.toNat_of_nonneg (a := r) (by omega)]) ?_
  refine rg_iald F 14 (Int.toNat r) (v := (rf (Int.toNat r))) tC14 (by omega) (by omega) (by decide) (congrFun h14 (Int.toNat r)) dX9_requireRaceOfBoat_19 ?_
  refine rg_callVI F [.int (rg_I ((Int.toNat b : Nat) : Int)), .int (rg_I (rf (Int.toNat r)))] [] 1 (k_X0_isIn κ σ ((Int.toNat b)) ((rf (Int.toNat r))) fl (h11) (by first | assumption | omega) (hrf _) hfl) tC1 cX0 v_X0_isIn i_X0_isIn k_ml_X9_284 ⟨Nat.le_of_ble_eq_true rfl, Nat.le_of_ble_eq_true rfl⟩ rfl (Nat.le_of_ble_eq_true rfl) dX9_requireRaceOfBoat_20 (rg_ex2 ?_)
  show rg_G κ Γ rg_tC 3 0 0 (20 + 3) [(0, .ref (κ.2.2.2 0)), (1, .int (rg_I r)), (2, .int (rg_I b))] [.int (rg_I (rg_b ((rf (Int.toNat r)) = 0 ∨ (rf (Int.toNat r)) = fl (Int.toNat b))))] σ
  refine rg_if_ne F 37 dX9_requireRaceOfBoat_23 (by decide) (by have b0 := rg_b_Rg ((rf (Int.toNat r)) = 0 ∨ (rf (Int.toNat r)) = fl (Int.toNat b)); omega) (fun c23_1 => ?_) (fun c23_1 => ?_)
  ·
    have c23_1 := (rg_b_ne0 _).mp c23_1
    exact hR _ _ _ dX9_requireRaceOfBoat_37 rfl
  · exact absurd c23_1 ((rg_b_ne0 _).mpr his)
set_option maxHeartbeats 400000 in
set_option maxRecDepth 100000 in
/-- requireEntry, done -/
theorem k_X9_requireEntry_o (κ : rg_K) (tb : List rg_Sh) (σ : rg_S) (c x : Int) (hcr : rg_Rg c) (hxr : rg_Rg x) (hgd : rg_gd c x) : rg_CV κ tb yX9_requireEntry cX9_requireEntry 2 1 21 [.int (rg_I c), .int (rg_I x)] σ (fun σ9 => σ9 = σ) := by
  refine rg_entV [(0, .int (rg_I c)), (1, .int (rg_I x))] rfl (by decide +kernel) (Nat.le_of_ble_eq_true rfl) (fun Γ F hR => ?_)
  refine rg_iload_n F 0 0 rfl dX9_requireEntry_0 rfl ?_
  refine rg_iload_n F 1 1 rfl dX9_requireEntry_1 rfl ?_
  refine rg_callSI F [.int (rg_I c), .int (rg_I x)] [] (k_X9_isEntry κ tb σ (c) (x) (by first | assumption | omega) (by first | assumption | omega)) v_X9_isEntry k_st_yX9_isEntry k_ml_X9_289 ⟨Nat.le_of_ble_eq_true rfl, Nat.le_of_ble_eq_true rfl⟩ rfl (Nat.le_of_ble_eq_true rfl) dX9_requireEntry_2 (rg_ex2 ?_)
  show rg_G κ Γ tb 2 0 0 (2 + 3) [(0, .int (rg_I c)), (1, .int (rg_I x))] [.int (rg_I (rg_b (rg_gd c x)))] σ
  refine rg_if_ne F 19 dX9_requireEntry_5 (by decide) (by have b0 := rg_b_Rg (rg_gd c x); omega) (fun c5_1 => ?_) (fun c5_1 => ?_)
  ·
    have c5_1 := (rg_b_ne0 _).mp c5_1
    exact hR _ _ _ dX9_requireEntry_19 rfl
  · exact absurd c5_1 ((rg_b_ne0 _).mpr hgd)
set_option maxHeartbeats 400000 in
set_option maxRecDepth 100000 in
/-- boat, done -/
theorem k_X9_boat_o (κ : rg_K) (σ : rg_S) (nb : Nat) (sp : Int) (h1_2 : σ 1 2 = ((nb : Nat) : Int)) (h1_3 : σ 1 3 = sp) (hnb : nb ≤ 40) (hsp : sp = 0 ∨ sp = 1) (hc : rg_cB sp ((nb : Nat) : Int) = 0) : rg_CI κ rg_tC yX9_boat cX9_boat 1 FieldType.int 1 20 [.ref (κ.2.2.2 0)] σ (fun r9 σ9 => r9 = ((nb : Nat) : Int) ∧ σ9 = (rg_wr (rg_wr σ 0 (rg_up (σ 0) 9 1)) 1 (rg_up (σ 1) 2 (((nb : Nat) : Int) + 1)))) := by
  have hq := rg_cB_0 hc
  refine rg_entI [(0, .ref (κ.2.2.2 0))] rfl (by decide +kernel) (Nat.le_of_ble_eq_true rfl) (by first | exact Or.inl rfl | exact Or.inr rfl) (fun Γ F hR => ?_)
  refine rg_aload_n F 0 0 rfl dX9_boat_0 rfl ?_
  refine rg_get F 0 0 tC0 cX9 k_lays_X9 (by decide) k_fl_X9_12 rfl (v := .ref (κ.2.2.2 1)) rfl dX9_boat_1 ?_
  refine rg_get F 1 3 tC1 cX0 k_lays_X0 (by decide) k_fl_X9_82 rfl (v := .int (rg_I sp)) (congrArg (fun x => Value.int (rg_I x)) h1_3) dX9_boat_4 ?_
  refine rg_if_eq F 20 dX9_boat_7 (by decide) (by have b0 := hsp; omega) (fun c7_1 => ?_) (fun c7_1 => ?_)
  ·
    refine rg_aload_n F 0 0 rfl dX9_boat_20 rfl ?_
    refine rg_get F 0 0 tC0 cX9 k_lays_X9 (by decide) k_fl_X9_12 rfl (v := .ref (κ.2.2.2 1)) rfl dX9_boat_21 ?_
    refine rg_get F 1 2 tC1 cX0 k_lays_X0 (by decide) k_fl_X9_92 rfl (v := .int (rg_I ((nb : Nat) : Int))) (congrArg (fun x => Value.int (rg_I x)) h1_2) dX9_boat_24 ?_
    refine rg_bipush F dX9_boat_27 (by decide +kernel) ?_
    refine rg_icmp_lt F 42 dX9_boat_29 (by decide) (by omega) (by omega) (fun c29_2 => ?_) (fun c29_2 => ?_)
    ·
      refine rg_aload_n F 0 0 rfl dX9_boat_42 rfl ?_
      refine rg_iconst F dX9_boat_43 ?_
      refine rg_put F 0 9 tC0 cX9 k_lays_X9 tyX9_ok nmX9 (by decide) k_fl_X9_78 rfl rfl (rg_narrow_z (Or.inr rfl)) rfl (f9 := (σ 0)) rfl (rg_wr σ 0 (rg_up (σ 0) 9 1)) rfl dX9_boat_44 ?_
      refine rg_aload_n F 0 0 rfl dX9_boat_47 rfl ?_
      refine rg_get F 0 0 tC0 cX9 k_lays_X9 (by decide) k_fl_X9_12 rfl (v := .ref (κ.2.2.2 1)) rfl dX9_boat_48 ?_
      refine rg_callVI F [] [] 1 (k_X0_addOne κ (rg_wr σ 0 (rg_up (σ 0) 9 1)) (nb) (h1_2) (by first | assumption | omega)) tC1 cX0 v_X0_addOne i_X0_addOne k_ml_X9_101 ⟨Nat.le_of_ble_eq_true rfl, Nat.le_of_ble_eq_true rfl⟩ rfl (Nat.le_of_ble_eq_true rfl) dX9_boat_51 (rg_ex2 ?_)
      refine rg_eq (σ' := (rg_wr (rg_wr σ 0 (rg_up (σ 0) 9 1)) 1 (rg_up (σ 1) 2 (((nb : Nat) : Int) + 1)))) rfl ?_
      exact hR _ _ _ _ dX9_boat_54 (fun h => nomatch h) ⟨rfl, rfl⟩
    · exfalso; omega
  · exfalso; omega
set_option maxHeartbeats 400000 in
set_option maxRecDepth 100000 in
/-- race, done -/
theorem k_X9_race_o (κ : rg_K) (σ : rg_S) (k f : Int) (kd : Nat → Int) (rf : Nat → Int) (sp : Int) (nr : Nat) (h13 : σ 13 = kd) (h14 : σ 14 = rf) (h1_3 : σ 1 3 = sp) (h2_3 : σ 2 3 = ((nr : Nat) : Int)) (hnr : nr ≤ 16) (hsp : sp = 0 ∨ sp = 1) (hc : rg_cR sp ((nr : Nat) : Int) k f = 0) (hkr : rg_Rg k) (hfr : rg_Rg f) : rg_CI κ rg_tC yX9_race cX9_race 3 FieldType.int 1 22 [.ref (κ.2.2.2 0), .int (rg_I k), .int (rg_I f)] σ (fun r9 σ9 => r9 = ((nr : Nat) : Int) ∧ σ9 = (rg_wr (rg_wr (rg_wr (rg_wr σ 0 (rg_up (σ 0) 9 1)) 2 (rg_up (σ 2) 3 (((nr : Nat) : Int) + 1))) 13 (rg_up kd nr k)) 14 (rg_up rf nr f))) := by
  have hq := rg_cR_0 hc
  refine rg_entI [(0, .ref (κ.2.2.2 0)), (1, .int (rg_I k)), (2, .int (rg_I f))] rfl (by decide +kernel) (Nat.le_of_ble_eq_true rfl) (by first | exact Or.inl rfl | exact Or.inr rfl) (fun Γ F hR => ?_)
  refine rg_iload_n F 1 1 rfl dX9_race_0 rfl ?_
  refine rg_if_lt F 18 dX9_race_1 (by decide) (by omega) (fun c1_1 => ?_) (fun c1_1 => ?_)
  · exfalso; omega
  ·
    refine rg_iload_n F 1 1 rfl dX9_race_4 rfl ?_
    refine rg_iconst F dX9_race_5 ?_
    refine rg_icmp_gt F 18 dX9_race_6 (by decide) (by omega) (by omega) (fun c6_2 => ?_) (fun c6_2 => ?_)
    · exfalso; omega
    ·
      refine rg_iload_n F 2 2 rfl dX9_race_9 rfl ?_
      refine rg_if_lt F 18 dX9_race_10 (by decide) (by omega) (fun c10_3 => ?_) (fun c10_3 => ?_)
      · exfalso; omega
      ·
        refine rg_iload_n F 2 2 rfl dX9_race_13 rfl ?_
        refine rg_iconst F dX9_race_14 ?_
        refine rg_icmp_le F 28 dX9_race_15 (by decide) (by omega) (by omega) (fun c15_4 => ?_) (fun c15_4 => ?_)
        ·
          refine rg_aload_n F 0 0 rfl dX9_race_28 rfl ?_
          refine rg_iload_n F 1 1 rfl dX9_race_29 rfl ?_
          refine rg_iload_n F 2 2 rfl dX9_race_30 rfl ?_
          refine rg_callVI F [.int (rg_I k), .int (rg_I f)] [] 0 (k_X9_fitsTheSplit κ σ (k) (f) (sp) (h1_3) (by first | assumption | omega) (by first | assumption | omega) (by first | assumption | omega)) tC0 cX9 v_X9_fitsTheSplit i_X9_fitsTheSplit k_ml_X9_110 ⟨Nat.le_of_ble_eq_true rfl, Nat.le_of_ble_eq_true rfl⟩ rfl (Nat.le_of_ble_eq_true rfl) dX9_race_31 (rg_ex2 ?_)
          show rg_G κ Γ rg_tC 3 0 0 (31 + 3) [(0, .ref (κ.2.2.2 0)), (1, .int (rg_I k)), (2, .int (rg_I f))] [.int (rg_I (rg_b ((¬ sp = 0 ∧ ¬ k = 0 ∧ ¬ f = 0) ∨ (sp = 0 ∧ ¬ k = 1 ∧ f = 0))))] σ
          refine rg_if_ne F 47 dX9_race_34 (by decide) (by have b0 := rg_b_Rg ((¬ sp = 0 ∧ ¬ k = 0 ∧ ¬ f = 0) ∨ (sp = 0 ∧ ¬ k = 1 ∧ f = 0)); omega) (fun c34_5 => ?_) (fun c34_5 => ?_)
          ·
            have c34_5 := (rg_b_ne0 _).mp c34_5
            refine rg_aload_n F 0 0 rfl dX9_race_47 rfl ?_
            refine rg_get F 0 1 tC0 cX9 k_lays_X9 (by decide) k_fl_X9_19 rfl (v := .ref (κ.2.2.2 2)) rfl dX9_race_48 ?_
            refine rg_get F 2 3 tC2 cX4 k_lays_X4 (by decide) k_fl_X9_116 rfl (v := .int (rg_I ((nr : Nat) : Int))) (congrArg (fun x => Value.int (rg_I x)) h2_3) dX9_race_51 ?_
            refine rg_bipush F dX9_race_54 (by decide +kernel) ?_
            refine rg_icmp_lt F 69 dX9_race_56 (by decide) (by omega) (by omega) (fun c56_6 => ?_) (fun c56_6 => ?_)
            ·
              refine rg_aload_n F 0 0 rfl dX9_race_69 rfl ?_
              refine rg_iconst F dX9_race_70 ?_
              refine rg_put F 0 9 tC0 cX9 k_lays_X9 tyX9_ok nmX9 (by decide) k_fl_X9_78 rfl rfl (rg_narrow_z (Or.inr rfl)) rfl (f9 := (σ 0)) rfl (rg_wr σ 0 (rg_up (σ 0) 9 1)) rfl dX9_race_71 ?_
              refine rg_aload_n F 0 0 rfl dX9_race_74 rfl ?_
              refine rg_get F 0 1 tC0 cX9 k_lays_X9 (by decide) k_fl_X9_19 rfl (v := .ref (κ.2.2.2 2)) rfl dX9_race_75 ?_
              refine rg_iload_n F 1 1 rfl dX9_race_78 rfl ?_
              refine rg_iload_n F 2 2 rfl dX9_race_79 rfl ?_
              refine rg_callVI F [.int (rg_I k), .int (rg_I f)] [] 2 (k_X4_addOne κ (rg_wr σ 0 (rg_up (σ 0) 9 1)) (k) (f) kd rf (nr) (h13) (h14) (h2_3) (by first | assumption | omega)) tC2 cX4 v_X4_addOne i_X4_addOne k_ml_X9_119 ⟨Nat.le_of_ble_eq_true rfl, Nat.le_of_ble_eq_true rfl⟩ rfl (Nat.le_of_ble_eq_true rfl) dX9_race_80 (rg_ex2 ?_)
              refine rg_eq (σ' := (rg_wr (rg_wr (rg_wr (rg_wr σ 0 (rg_up (σ 0) 9 1)) 2 (rg_up (σ 2) 3 (((nr : Nat) : Int) + 1))) 13 (rg_up kd nr k)) 14 (rg_up rf nr f))) rfl ?_
              exact hR _ _ _ _ dX9_race_83 (fun h => nomatch h) ⟨rfl, rfl⟩
            · exfalso; omega
          · exact absurd c34_5 ((rg_b_ne0 _).mpr (by omega))
        · exfalso; omega
set_option maxHeartbeats 400000 in
set_option maxRecDepth 100000 in
/-- abandon, done -/
theorem k_X9_abandon_o (κ : rg_K) (σ : rg_S) (r on : Int) (ab : Nat → Int) (nr : Nat) (h15 : σ 15 = ab) (h2_3 : σ 2 3 = ((nr : Nat) : Int)) (hnr : nr ≤ 16) (hon : on = 0 ∨ on = 1) (hab : ∀ j, ab j = 0 ∨ ab j = 1) (hc : rg_cI ((nr : Nat) : Int) r = 0) : rg_CI κ rg_tC yX9_abandon cX9_abandon 4 FieldType.boolean 1 21 [.ref (κ.2.2.2 0), .int (rg_I r), .int (rg_I on)] σ (fun r9 σ9 => r9 = (ab (Int.toNat r)) ∧ σ9 = (rg_wr (rg_wr σ 0 (rg_up (σ 0) 9 1)) 15 (rg_up ab (Int.toNat r) on))) := by
  have hq := rg_cI_0 hc
  refine rg_entI [(0, .ref (κ.2.2.2 0)), (1, .int (rg_I r)), (2, .int (rg_I on))] rfl (by decide +kernel) (Nat.le_of_ble_eq_true rfl) (by first | exact Or.inl rfl | exact Or.inr rfl) (fun Γ F hR => ?_)
  refine rg_aload_n F 0 0 rfl dX9_abandon_0 rfl ?_
  refine rg_iload_n F 1 1 rfl dX9_abandon_1 rfl ?_
  refine rg_callVV F [.int (rg_I r)] [] 0 (k_X9_requireRace_o κ σ (r) (nr) (h2_3) (by first | assumption | omega) hq) tC0 cX9 v_X9_requireRace i_X9_requireRace k_ml_X9_122 ⟨Nat.le_of_ble_eq_true rfl, Nat.le_of_ble_eq_true rfl⟩ rfl (Nat.le_of_ble_eq_true rfl) dX9_abandon_2 (rg_ex1 ?_)
  refine rg_aload_n F 0 0 rfl dX9_abandon_5 rfl ?_
  refine rg_get F 0 1 tC0 cX9 k_lays_X9 (by decide) k_fl_X9_19 rfl (v := .ref (κ.2.2.2 2)) rfl dX9_abandon_6 ?_
  refine rg_get F 2 2 tC2 cX4 k_lays_X4 (by decide) k_fl_X9_126 rfl (v := .ref (κ.2.2.2 15)) rfl dX9_abandon_9 ?_
  refine rg_iload_n F 1 1 rfl dX9_abandon_12 rfl ?_
  refine rg_stk (st' := [.int (rg_I ((Int.toNat r : Nat) : Int)), .ref (κ.2.2.2 15)]) (by rw [Int.toNat_of_nonneg (a := r) (by omega)]) ?_
  refine rg_zald F 15 (Int.toNat r) (v := (ab (Int.toNat r))) tC15 (by omega) (by omega) (by decide) (congrFun h15 (Int.toNat r)) dX9_abandon_13 ?_
  refine rg_istore_n F [(3, .int (rg_I (ab (Int.toNat r)))), (0, .ref (κ.2.2.2 0)), (1, .int (rg_I r)), (2, .int (rg_I on))] dX9_abandon_14 rfl (by decide) rfl ?_
  refine rg_aload_n F 1 0 rfl dX9_abandon_15 rfl ?_
  refine rg_get F 0 1 tC0 cX9 k_lays_X9 (by decide) k_fl_X9_19 rfl (v := .ref (κ.2.2.2 2)) rfl dX9_abandon_16 ?_
  refine rg_get F 2 2 tC2 cX4 k_lays_X4 (by decide) k_fl_X9_126 rfl (v := .ref (κ.2.2.2 15)) rfl dX9_abandon_19 ?_
  refine rg_iload_n F 2 1 rfl dX9_abandon_22 rfl ?_
  refine rg_stk (st' := [.int (rg_I ((Int.toNat r : Nat) : Int)), .ref (κ.2.2.2 15)]) (by rw [Int.toNat_of_nonneg (a := r) (by omega)]) ?_
  refine rg_iload_n F 3 2 rfl dX9_abandon_23 rfl ?_
  refine rg_zast F 15 (Int.toNat r) tC15 (by omega) (by omega) (by decide) (by omega) (f9 := ab) h15 (rg_wr σ 15 (rg_up ab (Int.toNat r) on)) rfl dX9_abandon_24 ?_
  refine rg_aload_n F 1 0 rfl dX9_abandon_25 rfl ?_
  refine rg_iconst F dX9_abandon_26 ?_
  refine rg_put F 0 9 tC0 cX9 k_lays_X9 tyX9_ok nmX9 (by decide) k_fl_X9_78 rfl rfl (rg_narrow_z (Or.inr rfl)) rfl (f9 := (σ 0)) rfl (rg_wr (rg_wr σ 0 (rg_up (σ 0) 9 1)) 15 (rg_up ab (Int.toNat r) on)) ((rg_wr_comm _ _ _ (by decide)).trans (rg_wr_congr 15 rfl rfl)) dX9_abandon_27 ?_
  refine rg_iload_n F 0 3 rfl dX9_abandon_30 rfl ?_
  exact hR _ _ _ _ dX9_abandon_31 (fun _ => (by have b0 := hab ((Int.toNat r)); omega)) ⟨rfl, rfl⟩
set_option maxHeartbeats 400000 in
set_option maxRecDepth 100000 in
/-- finish, done -/
theorem k_X9_finish_o (κ : rg_K) (σ : rg_S) (r b p : Int) (fl : Nat → Int) (rf : Nat → Int) (f16 : Nat → Int) (f17 : Nat → Int) (f18 : Nat → Int) (nb : Nat) (nr : Nat) (h11 : σ 11 = fl) (h14 : σ 14 = rf) (h16 : σ 16 = f16) (h17 : σ 17 = f17) (h18 : σ 18 = f18) (h1_2 : σ 1 2 = ((nb : Nat) : Int)) (h2_3 : σ 2 3 = ((nr : Nat) : Int)) (hnb : nb ≤ 40) (hnr : nr ≤ 16) (hc : rg_wg rf fl ((nb : Nat) : Int) ((nr : Nat) : Int) r b 0 p = 0) (hfl : ∀ j, rg_Rg (fl j)) (hrf : ∀ j, rg_Rg (rf j)) : rg_CV κ rg_tC yX9_finish cX9_finish 4 3 65 [.ref (κ.2.2.2 0), .int (rg_I r), .int (rg_I b), .int (rg_I p)] σ (fun σ9 => σ9 = (rg_wr (rg_wr (rg_wr (rg_wr σ 0 (rg_up (σ 0) 9 1)) 16 (rg_up f16 (Int.toNat r * 40 + Int.toNat b) 0)) 17 (rg_up f17 (Int.toNat r * 40 + Int.toNat b) p)) 18 (rg_up f18 (Int.toNat r * 40 + Int.toNat b) 0))) := by
  have hq := rg_wg_0 hc
  have hpr : rg_Rg p := ⟨by omega, by omega⟩
  refine rg_entV [(0, .ref (κ.2.2.2 0)), (1, .int (rg_I r)), (2, .int (rg_I b)), (3, .int (rg_I p))] rfl (by decide +kernel) (Nat.le_of_ble_eq_true rfl) (fun Γ F hR => ?_)
  refine rg_aload_n F 0 0 rfl dX9_finish_0 rfl ?_
  refine rg_iload_n F 1 1 rfl dX9_finish_1 rfl ?_
  refine rg_iload_n F 2 2 rfl dX9_finish_2 rfl ?_
  refine rg_callVV F [.int (rg_I r), .int (rg_I b)] [] 0 (k_X9_requireRaceOfBoat_o κ σ (r) (b) fl rf (nb) (nr) (h11) (h14) (h1_2) (h2_3) (by first | assumption | omega) (by first | assumption | omega) hq.1.1 hq.1.2 (by first | assumption | omega) (by first | assumption | omega)) tC0 cX9 v_X9_requireRaceOfBoat i_X9_requireRaceOfBoat k_ml_X9_130 ⟨Nat.le_of_ble_eq_true rfl, Nat.le_of_ble_eq_true rfl⟩ rfl (Nat.le_of_ble_eq_true rfl) dX9_finish_3 (rg_ex1 ?_)
  refine rg_iconst F dX9_finish_6 ?_
  refine rg_iload_n F 3 3 rfl dX9_finish_7 rfl ?_
  refine rg_callSV F [.int (rg_I 0), .int (rg_I p)] [] (k_X9_requireEntry_o κ rg_tC σ (0) (p) (by first | assumption | omega) (by first | assumption | omega) hq.2) v_X9_requireEntry k_st_yX9_requireEntry k_ml_X9_134 ⟨Nat.le_of_ble_eq_true rfl, Nat.le_of_ble_eq_true rfl⟩ rfl (Nat.le_of_ble_eq_true rfl) dX9_finish_8 (rg_ex1 ?_)
  refine rg_aload_n F 0 0 rfl dX9_finish_11 rfl ?_
  refine rg_get F 0 2 tC0 cX9 k_lays_X9 (by decide) k_fl_X9_26 rfl (v := .ref (κ.2.2.2 3)) rfl dX9_finish_12 ?_
  refine rg_iload_n F 1 1 rfl dX9_finish_15 rfl ?_
  refine rg_stk (st' := [.int (rg_I ((Int.toNat r : Nat) : Int)), .ref (κ.2.2.2 3)]) (by rw [Int.toNat_of_nonneg (a := r) (by omega)]) ?_
  refine rg_iload_n F 2 2 rfl dX9_finish_16 rfl ?_
  refine rg_stk (st' := [.int (rg_I ((Int.toNat b : Nat) : Int)), .int (rg_I ((Int.toNat r : Nat) : Int)), .ref (κ.2.2.2 3)]) (by rw [Int.toNat_of_nonneg (a := b) (by omega)]) ?_
  refine rg_callSI F [.int (rg_I ((Int.toNat r : Nat) : Int)), .int (rg_I ((Int.toNat b : Nat) : Int))] [.ref (κ.2.2.2 3)] (k_X9_cell κ rg_tC σ ((Int.toNat r)) ((Int.toNat b))) v_X9_cell k_st_yX9_cell k_ml_X9_137 ⟨Nat.le_of_ble_eq_true rfl, Nat.le_of_ble_eq_true rfl⟩ rfl (Nat.le_of_ble_eq_true rfl) dX9_finish_17 (rg_ex2 ?_)
  show rg_G κ Γ rg_tC 4 0 0 (17 + 3) [(0, .ref (κ.2.2.2 0)), (1, .int (rg_I r)), (2, .int (rg_I b)), (3, .int (rg_I p))] [.int (rg_I (((Int.toNat r) * 40 + (Int.toNat b) : Nat) : Int)), .ref (κ.2.2.2 3)] σ
  refine rg_iconst F dX9_finish_20 ?_
  refine rg_iload_n F 3 3 rfl dX9_finish_21 rfl ?_
  refine rg_callVV F [.int (rg_I (((Int.toNat r) * 40 + (Int.toNat b) : Nat) : Int)), .int (rg_I 0), .int (rg_I p)] [] 3 (k_X2_put_3 κ σ (((Int.toNat r) * 40 + (Int.toNat b))) (0) (p) f16 f17 f18 (h16) (h17) (h18) (by first | assumption | omega)) tC3 cX2 v_X2_put i_X2_put k_ml_X9_140 ⟨Nat.le_of_ble_eq_true rfl, Nat.le_of_ble_eq_true rfl⟩ rfl (Nat.le_of_ble_eq_true rfl) dX9_finish_22 (rg_ex1 ?_)
  refine rg_eq (σ' := (rg_wr (rg_wr (rg_wr σ 16 (rg_up f16 ((Int.toNat r) * 40 + (Int.toNat b)) 0)) 17 (rg_up f17 ((Int.toNat r) * 40 + (Int.toNat b)) p)) 18 (rg_up f18 ((Int.toNat r) * 40 + (Int.toNat b)) 0))) rfl ?_
  refine rg_aload_n F 0 0 rfl dX9_finish_25 rfl ?_
  refine rg_iconst F dX9_finish_26 ?_
  refine rg_put F 0 9 tC0 cX9 k_lays_X9 tyX9_ok nmX9 (by decide) k_fl_X9_78 rfl rfl (rg_narrow_z (Or.inr rfl)) rfl (f9 := (σ 0)) rfl (rg_wr (rg_wr (rg_wr (rg_wr σ 0 (rg_up (σ 0) 9 1)) 16 (rg_up f16 ((Int.toNat r) * 40 + (Int.toNat b)) 0)) 17 (rg_up f17 ((Int.toNat r) * 40 + (Int.toNat b)) p)) 18 (rg_up f18 ((Int.toNat r) * 40 + (Int.toNat b)) 0)) ((rg_wr_comm _ _ _ (by decide)).trans (rg_wr_congr 18 ((rg_wr_comm _ _ _ (by decide)).trans (rg_wr_congr 17 ((rg_wr_comm _ _ _ (by decide)).trans (rg_wr_congr 16 rfl rfl)) rfl)) rfl)) dX9_finish_27 ?_
  exact hR _ _ _ dX9_finish_30 (rg_wr_congr (f := (rg_up f18 ((Int.toNat r) * 40 + (Int.toNat b)) 0)) (g := (rg_up f18 (Int.toNat r * 40 + Int.toNat b) 0)) 18 (rg_wr_congr (f := (rg_up f17 ((Int.toNat r) * 40 + (Int.toNat b)) p)) (g := (rg_up f17 (Int.toNat r * 40 + Int.toNat b) p)) 17 (rg_wr_congr (f := (rg_up f16 ((Int.toNat r) * 40 + (Int.toNat b)) 0)) (g := (rg_up f16 (Int.toNat r * 40 + Int.toNat b) 0)) 16 (rg_wr_congr (f := (rg_up (σ 0) 9 1)) (g := (rg_up (σ 0) 9 1)) 0 rfl rfl) rfl) rfl) rfl)
set_option maxHeartbeats 400000 in
set_option maxRecDepth 100000 in
/-- code, done -/
theorem k_X9_code_o (κ : rg_K) (σ : rg_S) (r b c x : Int) (fl : Nat → Int) (rf : Nat → Int) (f16 : Nat → Int) (f17 : Nat → Int) (f18 : Nat → Int) (nb : Nat) (nr : Nat) (h11 : σ 11 = fl) (h14 : σ 14 = rf) (h16 : σ 16 = f16) (h17 : σ 17 = f17) (h18 : σ 18 = f18) (h1_2 : σ 1 2 = ((nb : Nat) : Int)) (h2_3 : σ 2 3 = ((nr : Nat) : Int)) (hnb : nb ≤ 40) (hnr : nr ≤ 16) (hc : rg_cC rf fl ((nb : Nat) : Int) ((nr : Nat) : Int) r b c x = 0) (hfl : ∀ j, rg_Rg (fl j)) (hrf : ∀ j, rg_Rg (rf j)) (hcr : rg_Rg c) (hxr : rg_Rg x) : rg_CV κ rg_tC yX9_code cX9_code 5 3 65 [.ref (κ.2.2.2 0), .int (rg_I r), .int (rg_I b), .int (rg_I c), .int (rg_I x)] σ (fun σ9 => σ9 = (rg_wr (rg_wr (rg_wr (rg_wr σ 0 (rg_up (σ 0) 9 1)) 16 (rg_up f16 (Int.toNat r * 40 + Int.toNat b) c)) 17 (rg_up f17 (Int.toNat r * 40 + Int.toNat b) x)) 18 (rg_up f18 (Int.toNat r * 40 + Int.toNat b) 0))) := by
  have hq9 := rg_cC_0 hc
  have hq := hq9.1
  refine rg_entV [(0, .ref (κ.2.2.2 0)), (1, .int (rg_I r)), (2, .int (rg_I b)), (3, .int (rg_I c)), (4, .int (rg_I x))] rfl (by decide +kernel) (Nat.le_of_ble_eq_true rfl) (fun Γ F hR => ?_)
  refine rg_aload_n F 0 0 rfl dX9_code_0 rfl ?_
  refine rg_iload_n F 1 1 rfl dX9_code_1 rfl ?_
  refine rg_iload_n F 2 2 rfl dX9_code_2 rfl ?_
  refine rg_callVV F [.int (rg_I r), .int (rg_I b)] [] 0 (k_X9_requireRaceOfBoat_o κ σ (r) (b) fl rf (nb) (nr) (h11) (h14) (h1_2) (h2_3) (by first | assumption | omega) (by first | assumption | omega) hq.1.1 hq.1.2 (by first | assumption | omega) (by first | assumption | omega)) tC0 cX9 v_X9_requireRaceOfBoat i_X9_requireRaceOfBoat k_ml_X9_130 ⟨Nat.le_of_ble_eq_true rfl, Nat.le_of_ble_eq_true rfl⟩ rfl (Nat.le_of_ble_eq_true rfl) dX9_code_3 (rg_ex1 ?_)
  refine rg_iload_n F 3 3 rfl dX9_code_6 rfl ?_
  refine rg_if_ne F 20 dX9_code_7 (by decide) (by omega) (fun c7_1 => ?_) (fun c7_1 => ?_)
  ·
    refine rg_iload_n F 3 3 rfl dX9_code_20 rfl ?_
    refine rg_iload F 4 4 rfl dX9_code_21 ?_
    refine rg_callSV F [.int (rg_I c), .int (rg_I x)] [] (k_X9_requireEntry_o κ rg_tC σ (c) (x) (by first | assumption | omega) (by first | assumption | omega) hq.2) v_X9_requireEntry k_st_yX9_requireEntry k_ml_X9_134 ⟨Nat.le_of_ble_eq_true rfl, Nat.le_of_ble_eq_true rfl⟩ rfl (Nat.le_of_ble_eq_true rfl) dX9_code_23 (rg_ex1 ?_)
    refine rg_aload_n F 0 0 rfl dX9_code_26 rfl ?_
    refine rg_get F 0 2 tC0 cX9 k_lays_X9 (by decide) k_fl_X9_26 rfl (v := .ref (κ.2.2.2 3)) rfl dX9_code_27 ?_
    refine rg_iload_n F 1 1 rfl dX9_code_30 rfl ?_
    refine rg_stk (st' := [.int (rg_I ((Int.toNat r : Nat) : Int)), .ref (κ.2.2.2 3)]) (by rw [Int.toNat_of_nonneg (a := r) (by omega)]) ?_
    refine rg_iload_n F 2 2 rfl dX9_code_31 rfl ?_
    refine rg_stk (st' := [.int (rg_I ((Int.toNat b : Nat) : Int)), .int (rg_I ((Int.toNat r : Nat) : Int)), .ref (κ.2.2.2 3)]) (by rw [Int.toNat_of_nonneg (a := b) (by omega)]) ?_
    refine rg_callSI F [.int (rg_I ((Int.toNat r : Nat) : Int)), .int (rg_I ((Int.toNat b : Nat) : Int))] [.ref (κ.2.2.2 3)] (k_X9_cell κ rg_tC σ ((Int.toNat r)) ((Int.toNat b))) v_X9_cell k_st_yX9_cell k_ml_X9_137 ⟨Nat.le_of_ble_eq_true rfl, Nat.le_of_ble_eq_true rfl⟩ rfl (Nat.le_of_ble_eq_true rfl) dX9_code_32 (rg_ex2 ?_)
    show rg_G κ Γ rg_tC 5 0 0 (32 + 3) [(0, .ref (κ.2.2.2 0)), (1, .int (rg_I r)), (2, .int (rg_I b)), (3, .int (rg_I c)), (4, .int (rg_I x))] [.int (rg_I (((Int.toNat r) * 40 + (Int.toNat b) : Nat) : Int)), .ref (κ.2.2.2 3)] σ
    refine rg_iload_n F 3 3 rfl dX9_code_35 rfl ?_
    refine rg_iload F 4 4 rfl dX9_code_36 ?_
    refine rg_callVV F [.int (rg_I (((Int.toNat r) * 40 + (Int.toNat b) : Nat) : Int)), .int (rg_I c), .int (rg_I x)] [] 3 (k_X2_put_3 κ σ (((Int.toNat r) * 40 + (Int.toNat b))) (c) (x) f16 f17 f18 (h16) (h17) (h18) (by first | assumption | omega)) tC3 cX2 v_X2_put i_X2_put k_ml_X9_140 ⟨Nat.le_of_ble_eq_true rfl, Nat.le_of_ble_eq_true rfl⟩ rfl (Nat.le_of_ble_eq_true rfl) dX9_code_38 (rg_ex1 ?_)
    refine rg_eq (σ' := (rg_wr (rg_wr (rg_wr σ 16 (rg_up f16 ((Int.toNat r) * 40 + (Int.toNat b)) c)) 17 (rg_up f17 ((Int.toNat r) * 40 + (Int.toNat b)) x)) 18 (rg_up f18 ((Int.toNat r) * 40 + (Int.toNat b)) 0))) rfl ?_
    refine rg_aload_n F 0 0 rfl dX9_code_41 rfl ?_
    refine rg_iconst F dX9_code_42 ?_
    refine rg_put F 0 9 tC0 cX9 k_lays_X9 tyX9_ok nmX9 (by decide) k_fl_X9_78 rfl rfl (rg_narrow_z (Or.inr rfl)) rfl (f9 := (σ 0)) rfl (rg_wr (rg_wr (rg_wr (rg_wr σ 0 (rg_up (σ 0) 9 1)) 16 (rg_up f16 ((Int.toNat r) * 40 + (Int.toNat b)) c)) 17 (rg_up f17 ((Int.toNat r) * 40 + (Int.toNat b)) x)) 18 (rg_up f18 ((Int.toNat r) * 40 + (Int.toNat b)) 0)) ((rg_wr_comm _ _ _ (by decide)).trans (rg_wr_congr 18 ((rg_wr_comm _ _ _ (by decide)).trans (rg_wr_congr 17 ((rg_wr_comm _ _ _ (by decide)).trans (rg_wr_congr 16 rfl rfl)) rfl)) rfl)) dX9_code_43 ?_
    exact hR _ _ _ dX9_code_46 (rg_wr_congr (f := (rg_up f18 ((Int.toNat r) * 40 + (Int.toNat b)) 0)) (g := (rg_up f18 (Int.toNat r * 40 + Int.toNat b) 0)) 18 (rg_wr_congr (f := (rg_up f17 ((Int.toNat r) * 40 + (Int.toNat b)) x)) (g := (rg_up f17 (Int.toNat r * 40 + Int.toNat b) x)) 17 (rg_wr_congr (f := (rg_up f16 ((Int.toNat r) * 40 + (Int.toNat b)) c)) (g := (rg_up f16 (Int.toNat r * 40 + Int.toNat b) c)) 16 (rg_wr_congr (f := (rg_up (σ 0) 9 1)) (g := (rg_up (σ 0) 9 1)) 0 rfl rfl) rfl) rfl) rfl)
  · exfalso; omega
