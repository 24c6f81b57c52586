/-! The class's calls that are refused (laid by program). -/
set_option maxHeartbeats 400000 in
set_option maxRecDepth 100000 in
/-- requireRace, refused -/
theorem k_X9_requireRace_x1 (κ : rg_K) (σ : rg_S) (r : Int) (nr : Nat) (h2_3 : σ 2 3 = ((nr : Nat) : Int)) (hnr : nr ≤ 16) (hrr : rg_Rg r) (hk : ¬ (0 ≤ r ∧ r ≤ ((nr : Nat) : Int) - 1)) : rg_TX κ rg_tC yX9_requireRace cX9_requireRace 2 none 6 82 [.ref (κ.2.2.2 0), .int (rg_I r)] σ σ "java/lang/IndexOutOfBoundsException" := by
  refine rg_entX [(0, .ref (κ.2.2.2 0)), (1, .int (rg_I r))] rfl (by decide +kernel) (Nat.le_of_ble_eq_true rfl) (fun Γ F hR => ?_)
  refine rg_iload_n F 1 1 rfl dX9_requireRace_0 rfl ?_
  refine rg_if_lt F 15 dX9_requireRace_1 (by decide) (by omega) (fun c1_1 => ?_) (fun c1_1 => ?_)
  ·
    exact rg_thrW F hR 39 k_str_279 k_tf_IOB dX9_requireRace_15 dX9_requireRace_18 dX9_requireRace_19 dX9_requireRace_22 dX9_requireRace_25 (Nat.le_of_ble_eq_true rfl) (Nat.le_of_ble_eq_true rfl)
  ·
    refine rg_iload_n F 1 1 rfl dX9_requireRace_4 rfl ?_
    refine rg_aload_n F 0 0 rfl dX9_requireRace_5 rfl ?_
    refine rg_get F 0 1 tC0 cX9 k_lays_X9 (by decide) k_fl_X9_19 rfl (v := .ref (κ.2.2.2 2)) rfl dX9_requireRace_6 ?_
    refine rg_get F 2 3 tC2 cX4 k_lays_X4 (by decide) k_fl_X9_116 rfl (v := .int (rg_I ((nr : Nat) : Int))) (congrArg (fun x => Value.int (rg_I x)) h2_3) dX9_requireRace_9 ?_
    refine rg_icmp_lt F 26 dX9_requireRace_12 (by decide) (by omega) (by omega) (fun c12_2 => ?_) (fun c12_2 => ?_)
    · exfalso; omega
    ·
      exact rg_thrW F hR 39 k_str_279 k_tf_IOB dX9_requireRace_15 dX9_requireRace_18 dX9_requireRace_19 dX9_requireRace_22 dX9_requireRace_25 (Nat.le_of_ble_eq_true rfl) (Nat.le_of_ble_eq_true rfl)
set_option maxHeartbeats 400000 in
set_option maxRecDepth 100000 in
/-- requireBoat, refused -/
theorem k_X9_requireBoat_x1 (κ : rg_K) (σ : rg_S) (b : Int) (nb : Nat) (h1_2 : σ 1 2 = ((nb : Nat) : Int)) (hnb : nb ≤ 40) (hbr : rg_Rg b) (hk : ¬ (0 ≤ b ∧ b ≤ ((nb : Nat) : Int) - 1)) : rg_TX κ rg_tC yX9_requireBoat cX9_requireBoat 2 none 6 82 [.ref (κ.2.2.2 0), .int (rg_I b)] σ σ "java/lang/IndexOutOfBoundsException" := by
  refine rg_entX [(0, .ref (κ.2.2.2 0)), (1, .int (rg_I b))] rfl (by decide +kernel) (Nat.le_of_ble_eq_true rfl) (fun Γ F hR => ?_)
  refine rg_iload_n F 1 1 rfl dX9_requireBoat_0 rfl ?_
  refine rg_if_lt F 15 dX9_requireBoat_1 (by decide) (by omega) (fun c1_1 => ?_) (fun c1_1 => ?_)
  ·
    exact rg_thrW F hR 40 k_str_281 k_tf_IOB dX9_requireBoat_15 dX9_requireBoat_18 dX9_requireBoat_19 dX9_requireBoat_22 dX9_requireBoat_25 (Nat.le_of_ble_eq_true rfl) (Nat.le_of_ble_eq_true rfl)
  ·
    refine rg_iload_n F 1 1 rfl dX9_requireBoat_4 rfl ?_
    refine rg_aload_n F 0 0 rfl dX9_requireBoat_5 rfl ?_
    refine rg_get F 0 0 tC0 cX9 k_lays_X9 (by decide) k_fl_X9_12 rfl (v := .ref (κ.2.2.2 1)) rfl dX9_requireBoat_6 ?_
    refine rg_get F 1 2 tC1 cX0 k_lays_X0 (by decide) k_fl_X9_92 rfl (v := .int (rg_I ((nb : Nat) : Int))) (congrArg (fun x => Value.int (rg_I x)) h1_2) dX9_requireBoat_9 ?_
    refine rg_icmp_lt F 26 dX9_requireBoat_12 (by decide) (by omega) (by omega) (fun c12_2 => ?_) (fun c12_2 => ?_)
    · exfalso; omega
    ·
      exact rg_thrW F hR 40 k_str_281 k_tf_IOB dX9_requireBoat_15 dX9_requireBoat_18 dX9_requireBoat_19 dX9_requireBoat_22 dX9_requireBoat_25 (Nat.le_of_ble_eq_true rfl) (Nat.le_of_ble_eq_true rfl)
set_option maxHeartbeats 400000 in
set_option maxRecDepth 100000 in
/-- requireRaceAndBoat, refused -/
theorem k_X9_requireRaceAndBoat_x1 (κ : rg_K) (σ : rg_S) (r b : Int) (nb : Nat) (nr : Nat) (h1_2 : σ 1 2 = ((nb : Nat) : Int)) (h2_3 : σ 2 3 = ((nr : Nat) : Int)) (hnb : nb ≤ 40) (hnr : nr ≤ 16) (hrr : rg_Rg r) (hbr : rg_Rg b) (hk : ¬ rg_th ((nb : Nat) : Int) ((nr : Nat) : Int) r b) : rg_TX κ rg_tC yX9_requireRaceAndBoat cX9_requireRaceAndBoat 3 none 7 103 [.ref (κ.2.2.2 0), .int (rg_I r), .int (rg_I b)] σ σ "java/lang/IndexOutOfBoundsException" := by
  refine rg_entX [(0, .ref (κ.2.2.2 0)), (1, .int (rg_I r)), (2, .int (rg_I b))] rfl (by decide +kernel) (Nat.le_of_ble_eq_true rfl) (fun Γ F hR => ?_)
  refine rg_aload_n F 0 0 rfl dX9_requireRaceAndBoat_0 rfl ?_
  refine rg_iload_n F 1 1 rfl dX9_requireRaceAndBoat_1 rfl ?_
  by_cases hs2 : 0 ≤ r ∧ r ≤ ((nr : Nat) : Int) - 1
  ·
    refine rg_callVV F [.int (rg_I r)] [] 0 (k_X9_requireRace_o κ σ (r) (nr) (h2_3) (by first | assumption | omega) (by omega)) tC0 cX9 v_X9_requireRace i_X9_requireRace k_ml_X9_122 ⟨Nat.le_of_ble_eq_true rfl, Nat.le_of_ble_eq_true rfl⟩ rfl (Nat.le_of_ble_eq_true rfl) dX9_requireRaceAndBoat_2 (rg_ex1 ?_)
    refine rg_aload_n F 0 0 rfl dX9_requireRaceAndBoat_5 rfl ?_
    refine rg_iload_n F 2 2 rfl dX9_requireRaceAndBoat_6 rfl ?_
    exact rg_callVX F hR [.int (rg_I b)] [] 0 (k_X9_requireBoat_x1 κ σ (b) (nb) (h1_2) (by first | assumption | omega) (by first | assumption | omega) (by omega)) tC0 cX9 v_X9_requireBoat i_X9_requireBoat k_ml_X9_195 ⟨Nat.le_of_ble_eq_true rfl, Nat.le_of_ble_eq_true rfl⟩ rfl (Nat.le_of_ble_eq_true rfl) dX9_requireRaceAndBoat_7
  ·
    exact rg_callVX F hR [.int (rg_I r)] [] 0 (k_X9_requireRace_x1 κ σ (r) (nr) (h2_3) (by first | assumption | omega) (by first | assumption | omega) (by omega)) tC0 cX9 v_X9_requireRace i_X9_requireRace k_ml_X9_122 ⟨Nat.le_of_ble_eq_true rfl, Nat.le_of_ble_eq_true rfl⟩ rfl (Nat.le_of_ble_eq_true rfl) dX9_requireRaceAndBoat_2
set_option maxHeartbeats 400000 in
set_option maxRecDepth 100000 in
/-- requireRaceOfBoat, refused -/
theorem k_X9_requireRaceOfBoat_x1 (κ : rg_K) (σ : rg_S) (r b : Int) (fl : Nat → Int) (rf : Nat → Int) (nb : Nat) (nr : Nat) (h11 : σ 11 = fl) (h14 : σ 14 = rf) (h1_2 : σ 1 2 = ((nb : Nat) : Int)) (h2_3 : σ 2 3 = ((nr : Nat) : Int)) (hnb : nb ≤ 40) (hnr : nr ≤ 16) (hfl : ∀ j, rg_Rg (fl j)) (hrf : ∀ j, rg_Rg (rf j)) (hrr : rg_Rg r) (hbr : rg_Rg b) (hk : ¬ rg_th ((nb : Nat) : Int) ((nr : Nat) : Int) r b) : rg_TX κ rg_tC yX9_requireRaceOfBoat cX9_requireRaceOfBoat 3 none 8 125 [.ref (κ.2.2.2 0), .int (rg_I r), .int (rg_I b)] σ σ "java/lang/IndexOutOfBoundsException" := by
  refine rg_entX [(0, .ref (κ.2.2.2 0)), (1, .int (rg_I r)), (2, .int (rg_I b))] rfl (by decide +kernel) (Nat.le_of_ble_eq_true rfl) (fun Γ F hR => ?_)
  refine rg_aload_n F 0 0 rfl dX9_requireRaceOfBoat_0 rfl ?_
  refine rg_iload_n F 1 1 rfl dX9_requireRaceOfBoat_1 rfl ?_
  refine rg_iload_n F 2 2 rfl dX9_requireRaceOfBoat_2 rfl ?_
  exact rg_callVX F hR [.int (rg_I r), .int (rg_I b)] [] 0 (k_X9_requireRaceAndBoat_x1 κ σ (r) (b) (nb) (nr) (h1_2) (h2_3) (by first | assumption | omega) (by first | assumption | omega) (by first | assumption | omega) (by first | assumption | omega) hk) tC0 cX9 v_X9_requireRaceAndBoat i_X9_requireRaceAndBoat k_ml_X9_146 ⟨Nat.le_of_ble_eq_true rfl, Nat.le_of_ble_eq_true rfl⟩ rfl (Nat.le_of_ble_eq_true rfl) dX9_requireRaceOfBoat_3
set_option maxHeartbeats 400000 in
set_option maxRecDepth 100000 in
/-- requireRaceOfBoat, refused -/
theorem k_X9_requireRaceOfBoat_x2 (κ : rg_K) (σ : rg_S) (r b : Int) (fl : Nat → Int) (rf : Nat → Int) (nb : Nat) (nr : Nat) (h11 : σ 11 = fl) (h14 : σ 14 = rf) (h1_2 : σ 1 2 = ((nb : Nat) : Int)) (h2_3 : σ 2 3 = ((nr : Nat) : Int)) (hnb : nb ≤ 40) (hnr : nr ≤ 16) (hfl : ∀ j, rg_Rg (fl j)) (hrf : ∀ j, rg_Rg (rf j)) (hrr : rg_Rg r) (hbr : rg_Rg b) (hth : rg_th ((nb : Nat) : Int) ((nr : Nat) : Int) r b) (hk : ¬ (rf (Int.toNat r) = 0 ∨ rf (Int.toNat r) = fl (Int.toNat b))) : rg_TX κ rg_tC yX9_requireRaceOfBoat cX9_requireRaceOfBoat 3 none 8 125 [.ref (κ.2.2.2 0), .int (rg_I r), .int (rg_I b)] σ σ "java/lang/IllegalStateException" := by
  refine rg_entX [(0, .ref (κ.2.2.2 0)), (1, .int (rg_I r)), (2, .int (rg_I b))] rfl (by decide +kernel) (Nat.le_of_ble_eq_true rfl) (fun Γ F hR => ?_)
  refine rg_aload_n F 0 0 rfl dX9_requireRaceOfBoat_0 rfl ?_
  refine rg_iload_n F 1 1 rfl dX9_requireRaceOfBoat_1 rfl ?_
  refine rg_iload_n F 2 2 rfl dX9_requireRaceOfBoat_2 rfl ?_
  refine rg_callVV F [.int (rg_I r), .int (rg_I b)] [] 0 (k_X9_requireRaceAndBoat_o κ σ (r) (b) (nb) (nr) (h1_2) (h2_3) (by first | assumption | omega) (by first | assumption | omega) hth) tC0 cX9 v_X9_requireRaceAndBoat i_X9_requireRaceAndBoat k_ml_X9_146 ⟨Nat.le_of_ble_eq_true rfl, Nat.le_of_ble_eq_true rfl⟩ rfl (Nat.le_of_ble_eq_true rfl) dX9_requireRaceOfBoat_3 (rg_ex1 ?_)
  refine rg_aload_n F 0 0 rfl dX9_requireRaceOfBoat_6 rfl ?_
  refine rg_get F 0 0 tC0 cX9 k_lays_X9 (by decide) k_fl_X9_12 rfl (v := .ref (κ.2.2.2 1)) rfl dX9_requireRaceOfBoat_7 ?_
  refine rg_iload_n F 2 2 rfl dX9_requireRaceOfBoat_10 rfl ?_
  refine rg_stk (st' := [.int (rg_I ((Int.toNat b : Nat) : Int)), .ref (κ.2.2.2 1)]) (by rw [Int.toNat_of_nonneg (a := b) (by omega)]) ?_
  refine rg_aload_n F 0 0 rfl dX9_requireRaceOfBoat_11 rfl ?_
  refine rg_get F 0 1 tC0 cX9 k_lays_X9 (by decide) k_fl_X9_19 rfl (v := .ref (κ.2.2.2 2)) rfl dX9_requireRaceOfBoat_12 ?_
  refine rg_get F 2 1 tC2 cX4 k_lays_X4 (by decide) k_fl_X9_283 rfl (v := .ref (κ.2.2.2 14)) rfl dX9_requireRaceOfBoat_15 ?_
  refine rg_iload_n F 1 1 rfl dX9_requireRaceOfBoat_18 rfl ?_
  refine rg_stk (st' := [.int (rg_I ((Int.toNat r : Nat) : Int)), .ref (κ.2.2.2 14), .int (rg_I ((Int.toNat b : Nat) : Int)), .ref (κ.2.2.2 1)]) (by rw [Int.toNat_of_nonneg (a := r) (by omega)]) ?_
  refine rg_iald F 14 (Int.toNat r) (v := (rf (Int.toNat r))) tC14 (by omega) (by omega) (by decide) (congrFun h14 (Int.toNat r)) dX9_requireRaceOfBoat_19 ?_
  refine rg_callVI F [.int (rg_I ((Int.toNat b : Nat) : Int)), .int (rg_I (rf (Int.toNat r)))] [] 1 (k_X0_isIn κ σ ((Int.toNat b)) ((rf (Int.toNat r))) fl (h11) (by first | assumption | omega) (hrf _) hfl) tC1 cX0 v_X0_isIn i_X0_isIn k_ml_X9_284 ⟨Nat.le_of_ble_eq_true rfl, Nat.le_of_ble_eq_true rfl⟩ rfl (Nat.le_of_ble_eq_true rfl) dX9_requireRaceOfBoat_20 (rg_ex2 ?_)
  show rg_G κ Γ rg_tC 3 0 0 (20 + 3) [(0, .ref (κ.2.2.2 0)), (1, .int (rg_I r)), (2, .int (rg_I b))] [.int (rg_I (rg_b ((rf (Int.toNat r)) = 0 ∨ (rf (Int.toNat r)) = fl (Int.toNat b))))] σ
  refine rg_if_ne F 37 dX9_requireRaceOfBoat_23 (by decide) (by have b0 := rg_b_Rg ((rf (Int.toNat r)) = 0 ∨ (rf (Int.toNat r)) = fl (Int.toNat b)); omega) (fun c23_1 => ?_) (fun c23_1 => ?_)
  · exact absurd c23_1 (Classical.not_not.mpr ((rg_b_eq0 _).mpr hk))
  ·
    have c23_1 := (rg_b_eq0 _).mp c23_1
    exact rg_thrW F hR 41 k_str_287 k_tf_ISE dX9_requireRaceOfBoat_26 dX9_requireRaceOfBoat_29 dX9_requireRaceOfBoat_30 dX9_requireRaceOfBoat_33 dX9_requireRaceOfBoat_36 (Nat.le_of_ble_eq_true rfl) (Nat.le_of_ble_eq_true rfl)
set_option maxHeartbeats 400000 in
set_option maxRecDepth 100000 in
/-- requireEntry, refused -/
theorem k_X9_requireEntry_x1 (κ : rg_K) (tb : List rg_Sh) (σ : rg_S) (c x : Int) (hcr : rg_Rg c) (hxr : rg_Rg x) (hk : ¬ rg_gd c x) : rg_TX κ tb yX9_requireEntry cX9_requireEntry 2 none 6 82 [.int (rg_I c), .int (rg_I x)] σ σ "java/lang/IllegalArgumentException" := by
  refine rg_entX [(0, .int (rg_I c)), (1, .int (rg_I x))] rfl (by decide +kernel) (Nat.le_of_ble_eq_true rfl) (fun Γ F hR => ?_)
  refine rg_iload_n F 0 0 rfl dX9_requireEntry_0 rfl ?_
  refine rg_iload_n F 1 1 rfl dX9_requireEntry_1 rfl ?_
  refine rg_callSI F [.int (rg_I c), .int (rg_I x)] [] (k_X9_isEntry κ tb σ (c) (x) (by first | assumption | omega) (by first | assumption | omega)) v_X9_isEntry k_st_yX9_isEntry k_ml_X9_289 ⟨Nat.le_of_ble_eq_true rfl, Nat.le_of_ble_eq_true rfl⟩ rfl (Nat.le_of_ble_eq_true rfl) dX9_requireEntry_2 (rg_ex2 ?_)
  show rg_G κ Γ tb 2 0 0 (2 + 3) [(0, .int (rg_I c)), (1, .int (rg_I x))] [.int (rg_I (rg_b (rg_gd c x)))] σ
  refine rg_if_ne F 19 dX9_requireEntry_5 (by decide) (by have b0 := rg_b_Rg (rg_gd c x); omega) (fun c5_1 => ?_) (fun c5_1 => ?_)
  · exact absurd c5_1 (Classical.not_not.mpr ((rg_b_eq0 _).mpr hk))
  ·
    have c5_1 := (rg_b_eq0 _).mp c5_1
    exact rg_thrW F hR 42 k_str_292 k_tf_IAE dX9_requireEntry_8 dX9_requireEntry_11 dX9_requireEntry_12 dX9_requireEntry_15 dX9_requireEntry_18 (Nat.le_of_ble_eq_true rfl) (Nat.le_of_ble_eq_true rfl)
set_option maxHeartbeats 400000 in
set_option maxRecDepth 100000 in
/-- boat, refused -/
theorem k_X9_boat_x1 (κ : rg_K) (σ : rg_S) (nb : Nat) (sp : Int) (h1_2 : σ 1 2 = ((nb : Nat) : Int)) (h1_3 : σ 1 3 = sp) (hnb : nb ≤ 40) (hsp : sp = 0 ∨ sp = 1) (hk : ¬ sp = 0) : rg_TX κ rg_tC yX9_boat cX9_boat 1 (some FieldType.int) 6 82 [.ref (κ.2.2.2 0)] σ σ "java/lang/IllegalStateException" := by
  refine rg_entX [(0, .ref (κ.2.2.2 0))] rfl (by decide +kernel) (Nat.le_of_ble_eq_true rfl) (fun Γ F hR => ?_)
  refine rg_aload_n F 0 0 rfl dX9_boat_0 rfl ?_
  refine rg_get F 0 0 tC0 cX9 k_lays_X9 (by decide) k_fl_X9_12 rfl (v := .ref (κ.2.2.2 1)) rfl dX9_boat_1 ?_
  refine rg_get F 1 3 tC1 cX0 k_lays_X0 (by decide) k_fl_X9_82 rfl (v := .int (rg_I sp)) (congrArg (fun x => Value.int (rg_I x)) h1_3) dX9_boat_4 ?_
  refine rg_if_eq F 20 dX9_boat_7 (by decide) (by have b0 := hsp; omega) (fun c7_1 => ?_) (fun c7_1 => ?_)
  · exfalso; omega
  ·
    exact rg_thrS F hR 18 k_str_87 k_tf_ISE dX9_boat_10 dX9_boat_13 dX9_boat_14 dX9_boat_16 dX9_boat_19 (Nat.le_of_ble_eq_true rfl) (Nat.le_of_ble_eq_true rfl)
set_option maxHeartbeats 400000 in
set_option maxRecDepth 100000 in
/-- boat, refused -/
theorem k_X9_boat_x2 (κ : rg_K) (σ : rg_S) (nb : Nat) (sp : Int) (h1_2 : σ 1 2 = ((nb : Nat) : Int)) (h1_3 : σ 1 3 = sp) (hnb : nb ≤ 40) (hsp : sp = 0 ∨ sp = 1) (hk : sp = 0 ∧ nb = 40) : rg_TX κ rg_tC yX9_boat cX9_boat 1 (some FieldType.int) 6 82 [.ref (κ.2.2.2 0)] σ σ "java/lang/UnsupportedOperationException" := by
  refine rg_entX [(0, .ref (κ.2.2.2 0))] rfl (by decide +kernel) (Nat.le_of_ble_eq_true rfl) (fun Γ F hR => ?_)
  refine rg_aload_n F 0 0 rfl dX9_boat_0 rfl ?_
  refine rg_get F 0 0 tC0 cX9 k_lays_X9 (by decide) k_fl_X9_12 rfl (v := .ref (κ.2.2.2 1)) rfl dX9_boat_1 ?_
  refine rg_get F 1 3 tC1 cX0 k_lays_X0 (by decide) k_fl_X9_82 rfl (v := .int (rg_I sp)) (congrArg (fun x => Value.int (rg_I x)) h1_3) dX9_boat_4 ?_
  refine rg_if_eq F 20 dX9_boat_7 (by decide) (by have b0 := hsp; omega) (fun c7_1 => ?_) (fun c7_1 => ?_)
  ·
    refine rg_aload_n F 0 0 rfl dX9_boat_20 rfl ?_
    refine rg_get F 0 0 tC0 cX9 k_lays_X9 (by decide) k_fl_X9_12 rfl (v := .ref (κ.2.2.2 1)) rfl dX9_boat_21 ?_
    refine rg_get F 1 2 tC1 cX0 k_lays_X0 (by decide) k_fl_X9_92 rfl (v := .int (rg_I ((nb : Nat) : Int))) (congrArg (fun x => Value.int (rg_I x)) h1_2) dX9_boat_24 ?_
    refine rg_bipush F dX9_boat_27 (by decide +kernel) ?_
    refine rg_icmp_lt F 42 dX9_boat_29 (by decide) (by omega) (by omega) (fun c29_2 => ?_) (fun c29_2 => ?_)
    · exfalso; omega
    ·
      exact rg_thrS F hR 19 k_str_98 k_tf_UOE dX9_boat_32 dX9_boat_35 dX9_boat_36 dX9_boat_38 dX9_boat_41 (Nat.le_of_ble_eq_true rfl) (Nat.le_of_ble_eq_true rfl)
  · exfalso; omega
set_option maxHeartbeats 400000 in
set_option maxRecDepth 100000 in
/-- race, refused -/
theorem k_X9_race_x1 (κ : rg_K) (σ : rg_S) (k f : Int) (sp : Int) (nr : Nat) (h1_3 : σ 1 3 = sp) (h2_3 : σ 2 3 = ((nr : Nat) : Int)) (hnr : nr ≤ 16) (hsp : sp = 0 ∨ sp = 1) (hkr : rg_Rg k) (hfr : rg_Rg f) (hk : ¬ ((0 ≤ k ∧ k ≤ 2) ∧ 0 ≤ f ∧ f ≤ 3)) : rg_TX κ rg_tC yX9_race cX9_race 3 (some FieldType.int) 6 82 [.ref (κ.2.2.2 0), .int (rg_I k), .int (rg_I f)] σ σ "java/lang/IllegalArgumentException" := by
  refine rg_entX [(0, .ref (κ.2.2.2 0)), (1, .int (rg_I k)), (2, .int (rg_I f))] rfl (by decide +kernel) (Nat.le_of_ble_eq_true rfl) (fun Γ F hR => ?_)
  refine rg_iload_n F 1 1 rfl dX9_race_0 rfl ?_
  refine rg_if_lt F 18 dX9_race_1 (by decide) (by omega) (fun c1_1 => ?_) (fun c1_1 => ?_)
  ·
    exact rg_thrS F hR 20 k_str_107 k_tf_IAE dX9_race_18 dX9_race_21 dX9_race_22 dX9_race_24 dX9_race_27 (Nat.le_of_ble_eq_true rfl) (Nat.le_of_ble_eq_true rfl)
  ·
    refine rg_iload_n F 1 1 rfl dX9_race_4 rfl ?_
    refine rg_iconst F dX9_race_5 ?_
    refine rg_icmp_gt F 18 dX9_race_6 (by decide) (by omega) (by omega) (fun c6_2 => ?_) (fun c6_2 => ?_)
    ·
      exact rg_thrS F hR 20 k_str_107 k_tf_IAE dX9_race_18 dX9_race_21 dX9_race_22 dX9_race_24 dX9_race_27 (Nat.le_of_ble_eq_true rfl) (Nat.le_of_ble_eq_true rfl)
    ·
      refine rg_iload_n F 2 2 rfl dX9_race_9 rfl ?_
      refine rg_if_lt F 18 dX9_race_10 (by decide) (by omega) (fun c10_3 => ?_) (fun c10_3 => ?_)
      ·
        exact rg_thrS F hR 20 k_str_107 k_tf_IAE dX9_race_18 dX9_race_21 dX9_race_22 dX9_race_24 dX9_race_27 (Nat.le_of_ble_eq_true rfl) (Nat.le_of_ble_eq_true rfl)
      ·
        refine rg_iload_n F 2 2 rfl dX9_race_13 rfl ?_
        refine rg_iconst F dX9_race_14 ?_
        refine rg_icmp_le F 28 dX9_race_15 (by decide) (by omega) (by omega) (fun c15_4 => ?_) (fun c15_4 => ?_)
        · exfalso; omega
        ·
          exact rg_thrS F hR 20 k_str_107 k_tf_IAE dX9_race_18 dX9_race_21 dX9_race_22 dX9_race_24 dX9_race_27 (Nat.le_of_ble_eq_true rfl) (Nat.le_of_ble_eq_true rfl)
set_option maxHeartbeats 400000 in
set_option maxRecDepth 100000 in
/-- race, refused -/
theorem k_X9_race_x2 (κ : rg_K) (σ : rg_S) (k f : Int) (sp : Int) (nr : Nat) (h1_3 : σ 1 3 = sp) (h2_3 : σ 2 3 = ((nr : Nat) : Int)) (hnr : nr ≤ 16) (hsp : sp = 0 ∨ sp = 1) (hkr : rg_Rg k) (hfr : rg_Rg f) (hk : ((0 ≤ k ∧ k ≤ 2) ∧ 0 ≤ f ∧ f ≤ 3) ∧ ¬ ((¬ sp = 0 ∧ ¬ k = 0 ∧ ¬ f = 0) ∨ (sp = 0 ∧ ¬ k = 1 ∧ f = 0))) : rg_TX κ rg_tC yX9_race cX9_race 3 (some FieldType.int) 6 82 [.ref (κ.2.2.2 0), .int (rg_I k), .int (rg_I f)] σ σ "java/lang/IllegalStateException" := by
  refine rg_entX [(0, .ref (κ.2.2.2 0)), (1, .int (rg_I k)), (2, .int (rg_I f))] rfl (by decide +kernel) (Nat.le_of_ble_eq_true rfl) (fun Γ F hR => ?_)
  refine rg_iload_n F 1 1 rfl dX9_race_0 rfl ?_
  refine rg_if_lt F 18 dX9_race_1 (by decide) (by omega) (fun c1_1 => ?_) (fun c1_1 => ?_)
  · exfalso; omega
  ·
    refine rg_iload_n F 1 1 rfl dX9_race_4 rfl ?_
    refine rg_iconst F dX9_race_5 ?_
    refine rg_icmp_gt F 18 dX9_race_6 (by decide) (by omega) (by omega) (fun c6_2 => ?_) (fun c6_2 => ?_)
    · exfalso; omega
    ·
      refine rg_iload_n F 2 2 rfl dX9_race_9 rfl ?_
      refine rg_if_lt F 18 dX9_race_10 (by decide) (by omega) (fun c10_3 => ?_) (fun c10_3 => ?_)
      · exfalso; omega
      ·
        refine rg_iload_n F 2 2 rfl dX9_race_13 rfl ?_
        refine rg_iconst F dX9_race_14 ?_
        refine rg_icmp_le F 28 dX9_race_15 (by decide) (by omega) (by omega) (fun c15_4 => ?_) (fun c15_4 => ?_)
        ·
          refine rg_aload_n F 0 0 rfl dX9_race_28 rfl ?_
          refine rg_iload_n F 1 1 rfl dX9_race_29 rfl ?_
          refine rg_iload_n F 2 2 rfl dX9_race_30 rfl ?_
          refine rg_callVI F [.int (rg_I k), .int (rg_I f)] [] 0 (k_X9_fitsTheSplit κ σ (k) (f) (sp) (h1_3) (by first | assumption | omega) (by first | assumption | omega) (by first | assumption | omega)) tC0 cX9 v_X9_fitsTheSplit i_X9_fitsTheSplit k_ml_X9_110 ⟨Nat.le_of_ble_eq_true rfl, Nat.le_of_ble_eq_true rfl⟩ rfl (Nat.le_of_ble_eq_true rfl) dX9_race_31 (rg_ex2 ?_)
          show rg_G κ Γ rg_tC 3 0 0 (31 + 3) [(0, .ref (κ.2.2.2 0)), (1, .int (rg_I k)), (2, .int (rg_I f))] [.int (rg_I (rg_b ((¬ sp = 0 ∧ ¬ k = 0 ∧ ¬ f = 0) ∨ (sp = 0 ∧ ¬ k = 1 ∧ f = 0))))] σ
          refine rg_if_ne F 47 dX9_race_34 (by decide) (by have b0 := rg_b_Rg ((¬ sp = 0 ∧ ¬ k = 0 ∧ ¬ f = 0) ∨ (sp = 0 ∧ ¬ k = 1 ∧ f = 0)); omega) (fun c34_5 => ?_) (fun c34_5 => ?_)
          · exact absurd c34_5 (Classical.not_not.mpr ((rg_b_eq0 _).mpr hk.2))
          ·
            have c34_5 := (rg_b_eq0 _).mp c34_5
            exact rg_thrS F hR 21 k_str_114 k_tf_ISE dX9_race_37 dX9_race_40 dX9_race_41 dX9_race_43 dX9_race_46 (Nat.le_of_ble_eq_true rfl) (Nat.le_of_ble_eq_true rfl)
        · exfalso; omega
set_option maxHeartbeats 400000 in
set_option maxRecDepth 100000 in
/-- race, refused -/
theorem k_X9_race_x3 (κ : rg_K) (σ : rg_S) (k f : Int) (sp : Int) (nr : Nat) (h1_3 : σ 1 3 = sp) (h2_3 : σ 2 3 = ((nr : Nat) : Int)) (hnr : nr ≤ 16) (hsp : sp = 0 ∨ sp = 1) (hkr : rg_Rg k) (hfr : rg_Rg f) (hk : (((0 ≤ k ∧ k ≤ 2) ∧ 0 ≤ f ∧ f ≤ 3) ∧ ((¬ sp = 0 ∧ ¬ k = 0 ∧ ¬ f = 0) ∨ (sp = 0 ∧ ¬ k = 1 ∧ f = 0))) ∧ nr = 16) : rg_TX κ rg_tC yX9_race cX9_race 3 (some FieldType.int) 6 82 [.ref (κ.2.2.2 0), .int (rg_I k), .int (rg_I f)] σ σ "java/lang/UnsupportedOperationException" := by
  refine rg_entX [(0, .ref (κ.2.2.2 0)), (1, .int (rg_I k)), (2, .int (rg_I f))] rfl (by decide +kernel) (Nat.le_of_ble_eq_true rfl) (fun Γ F hR => ?_)
  refine rg_iload_n F 1 1 rfl dX9_race_0 rfl ?_
  refine rg_if_lt F 18 dX9_race_1 (by decide) (by omega) (fun c1_1 => ?_) (fun c1_1 => ?_)
  · exfalso; omega
  ·
    refine rg_iload_n F 1 1 rfl dX9_race_4 rfl ?_
    refine rg_iconst F dX9_race_5 ?_
    refine rg_icmp_gt F 18 dX9_race_6 (by decide) (by omega) (by omega) (fun c6_2 => ?_) (fun c6_2 => ?_)
    · exfalso; omega
    ·
      refine rg_iload_n F 2 2 rfl dX9_race_9 rfl ?_
      refine rg_if_lt F 18 dX9_race_10 (by decide) (by omega) (fun c10_3 => ?_) (fun c10_3 => ?_)
      · exfalso; omega
      ·
        refine rg_iload_n F 2 2 rfl dX9_race_13 rfl ?_
        refine rg_iconst F dX9_race_14 ?_
        refine rg_icmp_le F 28 dX9_race_15 (by decide) (by omega) (by omega) (fun c15_4 => ?_) (fun c15_4 => ?_)
        ·
          refine rg_aload_n F 0 0 rfl dX9_race_28 rfl ?_
          refine rg_iload_n F 1 1 rfl dX9_race_29 rfl ?_
          refine rg_iload_n F 2 2 rfl dX9_race_30 rfl ?_
          refine rg_callVI F [.int (rg_I k), .int (rg_I f)] [] 0 (k_X9_fitsTheSplit κ σ (k) (f) (sp) (h1_3) (by first | assumption | omega) (by first | assumption | omega) (by first | assumption | omega)) tC0 cX9 v_X9_fitsTheSplit i_X9_fitsTheSplit k_ml_X9_110 ⟨Nat.le_of_ble_eq_true rfl, Nat.le_of_ble_eq_true rfl⟩ rfl (Nat.le_of_ble_eq_true rfl) dX9_race_31 (rg_ex2 ?_)
          show rg_G κ Γ rg_tC 3 0 0 (31 + 3) [(0, .ref (κ.2.2.2 0)), (1, .int (rg_I k)), (2, .int (rg_I f))] [.int (rg_I (rg_b ((¬ sp = 0 ∧ ¬ k = 0 ∧ ¬ f = 0) ∨ (sp = 0 ∧ ¬ k = 1 ∧ f = 0))))] σ
          refine rg_if_ne F 47 dX9_race_34 (by decide) (by have b0 := rg_b_Rg ((¬ sp = 0 ∧ ¬ k = 0 ∧ ¬ f = 0) ∨ (sp = 0 ∧ ¬ k = 1 ∧ f = 0)); omega) (fun c34_5 => ?_) (fun c34_5 => ?_)
          ·
            have c34_5 := (rg_b_ne0 _).mp c34_5
            refine rg_aload_n F 0 0 rfl dX9_race_47 rfl ?_
            refine rg_get F 0 1 tC0 cX9 k_lays_X9 (by decide) k_fl_X9_19 rfl (v := .ref (κ.2.2.2 2)) rfl dX9_race_48 ?_
            refine rg_get F 2 3 tC2 cX4 k_lays_X4 (by decide) k_fl_X9_116 rfl (v := .int (rg_I ((nr : Nat) : Int))) (congrArg (fun x => Value.int (rg_I x)) h2_3) dX9_race_51 ?_
            refine rg_bipush F dX9_race_54 (by decide +kernel) ?_
            refine rg_icmp_lt F 69 dX9_race_56 (by decide) (by omega) (by omega) (fun c56_6 => ?_) (fun c56_6 => ?_)
            · exfalso; omega
            ·
              exact rg_thrS F hR 22 k_str_117 k_tf_UOE dX9_race_59 dX9_race_62 dX9_race_63 dX9_race_65 dX9_race_68 (Nat.le_of_ble_eq_true rfl) (Nat.le_of_ble_eq_true rfl)
          · exact absurd c34_5 ((rg_b_ne0 _).mpr hk.1.2)
        · exfalso; omega
set_option maxHeartbeats 400000 in
set_option maxRecDepth 100000 in
/-- abandon, refused -/
theorem k_X9_abandon_x1 (κ : rg_K) (σ : rg_S) (r on : Int) (nr : Nat) (h2_3 : σ 2 3 = ((nr : Nat) : Int)) (hnr : nr ≤ 16) (hrr : rg_Rg r) (hk : ¬ (0 ≤ r ∧ r ≤ ((nr : Nat) : Int) - 1)) : rg_TX κ rg_tC yX9_abandon cX9_abandon 4 (some FieldType.boolean) 7 103 [.ref (κ.2.2.2 0), .int (rg_I r), .int (rg_I on)] σ σ "java/lang/IndexOutOfBoundsException" := by
  refine rg_entX [(0, .ref (κ.2.2.2 0)), (1, .int (rg_I r)), (2, .int (rg_I on))] rfl (by decide +kernel) (Nat.le_of_ble_eq_true rfl) (fun Γ F hR => ?_)
  refine rg_aload_n F 0 0 rfl dX9_abandon_0 rfl ?_
  refine rg_iload_n F 1 1 rfl dX9_abandon_1 rfl ?_
  exact rg_callVX F hR [.int (rg_I r)] [] 0 (k_X9_requireRace_x1 κ σ (r) (nr) (h2_3) (by first | assumption | omega) (by first | assumption | omega) (by first | assumption | omega)) tC0 cX9 v_X9_requireRace i_X9_requireRace k_ml_X9_122 ⟨Nat.le_of_ble_eq_true rfl, Nat.le_of_ble_eq_true rfl⟩ rfl (Nat.le_of_ble_eq_true rfl) dX9_abandon_2
set_option maxHeartbeats 400000 in
set_option maxRecDepth 100000 in
/-- finish, refused -/
theorem k_X9_finish_x1 (κ : rg_K) (σ : rg_S) (r b p : Int) (fl : Nat → Int) (rf : Nat → Int) (nb : Nat) (nr : Nat) (h11 : σ 11 = fl) (h14 : σ 14 = rf) (h1_2 : σ 1 2 = ((nb : Nat) : Int)) (h2_3 : σ 2 3 = ((nr : Nat) : Int)) (hnb : nb ≤ 40) (hnr : nr ≤ 16) (hfl : ∀ j, rg_Rg (fl j)) (hrf : ∀ j, rg_Rg (rf j)) (hrr : rg_Rg r) (hbr : rg_Rg b) (hpr : rg_Rg p) (hk : ¬ rg_th ((nb : Nat) : Int) ((nr : Nat) : Int) r b) : rg_TX κ rg_tC yX9_finish cX9_finish 4 none 9 147 [.ref (κ.2.2.2 0), .int (rg_I r), .int (rg_I b), .int (rg_I p)] σ σ "java/lang/IndexOutOfBoundsException" := by
  refine rg_entX [(0, .ref (κ.2.2.2 0)), (1, .int (rg_I r)), (2, .int (rg_I b)), (3, .int (rg_I p))] rfl (by decide +kernel) (Nat.le_of_ble_eq_true rfl) (fun Γ F hR => ?_)
  refine rg_aload_n F 0 0 rfl dX9_finish_0 rfl ?_
  refine rg_iload_n F 1 1 rfl dX9_finish_1 rfl ?_
  refine rg_iload_n F 2 2 rfl dX9_finish_2 rfl ?_
  exact rg_callVX F hR [.int (rg_I r), .int (rg_I b)] [] 0 (k_X9_requireRaceOfBoat_x1 κ σ (r) (b) fl rf (nb) (nr) (h11) (h14) (h1_2) (h2_3) (by first | assumption | omega) (by first | assumption | omega) (by first | assumption | omega) (by first | assumption | omega) (by first | assumption | omega) (by first | assumption | omega) (by first | assumption | omega)) tC0 cX9 v_X9_requireRaceOfBoat i_X9_requireRaceOfBoat k_ml_X9_130 ⟨Nat.le_of_ble_eq_true rfl, Nat.le_of_ble_eq_true rfl⟩ rfl (Nat.le_of_ble_eq_true rfl) dX9_finish_3
set_option maxHeartbeats 400000 in
set_option maxRecDepth 100000 in
/-- finish, refused -/
theorem k_X9_finish_x2 (κ : rg_K) (σ : rg_S) (r b p : Int) (fl : Nat → Int) (rf : Nat → Int) (nb : Nat) (nr : Nat) (h11 : σ 11 = fl) (h14 : σ 14 = rf) (h1_2 : σ 1 2 = ((nb : Nat) : Int)) (h2_3 : σ 2 3 = ((nr : Nat) : Int)) (hnb : nb ≤ 40) (hnr : nr ≤ 16) (hfl : ∀ j, rg_Rg (fl j)) (hrf : ∀ j, rg_Rg (rf j)) (hrr : rg_Rg r) (hbr : rg_Rg b) (hpr : rg_Rg p) (hk : rg_th ((nb : Nat) : Int) ((nr : Nat) : Int) r b ∧ ¬ (rf (Int.toNat r) = 0 ∨ rf (Int.toNat r) = fl (Int.toNat b))) : rg_TX κ rg_tC yX9_finish cX9_finish 4 none 9 147 [.ref (κ.2.2.2 0), .int (rg_I r), .int (rg_I b), .int (rg_I p)] σ σ "java/lang/IllegalStateException" := by
  refine rg_entX [(0, .ref (κ.2.2.2 0)), (1, .int (rg_I r)), (2, .int (rg_I b)), (3, .int (rg_I p))] rfl (by decide +kernel) (Nat.le_of_ble_eq_true rfl) (fun Γ F hR => ?_)
  refine rg_aload_n F 0 0 rfl dX9_finish_0 rfl ?_
  refine rg_iload_n F 1 1 rfl dX9_finish_1 rfl ?_
  refine rg_iload_n F 2 2 rfl dX9_finish_2 rfl ?_
  exact rg_callVX F hR [.int (rg_I r), .int (rg_I b)] [] 0 (k_X9_requireRaceOfBoat_x2 κ σ (r) (b) fl rf (nb) (nr) (h11) (h14) (h1_2) (h2_3) (by first | assumption | omega) (by first | assumption | omega) (by first | assumption | omega) (by first | assumption | omega) (by first | assumption | omega) (by first | assumption | omega) hk.1 hk.2) tC0 cX9 v_X9_requireRaceOfBoat i_X9_requireRaceOfBoat k_ml_X9_130 ⟨Nat.le_of_ble_eq_true rfl, Nat.le_of_ble_eq_true rfl⟩ rfl (Nat.le_of_ble_eq_true rfl) dX9_finish_3
set_option maxHeartbeats 400000 in
set_option maxRecDepth 100000 in
/-- finish, refused -/
theorem k_X9_finish_x3 (κ : rg_K) (σ : rg_S) (r b p : Int) (fl : Nat → Int) (rf : Nat → Int) (nb : Nat) (nr : Nat) (h11 : σ 11 = fl) (h14 : σ 14 = rf) (h1_2 : σ 1 2 = ((nb : Nat) : Int)) (h2_3 : σ 2 3 = ((nr : Nat) : Int)) (hnb : nb ≤ 40) (hnr : nr ≤ 16) (hfl : ∀ j, rg_Rg (fl j)) (hrf : ∀ j, rg_Rg (rf j)) (hrr : rg_Rg r) (hbr : rg_Rg b) (hpr : rg_Rg p) (hk : (rg_th ((nb : Nat) : Int) ((nr : Nat) : Int) r b ∧ (rf (Int.toNat r) = 0 ∨ rf (Int.toNat r) = fl (Int.toNat b))) ∧ ¬ rg_gd 0 p) : rg_TX κ rg_tC yX9_finish cX9_finish 4 none 9 147 [.ref (κ.2.2.2 0), .int (rg_I r), .int (rg_I b), .int (rg_I p)] σ σ "java/lang/IllegalArgumentException" := by
  refine rg_entX [(0, .ref (κ.2.2.2 0)), (1, .int (rg_I r)), (2, .int (rg_I b)), (3, .int (rg_I p))] rfl (by decide +kernel) (Nat.le_of_ble_eq_true rfl) (fun Γ F hR => ?_)
  refine rg_aload_n F 0 0 rfl dX9_finish_0 rfl ?_
  refine rg_iload_n F 1 1 rfl dX9_finish_1 rfl ?_
  refine rg_iload_n F 2 2 rfl dX9_finish_2 rfl ?_
  refine rg_callVV F [.int (rg_I r), .int (rg_I b)] [] 0 (k_X9_requireRaceOfBoat_o κ σ (r) (b) fl rf (nb) (nr) (h11) (h14) (h1_2) (h2_3) (by first | assumption | omega) (by first | assumption | omega) hk.1.1 hk.1.2 (by first | assumption | omega) (by first | assumption | omega)) tC0 cX9 v_X9_requireRaceOfBoat i_X9_requireRaceOfBoat k_ml_X9_130 ⟨Nat.le_of_ble_eq_true rfl, Nat.le_of_ble_eq_true rfl⟩ rfl (Nat.le_of_ble_eq_true rfl) dX9_finish_3 (rg_ex1 ?_)
  refine rg_iconst F dX9_finish_6 ?_
  refine rg_iload_n F 3 3 rfl dX9_finish_7 rfl ?_
  exact rg_callSX F hR [.int (rg_I 0), .int (rg_I p)] [] (k_X9_requireEntry_x1 κ rg_tC σ (0) (p) (by first | assumption | omega) (by first | assumption | omega) hk.2) v_X9_requireEntry k_st_yX9_requireEntry k_ml_X9_134 ⟨Nat.le_of_ble_eq_true rfl, Nat.le_of_ble_eq_true rfl⟩ rfl (Nat.le_of_ble_eq_true rfl) dX9_finish_8
set_option maxHeartbeats 400000 in
set_option maxRecDepth 100000 in
/-- code, refused -/
theorem k_X9_code_x1 (κ : rg_K) (σ : rg_S) (r b c x : Int) (fl : Nat → Int) (rf : Nat → Int) (nb : Nat) (nr : Nat) (h11 : σ 11 = fl) (h14 : σ 14 = rf) (h1_2 : σ 1 2 = ((nb : Nat) : Int)) (h2_3 : σ 2 3 = ((nr : Nat) : Int)) (hnb : nb ≤ 40) (hnr : nr ≤ 16) (hfl : ∀ j, rg_Rg (fl j)) (hrf : ∀ j, rg_Rg (rf j)) (hrr : rg_Rg r) (hbr : rg_Rg b) (hcr : rg_Rg c) (hxr : rg_Rg x) (hk : ¬ rg_th ((nb : Nat) : Int) ((nr : Nat) : Int) r b) : rg_TX κ rg_tC yX9_code cX9_code 5 none 9 147 [.ref (κ.2.2.2 0), .int (rg_I r), .int (rg_I b), .int (rg_I c), .int (rg_I x)] σ σ "java/lang/IndexOutOfBoundsException" := by
  refine rg_entX [(0, .ref (κ.2.2.2 0)), (1, .int (rg_I r)), (2, .int (rg_I b)), (3, .int (rg_I c)), (4, .int (rg_I x))] rfl (by decide +kernel) (Nat.le_of_ble_eq_true rfl) (fun Γ F hR => ?_)
  refine rg_aload_n F 0 0 rfl dX9_code_0 rfl ?_
  refine rg_iload_n F 1 1 rfl dX9_code_1 rfl ?_
  refine rg_iload_n F 2 2 rfl dX9_code_2 rfl ?_
  exact rg_callVX F hR [.int (rg_I r), .int (rg_I b)] [] 0 (k_X9_requireRaceOfBoat_x1 κ σ (r) (b) fl rf (nb) (nr) (h11) (h14) (h1_2) (h2_3) (by first | assumption | omega) (by first | assumption | omega) (by first | assumption | omega) (by first | assumption | omega) (by first | assumption | omega) (by first | assumption | omega) (by first | assumption | omega)) tC0 cX9 v_X9_requireRaceOfBoat i_X9_requireRaceOfBoat k_ml_X9_130 ⟨Nat.le_of_ble_eq_true rfl, Nat.le_of_ble_eq_true rfl⟩ rfl (Nat.le_of_ble_eq_true rfl) dX9_code_3
set_option maxHeartbeats 400000 in
set_option maxRecDepth 100000 in
/-- code, refused -/
theorem k_X9_code_x2 (κ : rg_K) (σ : rg_S) (r b c x : Int) (fl : Nat → Int) (rf : Nat → Int) (nb : Nat) (nr : Nat) (h11 : σ 11 = fl) (h14 : σ 14 = rf) (h1_2 : σ 1 2 = ((nb : Nat) : Int)) (h2_3 : σ 2 3 = ((nr : Nat) : Int)) (hnb : nb ≤ 40) (hnr : nr ≤ 16) (hfl : ∀ j, rg_Rg (fl j)) (hrf : ∀ j, rg_Rg (rf j)) (hrr : rg_Rg r) (hbr : rg_Rg b) (hcr : rg_Rg c) (hxr : rg_Rg x) (hk : rg_th ((nb : Nat) : Int) ((nr : Nat) : Int) r b ∧ ¬ (rf (Int.toNat r) = 0 ∨ rf (Int.toNat r) = fl (Int.toNat b))) : rg_TX κ rg_tC yX9_code cX9_code 5 none 9 147 [.ref (κ.2.2.2 0), .int (rg_I r), .int (rg_I b), .int (rg_I c), .int (rg_I x)] σ σ "java/lang/IllegalStateException" := by
  refine rg_entX [(0, .ref (κ.2.2.2 0)), (1, .int (rg_I r)), (2, .int (rg_I b)), (3, .int (rg_I c)), (4, .int (rg_I x))] rfl (by decide +kernel) (Nat.le_of_ble_eq_true rfl) (fun Γ F hR => ?_)
  refine rg_aload_n F 0 0 rfl dX9_code_0 rfl ?_
  refine rg_iload_n F 1 1 rfl dX9_code_1 rfl ?_
  refine rg_iload_n F 2 2 rfl dX9_code_2 rfl ?_
  exact rg_callVX F hR [.int (rg_I r), .int (rg_I b)] [] 0 (k_X9_requireRaceOfBoat_x2 κ σ (r) (b) fl rf (nb) (nr) (h11) (h14) (h1_2) (h2_3) (by first | assumption | omega) (by first | assumption | omega) (by first | assumption | omega) (by first | assumption | omega) (by first | assumption | omega) (by first | assumption | omega) hk.1 hk.2) tC0 cX9 v_X9_requireRaceOfBoat i_X9_requireRaceOfBoat k_ml_X9_130 ⟨Nat.le_of_ble_eq_true rfl, Nat.le_of_ble_eq_true rfl⟩ rfl (Nat.le_of_ble_eq_true rfl) dX9_code_3
set_option maxHeartbeats 400000 in
set_option maxRecDepth 100000 in
/-- code, refused -/
theorem k_X9_code_x3 (κ : rg_K) (σ : rg_S) (r b c x : Int) (fl : Nat → Int) (rf : Nat → Int) (nb : Nat) (nr : Nat) (h11 : σ 11 = fl) (h14 : σ 14 = rf) (h1_2 : σ 1 2 = ((nb : Nat) : Int)) (h2_3 : σ 2 3 = ((nr : Nat) : Int)) (hnb : nb ≤ 40) (hnr : nr ≤ 16) (hfl : ∀ j, rg_Rg (fl j)) (hrf : ∀ j, rg_Rg (rf j)) (hrr : rg_Rg r) (hbr : rg_Rg b) (hcr : rg_Rg c) (hxr : rg_Rg x) (hk : (rg_th ((nb : Nat) : Int) ((nr : Nat) : Int) r b ∧ (rf (Int.toNat r) = 0 ∨ rf (Int.toNat r) = fl (Int.toNat b))) ∧ (c = 0 ∨ ¬ rg_gd c x)) : rg_TX κ rg_tC yX9_code cX9_code 5 none 9 147 [.ref (κ.2.2.2 0), .int (rg_I r), .int (rg_I b), .int (rg_I c), .int (rg_I x)] σ σ "java/lang/IllegalArgumentException" := by
  refine rg_entX [(0, .ref (κ.2.2.2 0)), (1, .int (rg_I r)), (2, .int (rg_I b)), (3, .int (rg_I c)), (4, .int (rg_I x))] rfl (by decide +kernel) (Nat.le_of_ble_eq_true rfl) (fun Γ F hR => ?_)
  refine rg_aload_n F 0 0 rfl dX9_code_0 rfl ?_
  refine rg_iload_n F 1 1 rfl dX9_code_1 rfl ?_
  refine rg_iload_n F 2 2 rfl dX9_code_2 rfl ?_
  refine rg_callVV F [.int (rg_I r), .int (rg_I b)] [] 0 (k_X9_requireRaceOfBoat_o κ σ (r) (b) fl rf (nb) (nr) (h11) (h14) (h1_2) (h2_3) (by first | assumption | omega) (by first | assumption | omega) hk.1.1 hk.1.2 (by first | assumption | omega) (by first | assumption | omega)) tC0 cX9 v_X9_requireRaceOfBoat i_X9_requireRaceOfBoat k_ml_X9_130 ⟨Nat.le_of_ble_eq_true rfl, Nat.le_of_ble_eq_true rfl⟩ rfl (Nat.le_of_ble_eq_true rfl) dX9_code_3 (rg_ex1 ?_)
  refine rg_iload_n F 3 3 rfl dX9_code_6 rfl ?_
  refine rg_if_ne F 20 dX9_code_7 (by decide) (by omega) (fun c7_1 => ?_) (fun c7_1 => ?_)
  ·
    refine rg_iload_n F 3 3 rfl dX9_code_20 rfl ?_
    refine rg_iload F 4 4 rfl dX9_code_21 ?_
    exact rg_callSX F hR [.int (rg_I c), .int (rg_I x)] [] (k_X9_requireEntry_x1 κ rg_tC σ (c) (x) (by first | assumption | omega) (by first | assumption | omega) (by omega)) v_X9_requireEntry k_st_yX9_requireEntry k_ml_X9_134 ⟨Nat.le_of_ble_eq_true rfl, Nat.le_of_ble_eq_true rfl⟩ rfl (Nat.le_of_ble_eq_true rfl) dX9_code_23
  ·
    exact rg_thrS F hR 23 k_str_144 k_tf_IAE dX9_code_10 dX9_code_13 dX9_code_14 dX9_code_16 dX9_code_19 (Nat.le_of_ble_eq_true rfl) (Nat.le_of_ble_eq_true rfl)
set_option maxHeartbeats 400000 in
set_option maxRecDepth 100000 in
/-- protest, refused -/
theorem k_X9_protest_x1 (κ : rg_K) (σ : rg_S) (r b c x : Int) (fl : Nat → Int) (rf : Nat → Int) (nb : Nat) (nr : Nat) (h11 : σ 11 = fl) (h14 : σ 14 = rf) (h1_2 : σ 1 2 = ((nb : Nat) : Int)) (h2_3 : σ 2 3 = ((nr : Nat) : Int)) (hnb : nb ≤ 40) (hnr : nr ≤ 16) (hfl : ∀ j, rg_Rg (fl j)) (hrf : ∀ j, rg_Rg (rf j)) (hrr : rg_Rg r) (hbr : rg_Rg b) (hcr : rg_Rg c) (hxr : rg_Rg x) (hk : ¬ rg_th ((nb : Nat) : Int) ((nr : Nat) : Int) r b) : rg_TX κ rg_tC yX9_protest cX9_protest 5 (some FieldType.int) 9 147 [.ref (κ.2.2.2 0), .int (rg_I r), .int (rg_I b), .int (rg_I c), .int (rg_I x)] σ σ "java/lang/IndexOutOfBoundsException" := by
  refine rg_entX [(0, .ref (κ.2.2.2 0)), (1, .int (rg_I r)), (2, .int (rg_I b)), (3, .int (rg_I c)), (4, .int (rg_I x))] rfl (by decide +kernel) (Nat.le_of_ble_eq_true rfl) (fun Γ F hR => ?_)
  refine rg_aload_n F 0 0 rfl dX9_protest_0 rfl ?_
  refine rg_iload_n F 1 1 rfl dX9_protest_1 rfl ?_
  refine rg_iload_n F 2 2 rfl dX9_protest_2 rfl ?_
  exact rg_callVX F hR [.int (rg_I r), .int (rg_I b)] [] 0 (k_X9_requireRaceOfBoat_x1 κ σ (r) (b) fl rf (nb) (nr) (h11) (h14) (h1_2) (h2_3) (by first | assumption | omega) (by first | assumption | omega) (by first | assumption | omega) (by first | assumption | omega) (by first | assumption | omega) (by first | assumption | omega) (by first | assumption | omega)) tC0 cX9 v_X9_requireRaceOfBoat i_X9_requireRaceOfBoat k_ml_X9_130 ⟨Nat.le_of_ble_eq_true rfl, Nat.le_of_ble_eq_true rfl⟩ rfl (Nat.le_of_ble_eq_true rfl) dX9_protest_3
set_option maxHeartbeats 400000 in
set_option maxRecDepth 100000 in
/-- protest, refused -/
theorem k_X9_protest_x2 (κ : rg_K) (σ : rg_S) (r b c x : Int) (fl : Nat → Int) (rf : Nat → Int) (nb : Nat) (nr : Nat) (h11 : σ 11 = fl) (h14 : σ 14 = rf) (h1_2 : σ 1 2 = ((nb : Nat) : Int)) (h2_3 : σ 2 3 = ((nr : Nat) : Int)) (hnb : nb ≤ 40) (hnr : nr ≤ 16) (hfl : ∀ j, rg_Rg (fl j)) (hrf : ∀ j, rg_Rg (rf j)) (hrr : rg_Rg r) (hbr : rg_Rg b) (hcr : rg_Rg c) (hxr : rg_Rg x) (hk : rg_th ((nb : Nat) : Int) ((nr : Nat) : Int) r b ∧ ¬ (rf (Int.toNat r) = 0 ∨ rf (Int.toNat r) = fl (Int.toNat b))) : rg_TX κ rg_tC yX9_protest cX9_protest 5 (some FieldType.int) 9 147 [.ref (κ.2.2.2 0), .int (rg_I r), .int (rg_I b), .int (rg_I c), .int (rg_I x)] σ σ "java/lang/IllegalStateException" := by
  refine rg_entX [(0, .ref (κ.2.2.2 0)), (1, .int (rg_I r)), (2, .int (rg_I b)), (3, .int (rg_I c)), (4, .int (rg_I x))] rfl (by decide +kernel) (Nat.le_of_ble_eq_true rfl) (fun Γ F hR => ?_)
  refine rg_aload_n F 0 0 rfl dX9_protest_0 rfl ?_
  refine rg_iload_n F 1 1 rfl dX9_protest_1 rfl ?_
  refine rg_iload_n F 2 2 rfl dX9_protest_2 rfl ?_
  exact rg_callVX F hR [.int (rg_I r), .int (rg_I b)] [] 0 (k_X9_requireRaceOfBoat_x2 κ σ (r) (b) fl rf (nb) (nr) (h11) (h14) (h1_2) (h2_3) (by first | assumption | omega) (by first | assumption | omega) (by first | assumption | omega) (by first | assumption | omega) (by first | assumption | omega) (by first | assumption | omega) hk.1 hk.2) tC0 cX9 v_X9_requireRaceOfBoat i_X9_requireRaceOfBoat k_ml_X9_130 ⟨Nat.le_of_ble_eq_true rfl, Nat.le_of_ble_eq_true rfl⟩ rfl (Nat.le_of_ble_eq_true rfl) dX9_protest_3
set_option maxHeartbeats 400000 in
set_option maxRecDepth 100000 in
/-- protest, refused -/
theorem k_X9_protest_x3 (κ : rg_K) (σ : rg_S) (r b c x : Int) (fl : Nat → Int) (rf : Nat → Int) (nb : Nat) (nr : Nat) (h11 : σ 11 = fl) (h14 : σ 14 = rf) (h1_2 : σ 1 2 = ((nb : Nat) : Int)) (h2_3 : σ 2 3 = ((nr : Nat) : Int)) (hnb : nb ≤ 40) (hnr : nr ≤ 16) (hfl : ∀ j, rg_Rg (fl j)) (hrf : ∀ j, rg_Rg (rf j)) (hrr : rg_Rg r) (hbr : rg_Rg b) (hcr : rg_Rg c) (hxr : rg_Rg x) (hk : (rg_th ((nb : Nat) : Int) ((nr : Nat) : Int) r b ∧ (rf (Int.toNat r) = 0 ∨ rf (Int.toNat r) = fl (Int.toNat b))) ∧ ¬ rg_gd c x) : rg_TX κ rg_tC yX9_protest cX9_protest 5 (some FieldType.int) 9 147 [.ref (κ.2.2.2 0), .int (rg_I r), .int (rg_I b), .int (rg_I c), .int (rg_I x)] σ σ "java/lang/IllegalArgumentException" := by
  refine rg_entX [(0, .ref (κ.2.2.2 0)), (1, .int (rg_I r)), (2, .int (rg_I b)), (3, .int (rg_I c)), (4, .int (rg_I x))] rfl (by decide +kernel) (Nat.le_of_ble_eq_true rfl) (fun Γ F hR => ?_)
  refine rg_aload_n F 0 0 rfl dX9_protest_0 rfl ?_
  refine rg_iload_n F 1 1 rfl dX9_protest_1 rfl ?_
  refine rg_iload_n F 2 2 rfl dX9_protest_2 rfl ?_
  refine rg_callVV F [.int (rg_I r), .int (rg_I b)] [] 0 (k_X9_requireRaceOfBoat_o κ σ (r) (b) fl rf (nb) (nr) (h11) (h14) (h1_2) (h2_3) (by first | assumption | omega) (by first | assumption | omega) hk.1.1 hk.1.2 (by first | assumption | omega) (by first | assumption | omega)) tC0 cX9 v_X9_requireRaceOfBoat i_X9_requireRaceOfBoat k_ml_X9_130 ⟨Nat.le_of_ble_eq_true rfl, Nat.le_of_ble_eq_true rfl⟩ rfl (Nat.le_of_ble_eq_true rfl) dX9_protest_3 (rg_ex1 ?_)
  refine rg_iload_n F 3 3 rfl dX9_protest_6 rfl ?_
  refine rg_iload F 4 4 rfl dX9_protest_7 ?_
  exact rg_callSX F hR [.int (rg_I c), .int (rg_I x)] [] (k_X9_requireEntry_x1 κ rg_tC σ (c) (x) (by first | assumption | omega) (by first | assumption | omega) hk.2) v_X9_requireEntry k_st_yX9_requireEntry k_ml_X9_134 ⟨Nat.le_of_ble_eq_true rfl, Nat.le_of_ble_eq_true rfl⟩ rfl (Nat.le_of_ble_eq_true rfl) dX9_protest_9
set_option maxHeartbeats 400000 in
set_option maxRecDepth 100000 in
/-- what, refused -/
theorem k_X9_what_x1 (κ : rg_K) (σ : rg_S) (r b c x : Int) (fl : Nat → Int) (rf : Nat → Int) (nb : Nat) (nr : Nat) (h11 : σ 11 = fl) (h14 : σ 14 = rf) (h1_2 : σ 1 2 = ((nb : Nat) : Int)) (h2_3 : σ 2 3 = ((nr : Nat) : Int)) (hnb : nb ≤ 40) (hnr : nr ≤ 16) (hfl : ∀ j, rg_Rg (fl j)) (hrf : ∀ j, rg_Rg (rf j)) (hrr : rg_Rg r) (hbr : rg_Rg b) (hcr : rg_Rg c) (hxr : rg_Rg x) (hk : ¬ rg_th ((nb : Nat) : Int) ((nr : Nat) : Int) r b) : rg_TX κ rg_tC yX9_what cX9_what 5 (some FieldType.int) 9 147 [.ref (κ.2.2.2 0), .int (rg_I r), .int (rg_I b), .int (rg_I c), .int (rg_I x)] σ σ "java/lang/IndexOutOfBoundsException" := by
  refine rg_entX [(0, .ref (κ.2.2.2 0)), (1, .int (rg_I r)), (2, .int (rg_I b)), (3, .int (rg_I c)), (4, .int (rg_I x))] rfl (by decide +kernel) (Nat.le_of_ble_eq_true rfl) (fun Γ F hR => ?_)
  refine rg_aload_n F 0 0 rfl dX9_what_0 rfl ?_
  refine rg_iload_n F 1 1 rfl dX9_what_1 rfl ?_
  refine rg_iload_n F 2 2 rfl dX9_what_2 rfl ?_
  exact rg_callVX F hR [.int (rg_I r), .int (rg_I b)] [] 0 (k_X9_requireRaceOfBoat_x1 κ σ (r) (b) fl rf (nb) (nr) (h11) (h14) (h1_2) (h2_3) (by first | assumption | omega) (by first | assumption | omega) (by first | assumption | omega) (by first | assumption | omega) (by first | assumption | omega) (by first | assumption | omega) (by first | assumption | omega)) tC0 cX9 v_X9_requireRaceOfBoat i_X9_requireRaceOfBoat k_ml_X9_130 ⟨Nat.le_of_ble_eq_true rfl, Nat.le_of_ble_eq_true rfl⟩ rfl (Nat.le_of_ble_eq_true rfl) dX9_what_3
set_option maxHeartbeats 400000 in
set_option maxRecDepth 100000 in
/-- what, refused -/
theorem k_X9_what_x2 (κ : rg_K) (σ : rg_S) (r b c x : Int) (fl : Nat → Int) (rf : Nat → Int) (nb : Nat) (nr : Nat) (h11 : σ 11 = fl) (h14 : σ 14 = rf) (h1_2 : σ 1 2 = ((nb : Nat) : Int)) (h2_3 : σ 2 3 = ((nr : Nat) : Int)) (hnb : nb ≤ 40) (hnr : nr ≤ 16) (hfl : ∀ j, rg_Rg (fl j)) (hrf : ∀ j, rg_Rg (rf j)) (hrr : rg_Rg r) (hbr : rg_Rg b) (hcr : rg_Rg c) (hxr : rg_Rg x) (hk : rg_th ((nb : Nat) : Int) ((nr : Nat) : Int) r b ∧ ¬ (rf (Int.toNat r) = 0 ∨ rf (Int.toNat r) = fl (Int.toNat b))) : rg_TX κ rg_tC yX9_what cX9_what 5 (some FieldType.int) 9 147 [.ref (κ.2.2.2 0), .int (rg_I r), .int (rg_I b), .int (rg_I c), .int (rg_I x)] σ σ "java/lang/IllegalStateException" := by
  refine rg_entX [(0, .ref (κ.2.2.2 0)), (1, .int (rg_I r)), (2, .int (rg_I b)), (3, .int (rg_I c)), (4, .int (rg_I x))] rfl (by decide +kernel) (Nat.le_of_ble_eq_true rfl) (fun Γ F hR => ?_)
  refine rg_aload_n F 0 0 rfl dX9_what_0 rfl ?_
  refine rg_iload_n F 1 1 rfl dX9_what_1 rfl ?_
  refine rg_iload_n F 2 2 rfl dX9_what_2 rfl ?_
  exact rg_callVX F hR [.int (rg_I r), .int (rg_I b)] [] 0 (k_X9_requireRaceOfBoat_x2 κ σ (r) (b) fl rf (nb) (nr) (h11) (h14) (h1_2) (h2_3) (by first | assumption | omega) (by first | assumption | omega) (by first | assumption | omega) (by first | assumption | omega) (by first | assumption | omega) (by first | assumption | omega) hk.1 hk.2) tC0 cX9 v_X9_requireRaceOfBoat i_X9_requireRaceOfBoat k_ml_X9_130 ⟨Nat.le_of_ble_eq_true rfl, Nat.le_of_ble_eq_true rfl⟩ rfl (Nat.le_of_ble_eq_true rfl) dX9_what_3
set_option maxHeartbeats 400000 in
set_option maxRecDepth 100000 in
/-- what, refused -/
theorem k_X9_what_x3 (κ : rg_K) (σ : rg_S) (r b c x : Int) (fl : Nat → Int) (rf : Nat → Int) (nb : Nat) (nr : Nat) (h11 : σ 11 = fl) (h14 : σ 14 = rf) (h1_2 : σ 1 2 = ((nb : Nat) : Int)) (h2_3 : σ 2 3 = ((nr : Nat) : Int)) (hnb : nb ≤ 40) (hnr : nr ≤ 16) (hfl : ∀ j, rg_Rg (fl j)) (hrf : ∀ j, rg_Rg (rf j)) (hrr : rg_Rg r) (hbr : rg_Rg b) (hcr : rg_Rg c) (hxr : rg_Rg x) (hk : (rg_th ((nb : Nat) : Int) ((nr : Nat) : Int) r b ∧ (rf (Int.toNat r) = 0 ∨ rf (Int.toNat r) = fl (Int.toNat b))) ∧ ¬ rg_gd c x) : rg_TX κ rg_tC yX9_what cX9_what 5 (some FieldType.int) 9 147 [.ref (κ.2.2.2 0), .int (rg_I r), .int (rg_I b), .int (rg_I c), .int (rg_I x)] σ σ "java/lang/IllegalArgumentException" := by
  refine rg_entX [(0, .ref (κ.2.2.2 0)), (1, .int (rg_I r)), (2, .int (rg_I b)), (3, .int (rg_I c)), (4, .int (rg_I x))] rfl (by decide +kernel) (Nat.le_of_ble_eq_true rfl) (fun Γ F hR => ?_)
  refine rg_aload_n F 0 0 rfl dX9_what_0 rfl ?_
  refine rg_iload_n F 1 1 rfl dX9_what_1 rfl ?_
  refine rg_iload_n F 2 2 rfl dX9_what_2 rfl ?_
  refine rg_callVV F [.int (rg_I r), .int (rg_I b)] [] 0 (k_X9_requireRaceOfBoat_o κ σ (r) (b) fl rf (nb) (nr) (h11) (h14) (h1_2) (h2_3) (by first | assumption | omega) (by first | assumption | omega) hk.1.1 hk.1.2 (by first | assumption | omega) (by first | assumption | omega)) tC0 cX9 v_X9_requireRaceOfBoat i_X9_requireRaceOfBoat k_ml_X9_130 ⟨Nat.le_of_ble_eq_true rfl, Nat.le_of_ble_eq_true rfl⟩ rfl (Nat.le_of_ble_eq_true rfl) dX9_what_3 (rg_ex1 ?_)
  refine rg_iload_n F 3 3 rfl dX9_what_6 rfl ?_
  refine rg_iload F 4 4 rfl dX9_what_7 ?_
  exact rg_callSX F hR [.int (rg_I c), .int (rg_I x)] [] (k_X9_requireEntry_x1 κ rg_tC σ (c) (x) (by first | assumption | omega) (by first | assumption | omega) hk.2) v_X9_requireEntry k_st_yX9_requireEntry k_ml_X9_134 ⟨Nat.le_of_ble_eq_true rfl, Nat.le_of_ble_eq_true rfl⟩ rfl (Nat.le_of_ble_eq_true rfl) dX9_what_9
set_option maxHeartbeats 400000 in
set_option maxRecDepth 100000 in
/-- protest, refused -/
theorem k_X9_protest_x4 (κ : rg_K) (σ : rg_S) (r b c x : Int) (fl : Nat → Int) (rf : Nat → Int) (nb : Nat) (nr : Nat) (nd : Nat) (h11 : σ 11 = fl) (h14 : σ 14 = rf) (h1_2 : σ 1 2 = ((nb : Nat) : Int)) (h2_3 : σ 2 3 = ((nr : Nat) : Int)) (h4_4 : σ 4 4 = ((nd : Nat) : Int)) (hnb : nb ≤ 40) (hnr : nr ≤ 16) (hfl : ∀ j, rg_Rg (fl j)) (hrf : ∀ j, rg_Rg (rf j)) (hrr : rg_Rg r) (hbr : rg_Rg b) (hcr : rg_Rg c) (hxr : rg_Rg x) (hk : ((rg_th ((nb : Nat) : Int) ((nr : Nat) : Int) r b ∧ (rf (Int.toNat r) = 0 ∨ rf (Int.toNat r) = fl (Int.toNat b))) ∧ rg_gd c x) ∧ nd = 40) : rg_TX κ rg_tC yX9_protest cX9_protest 5 (some FieldType.int) 9 147 [.ref (κ.2.2.2 0), .int (rg_I r), .int (rg_I b), .int (rg_I c), .int (rg_I x)] σ σ "java/lang/UnsupportedOperationException" := by
  refine rg_entX [(0, .ref (κ.2.2.2 0)), (1, .int (rg_I r)), (2, .int (rg_I b)), (3, .int (rg_I c)), (4, .int (rg_I x))] rfl (by decide +kernel) (Nat.le_of_ble_eq_true rfl) (fun Γ F hR => ?_)
  refine rg_aload_n F 0 0 rfl dX9_protest_0 rfl ?_
  refine rg_iload_n F 1 1 rfl dX9_protest_1 rfl ?_
  refine rg_iload_n F 2 2 rfl dX9_protest_2 rfl ?_
  refine rg_callVV F [.int (rg_I r), .int (rg_I b)] [] 0 (k_X9_requireRaceOfBoat_o κ σ (r) (b) fl rf (nb) (nr) (h11) (h14) (h1_2) (h2_3) (by first | assumption | omega) (by first | assumption | omega) hk.1.1.1 hk.1.1.2 (by first | assumption | omega) (by first | assumption | omega)) tC0 cX9 v_X9_requireRaceOfBoat i_X9_requireRaceOfBoat k_ml_X9_130 ⟨Nat.le_of_ble_eq_true rfl, Nat.le_of_ble_eq_true rfl⟩ rfl (Nat.le_of_ble_eq_true rfl) dX9_protest_3 (rg_ex1 ?_)
  refine rg_iload_n F 3 3 rfl dX9_protest_6 rfl ?_
  refine rg_iload F 4 4 rfl dX9_protest_7 ?_
  refine rg_callSV F [.int (rg_I c), .int (rg_I x)] [] (k_X9_requireEntry_o κ rg_tC σ (c) (x) (by first | assumption | omega) (by first | assumption | omega) hk.1.2) v_X9_requireEntry k_st_yX9_requireEntry k_ml_X9_134 ⟨Nat.le_of_ble_eq_true rfl, Nat.le_of_ble_eq_true rfl⟩ rfl (Nat.le_of_ble_eq_true rfl) dX9_protest_9 (rg_ex1 ?_)
  refine rg_aload_n F 0 0 rfl dX9_protest_12 rfl ?_
  refine rg_get F 0 3 tC0 cX9 k_lays_X9 (by decide) k_fl_X9_33 rfl (v := .ref (κ.2.2.2 4)) rfl dX9_protest_13 ?_
  refine rg_get F 4 4 tC4 cX1 k_lays_X1 (by decide) k_fl_X9_167 rfl (v := .int (rg_I ((nd : Nat) : Int))) (congrArg (fun x => Value.int (rg_I x)) h4_4) dX9_protest_16 ?_
  refine rg_bipush F dX9_protest_19 (by decide +kernel) ?_
  refine rg_icmp_lt F 34 dX9_protest_21 (by decide) (by omega) (by omega) (fun c21_1 => ?_) (fun c21_1 => ?_)
  · exfalso; omega
  ·
    exact rg_thrS F hR 26 k_str_168 k_tf_UOE dX9_protest_24 dX9_protest_27 dX9_protest_28 dX9_protest_30 dX9_protest_33 (Nat.le_of_ble_eq_true rfl) (Nat.le_of_ble_eq_true rfl)
set_option maxHeartbeats 400000 in
set_option maxRecDepth 100000 in
/-- penalty, refused -/
theorem k_X9_penalty_x1 (κ : rg_K) (σ : rg_S) (r b p : Int) (f16 : Nat → Int) (nb : Nat) (nr : Nat) (h16 : σ 16 = f16) (h1_2 : σ 1 2 = ((nb : Nat) : Int)) (h2_3 : σ 2 3 = ((nr : Nat) : Int)) (hnb : nb ≤ 40) (hnr : nr ≤ 16) (hrr : rg_Rg r) (hbr : rg_Rg b) (hpr : rg_Rg p) (hf16 : ∀ j, rg_Rg (f16 j)) (hk : ¬ rg_th ((nb : Nat) : Int) ((nr : Nat) : Int) r b) : rg_TX κ rg_tC yX9_penalty cX9_penalty 4 none 8 125 [.ref (κ.2.2.2 0), .int (rg_I r), .int (rg_I b), .int (rg_I p)] σ σ "java/lang/IndexOutOfBoundsException" := by
  refine rg_entX [(0, .ref (κ.2.2.2 0)), (1, .int (rg_I r)), (2, .int (rg_I b)), (3, .int (rg_I p))] rfl (by decide +kernel) (Nat.le_of_ble_eq_true rfl) (fun Γ F hR => ?_)
  refine rg_aload_n F 0 0 rfl dX9_penalty_0 rfl ?_
  refine rg_iload_n F 1 1 rfl dX9_penalty_1 rfl ?_
  refine rg_iload_n F 2 2 rfl dX9_penalty_2 rfl ?_
  exact rg_callVX F hR [.int (rg_I r), .int (rg_I b)] [] 0 (k_X9_requireRaceAndBoat_x1 κ σ (r) (b) (nb) (nr) (h1_2) (h2_3) (by first | assumption | omega) (by first | assumption | omega) (by first | assumption | omega) (by first | assumption | omega) (by first | assumption | omega)) tC0 cX9 v_X9_requireRaceAndBoat i_X9_requireRaceAndBoat k_ml_X9_146 ⟨Nat.le_of_ble_eq_true rfl, Nat.le_of_ble_eq_true rfl⟩ rfl (Nat.le_of_ble_eq_true rfl) dX9_penalty_3
set_option maxHeartbeats 400000 in
set_option maxRecDepth 100000 in
/-- penalty, refused -/
theorem k_X9_penalty_x2 (κ : rg_K) (σ : rg_S) (r b p : Int) (f16 : Nat → Int) (nb : Nat) (nr : Nat) (h16 : σ 16 = f16) (h1_2 : σ 1 2 = ((nb : Nat) : Int)) (h2_3 : σ 2 3 = ((nr : Nat) : Int)) (hnb : nb ≤ 40) (hnr : nr ≤ 16) (hrr : rg_Rg r) (hbr : rg_Rg b) (hpr : rg_Rg p) (hf16 : ∀ j, rg_Rg (f16 j)) (hk : rg_th ((nb : Nat) : Int) ((nr : Nat) : Int) r b ∧ ¬ f16 (Int.toNat r * 40 + Int.toNat b) = 0) : rg_TX κ rg_tC yX9_penalty cX9_penalty 4 none 8 125 [.ref (κ.2.2.2 0), .int (rg_I r), .int (rg_I b), .int (rg_I p)] σ σ "java/lang/IllegalStateException" := by
  refine rg_entX [(0, .ref (κ.2.2.2 0)), (1, .int (rg_I r)), (2, .int (rg_I b)), (3, .int (rg_I p))] rfl (by decide +kernel) (Nat.le_of_ble_eq_true rfl) (fun Γ F hR => ?_)
  refine rg_aload_n F 0 0 rfl dX9_penalty_0 rfl ?_
  refine rg_iload_n F 1 1 rfl dX9_penalty_1 rfl ?_
  refine rg_iload_n F 2 2 rfl dX9_penalty_2 rfl ?_
  refine rg_callVV F [.int (rg_I r), .int (rg_I b)] [] 0 (k_X9_requireRaceAndBoat_o κ σ (r) (b) (nb) (nr) (h1_2) (h2_3) (by first | assumption | omega) (by first | assumption | omega) hk.1) tC0 cX9 v_X9_requireRaceAndBoat i_X9_requireRaceAndBoat k_ml_X9_146 ⟨Nat.le_of_ble_eq_true rfl, Nat.le_of_ble_eq_true rfl⟩ rfl (Nat.le_of_ble_eq_true rfl) dX9_penalty_3 (rg_ex1 ?_)
  refine rg_aload_n F 0 0 rfl dX9_penalty_6 rfl ?_
  refine rg_get F 0 2 tC0 cX9 k_lays_X9 (by decide) k_fl_X9_26 rfl (v := .ref (κ.2.2.2 3)) rfl dX9_penalty_7 ?_
  refine rg_get F 3 0 tC3 cX2 k_lays_X2 (by decide) k_fl_X9_149 rfl (v := .ref (κ.2.2.2 16)) rfl dX9_penalty_10 ?_
  refine rg_iload_n F 1 1 rfl dX9_penalty_13 rfl ?_
  refine rg_stk (st' := [.int (rg_I ((Int.toNat r : Nat) : Int)), .ref (κ.2.2.2 16)]) (by rw [Int.toNat_of_nonneg (a := r) (by omega)]) ?_
  refine rg_iload_n F 2 2 rfl dX9_penalty_14 rfl ?_
  refine rg_stk (st' := [.int (rg_I ((Int.toNat b : Nat) : Int)), .int (rg_I ((Int.toNat r : Nat) : Int)), .ref (κ.2.2.2 16)]) (by rw [Int.toNat_of_nonneg (a := b) (by omega)]) ?_
  refine rg_callSI F [.int (rg_I ((Int.toNat r : Nat) : Int)), .int (rg_I ((Int.toNat b : Nat) : Int))] [.ref (κ.2.2.2 16)] (k_X9_cell κ rg_tC σ ((Int.toNat r)) ((Int.toNat b))) v_X9_cell k_st_yX9_cell k_ml_X9_137 ⟨Nat.le_of_ble_eq_true rfl, Nat.le_of_ble_eq_true rfl⟩ rfl (Nat.le_of_ble_eq_true rfl) dX9_penalty_15 (rg_ex2 ?_)
  show rg_G κ Γ rg_tC 4 0 0 (15 + 3) [(0, .ref (κ.2.2.2 0)), (1, .int (rg_I r)), (2, .int (rg_I b)), (3, .int (rg_I p))] [.int (rg_I (((Int.toNat r) * 40 + (Int.toNat b) : Nat) : Int)), .ref (κ.2.2.2 16)] σ
  refine rg_iald F 16 ((Int.toNat r) * 40 + (Int.toNat b)) (v := (f16 ((Int.toNat r) * 40 + (Int.toNat b)))) tC16 (by omega) (by omega) (by decide) (congrFun h16 ((Int.toNat r) * 40 + (Int.toNat b))) dX9_penalty_18 ?_
  refine rg_if_eq F 32 dX9_penalty_19 (by decide) (by have b0 := hf16 (((Int.toNat r) * 40 + (Int.toNat b))); omega) (fun c19_1 => ?_) (fun c19_1 => ?_)
  · exfalso; omega
  ·
    exact rg_thrS F hR 24 k_str_153 k_tf_ISE dX9_penalty_22 dX9_penalty_25 dX9_penalty_26 dX9_penalty_28 dX9_penalty_31 (Nat.le_of_ble_eq_true rfl) (Nat.le_of_ble_eq_true rfl)
set_option maxHeartbeats 400000 in
set_option maxRecDepth 100000 in
/-- penalty, refused -/
theorem k_X9_penalty_x3 (κ : rg_K) (σ : rg_S) (r b p : Int) (f16 : Nat → Int) (nb : Nat) (nr : Nat) (h16 : σ 16 = f16) (h1_2 : σ 1 2 = ((nb : Nat) : Int)) (h2_3 : σ 2 3 = ((nr : Nat) : Int)) (hnb : nb ≤ 40) (hnr : nr ≤ 16) (hrr : rg_Rg r) (hbr : rg_Rg b) (hpr : rg_Rg p) (hf16 : ∀ j, rg_Rg (f16 j)) (hk : (rg_th ((nb : Nat) : Int) ((nr : Nat) : Int) r b ∧ f16 (Int.toNat r * 40 + Int.toNat b) = 0) ∧ ¬ (0 ≤ p ∧ p ≤ 100)) : rg_TX κ rg_tC yX9_penalty cX9_penalty 4 none 8 125 [.ref (κ.2.2.2 0), .int (rg_I r), .int (rg_I b), .int (rg_I p)] σ σ "java/lang/IllegalArgumentException" := by
  refine rg_entX [(0, .ref (κ.2.2.2 0)), (1, .int (rg_I r)), (2, .int (rg_I b)), (3, .int (rg_I p))] rfl (by decide +kernel) (Nat.le_of_ble_eq_true rfl) (fun Γ F hR => ?_)
  refine rg_aload_n F 0 0 rfl dX9_penalty_0 rfl ?_
  refine rg_iload_n F 1 1 rfl dX9_penalty_1 rfl ?_
  refine rg_iload_n F 2 2 rfl dX9_penalty_2 rfl ?_
  refine rg_callVV F [.int (rg_I r), .int (rg_I b)] [] 0 (k_X9_requireRaceAndBoat_o κ σ (r) (b) (nb) (nr) (h1_2) (h2_3) (by first | assumption | omega) (by first | assumption | omega) hk.1.1) tC0 cX9 v_X9_requireRaceAndBoat i_X9_requireRaceAndBoat k_ml_X9_146 ⟨Nat.le_of_ble_eq_true rfl, Nat.le_of_ble_eq_true rfl⟩ rfl (Nat.le_of_ble_eq_true rfl) dX9_penalty_3 (rg_ex1 ?_)
  refine rg_aload_n F 0 0 rfl dX9_penalty_6 rfl ?_
  refine rg_get F 0 2 tC0 cX9 k_lays_X9 (by decide) k_fl_X9_26 rfl (v := .ref (κ.2.2.2 3)) rfl dX9_penalty_7 ?_
  refine rg_get F 3 0 tC3 cX2 k_lays_X2 (by decide) k_fl_X9_149 rfl (v := .ref (κ.2.2.2 16)) rfl dX9_penalty_10 ?_
  refine rg_iload_n F 1 1 rfl dX9_penalty_13 rfl ?_
  refine rg_stk (st' := [.int (rg_I ((Int.toNat r : Nat) : Int)), .ref (κ.2.2.2 16)]) (by rw [Int.toNat_of_nonneg (a := r) (by omega)]) ?_
  refine rg_iload_n F 2 2 rfl dX9_penalty_14 rfl ?_
  refine rg_stk (st' := [.int (rg_I ((Int.toNat b : Nat) : Int)), .int (rg_I ((Int.toNat r : Nat) : Int)), .ref (κ.2.2.2 16)]) (by rw [Int.toNat_of_nonneg (a := b) (by omega)]) ?_
  refine rg_callSI F [.int (rg_I ((Int.toNat r : Nat) : Int)), .int (rg_I ((Int.toNat b : Nat) : Int))] [.ref (κ.2.2.2 16)] (k_X9_cell κ rg_tC σ ((Int.toNat r)) ((Int.toNat b))) v_X9_cell k_st_yX9_cell k_ml_X9_137 ⟨Nat.le_of_ble_eq_true rfl, Nat.le_of_ble_eq_true rfl⟩ rfl (Nat.le_of_ble_eq_true rfl) dX9_penalty_15 (rg_ex2 ?_)
  show rg_G κ Γ rg_tC 4 0 0 (15 + 3) [(0, .ref (κ.2.2.2 0)), (1, .int (rg_I r)), (2, .int (rg_I b)), (3, .int (rg_I p))] [.int (rg_I (((Int.toNat r) * 40 + (Int.toNat b) : Nat) : Int)), .ref (κ.2.2.2 16)] σ
  refine rg_iald F 16 ((Int.toNat r) * 40 + (Int.toNat b)) (v := (f16 ((Int.toNat r) * 40 + (Int.toNat b)))) tC16 (by omega) (by omega) (by decide) (congrFun h16 ((Int.toNat r) * 40 + (Int.toNat b))) dX9_penalty_18 ?_
  refine rg_if_eq F 32 dX9_penalty_19 (by decide) (by have b0 := hf16 (((Int.toNat r) * 40 + (Int.toNat b))); omega) (fun c19_1 => ?_) (fun c19_1 => ?_)
  ·
    refine rg_iload_n F 3 3 rfl dX9_penalty_32 rfl ?_
    refine rg_if_lt F 42 dX9_penalty_33 (by decide) (by omega) (fun c33_2 => ?_) (fun c33_2 => ?_)
    ·
      exact rg_thrS F hR 25 k_str_155 k_tf_IAE dX9_penalty_42 dX9_penalty_45 dX9_penalty_46 dX9_penalty_48 dX9_penalty_51 (Nat.le_of_ble_eq_true rfl) (Nat.le_of_ble_eq_true rfl)
    ·
      refine rg_iload_n F 3 3 rfl dX9_penalty_36 rfl ?_
      refine rg_bipush F dX9_penalty_37 (by decide +kernel) ?_
      refine rg_icmp_le F 52 dX9_penalty_39 (by decide) (by omega) (by omega) (fun c39_3 => ?_) (fun c39_3 => ?_)
      · exfalso; omega
      ·
        exact rg_thrS F hR 25 k_str_155 k_tf_IAE dX9_penalty_42 dX9_penalty_45 dX9_penalty_46 dX9_penalty_48 dX9_penalty_51 (Nat.le_of_ble_eq_true rfl) (Nat.le_of_ble_eq_true rfl)
  · exfalso; omega
set_option maxHeartbeats 400000 in
set_option maxRecDepth 100000 in
/-- clear, refused -/
theorem k_X9_clear_x1 (κ : rg_K) (σ : rg_S) (r b : Int) (nb : Nat) (nr : Nat) (h1_2 : σ 1 2 = ((nb : Nat) : Int)) (h2_3 : σ 2 3 = ((nr : Nat) : Int)) (hnb : nb ≤ 40) (hnr : nr ≤ 16) (hrr : rg_Rg r) (hbr : rg_Rg b) (hk : ¬ rg_th ((nb : Nat) : Int) ((nr : Nat) : Int) r b) : rg_TX κ rg_tC yX9_clear cX9_clear 4 (some FieldType.boolean) 8 125 [.ref (κ.2.2.2 0), .int (rg_I r), .int (rg_I b)] σ σ "java/lang/IndexOutOfBoundsException" := by
  refine rg_entX [(0, .ref (κ.2.2.2 0)), (1, .int (rg_I r)), (2, .int (rg_I b))] rfl (by decide +kernel) (Nat.le_of_ble_eq_true rfl) (fun Γ F hR => ?_)
  refine rg_aload_n F 0 0 rfl dX9_clear_0 rfl ?_
  refine rg_iload_n F 1 1 rfl dX9_clear_1 rfl ?_
  refine rg_iload_n F 2 2 rfl dX9_clear_2 rfl ?_
  exact rg_callVX F hR [.int (rg_I r), .int (rg_I b)] [] 0 (k_X9_requireRaceAndBoat_x1 κ σ (r) (b) (nb) (nr) (h1_2) (h2_3) (by first | assumption | omega) (by first | assumption | omega) (by first | assumption | omega) (by first | assumption | omega) (by first | assumption | omega)) tC0 cX9 v_X9_requireRaceAndBoat i_X9_requireRaceAndBoat k_ml_X9_146 ⟨Nat.le_of_ble_eq_true rfl, Nat.le_of_ble_eq_true rfl⟩ rfl (Nat.le_of_ble_eq_true rfl) dX9_clear_3
set_option maxHeartbeats 400000 in
set_option maxRecDepth 100000 in
/-- reopen, refused -/
theorem k_X9_reopen_x1 (κ : rg_K) (σ : rg_S) (d : Int) (ro : Nat → Int) (nd : Nat) (h22 : σ 22 = ro) (h4_4 : σ 4 4 = ((nd : Nat) : Int)) (hnd : nd ≤ 40) (hro : ∀ j, ro j = 0 ∨ ro j = 1) (hdr : rg_Rg d) (hk : ¬ (0 ≤ d ∧ d ≤ ((nd : Nat) : Int) - 1)) : rg_TX κ rg_tC yX9_reopen cX9_reopen 2 none 6 82 [.ref (κ.2.2.2 0), .int (rg_I d)] σ σ "java/lang/IndexOutOfBoundsException" := by
  refine rg_entX [(0, .ref (κ.2.2.2 0)), (1, .int (rg_I d))] rfl (by decide +kernel) (Nat.le_of_ble_eq_true rfl) (fun Γ F hR => ?_)
  refine rg_iload_n F 1 1 rfl dX9_reopen_0 rfl ?_
  refine rg_if_lt F 15 dX9_reopen_1 (by decide) (by omega) (fun c1_1 => ?_) (fun c1_1 => ?_)
  ·
    exact rg_thrS F hR 27 k_str_175 k_tf_IOB dX9_reopen_15 dX9_reopen_18 dX9_reopen_19 dX9_reopen_21 dX9_reopen_24 (Nat.le_of_ble_eq_true rfl) (Nat.le_of_ble_eq_true rfl)
  ·
    refine rg_iload_n F 1 1 rfl dX9_reopen_4 rfl ?_
    refine rg_aload_n F 0 0 rfl dX9_reopen_5 rfl ?_
    refine rg_get F 0 3 tC0 cX9 k_lays_X9 (by decide) k_fl_X9_33 rfl (v := .ref (κ.2.2.2 4)) rfl dX9_reopen_6 ?_
    refine rg_get F 4 4 tC4 cX1 k_lays_X1 (by decide) k_fl_X9_167 rfl (v := .int (rg_I ((nd : Nat) : Int))) (congrArg (fun x => Value.int (rg_I x)) h4_4) dX9_reopen_9 ?_
    refine rg_icmp_lt F 25 dX9_reopen_12 (by decide) (by omega) (by omega) (fun c12_2 => ?_) (fun c12_2 => ?_)
    · exfalso; omega
    ·
      exact rg_thrS F hR 27 k_str_175 k_tf_IOB dX9_reopen_15 dX9_reopen_18 dX9_reopen_19 dX9_reopen_21 dX9_reopen_24 (Nat.le_of_ble_eq_true rfl) (Nat.le_of_ble_eq_true rfl)
set_option maxHeartbeats 400000 in
set_option maxRecDepth 100000 in
/-- reopen, refused -/
theorem k_X9_reopen_x2 (κ : rg_K) (σ : rg_S) (d : Int) (ro : Nat → Int) (nd : Nat) (h22 : σ 22 = ro) (h4_4 : σ 4 4 = ((nd : Nat) : Int)) (hnd : nd ≤ 40) (hro : ∀ j, ro j = 0 ∨ ro j = 1) (hdr : rg_Rg d) (hk : (0 ≤ d ∧ d ≤ ((nd : Nat) : Int) - 1) ∧ ¬ ro (Int.toNat d) = 0) : rg_TX κ rg_tC yX9_reopen cX9_reopen 2 none 6 82 [.ref (κ.2.2.2 0), .int (rg_I d)] σ σ "java/lang/IllegalStateException" := by
  refine rg_entX [(0, .ref (κ.2.2.2 0)), (1, .int (rg_I d))] rfl (by decide +kernel) (Nat.le_of_ble_eq_true rfl) (fun Γ F hR => ?_)
  refine rg_iload_n F 1 1 rfl dX9_reopen_0 rfl ?_
  refine rg_if_lt F 15 dX9_reopen_1 (by decide) (by omega) (fun c1_1 => ?_) (fun c1_1 => ?_)
  · exfalso; omega
  ·
    refine rg_iload_n F 1 1 rfl dX9_reopen_4 rfl ?_
    refine rg_aload_n F 0 0 rfl dX9_reopen_5 rfl ?_
    refine rg_get F 0 3 tC0 cX9 k_lays_X9 (by decide) k_fl_X9_33 rfl (v := .ref (κ.2.2.2 4)) rfl dX9_reopen_6 ?_
    refine rg_get F 4 4 tC4 cX1 k_lays_X1 (by decide) k_fl_X9_167 rfl (v := .int (rg_I ((nd : Nat) : Int))) (congrArg (fun x => Value.int (rg_I x)) h4_4) dX9_reopen_9 ?_
    refine rg_icmp_lt F 25 dX9_reopen_12 (by decide) (by omega) (by omega) (fun c12_2 => ?_) (fun c12_2 => ?_)
    ·
      refine rg_aload_n F 0 0 rfl dX9_reopen_25 rfl ?_
      refine rg_get F 0 3 tC0 cX9 k_lays_X9 (by decide) k_fl_X9_33 rfl (v := .ref (κ.2.2.2 4)) rfl dX9_reopen_26 ?_
      refine rg_get F 4 3 tC4 cX1 k_lays_X1 (by decide) k_fl_X9_178 rfl (v := .ref (κ.2.2.2 22)) rfl dX9_reopen_29 ?_
      refine rg_iload_n F 1 1 rfl dX9_reopen_32 rfl ?_
      refine rg_stk (st' := [.int (rg_I ((Int.toNat d : Nat) : Int)), .ref (κ.2.2.2 22)]) (by rw [Int.toNat_of_nonneg (a := d) (by omega)]) ?_
      refine rg_zald F 22 (Int.toNat d) (v := (ro (Int.toNat d))) tC22 (by omega) (by omega) (by decide) (congrFun h22 (Int.toNat d)) dX9_reopen_33 ?_
      refine rg_if_eq F 47 dX9_reopen_34 (by decide) (by have b0 := hro ((Int.toNat d)); omega) (fun c34_3 => ?_) (fun c34_3 => ?_)
      · exfalso; omega
      ·
        exact rg_thrS F hR 28 k_str_181 k_tf_ISE dX9_reopen_37 dX9_reopen_40 dX9_reopen_41 dX9_reopen_43 dX9_reopen_46 (Nat.le_of_ble_eq_true rfl) (Nat.le_of_ble_eq_true rfl)
    · exfalso; omega
set_option maxHeartbeats 400000 in
set_option maxRecDepth 100000 in
/-- discards, refused -/
theorem k_X9_discards_x1 (κ : rg_K) (σ : rg_S) (m n : Int) (sr : Nat → Int) (sl : Nat → Int) (ns : Nat) (h23 : σ 23 = sr) (h24 : σ 24 = sl) (h5_2 : σ 5 2 = ((ns : Nat) : Int)) (hns : ns ≤ 6) (hsr : ∀ j, rg_Rg (sr j)) (hsl : ∀ j, rg_Rg (sl j)) (hmr : rg_Rg m) (hnr : rg_Rg n) (hk : ¬ (((1 ≤ m ∧ m ≤ 16) ∧ 1 ≤ n ∧ n ≤ 15) ∧ ((ns : Int) = 0 ∨ (sr (ns - 1) < m ∧ sl (ns - 1) < n)))) : rg_TX κ rg_tC yX9_discards cX9_discards 3 none 6 82 [.ref (κ.2.2.2 0), .int (rg_I m), .int (rg_I n)] σ σ "java/lang/IllegalArgumentException" := by
  refine rg_entX [(0, .ref (κ.2.2.2 0)), (1, .int (rg_I m)), (2, .int (rg_I n))] rfl (by decide +kernel) (Nat.le_of_ble_eq_true rfl) (fun Γ F hR => ?_)
  refine rg_iload_n F 1 1 rfl dX9_discards_0 rfl ?_
  refine rg_iconst F dX9_discards_1 ?_
  refine rg_icmp_lt F 22 dX9_discards_2 (by decide) (by omega) (by omega) (fun c2_1 => ?_) (fun c2_1 => ?_)
  ·
    exact rg_thrS F hR 29 k_str_183 k_tf_IAE dX9_discards_22 dX9_discards_25 dX9_discards_26 dX9_discards_28 dX9_discards_31 (Nat.le_of_ble_eq_true rfl) (Nat.le_of_ble_eq_true rfl)
  ·
    refine rg_iload_n F 1 1 rfl dX9_discards_5 rfl ?_
    refine rg_bipush F dX9_discards_6 (by decide +kernel) ?_
    refine rg_icmp_gt F 22 dX9_discards_8 (by decide) (by omega) (by omega) (fun c8_2 => ?_) (fun c8_2 => ?_)
    ·
      exact rg_thrS F hR 29 k_str_183 k_tf_IAE dX9_discards_22 dX9_discards_25 dX9_discards_26 dX9_discards_28 dX9_discards_31 (Nat.le_of_ble_eq_true rfl) (Nat.le_of_ble_eq_true rfl)
    ·
      refine rg_iload_n F 2 2 rfl dX9_discards_11 rfl ?_
      refine rg_iconst F dX9_discards_12 ?_
      refine rg_icmp_lt F 22 dX9_discards_13 (by decide) (by omega) (by omega) (fun c13_3 => ?_) (fun c13_3 => ?_)
      ·
        exact rg_thrS F hR 29 k_str_183 k_tf_IAE dX9_discards_22 dX9_discards_25 dX9_discards_26 dX9_discards_28 dX9_discards_31 (Nat.le_of_ble_eq_true rfl) (Nat.le_of_ble_eq_true rfl)
      ·
        refine rg_iload_n F 2 2 rfl dX9_discards_16 rfl ?_
        refine rg_bipush F dX9_discards_17 (by decide +kernel) ?_
        refine rg_icmp_le F 32 dX9_discards_19 (by decide) (by omega) (by omega) (fun c19_4 => ?_) (fun c19_4 => ?_)
        ·
          refine rg_aload_n F 0 0 rfl dX9_discards_32 rfl ?_
          refine rg_get F 0 4 tC0 cX9 k_lays_X9 (by decide) k_fl_X9_40 rfl (v := .ref (κ.2.2.2 5)) rfl dX9_discards_33 ?_
          refine rg_iload_n F 1 1 rfl dX9_discards_36 rfl ?_
          refine rg_iload_n F 2 2 rfl dX9_discards_37 rfl ?_
          refine rg_callVI F [.int (rg_I m), .int (rg_I n)] [] 5 (k_X8_isAboveLatest κ σ (m) (n) sr sl (ns) (h23) (h24) (h5_2) (by first | assumption | omega) hmr hnr (by first | assumption | omega) (by first | assumption | omega)) tC5 cX8 v_X8_isAboveLatest i_X8_isAboveLatest k_ml_X9_185 ⟨Nat.le_of_ble_eq_true rfl, Nat.le_of_ble_eq_true rfl⟩ rfl (Nat.le_of_ble_eq_true rfl) dX9_discards_38 (rg_ex2 ?_)
          show rg_G κ Γ rg_tC 3 0 0 (38 + 3) [(0, .ref (κ.2.2.2 0)), (1, .int (rg_I m)), (2, .int (rg_I n))] [.int (rg_I (rg_b (ns = 0 ∨ (sr (ns - 1) < m ∧ sl (ns - 1) < n))))] σ
          refine rg_if_ne F 54 dX9_discards_41 (by decide) (by have b0 := rg_b_Rg (ns = 0 ∨ (sr (ns - 1) < m ∧ sl (ns - 1) < n)); omega) (fun c41_5 => ?_) (fun c41_5 => ?_)
          · exact absurd c41_5 (Classical.not_not.mpr ((rg_b_eq0 _).mpr (by omega)))
          ·
            have c41_5 := (rg_b_eq0 _).mp c41_5
            exact rg_thrS F hR 30 k_str_188 k_tf_IAE dX9_discards_44 dX9_discards_47 dX9_discards_48 dX9_discards_50 dX9_discards_53 (Nat.le_of_ble_eq_true rfl) (Nat.le_of_ble_eq_true rfl)
        ·
          exact rg_thrS F hR 29 k_str_183 k_tf_IAE dX9_discards_22 dX9_discards_25 dX9_discards_26 dX9_discards_28 dX9_discards_31 (Nat.le_of_ble_eq_true rfl) (Nat.le_of_ble_eq_true rfl)
set_option maxHeartbeats 400000 in
set_option maxRecDepth 100000 in
/-- discards, refused -/
theorem k_X9_discards_x2 (κ : rg_K) (σ : rg_S) (m n : Int) (sr : Nat → Int) (sl : Nat → Int) (ns : Nat) (h23 : σ 23 = sr) (h24 : σ 24 = sl) (h5_2 : σ 5 2 = ((ns : Nat) : Int)) (hns : ns ≤ 6) (hsr : ∀ j, rg_Rg (sr j)) (hsl : ∀ j, rg_Rg (sl j)) (hmr : rg_Rg m) (hnr : rg_Rg n) (hk : (((1 ≤ m ∧ m ≤ 16) ∧ 1 ≤ n ∧ n ≤ 15) ∧ ((ns : Int) = 0 ∨ (sr (ns - 1) < m ∧ sl (ns - 1) < n))) ∧ ns = 6) : rg_TX κ rg_tC yX9_discards cX9_discards 3 none 6 82 [.ref (κ.2.2.2 0), .int (rg_I m), .int (rg_I n)] σ σ "java/lang/UnsupportedOperationException" := by
  refine rg_entX [(0, .ref (κ.2.2.2 0)), (1, .int (rg_I m)), (2, .int (rg_I n))] rfl (by decide +kernel) (Nat.le_of_ble_eq_true rfl) (fun Γ F hR => ?_)
  refine rg_iload_n F 1 1 rfl dX9_discards_0 rfl ?_
  refine rg_iconst F dX9_discards_1 ?_
  refine rg_icmp_lt F 22 dX9_discards_2 (by decide) (by omega) (by omega) (fun c2_1 => ?_) (fun c2_1 => ?_)
  · exfalso; omega
  ·
    refine rg_iload_n F 1 1 rfl dX9_discards_5 rfl ?_
    refine rg_bipush F dX9_discards_6 (by decide +kernel) ?_
    refine rg_icmp_gt F 22 dX9_discards_8 (by decide) (by omega) (by omega) (fun c8_2 => ?_) (fun c8_2 => ?_)
    · exfalso; omega
    ·
      refine rg_iload_n F 2 2 rfl dX9_discards_11 rfl ?_
      refine rg_iconst F dX9_discards_12 ?_
      refine rg_icmp_lt F 22 dX9_discards_13 (by decide) (by omega) (by omega) (fun c13_3 => ?_) (fun c13_3 => ?_)
      · exfalso; omega
      ·
        refine rg_iload_n F 2 2 rfl dX9_discards_16 rfl ?_
        refine rg_bipush F dX9_discards_17 (by decide +kernel) ?_
        refine rg_icmp_le F 32 dX9_discards_19 (by decide) (by omega) (by omega) (fun c19_4 => ?_) (fun c19_4 => ?_)
        ·
          refine rg_aload_n F 0 0 rfl dX9_discards_32 rfl ?_
          refine rg_get F 0 4 tC0 cX9 k_lays_X9 (by decide) k_fl_X9_40 rfl (v := .ref (κ.2.2.2 5)) rfl dX9_discards_33 ?_
          refine rg_iload_n F 1 1 rfl dX9_discards_36 rfl ?_
          refine rg_iload_n F 2 2 rfl dX9_discards_37 rfl ?_
          refine rg_callVI F [.int (rg_I m), .int (rg_I n)] [] 5 (k_X8_isAboveLatest κ σ (m) (n) sr sl (ns) (h23) (h24) (h5_2) (by first | assumption | omega) hmr hnr (by first | assumption | omega) (by first | assumption | omega)) tC5 cX8 v_X8_isAboveLatest i_X8_isAboveLatest k_ml_X9_185 ⟨Nat.le_of_ble_eq_true rfl, Nat.le_of_ble_eq_true rfl⟩ rfl (Nat.le_of_ble_eq_true rfl) dX9_discards_38 (rg_ex2 ?_)
          show rg_G κ Γ rg_tC 3 0 0 (38 + 3) [(0, .ref (κ.2.2.2 0)), (1, .int (rg_I m)), (2, .int (rg_I n))] [.int (rg_I (rg_b (ns = 0 ∨ (sr (ns - 1) < m ∧ sl (ns - 1) < n))))] σ
          refine rg_if_ne F 54 dX9_discards_41 (by decide) (by have b0 := rg_b_Rg (ns = 0 ∨ (sr (ns - 1) < m ∧ sl (ns - 1) < n)); omega) (fun c41_5 => ?_) (fun c41_5 => ?_)
          ·
            have c41_5 := (rg_b_ne0 _).mp c41_5
            refine rg_aload_n F 0 0 rfl dX9_discards_54 rfl ?_
            refine rg_get F 0 4 tC0 cX9 k_lays_X9 (by decide) k_fl_X9_40 rfl (v := .ref (κ.2.2.2 5)) rfl dX9_discards_55 ?_
            refine rg_get F 5 2 tC5 cX8 k_lays_X8 (by decide) k_fl_X9_190 rfl (v := .int (rg_I ((ns : Nat) : Int))) (congrArg (fun x => Value.int (rg_I x)) h5_2) dX9_discards_58 ?_
            refine rg_bipush F dX9_discards_61 (by decide +kernel) ?_
            refine rg_icmp_lt F 76 dX9_discards_63 (by decide) (by omega) (by omega) (fun c63_6 => ?_) (fun c63_6 => ?_)
            · exfalso; omega
            ·
              exact rg_thrS F hR 31 k_str_191 k_tf_UOE dX9_discards_66 dX9_discards_69 dX9_discards_70 dX9_discards_72 dX9_discards_75 (Nat.le_of_ble_eq_true rfl) (Nat.le_of_ble_eq_true rfl)
          · exact absurd c41_5 ((rg_b_ne0 _).mpr (by omega))
        · exfalso; omega
set_option maxHeartbeats 400000 in
set_option maxRecDepth 100000 in
/-- lot, refused -/
theorem k_X9_lot_x1 (κ : rg_K) (σ : rg_S) (b x : Int) (nb : Nat) (h1_2 : σ 1 2 = ((nb : Nat) : Int)) (hnb : nb ≤ 40) (hbr : rg_Rg b) (hxr : rg_Rg x) (hk : ¬ (0 ≤ b ∧ b ≤ ((nb : Nat) : Int) - 1)) : rg_TX κ rg_tC yX9_lot cX9_lot 4 (some FieldType.int) 7 103 [.ref (κ.2.2.2 0), .int (rg_I b), .int (rg_I x)] σ σ "java/lang/IndexOutOfBoundsException" := by
  refine rg_entX [(0, .ref (κ.2.2.2 0)), (1, .int (rg_I b)), (2, .int (rg_I x))] rfl (by decide +kernel) (Nat.le_of_ble_eq_true rfl) (fun Γ F hR => ?_)
  refine rg_aload_n F 0 0 rfl dX9_lot_0 rfl ?_
  refine rg_iload_n F 1 1 rfl dX9_lot_1 rfl ?_
  exact rg_callVX F hR [.int (rg_I b)] [] 0 (k_X9_requireBoat_x1 κ σ (b) (nb) (h1_2) (by first | assumption | omega) (by first | assumption | omega) (by first | assumption | omega)) tC0 cX9 v_X9_requireBoat i_X9_requireBoat k_ml_X9_195 ⟨Nat.le_of_ble_eq_true rfl, Nat.le_of_ble_eq_true rfl⟩ rfl (Nat.le_of_ble_eq_true rfl) dX9_lot_2
set_option maxHeartbeats 400000 in
set_option maxRecDepth 100000 in
/-- lot, refused -/
theorem k_X9_lot_x2 (κ : rg_K) (σ : rg_S) (b x : Int) (nb : Nat) (h1_2 : σ 1 2 = ((nb : Nat) : Int)) (hnb : nb ≤ 40) (hbr : rg_Rg b) (hxr : rg_Rg x) (hk : (0 ≤ b ∧ b ≤ ((nb : Nat) : Int) - 1) ∧ ¬ (0 ≤ x ∧ x ≤ 999)) : rg_TX κ rg_tC yX9_lot cX9_lot 4 (some FieldType.int) 7 103 [.ref (κ.2.2.2 0), .int (rg_I b), .int (rg_I x)] σ σ "java/lang/IllegalArgumentException" := by
  refine rg_entX [(0, .ref (κ.2.2.2 0)), (1, .int (rg_I b)), (2, .int (rg_I x))] rfl (by decide +kernel) (Nat.le_of_ble_eq_true rfl) (fun Γ F hR => ?_)
  refine rg_aload_n F 0 0 rfl dX9_lot_0 rfl ?_
  refine rg_iload_n F 1 1 rfl dX9_lot_1 rfl ?_
  refine rg_callVV F [.int (rg_I b)] [] 0 (k_X9_requireBoat_o κ σ (b) (nb) (h1_2) (by first | assumption | omega) hk.1) tC0 cX9 v_X9_requireBoat i_X9_requireBoat k_ml_X9_195 ⟨Nat.le_of_ble_eq_true rfl, Nat.le_of_ble_eq_true rfl⟩ rfl (Nat.le_of_ble_eq_true rfl) dX9_lot_2 (rg_ex1 ?_)
  refine rg_iload_n F 2 2 rfl dX9_lot_5 rfl ?_
  refine rg_if_lt F 16 dX9_lot_6 (by decide) (by omega) (fun c6_1 => ?_) (fun c6_1 => ?_)
  ·
    exact rg_thrS F hR 32 k_str_198 k_tf_IAE dX9_lot_16 dX9_lot_19 dX9_lot_20 dX9_lot_22 dX9_lot_25 (Nat.le_of_ble_eq_true rfl) (Nat.le_of_ble_eq_true rfl)
  ·
    refine rg_iload_n F 2 2 rfl dX9_lot_9 rfl ?_
    refine rg_sipush F dX9_lot_10 (by decide +kernel) ?_
    refine rg_icmp_le F 26 dX9_lot_13 (by decide) (by omega) (by omega) (fun c13_2 => ?_) (fun c13_2 => ?_)
    · exfalso; omega
    ·
      exact rg_thrS F hR 32 k_str_198 k_tf_IAE dX9_lot_16 dX9_lot_19 dX9_lot_20 dX9_lot_22 dX9_lot_25 (Nat.le_of_ble_eq_true rfl) (Nat.le_of_ble_eq_true rfl)
set_option maxHeartbeats 400000 in
set_option maxRecDepth 100000 in
/-- net, refused -/
theorem k_X9_net_x1 (κ : rg_K) (σ : rg_S) (b : Int) (nb : Nat) (h1_2 : σ 1 2 = ((nb : Nat) : Int)) (hnb : nb ≤ 40) (hbr : rg_Rg b) (hk : ¬ (0 ≤ b ∧ b ≤ ((nb : Nat) : Int) - 1)) : rg_TX κ rg_tC yX9_net cX9_net 2 (some FieldType.int) 7 132 [.ref (κ.2.2.2 0), .int (rg_I b)] σ σ "java/lang/IndexOutOfBoundsException" := by
  refine rg_entX [(0, .ref (κ.2.2.2 0)), (1, .int (rg_I b))] rfl (by decide +kernel) (Nat.le_of_ble_eq_true rfl) (fun Γ F hR => ?_)
  refine rg_aload_n F 0 0 rfl dX9_net_0 rfl ?_
  refine rg_iload_n F 1 1 rfl dX9_net_1 rfl ?_
  exact rg_callVX F hR [.int (rg_I b)] [] 0 (k_X9_requireBoat_x1 κ σ (b) (nb) (h1_2) (by first | assumption | omega) (by first | assumption | omega) (by first | assumption | omega)) tC0 cX9 v_X9_requireBoat i_X9_requireBoat k_ml_X9_195 ⟨Nat.le_of_ble_eq_true rfl, Nat.le_of_ble_eq_true rfl⟩ rfl (Nat.le_of_ble_eq_true rfl) dX9_net_2
set_option maxHeartbeats 400000 in
set_option maxRecDepth 100000 in
/-- gross, refused -/
theorem k_X9_gross_x1 (κ : rg_K) (σ : rg_S) (b : Int) (nb : Nat) (h1_2 : σ 1 2 = ((nb : Nat) : Int)) (hnb : nb ≤ 40) (hbr : rg_Rg b) (hk : ¬ (0 ≤ b ∧ b ≤ ((nb : Nat) : Int) - 1)) : rg_TX κ rg_tC yX9_gross cX9_gross 2 (some FieldType.int) 7 132 [.ref (κ.2.2.2 0), .int (rg_I b)] σ σ "java/lang/IndexOutOfBoundsException" := by
  refine rg_entX [(0, .ref (κ.2.2.2 0)), (1, .int (rg_I b))] rfl (by decide +kernel) (Nat.le_of_ble_eq_true rfl) (fun Γ F hR => ?_)
  refine rg_aload_n F 0 0 rfl dX9_gross_0 rfl ?_
  refine rg_iload_n F 1 1 rfl dX9_gross_1 rfl ?_
  exact rg_callVX F hR [.int (rg_I b)] [] 0 (k_X9_requireBoat_x1 κ σ (b) (nb) (h1_2) (by first | assumption | omega) (by first | assumption | omega) (by first | assumption | omega)) tC0 cX9 v_X9_requireBoat i_X9_requireBoat k_ml_X9_195 ⟨Nat.le_of_ble_eq_true rfl, Nat.le_of_ble_eq_true rfl⟩ rfl (Nat.le_of_ble_eq_true rfl) dX9_gross_2
set_option maxHeartbeats 400000 in
set_option maxRecDepth 100000 in
/-- mean, refused -/
theorem k_X9_mean_x1 (κ : rg_K) (σ : rg_S) (b : Int) (nb : Nat) (h1_2 : σ 1 2 = ((nb : Nat) : Int)) (hnb : nb ≤ 40) (hbr : rg_Rg b) (hk : ¬ (0 ≤ b ∧ b ≤ ((nb : Nat) : Int) - 1)) : rg_TX κ rg_tC yX9_mean cX9_mean 3 (some FieldType.double) 7 132 [.ref (κ.2.2.2 0), .int (rg_I b)] σ σ "java/lang/IndexOutOfBoundsException" := by
  refine rg_entX [(0, .ref (κ.2.2.2 0)), (1, .int (rg_I b))] rfl (by decide +kernel) (Nat.le_of_ble_eq_true rfl) (fun Γ F hR => ?_)
  refine rg_aload_n F 0 0 rfl dX9_mean_0 rfl ?_
  refine rg_iload_n F 1 1 rfl dX9_mean_1 rfl ?_
  exact rg_callVX F hR [.int (rg_I b)] [] 0 (k_X9_requireBoat_x1 κ σ (b) (nb) (h1_2) (by first | assumption | omega) (by first | assumption | omega) (by first | assumption | omega)) tC0 cX9 v_X9_requireBoat i_X9_requireBoat k_ml_X9_195 ⟨Nat.le_of_ble_eq_true rfl, Nat.le_of_ble_eq_true rfl⟩ rfl (Nat.le_of_ble_eq_true rfl) dX9_mean_2
set_option maxHeartbeats 400000 in
set_option maxRecDepth 100000 in
/-- rank, refused -/
theorem k_X9_rank_x1 (κ : rg_K) (σ : rg_S) (b : Int) (nb : Nat) (h1_2 : σ 1 2 = ((nb : Nat) : Int)) (hnb : nb ≤ 40) (hbr : rg_Rg b) (hk : ¬ (0 ≤ b ∧ b ≤ ((nb : Nat) : Int) - 1)) : rg_TX κ rg_tC yX9_rank cX9_rank 2 (some FieldType.int) 7 132 [.ref (κ.2.2.2 0), .int (rg_I b)] σ σ "java/lang/IndexOutOfBoundsException" := by
  refine rg_entX [(0, .ref (κ.2.2.2 0)), (1, .int (rg_I b))] rfl (by decide +kernel) (Nat.le_of_ble_eq_true rfl) (fun Γ F hR => ?_)
  refine rg_aload_n F 0 0 rfl dX9_rank_0 rfl ?_
  refine rg_iload_n F 1 1 rfl dX9_rank_1 rfl ?_
  exact rg_callVX F hR [.int (rg_I b)] [] 0 (k_X9_requireBoat_x1 κ σ (b) (nb) (h1_2) (by first | assumption | omega) (by first | assumption | omega) (by first | assumption | omega)) tC0 cX9 v_X9_requireBoat i_X9_requireBoat k_ml_X9_195 ⟨Nat.le_of_ble_eq_true rfl, Nat.le_of_ble_eq_true rfl⟩ rfl (Nat.le_of_ble_eq_true rfl) dX9_rank_2
set_option maxHeartbeats 400000 in
set_option maxRecDepth 100000 in
/-- points, refused -/
theorem k_X9_points_x1 (κ : rg_K) (σ : rg_S) (r b : Int) (nb : Nat) (nr : Nat) (h1_2 : σ 1 2 = ((nb : Nat) : Int)) (h2_3 : σ 2 3 = ((nr : Nat) : Int)) (hnb : nb ≤ 40) (hnr : nr ≤ 16) (hrr : rg_Rg r) (hbr : rg_Rg b) (hk : ¬ rg_th ((nb : Nat) : Int) ((nr : Nat) : Int) r b) : rg_TX κ rg_tC yX9_points cX9_points 3 (some FieldType.int) 8 132 [.ref (κ.2.2.2 0), .int (rg_I r), .int (rg_I b)] σ σ "java/lang/IndexOutOfBoundsException" := by
  refine rg_entX [(0, .ref (κ.2.2.2 0)), (1, .int (rg_I r)), (2, .int (rg_I b))] rfl (by decide +kernel) (Nat.le_of_ble_eq_true rfl) (fun Γ F hR => ?_)
  refine rg_aload_n F 0 0 rfl dX9_points_0 rfl ?_
  refine rg_iload_n F 1 1 rfl dX9_points_1 rfl ?_
  refine rg_iload_n F 2 2 rfl dX9_points_2 rfl ?_
  exact rg_callVX F hR [.int (rg_I r), .int (rg_I b)] [] 0 (k_X9_requireRaceAndBoat_x1 κ σ (r) (b) (nb) (nr) (h1_2) (h2_3) (by first | assumption | omega) (by first | assumption | omega) (by first | assumption | omega) (by first | assumption | omega) (by first | assumption | omega)) tC0 cX9 v_X9_requireRaceAndBoat i_X9_requireRaceAndBoat k_ml_X9_146 ⟨Nat.le_of_ble_eq_true rfl, Nat.le_of_ble_eq_true rfl⟩ rfl (Nat.le_of_ble_eq_true rfl) dX9_points_3
set_option maxHeartbeats 400000 in
set_option maxRecDepth 100000 in
/-- isDiscard, refused -/
theorem k_X9_isDiscard_x1 (κ : rg_K) (σ : rg_S) (r b : Int) (nb : Nat) (nr : Nat) (h1_2 : σ 1 2 = ((nb : Nat) : Int)) (h2_3 : σ 2 3 = ((nr : Nat) : Int)) (hnb : nb ≤ 40) (hnr : nr ≤ 16) (hrr : rg_Rg r) (hbr : rg_Rg b) (hk : ¬ rg_th ((nb : Nat) : Int) ((nr : Nat) : Int) r b) : rg_TX κ rg_tC yX9_isDiscard cX9_isDiscard 3 (some FieldType.boolean) 8 132 [.ref (κ.2.2.2 0), .int (rg_I r), .int (rg_I b)] σ σ "java/lang/IndexOutOfBoundsException" := by
  refine rg_entX [(0, .ref (κ.2.2.2 0)), (1, .int (rg_I r)), (2, .int (rg_I b))] rfl (by decide +kernel) (Nat.le_of_ble_eq_true rfl) (fun Γ F hR => ?_)
  refine rg_aload_n F 0 0 rfl dX9_isDiscard_0 rfl ?_
  refine rg_iload_n F 1 1 rfl dX9_isDiscard_1 rfl ?_
  refine rg_iload_n F 2 2 rfl dX9_isDiscard_2 rfl ?_
  exact rg_callVX F hR [.int (rg_I r), .int (rg_I b)] [] 0 (k_X9_requireRaceAndBoat_x1 κ σ (r) (b) (nb) (nr) (h1_2) (h2_3) (by first | assumption | omega) (by first | assumption | omega) (by first | assumption | omega) (by first | assumption | omega) (by first | assumption | omega)) tC0 cX9 v_X9_requireRaceAndBoat i_X9_requireRaceAndBoat k_ml_X9_146 ⟨Nat.le_of_ble_eq_true rfl, Nat.le_of_ble_eq_true rfl⟩ rfl (Nat.le_of_ble_eq_true rfl) dX9_isDiscard_3
set_option maxHeartbeats 400000 in
set_option maxRecDepth 100000 in
/-- missing, refused -/
theorem k_X9_missing_x1 (κ : rg_K) (σ : rg_S) (r k : Int) (nr : Nat) (h2_3 : σ 2 3 = ((nr : Nat) : Int)) (hnr : nr ≤ 16) (hrr : rg_Rg r) (hkr : rg_Rg k) (hk : ¬ (0 ≤ r ∧ r ≤ ((nr : Nat) : Int) - 1)) : rg_TX κ rg_tC yX9_missing cX9_missing 5 (some FieldType.int) 7 132 [.ref (κ.2.2.2 0), .int (rg_I r), .int (rg_I k)] σ σ "java/lang/IndexOutOfBoundsException" := by
  refine rg_entX [(0, .ref (κ.2.2.2 0)), (1, .int (rg_I r)), (2, .int (rg_I k))] rfl (by decide +kernel) (Nat.le_of_ble_eq_true rfl) (fun Γ F hR => ?_)
  refine rg_aload_n F 0 0 rfl dX9_missing_0 rfl ?_
  refine rg_iload_n F 1 1 rfl dX9_missing_1 rfl ?_
  exact rg_callVX F hR [.int (rg_I r)] [] 0 (k_X9_requireRace_x1 κ σ (r) (nr) (h2_3) (by first | assumption | omega) (by first | assumption | omega) (by first | assumption | omega)) tC0 cX9 v_X9_requireRace i_X9_requireRace k_ml_X9_122 ⟨Nat.le_of_ble_eq_true rfl, Nat.le_of_ble_eq_true rfl⟩ rfl (Nat.le_of_ble_eq_true rfl) dX9_missing_2
set_option maxHeartbeats 400000 in
set_option maxRecDepth 100000 in
/-- at, refused -/
theorem k_X9_at_x1 (κ : rg_K) (σ : rg_S) (x : Int) (nb : Nat) (h1_2 : σ 1 2 = ((nb : Nat) : Int)) (hnb : nb ≤ 40) (hxr : rg_Rg x) (hk : ¬ (1 ≤ x ∧ x ≤ ((nb : Nat) : Int))) : rg_TX κ rg_tC yX9_at cX9_at 2 (some FieldType.int) 6 132 [.ref (κ.2.2.2 0), .int (rg_I x)] σ σ "java/lang/IndexOutOfBoundsException" := by
  refine rg_entX [(0, .ref (κ.2.2.2 0)), (1, .int (rg_I x))] rfl (by decide +kernel) (Nat.le_of_ble_eq_true rfl) (fun Γ F hR => ?_)
  refine rg_iload_n F 1 1 rfl dX9_at_0 rfl ?_
  refine rg_iconst F dX9_at_1 ?_
  refine rg_icmp_lt F 16 dX9_at_2 (by decide) (by omega) (by omega) (fun c2_1 => ?_) (fun c2_1 => ?_)
  ·
    exact rg_thrS F hR 35 k_str_242 k_tf_IOB dX9_at_16 dX9_at_19 dX9_at_20 dX9_at_22 dX9_at_25 (Nat.le_of_ble_eq_true rfl) (Nat.le_of_ble_eq_true rfl)
  ·
    refine rg_iload_n F 1 1 rfl dX9_at_5 rfl ?_
    refine rg_aload_n F 0 0 rfl dX9_at_6 rfl ?_
    refine rg_get F 0 0 tC0 cX9 k_lays_X9 (by decide) k_fl_X9_12 rfl (v := .ref (κ.2.2.2 1)) rfl dX9_at_7 ?_
    refine rg_get F 1 2 tC1 cX0 k_lays_X0 (by decide) k_fl_X9_92 rfl (v := .int (rg_I ((nb : Nat) : Int))) (congrArg (fun x => Value.int (rg_I x)) h1_2) dX9_at_10 ?_
    refine rg_icmp_le F 26 dX9_at_13 (by decide) (by omega) (by omega) (fun c13_2 => ?_) (fun c13_2 => ?_)
    · exfalso; omega
    ·
      exact rg_thrS F hR 35 k_str_242 k_tf_IOB dX9_at_16 dX9_at_19 dX9_at_20 dX9_at_22 dX9_at_25 (Nat.le_of_ble_eq_true rfl) (Nat.le_of_ble_eq_true rfl)
set_option maxHeartbeats 400000 in
set_option maxRecDepth 100000 in
/-- tie, refused -/
theorem k_X9_tie_x1 (κ : rg_K) (σ : rg_S) (a b : Int) (nb : Nat) (h1_2 : σ 1 2 = ((nb : Nat) : Int)) (hnb : nb ≤ 40) (har : rg_Rg a) (hbr : rg_Rg b) (hk : ¬ ((0 ≤ a ∧ a ≤ ((nb : Nat) : Int) - 1) ∧ 0 ≤ b ∧ b ≤ ((nb : Nat) : Int) - 1)) : rg_TX κ rg_tC yX9_tie cX9_tie 3 (some FieldType.int) 7 132 [.ref (κ.2.2.2 0), .int (rg_I a), .int (rg_I b)] σ σ "java/lang/IndexOutOfBoundsException" := by
  refine rg_entX [(0, .ref (κ.2.2.2 0)), (1, .int (rg_I a)), (2, .int (rg_I b))] rfl (by decide +kernel) (Nat.le_of_ble_eq_true rfl) (fun Γ F hR => ?_)
  refine rg_aload_n F 0 0 rfl dX9_tie_0 rfl ?_
  refine rg_iload_n F 1 1 rfl dX9_tie_1 rfl ?_
  by_cases hs2 : 0 ≤ a ∧ a ≤ ((nb : Nat) : Int) - 1
  ·
    refine rg_callVV F [.int (rg_I a)] [] 0 (k_X9_requireBoat_o κ σ (a) (nb) (h1_2) (by first | assumption | omega) (by omega)) tC0 cX9 v_X9_requireBoat i_X9_requireBoat k_ml_X9_195 ⟨Nat.le_of_ble_eq_true rfl, Nat.le_of_ble_eq_true rfl⟩ rfl (Nat.le_of_ble_eq_true rfl) dX9_tie_2 (rg_ex1 ?_)
    refine rg_aload_n F 0 0 rfl dX9_tie_5 rfl ?_
    refine rg_iload_n F 2 2 rfl dX9_tie_6 rfl ?_
    exact rg_callVX F hR [.int (rg_I b)] [] 0 (k_X9_requireBoat_x1 κ σ (b) (nb) (h1_2) (by first | assumption | omega) (by first | assumption | omega) (by omega)) tC0 cX9 v_X9_requireBoat i_X9_requireBoat k_ml_X9_195 ⟨Nat.le_of_ble_eq_true rfl, Nat.le_of_ble_eq_true rfl⟩ rfl (Nat.le_of_ble_eq_true rfl) dX9_tie_7
  ·
    exact rg_callVX F hR [.int (rg_I a)] [] 0 (k_X9_requireBoat_x1 κ σ (a) (nb) (h1_2) (by first | assumption | omega) (by first | assumption | omega) (by omega)) tC0 cX9 v_X9_requireBoat i_X9_requireBoat k_ml_X9_195 ⟨Nat.le_of_ble_eq_true rfl, Nat.le_of_ble_eq_true rfl⟩ rfl (Nat.le_of_ble_eq_true rfl) dX9_tie_2
set_option maxHeartbeats 400000 in
set_option maxRecDepth 100000 in
/-- tie, refused -/
theorem k_X9_tie_x2 (κ : rg_K) (σ : rg_S) (a b : Int) (nb : Nat) (h1_2 : σ 1 2 = ((nb : Nat) : Int)) (hnb : nb ≤ 40) (har : rg_Rg a) (hbr : rg_Rg b) (hk : ((0 ≤ a ∧ a ≤ ((nb : Nat) : Int) - 1) ∧ 0 ≤ b ∧ b ≤ ((nb : Nat) : Int) - 1) ∧ a = b) : rg_TX κ rg_tC yX9_tie cX9_tie 3 (some FieldType.int) 7 132 [.ref (κ.2.2.2 0), .int (rg_I a), .int (rg_I b)] σ σ "java/lang/IllegalArgumentException" := by
  refine rg_entX [(0, .ref (κ.2.2.2 0)), (1, .int (rg_I a)), (2, .int (rg_I b))] rfl (by decide +kernel) (Nat.le_of_ble_eq_true rfl) (fun Γ F hR => ?_)
  refine rg_aload_n F 0 0 rfl dX9_tie_0 rfl ?_
  refine rg_iload_n F 1 1 rfl dX9_tie_1 rfl ?_
  refine rg_callVV F [.int (rg_I a)] [] 0 (k_X9_requireBoat_o κ σ (a) (nb) (h1_2) (by first | assumption | omega) (by omega)) tC0 cX9 v_X9_requireBoat i_X9_requireBoat k_ml_X9_195 ⟨Nat.le_of_ble_eq_true rfl, Nat.le_of_ble_eq_true rfl⟩ rfl (Nat.le_of_ble_eq_true rfl) dX9_tie_2 (rg_ex1 ?_)
  refine rg_aload_n F 0 0 rfl dX9_tie_5 rfl ?_
  refine rg_iload_n F 2 2 rfl dX9_tie_6 rfl ?_
  refine rg_callVV F [.int (rg_I b)] [] 0 (k_X9_requireBoat_o κ σ (b) (nb) (h1_2) (by first | assumption | omega) (by omega)) tC0 cX9 v_X9_requireBoat i_X9_requireBoat k_ml_X9_195 ⟨Nat.le_of_ble_eq_true rfl, Nat.le_of_ble_eq_true rfl⟩ rfl (Nat.le_of_ble_eq_true rfl) dX9_tie_7 (rg_ex1 ?_)
  refine rg_iload_n F 1 1 rfl dX9_tie_10 rfl ?_
  refine rg_iload_n F 2 2 rfl dX9_tie_11 rfl ?_
  refine rg_icmp_ne F 25 dX9_tie_12 (by decide) (by omega) (by omega) (fun c12_1 => ?_) (fun c12_1 => ?_)
  · exfalso; omega
  ·
    exact rg_thrS F hR 36 k_str_244 k_tf_IAE dX9_tie_15 dX9_tie_18 dX9_tie_19 dX9_tie_21 dX9_tie_24 (Nat.le_of_ble_eq_true rfl) (Nat.le_of_ble_eq_true rfl)
set_option maxHeartbeats 400000 in
set_option maxRecDepth 100000 in
/-- told, refused -/
theorem k_X9_told_x1 (κ : rg_K) (σ : rg_S) (b w : Int) (nb : Nat) (h1_2 : σ 1 2 = ((nb : Nat) : Int)) (hnb : nb ≤ 40) (hbr : rg_Rg b) (hwr : rg_Rg w) (hk : ¬ (0 ≤ b ∧ b ≤ ((nb : Nat) : Int) - 1)) : rg_TX κ rg_tC yX9_told cX9_told 3 (some FieldType.int) 7 132 [.ref (κ.2.2.2 0), .int (rg_I b), .int (rg_I w)] σ σ "java/lang/IndexOutOfBoundsException" := by
  refine rg_entX [(0, .ref (κ.2.2.2 0)), (1, .int (rg_I b)), (2, .int (rg_I w))] rfl (by decide +kernel) (Nat.le_of_ble_eq_true rfl) (fun Γ F hR => ?_)
  refine rg_aload_n F 0 0 rfl dX9_told_0 rfl ?_
  refine rg_iload_n F 1 1 rfl dX9_told_1 rfl ?_
  exact rg_callVX F hR [.int (rg_I b)] [] 0 (k_X9_requireBoat_x1 κ σ (b) (nb) (h1_2) (by first | assumption | omega) (by first | assumption | omega) (by first | assumption | omega)) tC0 cX9 v_X9_requireBoat i_X9_requireBoat k_ml_X9_195 ⟨Nat.le_of_ble_eq_true rfl, Nat.le_of_ble_eq_true rfl⟩ rfl (Nat.le_of_ble_eq_true rfl) dX9_told_2
set_option maxHeartbeats 400000 in
set_option maxRecDepth 100000 in
/-- sheetByte, refused -/
theorem k_X9_sheetByte_x1 (κ : rg_K) (σ : rg_S) (i : Int) (L : Nat) (h9_1 : σ 9 1 = ((L : Nat) : Int)) (hL : L ≤ 8040) (hir : rg_Rg i) (hk : ¬ (0 ≤ i ∧ i ≤ ((L : Nat) : Int) - 1)) : rg_TX κ rg_tC yX9_sheetByte cX9_sheetByte 2 (some FieldType.int) 6 82 [.ref (κ.2.2.2 0), .int (rg_I i)] σ σ "java/lang/IndexOutOfBoundsException" := by
  refine rg_entX [(0, .ref (κ.2.2.2 0)), (1, .int (rg_I i))] rfl (by decide +kernel) (Nat.le_of_ble_eq_true rfl) (fun Γ F hR => ?_)
  refine rg_iload_n F 1 1 rfl dX9_sheetByte_0 rfl ?_
  refine rg_if_lt F 15 dX9_sheetByte_1 (by decide) (by omega) (fun c1_1 => ?_) (fun c1_1 => ?_)
  ·
    exact rg_thrW F hR 38 k_str_273 k_tf_IOB dX9_sheetByte_15 dX9_sheetByte_18 dX9_sheetByte_19 dX9_sheetByte_22 dX9_sheetByte_25 (Nat.le_of_ble_eq_true rfl) (Nat.le_of_ble_eq_true rfl)
  ·
    refine rg_iload_n F 1 1 rfl dX9_sheetByte_4 rfl ?_
    refine rg_aload_n F 0 0 rfl dX9_sheetByte_5 rfl ?_
    refine rg_get F 0 8 tC0 cX9 k_lays_X9 (by decide) k_fl_X9_74 rfl (v := .ref (κ.2.2.2 9)) rfl dX9_sheetByte_6 ?_
    refine rg_get F 9 1 tC9 cX7 k_lays_X7 (by decide) k_fl_X9_270 rfl (v := .int (rg_I ((L : Nat) : Int))) (congrArg (fun x => Value.int (rg_I x)) h9_1) dX9_sheetByte_9 ?_
    refine rg_icmp_lt F 26 dX9_sheetByte_12 (by decide) (by omega) (by omega) (fun c12_2 => ?_) (fun c12_2 => ?_)
    · exfalso; omega
    ·
      exact rg_thrW F hR 38 k_str_273 k_tf_IOB dX9_sheetByte_15 dX9_sheetByte_18 dX9_sheetByte_19 dX9_sheetByte_22 dX9_sheetByte_25 (Nat.le_of_ble_eq_true rfl) (Nat.le_of_ble_eq_true rfl)
set_option maxHeartbeats 400000 in
set_option maxRecDepth 100000 in
/-- told, refused -/
theorem k_X9_told_x2y (κ : rg_K) (σ : rg_S) (b w : Int) (st : Int) (nb : Nat) (nr : Nat) (nd : Nat) (ns : Nat) (h0_9 : σ 0 9 = st) (h1_2 : σ 1 2 = ((nb : Nat) : Int)) (h2_3 : σ 2 3 = ((nr : Nat) : Int)) (h4_4 : σ 4 4 = ((nd : Nat) : Int)) (h5_2 : σ 5 2 = ((ns : Nat) : Int)) (hI : rg_IC σ nb nr nd ns) (hst : st = 0 ∨ st = 1) (hs : ¬ st = 0) (hbr : rg_Rg b) (hwr : rg_Rg w) (hk : (0 ≤ b ∧ b ≤ ((nb : Nat) : Int) - 1) ∧ ¬ (0 ≤ w ∧ w ≤ 3)) : rg_TX κ rg_tC yX9_told cX9_told 3 (some FieldType.int) 7 132 [.ref (κ.2.2.2 0), .int (rg_I b), .int (rg_I w)] σ (rg_wr (rg_wr (rg_wr (rg_wr (rg_wr (rg_wr (rg_wr (rg_wr (rg_wr (rg_wr (rg_wr (rg_wr (rg_wr (rg_wr (rg_wr (rg_wr (rg_wr (rg_wr (rg_wr σ 0 (rg_up (σ 0) 9 0)) 25 (rg_zE σ nd)) 26 (rg_zA σ nd)) 27 (rg_zP σ nd)) 28 (rg_zI σ nd nb nr)) 29 (rg_zT σ nd nb nr)) 30 (rg_zS σ nd nb nr)) 31 (rg_hd (σ 31) nr (rg_SZ (σ 14) (σ 11) nb))) 32 (rg_s32 (σ 32) (rg_zE σ nd) (rg_zA σ nd) nb nr)) 33 (rg_s33 (σ 33) (rg_zE σ nd) (rg_zA σ nd) nb nr)) 34 (rg_zC σ nd nb nr)) 35 (rg_zD σ nd nb nr ns)) 36 (rg_zM σ nd nb nr)) 37 (rg_zK σ nd nb nr ns)) 38 (rg_zG σ nd nb nr)) 39 (rg_zN σ nd nb nr ns)) 40 (rg_rws nb (rg_zR σ nd nb nr ns))) 41 (rg_zO σ nd nb nr ns)) 42 (rg_RK (rg_zO σ nd nb nr ns) (σ 42) nb)) "java/lang/IllegalArgumentException" := by
  have hnb := hI.hnb
  have hnr := hI.hnr
  refine rg_entX [(0, .ref (κ.2.2.2 0)), (1, .int (rg_I b)), (2, .int (rg_I w))] rfl (by decide +kernel) (Nat.le_of_ble_eq_true rfl) (fun Γ F hR => ?_)
  refine rg_aload_n F 0 0 rfl dX9_told_0 rfl ?_
  refine rg_iload_n F 1 1 rfl dX9_told_1 rfl ?_
  refine rg_callVV F [.int (rg_I b)] [] 0 (k_X9_requireBoat_o κ σ (b) (nb) (h1_2) (by first | assumption | omega) hk.1) tC0 cX9 v_X9_requireBoat i_X9_requireBoat k_ml_X9_195 ⟨Nat.le_of_ble_eq_true rfl, Nat.le_of_ble_eq_true rfl⟩ rfl (Nat.le_of_ble_eq_true rfl) dX9_told_2 (rg_ex1 ?_)
  refine rg_aload_n F 0 0 rfl dX9_told_5 rfl ?_
  refine rg_callVV F [] [] 0 (k_X9_bringUpToDate_y κ σ (st) (nb) (nr) (nd) (ns) (h0_9) (h1_2) (h2_3) (h4_4) (h5_2) hI hst hs) tC0 cX9 v_X9_bringUpToDate i_X9_bringUpToDate k_ml_X9_203 ⟨Nat.le_of_ble_eq_true rfl, Nat.le_of_ble_eq_true rfl⟩ rfl (Nat.le_of_ble_eq_true rfl) dX9_told_6 (rg_ex1 ?_)
  refine rg_eq (σ' := (rg_wr (rg_wr (rg_wr (rg_wr (rg_wr (rg_wr (rg_wr (rg_wr (rg_wr (rg_wr (rg_wr (rg_wr (rg_wr (rg_wr (rg_wr (rg_wr (rg_wr (rg_wr (rg_wr σ 0 (rg_up (σ 0) 9 0)) 25 (rg_zE σ nd)) 26 (rg_zA σ nd)) 27 (rg_zP σ nd)) 28 (rg_zI σ nd nb nr)) 29 (rg_zT σ nd nb nr)) 30 (rg_zS σ nd nb nr)) 31 (rg_hd (σ 31) nr (rg_SZ (σ 14) (σ 11) nb))) 32 (rg_s32 (σ 32) (rg_zE σ nd) (rg_zA σ nd) nb nr)) 33 (rg_s33 (σ 33) (rg_zE σ nd) (rg_zA σ nd) nb nr)) 34 (rg_zC σ nd nb nr)) 35 (rg_zD σ nd nb nr ns)) 36 (rg_zM σ nd nb nr)) 37 (rg_zK σ nd nb nr ns)) 38 (rg_zG σ nd nb nr)) 39 (rg_zN σ nd nb nr ns)) 40 (rg_rws nb (rg_zR σ nd nb nr ns))) 41 (rg_zO σ nd nb nr ns)) 42 (rg_RK (rg_zO σ nd nb nr ns) (σ 42) nb))) rfl ?_
  refine rg_iload_n F 2 2 rfl dX9_told_9 rfl ?_
  refine rg_tableOut F 80 dX9_told_10 (by omega) (by omega) (by decide) ?_
  exact rg_thrW F hR 37 k_str_262 k_tf_IAE dX9_told_80 dX9_told_83 dX9_told_84 dX9_told_87 dX9_told_90 (Nat.le_of_ble_eq_true rfl) (Nat.le_of_ble_eq_true rfl)
set_option maxHeartbeats 400000 in
set_option maxRecDepth 100000 in
/-- split, refused -/
theorem k_X9_split_x1y (κ : rg_K) (σ : rg_S) (g v : Int) (st : Int) (nb : Nat) (sp : Int) (nr : Nat) (nd : Nat) (ns : Nat) (h0_9 : σ 0 9 = st) (h1_2 : σ 1 2 = ((nb : Nat) : Int)) (h1_3 : σ 1 3 = sp) (h2_3 : σ 2 3 = ((nr : Nat) : Int)) (h4_4 : σ 4 4 = ((nd : Nat) : Int)) (h5_2 : σ 5 2 = ((ns : Nat) : Int)) (hI : rg_IC σ nb nr nd ns) (hst : st = 0 ∨ st = 1) (hs : ¬ st = 0) (hsp : sp = 0 ∨ sp = 1) (h30 : ∀ j, rg_Rg (σ 30 j)) (hgr : rg_Rg g) (hvr : rg_Rg v) (hk : ¬ sp = 0 ∨ ¬ (∃ r, r < nr ∧ ¬ (rg_zS σ nd nb nr) r = 0)) : rg_TX κ rg_tC yX9_split cX9_split 4 (some FieldType.int) 6 132 [.ref (κ.2.2.2 0), .int (rg_I g), .int (rg_I v)] σ (rg_wr (rg_wr (rg_wr (rg_wr (rg_wr (rg_wr (rg_wr (rg_wr (rg_wr (rg_wr (rg_wr (rg_wr (rg_wr (rg_wr (rg_wr (rg_wr (rg_wr (rg_wr (rg_wr σ 0 (rg_up (σ 0) 9 0)) 25 (rg_zE σ nd)) 26 (rg_zA σ nd)) 27 (rg_zP σ nd)) 28 (rg_zI σ nd nb nr)) 29 (rg_zT σ nd nb nr)) 30 (rg_zS σ nd nb nr)) 31 (rg_hd (σ 31) nr (rg_SZ (σ 14) (σ 11) nb))) 32 (rg_s32 (σ 32) (rg_zE σ nd) (rg_zA σ nd) nb nr)) 33 (rg_s33 (σ 33) (rg_zE σ nd) (rg_zA σ nd) nb nr)) 34 (rg_zC σ nd nb nr)) 35 (rg_zD σ nd nb nr ns)) 36 (rg_zM σ nd nb nr)) 37 (rg_zK σ nd nb nr ns)) 38 (rg_zG σ nd nb nr)) 39 (rg_zN σ nd nb nr ns)) 40 (rg_rws nb (rg_zR σ nd nb nr ns))) 41 (rg_zO σ nd nb nr ns)) 42 (rg_RK (rg_zO σ nd nb nr ns) (σ 42) nb)) "java/lang/IllegalStateException" := by
  have hnb := hI.hnb
  have hnr := hI.hnr
  refine rg_entX [(0, .ref (κ.2.2.2 0)), (1, .int (rg_I g)), (2, .int (rg_I v))] rfl (by decide +kernel) (Nat.le_of_ble_eq_true rfl) (fun Γ F hR => ?_)
  refine rg_aload_n F 0 0 rfl dX9_split_0 rfl ?_
  refine rg_callVV F [] [] 0 (k_X9_bringUpToDate_y κ σ (st) (nb) (nr) (nd) (ns) (h0_9) (h1_2) (h2_3) (h4_4) (h5_2) hI hst hs) tC0 cX9 v_X9_bringUpToDate i_X9_bringUpToDate k_ml_X9_203 ⟨Nat.le_of_ble_eq_true rfl, Nat.le_of_ble_eq_true rfl⟩ rfl (Nat.le_of_ble_eq_true rfl) dX9_split_1 (rg_ex1 ?_)
  refine rg_eq (σ' := (rg_wr (rg_wr (rg_wr (rg_wr (rg_wr (rg_wr (rg_wr (rg_wr (rg_wr (rg_wr (rg_wr (rg_wr (rg_wr (rg_wr (rg_wr (rg_wr (rg_wr (rg_wr (rg_wr σ 0 (rg_up (σ 0) 9 0)) 25 (rg_zE σ nd)) 26 (rg_zA σ nd)) 27 (rg_zP σ nd)) 28 (rg_zI σ nd nb nr)) 29 (rg_zT σ nd nb nr)) 30 (rg_zS σ nd nb nr)) 31 (rg_hd (σ 31) nr (rg_SZ (σ 14) (σ 11) nb))) 32 (rg_s32 (σ 32) (rg_zE σ nd) (rg_zA σ nd) nb nr)) 33 (rg_s33 (σ 33) (rg_zE σ nd) (rg_zA σ nd) nb nr)) 34 (rg_zC σ nd nb nr)) 35 (rg_zD σ nd nb nr ns)) 36 (rg_zM σ nd nb nr)) 37 (rg_zK σ nd nb nr ns)) 38 (rg_zG σ nd nb nr)) 39 (rg_zN σ nd nb nr ns)) 40 (rg_rws nb (rg_zR σ nd nb nr ns))) 41 (rg_zO σ nd nb nr ns)) 42 (rg_RK (rg_zO σ nd nb nr ns) (σ 42) nb))) rfl ?_
  refine rg_aload_n F 0 0 rfl dX9_split_4 rfl ?_
  refine rg_get F 0 0 tC0 cX9 k_lays_X9 (by decide) k_fl_X9_12 rfl (v := .ref (κ.2.2.2 1)) rfl dX9_split_5 ?_
  refine rg_get F 1 3 tC1 cX0 k_lays_X0 (by decide) k_fl_X9_82 rfl (v := .int (rg_I sp)) (congrArg (fun x => Value.int (rg_I x)) h1_3) dX9_split_8 ?_
  refine rg_if_ne F 24 dX9_split_11 (by decide) (by have b0 := hsp; omega) (fun c11_1 => ?_) (fun c11_1 => ?_)
  ·
    exact rg_thrS F hR 33 k_str_210 k_tf_ISE dX9_split_24 dX9_split_27 dX9_split_28 dX9_split_30 dX9_split_33 (Nat.le_of_ble_eq_true rfl) (Nat.le_of_ble_eq_true rfl)
  ·
    refine rg_aload_n F 0 0 rfl dX9_split_14 rfl ?_
    refine rg_get F 0 5 tC0 cX9 k_lays_X9 (by decide) k_fl_X9_49 rfl (v := .ref (κ.2.2.2 6)) rfl dX9_split_15 ?_
    refine rg_callVI F [] [] 6 (k_X3_isAnyRaceSailed κ (rg_wr (rg_wr (rg_wr (rg_wr (rg_wr (rg_wr (rg_wr (rg_wr (rg_wr (rg_wr (rg_wr (rg_wr (rg_wr (rg_wr (rg_wr (rg_wr (rg_wr (rg_wr (rg_wr σ 0 (rg_up (σ 0) 9 0)) 25 (rg_zE σ nd)) 26 (rg_zA σ nd)) 27 (rg_zP σ nd)) 28 (rg_zI σ nd nb nr)) 29 (rg_zT σ nd nb nr)) 30 (rg_zS σ nd nb nr)) 31 (rg_hd (σ 31) nr (rg_SZ (σ 14) (σ 11) nb))) 32 (rg_s32 (σ 32) (rg_zE σ nd) (rg_zA σ nd) nb nr)) 33 (rg_s33 (σ 33) (rg_zE σ nd) (rg_zA σ nd) nb nr)) 34 (rg_zC σ nd nb nr)) 35 (rg_zD σ nd nb nr ns)) 36 (rg_zM σ nd nb nr)) 37 (rg_zK σ nd nb nr ns)) 38 (rg_zG σ nd nb nr)) 39 (rg_zN σ nd nb nr ns)) 40 (rg_rws nb (rg_zR σ nd nb nr ns))) 41 (rg_zO σ nd nb nr ns)) 42 (rg_RK (rg_zO σ nd nb nr ns) (σ 42) nb)) (rg_zS σ nd nb nr) (nr) rfl (h2_3) (by first | assumption | omega) (by first | exact rg_zS_Rg h30 | exact h30)) tC6 cX3 v_X3_isAnyRaceSailed i_X3_isAnyRaceSailed k_ml_X9_206 ⟨Nat.le_of_ble_eq_true rfl, Nat.le_of_ble_eq_true rfl⟩ rfl (Nat.le_of_ble_eq_true rfl) dX9_split_18 (rg_ex2 ?_)
    show rg_G κ Γ rg_tC 4 0 0 (18 + 3) [(0, .ref (κ.2.2.2 0)), (1, .int (rg_I g)), (2, .int (rg_I v))] [.int (rg_I (rg_b (∃ r, r < nr ∧ ¬ (rg_zS σ nd nb nr) r = 0)))] (rg_wr (rg_wr (rg_wr (rg_wr (rg_wr (rg_wr (rg_wr (rg_wr (rg_wr (rg_wr (rg_wr (rg_wr (rg_wr (rg_wr (rg_wr (rg_wr (rg_wr (rg_wr (rg_wr σ 0 (rg_up (σ 0) 9 0)) 25 (rg_zE σ nd)) 26 (rg_zA σ nd)) 27 (rg_zP σ nd)) 28 (rg_zI σ nd nb nr)) 29 (rg_zT σ nd nb nr)) 30 (rg_zS σ nd nb nr)) 31 (rg_hd (σ 31) nr (rg_SZ (σ 14) (σ 11) nb))) 32 (rg_s32 (σ 32) (rg_zE σ nd) (rg_zA σ nd) nb nr)) 33 (rg_s33 (σ 33) (rg_zE σ nd) (rg_zA σ nd) nb nr)) 34 (rg_zC σ nd nb nr)) 35 (rg_zD σ nd nb nr ns)) 36 (rg_zM σ nd nb nr)) 37 (rg_zK σ nd nb nr ns)) 38 (rg_zG σ nd nb nr)) 39 (rg_zN σ nd nb nr ns)) 40 (rg_rws nb (rg_zR σ nd nb nr ns))) 41 (rg_zO σ nd nb nr ns)) 42 (rg_RK (rg_zO σ nd nb nr ns) (σ 42) nb))
    refine rg_if_ne F 34 dX9_split_21 (by decide) (by have b0 := rg_b_Rg (∃ r, r < nr ∧ ¬ (rg_zS σ nd nb nr) r = 0); omega) (fun c21_2 => ?_) (fun c21_2 => ?_)
    · exact absurd c21_2 (Classical.not_not.mpr ((rg_b_eq0 _).mpr (hk.resolve_left (by omega))))
    ·
      have c21_2 := (rg_b_eq0 _).mp c21_2
      exact rg_thrS F hR 33 k_str_210 k_tf_ISE dX9_split_24 dX9_split_27 dX9_split_28 dX9_split_30 dX9_split_33 (Nat.le_of_ble_eq_true rfl) (Nat.le_of_ble_eq_true rfl)
set_option maxHeartbeats 400000 in
set_option maxRecDepth 100000 in
/-- split, refused -/
theorem k_X9_split_x2y (κ : rg_K) (σ : rg_S) (g v : Int) (st : Int) (nb : Nat) (sp : Int) (nr : Nat) (nd : Nat) (ns : Nat) (h0_9 : σ 0 9 = st) (h1_2 : σ 1 2 = ((nb : Nat) : Int)) (h1_3 : σ 1 3 = sp) (h2_3 : σ 2 3 = ((nr : Nat) : Int)) (h4_4 : σ 4 4 = ((nd : Nat) : Int)) (h5_2 : σ 5 2 = ((ns : Nat) : Int)) (hI : rg_IC σ nb nr nd ns) (hst : st = 0 ∨ st = 1) (hs : ¬ st = 0) (hsp : sp = 0 ∨ sp = 1) (h30 : ∀ j, rg_Rg (σ 30 j)) (hgr : rg_Rg g) (hvr : rg_Rg v) (hk : (sp = 0 ∧ (∃ r, r < nr ∧ ¬ (rg_zS σ nd nb nr) r = 0)) ∧ (g < 1 ∨ v < 1 ∨ ((nb : Nat) : Int) < g ∨ ((nb : Nat) : Int) - g < v)) : rg_TX κ rg_tC yX9_split cX9_split 4 (some FieldType.int) 6 132 [.ref (κ.2.2.2 0), .int (rg_I g), .int (rg_I v)] σ (rg_wr (rg_wr (rg_wr (rg_wr (rg_wr (rg_wr (rg_wr (rg_wr (rg_wr (rg_wr (rg_wr (rg_wr (rg_wr (rg_wr (rg_wr (rg_wr (rg_wr (rg_wr (rg_wr σ 0 (rg_up (σ 0) 9 0)) 25 (rg_zE σ nd)) 26 (rg_zA σ nd)) 27 (rg_zP σ nd)) 28 (rg_zI σ nd nb nr)) 29 (rg_zT σ nd nb nr)) 30 (rg_zS σ nd nb nr)) 31 (rg_hd (σ 31) nr (rg_SZ (σ 14) (σ 11) nb))) 32 (rg_s32 (σ 32) (rg_zE σ nd) (rg_zA σ nd) nb nr)) 33 (rg_s33 (σ 33) (rg_zE σ nd) (rg_zA σ nd) nb nr)) 34 (rg_zC σ nd nb nr)) 35 (rg_zD σ nd nb nr ns)) 36 (rg_zM σ nd nb nr)) 37 (rg_zK σ nd nb nr ns)) 38 (rg_zG σ nd nb nr)) 39 (rg_zN σ nd nb nr ns)) 40 (rg_rws nb (rg_zR σ nd nb nr ns))) 41 (rg_zO σ nd nb nr ns)) 42 (rg_RK (rg_zO σ nd nb nr ns) (σ 42) nb)) "java/lang/IllegalArgumentException" := by
  have hnb := hI.hnb
  have hnr := hI.hnr
  refine rg_entX [(0, .ref (κ.2.2.2 0)), (1, .int (rg_I g)), (2, .int (rg_I v))] rfl (by decide +kernel) (Nat.le_of_ble_eq_true rfl) (fun Γ F hR => ?_)
  refine rg_aload_n F 0 0 rfl dX9_split_0 rfl ?_
  refine rg_callVV F [] [] 0 (k_X9_bringUpToDate_y κ σ (st) (nb) (nr) (nd) (ns) (h0_9) (h1_2) (h2_3) (h4_4) (h5_2) hI hst hs) tC0 cX9 v_X9_bringUpToDate i_X9_bringUpToDate k_ml_X9_203 ⟨Nat.le_of_ble_eq_true rfl, Nat.le_of_ble_eq_true rfl⟩ rfl (Nat.le_of_ble_eq_true rfl) dX9_split_1 (rg_ex1 ?_)
  refine rg_eq (σ' := (rg_wr (rg_wr (rg_wr (rg_wr (rg_wr (rg_wr (rg_wr (rg_wr (rg_wr (rg_wr (rg_wr (rg_wr (rg_wr (rg_wr (rg_wr (rg_wr (rg_wr (rg_wr (rg_wr σ 0 (rg_up (σ 0) 9 0)) 25 (rg_zE σ nd)) 26 (rg_zA σ nd)) 27 (rg_zP σ nd)) 28 (rg_zI σ nd nb nr)) 29 (rg_zT σ nd nb nr)) 30 (rg_zS σ nd nb nr)) 31 (rg_hd (σ 31) nr (rg_SZ (σ 14) (σ 11) nb))) 32 (rg_s32 (σ 32) (rg_zE σ nd) (rg_zA σ nd) nb nr)) 33 (rg_s33 (σ 33) (rg_zE σ nd) (rg_zA σ nd) nb nr)) 34 (rg_zC σ nd nb nr)) 35 (rg_zD σ nd nb nr ns)) 36 (rg_zM σ nd nb nr)) 37 (rg_zK σ nd nb nr ns)) 38 (rg_zG σ nd nb nr)) 39 (rg_zN σ nd nb nr ns)) 40 (rg_rws nb (rg_zR σ nd nb nr ns))) 41 (rg_zO σ nd nb nr ns)) 42 (rg_RK (rg_zO σ nd nb nr ns) (σ 42) nb))) rfl ?_
  refine rg_aload_n F 0 0 rfl dX9_split_4 rfl ?_
  refine rg_get F 0 0 tC0 cX9 k_lays_X9 (by decide) k_fl_X9_12 rfl (v := .ref (κ.2.2.2 1)) rfl dX9_split_5 ?_
  refine rg_get F 1 3 tC1 cX0 k_lays_X0 (by decide) k_fl_X9_82 rfl (v := .int (rg_I sp)) (congrArg (fun x => Value.int (rg_I x)) h1_3) dX9_split_8 ?_
  refine rg_if_ne F 24 dX9_split_11 (by decide) (by have b0 := hsp; omega) (fun c11_1 => ?_) (fun c11_1 => ?_)
  · exfalso; omega
  ·
    refine rg_aload_n F 0 0 rfl dX9_split_14 rfl ?_
    refine rg_get F 0 5 tC0 cX9 k_lays_X9 (by decide) k_fl_X9_49 rfl (v := .ref (κ.2.2.2 6)) rfl dX9_split_15 ?_
    refine rg_callVI F [] [] 6 (k_X3_isAnyRaceSailed κ (rg_wr (rg_wr (rg_wr (rg_wr (rg_wr (rg_wr (rg_wr (rg_wr (rg_wr (rg_wr (rg_wr (rg_wr (rg_wr (rg_wr (rg_wr (rg_wr (rg_wr (rg_wr (rg_wr σ 0 (rg_up (σ 0) 9 0)) 25 (rg_zE σ nd)) 26 (rg_zA σ nd)) 27 (rg_zP σ nd)) 28 (rg_zI σ nd nb nr)) 29 (rg_zT σ nd nb nr)) 30 (rg_zS σ nd nb nr)) 31 (rg_hd (σ 31) nr (rg_SZ (σ 14) (σ 11) nb))) 32 (rg_s32 (σ 32) (rg_zE σ nd) (rg_zA σ nd) nb nr)) 33 (rg_s33 (σ 33) (rg_zE σ nd) (rg_zA σ nd) nb nr)) 34 (rg_zC σ nd nb nr)) 35 (rg_zD σ nd nb nr ns)) 36 (rg_zM σ nd nb nr)) 37 (rg_zK σ nd nb nr ns)) 38 (rg_zG σ nd nb nr)) 39 (rg_zN σ nd nb nr ns)) 40 (rg_rws nb (rg_zR σ nd nb nr ns))) 41 (rg_zO σ nd nb nr ns)) 42 (rg_RK (rg_zO σ nd nb nr ns) (σ 42) nb)) (rg_zS σ nd nb nr) (nr) rfl (h2_3) (by first | assumption | omega) (by first | exact rg_zS_Rg h30 | exact h30)) tC6 cX3 v_X3_isAnyRaceSailed i_X3_isAnyRaceSailed k_ml_X9_206 ⟨Nat.le_of_ble_eq_true rfl, Nat.le_of_ble_eq_true rfl⟩ rfl (Nat.le_of_ble_eq_true rfl) dX9_split_18 (rg_ex2 ?_)
    show rg_G κ Γ rg_tC 4 0 0 (18 + 3) [(0, .ref (κ.2.2.2 0)), (1, .int (rg_I g)), (2, .int (rg_I v))] [.int (rg_I (rg_b (∃ r, r < nr ∧ ¬ (rg_zS σ nd nb nr) r = 0)))] (rg_wr (rg_wr (rg_wr (rg_wr (rg_wr (rg_wr (rg_wr (rg_wr (rg_wr (rg_wr (rg_wr (rg_wr (rg_wr (rg_wr (rg_wr (rg_wr (rg_wr (rg_wr (rg_wr σ 0 (rg_up (σ 0) 9 0)) 25 (rg_zE σ nd)) 26 (rg_zA σ nd)) 27 (rg_zP σ nd)) 28 (rg_zI σ nd nb nr)) 29 (rg_zT σ nd nb nr)) 30 (rg_zS σ nd nb nr)) 31 (rg_hd (σ 31) nr (rg_SZ (σ 14) (σ 11) nb))) 32 (rg_s32 (σ 32) (rg_zE σ nd) (rg_zA σ nd) nb nr)) 33 (rg_s33 (σ 33) (rg_zE σ nd) (rg_zA σ nd) nb nr)) 34 (rg_zC σ nd nb nr)) 35 (rg_zD σ nd nb nr ns)) 36 (rg_zM σ nd nb nr)) 37 (rg_zK σ nd nb nr ns)) 38 (rg_zG σ nd nb nr)) 39 (rg_zN σ nd nb nr ns)) 40 (rg_rws nb (rg_zR σ nd nb nr ns))) 41 (rg_zO σ nd nb nr ns)) 42 (rg_RK (rg_zO σ nd nb nr ns) (σ 42) nb))
    refine rg_if_ne F 34 dX9_split_21 (by decide) (by have b0 := rg_b_Rg (∃ r, r < nr ∧ ¬ (rg_zS σ nd nb nr) r = 0); omega) (fun c21_2 => ?_) (fun c21_2 => ?_)
    ·
      have c21_2 := (rg_b_ne0 _).mp c21_2
      refine rg_iload_n F 1 1 rfl dX9_split_34 rfl ?_
      refine rg_iconst F dX9_split_35 ?_
      refine rg_icmp_lt F 68 dX9_split_36 (by decide) (by omega) (by omega) (fun c36_3 => ?_) (fun c36_3 => ?_)
      ·
        exact rg_thrS F hR 34 k_str_212 k_tf_IAE dX9_split_68 dX9_split_71 dX9_split_72 dX9_split_74 dX9_split_77 (Nat.le_of_ble_eq_true rfl) (Nat.le_of_ble_eq_true rfl)
      ·
        refine rg_iload_n F 2 2 rfl dX9_split_39 rfl ?_
        refine rg_iconst F dX9_split_40 ?_
        refine rg_icmp_lt F 68 dX9_split_41 (by decide) (by omega) (by omega) (fun c41_4 => ?_) (fun c41_4 => ?_)
        ·
          exact rg_thrS F hR 34 k_str_212 k_tf_IAE dX9_split_68 dX9_split_71 dX9_split_72 dX9_split_74 dX9_split_77 (Nat.le_of_ble_eq_true rfl) (Nat.le_of_ble_eq_true rfl)
        ·
          refine rg_iload_n F 1 1 rfl dX9_split_44 rfl ?_
          refine rg_aload_n F 0 0 rfl dX9_split_45 rfl ?_
          refine rg_get F 0 0 tC0 cX9 k_lays_X9 (by decide) k_fl_X9_12 rfl (v := .ref (κ.2.2.2 1)) rfl dX9_split_46 ?_
          refine rg_get F 1 2 tC1 cX0 k_lays_X0 (by decide) k_fl_X9_92 rfl (v := .int (rg_I ((nb : Nat) : Int))) (congrArg (fun x => Value.int (rg_I x)) h1_2) dX9_split_49 ?_
          refine rg_icmp_gt F 68 dX9_split_52 (by decide) (by omega) (by omega) (fun c52_5 => ?_) (fun c52_5 => ?_)
          ·
            exact rg_thrS F hR 34 k_str_212 k_tf_IAE dX9_split_68 dX9_split_71 dX9_split_72 dX9_split_74 dX9_split_77 (Nat.le_of_ble_eq_true rfl) (Nat.le_of_ble_eq_true rfl)
          ·
            refine rg_iload_n F 2 2 rfl dX9_split_55 rfl ?_
            refine rg_aload_n F 0 0 rfl dX9_split_56 rfl ?_
            refine rg_get F 0 0 tC0 cX9 k_lays_X9 (by decide) k_fl_X9_12 rfl (v := .ref (κ.2.2.2 1)) rfl dX9_split_57 ?_
            refine rg_get F 1 2 tC1 cX0 k_lays_X0 (by decide) k_fl_X9_92 rfl (v := .int (rg_I ((nb : Nat) : Int))) (congrArg (fun x => Value.int (rg_I x)) h1_2) dX9_split_60 ?_
            refine rg_iload_n F 1 1 rfl dX9_split_63 rfl ?_
            refine rg_isub F dX9_split_64 ?_
            refine rg_icmp_le F 78 dX9_split_65 (by decide) (by omega) (by omega) (fun c65_6 => ?_) (fun c65_6 => ?_)
            · exfalso; omega
            ·
              exact rg_thrS F hR 34 k_str_212 k_tf_IAE dX9_split_68 dX9_split_71 dX9_split_72 dX9_split_74 dX9_split_77 (Nat.le_of_ble_eq_true rfl) (Nat.le_of_ble_eq_true rfl)
    · exact absurd c21_2 ((rg_b_ne0 _).mpr hk.1.2)
set_option maxHeartbeats 400000 in
set_option maxRecDepth 100000 in
/-- told, refused -/
theorem k_X9_told_x2n (κ : rg_K) (σ : rg_S) (b w : Int) (st : Int) (nb : Nat) (nr : Nat) (nd : Nat) (ns : Nat) (h0_9 : σ 0 9 = st) (h1_2 : σ 1 2 = ((nb : Nat) : Int)) (h2_3 : σ 2 3 = ((nr : Nat) : Int)) (h4_4 : σ 4 4 = ((nd : Nat) : Int)) (h5_2 : σ 5 2 = ((ns : Nat) : Int)) (hI : rg_IC σ nb nr nd ns) (hst : st = 0 ∨ st = 1) (hs : st = 0) (hbr : rg_Rg b) (hwr : rg_Rg w) (hk : (0 ≤ b ∧ b ≤ ((nb : Nat) : Int) - 1) ∧ ¬ (0 ≤ w ∧ w ≤ 3)) : rg_TX κ rg_tC yX9_told cX9_told 3 (some FieldType.int) 7 132 [.ref (κ.2.2.2 0), .int (rg_I b), .int (rg_I w)] σ σ "java/lang/IllegalArgumentException" := by
  have hnb := hI.hnb
  have hnr := hI.hnr
  refine rg_entX [(0, .ref (κ.2.2.2 0)), (1, .int (rg_I b)), (2, .int (rg_I w))] rfl (by decide +kernel) (Nat.le_of_ble_eq_true rfl) (fun Γ F hR => ?_)
  refine rg_aload_n F 0 0 rfl dX9_told_0 rfl ?_
  refine rg_iload_n F 1 1 rfl dX9_told_1 rfl ?_
  refine rg_callVV F [.int (rg_I b)] [] 0 (k_X9_requireBoat_o κ σ (b) (nb) (h1_2) (by first | assumption | omega) hk.1) tC0 cX9 v_X9_requireBoat i_X9_requireBoat k_ml_X9_195 ⟨Nat.le_of_ble_eq_true rfl, Nat.le_of_ble_eq_true rfl⟩ rfl (Nat.le_of_ble_eq_true rfl) dX9_told_2 (rg_ex1 ?_)
  refine rg_aload_n F 0 0 rfl dX9_told_5 rfl ?_
  refine rg_callVV F [] [] 0 (k_X9_bringUpToDate_n κ σ (st) (nb) (nr) (nd) (ns) (h0_9) (h1_2) (h2_3) (h4_4) (h5_2) hI hst hs) tC0 cX9 v_X9_bringUpToDate i_X9_bringUpToDate k_ml_X9_203 ⟨Nat.le_of_ble_eq_true rfl, Nat.le_of_ble_eq_true rfl⟩ rfl (Nat.le_of_ble_eq_true rfl) dX9_told_6 (rg_ex1 ?_)
  refine rg_iload_n F 2 2 rfl dX9_told_9 rfl ?_
  refine rg_tableOut F 80 dX9_told_10 (by omega) (by omega) (by decide) ?_
  exact rg_thrW F hR 37 k_str_262 k_tf_IAE dX9_told_80 dX9_told_83 dX9_told_84 dX9_told_87 dX9_told_90 (Nat.le_of_ble_eq_true rfl) (Nat.le_of_ble_eq_true rfl)
set_option maxHeartbeats 400000 in
set_option maxRecDepth 100000 in
/-- split, refused -/
theorem k_X9_split_x1n (κ : rg_K) (σ : rg_S) (g v : Int) (st : Int) (nb : Nat) (sp : Int) (nr : Nat) (nd : Nat) (ns : Nat) (h0_9 : σ 0 9 = st) (h1_2 : σ 1 2 = ((nb : Nat) : Int)) (h1_3 : σ 1 3 = sp) (h2_3 : σ 2 3 = ((nr : Nat) : Int)) (h4_4 : σ 4 4 = ((nd : Nat) : Int)) (h5_2 : σ 5 2 = ((ns : Nat) : Int)) (hI : rg_IC σ nb nr nd ns) (hst : st = 0 ∨ st = 1) (hs : st = 0) (hsp : sp = 0 ∨ sp = 1) (h30 : ∀ j, rg_Rg (σ 30 j)) (hgr : rg_Rg g) (hvr : rg_Rg v) (hk : ¬ sp = 0 ∨ ¬ (∃ r, r < nr ∧ ¬ (σ 30) r = 0)) : rg_TX κ rg_tC yX9_split cX9_split 4 (some FieldType.int) 6 132 [.ref (κ.2.2.2 0), .int (rg_I g), .int (rg_I v)] σ σ "java/lang/IllegalStateException" := by
  have hnb := hI.hnb
  have hnr := hI.hnr
  refine rg_entX [(0, .ref (κ.2.2.2 0)), (1, .int (rg_I g)), (2, .int (rg_I v))] rfl (by decide +kernel) (Nat.le_of_ble_eq_true rfl) (fun Γ F hR => ?_)
  refine rg_aload_n F 0 0 rfl dX9_split_0 rfl ?_
  refine rg_callVV F [] [] 0 (k_X9_bringUpToDate_n κ σ (st) (nb) (nr) (nd) (ns) (h0_9) (h1_2) (h2_3) (h4_4) (h5_2) hI hst hs) tC0 cX9 v_X9_bringUpToDate i_X9_bringUpToDate k_ml_X9_203 ⟨Nat.le_of_ble_eq_true rfl, Nat.le_of_ble_eq_true rfl⟩ rfl (Nat.le_of_ble_eq_true rfl) dX9_split_1 (rg_ex1 ?_)
  refine rg_aload_n F 0 0 rfl dX9_split_4 rfl ?_
  refine rg_get F 0 0 tC0 cX9 k_lays_X9 (by decide) k_fl_X9_12 rfl (v := .ref (κ.2.2.2 1)) rfl dX9_split_5 ?_
  refine rg_get F 1 3 tC1 cX0 k_lays_X0 (by decide) k_fl_X9_82 rfl (v := .int (rg_I sp)) (congrArg (fun x => Value.int (rg_I x)) h1_3) dX9_split_8 ?_
  refine rg_if_ne F 24 dX9_split_11 (by decide) (by have b0 := hsp; omega) (fun c11_1 => ?_) (fun c11_1 => ?_)
  ·
    exact rg_thrS F hR 33 k_str_210 k_tf_ISE dX9_split_24 dX9_split_27 dX9_split_28 dX9_split_30 dX9_split_33 (Nat.le_of_ble_eq_true rfl) (Nat.le_of_ble_eq_true rfl)
  ·
    refine rg_aload_n F 0 0 rfl dX9_split_14 rfl ?_
    refine rg_get F 0 5 tC0 cX9 k_lays_X9 (by decide) k_fl_X9_49 rfl (v := .ref (κ.2.2.2 6)) rfl dX9_split_15 ?_
    refine rg_callVI F [] [] 6 (k_X3_isAnyRaceSailed κ σ (σ 30) (nr) rfl (h2_3) (by first | assumption | omega) (by first | exact rg_zS_Rg h30 | exact h30)) tC6 cX3 v_X3_isAnyRaceSailed i_X3_isAnyRaceSailed k_ml_X9_206 ⟨Nat.le_of_ble_eq_true rfl, Nat.le_of_ble_eq_true rfl⟩ rfl (Nat.le_of_ble_eq_true rfl) dX9_split_18 (rg_ex2 ?_)
    show rg_G κ Γ rg_tC 4 0 0 (18 + 3) [(0, .ref (κ.2.2.2 0)), (1, .int (rg_I g)), (2, .int (rg_I v))] [.int (rg_I (rg_b (∃ r, r < nr ∧ ¬ (σ 30) r = 0)))] σ
    refine rg_if_ne F 34 dX9_split_21 (by decide) (by have b0 := rg_b_Rg (∃ r, r < nr ∧ ¬ (σ 30) r = 0); omega) (fun c21_2 => ?_) (fun c21_2 => ?_)
    · exact absurd c21_2 (Classical.not_not.mpr ((rg_b_eq0 _).mpr (hk.resolve_left (by omega))))
    ·
      have c21_2 := (rg_b_eq0 _).mp c21_2
      exact rg_thrS F hR 33 k_str_210 k_tf_ISE dX9_split_24 dX9_split_27 dX9_split_28 dX9_split_30 dX9_split_33 (Nat.le_of_ble_eq_true rfl) (Nat.le_of_ble_eq_true rfl)
set_option maxHeartbeats 400000 in
set_option maxRecDepth 100000 in
/-- split, refused -/
theorem k_X9_split_x2n (κ : rg_K) (σ : rg_S) (g v : Int) (st : Int) (nb : Nat) (sp : Int) (nr : Nat) (nd : Nat) (ns : Nat) (h0_9 : σ 0 9 = st) (h1_2 : σ 1 2 = ((nb : Nat) : Int)) (h1_3 : σ 1 3 = sp) (h2_3 : σ 2 3 = ((nr : Nat) : Int)) (h4_4 : σ 4 4 = ((nd : Nat) : Int)) (h5_2 : σ 5 2 = ((ns : Nat) : Int)) (hI : rg_IC σ nb nr nd ns) (hst : st = 0 ∨ st = 1) (hs : st = 0) (hsp : sp = 0 ∨ sp = 1) (h30 : ∀ j, rg_Rg (σ 30 j)) (hgr : rg_Rg g) (hvr : rg_Rg v) (hk : (sp = 0 ∧ (∃ r, r < nr ∧ ¬ (σ 30) r = 0)) ∧ (g < 1 ∨ v < 1 ∨ ((nb : Nat) : Int) < g ∨ ((nb : Nat) : Int) - g < v)) : rg_TX κ rg_tC yX9_split cX9_split 4 (some FieldType.int) 6 132 [.ref (κ.2.2.2 0), .int (rg_I g), .int (rg_I v)] σ σ "java/lang/IllegalArgumentException" := by
  have hnb := hI.hnb
  have hnr := hI.hnr
  refine rg_entX [(0, .ref (κ.2.2.2 0)), (1, .int (rg_I g)), (2, .int (rg_I v))] rfl (by decide +kernel) (Nat.le_of_ble_eq_true rfl) (fun Γ F hR => ?_)
  refine rg_aload_n F 0 0 rfl dX9_split_0 rfl ?_
  refine rg_callVV F [] [] 0 (k_X9_bringUpToDate_n κ σ (st) (nb) (nr) (nd) (ns) (h0_9) (h1_2) (h2_3) (h4_4) (h5_2) hI hst hs) tC0 cX9 v_X9_bringUpToDate i_X9_bringUpToDate k_ml_X9_203 ⟨Nat.le_of_ble_eq_true rfl, Nat.le_of_ble_eq_true rfl⟩ rfl (Nat.le_of_ble_eq_true rfl) dX9_split_1 (rg_ex1 ?_)
  refine rg_aload_n F 0 0 rfl dX9_split_4 rfl ?_
  refine rg_get F 0 0 tC0 cX9 k_lays_X9 (by decide) k_fl_X9_12 rfl (v := .ref (κ.2.2.2 1)) rfl dX9_split_5 ?_
  refine rg_get F 1 3 tC1 cX0 k_lays_X0 (by decide) k_fl_X9_82 rfl (v := .int (rg_I sp)) (congrArg (fun x => Value.int (rg_I x)) h1_3) dX9_split_8 ?_
  refine rg_if_ne F 24 dX9_split_11 (by decide) (by have b0 := hsp; omega) (fun c11_1 => ?_) (fun c11_1 => ?_)
  · exfalso; omega
  ·
    refine rg_aload_n F 0 0 rfl dX9_split_14 rfl ?_
    refine rg_get F 0 5 tC0 cX9 k_lays_X9 (by decide) k_fl_X9_49 rfl (v := .ref (κ.2.2.2 6)) rfl dX9_split_15 ?_
    refine rg_callVI F [] [] 6 (k_X3_isAnyRaceSailed κ σ (σ 30) (nr) rfl (h2_3) (by first | assumption | omega) (by first | exact rg_zS_Rg h30 | exact h30)) tC6 cX3 v_X3_isAnyRaceSailed i_X3_isAnyRaceSailed k_ml_X9_206 ⟨Nat.le_of_ble_eq_true rfl, Nat.le_of_ble_eq_true rfl⟩ rfl (Nat.le_of_ble_eq_true rfl) dX9_split_18 (rg_ex2 ?_)
    show rg_G κ Γ rg_tC 4 0 0 (18 + 3) [(0, .ref (κ.2.2.2 0)), (1, .int (rg_I g)), (2, .int (rg_I v))] [.int (rg_I (rg_b (∃ r, r < nr ∧ ¬ (σ 30) r = 0)))] σ
    refine rg_if_ne F 34 dX9_split_21 (by decide) (by have b0 := rg_b_Rg (∃ r, r < nr ∧ ¬ (σ 30) r = 0); omega) (fun c21_2 => ?_) (fun c21_2 => ?_)
    ·
      have c21_2 := (rg_b_ne0 _).mp c21_2
      refine rg_iload_n F 1 1 rfl dX9_split_34 rfl ?_
      refine rg_iconst F dX9_split_35 ?_
      refine rg_icmp_lt F 68 dX9_split_36 (by decide) (by omega) (by omega) (fun c36_3 => ?_) (fun c36_3 => ?_)
      ·
        exact rg_thrS F hR 34 k_str_212 k_tf_IAE dX9_split_68 dX9_split_71 dX9_split_72 dX9_split_74 dX9_split_77 (Nat.le_of_ble_eq_true rfl) (Nat.le_of_ble_eq_true rfl)
      ·
        refine rg_iload_n F 2 2 rfl dX9_split_39 rfl ?_
        refine rg_iconst F dX9_split_40 ?_
        refine rg_icmp_lt F 68 dX9_split_41 (by decide) (by omega) (by omega) (fun c41_4 => ?_) (fun c41_4 => ?_)
        ·
          exact rg_thrS F hR 34 k_str_212 k_tf_IAE dX9_split_68 dX9_split_71 dX9_split_72 dX9_split_74 dX9_split_77 (Nat.le_of_ble_eq_true rfl) (Nat.le_of_ble_eq_true rfl)
        ·
          refine rg_iload_n F 1 1 rfl dX9_split_44 rfl ?_
          refine rg_aload_n F 0 0 rfl dX9_split_45 rfl ?_
          refine rg_get F 0 0 tC0 cX9 k_lays_X9 (by decide) k_fl_X9_12 rfl (v := .ref (κ.2.2.2 1)) rfl dX9_split_46 ?_
          refine rg_get F 1 2 tC1 cX0 k_lays_X0 (by decide) k_fl_X9_92 rfl (v := .int (rg_I ((nb : Nat) : Int))) (congrArg (fun x => Value.int (rg_I x)) h1_2) dX9_split_49 ?_
          refine rg_icmp_gt F 68 dX9_split_52 (by decide) (by omega) (by omega) (fun c52_5 => ?_) (fun c52_5 => ?_)
          ·
            exact rg_thrS F hR 34 k_str_212 k_tf_IAE dX9_split_68 dX9_split_71 dX9_split_72 dX9_split_74 dX9_split_77 (Nat.le_of_ble_eq_true rfl) (Nat.le_of_ble_eq_true rfl)
          ·
            refine rg_iload_n F 2 2 rfl dX9_split_55 rfl ?_
            refine rg_aload_n F 0 0 rfl dX9_split_56 rfl ?_
            refine rg_get F 0 0 tC0 cX9 k_lays_X9 (by decide) k_fl_X9_12 rfl (v := .ref (κ.2.2.2 1)) rfl dX9_split_57 ?_
            refine rg_get F 1 2 tC1 cX0 k_lays_X0 (by decide) k_fl_X9_92 rfl (v := .int (rg_I ((nb : Nat) : Int))) (congrArg (fun x => Value.int (rg_I x)) h1_2) dX9_split_60 ?_
            refine rg_iload_n F 1 1 rfl dX9_split_63 rfl ?_
            refine rg_isub F dX9_split_64 ?_
            refine rg_icmp_le F 78 dX9_split_65 (by decide) (by omega) (by omega) (fun c65_6 => ?_) (fun c65_6 => ?_)
            · exfalso; omega
            ·
              exact rg_thrS F hR 34 k_str_212 k_tf_IAE dX9_split_68 dX9_split_71 dX9_split_72 dX9_split_74 dX9_split_77 (Nat.le_of_ble_eq_true rfl) (Nat.le_of_ble_eq_true rfl)
    · exact absurd c21_2 ((rg_b_ne0 _).mpr hk.1.2)
