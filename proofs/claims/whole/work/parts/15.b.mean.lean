/-! mean on both sides (laid by program). -/
set_option maxHeartbeats 400000 in
set_option maxRecDepth 100000 in
/-- mean, stale -/
theorem k_X9_mean_y (κ : rg_K) (σ : rg_S) (b : Int) (st : Int) (nb : Nat) (nr : Nat) (nd : Nat) (ns : Nat) (h0_9 : σ 0 9 = st) (h1_2 : σ 1 2 = ((nb : Nat) : Int)) (h2_3 : σ 2 3 = ((nr : Nat) : Int)) (h4_4 : σ 4 4 = ((nd : Nat) : Int)) (h5_2 : σ 5 2 = ((ns : Nat) : Int)) (hI : rg_IC σ nb nr nd ns) (hst : st = 0 ∨ st = 1) (hs : ¬ st = 0) (hb : 0 ≤ b ∧ b ≤ ((nb : Nat) : Int) - 1) (hm : 0 ≤ (rg_zM σ nd nb nr) (Int.toNat b) ∧ (rg_zM σ nd nb nr) (Int.toNat b) ≤ 16) : rg_CD κ rg_tC yX9_mean cX9_mean 3 6 132 [.ref (κ.2.2.2 0), .int (rg_I b)] σ (fun r9 σ9 => r9 = (rg_dq ((rg_zG σ nd nb nr) (Int.toNat b)) ((rg_zM σ nd nb nr) (Int.toNat b))) ∧ σ9 = (rg_wr (rg_wr (rg_wr (rg_wr (rg_wr (rg_wr (rg_wr (rg_wr (rg_wr (rg_wr (rg_wr (rg_wr (rg_wr (rg_wr (rg_wr (rg_wr (rg_wr (rg_wr (rg_wr σ 0 (rg_up (σ 0) 9 0)) 25 (rg_zE σ nd)) 26 (rg_zA σ nd)) 27 (rg_zP σ nd)) 28 (rg_zI σ nd nb nr)) 29 (rg_zT σ nd nb nr)) 30 (rg_zS σ nd nb nr)) 31 (rg_hd (σ 31) nr (rg_SZ (σ 14) (σ 11) nb))) 32 (rg_s32 (σ 32) (rg_zE σ nd) (rg_zA σ nd) nb nr)) 33 (rg_s33 (σ 33) (rg_zE σ nd) (rg_zA σ nd) nb nr)) 34 (rg_zC σ nd nb nr)) 35 (rg_zD σ nd nb nr ns)) 36 (rg_zM σ nd nb nr)) 37 (rg_zK σ nd nb nr ns)) 38 (rg_zG σ nd nb nr)) 39 (rg_zN σ nd nb nr ns)) 40 (rg_rws nb (rg_zR σ nd nb nr ns))) 41 (rg_zO σ nd nb nr ns)) 42 (rg_RK (rg_zO σ nd nb nr ns) (σ 42) nb))) := by
  have hnb := hI.hnb
  have hnr := hI.hnr
  refine rg_entD [(0, .ref (κ.2.2.2 0)), (1, .int (rg_I b))] rfl (by decide +kernel) (Nat.le_of_ble_eq_true rfl) (fun Γ F hR => ?_)
  refine rg_aload_n F 0 0 rfl dX9_mean_0 rfl ?_
  refine rg_iload_n F 1 1 rfl dX9_mean_1 rfl ?_
  refine rg_callVV F [.int (rg_I b)] [] 0 (k_X9_requireBoat_o κ σ (b) (nb) (h1_2) (by first | assumption | omega) (by first | assumption | omega)) tC0 cX9 v_X9_requireBoat i_X9_requireBoat k_ml_X9_195 ⟨Nat.le_of_ble_eq_true rfl, Nat.le_of_ble_eq_true rfl⟩ rfl (Nat.le_of_ble_eq_true rfl) dX9_mean_2 (rg_ex1 ?_)
  refine rg_aload_n F 0 0 rfl dX9_mean_5 rfl ?_
  refine rg_callVV F [] [] 0 (k_X9_bringUpToDate_y κ σ (st) (nb) (nr) (nd) (ns) (h0_9) (h1_2) (h2_3) (h4_4) (h5_2) hI hst hs) tC0 cX9 v_X9_bringUpToDate i_X9_bringUpToDate k_ml_X9_203 ⟨Nat.le_of_ble_eq_true rfl, Nat.le_of_ble_eq_true rfl⟩ rfl (Nat.le_of_ble_eq_true rfl) dX9_mean_6 (rg_ex1 ?_)
  refine rg_eq (σ' := (rg_wr (rg_wr (rg_wr (rg_wr (rg_wr (rg_wr (rg_wr (rg_wr (rg_wr (rg_wr (rg_wr (rg_wr (rg_wr (rg_wr (rg_wr (rg_wr (rg_wr (rg_wr (rg_wr σ 0 (rg_up (σ 0) 9 0)) 25 (rg_zE σ nd)) 26 (rg_zA σ nd)) 27 (rg_zP σ nd)) 28 (rg_zI σ nd nb nr)) 29 (rg_zT σ nd nb nr)) 30 (rg_zS σ nd nb nr)) 31 (rg_hd (σ 31) nr (rg_SZ (σ 14) (σ 11) nb))) 32 (rg_s32 (σ 32) (rg_zE σ nd) (rg_zA σ nd) nb nr)) 33 (rg_s33 (σ 33) (rg_zE σ nd) (rg_zA σ nd) nb nr)) 34 (rg_zC σ nd nb nr)) 35 (rg_zD σ nd nb nr ns)) 36 (rg_zM σ nd nb nr)) 37 (rg_zK σ nd nb nr ns)) 38 (rg_zG σ nd nb nr)) 39 (rg_zN σ nd nb nr ns)) 40 (rg_rws nb (rg_zR σ nd nb nr ns))) 41 (rg_zO σ nd nb nr ns)) 42 (rg_RK (rg_zO σ nd nb nr ns) (σ 42) nb))) rfl ?_
  refine rg_aload_n F 0 0 rfl dX9_mean_9 rfl ?_
  refine rg_get F 0 6 tC0 cX9 k_lays_X9 (by decide) k_fl_X9_58 rfl (v := .ref (κ.2.2.2 7)) rfl dX9_mean_10 ?_
  refine rg_get F 7 2 tC7 cX6 k_lays_X6 (by decide) k_fl_X9_236 rfl (v := .ref (κ.2.2.2 36)) rfl dX9_mean_13 ?_
  refine rg_iload_n F 1 1 rfl dX9_mean_16 rfl ?_
  refine rg_stk (st' := [.int (rg_I ((Int.toNat b : Nat) : Int)), .ref (κ.2.2.2 36)]) (by rw [Int.toNat_of_nonneg (a := b) (by omega)]) ?_
  refine rg_iald F 36 (Int.toNat b) (v := ((rg_zM σ nd nb nr) (Int.toNat b))) tC36 (by omega) (by omega) (by decide) rfl dX9_mean_17 ?_
  refine rg_istore_n F [(2, .int (rg_I ((rg_zM σ nd nb nr) (Int.toNat b)))), (0, .ref (κ.2.2.2 0)), (1, .int (rg_I b))] dX9_mean_18 rfl (by decide) rfl ?_
  refine rg_iload_n F 0 2 rfl dX9_mean_19 rfl ?_
  refine rg_if_ne F 27 dX9_mean_20 (by decide) (by omega) (fun c20_1 => ?_) (fun c20_1 => ?_)
  ·
    refine rg_aload_n F 1 0 rfl dX9_mean_27 rfl ?_
    refine rg_get F 0 6 tC0 cX9 k_lays_X9 (by decide) k_fl_X9_58 rfl (v := .ref (κ.2.2.2 7)) rfl dX9_mean_28 ?_
    refine rg_get F 7 4 tC7 cX6 k_lays_X6 (by decide) k_fl_X9_233 rfl (v := .ref (κ.2.2.2 38)) rfl dX9_mean_31 ?_
    refine rg_iload_n F 2 1 rfl dX9_mean_34 rfl ?_
    refine rg_iald F 38 (Int.toNat b) (v := ((rg_zG σ nd nb nr) (Int.toNat b))) tC38 (by omega) (by omega) (by decide) rfl dX9_mean_35 ?_
    refine rg_i2d F dX9_mean_36 ?_
    refine rg_bipush F dX9_mean_37 (by decide +kernel) ?_
    refine rg_iload_n F 0 2 rfl dX9_mean_39 rfl ?_
    refine rg_imul F dX9_mean_40 ?_
    refine rg_i2d F dX9_mean_41 ?_
    refine rg_ddiv F dX9_mean_42 (rg_dd_n _ ⟨by omega, by omega⟩ (by omega)) ?_
    exact hR _ _ _ _ dX9_mean_43 ⟨(by unfold rg_dq; first | (rw [if_pos (by assumption)]; done) | (rw [if_neg (by assumption)]; done) | (rw [if_pos (by omega)]; done) | (rw [if_neg (by omega)]; done)), rfl⟩
  ·
    refine rg_dconst0 F dX9_mean_23 ?_
    refine rg_goto F 43 dX9_mean_24 (by decide) ?_
    exact hR _ _ _ _ dX9_mean_43 ⟨(by unfold rg_dq; first | (rw [if_pos (by assumption)]; done) | (rw [if_neg (by assumption)]; done) | (rw [if_pos (by omega)]; done) | (rw [if_neg (by omega)]; done)), rfl⟩
set_option maxHeartbeats 400000 in
set_option maxRecDepth 100000 in
/-- mean, at rest -/
theorem k_X9_mean_n (κ : rg_K) (σ : rg_S) (b : Int) (st : Int) (nb : Nat) (nr : Nat) (nd : Nat) (ns : Nat) (h0_9 : σ 0 9 = st) (h1_2 : σ 1 2 = ((nb : Nat) : Int)) (h2_3 : σ 2 3 = ((nr : Nat) : Int)) (h4_4 : σ 4 4 = ((nd : Nat) : Int)) (h5_2 : σ 5 2 = ((ns : Nat) : Int)) (hI : rg_IC σ nb nr nd ns) (hst : st = 0 ∨ st = 1) (hs : st = 0) (hb : 0 ≤ b ∧ b ≤ ((nb : Nat) : Int) - 1) (hm : 0 ≤ (σ 36) (Int.toNat b) ∧ (σ 36) (Int.toNat b) ≤ 16) : rg_CD κ rg_tC yX9_mean cX9_mean 3 6 132 [.ref (κ.2.2.2 0), .int (rg_I b)] σ (fun r9 σ9 => r9 = (rg_dq ((σ 38) (Int.toNat b)) ((σ 36) (Int.toNat b))) ∧ σ9 = σ) := by
  have hnb := hI.hnb
  have hnr := hI.hnr
  refine rg_entD [(0, .ref (κ.2.2.2 0)), (1, .int (rg_I b))] rfl (by decide +kernel) (Nat.le_of_ble_eq_true rfl) (fun Γ F hR => ?_)
  refine rg_aload_n F 0 0 rfl dX9_mean_0 rfl ?_
  refine rg_iload_n F 1 1 rfl dX9_mean_1 rfl ?_
  refine rg_callVV F [.int (rg_I b)] [] 0 (k_X9_requireBoat_o κ σ (b) (nb) (h1_2) (by first | assumption | omega) (by first | assumption | omega)) tC0 cX9 v_X9_requireBoat i_X9_requireBoat k_ml_X9_195 ⟨Nat.le_of_ble_eq_true rfl, Nat.le_of_ble_eq_true rfl⟩ rfl (Nat.le_of_ble_eq_true rfl) dX9_mean_2 (rg_ex1 ?_)
  refine rg_aload_n F 0 0 rfl dX9_mean_5 rfl ?_
  refine rg_callVV F [] [] 0 (k_X9_bringUpToDate_n κ σ (st) (nb) (nr) (nd) (ns) (h0_9) (h1_2) (h2_3) (h4_4) (h5_2) hI hst hs) tC0 cX9 v_X9_bringUpToDate i_X9_bringUpToDate k_ml_X9_203 ⟨Nat.le_of_ble_eq_true rfl, Nat.le_of_ble_eq_true rfl⟩ rfl (Nat.le_of_ble_eq_true rfl) dX9_mean_6 (rg_ex1 ?_)
  refine rg_aload_n F 0 0 rfl dX9_mean_9 rfl ?_
  refine rg_get F 0 6 tC0 cX9 k_lays_X9 (by decide) k_fl_X9_58 rfl (v := .ref (κ.2.2.2 7)) rfl dX9_mean_10 ?_
  refine rg_get F 7 2 tC7 cX6 k_lays_X6 (by decide) k_fl_X9_236 rfl (v := .ref (κ.2.2.2 36)) rfl dX9_mean_13 ?_
  refine rg_iload_n F 1 1 rfl dX9_mean_16 rfl ?_
  refine rg_stk (st' := [.int (rg_I ((Int.toNat b : Nat) : Int)), .ref (κ.2.2.2 36)]) (by rw [Int.toNat_of_nonneg (a := b) (by omega)]) ?_
  refine rg_iald F 36 (Int.toNat b) (v := ((σ 36) (Int.toNat b))) tC36 (by omega) (by omega) (by decide) rfl dX9_mean_17 ?_
  refine rg_istore_n F [(2, .int (rg_I ((σ 36) (Int.toNat b)))), (0, .ref (κ.2.2.2 0)), (1, .int (rg_I b))] dX9_mean_18 rfl (by decide) rfl ?_
  refine rg_iload_n F 0 2 rfl dX9_mean_19 rfl ?_
  refine rg_if_ne F 27 dX9_mean_20 (by decide) (by omega) (fun c20_1 => ?_) (fun c20_1 => ?_)
  ·
    refine rg_aload_n F 1 0 rfl dX9_mean_27 rfl ?_
    refine rg_get F 0 6 tC0 cX9 k_lays_X9 (by decide) k_fl_X9_58 rfl (v := .ref (κ.2.2.2 7)) rfl dX9_mean_28 ?_
    refine rg_get F 7 4 tC7 cX6 k_lays_X6 (by decide) k_fl_X9_233 rfl (v := .ref (κ.2.2.2 38)) rfl dX9_mean_31 ?_
    refine rg_iload_n F 2 1 rfl dX9_mean_34 rfl ?_
    refine rg_iald F 38 (Int.toNat b) (v := ((σ 38) (Int.toNat b))) tC38 (by omega) (by omega) (by decide) rfl dX9_mean_35 ?_
    refine rg_i2d F dX9_mean_36 ?_
    refine rg_bipush F dX9_mean_37 (by decide +kernel) ?_
    refine rg_iload_n F 0 2 rfl dX9_mean_39 rfl ?_
    refine rg_imul F dX9_mean_40 ?_
    refine rg_i2d F dX9_mean_41 ?_
    refine rg_ddiv F dX9_mean_42 (rg_dd_n _ ⟨by omega, by omega⟩ (by omega)) ?_
    exact hR _ _ _ _ dX9_mean_43 ⟨(by unfold rg_dq; first | (rw [if_pos (by assumption)]; done) | (rw [if_neg (by assumption)]; done) | (rw [if_pos (by omega)]; done) | (rw [if_neg (by omega)]; done)), rfl⟩
  ·
    refine rg_dconst0 F dX9_mean_23 ?_
    refine rg_goto F 43 dX9_mean_24 (by decide) ?_
    exact hR _ _ _ _ dX9_mean_43 ⟨(by unfold rg_dq; first | (rw [if_pos (by assumption)]; done) | (rw [if_neg (by assumption)]; done) | (rw [if_pos (by omega)]; done) | (rw [if_neg (by omega)]; done)), rfl⟩
set_option maxHeartbeats 400000 in
set_option maxRecDepth 100000 in
/-- mean, done -/
theorem k_X10_mean_o (κ : rg_K) (σ : rg_S) (b : Int) (nb : Nat) (nr : Nat) (nd : Nat) (tr : Int) (ns : Nat) (h0_1 : σ 0 1 = ((nb : Nat) : Int)) (h0_4 : σ 0 4 = ((nr : Nat) : Int)) (h0_11 : σ 0 11 = ((nd : Nat) : Int)) (h0_16 : σ 0 16 = tr) (h0_17 : σ 0 17 = ((ns : Nat) : Int)) (hI : rg_IM σ nb nr nd ns tr) (hb : rg_Rg b) (hc : (rg_cI ((nb : Nat) : Int) b) = 0) : rg_CD κ rg_tM yX10_mean cX10_mean 3 6 140 [.ref (κ.2.2.2 0), .int (rg_I b)] σ (fun r9 σ9 => r9 = (rg_dq (rg_kG σ tr nd nb nr (Int.toNat b)) (rg_kM σ tr nd nb nr (Int.toNat b))) ∧ σ9 = (rg_wr (rg_wr (rg_wr (rg_wr (rg_wr (rg_wr (rg_wr (rg_wr (rg_wr (rg_wr (rg_wr σ 0 (rg_up (σ 0) 0 0)) 15 (rg_kE σ tr nd nb nr)) 16 (rg_kA σ tr nd nb nr)) 17 (rg_kP σ tr nd nb nr)) 18 (rg_kS σ tr nd nb nr)) 19 (rg_kT σ tr nd nb nr)) 20 (rg_ctb (σ 20) nr nb (fun _ _ => True) (rg_kD σ tr nd nb nr ns))) 21 (rg_hd (σ 21) nb (rg_kG σ tr nd nb nr))) 22 (rg_hd (σ 22) nb (rg_kN σ tr nd nb nr ns))) 23 (rg_hd (σ 23) nb (rg_kM σ tr nd nb nr))) 24 (rg_hd (σ 24) nb (rg_kC σ tr nd nb nr ns)))) := by
  have hnb := hI.hnb
  have hnr := hI.hnr
  have hnd := hI.hnd
  have hns := hI.hns
  have hcb := rg_cI_0 hc
  have hkm : 0 ≤ (rg_kM σ tr nd nb nr (Int.toNat b)) ∧ (rg_kM σ tr nd nb nr (Int.toNat b)) ≤ nr := rg_kM_bd
  refine rg_entD [(0, .ref (κ.2.2.2 0)), (1, .int (rg_I b))] rfl (by decide +kernel) (Nat.le_of_ble_eq_true rfl) (fun Γ F hR => ?_)
  refine rg_aload_n F 0 0 rfl dX10_mean_0 rfl ?_
  refine rg_iload_n F 1 1 rfl dX10_mean_1 rfl ?_
  refine rg_callVI F [.int (rg_I b)] [] 0 (k_X10_reckonFor_o κ σ (b) (nb) (nr) (nd) (tr) (ns) (h0_1) (h0_4) (h0_11) (h0_16) (h0_17) hI (by first | assumption | omega) (by first | assumption | omega)) tM0 cX10 v_X10_reckonFor i_X10_reckonFor k_ml_X10_196 ⟨Nat.le_of_ble_eq_true rfl, Nat.le_of_ble_eq_true rfl⟩ rfl (Nat.le_of_ble_eq_true rfl) dX10_mean_2 (rg_ex2 ?_)
  refine rg_eq (σ' := (rg_wr (rg_wr (rg_wr (rg_wr (rg_wr (rg_wr (rg_wr (rg_wr (rg_wr (rg_wr (rg_wr σ 0 (rg_up (σ 0) 0 0)) 15 (rg_kE σ tr nd nb nr)) 16 (rg_kA σ tr nd nb nr)) 17 (rg_kP σ tr nd nb nr)) 18 (rg_kS σ tr nd nb nr)) 19 (rg_kT σ tr nd nb nr)) 20 (rg_ctb (σ 20) nr nb (fun _ _ => True) (rg_kD σ tr nd nb nr ns))) 21 (rg_hd (σ 21) nb (rg_kG σ tr nd nb nr))) 22 (rg_hd (σ 22) nb (rg_kN σ tr nd nb nr ns))) 23 (rg_hd (σ 23) nb (rg_kM σ tr nd nb nr))) 24 (rg_hd (σ 24) nb (rg_kC σ tr nd nb nr ns)))) rfl ?_
  refine rg_if_eq F 21 dX10_mean_5 (by decide) (by omega) (fun c5_1 => ?_) (fun c5_1 => ?_)
  · exfalso; omega
  ·
    refine rg_aload_n F 0 0 rfl dX10_mean_8 rfl ?_
    refine rg_get F 0 29 tM0 cX10 k_lays_X10 (by decide) k_fl_X10_77 rfl (v := .ref (κ.2.2.2 23)) rfl dX10_mean_9 ?_
    refine rg_iload_n F 1 1 rfl dX10_mean_12 rfl ?_
    refine rg_stk (st' := [.int (rg_I ((Int.toNat b : Nat) : Int)), .ref (κ.2.2.2 23)]) (by rw [Int.toNat_of_nonneg (a := b) (by omega)]) ?_
    refine rg_iald F 23 (Int.toNat b) (v := (rg_kM σ tr nd nb nr (Int.toNat b))) tM23 (by omega) (by omega) (by decide) ((show (rg_hd (σ 23) nb (rg_kM σ tr nd nb nr)) (Int.toNat b) = (rg_kM σ tr nd nb nr (Int.toNat b)) from (rg_hd_at _ _ (by omega)))) dX10_mean_13 ?_
    refine rg_if_le F 21 dX10_mean_14 (by decide) (by omega) (fun c14_2 => ?_) (fun c14_2 => ?_)
    ·
      refine rg_iconst F dX10_mean_21 ?_
      refine rg_istore_n F [(2, .int (rg_I 0)), (0, .ref (κ.2.2.2 0)), (1, .int (rg_I b))] dX10_mean_22 rfl (by decide) rfl ?_
      refine rg_iload_n F 0 2 rfl dX10_mean_23 rfl ?_
      refine rg_if_eq F 48 dX10_mean_24 (by decide) (by omega) (fun c24_3 => ?_) (fun c24_3 => ?_)
      ·
        refine rg_dconst0 F dX10_mean_48 ?_
        exact hR _ _ _ _ dX10_mean_49 ⟨(by unfold rg_dq; first | (rw [if_pos (by assumption)]; done) | (rw [if_neg (by assumption)]; done) | (rw [if_pos (by omega)]; done) | (rw [if_neg (by omega)]; done)), rfl⟩
      · exfalso; omega
    ·
      refine rg_iconst F dX10_mean_17 ?_
      refine rg_goto F 22 dX10_mean_18 (by decide) ?_
      refine rg_istore_n F [(2, .int (rg_I 1)), (0, .ref (κ.2.2.2 0)), (1, .int (rg_I b))] dX10_mean_22 rfl (by decide) rfl ?_
      refine rg_iload_n F 0 2 rfl dX10_mean_23 rfl ?_
      refine rg_if_eq F 48 dX10_mean_24 (by decide) (by omega) (fun c24_4 => ?_) (fun c24_4 => ?_)
      · first | exact absurd c24_4 c5_1 | exact absurd c5_1 c24_4 | exact absurd ((rg_b_ne0 _).mp c24_4) c5_1 | exact absurd c5_1 ((rg_b_eq0 _).mp c24_4)
      ·
        refine rg_aload_n F 1 0 rfl dX10_mean_27 rfl ?_
        refine rg_get F 0 27 tM0 cX10 k_lays_X10 (by decide) k_fl_X10_71 rfl (v := .ref (κ.2.2.2 21)) rfl dX10_mean_28 ?_
        refine rg_iload_n F 2 1 rfl dX10_mean_31 rfl ?_
        refine rg_stk (st' := [.int (rg_I ((Int.toNat b : Nat) : Int)), .ref (κ.2.2.2 21)]) (by rw [Int.toNat_of_nonneg (a := b) (by omega)]) ?_
        refine rg_iald F 21 (Int.toNat b) (v := (rg_kG σ tr nd nb nr (Int.toNat b))) tM21 (by omega) (by omega) (by decide) ((show (rg_hd (σ 21) nb (rg_kG σ tr nd nb nr)) (Int.toNat b) = (rg_kG σ tr nd nb nr (Int.toNat b)) from (rg_hd_at _ _ (by omega)))) dX10_mean_32 ?_
        refine rg_i2d F dX10_mean_33 ?_
        refine rg_bipush F dX10_mean_34 (by decide +kernel) ?_
        refine rg_aload_n F 1 0 rfl dX10_mean_36 rfl ?_
        refine rg_get F 0 29 tM0 cX10 k_lays_X10 (by decide) k_fl_X10_77 rfl (v := .ref (κ.2.2.2 23)) rfl dX10_mean_37 ?_
        refine rg_iload_n F 2 1 rfl dX10_mean_40 rfl ?_
        refine rg_stk (st' := [.int (rg_I ((Int.toNat b : Nat) : Int)), .ref (κ.2.2.2 23), .int (rg_I 10), .double (FP.i2d (rg_I (rg_kG σ tr nd nb nr (Int.toNat b))))]) (by rw [Int.toNat_of_nonneg (a := b) (by omega)]) ?_
        refine rg_iald F 23 (Int.toNat b) (v := (rg_kM σ tr nd nb nr (Int.toNat b))) tM23 (by omega) (by omega) (by decide) ((show (rg_hd (σ 23) nb (rg_kM σ tr nd nb nr)) (Int.toNat b) = (rg_kM σ tr nd nb nr (Int.toNat b)) from (rg_hd_at _ _ (by omega)))) dX10_mean_41 ?_
        refine rg_imul F dX10_mean_42 ?_
        refine rg_i2d F dX10_mean_43 ?_
        refine rg_ddiv F dX10_mean_44 (rg_dd_n _ ⟨by omega, by omega⟩ (by omega)) ?_
        refine rg_goto F 49 dX10_mean_45 (by decide) ?_
        exact hR _ _ _ _ dX10_mean_49 ⟨(by unfold rg_dq; first | (rw [if_pos (by assumption)]; done) | (rw [if_neg (by assumption)]; done) | (rw [if_pos (by omega)]; done) | (rw [if_neg (by omega)]; done)), rfl⟩
set_option maxHeartbeats 400000 in
set_option maxRecDepth 100000 in
/-- mean, refused -/
theorem k_X10_mean_n (κ : rg_K) (σ : rg_S) (b : Int) (nb : Nat) (nr : Nat) (nd : Nat) (tr : Int) (ns : Nat) (h0_1 : σ 0 1 = ((nb : Nat) : Int)) (h0_4 : σ 0 4 = ((nr : Nat) : Int)) (h0_11 : σ 0 11 = ((nd : Nat) : Int)) (h0_16 : σ 0 16 = tr) (h0_17 : σ 0 17 = ((ns : Nat) : Int)) (hI : rg_IM σ nb nr nd ns tr) (hb : rg_Rg b) (hc : ¬ (rg_cI ((nb : Nat) : Int) b) = 0) : rg_CD κ rg_tM yX10_mean cX10_mean 3 6 140 [.ref (κ.2.2.2 0), .int (rg_I b)] σ (fun r9 σ9 => r9 = FP.dconst0 ∧ σ9 = (rg_wr σ 0 (rg_up (σ 0) 0 (rg_cI ((nb : Nat) : Int) b)))) := by
  have hnb := hI.hnb
  have hnr := hI.hnr
  have hnd := hI.hnd
  have hns := hI.hns
  refine rg_entD [(0, .ref (κ.2.2.2 0)), (1, .int (rg_I b))] rfl (by decide +kernel) (Nat.le_of_ble_eq_true rfl) (fun Γ F hR => ?_)
  refine rg_aload_n F 0 0 rfl dX10_mean_0 rfl ?_
  refine rg_iload_n F 1 1 rfl dX10_mean_1 rfl ?_
  refine rg_callVI F [.int (rg_I b)] [] 0 (k_X10_reckonFor_n κ σ (b) (nb) (nr) (nd) (tr) (ns) (h0_1) (h0_4) (h0_11) (h0_16) (h0_17) hI (by first | assumption | omega) (by first | assumption | omega)) tM0 cX10 v_X10_reckonFor i_X10_reckonFor k_ml_X10_196 ⟨Nat.le_of_ble_eq_true rfl, Nat.le_of_ble_eq_true rfl⟩ rfl (Nat.le_of_ble_eq_true rfl) dX10_mean_2 (rg_ex2 ?_)
  refine rg_eq (σ' := (rg_wr σ 0 (rg_up (σ 0) 0 (rg_cI ((nb : Nat) : Int) b)))) rfl ?_
  refine rg_if_eq F 21 dX10_mean_5 (by decide) (by omega) (fun c5_1 => ?_) (fun c5_1 => ?_)
  ·
    refine rg_iconst F dX10_mean_21 ?_
    refine rg_istore_n F [(2, .int (rg_I 0)), (0, .ref (κ.2.2.2 0)), (1, .int (rg_I b))] dX10_mean_22 rfl (by decide) rfl ?_
    refine rg_iload_n F 0 2 rfl dX10_mean_23 rfl ?_
    refine rg_if_eq F 48 dX10_mean_24 (by decide) (by omega) (fun c24_2 => ?_) (fun c24_2 => ?_)
    ·
      refine rg_dconst0 F dX10_mean_48 ?_
      exact hR _ _ _ _ dX10_mean_49 ⟨rfl, rfl⟩
    · first | exact absurd c24_2 c5_1 | exact absurd c5_1 c24_2 | exact absurd ((rg_b_ne0 _).mp c24_2) c5_1 | exact absurd c5_1 ((rg_b_eq0 _).mp c24_2)
  · exfalso; omega
