/-! Contracts of the reference, 8 (laid by program). -/
set_option maxHeartbeats 400000 in
set_option maxRecDepth 100000 in
/-- at, done -/
theorem k_X10_at_o (κ : rg_K) (σ : rg_S) (x : Int) (nb : Nat) (nr : Nat) (nd : Nat) (tr : Int) (ns : Nat) (h0_1 : σ 0 1 = ((nb : Nat) : Int)) (h0_4 : σ 0 4 = ((nr : Nat) : Int)) (h0_11 : σ 0 11 = ((nd : Nat) : Int)) (h0_16 : σ 0 16 = tr) (h0_17 : σ 0 17 = ((ns : Nat) : Int)) (hI : rg_IM σ nb nr nd ns tr) (hx : rg_Rg x) (hc : (rg_cJ ((nb : Nat) : Int) x) = 0) : rg_CI κ rg_tM yX10_at cX10_at 2 FieldType.int 7 164 [.ref (κ.2.2.2 0), .int (rg_I x)] σ (fun r9 σ9 => r9 = (rg_bo (rg_hd (σ 25) nb (fun c => ((rg_rO (rg_kO σ tr nd nb nr ns) nb c : Nat) : Int))) x nb) ∧ σ9 = (rg_wr (rg_wr (rg_wr (rg_wr (rg_wr (rg_wr (rg_wr (rg_wr (rg_wr (rg_wr (rg_wr (rg_wr σ 0 (rg_rA (rg_kK σ tr nd nb nr ns) nb (rg_up (σ 0) 0 0) nb)) 15 (rg_kE σ tr nd nb nr)) 16 (rg_kA σ tr nd nb nr)) 17 (rg_kP σ tr nd nb nr)) 18 (rg_kS σ tr nd nb nr)) 19 (rg_kT σ tr nd nb nr)) 20 (rg_ctb (σ 20) nr nb (fun _ _ => True) (rg_kD σ tr nd nb nr ns))) 21 (rg_hd (σ 21) nb (rg_kG σ tr nd nb nr))) 22 (rg_hd (σ 22) nb (rg_kN σ tr nd nb nr ns))) 23 (rg_hd (σ 23) nb (rg_kM σ tr nd nb nr))) 24 (rg_hd (σ 24) nb (rg_kC σ tr nd nb nr ns))) 25 (rg_hd (σ 25) nb (fun c => ((rg_rO (rg_kO σ tr nd nb nr ns) nb c : Nat) : Int))))) := by
  have hnb := hI.hnb
  have hnr := hI.hnr
  have hnd := hI.hnd
  have hns := hI.hns
  have hcb := rg_cJ_0 hc
  refine rg_entI [(0, .ref (κ.2.2.2 0)), (1, .int (rg_I x))] rfl (by decide +kernel) (Nat.le_of_ble_eq_true rfl) (by first | exact Or.inl rfl | exact Or.inr rfl) (fun Γ F hR => ?_)
  refine rg_aload_n F 0 0 rfl dX10_at_0 rfl ?_
  refine rg_iload_n F 1 1 rfl dX10_at_1 rfl ?_
  refine rg_iconst F dX10_at_2 ?_
  refine rg_aload_n F 0 0 rfl dX10_at_3 rfl ?_
  refine rg_get F 0 1 tM0 cX10 k_lays_X10 (by decide) k_fl_X10_102 rfl (v := .int (rg_I ((nb : Nat) : Int))) (congrArg (fun x => Value.int (rg_I x)) h0_1) dX10_at_4 ?_
  refine rg_callSI F [.int (rg_I x), .int (rg_I 1), .int (rg_I ((nb : Nat) : Int))] [.ref (κ.2.2.2 0)] (k_X10_in κ rg_tM σ (x) (1) (((nb : Nat) : Int)) (by first | assumption | omega) (by first | assumption | omega) (by first | assumption | omega)) v_X10_in k_st_yX10_in k_ml_X10_172 ⟨Nat.le_of_ble_eq_true rfl, Nat.le_of_ble_eq_true rfl⟩ rfl (Nat.le_of_ble_eq_true rfl) dX10_at_7 (rg_ex2 ?_)
  show rg_G κ Γ rg_tM 2 0 0 (7 + 3) [(0, .ref (κ.2.2.2 0)), (1, .int (rg_I x))] [.int (rg_I (rg_b (1 ≤ x ∧ x ≤ ((nb : Nat) : Int)))), .ref (κ.2.2.2 0)] σ
  refine rg_if_eq F 17 dX10_at_10 (by decide) (by have b0 := rg_b_Rg (1 ≤ x ∧ x ≤ ((nb : Nat) : Int)); omega) (fun c10_1 => ?_) (fun c10_1 => ?_)
  ·
    have c10_1 := (rg_b_eq0 _).mp c10_1
    refine rg_iconst F dX10_at_17 ?_
    refine rg_put F 0 0 tM0 cX10 k_lays_X10 tyX10_ok nmX10 (by decide) k_fl_X10_89 rfl rfl rfl rfl (f9 := (σ 0)) rfl (rg_wr σ 0 (rg_up (σ 0) 0 1)) rfl dX10_at_18 ?_
    refine rg_aload_n F 0 0 rfl dX10_at_21 rfl ?_
    refine rg_get F 0 0 tM0 cX10 k_lays_X10 (by decide) k_fl_X10_89 rfl (v := .int (rg_I 1)) rfl dX10_at_22 ?_
    exfalso; unfold rg_cJ at hc; (repeat' split at hc) <;> omega
  ·
    have c10_1 := (rg_b_ne0 _).mp c10_1
    refine rg_iconst F dX10_at_13 ?_
    refine rg_goto F 18 dX10_at_14 (by decide) ?_
    refine rg_put F 0 0 tM0 cX10 k_lays_X10 tyX10_ok nmX10 (by decide) k_fl_X10_89 rfl rfl rfl rfl (f9 := (σ 0)) rfl (rg_wr σ 0 (rg_up (σ 0) 0 0)) rfl dX10_at_18 ?_
    refine rg_aload_n F 0 0 rfl dX10_at_21 rfl ?_
    refine rg_get F 0 0 tM0 cX10 k_lays_X10 (by decide) k_fl_X10_89 rfl (v := .int (rg_I 0)) rfl dX10_at_22 ?_
    refine rg_if_le F 30 dX10_at_25 (by decide) (by omega) (fun c25_2 => ?_) (fun c25_2 => ?_)
    ·
      refine rg_aload_n F 0 0 rfl dX10_at_30 rfl ?_
      refine rg_callVV F [] [] 0 (k_X10_reckon κ (rg_wr σ 0 (rg_up (σ 0) 0 0)) (nb) (nr) (nd) (tr) (ns) (h0_1) (h0_4) (h0_11) (h0_16) (h0_17) (rg_IM_0 hI _)) tM0 cX10 v_X10_reckon i_X10_reckon k_ml_X10_190 ⟨Nat.le_of_ble_eq_true rfl, Nat.le_of_ble_eq_true rfl⟩ rfl (Nat.le_of_ble_eq_true rfl) dX10_at_31 (rg_ex1 ?_)
      refine rg_eq (σ' := (rg_wr (rg_wr (rg_wr (rg_wr (rg_wr (rg_wr (rg_wr (rg_wr (rg_wr (rg_wr (rg_wr σ 0 (rg_up (σ 0) 0 0)) 15 (rg_kE σ tr nd nb nr)) 16 (rg_kA σ tr nd nb nr)) 17 (rg_kP σ tr nd nb nr)) 18 (rg_kS σ tr nd nb nr)) 19 (rg_kT σ tr nd nb nr)) 20 (rg_ctb (σ 20) nr nb (fun _ _ => True) (rg_kD σ tr nd nb nr ns))) 21 (rg_hd (σ 21) nb (rg_kG σ tr nd nb nr))) 22 (rg_hd (σ 22) nb (rg_kN σ tr nd nb nr ns))) 23 (rg_hd (σ 23) nb (rg_kM σ tr nd nb nr))) 24 (rg_hd (σ 24) nb (rg_kC σ tr nd nb nr ns)))) rfl ?_
      refine rg_aload_n F 0 0 rfl dX10_at_34 rfl ?_
      refine rg_callVV F [] [] 0 (k_X10_rankAll κ (rg_wr (rg_wr (rg_wr (rg_wr (rg_wr (rg_wr (rg_wr (rg_wr (rg_wr (rg_wr (rg_wr σ 0 (rg_up (σ 0) 0 0)) 15 (rg_kE σ tr nd nb nr)) 16 (rg_kA σ tr nd nb nr)) 17 (rg_kP σ tr nd nb nr)) 18 (rg_kS σ tr nd nb nr)) 19 (rg_kT σ tr nd nb nr)) 20 (rg_ctb (σ 20) nr nb (fun _ _ => True) (rg_kD σ tr nd nb nr ns))) 21 (rg_hd (σ 21) nb (rg_kG σ tr nd nb nr))) 22 (rg_hd (σ 22) nb (rg_kN σ tr nd nb nr ns))) 23 (rg_hd (σ 23) nb (rg_kM σ tr nd nb nr))) 24 (rg_hd (σ 24) nb (rg_kC σ tr nd nb nr ns))) (σ 1) (σ 2) (σ 3) (σ 4) (rg_kS σ tr nd nb nr) (rg_kT σ tr nd nb nr) (rg_ctb (σ 20) nr nb (fun _ _ => True) (rg_kD σ tr nd nb nr ns)) (rg_hd (σ 22) nb (rg_kN σ tr nd nb nr ns)) (σ 25) (nb) (nr) rfl rfl rfl rfl rfl rfl rfl rfl rfl (h0_1) (h0_4) (by first | assumption | omega) (by first | assumption | omega) hI.hlo hI.hfl (fun j => rg_Rg_of (hI.hkd j)) (rg_kS_Rg hI) (fun j => rg_Rg_of (hI.hrf j)) (rg_w20_Rg hI) (rg_w22_bd hI) (fun c hc o ho => rg_ms2_bd hI ho hc)) tM0 cX10 v_X10_rankAll i_X10_rankAll k_ml_X10_193 ⟨Nat.le_of_ble_eq_true rfl, Nat.le_of_ble_eq_true rfl⟩ rfl (Nat.le_of_ble_eq_true rfl) dX10_at_35 (rg_ex1 ?_)
      refine rg_eq (σ' := (rg_wr (rg_wr (rg_wr (rg_wr (rg_wr (rg_wr (rg_wr (rg_wr (rg_wr (rg_wr (rg_wr (rg_wr σ 0 (rg_rA (rg_ok (σ 1) (σ 2) (rg_hd (σ 22) nb (rg_kN σ tr nd nb nr ns)) (rg_kS σ tr nd nb nr) (σ 4) (σ 3) (rg_kT σ tr nd nb nr) (rg_ctb (σ 20) nr nb (fun _ _ => True) (rg_kD σ tr nd nb nr ns)) nr) nb (rg_up (σ 0) 0 0) nb)) 15 (rg_kE σ tr nd nb nr)) 16 (rg_kA σ tr nd nb nr)) 17 (rg_kP σ tr nd nb nr)) 18 (rg_kS σ tr nd nb nr)) 19 (rg_kT σ tr nd nb nr)) 20 (rg_ctb (σ 20) nr nb (fun _ _ => True) (rg_kD σ tr nd nb nr ns))) 21 (rg_hd (σ 21) nb (rg_kG σ tr nd nb nr))) 22 (rg_hd (σ 22) nb (rg_kN σ tr nd nb nr ns))) 23 (rg_hd (σ 23) nb (rg_kM σ tr nd nb nr))) 24 (rg_hd (σ 24) nb (rg_kC σ tr nd nb nr ns))) 25 (rg_hd (σ 25) nb (fun c => ((rg_rO (rg_od (σ 1) (σ 2) (rg_hd (σ 22) nb (rg_kN σ tr nd nb nr ns)) (rg_kS σ tr nd nb nr) (σ 4) (σ 3) (rg_kT σ tr nd nb nr) (rg_ctb (σ 20) nr nb (fun _ _ => True) (rg_kD σ tr nd nb nr ns)) nr) nb c : Nat) : Int))))) ((rg_wr_congr 25 ((rg_wr_comm _ _ _ (by decide)).trans (rg_wr_congr 24 ((rg_wr_comm _ _ _ (by decide)).trans (rg_wr_congr 23 ((rg_wr_comm _ _ _ (by decide)).trans (rg_wr_congr 22 ((rg_wr_comm _ _ _ (by decide)).trans (rg_wr_congr 21 ((rg_wr_comm _ _ _ (by decide)).trans (rg_wr_congr 20 ((rg_wr_comm _ _ _ (by decide)).trans (rg_wr_congr 19 ((rg_wr_comm _ _ _ (by decide)).trans (rg_wr_congr 18 ((rg_wr_comm _ _ _ (by decide)).trans (rg_wr_congr 17 ((rg_wr_comm _ _ _ (by decide)).trans (rg_wr_congr 16 ((rg_wr_comm _ _ _ (by decide)).trans (rg_wr_congr 15 (rg_wr_wr _ 0 _ _) rfl)) rfl)) rfl)) rfl)) rfl)) rfl)) rfl)) rfl)) rfl)) rfl)) rfl).trans rfl) ?_
      refine rg_aload_n F 0 0 rfl dX10_at_38 rfl ?_
      refine rg_iload_n F 1 1 rfl dX10_at_39 rfl ?_
      refine rg_callVI F [.int (rg_I x)] [] 0 (k_X10_boatOf κ (rg_wr (rg_wr (rg_wr (rg_wr (rg_wr (rg_wr (rg_wr (rg_wr (rg_wr (rg_wr (rg_wr (rg_wr σ 0 (rg_rA (rg_ok (σ 1) (σ 2) (rg_hd (σ 22) nb (rg_kN σ tr nd nb nr ns)) (rg_kS σ tr nd nb nr) (σ 4) (σ 3) (rg_kT σ tr nd nb nr) (rg_ctb (σ 20) nr nb (fun _ _ => True) (rg_kD σ tr nd nb nr ns)) nr) nb (rg_up (σ 0) 0 0) nb)) 15 (rg_kE σ tr nd nb nr)) 16 (rg_kA σ tr nd nb nr)) 17 (rg_kP σ tr nd nb nr)) 18 (rg_kS σ tr nd nb nr)) 19 (rg_kT σ tr nd nb nr)) 20 (rg_ctb (σ 20) nr nb (fun _ _ => True) (rg_kD σ tr nd nb nr ns))) 21 (rg_hd (σ 21) nb (rg_kG σ tr nd nb nr))) 22 (rg_hd (σ 22) nb (rg_kN σ tr nd nb nr ns))) 23 (rg_hd (σ 23) nb (rg_kM σ tr nd nb nr))) 24 (rg_hd (σ 24) nb (rg_kC σ tr nd nb nr ns))) 25 (rg_hd (σ 25) nb (fun c => ((rg_rO (rg_od (σ 1) (σ 2) (rg_hd (σ 22) nb (rg_kN σ tr nd nb nr ns)) (rg_kS σ tr nd nb nr) (σ 4) (σ 3) (rg_kT σ tr nd nb nr) (rg_ctb (σ 20) nr nb (fun _ _ => True) (rg_kD σ tr nd nb nr ns)) nr) nb c : Nat) : Int)))) (x) (rg_hd (σ 25) nb (fun c => ((rg_rO (rg_od (σ 1) (σ 2) (rg_hd (σ 22) nb (rg_kN σ tr nd nb nr ns)) (rg_kS σ tr nd nb nr) (σ 4) (σ 3) (rg_kT σ tr nd nb nr) (rg_ctb (σ 20) nr nb (fun _ _ => True) (rg_kD σ tr nd nb nr ns)) nr) nb c : Nat) : Int))) (nb) rfl ((show (rg_rA (rg_ok (σ 1) (σ 2) (rg_hd (σ 22) nb (rg_kN σ tr nd nb nr ns)) (rg_kS σ tr nd nb nr) (σ 4) (σ 3) (rg_kT σ tr nd nb nr) (rg_ctb (σ 20) nr nb (fun _ _ => True) (rg_kD σ tr nd nb nr ns)) nr) nb (rg_up (σ 0) 0 0) nb) 1 = ((nb : Nat) : Int) from (rg_rA_ne _ _ _ _ (by decide)).trans h0_1)) (by first | assumption | omega) (by first | assumption | omega) (rg_hd_Rg hI.h25 (fun c => rg_rO_Rg hnb c))) tM0 cX10 v_X10_boatOf i_X10_boatOf k_ml_X10_202 ⟨Nat.le_of_ble_eq_true rfl, Nat.le_of_ble_eq_true rfl⟩ rfl (Nat.le_of_ble_eq_true rfl) dX10_at_40 (rg_ex2 ?_)
      show rg_G κ Γ rg_tM 2 0 0 (40 + 3) [(0, .ref (κ.2.2.2 0)), (1, .int (rg_I x))] [.int (rg_I (rg_bo (rg_hd (σ 25) nb (fun c => ((rg_rO (rg_od (σ 1) (σ 2) (rg_hd (σ 22) nb (rg_kN σ tr nd nb nr ns)) (rg_kS σ tr nd nb nr) (σ 4) (σ 3) (rg_kT σ tr nd nb nr) (rg_ctb (σ 20) nr nb (fun _ _ => True) (rg_kD σ tr nd nb nr ns)) nr) nb c : Nat) : Int))) x nb))] (rg_wr (rg_wr (rg_wr (rg_wr (rg_wr (rg_wr (rg_wr (rg_wr (rg_wr (rg_wr (rg_wr (rg_wr σ 0 (rg_rA (rg_ok (σ 1) (σ 2) (rg_hd (σ 22) nb (rg_kN σ tr nd nb nr ns)) (rg_kS σ tr nd nb nr) (σ 4) (σ 3) (rg_kT σ tr nd nb nr) (rg_ctb (σ 20) nr nb (fun _ _ => True) (rg_kD σ tr nd nb nr ns)) nr) nb (rg_up (σ 0) 0 0) nb)) 15 (rg_kE σ tr nd nb nr)) 16 (rg_kA σ tr nd nb nr)) 17 (rg_kP σ tr nd nb nr)) 18 (rg_kS σ tr nd nb nr)) 19 (rg_kT σ tr nd nb nr)) 20 (rg_ctb (σ 20) nr nb (fun _ _ => True) (rg_kD σ tr nd nb nr ns))) 21 (rg_hd (σ 21) nb (rg_kG σ tr nd nb nr))) 22 (rg_hd (σ 22) nb (rg_kN σ tr nd nb nr ns))) 23 (rg_hd (σ 23) nb (rg_kM σ tr nd nb nr))) 24 (rg_hd (σ 24) nb (rg_kC σ tr nd nb nr ns))) 25 (rg_hd (σ 25) nb (fun c => ((rg_rO (rg_od (σ 1) (σ 2) (rg_hd (σ 22) nb (rg_kN σ tr nd nb nr ns)) (rg_kS σ tr nd nb nr) (σ 4) (σ 3) (rg_kT σ tr nd nb nr) (rg_ctb (σ 20) nr nb (fun _ _ => True) (rg_kD σ tr nd nb nr ns)) nr) nb c : Nat) : Int))))
      exact hR _ _ _ _ dX10_at_43 (fun h => nomatch h) ⟨rfl, (rg_wr_congr (f := (rg_hd (σ 25) nb (fun c => ((rg_rO (rg_od (σ 1) (σ 2) (rg_hd (σ 22) nb (rg_kN σ tr nd nb nr ns)) (rg_kS σ tr nd nb nr) (σ 4) (σ 3) (rg_kT σ tr nd nb nr) (rg_ctb (σ 20) nr nb (fun _ _ => True) (rg_kD σ tr nd nb nr ns)) nr) nb c : Nat) : Int)))) (g := (rg_hd (σ 25) nb (fun c => ((rg_rO (rg_kO σ tr nd nb nr ns) nb c : Nat) : Int)))) 25 (rg_wr_congr (f := (rg_hd (σ 24) nb (rg_kC σ tr nd nb nr ns))) (g := (rg_hd (σ 24) nb (rg_kC σ tr nd nb nr ns))) 24 (rg_wr_congr (f := (rg_hd (σ 23) nb (rg_kM σ tr nd nb nr))) (g := (rg_hd (σ 23) nb (rg_kM σ tr nd nb nr))) 23 (rg_wr_congr (f := (rg_hd (σ 22) nb (rg_kN σ tr nd nb nr ns))) (g := (rg_hd (σ 22) nb (rg_kN σ tr nd nb nr ns))) 22 (rg_wr_congr (f := (rg_hd (σ 21) nb (rg_kG σ tr nd nb nr))) (g := (rg_hd (σ 21) nb (rg_kG σ tr nd nb nr))) 21 (rg_wr_congr (f := (rg_ctb (σ 20) nr nb (fun _ _ => True) (rg_kD σ tr nd nb nr ns))) (g := (rg_ctb (σ 20) nr nb (fun _ _ => True) (rg_kD σ tr nd nb nr ns))) 20 (rg_wr_congr (f := (rg_kT σ tr nd nb nr)) (g := (rg_kT σ tr nd nb nr)) 19 (rg_wr_congr (f := (rg_kS σ tr nd nb nr)) (g := (rg_kS σ tr nd nb nr)) 18 (rg_wr_congr (f := (rg_kP σ tr nd nb nr)) (g := (rg_kP σ tr nd nb nr)) 17 (rg_wr_congr (f := (rg_kA σ tr nd nb nr)) (g := (rg_kA σ tr nd nb nr)) 16 (rg_wr_congr (f := (rg_kE σ tr nd nb nr)) (g := (rg_kE σ tr nd nb nr)) 15 (rg_wr_congr (f := (rg_rA (rg_ok (σ 1) (σ 2) (rg_hd (σ 22) nb (rg_kN σ tr nd nb nr ns)) (rg_kS σ tr nd nb nr) (σ 4) (σ 3) (rg_kT σ tr nd nb nr) (rg_ctb (σ 20) nr nb (fun _ _ => True) (rg_kD σ tr nd nb nr ns)) nr) nb (rg_up (σ 0) 0 0) nb)) (g := (rg_rA (rg_kK σ tr nd nb nr ns) nb (rg_up (σ 0) 0 0) nb)) 0 rfl rfl) rfl) rfl) rfl) rfl) rfl) rfl) rfl) rfl) rfl) rfl) rfl)⟩
    · exfalso; omega
set_option maxHeartbeats 400000 in
set_option maxRecDepth 100000 in
/-- at, refused -/
theorem k_X10_at_n (κ : rg_K) (σ : rg_S) (x : Int) (nb : Nat) (nr : Nat) (nd : Nat) (tr : Int) (ns : Nat) (h0_1 : σ 0 1 = ((nb : Nat) : Int)) (h0_4 : σ 0 4 = ((nr : Nat) : Int)) (h0_11 : σ 0 11 = ((nd : Nat) : Int)) (h0_16 : σ 0 16 = tr) (h0_17 : σ 0 17 = ((ns : Nat) : Int)) (hI : rg_IM σ nb nr nd ns tr) (hx : rg_Rg x) (hc : ¬ (rg_cJ ((nb : Nat) : Int) x) = 0) : rg_CI κ rg_tM yX10_at cX10_at 2 FieldType.int 7 164 [.ref (κ.2.2.2 0), .int (rg_I x)] σ (fun r9 σ9 => r9 = 0 ∧ σ9 = (rg_wr σ 0 (rg_up (σ 0) 0 (rg_cJ ((nb : Nat) : Int) x)))) := by
  have hnb := hI.hnb
  have hnr := hI.hnr
  have hnd := hI.hnd
  have hns := hI.hns
  refine rg_entI [(0, .ref (κ.2.2.2 0)), (1, .int (rg_I x))] rfl (by decide +kernel) (Nat.le_of_ble_eq_true rfl) (by first | exact Or.inl rfl | exact Or.inr rfl) (fun Γ F hR => ?_)
  refine rg_aload_n F 0 0 rfl dX10_at_0 rfl ?_
  refine rg_iload_n F 1 1 rfl dX10_at_1 rfl ?_
  refine rg_iconst F dX10_at_2 ?_
  refine rg_aload_n F 0 0 rfl dX10_at_3 rfl ?_
  refine rg_get F 0 1 tM0 cX10 k_lays_X10 (by decide) k_fl_X10_102 rfl (v := .int (rg_I ((nb : Nat) : Int))) (congrArg (fun x => Value.int (rg_I x)) h0_1) dX10_at_4 ?_
  refine rg_callSI F [.int (rg_I x), .int (rg_I 1), .int (rg_I ((nb : Nat) : Int))] [.ref (κ.2.2.2 0)] (k_X10_in κ rg_tM σ (x) (1) (((nb : Nat) : Int)) (by first | assumption | omega) (by first | assumption | omega) (by first | assumption | omega)) v_X10_in k_st_yX10_in k_ml_X10_172 ⟨Nat.le_of_ble_eq_true rfl, Nat.le_of_ble_eq_true rfl⟩ rfl (Nat.le_of_ble_eq_true rfl) dX10_at_7 (rg_ex2 ?_)
  show rg_G κ Γ rg_tM 2 0 0 (7 + 3) [(0, .ref (κ.2.2.2 0)), (1, .int (rg_I x))] [.int (rg_I (rg_b (1 ≤ x ∧ x ≤ ((nb : Nat) : Int)))), .ref (κ.2.2.2 0)] σ
  refine rg_if_eq F 17 dX10_at_10 (by decide) (by have b0 := rg_b_Rg (1 ≤ x ∧ x ≤ ((nb : Nat) : Int)); omega) (fun c10_1 => ?_) (fun c10_1 => ?_)
  ·
    have c10_1 := (rg_b_eq0 _).mp c10_1
    refine rg_iconst F dX10_at_17 ?_
    refine rg_put F 0 0 tM0 cX10 k_lays_X10 tyX10_ok nmX10 (by decide) k_fl_X10_89 rfl rfl rfl rfl (f9 := (σ 0)) rfl (rg_wr σ 0 (rg_up (σ 0) 0 1)) rfl dX10_at_18 ?_
    refine rg_aload_n F 0 0 rfl dX10_at_21 rfl ?_
    refine rg_get F 0 0 tM0 cX10 k_lays_X10 (by decide) k_fl_X10_89 rfl (v := .int (rg_I 1)) rfl dX10_at_22 ?_
    refine rg_if_le F 30 dX10_at_25 (by decide) (by omega) (fun c25_2 => ?_) (fun c25_2 => ?_)
    · exfalso; omega
    ·
      refine rg_iconst F dX10_at_28 ?_
      exact hR _ _ _ _ dX10_at_29 (fun h => nomatch h) ⟨rfl, (rg_wr_congr (f := (rg_up (σ 0) 0 1)) (g := (rg_up (σ 0) 0 (rg_cJ ((nb : Nat) : Int) x))) 0 rfl (by (repeat rw [rg_up_up]) <;> first | rfl | exact congrArg (rg_up _ 0) (by unfold rg_cJ; (repeat' split) <;> omega)))⟩
  ·
    have c10_1 := (rg_b_ne0 _).mp c10_1
    refine rg_iconst F dX10_at_13 ?_
    refine rg_goto F 18 dX10_at_14 (by decide) ?_
    refine rg_put F 0 0 tM0 cX10 k_lays_X10 tyX10_ok nmX10 (by decide) k_fl_X10_89 rfl rfl rfl rfl (f9 := (σ 0)) rfl (rg_wr σ 0 (rg_up (σ 0) 0 0)) rfl dX10_at_18 ?_
    refine rg_aload_n F 0 0 rfl dX10_at_21 rfl ?_
    refine rg_get F 0 0 tM0 cX10 k_lays_X10 (by decide) k_fl_X10_89 rfl (v := .int (rg_I 0)) rfl dX10_at_22 ?_
    exfalso; unfold rg_cJ at hc; (repeat' split at hc) <;> omega
set_option maxHeartbeats 400000 in
set_option maxRecDepth 100000 in
/-- tie, done -/
theorem k_X10_tie_o (κ : rg_K) (σ : rg_S) (a b : Int) (nb : Nat) (nr : Nat) (nd : Nat) (tr : Int) (ns : Nat) (h0_1 : σ 0 1 = ((nb : Nat) : Int)) (h0_4 : σ 0 4 = ((nr : Nat) : Int)) (h0_11 : σ 0 11 = ((nd : Nat) : Int)) (h0_16 : σ 0 16 = tr) (h0_17 : σ 0 17 = ((ns : Nat) : Int)) (hI : rg_IM σ nb nr nd ns tr) (ha : rg_Rg a) (hb : rg_Rg b) (hc : (rg_cE ((nb : Nat) : Int) a b) = 0) : rg_CI κ rg_tM yX10_tie cX10_tie 4 FieldType.int 5 120 [.ref (κ.2.2.2 0), .int (rg_I a), .int (rg_I b)] σ (fun r9 σ9 => r9 = (if rg_kO σ tr nd nb nr ns (Int.toNat a) (Int.toNat b) = 0 then 0 else rg_kK σ tr nd nb nr ns (Int.toNat a) (Int.toNat b)) ∧ σ9 = (rg_wr (rg_wr (rg_wr (rg_wr (rg_wr (rg_wr (rg_wr (rg_wr (rg_wr (rg_wr (rg_wr σ 0 (rg_up (rg_up (σ 0) 0 0) 32 (rg_kK σ tr nd nb nr ns (Int.toNat a) (Int.toNat b)))) 15 (rg_kE σ tr nd nb nr)) 16 (rg_kA σ tr nd nb nr)) 17 (rg_kP σ tr nd nb nr)) 18 (rg_kS σ tr nd nb nr)) 19 (rg_kT σ tr nd nb nr)) 20 (rg_ctb (σ 20) nr nb (fun _ _ => True) (rg_kD σ tr nd nb nr ns))) 21 (rg_hd (σ 21) nb (rg_kG σ tr nd nb nr))) 22 (rg_hd (σ 22) nb (rg_kN σ tr nd nb nr ns))) 23 (rg_hd (σ 23) nb (rg_kM σ tr nd nb nr))) 24 (rg_hd (σ 24) nb (rg_kC σ tr nd nb nr ns)))) := by
  have hnb := hI.hnb
  have hnr := hI.hnr
  have hnd := hI.hnd
  have hns := hI.hns
  have hcb := rg_cE_0 hc
  refine rg_entI [(0, .ref (κ.2.2.2 0)), (1, .int (rg_I a)), (2, .int (rg_I b))] rfl (by decide +kernel) (Nat.le_of_ble_eq_true rfl) (by first | exact Or.inl rfl | exact Or.inr rfl) (fun Γ F hR => ?_)
  refine rg_aload_n F 0 0 rfl dX10_tie_0 rfl ?_
  refine rg_iload_n F 1 1 rfl dX10_tie_1 rfl ?_
  refine rg_iconst F dX10_tie_2 ?_
  refine rg_aload_n F 0 0 rfl dX10_tie_3 rfl ?_
  refine rg_get F 0 1 tM0 cX10 k_lays_X10 (by decide) k_fl_X10_102 rfl (v := .int (rg_I ((nb : Nat) : Int))) (congrArg (fun x => Value.int (rg_I x)) h0_1) dX10_tie_4 ?_
  refine rg_iconst F dX10_tie_7 ?_
  refine rg_isub F dX10_tie_8 ?_
  refine rg_callSI F [.int (rg_I a), .int (rg_I 0), .int (rg_I (((nb : Nat) : Int) - 1))] [.ref (κ.2.2.2 0)] (k_X10_in κ rg_tM σ (a) (0) ((((nb : Nat) : Int) - 1)) (by first | assumption | omega) (by first | assumption | omega) (by first | assumption | omega)) v_X10_in k_st_yX10_in k_ml_X10_172 ⟨Nat.le_of_ble_eq_true rfl, Nat.le_of_ble_eq_true rfl⟩ rfl (Nat.le_of_ble_eq_true rfl) dX10_tie_9 (rg_ex2 ?_)
  show rg_G κ Γ rg_tM 4 0 0 (9 + 3) [(0, .ref (κ.2.2.2 0)), (1, .int (rg_I a)), (2, .int (rg_I b))] [.int (rg_I (rg_b (0 ≤ a ∧ a ≤ (((nb : Nat) : Int) - 1)))), .ref (κ.2.2.2 0)] σ
  refine rg_if_eq F 29 dX10_tie_12 (by decide) (by have b0 := rg_b_Rg (0 ≤ a ∧ a ≤ (((nb : Nat) : Int) - 1)); omega) (fun c12_1 => ?_) (fun c12_1 => ?_)
  ·
    have c12_1 := (rg_b_eq0 _).mp c12_1
    refine rg_iconst F dX10_tie_29 ?_
    refine rg_goto F 43 dX10_tie_30 (by decide) ?_
    refine rg_put F 0 0 tM0 cX10 k_lays_X10 tyX10_ok nmX10 (by decide) k_fl_X10_89 rfl rfl rfl rfl (f9 := (σ 0)) rfl (rg_wr σ 0 (rg_up (σ 0) 0 1)) rfl dX10_tie_43 ?_
    refine rg_aload_n F 0 0 rfl dX10_tie_46 rfl ?_
    refine rg_get F 0 0 tM0 cX10 k_lays_X10 (by decide) k_fl_X10_89 rfl (v := .int (rg_I 1)) rfl dX10_tie_47 ?_
    exfalso; unfold rg_cE at hc; (repeat' split at hc) <;> omega
  ·
    have c12_1 := (rg_b_ne0 _).mp c12_1
    refine rg_iload_n F 2 2 rfl dX10_tie_15 rfl ?_
    refine rg_iconst F dX10_tie_16 ?_
    refine rg_aload_n F 0 0 rfl dX10_tie_17 rfl ?_
    refine rg_get F 0 1 tM0 cX10 k_lays_X10 (by decide) k_fl_X10_102 rfl (v := .int (rg_I ((nb : Nat) : Int))) (congrArg (fun x => Value.int (rg_I x)) h0_1) dX10_tie_18 ?_
    refine rg_iconst F dX10_tie_21 ?_
    refine rg_isub F dX10_tie_22 ?_
    refine rg_callSI F [.int (rg_I b), .int (rg_I 0), .int (rg_I (((nb : Nat) : Int) - 1))] [.ref (κ.2.2.2 0)] (k_X10_in κ rg_tM σ (b) (0) ((((nb : Nat) : Int) - 1)) (by first | assumption | omega) (by first | assumption | omega) (by first | assumption | omega)) v_X10_in k_st_yX10_in k_ml_X10_172 ⟨Nat.le_of_ble_eq_true rfl, Nat.le_of_ble_eq_true rfl⟩ rfl (Nat.le_of_ble_eq_true rfl) dX10_tie_23 (rg_ex2 ?_)
    show rg_G κ Γ rg_tM 4 0 0 (23 + 3) [(0, .ref (κ.2.2.2 0)), (1, .int (rg_I a)), (2, .int (rg_I b))] [.int (rg_I (rg_b (0 ≤ b ∧ b ≤ (((nb : Nat) : Int) - 1)))), .ref (κ.2.2.2 0)] σ
    refine rg_if_ne F 33 dX10_tie_26 (by decide) (by have b0 := rg_b_Rg (0 ≤ b ∧ b ≤ (((nb : Nat) : Int) - 1)); omega) (fun c26_2 => ?_) (fun c26_2 => ?_)
    ·
      have c26_2 := (rg_b_ne0 _).mp c26_2
      refine rg_iload_n F 1 1 rfl dX10_tie_33 rfl ?_
      refine rg_iload_n F 2 2 rfl dX10_tie_34 rfl ?_
      refine rg_icmp_ne F 42 dX10_tie_35 (by decide) (by omega) (by omega) (fun c35_3 => ?_) (fun c35_3 => ?_)
      ·
        refine rg_iconst F dX10_tie_42 ?_
        refine rg_put F 0 0 tM0 cX10 k_lays_X10 tyX10_ok nmX10 (by decide) k_fl_X10_89 rfl rfl rfl rfl (f9 := (σ 0)) rfl (rg_wr σ 0 (rg_up (σ 0) 0 0)) rfl dX10_tie_43 ?_
        refine rg_aload_n F 0 0 rfl dX10_tie_46 rfl ?_
        refine rg_get F 0 0 tM0 cX10 k_lays_X10 (by decide) k_fl_X10_89 rfl (v := .int (rg_I 0)) rfl dX10_tie_47 ?_
        refine rg_if_le F 55 dX10_tie_50 (by decide) (by omega) (fun c50_4 => ?_) (fun c50_4 => ?_)
        ·
          refine rg_aload_n F 0 0 rfl dX10_tie_55 rfl ?_
          refine rg_callVV F [] [] 0 (k_X10_reckon κ (rg_wr σ 0 (rg_up (σ 0) 0 0)) (nb) (nr) (nd) (tr) (ns) (h0_1) (h0_4) (h0_11) (h0_16) (h0_17) (rg_IM_0 hI _)) tM0 cX10 v_X10_reckon i_X10_reckon k_ml_X10_190 ⟨Nat.le_of_ble_eq_true rfl, Nat.le_of_ble_eq_true rfl⟩ rfl (Nat.le_of_ble_eq_true rfl) dX10_tie_56 (rg_ex1 ?_)
          refine rg_eq (σ' := (rg_wr (rg_wr (rg_wr (rg_wr (rg_wr (rg_wr (rg_wr (rg_wr (rg_wr (rg_wr (rg_wr σ 0 (rg_up (σ 0) 0 0)) 15 (rg_kE σ tr nd nb nr)) 16 (rg_kA σ tr nd nb nr)) 17 (rg_kP σ tr nd nb nr)) 18 (rg_kS σ tr nd nb nr)) 19 (rg_kT σ tr nd nb nr)) 20 (rg_ctb (σ 20) nr nb (fun _ _ => True) (rg_kD σ tr nd nb nr ns))) 21 (rg_hd (σ 21) nb (rg_kG σ tr nd nb nr))) 22 (rg_hd (σ 22) nb (rg_kN σ tr nd nb nr ns))) 23 (rg_hd (σ 23) nb (rg_kM σ tr nd nb nr))) 24 (rg_hd (σ 24) nb (rg_kC σ tr nd nb nr ns)))) rfl ?_
          refine rg_aload_n F 0 0 rfl dX10_tie_59 rfl ?_
          refine rg_iload_n F 1 1 rfl dX10_tie_60 rfl ?_
          refine rg_stk (st' := [.int (rg_I ((Int.toNat a : Nat) : Int)), .ref (κ.2.2.2 0)]) (by rw [Int.toNat_of_nonneg (a := a) (by omega)]) ?_
          refine rg_iload_n F 2 2 rfl dX10_tie_61 rfl ?_
          refine rg_stk (st' := [.int (rg_I ((Int.toNat b : Nat) : Int)), .int (rg_I ((Int.toNat a : Nat) : Int)), .ref (κ.2.2.2 0)]) (by rw [Int.toNat_of_nonneg (a := b) (by omega)]) ?_
          refine rg_callVI F [.int (rg_I ((Int.toNat a : Nat) : Int)), .int (rg_I ((Int.toNat b : Nat) : Int))] [] 0 (k_X10_order κ (rg_wr (rg_wr (rg_wr (rg_wr (rg_wr (rg_wr (rg_wr (rg_wr (rg_wr (rg_wr (rg_wr σ 0 (rg_up (σ 0) 0 0)) 15 (rg_kE σ tr nd nb nr)) 16 (rg_kA σ tr nd nb nr)) 17 (rg_kP σ tr nd nb nr)) 18 (rg_kS σ tr nd nb nr)) 19 (rg_kT σ tr nd nb nr)) 20 (rg_ctb (σ 20) nr nb (fun _ _ => True) (rg_kD σ tr nd nb nr ns))) 21 (rg_hd (σ 21) nb (rg_kG σ tr nd nb nr))) 22 (rg_hd (σ 22) nb (rg_kN σ tr nd nb nr ns))) 23 (rg_hd (σ 23) nb (rg_kM σ tr nd nb nr))) 24 (rg_hd (σ 24) nb (rg_kC σ tr nd nb nr ns))) ((Int.toNat a)) ((Int.toNat b)) (σ 1) (σ 2) (σ 3) (σ 4) (rg_kS σ tr nd nb nr) (rg_kT σ tr nd nb nr) (rg_ctb (σ 20) nr nb (fun _ _ => True) (rg_kD σ tr nd nb nr ns)) (rg_hd (σ 22) nb (rg_kN σ tr nd nb nr ns)) (nr) rfl rfl rfl rfl rfl rfl rfl rfl (h0_4) (by first | assumption | omega) (by first | assumption | omega) (by first | assumption | omega) hI.hlo hI.hfl (fun j => rg_Rg_of (hI.hkd j)) (rg_kS_Rg hI) (fun j => rg_Rg_of (hI.hrf j)) (rg_w20_Rg hI) (rg_w22_bd hI) (fun o ho => rg_ms2_bd hI ho (by omega)) (fun o ho => rg_ms2_bd hI ho (by omega))) tM0 cX10 v_X10_order i_X10_order k_ml_X10_165 ⟨Nat.le_of_ble_eq_true rfl, Nat.le_of_ble_eq_true rfl⟩ rfl (Nat.le_of_ble_eq_true rfl) dX10_tie_62 (rg_ex2 ?_)
          refine rg_eq (σ' := (rg_wr (rg_wr (rg_wr (rg_wr (rg_wr (rg_wr (rg_wr (rg_wr (rg_wr (rg_wr (rg_wr σ 0 (rg_up (rg_up (σ 0) 0 0) 32 (rg_ok (σ 1) (σ 2) (rg_hd (σ 22) nb (rg_kN σ tr nd nb nr ns)) (rg_kS σ tr nd nb nr) (σ 4) (σ 3) (rg_kT σ tr nd nb nr) (rg_ctb (σ 20) nr nb (fun _ _ => True) (rg_kD σ tr nd nb nr ns)) nr (Int.toNat a) (Int.toNat b)))) 15 (rg_kE σ tr nd nb nr)) 16 (rg_kA σ tr nd nb nr)) 17 (rg_kP σ tr nd nb nr)) 18 (rg_kS σ tr nd nb nr)) 19 (rg_kT σ tr nd nb nr)) 20 (rg_ctb (σ 20) nr nb (fun _ _ => True) (rg_kD σ tr nd nb nr ns))) 21 (rg_hd (σ 21) nb (rg_kG σ tr nd nb nr))) 22 (rg_hd (σ 22) nb (rg_kN σ tr nd nb nr ns))) 23 (rg_hd (σ 23) nb (rg_kM σ tr nd nb nr))) 24 (rg_hd (σ 24) nb (rg_kC σ tr nd nb nr ns)))) ((rg_wr_comm _ _ _ (by decide)).trans (rg_wr_congr 24 ((rg_wr_comm _ _ _ (by decide)).trans (rg_wr_congr 23 ((rg_wr_comm _ _ _ (by decide)).trans (rg_wr_congr 22 ((rg_wr_comm _ _ _ (by decide)).trans (rg_wr_congr 21 ((rg_wr_comm _ _ _ (by decide)).trans (rg_wr_congr 20 ((rg_wr_comm _ _ _ (by decide)).trans (rg_wr_congr 19 ((rg_wr_comm _ _ _ (by decide)).trans (rg_wr_congr 18 ((rg_wr_comm _ _ _ (by decide)).trans (rg_wr_congr 17 ((rg_wr_comm _ _ _ (by decide)).trans (rg_wr_congr 16 ((rg_wr_comm _ _ _ (by decide)).trans (rg_wr_congr 15 (rg_wr_wr _ 0 _ _) rfl)) rfl)) rfl)) rfl)) rfl)) rfl)) rfl)) rfl)) rfl)) rfl)) ?_
          have hob := rg_kO_bd hI (a := Int.toNat a) (b := Int.toNat b) (by omega) (by omega)
          unfold rg_kO at hob
          refine rg_istore_n F [(3, .int (rg_I (rg_od (σ 1) (σ 2) (rg_hd (σ 22) nb (rg_kN σ tr nd nb nr ns)) (rg_kS σ tr nd nb nr) (σ 4) (σ 3) (rg_kT σ tr nd nb nr) (rg_ctb (σ 20) nr nb (fun _ _ => True) (rg_kD σ tr nd nb nr ns)) nr (Int.toNat a) (Int.toNat b)))), (0, .ref (κ.2.2.2 0)), (1, .int (rg_I a)), (2, .int (rg_I b))] dX10_tie_65 rfl (by decide) rfl ?_
          refine rg_iload_n F 0 3 rfl dX10_tie_66 rfl ?_
          refine rg_if_ne F 74 dX10_tie_67 (by decide) (by omega) (fun c67_5 => ?_) (fun c67_5 => ?_)
          ·
            refine rg_aload_n F 1 0 rfl dX10_tie_74 rfl ?_
            refine rg_get F 0 32 tM0 cX10 k_lays_X10 (by decide) k_fl_X10_156 rfl (v := .int (rg_I (rg_ok (σ 1) (σ 2) (rg_hd (σ 22) nb (rg_kN σ tr nd nb nr ns)) (rg_kS σ tr nd nb nr) (σ 4) (σ 3) (rg_kT σ tr nd nb nr) (rg_ctb (σ 20) nr nb (fun _ _ => True) (rg_kD σ tr nd nb nr ns)) nr (Int.toNat a) (Int.toNat b)))) rfl dX10_tie_75 ?_
            exact hR _ _ _ _ dX10_tie_78 (fun h => nomatch h) ⟨(by first | exact (if_pos (by assumption)).symm | exact (if_neg (by assumption)).symm), (rg_wr_congr (f := (rg_hd (σ 24) nb (rg_kC σ tr nd nb nr ns))) (g := (rg_hd (σ 24) nb (rg_kC σ tr nd nb nr ns))) 24 (rg_wr_congr (f := (rg_hd (σ 23) nb (rg_kM σ tr nd nb nr))) (g := (rg_hd (σ 23) nb (rg_kM σ tr nd nb nr))) 23 (rg_wr_congr (f := (rg_hd (σ 22) nb (rg_kN σ tr nd nb nr ns))) (g := (rg_hd (σ 22) nb (rg_kN σ tr nd nb nr ns))) 22 (rg_wr_congr (f := (rg_hd (σ 21) nb (rg_kG σ tr nd nb nr))) (g := (rg_hd (σ 21) nb (rg_kG σ tr nd nb nr))) 21 (rg_wr_congr (f := (rg_ctb (σ 20) nr nb (fun _ _ => True) (rg_kD σ tr nd nb nr ns))) (g := (rg_ctb (σ 20) nr nb (fun _ _ => True) (rg_kD σ tr nd nb nr ns))) 20 (rg_wr_congr (f := (rg_kT σ tr nd nb nr)) (g := (rg_kT σ tr nd nb nr)) 19 (rg_wr_congr (f := (rg_kS σ tr nd nb nr)) (g := (rg_kS σ tr nd nb nr)) 18 (rg_wr_congr (f := (rg_kP σ tr nd nb nr)) (g := (rg_kP σ tr nd nb nr)) 17 (rg_wr_congr (f := (rg_kA σ tr nd nb nr)) (g := (rg_kA σ tr nd nb nr)) 16 (rg_wr_congr (f := (rg_kE σ tr nd nb nr)) (g := (rg_kE σ tr nd nb nr)) 15 (rg_wr_congr (f := (rg_up (rg_up (σ 0) 0 0) 32 (rg_ok (σ 1) (σ 2) (rg_hd (σ 22) nb (rg_kN σ tr nd nb nr ns)) (rg_kS σ tr nd nb nr) (σ 4) (σ 3) (rg_kT σ tr nd nb nr) (rg_ctb (σ 20) nr nb (fun _ _ => True) (rg_kD σ tr nd nb nr ns)) nr (Int.toNat a) (Int.toNat b)))) (g := (rg_up (rg_up (σ 0) 0 0) 32 (rg_kK σ tr nd nb nr ns (Int.toNat a) (Int.toNat b)))) 0 rfl rfl) rfl) rfl) rfl) rfl) rfl) rfl) rfl) rfl) rfl) rfl)⟩
          ·
            refine rg_iconst F dX10_tie_70 ?_
            refine rg_goto F 78 dX10_tie_71 (by decide) ?_
            exact hR _ _ _ _ dX10_tie_78 (fun h => nomatch h) ⟨(by first | exact (if_pos (by assumption)).symm | exact (if_neg (by assumption)).symm), (rg_wr_congr (f := (rg_hd (σ 24) nb (rg_kC σ tr nd nb nr ns))) (g := (rg_hd (σ 24) nb (rg_kC σ tr nd nb nr ns))) 24 (rg_wr_congr (f := (rg_hd (σ 23) nb (rg_kM σ tr nd nb nr))) (g := (rg_hd (σ 23) nb (rg_kM σ tr nd nb nr))) 23 (rg_wr_congr (f := (rg_hd (σ 22) nb (rg_kN σ tr nd nb nr ns))) (g := (rg_hd (σ 22) nb (rg_kN σ tr nd nb nr ns))) 22 (rg_wr_congr (f := (rg_hd (σ 21) nb (rg_kG σ tr nd nb nr))) (g := (rg_hd (σ 21) nb (rg_kG σ tr nd nb nr))) 21 (rg_wr_congr (f := (rg_ctb (σ 20) nr nb (fun _ _ => True) (rg_kD σ tr nd nb nr ns))) (g := (rg_ctb (σ 20) nr nb (fun _ _ => True) (rg_kD σ tr nd nb nr ns))) 20 (rg_wr_congr (f := (rg_kT σ tr nd nb nr)) (g := (rg_kT σ tr nd nb nr)) 19 (rg_wr_congr (f := (rg_kS σ tr nd nb nr)) (g := (rg_kS σ tr nd nb nr)) 18 (rg_wr_congr (f := (rg_kP σ tr nd nb nr)) (g := (rg_kP σ tr nd nb nr)) 17 (rg_wr_congr (f := (rg_kA σ tr nd nb nr)) (g := (rg_kA σ tr nd nb nr)) 16 (rg_wr_congr (f := (rg_kE σ tr nd nb nr)) (g := (rg_kE σ tr nd nb nr)) 15 (rg_wr_congr (f := (rg_up (rg_up (σ 0) 0 0) 32 (rg_ok (σ 1) (σ 2) (rg_hd (σ 22) nb (rg_kN σ tr nd nb nr ns)) (rg_kS σ tr nd nb nr) (σ 4) (σ 3) (rg_kT σ tr nd nb nr) (rg_ctb (σ 20) nr nb (fun _ _ => True) (rg_kD σ tr nd nb nr ns)) nr (Int.toNat a) (Int.toNat b)))) (g := (rg_up (rg_up (σ 0) 0 0) 32 (rg_kK σ tr nd nb nr ns (Int.toNat a) (Int.toNat b)))) 0 rfl rfl) rfl) rfl) rfl) rfl) rfl) rfl) rfl) rfl) rfl) rfl)⟩
        · exfalso; omega
      ·
        refine rg_iconst F dX10_tie_38 ?_
        refine rg_goto F 43 dX10_tie_39 (by decide) ?_
        refine rg_put F 0 0 tM0 cX10 k_lays_X10 tyX10_ok nmX10 (by decide) k_fl_X10_89 rfl rfl rfl rfl (f9 := (σ 0)) rfl (rg_wr σ 0 (rg_up (σ 0) 0 2)) rfl dX10_tie_43 ?_
        refine rg_aload_n F 0 0 rfl dX10_tie_46 rfl ?_
        refine rg_get F 0 0 tM0 cX10 k_lays_X10 (by decide) k_fl_X10_89 rfl (v := .int (rg_I 2)) rfl dX10_tie_47 ?_
        exfalso; unfold rg_cE at hc; (repeat' split at hc) <;> omega
    ·
      have c26_2 := (rg_b_eq0 _).mp c26_2
      refine rg_iconst F dX10_tie_29 ?_
      refine rg_goto F 43 dX10_tie_30 (by decide) ?_
      refine rg_put F 0 0 tM0 cX10 k_lays_X10 tyX10_ok nmX10 (by decide) k_fl_X10_89 rfl rfl rfl rfl (f9 := (σ 0)) rfl (rg_wr σ 0 (rg_up (σ 0) 0 1)) rfl dX10_tie_43 ?_
      refine rg_aload_n F 0 0 rfl dX10_tie_46 rfl ?_
      refine rg_get F 0 0 tM0 cX10 k_lays_X10 (by decide) k_fl_X10_89 rfl (v := .int (rg_I 1)) rfl dX10_tie_47 ?_
      exfalso; unfold rg_cE at hc; (repeat' split at hc) <;> omega
set_option maxHeartbeats 400000 in
set_option maxRecDepth 100000 in
/-- tie, refused -/
theorem k_X10_tie_n (κ : rg_K) (σ : rg_S) (a b : Int) (nb : Nat) (nr : Nat) (nd : Nat) (tr : Int) (ns : Nat) (h0_1 : σ 0 1 = ((nb : Nat) : Int)) (h0_4 : σ 0 4 = ((nr : Nat) : Int)) (h0_11 : σ 0 11 = ((nd : Nat) : Int)) (h0_16 : σ 0 16 = tr) (h0_17 : σ 0 17 = ((ns : Nat) : Int)) (hI : rg_IM σ nb nr nd ns tr) (ha : rg_Rg a) (hb : rg_Rg b) (hc : ¬ (rg_cE ((nb : Nat) : Int) a b) = 0) : rg_CI κ rg_tM yX10_tie cX10_tie 4 FieldType.int 5 120 [.ref (κ.2.2.2 0), .int (rg_I a), .int (rg_I b)] σ (fun r9 σ9 => r9 = 0 ∧ σ9 = (rg_wr σ 0 (rg_up (σ 0) 0 (rg_cE ((nb : Nat) : Int) a b)))) := by
  have hnb := hI.hnb
  have hnr := hI.hnr
  have hnd := hI.hnd
  have hns := hI.hns
  refine rg_entI [(0, .ref (κ.2.2.2 0)), (1, .int (rg_I a)), (2, .int (rg_I b))] rfl (by decide +kernel) (Nat.le_of_ble_eq_true rfl) (by first | exact Or.inl rfl | exact Or.inr rfl) (fun Γ F hR => ?_)
  refine rg_aload_n F 0 0 rfl dX10_tie_0 rfl ?_
  refine rg_iload_n F 1 1 rfl dX10_tie_1 rfl ?_
  refine rg_iconst F dX10_tie_2 ?_
  refine rg_aload_n F 0 0 rfl dX10_tie_3 rfl ?_
  refine rg_get F 0 1 tM0 cX10 k_lays_X10 (by decide) k_fl_X10_102 rfl (v := .int (rg_I ((nb : Nat) : Int))) (congrArg (fun x => Value.int (rg_I x)) h0_1) dX10_tie_4 ?_
  refine rg_iconst F dX10_tie_7 ?_
  refine rg_isub F dX10_tie_8 ?_
  refine rg_callSI F [.int (rg_I a), .int (rg_I 0), .int (rg_I (((nb : Nat) : Int) - 1))] [.ref (κ.2.2.2 0)] (k_X10_in κ rg_tM σ (a) (0) ((((nb : Nat) : Int) - 1)) (by first | assumption | omega) (by first | assumption | omega) (by first | assumption | omega)) v_X10_in k_st_yX10_in k_ml_X10_172 ⟨Nat.le_of_ble_eq_true rfl, Nat.le_of_ble_eq_true rfl⟩ rfl (Nat.le_of_ble_eq_true rfl) dX10_tie_9 (rg_ex2 ?_)
  show rg_G κ Γ rg_tM 4 0 0 (9 + 3) [(0, .ref (κ.2.2.2 0)), (1, .int (rg_I a)), (2, .int (rg_I b))] [.int (rg_I (rg_b (0 ≤ a ∧ a ≤ (((nb : Nat) : Int) - 1)))), .ref (κ.2.2.2 0)] σ
  refine rg_if_eq F 29 dX10_tie_12 (by decide) (by have b0 := rg_b_Rg (0 ≤ a ∧ a ≤ (((nb : Nat) : Int) - 1)); omega) (fun c12_1 => ?_) (fun c12_1 => ?_)
  ·
    have c12_1 := (rg_b_eq0 _).mp c12_1
    refine rg_iconst F dX10_tie_29 ?_
    refine rg_goto F 43 dX10_tie_30 (by decide) ?_
    refine rg_put F 0 0 tM0 cX10 k_lays_X10 tyX10_ok nmX10 (by decide) k_fl_X10_89 rfl rfl rfl rfl (f9 := (σ 0)) rfl (rg_wr σ 0 (rg_up (σ 0) 0 1)) rfl dX10_tie_43 ?_
    refine rg_aload_n F 0 0 rfl dX10_tie_46 rfl ?_
    refine rg_get F 0 0 tM0 cX10 k_lays_X10 (by decide) k_fl_X10_89 rfl (v := .int (rg_I 1)) rfl dX10_tie_47 ?_
    refine rg_if_le F 55 dX10_tie_50 (by decide) (by omega) (fun c50_2 => ?_) (fun c50_2 => ?_)
    · exfalso; omega
    ·
      refine rg_iconst F dX10_tie_53 ?_
      exact hR _ _ _ _ dX10_tie_54 (fun h => nomatch h) ⟨rfl, (rg_wr_congr (f := (rg_up (σ 0) 0 1)) (g := (rg_up (σ 0) 0 (rg_cE ((nb : Nat) : Int) a b))) 0 rfl (by (repeat rw [rg_up_up]) <;> first | rfl | exact congrArg (rg_up _ 0) (by unfold rg_cE; (repeat' split) <;> omega)))⟩
  ·
    have c12_1 := (rg_b_ne0 _).mp c12_1
    refine rg_iload_n F 2 2 rfl dX10_tie_15 rfl ?_
    refine rg_iconst F dX10_tie_16 ?_
    refine rg_aload_n F 0 0 rfl dX10_tie_17 rfl ?_
    refine rg_get F 0 1 tM0 cX10 k_lays_X10 (by decide) k_fl_X10_102 rfl (v := .int (rg_I ((nb : Nat) : Int))) (congrArg (fun x => Value.int (rg_I x)) h0_1) dX10_tie_18 ?_
    refine rg_iconst F dX10_tie_21 ?_
    refine rg_isub F dX10_tie_22 ?_
    refine rg_callSI F [.int (rg_I b), .int (rg_I 0), .int (rg_I (((nb : Nat) : Int) - 1))] [.ref (κ.2.2.2 0)] (k_X10_in κ rg_tM σ (b) (0) ((((nb : Nat) : Int) - 1)) (by first | assumption | omega) (by first | assumption | omega) (by first | assumption | omega)) v_X10_in k_st_yX10_in k_ml_X10_172 ⟨Nat.le_of_ble_eq_true rfl, Nat.le_of_ble_eq_true rfl⟩ rfl (Nat.le_of_ble_eq_true rfl) dX10_tie_23 (rg_ex2 ?_)
    show rg_G κ Γ rg_tM 4 0 0 (23 + 3) [(0, .ref (κ.2.2.2 0)), (1, .int (rg_I a)), (2, .int (rg_I b))] [.int (rg_I (rg_b (0 ≤ b ∧ b ≤ (((nb : Nat) : Int) - 1)))), .ref (κ.2.2.2 0)] σ
    refine rg_if_ne F 33 dX10_tie_26 (by decide) (by have b0 := rg_b_Rg (0 ≤ b ∧ b ≤ (((nb : Nat) : Int) - 1)); omega) (fun c26_3 => ?_) (fun c26_3 => ?_)
    ·
      have c26_3 := (rg_b_ne0 _).mp c26_3
      refine rg_iload_n F 1 1 rfl dX10_tie_33 rfl ?_
      refine rg_iload_n F 2 2 rfl dX10_tie_34 rfl ?_
      refine rg_icmp_ne F 42 dX10_tie_35 (by decide) (by omega) (by omega) (fun c35_4 => ?_) (fun c35_4 => ?_)
      ·
        refine rg_iconst F dX10_tie_42 ?_
        refine rg_put F 0 0 tM0 cX10 k_lays_X10 tyX10_ok nmX10 (by decide) k_fl_X10_89 rfl rfl rfl rfl (f9 := (σ 0)) rfl (rg_wr σ 0 (rg_up (σ 0) 0 0)) rfl dX10_tie_43 ?_
        refine rg_aload_n F 0 0 rfl dX10_tie_46 rfl ?_
        refine rg_get F 0 0 tM0 cX10 k_lays_X10 (by decide) k_fl_X10_89 rfl (v := .int (rg_I 0)) rfl dX10_tie_47 ?_
        exfalso; unfold rg_cE at hc; (repeat' split at hc) <;> omega
      ·
        refine rg_iconst F dX10_tie_38 ?_
        refine rg_goto F 43 dX10_tie_39 (by decide) ?_
        refine rg_put F 0 0 tM0 cX10 k_lays_X10 tyX10_ok nmX10 (by decide) k_fl_X10_89 rfl rfl rfl rfl (f9 := (σ 0)) rfl (rg_wr σ 0 (rg_up (σ 0) 0 2)) rfl dX10_tie_43 ?_
        refine rg_aload_n F 0 0 rfl dX10_tie_46 rfl ?_
        refine rg_get F 0 0 tM0 cX10 k_lays_X10 (by decide) k_fl_X10_89 rfl (v := .int (rg_I 2)) rfl dX10_tie_47 ?_
        refine rg_if_le F 55 dX10_tie_50 (by decide) (by omega) (fun c50_5 => ?_) (fun c50_5 => ?_)
        · exfalso; omega
        ·
          refine rg_iconst F dX10_tie_53 ?_
          exact hR _ _ _ _ dX10_tie_54 (fun h => nomatch h) ⟨rfl, (rg_wr_congr (f := (rg_up (σ 0) 0 2)) (g := (rg_up (σ 0) 0 (rg_cE ((nb : Nat) : Int) a b))) 0 rfl (by (repeat rw [rg_up_up]) <;> first | rfl | exact congrArg (rg_up _ 0) (by unfold rg_cE; (repeat' split) <;> omega)))⟩
    ·
      have c26_3 := (rg_b_eq0 _).mp c26_3
      refine rg_iconst F dX10_tie_29 ?_
      refine rg_goto F 43 dX10_tie_30 (by decide) ?_
      refine rg_put F 0 0 tM0 cX10 k_lays_X10 tyX10_ok nmX10 (by decide) k_fl_X10_89 rfl rfl rfl rfl (f9 := (σ 0)) rfl (rg_wr σ 0 (rg_up (σ 0) 0 1)) rfl dX10_tie_43 ?_
      refine rg_aload_n F 0 0 rfl dX10_tie_46 rfl ?_
      refine rg_get F 0 0 tM0 cX10 k_lays_X10 (by decide) k_fl_X10_89 rfl (v := .int (rg_I 1)) rfl dX10_tie_47 ?_
      refine rg_if_le F 55 dX10_tie_50 (by decide) (by omega) (fun c50_6 => ?_) (fun c50_6 => ?_)
      · exfalso; omega
      ·
        refine rg_iconst F dX10_tie_53 ?_
        exact hR _ _ _ _ dX10_tie_54 (fun h => nomatch h) ⟨rfl, (rg_wr_congr (f := (rg_up (σ 0) 0 1)) (g := (rg_up (σ 0) 0 (rg_cE ((nb : Nat) : Int) a b))) 0 rfl (by (repeat rw [rg_up_up]) <;> first | rfl | exact congrArg (rg_up _ 0) (by unfold rg_cE; (repeat' split) <;> omega)))⟩
set_option maxHeartbeats 400000 in
set_option maxRecDepth 100000 in
/-- what, done -/
theorem k_X10_what_o (κ : rg_K) (σ : rg_S) (r b c x : Int) (fl : Nat → Int) (rf : Nat → Int) (nb : Nat) (nr : Nat) (nd : Nat) (tr : Int) (ns : Nat) (h2 : σ 2 = fl) (h4 : σ 4 = rf) (h0_1 : σ 0 1 = ((nb : Nat) : Int)) (h0_4 : σ 0 4 = ((nr : Nat) : Int)) (h0_11 : σ 0 11 = ((nd : Nat) : Int)) (h0_16 : σ 0 16 = tr) (h0_17 : σ 0 17 = ((ns : Nat) : Int)) (hI : rg_IM σ nb nr nd ns tr) (hr : rg_Rg r) (hb : rg_Rg b) (hcr : rg_Rg c) (hx : rg_Rg x) (hc : (rg_wg rf fl ((nb : Nat) : Int) ((nr : Nat) : Int) r b c x) = 0) : rg_CI κ rg_tM yX10_what cX10_what 5 FieldType.int 5 119 [.ref (κ.2.2.2 0), .int (rg_I r), .int (rg_I b), .int (rg_I c), .int (rg_I x)] σ (fun r9 σ9 => r9 = (rg_kN (rg_kW σ (((Int.toNat r * 40 + Int.toNat b) : Nat) : Int) c x) 1 nd nb nr ns (Int.toNat b)) ∧ σ9 = (rg_wr (rg_wr (rg_wr (rg_wr (rg_wr (rg_wr (rg_wr (rg_wr (rg_wr (rg_wr (rg_wr (rg_wr (rg_wr (rg_wr (rg_wr σ 0 (rg_up (rg_up (σ 0) 0 0) 16 0)) 9 (rg_up (σ 9) 40 (((Int.toNat r * 40 + Int.toNat b) : Nat) : Int))) 10 (rg_up (σ 10) 40 c)) 11 (rg_up (σ 11) 40 x)) 12 (rg_up (σ 12) 40 0)) 15 (rg_kE (rg_kW σ (((Int.toNat r * 40 + Int.toNat b) : Nat) : Int) c x) 1 nd nb nr)) 16 (rg_kA (rg_kW σ (((Int.toNat r * 40 + Int.toNat b) : Nat) : Int) c x) 1 nd nb nr)) 17 (rg_kP (rg_kW σ (((Int.toNat r * 40 + Int.toNat b) : Nat) : Int) c x) 1 nd nb nr)) 18 (rg_kS (rg_kW σ (((Int.toNat r * 40 + Int.toNat b) : Nat) : Int) c x) 1 nd nb nr)) 19 (rg_kT (rg_kW σ (((Int.toNat r * 40 + Int.toNat b) : Nat) : Int) c x) 1 nd nb nr)) 20 (rg_ctb (σ 20) nr nb (fun _ _ => True) (rg_kD (rg_kW σ (((Int.toNat r * 40 + Int.toNat b) : Nat) : Int) c x) 1 nd nb nr ns))) 21 (rg_hd (σ 21) nb (rg_kG (rg_kW σ (((Int.toNat r * 40 + Int.toNat b) : Nat) : Int) c x) 1 nd nb nr))) 22 (rg_hd (σ 22) nb (rg_kN (rg_kW σ (((Int.toNat r * 40 + Int.toNat b) : Nat) : Int) c x) 1 nd nb nr ns))) 23 (rg_hd (σ 23) nb (rg_kM (rg_kW σ (((Int.toNat r * 40 + Int.toNat b) : Nat) : Int) c x) 1 nd nb nr))) 24 (rg_hd (σ 24) nb (rg_kC (rg_kW σ (((Int.toNat r * 40 + Int.toNat b) : Nat) : Int) c x) 1 nd nb nr ns)))) := by
  have hnb := hI.hnb
  have hnr := hI.hnr
  have hnd := hI.hnd
  have hns := hI.hns
  have hth := rg_wg_0 hc
  refine rg_entI [(0, .ref (κ.2.2.2 0)), (1, .int (rg_I r)), (2, .int (rg_I b)), (3, .int (rg_I c)), (4, .int (rg_I x))] rfl (by decide +kernel) (Nat.le_of_ble_eq_true rfl) (by first | exact Or.inl rfl | exact Or.inr rfl) (fun Γ F hR => ?_)
  refine rg_aload_n F 0 0 rfl dX10_what_0 rfl ?_
  refine rg_aload_n F 0 0 rfl dX10_what_1 rfl ?_
  refine rg_iload_n F 1 1 rfl dX10_what_2 rfl ?_
  refine rg_iload_n F 2 2 rfl dX10_what_3 rfl ?_
  refine rg_iload_n F 3 3 rfl dX10_what_4 rfl ?_
  refine rg_iload F 4 4 rfl dX10_what_5 ?_
  refine rg_callVI F [.int (rg_I r), .int (rg_I b), .int (rg_I c), .int (rg_I x)] [.ref (κ.2.2.2 0)] 0 (k_X10_wrong κ σ (r) (b) (c) (x) fl rf (nb) (nr) (h2) (h4) (h0_1) (h0_4) (by first | assumption | omega) (by first | assumption | omega) (by first | assumption | omega) (by first | assumption | omega) (by first | assumption | omega) (by first | assumption | omega) (fun j => by rw [← h2]; exact rg_Rg_of (hI.hfl j)) (fun j => by rw [← h4]; exact rg_Rg_of (hI.hrf j))) tM0 cX10 v_X10_wrong i_X10_wrong k_ml_X10_179 ⟨Nat.le_of_ble_eq_true rfl, Nat.le_of_ble_eq_true rfl⟩ rfl (Nat.le_of_ble_eq_true rfl) dX10_what_7 (rg_ex2 ?_)
  show rg_G κ Γ rg_tM 5 0 0 (7 + 3) [(0, .ref (κ.2.2.2 0)), (1, .int (rg_I r)), (2, .int (rg_I b)), (3, .int (rg_I c)), (4, .int (rg_I x))] [.int (rg_I (rg_wg rf fl ((nb : Nat) : Int) ((nr : Nat) : Int) r b c x)), .ref (κ.2.2.2 0)] σ
  refine rg_put F 0 0 tM0 cX10 k_lays_X10 tyX10_ok nmX10 (by decide) k_fl_X10_89 rfl rfl rfl rfl (f9 := (σ 0)) rfl (rg_wr σ 0 (rg_up (σ 0) 0 (rg_wg rf fl ((nb : Nat) : Int) ((nr : Nat) : Int) r b c x))) rfl dX10_what_10 ?_
  refine rg_aload_n F 0 0 rfl dX10_what_13 rfl ?_
  refine rg_get F 0 0 tM0 cX10 k_lays_X10 (by decide) k_fl_X10_89 rfl (v := .int (rg_I (rg_wg rf fl ((nb : Nat) : Int) ((nr : Nat) : Int) r b c x))) rfl dX10_what_14 ?_
  refine rg_if_le F 22 dX10_what_17 (by decide) (by have b0 := rg_wg_bd (rf := rf) (fl := fl) (nb := ((nb : Nat) : Int)) (nr := ((nr : Nat) : Int)) (r := r) (b := b) (c := c) (x := x); omega) (fun c17_1 => ?_) (fun c17_1 => ?_)
  ·
    refine rg_aload_n F 0 0 rfl dX10_what_22 rfl ?_
    refine rg_bipush F dX10_what_23 (by decide +kernel) ?_
    refine rg_bipush F dX10_what_25 (by decide +kernel) ?_
    refine rg_iload_n F 1 1 rfl dX10_what_27 rfl ?_
    refine rg_stk (st' := [.int (rg_I ((Int.toNat r : Nat) : Int)), .int (rg_I 40), .int (rg_I 40), .ref (κ.2.2.2 0)]) (by rw [Int.toNat_of_nonneg (a := r) (by omega)]) ?_
    refine rg_imul F dX10_what_28 ?_
    refine rg_iload_n F 2 2 rfl dX10_what_29 rfl ?_
    refine rg_stk (st' := [.int (rg_I ((Int.toNat b : Nat) : Int)), .int (rg_I (40 * ((Int.toNat r : Nat) : Int))), .int (rg_I 40), .ref (κ.2.2.2 0)]) (by rw [Int.toNat_of_nonneg (a := b) (by omega)]) ?_
    refine rg_iadd F dX10_what_30 ?_
    refine rg_stk (st' := [.int (rg_I (((Int.toNat r) * 40 + (Int.toNat b) : Nat) : Int)), .int (rg_I 40), .ref (κ.2.2.2 0)]) (congrArg (fun x9 : Int => Value.int (rg_I x9) :: [.int (rg_I 40), .ref (κ.2.2.2 0)]) (by omega)) ?_
    refine rg_iload_n F 3 3 rfl dX10_what_31 rfl ?_
    refine rg_iload F 4 4 rfl dX10_what_32 ?_
    refine rg_callVV F [.int (rg_I 40), .int (rg_I (((Int.toNat r) * 40 + (Int.toNat b) : Nat) : Int)), .int (rg_I c), .int (rg_I x)] [] 0 (k_X10_decide κ (rg_wr σ 0 (rg_up (σ 0) 0 (rg_wg rf fl ((nb : Nat) : Int) ((nr : Nat) : Int) r b c x))) (40) ((((Int.toNat r) * 40 + (Int.toNat b) : Nat) : Int)) (c) (x) (σ 9) (σ 10) (σ 11) (σ 12) rfl rfl rfl rfl (by first | assumption | omega)) tM0 cX10 v_X10_decide i_X10_decide k_ml_X10_187 ⟨Nat.le_of_ble_eq_true rfl, Nat.le_of_ble_eq_true rfl⟩ rfl (Nat.le_of_ble_eq_true rfl) dX10_what_34 (rg_ex1 ?_)
    refine rg_eq (σ' := (rg_wr (rg_wr (rg_wr (rg_wr (rg_wr σ 0 (rg_up (σ 0) 0 (rg_wg rf fl ((nb : Nat) : Int) ((nr : Nat) : Int) r b c x))) 9 (rg_up (σ 9) 40 (((Int.toNat r) * 40 + (Int.toNat b) : Nat) : Int))) 10 (rg_up (σ 10) 40 c)) 11 (rg_up (σ 11) 40 x)) 12 (rg_up (σ 12) 40 0))) rfl ?_
    refine rg_aload_n F 0 0 rfl dX10_what_37 rfl ?_
    refine rg_iconst F dX10_what_38 ?_
    refine rg_put F 0 16 tM0 cX10 k_lays_X10 tyX10_ok nmX10 (by decide) k_fl_X10_96 rfl rfl rfl rfl (f9 := (rg_up (σ 0) 0 (rg_wg rf fl ((nb : Nat) : Int) ((nr : Nat) : Int) r b c x))) rfl (rg_wr (rg_wr (rg_wr (rg_wr (rg_wr σ 0 (rg_up (rg_up (σ 0) 0 (rg_wg rf fl ((nb : Nat) : Int) ((nr : Nat) : Int) r b c x)) 16 1)) 9 (rg_up (σ 9) 40 (((Int.toNat r) * 40 + (Int.toNat b) : Nat) : Int))) 10 (rg_up (σ 10) 40 c)) 11 (rg_up (σ 11) 40 x)) 12 (rg_up (σ 12) 40 0)) ((rg_wr_comm _ _ _ (by decide)).trans (rg_wr_congr 12 ((rg_wr_comm _ _ _ (by decide)).trans (rg_wr_congr 11 ((rg_wr_comm _ _ _ (by decide)).trans (rg_wr_congr 10 ((rg_wr_comm _ _ _ (by decide)).trans (rg_wr_congr 9 (rg_wr_wr _ 0 _ _) rfl)) rfl)) rfl)) rfl)) dX10_what_39 ?_
    refine rg_aload_n F 0 0 rfl dX10_what_42 rfl ?_
    refine rg_callVV F [] [] 0 (k_X10_reckon κ (rg_wr (rg_wr (rg_wr (rg_wr (rg_wr σ 0 (rg_up (rg_up (σ 0) 0 (rg_wg rf fl ((nb : Nat) : Int) ((nr : Nat) : Int) r b c x)) 16 1)) 9 (rg_up (σ 9) 40 (((Int.toNat r) * 40 + (Int.toNat b) : Nat) : Int))) 10 (rg_up (σ 10) 40 c)) 11 (rg_up (σ 11) 40 x)) 12 (rg_up (σ 12) 40 0)) (nb) (nr) (nd) (1) (ns) (h0_1) (h0_4) (h0_11) rfl (h0_17) (rg_IM_kW hI (by omega) (by omega) (by omega))) tM0 cX10 v_X10_reckon i_X10_reckon k_ml_X10_190 ⟨Nat.le_of_ble_eq_true rfl, Nat.le_of_ble_eq_true rfl⟩ rfl (Nat.le_of_ble_eq_true rfl) dX10_what_43 (rg_ex1 ?_)
    refine rg_eq (σ' := (rg_wr (rg_wr (rg_wr (rg_wr (rg_wr (rg_wr (rg_wr (rg_wr (rg_wr (rg_wr (rg_wr (rg_wr (rg_wr (rg_wr (rg_wr σ 0 (rg_up (rg_up (σ 0) 0 (rg_wg rf fl ((nb : Nat) : Int) ((nr : Nat) : Int) r b c x)) 16 1)) 9 (rg_up (σ 9) 40 (((Int.toNat r) * 40 + (Int.toNat b) : Nat) : Int))) 10 (rg_up (σ 10) 40 c)) 11 (rg_up (σ 11) 40 x)) 12 (rg_up (σ 12) 40 0)) 15 (rg_kE (rg_kW σ (((Int.toNat r * 40 + Int.toNat b) : Nat) : Int) c x) 1 nd nb nr)) 16 (rg_kA (rg_kW σ (((Int.toNat r * 40 + Int.toNat b) : Nat) : Int) c x) 1 nd nb nr)) 17 (rg_kP (rg_kW σ (((Int.toNat r * 40 + Int.toNat b) : Nat) : Int) c x) 1 nd nb nr)) 18 (rg_kS (rg_kW σ (((Int.toNat r * 40 + Int.toNat b) : Nat) : Int) c x) 1 nd nb nr)) 19 (rg_kT (rg_kW σ (((Int.toNat r * 40 + Int.toNat b) : Nat) : Int) c x) 1 nd nb nr)) 20 (rg_ctb (σ 20) nr nb (fun _ _ => True) (rg_kD (rg_kW σ (((Int.toNat r * 40 + Int.toNat b) : Nat) : Int) c x) 1 nd nb nr ns))) 21 (rg_hd (σ 21) nb (rg_kG (rg_kW σ (((Int.toNat r * 40 + Int.toNat b) : Nat) : Int) c x) 1 nd nb nr))) 22 (rg_hd (σ 22) nb (rg_kN (rg_kW σ (((Int.toNat r * 40 + Int.toNat b) : Nat) : Int) c x) 1 nd nb nr ns))) 23 (rg_hd (σ 23) nb (rg_kM (rg_kW σ (((Int.toNat r * 40 + Int.toNat b) : Nat) : Int) c x) 1 nd nb nr))) 24 (rg_hd (σ 24) nb (rg_kC (rg_kW σ (((Int.toNat r * 40 + Int.toNat b) : Nat) : Int) c x) 1 nd nb nr ns)))) rfl ?_
    refine rg_aload_n F 0 0 rfl dX10_what_46 rfl ?_
    refine rg_iconst F dX10_what_47 ?_
    refine rg_put F 0 16 tM0 cX10 k_lays_X10 tyX10_ok nmX10 (by decide) k_fl_X10_96 rfl rfl rfl rfl (f9 := (rg_up (rg_up (σ 0) 0 (rg_wg rf fl ((nb : Nat) : Int) ((nr : Nat) : Int) r b c x)) 16 1)) rfl (rg_wr (rg_wr (rg_wr (rg_wr (rg_wr (rg_wr (rg_wr (rg_wr (rg_wr (rg_wr (rg_wr (rg_wr (rg_wr (rg_wr (rg_wr σ 0 (rg_up (rg_up (rg_up (σ 0) 0 (rg_wg rf fl ((nb : Nat) : Int) ((nr : Nat) : Int) r b c x)) 16 1) 16 0)) 9 (rg_up (σ 9) 40 (((Int.toNat r) * 40 + (Int.toNat b) : Nat) : Int))) 10 (rg_up (σ 10) 40 c)) 11 (rg_up (σ 11) 40 x)) 12 (rg_up (σ 12) 40 0)) 15 (rg_kE (rg_kW σ (((Int.toNat r * 40 + Int.toNat b) : Nat) : Int) c x) 1 nd nb nr)) 16 (rg_kA (rg_kW σ (((Int.toNat r * 40 + Int.toNat b) : Nat) : Int) c x) 1 nd nb nr)) 17 (rg_kP (rg_kW σ (((Int.toNat r * 40 + Int.toNat b) : Nat) : Int) c x) 1 nd nb nr)) 18 (rg_kS (rg_kW σ (((Int.toNat r * 40 + Int.toNat b) : Nat) : Int) c x) 1 nd nb nr)) 19 (rg_kT (rg_kW σ (((Int.toNat r * 40 + Int.toNat b) : Nat) : Int) c x) 1 nd nb nr)) 20 (rg_ctb (σ 20) nr nb (fun _ _ => True) (rg_kD (rg_kW σ (((Int.toNat r * 40 + Int.toNat b) : Nat) : Int) c x) 1 nd nb nr ns))) 21 (rg_hd (σ 21) nb (rg_kG (rg_kW σ (((Int.toNat r * 40 + Int.toNat b) : Nat) : Int) c x) 1 nd nb nr))) 22 (rg_hd (σ 22) nb (rg_kN (rg_kW σ (((Int.toNat r * 40 + Int.toNat b) : Nat) : Int) c x) 1 nd nb nr ns))) 23 (rg_hd (σ 23) nb (rg_kM (rg_kW σ (((Int.toNat r * 40 + Int.toNat b) : Nat) : Int) c x) 1 nd nb nr))) 24 (rg_hd (σ 24) nb (rg_kC (rg_kW σ (((Int.toNat r * 40 + Int.toNat b) : Nat) : Int) c x) 1 nd nb nr ns))) ((rg_wr_comm _ _ _ (by decide)).trans (rg_wr_congr 24 ((rg_wr_comm _ _ _ (by decide)).trans (rg_wr_congr 23 ((rg_wr_comm _ _ _ (by decide)).trans (rg_wr_congr 22 ((rg_wr_comm _ _ _ (by decide)).trans (rg_wr_congr 21 ((rg_wr_comm _ _ _ (by decide)).trans (rg_wr_congr 20 ((rg_wr_comm _ _ _ (by decide)).trans (rg_wr_congr 19 ((rg_wr_comm _ _ _ (by decide)).trans (rg_wr_congr 18 ((rg_wr_comm _ _ _ (by decide)).trans (rg_wr_congr 17 ((rg_wr_comm _ _ _ (by decide)).trans (rg_wr_congr 16 ((rg_wr_comm _ _ _ (by decide)).trans (rg_wr_congr 15 ((rg_wr_comm _ _ _ (by decide)).trans (rg_wr_congr 12 ((rg_wr_comm _ _ _ (by decide)).trans (rg_wr_congr 11 ((rg_wr_comm _ _ _ (by decide)).trans (rg_wr_congr 10 ((rg_wr_comm _ _ _ (by decide)).trans (rg_wr_congr 9 (rg_wr_wr _ 0 _ _) rfl)) rfl)) rfl)) rfl)) rfl)) rfl)) rfl)) rfl)) rfl)) rfl)) rfl)) rfl)) rfl)) rfl)) dX10_what_48 ?_
    refine rg_aload_n F 0 0 rfl dX10_what_51 rfl ?_
    refine rg_get F 0 28 tM0 cX10 k_lays_X10 (by decide) k_fl_X10_74 rfl (v := .ref (κ.2.2.2 22)) rfl dX10_what_52 ?_
    refine rg_iload_n F 2 2 rfl dX10_what_55 rfl ?_
    refine rg_stk (st' := [.int (rg_I ((Int.toNat b : Nat) : Int)), .ref (κ.2.2.2 22)]) (by rw [Int.toNat_of_nonneg (a := b) (by omega)]) ?_
    refine rg_iald F 22 (Int.toNat b) (v := (rg_kN (rg_kW σ (((Int.toNat r * 40 + Int.toNat b) : Nat) : Int) c x) 1 nd nb nr ns (Int.toNat b))) tM22 (by omega) (by omega) (by decide) ((show (rg_hd (σ 22) nb (rg_kN (rg_kW σ (((Int.toNat r * 40 + Int.toNat b) : Nat) : Int) c x) 1 nd nb nr ns)) (Int.toNat b) = (rg_kN (rg_kW σ (((Int.toNat r * 40 + Int.toNat b) : Nat) : Int) c x) 1 nd nb nr ns (Int.toNat b)) from (rg_hd_at _ _ (by omega)))) dX10_what_56 ?_
    exact hR _ _ _ _ dX10_what_57 (fun h => nomatch h) ⟨rfl, (rg_wr_congr (f := (rg_hd (σ 24) nb (rg_kC (rg_kW σ (((Int.toNat r * 40 + Int.toNat b) : Nat) : Int) c x) 1 nd nb nr ns))) (g := (rg_hd (σ 24) nb (rg_kC (rg_kW σ (((Int.toNat r * 40 + Int.toNat b) : Nat) : Int) c x) 1 nd nb nr ns))) 24 (rg_wr_congr (f := (rg_hd (σ 23) nb (rg_kM (rg_kW σ (((Int.toNat r * 40 + Int.toNat b) : Nat) : Int) c x) 1 nd nb nr))) (g := (rg_hd (σ 23) nb (rg_kM (rg_kW σ (((Int.toNat r * 40 + Int.toNat b) : Nat) : Int) c x) 1 nd nb nr))) 23 (rg_wr_congr (f := (rg_hd (σ 22) nb (rg_kN (rg_kW σ (((Int.toNat r * 40 + Int.toNat b) : Nat) : Int) c x) 1 nd nb nr ns))) (g := (rg_hd (σ 22) nb (rg_kN (rg_kW σ (((Int.toNat r * 40 + Int.toNat b) : Nat) : Int) c x) 1 nd nb nr ns))) 22 (rg_wr_congr (f := (rg_hd (σ 21) nb (rg_kG (rg_kW σ (((Int.toNat r * 40 + Int.toNat b) : Nat) : Int) c x) 1 nd nb nr))) (g := (rg_hd (σ 21) nb (rg_kG (rg_kW σ (((Int.toNat r * 40 + Int.toNat b) : Nat) : Int) c x) 1 nd nb nr))) 21 (rg_wr_congr (f := (rg_ctb (σ 20) nr nb (fun _ _ => True) (rg_kD (rg_kW σ (((Int.toNat r * 40 + Int.toNat b) : Nat) : Int) c x) 1 nd nb nr ns))) (g := (rg_ctb (σ 20) nr nb (fun _ _ => True) (rg_kD (rg_kW σ (((Int.toNat r * 40 + Int.toNat b) : Nat) : Int) c x) 1 nd nb nr ns))) 20 (rg_wr_congr (f := (rg_kT (rg_kW σ (((Int.toNat r * 40 + Int.toNat b) : Nat) : Int) c x) 1 nd nb nr)) (g := (rg_kT (rg_kW σ (((Int.toNat r * 40 + Int.toNat b) : Nat) : Int) c x) 1 nd nb nr)) 19 (rg_wr_congr (f := (rg_kS (rg_kW σ (((Int.toNat r * 40 + Int.toNat b) : Nat) : Int) c x) 1 nd nb nr)) (g := (rg_kS (rg_kW σ (((Int.toNat r * 40 + Int.toNat b) : Nat) : Int) c x) 1 nd nb nr)) 18 (rg_wr_congr (f := (rg_kP (rg_kW σ (((Int.toNat r * 40 + Int.toNat b) : Nat) : Int) c x) 1 nd nb nr)) (g := (rg_kP (rg_kW σ (((Int.toNat r * 40 + Int.toNat b) : Nat) : Int) c x) 1 nd nb nr)) 17 (rg_wr_congr (f := (rg_kA (rg_kW σ (((Int.toNat r * 40 + Int.toNat b) : Nat) : Int) c x) 1 nd nb nr)) (g := (rg_kA (rg_kW σ (((Int.toNat r * 40 + Int.toNat b) : Nat) : Int) c x) 1 nd nb nr)) 16 (rg_wr_congr (f := (rg_kE (rg_kW σ (((Int.toNat r * 40 + Int.toNat b) : Nat) : Int) c x) 1 nd nb nr)) (g := (rg_kE (rg_kW σ (((Int.toNat r * 40 + Int.toNat b) : Nat) : Int) c x) 1 nd nb nr)) 15 (rg_wr_congr (f := (rg_up (σ 12) 40 0)) (g := (rg_up (σ 12) 40 0)) 12 (rg_wr_congr (f := (rg_up (σ 11) 40 x)) (g := (rg_up (σ 11) 40 x)) 11 (rg_wr_congr (f := (rg_up (σ 10) 40 c)) (g := (rg_up (σ 10) 40 c)) 10 (rg_wr_congr (f := (rg_up (σ 9) 40 (((Int.toNat r) * 40 + (Int.toNat b) : Nat) : Int))) (g := (rg_up (σ 9) 40 (((Int.toNat r * 40 + Int.toNat b) : Nat) : Int))) 9 (rg_wr_congr (f := (rg_up (rg_up (rg_up (σ 0) 0 (rg_wg rf fl ((nb : Nat) : Int) ((nr : Nat) : Int) r b c x)) 16 1) 16 0)) (g := (rg_up (rg_up (σ 0) 0 0) 16 0)) 0 rfl (by (repeat rw [rg_up_up]) <;> exact congrArg (fun z => rg_up (rg_up (σ 0) 0 z) 16 0) hc)) rfl) rfl) rfl) rfl) rfl) rfl) rfl) rfl) rfl) rfl) rfl) rfl) rfl) rfl)⟩
  · exfalso; omega
set_option maxHeartbeats 400000 in
set_option maxRecDepth 100000 in
/-- what, refused -/
theorem k_X10_what_n (κ : rg_K) (σ : rg_S) (r b c x : Int) (fl : Nat → Int) (rf : Nat → Int) (nb : Nat) (nr : Nat) (nd : Nat) (tr : Int) (ns : Nat) (h2 : σ 2 = fl) (h4 : σ 4 = rf) (h0_1 : σ 0 1 = ((nb : Nat) : Int)) (h0_4 : σ 0 4 = ((nr : Nat) : Int)) (h0_11 : σ 0 11 = ((nd : Nat) : Int)) (h0_16 : σ 0 16 = tr) (h0_17 : σ 0 17 = ((ns : Nat) : Int)) (hI : rg_IM σ nb nr nd ns tr) (hr : rg_Rg r) (hb : rg_Rg b) (hcr : rg_Rg c) (hx : rg_Rg x) (hc : ¬ (rg_wg rf fl ((nb : Nat) : Int) ((nr : Nat) : Int) r b c x) = 0) : rg_CI κ rg_tM yX10_what cX10_what 5 FieldType.int 5 119 [.ref (κ.2.2.2 0), .int (rg_I r), .int (rg_I b), .int (rg_I c), .int (rg_I x)] σ (fun r9 σ9 => r9 = 0 ∧ σ9 = (rg_wr σ 0 (rg_up (σ 0) 0 (rg_wg rf fl ((nb : Nat) : Int) ((nr : Nat) : Int) r b c x)))) := by
  have hnb := hI.hnb
  have hnr := hI.hnr
  have hnd := hI.hnd
  have hns := hI.hns
  have hwb : 0 ≤ rg_wg rf fl ((nb : Nat) : Int) ((nr : Nat) : Int) r b c x ∧ rg_wg rf fl ((nb : Nat) : Int) ((nr : Nat) : Int) r b c x ≤ 3 := rg_wg_bd
  refine rg_entI [(0, .ref (κ.2.2.2 0)), (1, .int (rg_I r)), (2, .int (rg_I b)), (3, .int (rg_I c)), (4, .int (rg_I x))] rfl (by decide +kernel) (Nat.le_of_ble_eq_true rfl) (by first | exact Or.inl rfl | exact Or.inr rfl) (fun Γ F hR => ?_)
  refine rg_aload_n F 0 0 rfl dX10_what_0 rfl ?_
  refine rg_aload_n F 0 0 rfl dX10_what_1 rfl ?_
  refine rg_iload_n F 1 1 rfl dX10_what_2 rfl ?_
  refine rg_iload_n F 2 2 rfl dX10_what_3 rfl ?_
  refine rg_iload_n F 3 3 rfl dX10_what_4 rfl ?_
  refine rg_iload F 4 4 rfl dX10_what_5 ?_
  refine rg_callVI F [.int (rg_I r), .int (rg_I b), .int (rg_I c), .int (rg_I x)] [.ref (κ.2.2.2 0)] 0 (k_X10_wrong κ σ (r) (b) (c) (x) fl rf (nb) (nr) (h2) (h4) (h0_1) (h0_4) (by first | assumption | omega) (by first | assumption | omega) (by first | assumption | omega) (by first | assumption | omega) (by first | assumption | omega) (by first | assumption | omega) (fun j => by rw [← h2]; exact rg_Rg_of (hI.hfl j)) (fun j => by rw [← h4]; exact rg_Rg_of (hI.hrf j))) tM0 cX10 v_X10_wrong i_X10_wrong k_ml_X10_179 ⟨Nat.le_of_ble_eq_true rfl, Nat.le_of_ble_eq_true rfl⟩ rfl (Nat.le_of_ble_eq_true rfl) dX10_what_7 (rg_ex2 ?_)
  show rg_G κ Γ rg_tM 5 0 0 (7 + 3) [(0, .ref (κ.2.2.2 0)), (1, .int (rg_I r)), (2, .int (rg_I b)), (3, .int (rg_I c)), (4, .int (rg_I x))] [.int (rg_I (rg_wg rf fl ((nb : Nat) : Int) ((nr : Nat) : Int) r b c x)), .ref (κ.2.2.2 0)] σ
  refine rg_put F 0 0 tM0 cX10 k_lays_X10 tyX10_ok nmX10 (by decide) k_fl_X10_89 rfl rfl rfl rfl (f9 := (σ 0)) rfl (rg_wr σ 0 (rg_up (σ 0) 0 (rg_wg rf fl ((nb : Nat) : Int) ((nr : Nat) : Int) r b c x))) rfl dX10_what_10 ?_
  refine rg_aload_n F 0 0 rfl dX10_what_13 rfl ?_
  refine rg_get F 0 0 tM0 cX10 k_lays_X10 (by decide) k_fl_X10_89 rfl (v := .int (rg_I (rg_wg rf fl ((nb : Nat) : Int) ((nr : Nat) : Int) r b c x))) rfl dX10_what_14 ?_
  refine rg_if_le F 22 dX10_what_17 (by decide) (by have b0 := rg_wg_bd (rf := rf) (fl := fl) (nb := ((nb : Nat) : Int)) (nr := ((nr : Nat) : Int)) (r := r) (b := b) (c := c) (x := x); omega) (fun c17_1 => ?_) (fun c17_1 => ?_)
  · exfalso; omega
  ·
    refine rg_iconst F dX10_what_20 ?_
    exact hR _ _ _ _ dX10_what_21 (fun h => nomatch h) ⟨rfl, rfl⟩
set_option maxHeartbeats 400000 in
set_option maxRecDepth 100000 in
/-- missing, done -/
theorem k_X10_missing_o (κ : rg_K) (σ : rg_S) (r k : Int) (nb : Nat) (nr : Nat) (nd : Nat) (tr : Int) (ns : Nat) (h0_1 : σ 0 1 = ((nb : Nat) : Int)) (h0_4 : σ 0 4 = ((nr : Nat) : Int)) (h0_11 : σ 0 11 = ((nd : Nat) : Int)) (h0_16 : σ 0 16 = tr) (h0_17 : σ 0 17 = ((ns : Nat) : Int)) (hI : rg_IM σ nb nr nd ns tr) (hr : rg_Rg r) (hk : rg_Rg k) (hc : (rg_cI ((nr : Nat) : Int) r) = 0) : rg_CI κ rg_tM yX10_missing cX10_missing 7 FieldType.int 2 47 [.ref (κ.2.2.2 0), .int (rg_I r), .int (rg_I k)] σ (fun r9 σ9 => r9 = (rg_mF (fun c => rg_isr (σ 4) (σ 2) (Int.toNat r) c ∧ rg_kE σ tr nd nb nr ((Int.toNat r) * 40 + c) = 0) k nb) ∧ σ9 = (rg_wr (rg_wr (rg_wr (rg_wr (rg_wr σ 0 (rg_up (σ 0) 0 0)) 15 (rg_kE σ tr nd nb nr)) 16 (rg_kA σ tr nd nb nr)) 17 (rg_kP σ tr nd nb nr)) 18 (rg_kS σ tr nd nb nr))) := by
  have hnb := hI.hnb
  have hnr := hI.hnr
  have hnd := hI.hnd
  have hns := hI.hns
  have hcb := rg_cI_0 hc
  refine rg_entI [(0, .ref (κ.2.2.2 0)), (1, .int (rg_I r)), (2, .int (rg_I k))] rfl (by decide +kernel) (Nat.le_of_ble_eq_true rfl) (by first | exact Or.inl rfl | exact Or.inr rfl) (fun Γ F hR => ?_)
  refine rg_aload_n F 0 0 rfl dX10_missing_0 rfl ?_
  refine rg_iload_n F 1 1 rfl dX10_missing_1 rfl ?_
  refine rg_iconst F dX10_missing_2 ?_
  refine rg_aload_n F 0 0 rfl dX10_missing_3 rfl ?_
  refine rg_get F 0 4 tM0 cX10 k_lays_X10 (by decide) k_fl_X10_99 rfl (v := .int (rg_I ((nr : Nat) : Int))) (congrArg (fun x => Value.int (rg_I x)) h0_4) dX10_missing_4 ?_
  refine rg_iconst F dX10_missing_7 ?_
  refine rg_isub F dX10_missing_8 ?_
  refine rg_callSI F [.int (rg_I r), .int (rg_I 0), .int (rg_I (((nr : Nat) : Int) - 1))] [.ref (κ.2.2.2 0)] (k_X10_in κ rg_tM σ (r) (0) ((((nr : Nat) : Int) - 1)) (by first | assumption | omega) (by first | assumption | omega) (by first | assumption | omega)) v_X10_in k_st_yX10_in k_ml_X10_172 ⟨Nat.le_of_ble_eq_true rfl, Nat.le_of_ble_eq_true rfl⟩ rfl (Nat.le_of_ble_eq_true rfl) dX10_missing_9 (rg_ex2 ?_)
  show rg_G κ Γ rg_tM 7 0 0 (9 + 3) [(0, .ref (κ.2.2.2 0)), (1, .int (rg_I r)), (2, .int (rg_I k))] [.int (rg_I (rg_b (0 ≤ r ∧ r ≤ (((nr : Nat) : Int) - 1)))), .ref (κ.2.2.2 0)] σ
  refine rg_if_eq F 19 dX10_missing_12 (by decide) (by have b0 := rg_b_Rg (0 ≤ r ∧ r ≤ (((nr : Nat) : Int) - 1)); omega) (fun c12_1 => ?_) (fun c12_1 => ?_)
  ·
    have c12_1 := (rg_b_eq0 _).mp c12_1
    refine rg_iconst F dX10_missing_19 ?_
    refine rg_put F 0 0 tM0 cX10 k_lays_X10 tyX10_ok nmX10 (by decide) k_fl_X10_89 rfl rfl rfl rfl (f9 := (σ 0)) rfl (rg_wr σ 0 (rg_up (σ 0) 0 1)) rfl dX10_missing_20 ?_
    refine rg_aload_n F 0 0 rfl dX10_missing_23 rfl ?_
    refine rg_get F 0 0 tM0 cX10 k_lays_X10 (by decide) k_fl_X10_89 rfl (v := .int (rg_I 1)) rfl dX10_missing_24 ?_
    exfalso; unfold rg_cI at hc; (repeat' split at hc) <;> omega
  ·
    have c12_1 := (rg_b_ne0 _).mp c12_1
    refine rg_iconst F dX10_missing_15 ?_
    refine rg_goto F 20 dX10_missing_16 (by decide) ?_
    refine rg_put F 0 0 tM0 cX10 k_lays_X10 tyX10_ok nmX10 (by decide) k_fl_X10_89 rfl rfl rfl rfl (f9 := (σ 0)) rfl (rg_wr σ 0 (rg_up (σ 0) 0 0)) rfl dX10_missing_20 ?_
    refine rg_aload_n F 0 0 rfl dX10_missing_23 rfl ?_
    refine rg_get F 0 0 tM0 cX10 k_lays_X10 (by decide) k_fl_X10_89 rfl (v := .int (rg_I 0)) rfl dX10_missing_24 ?_
    refine rg_if_le F 32 dX10_missing_27 (by decide) (by omega) (fun c27_2 => ?_) (fun c27_2 => ?_)
    ·
      refine rg_aload_n F 0 0 rfl dX10_missing_32 rfl ?_
      refine rg_callVV F [] [] 0 (k_X10_look κ (rg_wr σ 0 (rg_up (σ 0) 0 0)) (σ 2) (σ 4) (σ 5) (σ 6) (σ 7) (σ 8) (σ 9) (σ 10) (σ 11) (σ 12) (σ 15) (σ 16) (σ 17) (σ 18) (nb) (nr) (nd) (tr) rfl rfl rfl rfl rfl rfl rfl rfl rfl rfl rfl rfl rfl rfl (h0_1) (h0_4) (h0_11) (h0_16) hI.hnb hI.hnr hI.hnd (rg_Rg_01 hI.htr) (fun j => rg_Rg_of (hI.hwh j)) (fun j => rg_Rg_01 (hI.hro j)) (fun j => rg_Rg_of (hI.hwt j)) (fun j => rg_Rg_of (hI.hpu j)) (fun j => rg_Rg_01 (hI.hab j)) (fun j => rg_Rg_of (hI.hfl j)) (fun j => rg_Rg_of (hI.hrf j))) tM0 cX10 v_X10_look i_X10_look k_ml_X10_127 ⟨Nat.le_of_ble_eq_true rfl, Nat.le_of_ble_eq_true rfl⟩ rfl (Nat.le_of_ble_eq_true rfl) dX10_missing_33 (rg_ex1 ?_)
      refine rg_eq (σ' := (rg_wr (rg_wr (rg_wr (rg_wr (rg_wr σ 0 (rg_up (σ 0) 0 0)) 15 (rg_kE σ tr nd nb nr)) 16 (rg_kA σ tr nd nb nr)) 17 (rg_kP σ tr nd nb nr)) 18 (rg_kS σ tr nd nb nr))) rfl ?_
      refine rg_iconst F dX10_missing_36 ?_
      refine rg_istore_n F [(3, .int (rg_I (-1))), (0, .ref (κ.2.2.2 0)), (1, .int (rg_I r)), (2, .int (rg_I k))] dX10_missing_37 rfl (by decide) rfl ?_
      refine rg_iconst F dX10_missing_38 ?_
      refine rg_istore F [(4, .int (rg_I (-1))), (3, .int (rg_I (-1))), (0, .ref (κ.2.2.2 0)), (1, .int (rg_I r)), (2, .int (rg_I k))] dX10_missing_39 (by decide) rfl ?_
      refine rg_iconst F dX10_missing_41 ?_
      refine rg_istore F [(5, .int (rg_I 0)), (4, .int (rg_I (-1))), (3, .int (rg_I (-1))), (0, .ref (κ.2.2.2 0)), (1, .int (rg_I r)), (2, .int (rg_I k))] dX10_missing_42 (by decide) rfl ?_
      have L44 : ∀ (n44 : Nat) (n : Int) (f : Int) (b : Nat), n44 = nb - b → (b ≤ nb) → (n = ((rg_cnt (fun c => rg_isr (σ 4) (σ 2) (Int.toNat r) c ∧ rg_kE σ tr nd nb nr ((Int.toNat r) * 40 + c) = 0) b : Nat) : Int) - 1) → (f = rg_mF (fun c => rg_isr (σ 4) (σ 2) (Int.toNat r) c ∧ rg_kE σ tr nd nb nr ((Int.toNat r) * 40 + c) = 0) k b) → (-1 ≤ n ∧ n ≤ b) → (-1 ≤ f ∧ f ≤ b) → rg_G κ Γ rg_tM 7 0 0 44 [(0, .ref (κ.2.2.2 0)), (1, .int (rg_I r)), (2, .int (rg_I k)), (3, .int (rg_I n)), (4, .int (rg_I f)), (5, .int (rg_I ((b : Nat) : Int)))] [] (rg_wr (rg_wr (rg_wr (rg_wr (rg_wr σ 0 (rg_up (σ 0) 0 0)) 15 (rg_kE σ tr nd nb nr)) 16 (rg_kA σ tr nd nb nr)) 17 (rg_kP σ tr nd nb nr)) 18 (rg_kS σ tr nd nb nr)) := by
        intro n44
        induction n44 using Nat.strongRecOn with
        | _ n44 ih44 =>
          intro n f b hn44 hb hn hf hnb2 hfb
          refine rg_iload F 5 5 rfl dX10_missing_44 ?_
          refine rg_aload_n F 0 0 rfl dX10_missing_46 rfl ?_
          refine rg_get F 0 1 tM0 cX10 k_lays_X10 (by decide) k_fl_X10_102 rfl (v := .int (rg_I ((nb : Nat) : Int))) (congrArg (fun x => Value.int (rg_I x)) h0_1) dX10_missing_47 ?_
          refine rg_icmp_ge F 123 dX10_missing_50 (by decide) (by omega) (by omega) (fun c50_3 => ?_) (fun c50_3 => ?_)
          ·
            refine rg_iload F 4 4 rfl dX10_missing_123 ?_
            exact hR _ _ _ _ dX10_missing_125 (fun h => nomatch h) ⟨(by rw [hf, show b = nb by omega]), rfl⟩
          ·
            refine rg_aload_n F 0 0 rfl dX10_missing_53 rfl ?_
            refine rg_iload_n F 1 1 rfl dX10_missing_54 rfl ?_
            refine rg_stk (st' := [.int (rg_I ((Int.toNat r : Nat) : Int)), .ref (κ.2.2.2 0)]) (by rw [Int.toNat_of_nonneg (a := r) (by omega)]) ?_
            refine rg_iload F 5 5 rfl dX10_missing_55 ?_
            refine rg_callVI F [.int (rg_I ((Int.toNat r : Nat) : Int)), .int (rg_I ((b : Nat) : Int))] [] 0 (k_X10_isOf κ (rg_wr (rg_wr (rg_wr (rg_wr (rg_wr σ 0 (rg_up (σ 0) 0 0)) 15 (rg_kE σ tr nd nb nr)) 16 (rg_kA σ tr nd nb nr)) 17 (rg_kP σ tr nd nb nr)) 18 (rg_kS σ tr nd nb nr)) ((Int.toNat r)) (b) (σ 2) (σ 4) rfl rfl (by first | assumption | omega) (by first | assumption | omega) (fun j => rg_Rg_of (hI.hfl j)) (fun j => rg_Rg_of (hI.hrf j))) tM0 cX10 v_X10_isOf i_X10_isOf k_ml_X10_109 ⟨Nat.le_of_ble_eq_true rfl, Nat.le_of_ble_eq_true rfl⟩ rfl (Nat.le_of_ble_eq_true rfl) dX10_missing_57 (rg_ex2 ?_)
            show rg_G κ Γ rg_tM 7 0 0 (57 + 3) [(0, .ref (κ.2.2.2 0)), (1, .int (rg_I r)), (2, .int (rg_I k)), (3, .int (rg_I n)), (4, .int (rg_I f)), (5, .int (rg_I ((b : Nat) : Int)))] [.int (rg_I (rg_b (rg_isr (σ 4) (σ 2) (Int.toNat r) b)))] (rg_wr (rg_wr (rg_wr (rg_wr (rg_wr σ 0 (rg_up (σ 0) 0 0)) 15 (rg_kE σ tr nd nb nr)) 16 (rg_kA σ tr nd nb nr)) 17 (rg_kP σ tr nd nb nr)) 18 (rg_kS σ tr nd nb nr))
            refine rg_if_eq F 82 dX10_missing_60 (by decide) (by have b0 := rg_b_Rg (rg_isr (σ 4) (σ 2) (Int.toNat r) b); omega) (fun c60_4 => ?_) (fun c60_4 => ?_)
            ·
              have c60_4 := (rg_b_eq0 _).mp c60_4
              refine rg_iconst F dX10_missing_82 ?_
              refine rg_istore F [(6, .int (rg_I 0)), (0, .ref (κ.2.2.2 0)), (1, .int (rg_I r)), (2, .int (rg_I k)), (3, .int (rg_I n)), (4, .int (rg_I f)), (5, .int (rg_I ((b : Nat) : Int)))] dX10_missing_83 (by decide) rfl ?_
              refine rg_iload_n F 4 3 rfl dX10_missing_85 rfl ?_
              refine rg_iload F 0 6 rfl dX10_missing_86 ?_
              refine rg_if_eq F 95 dX10_missing_88 (by decide) (by omega) (fun c88_5 => ?_) (fun c88_5 => ?_)
              ·
                refine rg_iconst F dX10_missing_95 ?_
                refine rg_iadd F dX10_missing_96 ?_
                refine rg_istore_n F [(3, .int (rg_I (n + 0))), (6, .int (rg_I 0)), (0, .ref (κ.2.2.2 0)), (1, .int (rg_I r)), (2, .int (rg_I k)), (4, .int (rg_I f)), (5, .int (rg_I ((b : Nat) : Int)))] dX10_missing_97 rfl (by decide) rfl ?_
                refine rg_iload F 1 6 rfl dX10_missing_98 ?_
                refine rg_if_eq F 113 dX10_missing_100 (by decide) (by omega) (fun c100_6 => ?_) (fun c100_6 => ?_)
                ·
                  refine rg_iload F 5 4 rfl dX10_missing_113 ?_
                  refine rg_istore F [(4, .int (rg_I f)), (3, .int (rg_I (n + 0))), (6, .int (rg_I 0)), (0, .ref (κ.2.2.2 0)), (1, .int (rg_I r)), (2, .int (rg_I k)), (5, .int (rg_I ((b : Nat) : Int)))] dX10_missing_115 (by decide) rfl ?_
                  refine rg_iinc F (v := ((b + 1 : Nat) : Int)) 6 [(5, .int (rg_I ((b + 1 : Nat) : Int))), (4, .int (rg_I f)), (3, .int (rg_I (n + 0))), (6, .int (rg_I 0)), (0, .ref (κ.2.2.2 0)), (1, .int (rg_I r)), (2, .int (rg_I k))] dX10_missing_117 rfl (by omega) (by decide) rfl ?_
                  refine rg_goto F 44 dX10_missing_120 (by decide) ?_
                  refine rg_sub (lv' := [(0, .ref (κ.2.2.2 0)), (1, .int (rg_I r)), (2, .int (rg_I k)), (3, .int (rg_I (n + 0))), (4, .int (rg_I f)), (5, .int (rg_I ((b + 1 : Nat) : Int)))]) [4, 5, 6, 2, 1, 0] rfl ?_
                  exact ih44 (nb - (b + 1)) (by omega) ((n + 0)) (f) ((b + 1)) rfl (by omega) (by first | exact (rg_mF_t (P := (fun c => rg_isr (σ 4) (σ 2) (Int.toNat r) c ∧ rg_kE σ tr nd nb nr ((Int.toNat r) * 40 + c) = 0)) ⟨by assumption, by assumption⟩ hn (by omega)).2 | exact (rg_mF_m (P := (fun c => rg_isr (σ 4) (σ 2) (Int.toNat r) c ∧ rg_kE σ tr nd nb nr ((Int.toNat r) * 40 + c) = 0)) ⟨by assumption, by assumption⟩ hn hf (by omega)).2 | exact (rg_mF_f (P := (fun c => rg_isr (σ 4) (σ 2) (Int.toNat r) c ∧ rg_kE σ tr nd nb nr ((Int.toNat r) * 40 + c) = 0)) (fun q => absurd q.1 (by assumption)) hn hf).2 | exact (rg_mF_f (P := (fun c => rg_isr (σ 4) (σ 2) (Int.toNat r) c ∧ rg_kE σ tr nd nb nr ((Int.toNat r) * 40 + c) = 0)) (fun q => absurd q.2 (by assumption)) hn hf).2) (by first | exact (rg_mF_t (P := (fun c => rg_isr (σ 4) (σ 2) (Int.toNat r) c ∧ rg_kE σ tr nd nb nr ((Int.toNat r) * 40 + c) = 0)) ⟨by assumption, by assumption⟩ hn (by omega)).1 | exact (rg_mF_m (P := (fun c => rg_isr (σ 4) (σ 2) (Int.toNat r) c ∧ rg_kE σ tr nd nb nr ((Int.toNat r) * 40 + c) = 0)) ⟨by assumption, by assumption⟩ hn hf (by omega)).1 | exact (rg_mF_f (P := (fun c => rg_isr (σ 4) (σ 2) (Int.toNat r) c ∧ rg_kE σ tr nd nb nr ((Int.toNat r) * 40 + c) = 0)) (fun q => absurd q.1 (by assumption)) hn hf).1 | exact (rg_mF_f (P := (fun c => rg_isr (σ 4) (σ 2) (Int.toNat r) c ∧ rg_kE σ tr nd nb nr ((Int.toNat r) * 40 + c) = 0)) (fun q => absurd q.2 (by assumption)) hn hf).1) (by omega) (by omega)
                · first | exact absurd c100_6 c88_5 | exact absurd c88_5 c100_6 | exact absurd ((rg_b_ne0 _).mp c100_6) c88_5 | exact absurd c88_5 ((rg_b_eq0 _).mp c100_6)
              · exfalso; omega
            ·
              have c60_4 := (rg_b_ne0 _).mp c60_4
              refine rg_aload_n F 0 0 rfl dX10_missing_63 rfl ?_
              refine rg_get F 0 21 tM0 cX10 k_lays_X10 (by decide) k_fl_X10_53 rfl (v := .ref (κ.2.2.2 15)) rfl dX10_missing_64 ?_
              refine rg_bipush F dX10_missing_67 (by decide +kernel) ?_
              refine rg_iload_n F 1 1 rfl dX10_missing_69 rfl ?_
              refine rg_stk (st' := [.int (rg_I ((Int.toNat r : Nat) : Int)), .int (rg_I 40), .ref (κ.2.2.2 15)]) (by rw [Int.toNat_of_nonneg (a := r) (by omega)]) ?_
              refine rg_imul F dX10_missing_70 ?_
              refine rg_iload F 5 5 rfl dX10_missing_71 ?_
              refine rg_iadd F dX10_missing_73 ?_
              refine rg_stk (st' := [.int (rg_I (((Int.toNat r) * 40 + b : Nat) : Int)), .ref (κ.2.2.2 15)]) (congrArg (fun x9 : Int => Value.int (rg_I x9) :: [.ref (κ.2.2.2 15)]) (by omega)) ?_
              refine rg_iald F 15 ((Int.toNat r) * 40 + b) (v := ((rg_kE σ tr nd nb nr) ((Int.toNat r) * 40 + b))) tM15 (by omega) (by omega) (by decide) rfl dX10_missing_74 ?_
              refine rg_if_ne F 82 dX10_missing_75 (by decide) (by have b0 := rg_kE_Rg hI (((Int.toNat r) * 40 + b)); omega) (fun c75_7 => ?_) (fun c75_7 => ?_)
              ·
                refine rg_iconst F dX10_missing_82 ?_
                refine rg_istore F [(6, .int (rg_I 0)), (0, .ref (κ.2.2.2 0)), (1, .int (rg_I r)), (2, .int (rg_I k)), (3, .int (rg_I n)), (4, .int (rg_I f)), (5, .int (rg_I ((b : Nat) : Int)))] dX10_missing_83 (by decide) rfl ?_
                refine rg_iload_n F 4 3 rfl dX10_missing_85 rfl ?_
                refine rg_iload F 0 6 rfl dX10_missing_86 ?_
                refine rg_if_eq F 95 dX10_missing_88 (by decide) (by omega) (fun c88_8 => ?_) (fun c88_8 => ?_)
                ·
                  refine rg_iconst F dX10_missing_95 ?_
                  refine rg_iadd F dX10_missing_96 ?_
                  refine rg_istore_n F [(3, .int (rg_I (n + 0))), (6, .int (rg_I 0)), (0, .ref (κ.2.2.2 0)), (1, .int (rg_I r)), (2, .int (rg_I k)), (4, .int (rg_I f)), (5, .int (rg_I ((b : Nat) : Int)))] dX10_missing_97 rfl (by decide) rfl ?_
                  refine rg_iload F 1 6 rfl dX10_missing_98 ?_
                  refine rg_if_eq F 113 dX10_missing_100 (by decide) (by omega) (fun c100_9 => ?_) (fun c100_9 => ?_)
                  ·
                    refine rg_iload F 5 4 rfl dX10_missing_113 ?_
                    refine rg_istore F [(4, .int (rg_I f)), (3, .int (rg_I (n + 0))), (6, .int (rg_I 0)), (0, .ref (κ.2.2.2 0)), (1, .int (rg_I r)), (2, .int (rg_I k)), (5, .int (rg_I ((b : Nat) : Int)))] dX10_missing_115 (by decide) rfl ?_
                    refine rg_iinc F (v := ((b + 1 : Nat) : Int)) 6 [(5, .int (rg_I ((b + 1 : Nat) : Int))), (4, .int (rg_I f)), (3, .int (rg_I (n + 0))), (6, .int (rg_I 0)), (0, .ref (κ.2.2.2 0)), (1, .int (rg_I r)), (2, .int (rg_I k))] dX10_missing_117 rfl (by omega) (by decide) rfl ?_
                    refine rg_goto F 44 dX10_missing_120 (by decide) ?_
                    refine rg_sub (lv' := [(0, .ref (κ.2.2.2 0)), (1, .int (rg_I r)), (2, .int (rg_I k)), (3, .int (rg_I (n + 0))), (4, .int (rg_I f)), (5, .int (rg_I ((b + 1 : Nat) : Int)))]) [4, 5, 6, 2, 1, 0] rfl ?_
                    exact ih44 (nb - (b + 1)) (by omega) ((n + 0)) (f) ((b + 1)) rfl (by omega) (by first | exact (rg_mF_t (P := (fun c => rg_isr (σ 4) (σ 2) (Int.toNat r) c ∧ rg_kE σ tr nd nb nr ((Int.toNat r) * 40 + c) = 0)) ⟨by assumption, by assumption⟩ hn (by omega)).2 | exact (rg_mF_m (P := (fun c => rg_isr (σ 4) (σ 2) (Int.toNat r) c ∧ rg_kE σ tr nd nb nr ((Int.toNat r) * 40 + c) = 0)) ⟨by assumption, by assumption⟩ hn hf (by omega)).2 | exact (rg_mF_f (P := (fun c => rg_isr (σ 4) (σ 2) (Int.toNat r) c ∧ rg_kE σ tr nd nb nr ((Int.toNat r) * 40 + c) = 0)) (fun q => absurd q.1 (by assumption)) hn hf).2 | exact (rg_mF_f (P := (fun c => rg_isr (σ 4) (σ 2) (Int.toNat r) c ∧ rg_kE σ tr nd nb nr ((Int.toNat r) * 40 + c) = 0)) (fun q => absurd q.2 (by assumption)) hn hf).2) (by first | exact (rg_mF_t (P := (fun c => rg_isr (σ 4) (σ 2) (Int.toNat r) c ∧ rg_kE σ tr nd nb nr ((Int.toNat r) * 40 + c) = 0)) ⟨by assumption, by assumption⟩ hn (by omega)).1 | exact (rg_mF_m (P := (fun c => rg_isr (σ 4) (σ 2) (Int.toNat r) c ∧ rg_kE σ tr nd nb nr ((Int.toNat r) * 40 + c) = 0)) ⟨by assumption, by assumption⟩ hn hf (by omega)).1 | exact (rg_mF_f (P := (fun c => rg_isr (σ 4) (σ 2) (Int.toNat r) c ∧ rg_kE σ tr nd nb nr ((Int.toNat r) * 40 + c) = 0)) (fun q => absurd q.1 (by assumption)) hn hf).1 | exact (rg_mF_f (P := (fun c => rg_isr (σ 4) (σ 2) (Int.toNat r) c ∧ rg_kE σ tr nd nb nr ((Int.toNat r) * 40 + c) = 0)) (fun q => absurd q.2 (by assumption)) hn hf).1) (by omega) (by omega)
                  · first | exact absurd c100_9 c88_8 | exact absurd c88_8 c100_9 | exact absurd ((rg_b_ne0 _).mp c100_9) c88_8 | exact absurd c88_8 ((rg_b_eq0 _).mp c100_9)
                · exfalso; omega
              ·
                refine rg_iconst F dX10_missing_78 ?_
                refine rg_goto F 83 dX10_missing_79 (by decide) ?_
                refine rg_istore F [(6, .int (rg_I 1)), (0, .ref (κ.2.2.2 0)), (1, .int (rg_I r)), (2, .int (rg_I k)), (3, .int (rg_I n)), (4, .int (rg_I f)), (5, .int (rg_I ((b : Nat) : Int)))] dX10_missing_83 (by decide) rfl ?_
                refine rg_iload_n F 4 3 rfl dX10_missing_85 rfl ?_
                refine rg_iload F 0 6 rfl dX10_missing_86 ?_
                refine rg_if_eq F 95 dX10_missing_88 (by decide) (by omega) (fun c88_10 => ?_) (fun c88_10 => ?_)
                · exfalso; omega
                ·
                  refine rg_iconst F dX10_missing_91 ?_
                  refine rg_goto F 96 dX10_missing_92 (by decide) ?_
                  refine rg_iadd F dX10_missing_96 ?_
                  refine rg_istore_n F [(3, .int (rg_I (n + 1))), (6, .int (rg_I 1)), (0, .ref (κ.2.2.2 0)), (1, .int (rg_I r)), (2, .int (rg_I k)), (4, .int (rg_I f)), (5, .int (rg_I ((b : Nat) : Int)))] dX10_missing_97 rfl (by decide) rfl ?_
                  refine rg_iload F 1 6 rfl dX10_missing_98 ?_
                  refine rg_if_eq F 113 dX10_missing_100 (by decide) (by omega) (fun c100_11 => ?_) (fun c100_11 => ?_)
                  · first | exact absurd c100_11 c88_10 | exact absurd c88_10 c100_11 | exact absurd ((rg_b_ne0 _).mp c100_11) c88_10 | exact absurd c88_10 ((rg_b_eq0 _).mp c100_11)
                  ·
                    refine rg_iload_n F 0 3 rfl dX10_missing_103 rfl ?_
                    refine rg_iload_n F 4 2 rfl dX10_missing_104 rfl ?_
                    refine rg_icmp_ne F 113 dX10_missing_105 (by decide) (by omega) (by omega) (fun c105_12 => ?_) (fun c105_12 => ?_)
                    ·
                      refine rg_iload F 5 4 rfl dX10_missing_113 ?_
                      refine rg_istore F [(4, .int (rg_I f)), (3, .int (rg_I (n + 1))), (6, .int (rg_I 1)), (0, .ref (κ.2.2.2 0)), (1, .int (rg_I r)), (2, .int (rg_I k)), (5, .int (rg_I ((b : Nat) : Int)))] dX10_missing_115 (by decide) rfl ?_
                      refine rg_iinc F (v := ((b + 1 : Nat) : Int)) 6 [(5, .int (rg_I ((b + 1 : Nat) : Int))), (4, .int (rg_I f)), (3, .int (rg_I (n + 1))), (6, .int (rg_I 1)), (0, .ref (κ.2.2.2 0)), (1, .int (rg_I r)), (2, .int (rg_I k))] dX10_missing_117 rfl (by omega) (by decide) rfl ?_
                      refine rg_goto F 44 dX10_missing_120 (by decide) ?_
                      refine rg_sub (lv' := [(0, .ref (κ.2.2.2 0)), (1, .int (rg_I r)), (2, .int (rg_I k)), (3, .int (rg_I (n + 1))), (4, .int (rg_I f)), (5, .int (rg_I ((b + 1 : Nat) : Int)))]) [4, 5, 6, 2, 1, 0] rfl ?_
                      exact ih44 (nb - (b + 1)) (by omega) ((n + 1)) (f) ((b + 1)) rfl (by omega) (by first | exact (rg_mF_t (P := (fun c => rg_isr (σ 4) (σ 2) (Int.toNat r) c ∧ rg_kE σ tr nd nb nr ((Int.toNat r) * 40 + c) = 0)) ⟨by assumption, by assumption⟩ hn (by omega)).2 | exact (rg_mF_m (P := (fun c => rg_isr (σ 4) (σ 2) (Int.toNat r) c ∧ rg_kE σ tr nd nb nr ((Int.toNat r) * 40 + c) = 0)) ⟨by assumption, by assumption⟩ hn hf (by omega)).2 | exact (rg_mF_f (P := (fun c => rg_isr (σ 4) (σ 2) (Int.toNat r) c ∧ rg_kE σ tr nd nb nr ((Int.toNat r) * 40 + c) = 0)) (fun q => absurd q.1 (by assumption)) hn hf).2 | exact (rg_mF_f (P := (fun c => rg_isr (σ 4) (σ 2) (Int.toNat r) c ∧ rg_kE σ tr nd nb nr ((Int.toNat r) * 40 + c) = 0)) (fun q => absurd q.2 (by assumption)) hn hf).2) (by first | exact (rg_mF_t (P := (fun c => rg_isr (σ 4) (σ 2) (Int.toNat r) c ∧ rg_kE σ tr nd nb nr ((Int.toNat r) * 40 + c) = 0)) ⟨by assumption, by assumption⟩ hn (by omega)).1 | exact (rg_mF_m (P := (fun c => rg_isr (σ 4) (σ 2) (Int.toNat r) c ∧ rg_kE σ tr nd nb nr ((Int.toNat r) * 40 + c) = 0)) ⟨by assumption, by assumption⟩ hn hf (by omega)).1 | exact (rg_mF_f (P := (fun c => rg_isr (σ 4) (σ 2) (Int.toNat r) c ∧ rg_kE σ tr nd nb nr ((Int.toNat r) * 40 + c) = 0)) (fun q => absurd q.1 (by assumption)) hn hf).1 | exact (rg_mF_f (P := (fun c => rg_isr (σ 4) (σ 2) (Int.toNat r) c ∧ rg_kE σ tr nd nb nr ((Int.toNat r) * 40 + c) = 0)) (fun q => absurd q.2 (by assumption)) hn hf).1) (by omega) (by omega)
                    ·
                      refine rg_iload F 6 5 rfl dX10_missing_108 ?_
                      refine rg_goto F 115 dX10_missing_110 (by decide) ?_
                      refine rg_istore F [(4, .int (rg_I ((b : Nat) : Int))), (3, .int (rg_I (n + 1))), (6, .int (rg_I 1)), (0, .ref (κ.2.2.2 0)), (1, .int (rg_I r)), (2, .int (rg_I k)), (5, .int (rg_I ((b : Nat) : Int)))] dX10_missing_115 (by decide) rfl ?_
                      refine rg_iinc F (v := ((b + 1 : Nat) : Int)) 6 [(5, .int (rg_I ((b + 1 : Nat) : Int))), (4, .int (rg_I ((b : Nat) : Int))), (3, .int (rg_I (n + 1))), (6, .int (rg_I 1)), (0, .ref (κ.2.2.2 0)), (1, .int (rg_I r)), (2, .int (rg_I k))] dX10_missing_117 rfl (by omega) (by decide) rfl ?_
                      refine rg_goto F 44 dX10_missing_120 (by decide) ?_
                      refine rg_sub (lv' := [(0, .ref (κ.2.2.2 0)), (1, .int (rg_I r)), (2, .int (rg_I k)), (3, .int (rg_I (n + 1))), (4, .int (rg_I ((b : Nat) : Int))), (5, .int (rg_I ((b + 1 : Nat) : Int)))]) [4, 5, 6, 2, 1, 0] rfl ?_
                      exact ih44 (nb - (b + 1)) (by omega) ((n + 1)) (((b : Nat) : Int)) ((b + 1)) rfl (by omega) (by first | exact (rg_mF_t (P := (fun c => rg_isr (σ 4) (σ 2) (Int.toNat r) c ∧ rg_kE σ tr nd nb nr ((Int.toNat r) * 40 + c) = 0)) ⟨by assumption, by assumption⟩ hn (by omega)).2 | exact (rg_mF_m (P := (fun c => rg_isr (σ 4) (σ 2) (Int.toNat r) c ∧ rg_kE σ tr nd nb nr ((Int.toNat r) * 40 + c) = 0)) ⟨by assumption, by assumption⟩ hn hf (by omega)).2 | exact (rg_mF_f (P := (fun c => rg_isr (σ 4) (σ 2) (Int.toNat r) c ∧ rg_kE σ tr nd nb nr ((Int.toNat r) * 40 + c) = 0)) (fun q => absurd q.1 (by assumption)) hn hf).2 | exact (rg_mF_f (P := (fun c => rg_isr (σ 4) (σ 2) (Int.toNat r) c ∧ rg_kE σ tr nd nb nr ((Int.toNat r) * 40 + c) = 0)) (fun q => absurd q.2 (by assumption)) hn hf).2) (by first | exact (rg_mF_t (P := (fun c => rg_isr (σ 4) (σ 2) (Int.toNat r) c ∧ rg_kE σ tr nd nb nr ((Int.toNat r) * 40 + c) = 0)) ⟨by assumption, by assumption⟩ hn (by omega)).1 | exact (rg_mF_m (P := (fun c => rg_isr (σ 4) (σ 2) (Int.toNat r) c ∧ rg_kE σ tr nd nb nr ((Int.toNat r) * 40 + c) = 0)) ⟨by assumption, by assumption⟩ hn hf (by omega)).1 | exact (rg_mF_f (P := (fun c => rg_isr (σ 4) (σ 2) (Int.toNat r) c ∧ rg_kE σ tr nd nb nr ((Int.toNat r) * 40 + c) = 0)) (fun q => absurd q.1 (by assumption)) hn hf).1 | exact (rg_mF_f (P := (fun c => rg_isr (σ 4) (σ 2) (Int.toNat r) c ∧ rg_kE σ tr nd nb nr ((Int.toNat r) * 40 + c) = 0)) (fun q => absurd q.2 (by assumption)) hn hf).1) (by omega) (by omega)
      refine rg_sub (lv' := [(0, .ref (κ.2.2.2 0)), (1, .int (rg_I r)), (2, .int (rg_I k)), (3, .int (rg_I (-1))), (4, .int (rg_I (-1))), (5, .int (rg_I 0))]) [3, 4, 5, 2, 1, 0] rfl ?_
      exact L44 _ ((-1)) ((-1)) (0) rfl (by omega) rfl rfl (by omega) (by omega)
    · exfalso; omega
set_option maxHeartbeats 400000 in
set_option maxRecDepth 100000 in
/-- missing, refused -/
theorem k_X10_missing_n (κ : rg_K) (σ : rg_S) (r k : Int) (nb : Nat) (nr : Nat) (nd : Nat) (tr : Int) (ns : Nat) (h0_1 : σ 0 1 = ((nb : Nat) : Int)) (h0_4 : σ 0 4 = ((nr : Nat) : Int)) (h0_11 : σ 0 11 = ((nd : Nat) : Int)) (h0_16 : σ 0 16 = tr) (h0_17 : σ 0 17 = ((ns : Nat) : Int)) (hI : rg_IM σ nb nr nd ns tr) (hr : rg_Rg r) (hk : rg_Rg k) (hc : ¬ (rg_cI ((nr : Nat) : Int) r) = 0) : rg_CI κ rg_tM yX10_missing cX10_missing 7 FieldType.int 2 47 [.ref (κ.2.2.2 0), .int (rg_I r), .int (rg_I k)] σ (fun r9 σ9 => r9 = 0 ∧ σ9 = (rg_wr σ 0 (rg_up (σ 0) 0 (rg_cI ((nr : Nat) : Int) r)))) := by
  have hnb := hI.hnb
  have hnr := hI.hnr
  have hnd := hI.hnd
  have hns := hI.hns
  refine rg_entI [(0, .ref (κ.2.2.2 0)), (1, .int (rg_I r)), (2, .int (rg_I k))] rfl (by decide +kernel) (Nat.le_of_ble_eq_true rfl) (by first | exact Or.inl rfl | exact Or.inr rfl) (fun Γ F hR => ?_)
  refine rg_aload_n F 0 0 rfl dX10_missing_0 rfl ?_
  refine rg_iload_n F 1 1 rfl dX10_missing_1 rfl ?_
  refine rg_iconst F dX10_missing_2 ?_
  refine rg_aload_n F 0 0 rfl dX10_missing_3 rfl ?_
  refine rg_get F 0 4 tM0 cX10 k_lays_X10 (by decide) k_fl_X10_99 rfl (v := .int (rg_I ((nr : Nat) : Int))) (congrArg (fun x => Value.int (rg_I x)) h0_4) dX10_missing_4 ?_
  refine rg_iconst F dX10_missing_7 ?_
  refine rg_isub F dX10_missing_8 ?_
  refine rg_callSI F [.int (rg_I r), .int (rg_I 0), .int (rg_I (((nr : Nat) : Int) - 1))] [.ref (κ.2.2.2 0)] (k_X10_in κ rg_tM σ (r) (0) ((((nr : Nat) : Int) - 1)) (by first | assumption | omega) (by first | assumption | omega) (by first | assumption | omega)) v_X10_in k_st_yX10_in k_ml_X10_172 ⟨Nat.le_of_ble_eq_true rfl, Nat.le_of_ble_eq_true rfl⟩ rfl (Nat.le_of_ble_eq_true rfl) dX10_missing_9 (rg_ex2 ?_)
  show rg_G κ Γ rg_tM 7 0 0 (9 + 3) [(0, .ref (κ.2.2.2 0)), (1, .int (rg_I r)), (2, .int (rg_I k))] [.int (rg_I (rg_b (0 ≤ r ∧ r ≤ (((nr : Nat) : Int) - 1)))), .ref (κ.2.2.2 0)] σ
  refine rg_if_eq F 19 dX10_missing_12 (by decide) (by have b0 := rg_b_Rg (0 ≤ r ∧ r ≤ (((nr : Nat) : Int) - 1)); omega) (fun c12_1 => ?_) (fun c12_1 => ?_)
  ·
    have c12_1 := (rg_b_eq0 _).mp c12_1
    refine rg_iconst F dX10_missing_19 ?_
    refine rg_put F 0 0 tM0 cX10 k_lays_X10 tyX10_ok nmX10 (by decide) k_fl_X10_89 rfl rfl rfl rfl (f9 := (σ 0)) rfl (rg_wr σ 0 (rg_up (σ 0) 0 1)) rfl dX10_missing_20 ?_
    refine rg_aload_n F 0 0 rfl dX10_missing_23 rfl ?_
    refine rg_get F 0 0 tM0 cX10 k_lays_X10 (by decide) k_fl_X10_89 rfl (v := .int (rg_I 1)) rfl dX10_missing_24 ?_
    refine rg_if_le F 32 dX10_missing_27 (by decide) (by omega) (fun c27_2 => ?_) (fun c27_2 => ?_)
    · exfalso; omega
    ·
      refine rg_iconst F dX10_missing_30 ?_
      exact hR _ _ _ _ dX10_missing_31 (fun h => nomatch h) ⟨rfl, (rg_wr_congr (f := (rg_up (σ 0) 0 1)) (g := (rg_up (σ 0) 0 (rg_cI ((nr : Nat) : Int) r))) 0 rfl (by (repeat rw [rg_up_up]) <;> first | rfl | exact congrArg (rg_up _ 0) (by unfold rg_cI; (repeat' split) <;> omega)))⟩
  ·
    have c12_1 := (rg_b_ne0 _).mp c12_1
    refine rg_iconst F dX10_missing_15 ?_
    refine rg_goto F 20 dX10_missing_16 (by decide) ?_
    refine rg_put F 0 0 tM0 cX10 k_lays_X10 tyX10_ok nmX10 (by decide) k_fl_X10_89 rfl rfl rfl rfl (f9 := (σ 0)) rfl (rg_wr σ 0 (rg_up (σ 0) 0 0)) rfl dX10_missing_20 ?_
    refine rg_aload_n F 0 0 rfl dX10_missing_23 rfl ?_
    refine rg_get F 0 0 tM0 cX10 k_lays_X10 (by decide) k_fl_X10_89 rfl (v := .int (rg_I 0)) rfl dX10_missing_24 ?_
    exfalso; unfold rg_cI at hc; (repeat' split at hc) <;> omega
set_option maxHeartbeats 400000 in
set_option maxRecDepth 100000 in
/-- told, done -/
theorem k_X10_told_o (κ : rg_K) (σ : rg_S) (b w : Int) (nb : Nat) (nr : Nat) (nd : Nat) (tr : Int) (ns : Nat) (h0_1 : σ 0 1 = ((nb : Nat) : Int)) (h0_4 : σ 0 4 = ((nr : Nat) : Int)) (h0_11 : σ 0 11 = ((nd : Nat) : Int)) (h0_16 : σ 0 16 = tr) (h0_17 : σ 0 17 = ((ns : Nat) : Int)) (hI : rg_IM σ nb nr nd ns tr) (hb : rg_Rg b) (hw : rg_Rg w) (hc : (rg_cW ((nb : Nat) : Int) b w) = 0) : rg_CI κ rg_tM yX10_told cX10_told 3 FieldType.int 5 119 [.ref (κ.2.2.2 0), .int (rg_I b), .int (rg_I w)] σ (fun r9 σ9 => r9 = (if w = 0 then σ 2 (Int.toNat b) else if w = 1 then σ 1 (Int.toNat b) else if w = 2 then rg_kM σ tr nd nb nr (Int.toNat b) else rg_kC σ tr nd nb nr ns (Int.toNat b)) ∧ σ9 = (rg_wr (rg_wr (rg_wr (rg_wr (rg_wr (rg_wr (rg_wr (rg_wr (rg_wr (rg_wr (rg_wr σ 0 (rg_up (σ 0) 0 0)) 15 (rg_kE σ tr nd nb nr)) 16 (rg_kA σ tr nd nb nr)) 17 (rg_kP σ tr nd nb nr)) 18 (rg_kS σ tr nd nb nr)) 19 (rg_kT σ tr nd nb nr)) 20 (rg_ctb (σ 20) nr nb (fun _ _ => True) (rg_kD σ tr nd nb nr ns))) 21 (rg_hd (σ 21) nb (rg_kG σ tr nd nb nr))) 22 (rg_hd (σ 22) nb (rg_kN σ tr nd nb nr ns))) 23 (rg_hd (σ 23) nb (rg_kM σ tr nd nb nr))) 24 (rg_hd (σ 24) nb (rg_kC σ tr nd nb nr ns)))) := by
  have hnb := hI.hnb
  have hnr := hI.hnr
  have hnd := hI.hnd
  have hns := hI.hns
  have hcb := rg_cW_0 hc
  refine rg_entI [(0, .ref (κ.2.2.2 0)), (1, .int (rg_I b)), (2, .int (rg_I w))] rfl (by decide +kernel) (Nat.le_of_ble_eq_true rfl) (by first | exact Or.inl rfl | exact Or.inr rfl) (fun Γ F hR => ?_)
  refine rg_aload_n F 0 0 rfl dX10_told_0 rfl ?_
  refine rg_iload_n F 1 1 rfl dX10_told_1 rfl ?_
  refine rg_iconst F dX10_told_2 ?_
  refine rg_aload_n F 0 0 rfl dX10_told_3 rfl ?_
  refine rg_get F 0 1 tM0 cX10 k_lays_X10 (by decide) k_fl_X10_102 rfl (v := .int (rg_I ((nb : Nat) : Int))) (congrArg (fun x => Value.int (rg_I x)) h0_1) dX10_told_4 ?_
  refine rg_iconst F dX10_told_7 ?_
  refine rg_isub F dX10_told_8 ?_
  refine rg_callSI F [.int (rg_I b), .int (rg_I 0), .int (rg_I (((nb : Nat) : Int) - 1))] [.ref (κ.2.2.2 0)] (k_X10_in κ rg_tM σ (b) (0) ((((nb : Nat) : Int) - 1)) (by first | assumption | omega) (by first | assumption | omega) (by first | assumption | omega)) v_X10_in k_st_yX10_in k_ml_X10_172 ⟨Nat.le_of_ble_eq_true rfl, Nat.le_of_ble_eq_true rfl⟩ rfl (Nat.le_of_ble_eq_true rfl) dX10_told_9 (rg_ex2 ?_)
  show rg_G κ Γ rg_tM 3 0 0 (9 + 3) [(0, .ref (κ.2.2.2 0)), (1, .int (rg_I b)), (2, .int (rg_I w))] [.int (rg_I (rg_b (0 ≤ b ∧ b ≤ (((nb : Nat) : Int) - 1)))), .ref (κ.2.2.2 0)] σ
  refine rg_if_ne F 19 dX10_told_12 (by decide) (by have b0 := rg_b_Rg (0 ≤ b ∧ b ≤ (((nb : Nat) : Int) - 1)); omega) (fun c12_1 => ?_) (fun c12_1 => ?_)
  ·
    have c12_1 := (rg_b_ne0 _).mp c12_1
    refine rg_iload_n F 2 2 rfl dX10_told_19 rfl ?_
    refine rg_iconst F dX10_told_20 ?_
    refine rg_iconst F dX10_told_21 ?_
    refine rg_callSI F [.int (rg_I w), .int (rg_I 0), .int (rg_I 3)] [.ref (κ.2.2.2 0)] (k_X10_in κ rg_tM σ (w) (0) (3) (by first | assumption | omega) (by first | assumption | omega) (by first | assumption | omega)) v_X10_in k_st_yX10_in k_ml_X10_172 ⟨Nat.le_of_ble_eq_true rfl, Nat.le_of_ble_eq_true rfl⟩ rfl (Nat.le_of_ble_eq_true rfl) dX10_told_22 (rg_ex2 ?_)
    show rg_G κ Γ rg_tM 3 0 0 (22 + 3) [(0, .ref (κ.2.2.2 0)), (1, .int (rg_I b)), (2, .int (rg_I w))] [.int (rg_I (rg_b (0 ≤ w ∧ w ≤ 3))), .ref (κ.2.2.2 0)] σ
    refine rg_if_eq F 32 dX10_told_25 (by decide) (by have b0 := rg_b_Rg (0 ≤ w ∧ w ≤ 3); omega) (fun c25_2 => ?_) (fun c25_2 => ?_)
    ·
      have c25_2 := (rg_b_eq0 _).mp c25_2
      refine rg_iconst F dX10_told_32 ?_
      refine rg_put F 0 0 tM0 cX10 k_lays_X10 tyX10_ok nmX10 (by decide) k_fl_X10_89 rfl rfl rfl rfl (f9 := (σ 0)) rfl (rg_wr σ 0 (rg_up (σ 0) 0 2)) rfl dX10_told_33 ?_
      refine rg_aload_n F 0 0 rfl dX10_told_36 rfl ?_
      refine rg_get F 0 0 tM0 cX10 k_lays_X10 (by decide) k_fl_X10_89 rfl (v := .int (rg_I 2)) rfl dX10_told_37 ?_
      exfalso; unfold rg_cW at hc; (repeat' split at hc) <;> omega
    ·
      have c25_2 := (rg_b_ne0 _).mp c25_2
      refine rg_iconst F dX10_told_28 ?_
      refine rg_goto F 33 dX10_told_29 (by decide) ?_
      refine rg_put F 0 0 tM0 cX10 k_lays_X10 tyX10_ok nmX10 (by decide) k_fl_X10_89 rfl rfl rfl rfl (f9 := (σ 0)) rfl (rg_wr σ 0 (rg_up (σ 0) 0 0)) rfl dX10_told_33 ?_
      refine rg_aload_n F 0 0 rfl dX10_told_36 rfl ?_
      refine rg_get F 0 0 tM0 cX10 k_lays_X10 (by decide) k_fl_X10_89 rfl (v := .int (rg_I 0)) rfl dX10_told_37 ?_
      refine rg_if_le F 45 dX10_told_40 (by decide) (by omega) (fun c40_3 => ?_) (fun c40_3 => ?_)
      ·
        refine rg_aload_n F 0 0 rfl dX10_told_45 rfl ?_
        refine rg_callVV F [] [] 0 (k_X10_reckon κ (rg_wr σ 0 (rg_up (σ 0) 0 0)) (nb) (nr) (nd) (tr) (ns) (h0_1) (h0_4) (h0_11) (h0_16) (h0_17) (rg_IM_0 hI _)) tM0 cX10 v_X10_reckon i_X10_reckon k_ml_X10_190 ⟨Nat.le_of_ble_eq_true rfl, Nat.le_of_ble_eq_true rfl⟩ rfl (Nat.le_of_ble_eq_true rfl) dX10_told_46 (rg_ex1 ?_)
        refine rg_eq (σ' := (rg_wr (rg_wr (rg_wr (rg_wr (rg_wr (rg_wr (rg_wr (rg_wr (rg_wr (rg_wr (rg_wr σ 0 (rg_up (σ 0) 0 0)) 15 (rg_kE σ tr nd nb nr)) 16 (rg_kA σ tr nd nb nr)) 17 (rg_kP σ tr nd nb nr)) 18 (rg_kS σ tr nd nb nr)) 19 (rg_kT σ tr nd nb nr)) 20 (rg_ctb (σ 20) nr nb (fun _ _ => True) (rg_kD σ tr nd nb nr ns))) 21 (rg_hd (σ 21) nb (rg_kG σ tr nd nb nr))) 22 (rg_hd (σ 22) nb (rg_kN σ tr nd nb nr ns))) 23 (rg_hd (σ 23) nb (rg_kM σ tr nd nb nr))) 24 (rg_hd (σ 24) nb (rg_kC σ tr nd nb nr ns)))) rfl ?_
        refine rg_iload_n F 2 2 rfl dX10_told_49 rfl ?_
        refine rg_if_ne F 62 dX10_told_50 (by decide) (by omega) (fun c50_4 => ?_) (fun c50_4 => ?_)
        ·
          refine rg_iload_n F 2 2 rfl dX10_told_62 rfl ?_
          refine rg_iconst F dX10_told_63 ?_
          refine rg_icmp_ne F 76 dX10_told_64 (by decide) (by omega) (by omega) (fun c64_5 => ?_) (fun c64_5 => ?_)
          ·
            refine rg_iload_n F 2 2 rfl dX10_told_76 rfl ?_
            refine rg_iconst F dX10_told_77 ?_
            refine rg_icmp_ne F 90 dX10_told_78 (by decide) (by omega) (by omega) (fun c78_6 => ?_) (fun c78_6 => ?_)
            ·
              refine rg_aload_n F 0 0 rfl dX10_told_90 rfl ?_
              refine rg_get F 0 30 tM0 cX10 k_lays_X10 (by decide) k_fl_X10_80 rfl (v := .ref (κ.2.2.2 24)) rfl dX10_told_91 ?_
              refine rg_iload_n F 1 1 rfl dX10_told_94 rfl ?_
              refine rg_stk (st' := [.int (rg_I ((Int.toNat b : Nat) : Int)), .ref (κ.2.2.2 24)]) (by rw [Int.toNat_of_nonneg (a := b) (by omega)]) ?_
              refine rg_iald F 24 (Int.toNat b) (v := (rg_kC σ tr nd nb nr ns (Int.toNat b))) tM24 (by omega) (by omega) (by decide) ((show (rg_hd (σ 24) nb (rg_kC σ tr nd nb nr ns)) (Int.toNat b) = (rg_kC σ tr nd nb nr ns (Int.toNat b)) from (rg_hd_at _ _ (by omega)))) dX10_told_95 ?_
              exact hR _ _ _ _ dX10_told_96 (fun h => nomatch h) ⟨(by first | exact (if_pos (by assumption)).symm | (rw [if_neg (by assumption), if_pos (by assumption)]; done) | (rw [if_neg (by assumption), if_neg (by assumption), if_pos (by assumption)]; done) | (rw [if_neg (by assumption), if_neg (by assumption), if_neg (by assumption)]; done)), rfl⟩
            ·
              refine rg_aload_n F 0 0 rfl dX10_told_81 rfl ?_
              refine rg_get F 0 29 tM0 cX10 k_lays_X10 (by decide) k_fl_X10_77 rfl (v := .ref (κ.2.2.2 23)) rfl dX10_told_82 ?_
              refine rg_iload_n F 1 1 rfl dX10_told_85 rfl ?_
              refine rg_stk (st' := [.int (rg_I ((Int.toNat b : Nat) : Int)), .ref (κ.2.2.2 23)]) (by rw [Int.toNat_of_nonneg (a := b) (by omega)]) ?_
              refine rg_iald F 23 (Int.toNat b) (v := (rg_kM σ tr nd nb nr (Int.toNat b))) tM23 (by omega) (by omega) (by decide) ((show (rg_hd (σ 23) nb (rg_kM σ tr nd nb nr)) (Int.toNat b) = (rg_kM σ tr nd nb nr (Int.toNat b)) from (rg_hd_at _ _ (by omega)))) dX10_told_86 ?_
              refine rg_goto F 96 dX10_told_87 (by decide) ?_
              exact hR _ _ _ _ dX10_told_96 (fun h => nomatch h) ⟨(by first | exact (if_pos (by assumption)).symm | (rw [if_neg (by assumption), if_pos (by assumption)]; done) | (rw [if_neg (by assumption), if_neg (by assumption), if_pos (by assumption)]; done) | (rw [if_neg (by assumption), if_neg (by assumption), if_neg (by assumption)]; done)), rfl⟩
          ·
            refine rg_aload_n F 0 0 rfl dX10_told_67 rfl ?_
            refine rg_get F 0 2 tM0 cX10 k_lays_X10 (by decide) k_fl_X10_7 rfl (v := .ref (κ.2.2.2 1)) rfl dX10_told_68 ?_
            refine rg_iload_n F 1 1 rfl dX10_told_71 rfl ?_
            refine rg_stk (st' := [.int (rg_I ((Int.toNat b : Nat) : Int)), .ref (κ.2.2.2 1)]) (by rw [Int.toNat_of_nonneg (a := b) (by omega)]) ?_
            refine rg_iald F 1 (Int.toNat b) (v := ((σ 1) (Int.toNat b))) tM1 (by omega) (by omega) (by decide) rfl dX10_told_72 ?_
            refine rg_goto F 96 dX10_told_73 (by decide) ?_
            exact hR _ _ _ _ dX10_told_96 (fun h => nomatch h) ⟨(by first | exact (if_pos (by assumption)).symm | (rw [if_neg (by assumption), if_pos (by assumption)]; done) | (rw [if_neg (by assumption), if_neg (by assumption), if_pos (by assumption)]; done) | (rw [if_neg (by assumption), if_neg (by assumption), if_neg (by assumption)]; done)), rfl⟩
        ·
          refine rg_aload_n F 0 0 rfl dX10_told_53 rfl ?_
          refine rg_get F 0 3 tM0 cX10 k_lays_X10 (by decide) k_fl_X10_13 rfl (v := .ref (κ.2.2.2 2)) rfl dX10_told_54 ?_
          refine rg_iload_n F 1 1 rfl dX10_told_57 rfl ?_
          refine rg_stk (st' := [.int (rg_I ((Int.toNat b : Nat) : Int)), .ref (κ.2.2.2 2)]) (by rw [Int.toNat_of_nonneg (a := b) (by omega)]) ?_
          refine rg_iald F 2 (Int.toNat b) (v := ((σ 2) (Int.toNat b))) tM2 (by omega) (by omega) (by decide) rfl dX10_told_58 ?_
          refine rg_goto F 96 dX10_told_59 (by decide) ?_
          exact hR _ _ _ _ dX10_told_96 (fun h => nomatch h) ⟨(by first | exact (if_pos (by assumption)).symm | (rw [if_neg (by assumption), if_pos (by assumption)]; done) | (rw [if_neg (by assumption), if_neg (by assumption), if_pos (by assumption)]; done) | (rw [if_neg (by assumption), if_neg (by assumption), if_neg (by assumption)]; done)), rfl⟩
      · exfalso; omega
  ·
    have c12_1 := (rg_b_eq0 _).mp c12_1
    refine rg_iconst F dX10_told_15 ?_
    refine rg_goto F 33 dX10_told_16 (by decide) ?_
    refine rg_put F 0 0 tM0 cX10 k_lays_X10 tyX10_ok nmX10 (by decide) k_fl_X10_89 rfl rfl rfl rfl (f9 := (σ 0)) rfl (rg_wr σ 0 (rg_up (σ 0) 0 1)) rfl dX10_told_33 ?_
    refine rg_aload_n F 0 0 rfl dX10_told_36 rfl ?_
    refine rg_get F 0 0 tM0 cX10 k_lays_X10 (by decide) k_fl_X10_89 rfl (v := .int (rg_I 1)) rfl dX10_told_37 ?_
    exfalso; unfold rg_cW at hc; (repeat' split at hc) <;> omega
set_option maxHeartbeats 400000 in
set_option maxRecDepth 100000 in
/-- told, refused -/
theorem k_X10_told_n (κ : rg_K) (σ : rg_S) (b w : Int) (nb : Nat) (nr : Nat) (nd : Nat) (tr : Int) (ns : Nat) (h0_1 : σ 0 1 = ((nb : Nat) : Int)) (h0_4 : σ 0 4 = ((nr : Nat) : Int)) (h0_11 : σ 0 11 = ((nd : Nat) : Int)) (h0_16 : σ 0 16 = tr) (h0_17 : σ 0 17 = ((ns : Nat) : Int)) (hI : rg_IM σ nb nr nd ns tr) (hb : rg_Rg b) (hw : rg_Rg w) (hc : ¬ (rg_cW ((nb : Nat) : Int) b w) = 0) : rg_CI κ rg_tM yX10_told cX10_told 3 FieldType.int 5 119 [.ref (κ.2.2.2 0), .int (rg_I b), .int (rg_I w)] σ (fun r9 σ9 => r9 = 0 ∧ σ9 = (rg_wr σ 0 (rg_up (σ 0) 0 (rg_cW ((nb : Nat) : Int) b w)))) := by
  have hnb := hI.hnb
  have hnr := hI.hnr
  have hnd := hI.hnd
  have hns := hI.hns
  refine rg_entI [(0, .ref (κ.2.2.2 0)), (1, .int (rg_I b)), (2, .int (rg_I w))] rfl (by decide +kernel) (Nat.le_of_ble_eq_true rfl) (by first | exact Or.inl rfl | exact Or.inr rfl) (fun Γ F hR => ?_)
  refine rg_aload_n F 0 0 rfl dX10_told_0 rfl ?_
  refine rg_iload_n F 1 1 rfl dX10_told_1 rfl ?_
  refine rg_iconst F dX10_told_2 ?_
  refine rg_aload_n F 0 0 rfl dX10_told_3 rfl ?_
  refine rg_get F 0 1 tM0 cX10 k_lays_X10 (by decide) k_fl_X10_102 rfl (v := .int (rg_I ((nb : Nat) : Int))) (congrArg (fun x => Value.int (rg_I x)) h0_1) dX10_told_4 ?_
  refine rg_iconst F dX10_told_7 ?_
  refine rg_isub F dX10_told_8 ?_
  refine rg_callSI F [.int (rg_I b), .int (rg_I 0), .int (rg_I (((nb : Nat) : Int) - 1))] [.ref (κ.2.2.2 0)] (k_X10_in κ rg_tM σ (b) (0) ((((nb : Nat) : Int) - 1)) (by first | assumption | omega) (by first | assumption | omega) (by first | assumption | omega)) v_X10_in k_st_yX10_in k_ml_X10_172 ⟨Nat.le_of_ble_eq_true rfl, Nat.le_of_ble_eq_true rfl⟩ rfl (Nat.le_of_ble_eq_true rfl) dX10_told_9 (rg_ex2 ?_)
  show rg_G κ Γ rg_tM 3 0 0 (9 + 3) [(0, .ref (κ.2.2.2 0)), (1, .int (rg_I b)), (2, .int (rg_I w))] [.int (rg_I (rg_b (0 ≤ b ∧ b ≤ (((nb : Nat) : Int) - 1)))), .ref (κ.2.2.2 0)] σ
  refine rg_if_ne F 19 dX10_told_12 (by decide) (by have b0 := rg_b_Rg (0 ≤ b ∧ b ≤ (((nb : Nat) : Int) - 1)); omega) (fun c12_1 => ?_) (fun c12_1 => ?_)
  ·
    have c12_1 := (rg_b_ne0 _).mp c12_1
    refine rg_iload_n F 2 2 rfl dX10_told_19 rfl ?_
    refine rg_iconst F dX10_told_20 ?_
    refine rg_iconst F dX10_told_21 ?_
    refine rg_callSI F [.int (rg_I w), .int (rg_I 0), .int (rg_I 3)] [.ref (κ.2.2.2 0)] (k_X10_in κ rg_tM σ (w) (0) (3) (by first | assumption | omega) (by first | assumption | omega) (by first | assumption | omega)) v_X10_in k_st_yX10_in k_ml_X10_172 ⟨Nat.le_of_ble_eq_true rfl, Nat.le_of_ble_eq_true rfl⟩ rfl (Nat.le_of_ble_eq_true rfl) dX10_told_22 (rg_ex2 ?_)
    show rg_G κ Γ rg_tM 3 0 0 (22 + 3) [(0, .ref (κ.2.2.2 0)), (1, .int (rg_I b)), (2, .int (rg_I w))] [.int (rg_I (rg_b (0 ≤ w ∧ w ≤ 3))), .ref (κ.2.2.2 0)] σ
    refine rg_if_eq F 32 dX10_told_25 (by decide) (by have b0 := rg_b_Rg (0 ≤ w ∧ w ≤ 3); omega) (fun c25_2 => ?_) (fun c25_2 => ?_)
    ·
      have c25_2 := (rg_b_eq0 _).mp c25_2
      refine rg_iconst F dX10_told_32 ?_
      refine rg_put F 0 0 tM0 cX10 k_lays_X10 tyX10_ok nmX10 (by decide) k_fl_X10_89 rfl rfl rfl rfl (f9 := (σ 0)) rfl (rg_wr σ 0 (rg_up (σ 0) 0 2)) rfl dX10_told_33 ?_
      refine rg_aload_n F 0 0 rfl dX10_told_36 rfl ?_
      refine rg_get F 0 0 tM0 cX10 k_lays_X10 (by decide) k_fl_X10_89 rfl (v := .int (rg_I 2)) rfl dX10_told_37 ?_
      refine rg_if_le F 45 dX10_told_40 (by decide) (by omega) (fun c40_3 => ?_) (fun c40_3 => ?_)
      · exfalso; omega
      ·
        refine rg_iconst F dX10_told_43 ?_
        exact hR _ _ _ _ dX10_told_44 (fun h => nomatch h) ⟨rfl, (rg_wr_congr (f := (rg_up (σ 0) 0 2)) (g := (rg_up (σ 0) 0 (rg_cW ((nb : Nat) : Int) b w))) 0 rfl (by (repeat rw [rg_up_up]) <;> first | rfl | exact congrArg (rg_up _ 0) (by unfold rg_cW; (repeat' split) <;> omega)))⟩
    ·
      have c25_2 := (rg_b_ne0 _).mp c25_2
      refine rg_iconst F dX10_told_28 ?_
      refine rg_goto F 33 dX10_told_29 (by decide) ?_
      refine rg_put F 0 0 tM0 cX10 k_lays_X10 tyX10_ok nmX10 (by decide) k_fl_X10_89 rfl rfl rfl rfl (f9 := (σ 0)) rfl (rg_wr σ 0 (rg_up (σ 0) 0 0)) rfl dX10_told_33 ?_
      refine rg_aload_n F 0 0 rfl dX10_told_36 rfl ?_
      refine rg_get F 0 0 tM0 cX10 k_lays_X10 (by decide) k_fl_X10_89 rfl (v := .int (rg_I 0)) rfl dX10_told_37 ?_
      exfalso; unfold rg_cW at hc; (repeat' split at hc) <;> omega
  ·
    have c12_1 := (rg_b_eq0 _).mp c12_1
    refine rg_iconst F dX10_told_15 ?_
    refine rg_goto F 33 dX10_told_16 (by decide) ?_
    refine rg_put F 0 0 tM0 cX10 k_lays_X10 tyX10_ok nmX10 (by decide) k_fl_X10_89 rfl rfl rfl rfl (f9 := (σ 0)) rfl (rg_wr σ 0 (rg_up (σ 0) 0 1)) rfl dX10_told_33 ?_
    refine rg_aload_n F 0 0 rfl dX10_told_36 rfl ?_
    refine rg_get F 0 0 tM0 cX10 k_lays_X10 (by decide) k_fl_X10_89 rfl (v := .int (rg_I 1)) rfl dX10_told_37 ?_
    refine rg_if_le F 45 dX10_told_40 (by decide) (by omega) (fun c40_4 => ?_) (fun c40_4 => ?_)
    · exfalso; omega
    ·
      refine rg_iconst F dX10_told_43 ?_
      exact hR _ _ _ _ dX10_told_44 (fun h => nomatch h) ⟨rfl, (rg_wr_congr (f := (rg_up (σ 0) 0 1)) (g := (rg_up (σ 0) 0 (rg_cW ((nb : Nat) : Int) b w))) 0 rfl (by (repeat rw [rg_up_up]) <;> first | rfl | exact congrArg (rg_up _ 0) (by unfold rg_cW; (repeat' split) <;> omega)))⟩
