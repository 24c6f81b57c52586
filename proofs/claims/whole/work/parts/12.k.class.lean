/-! The class's missing (laid by program). -/
set_option maxHeartbeats 400000 in
set_option maxRecDepth 100000 in
/-- missing -/
theorem k_X9_missing_y (κ : rg_K) (σ : rg_S) (r k : Int) (st : Int) (nb : Nat) (nr : Nat) (nd : Nat) (ns : Nat) (h0_9 : σ 0 9 = st) (h1_2 : σ 1 2 = ((nb : Nat) : Int)) (h2_3 : σ 2 3 = ((nr : Nat) : Int)) (h4_4 : σ 4 4 = ((nd : Nat) : Int)) (h5_2 : σ 5 2 = ((ns : Nat) : Int)) (hI : rg_IC σ nb nr nd ns) (hst : st = 0 ∨ st = 1) (hs : ¬ st = 0) (hr : 0 ≤ r ∧ r ≤ ((nr : Nat) : Int) - 1) (hk : rg_Rg k) : rg_CI κ rg_tC yX9_missing cX9_missing 5 FieldType.int 6 132 [.ref (κ.2.2.2 0), .int (rg_I r), .int (rg_I k)] σ (fun r9 σ9 => r9 = (rg_mF (fun c => rg_isr (σ 14) (σ 11) (Int.toNat r) c ∧ (rg_zE σ nd) ((Int.toNat r) * 40 + c) = -1) k nb) ∧ σ9 = (rg_wr (rg_wr (rg_wr (rg_wr (rg_wr (rg_wr (rg_wr (rg_wr (rg_wr (rg_wr (rg_wr (rg_wr (rg_wr (rg_wr (rg_wr (rg_wr (rg_wr (rg_wr (rg_wr σ 0 (rg_up (σ 0) 9 0)) 25 (rg_zE σ nd)) 26 (rg_zA σ nd)) 27 (rg_zP σ nd)) 28 (rg_zI σ nd nb nr)) 29 (rg_zT σ nd nb nr)) 30 (rg_zS σ nd nb nr)) 31 (rg_hd (σ 31) nr (rg_SZ (σ 14) (σ 11) nb))) 32 (rg_s32 (σ 32) (rg_zE σ nd) (rg_zA σ nd) nb nr)) 33 (rg_s33 (σ 33) (rg_zE σ nd) (rg_zA σ nd) nb nr)) 34 (rg_zC σ nd nb nr)) 35 (rg_zD σ nd nb nr ns)) 36 (rg_zM σ nd nb nr)) 37 (rg_zK σ nd nb nr ns)) 38 (rg_zG σ nd nb nr)) 39 (rg_zN σ nd nb nr ns)) 40 (rg_rws nb (rg_zR σ nd nb nr ns))) 41 (rg_zO σ nd nb nr ns)) 42 (rg_RK (rg_zO σ nd nb nr ns) (σ 42) nb))) := by
  have hnb := hI.hnb
  have hnr := hI.hnr
  refine rg_entI [(0, .ref (κ.2.2.2 0)), (1, .int (rg_I r)), (2, .int (rg_I k))] rfl (by decide +kernel) (Nat.le_of_ble_eq_true rfl) (by first | exact Or.inl rfl | exact Or.inr rfl) (fun Γ F hR => ?_)
  refine rg_aload_n F 0 0 rfl dX9_missing_0 rfl ?_
  refine rg_iload_n F 1 1 rfl dX9_missing_1 rfl ?_
  refine rg_callVV F [.int (rg_I r)] [] 0 (k_X9_requireRace_o κ σ (r) (nr) (h2_3) (by first | assumption | omega) hr) tC0 cX9 v_X9_requireRace i_X9_requireRace k_ml_X9_122 ⟨Nat.le_of_ble_eq_true rfl, Nat.le_of_ble_eq_true rfl⟩ rfl (Nat.le_of_ble_eq_true rfl) dX9_missing_2 (rg_ex1 ?_)
  refine rg_aload_n F 0 0 rfl dX9_missing_5 rfl ?_
  refine rg_callVV F [] [] 0 (k_X9_bringUpToDate_y κ σ (st) (nb) (nr) (nd) (ns) (h0_9) (h1_2) (h2_3) (h4_4) (h5_2) hI hst hs) tC0 cX9 v_X9_bringUpToDate i_X9_bringUpToDate k_ml_X9_203 ⟨Nat.le_of_ble_eq_true rfl, Nat.le_of_ble_eq_true rfl⟩ rfl (Nat.le_of_ble_eq_true rfl) dX9_missing_6 (rg_ex1 ?_)
  refine rg_eq (σ' := (rg_wr (rg_wr (rg_wr (rg_wr (rg_wr (rg_wr (rg_wr (rg_wr (rg_wr (rg_wr (rg_wr (rg_wr (rg_wr (rg_wr (rg_wr (rg_wr (rg_wr (rg_wr (rg_wr σ 0 (rg_up (σ 0) 9 0)) 25 (rg_zE σ nd)) 26 (rg_zA σ nd)) 27 (rg_zP σ nd)) 28 (rg_zI σ nd nb nr)) 29 (rg_zT σ nd nb nr)) 30 (rg_zS σ nd nb nr)) 31 (rg_hd (σ 31) nr (rg_SZ (σ 14) (σ 11) nb))) 32 (rg_s32 (σ 32) (rg_zE σ nd) (rg_zA σ nd) nb nr)) 33 (rg_s33 (σ 33) (rg_zE σ nd) (rg_zA σ nd) nb nr)) 34 (rg_zC σ nd nb nr)) 35 (rg_zD σ nd nb nr ns)) 36 (rg_zM σ nd nb nr)) 37 (rg_zK σ nd nb nr ns)) 38 (rg_zG σ nd nb nr)) 39 (rg_zN σ nd nb nr ns)) 40 (rg_rws nb (rg_zR σ nd nb nr ns))) 41 (rg_zO σ nd nb nr ns)) 42 (rg_RK (rg_zO σ nd nb nr ns) (σ 42) nb))) rfl ?_
  refine rg_iload_n F 2 2 rfl dX9_missing_9 rfl ?_
  refine rg_istore_n F [(3, .int (rg_I k)), (0, .ref (κ.2.2.2 0)), (1, .int (rg_I r)), (2, .int (rg_I k))] dX9_missing_10 rfl (by decide) rfl ?_
  refine rg_iconst F dX9_missing_11 ?_
  refine rg_istore F [(4, .int (rg_I 0)), (3, .int (rg_I k)), (0, .ref (κ.2.2.2 0)), (1, .int (rg_I r)), (2, .int (rg_I k))] dX9_missing_12 (by decide) rfl ?_
  have L14 : ∀ (n14 : Nat) (y : Int) (b : Nat), n14 = nb - b → (b ≤ nb) → (rg_Rg y) → (y = k - ((rg_cnt (fun c => rg_isr (σ 14) (σ 11) (Int.toNat r) c ∧ (rg_zE σ nd) ((Int.toNat r) * 40 + c) = -1) b : Nat) : Int) ∨ y = k - ((rg_cnt (fun c => rg_isr (σ 14) (σ 11) (Int.toNat r) c ∧ (rg_zE σ nd) ((Int.toNat r) * 40 + c) = -1) b : Nat) : Int) + 4294967296) → (∀ c, c < b → ¬ ((fun c => rg_isr (σ 14) (σ 11) (Int.toNat r) c ∧ (rg_zE σ nd) ((Int.toNat r) * 40 + c) = -1) c ∧ ((rg_cnt (fun c => rg_isr (σ 14) (σ 11) (Int.toNat r) c ∧ (rg_zE σ nd) ((Int.toNat r) * 40 + c) = -1) c : Nat) : Int) = k)) → rg_G κ Γ rg_tC 5 0 0 14 [(0, .ref (κ.2.2.2 0)), (1, .int (rg_I r)), (2, .int (rg_I k)), (3, .int (rg_I y)), (4, .int (rg_I ((b : Nat) : Int)))] [] (rg_wr (rg_wr (rg_wr (rg_wr (rg_wr (rg_wr (rg_wr (rg_wr (rg_wr (rg_wr (rg_wr (rg_wr (rg_wr (rg_wr (rg_wr (rg_wr (rg_wr (rg_wr (rg_wr σ 0 (rg_up (σ 0) 9 0)) 25 (rg_zE σ nd)) 26 (rg_zA σ nd)) 27 (rg_zP σ nd)) 28 (rg_zI σ nd nb nr)) 29 (rg_zT σ nd nb nr)) 30 (rg_zS σ nd nb nr)) 31 (rg_hd (σ 31) nr (rg_SZ (σ 14) (σ 11) nb))) 32 (rg_s32 (σ 32) (rg_zE σ nd) (rg_zA σ nd) nb nr)) 33 (rg_s33 (σ 33) (rg_zE σ nd) (rg_zA σ nd) nb nr)) 34 (rg_zC σ nd nb nr)) 35 (rg_zD σ nd nb nr ns)) 36 (rg_zM σ nd nb nr)) 37 (rg_zK σ nd nb nr ns)) 38 (rg_zG σ nd nb nr)) 39 (rg_zN σ nd nb nr ns)) 40 (rg_rws nb (rg_zR σ nd nb nr ns))) 41 (rg_zO σ nd nb nr ns)) 42 (rg_RK (rg_zO σ nd nb nr ns) (σ 42) nb)) := by
    intro n14
    induction n14 using Nat.strongRecOn with
    | _ n14 ih14 =>
      intro y b hn14 hb hy hyk hno
      refine rg_iload F 4 4 rfl dX9_missing_14 ?_
      refine rg_aload_n F 0 0 rfl dX9_missing_16 rfl ?_
      refine rg_get F 0 0 tC0 cX9 k_lays_X9 (by decide) k_fl_X9_12 rfl (v := .ref (κ.2.2.2 1)) rfl dX9_missing_17 ?_
      refine rg_get F 1 2 tC1 cX0 k_lays_X0 (by decide) k_fl_X9_92 rfl (v := .int (rg_I ((nb : Nat) : Int))) (congrArg (fun x => Value.int (rg_I x)) h1_2) dX9_missing_20 ?_
      refine rg_icmp_ge F 55 dX9_missing_23 (by decide) (by omega) (by omega) (fun c23_1 => ?_) (fun c23_1 => ?_)
      ·
        refine rg_iconst F dX9_missing_55 ?_
        exact hR _ _ _ _ dX9_missing_56 (fun h => nomatch h) ⟨(by first | exact rg_mF_is (P := (fun c => rg_isr (σ 14) (σ 11) (Int.toNat r) c ∧ (rg_zE σ nd) ((Int.toNat r) * 40 + c) = -1)) (by assumption) (by have q8 := rg_cnt_le (fun c => rg_isr (σ 14) (σ 11) (Int.toNat r) c ∧ (rg_zE σ nd) ((Int.toNat r) * 40 + c) = -1) b; omega) nb (by omega) | (rw [show b = nb by omega] at hno; exact (rg_mF_no nb hno).symm)), rfl⟩
      ·
        refine rg_aload_n F 0 0 rfl dX9_missing_26 rfl ?_
        refine rg_get F 0 5 tC0 cX9 k_lays_X9 (by decide) k_fl_X9_49 rfl (v := .ref (κ.2.2.2 6)) rfl dX9_missing_27 ?_
        refine rg_iload_n F 1 1 rfl dX9_missing_30 rfl ?_
        refine rg_stk (st' := [.int (rg_I ((Int.toNat r : Nat) : Int)), .ref (κ.2.2.2 6)]) (by rw [Int.toNat_of_nonneg (a := r) (by omega)]) ?_
        refine rg_iload F 4 4 rfl dX9_missing_31 ?_
        refine rg_callVI F [.int (rg_I ((Int.toNat r : Nat) : Int)), .int (rg_I ((b : Nat) : Int))] [] 6 (k_X3_isMissing κ (rg_wr (rg_wr (rg_wr (rg_wr (rg_wr (rg_wr (rg_wr (rg_wr (rg_wr (rg_wr (rg_wr (rg_wr (rg_wr (rg_wr (rg_wr (rg_wr (rg_wr (rg_wr (rg_wr σ 0 (rg_up (σ 0) 9 0)) 25 (rg_zE σ nd)) 26 (rg_zA σ nd)) 27 (rg_zP σ nd)) 28 (rg_zI σ nd nb nr)) 29 (rg_zT σ nd nb nr)) 30 (rg_zS σ nd nb nr)) 31 (rg_hd (σ 31) nr (rg_SZ (σ 14) (σ 11) nb))) 32 (rg_s32 (σ 32) (rg_zE σ nd) (rg_zA σ nd) nb nr)) 33 (rg_s33 (σ 33) (rg_zE σ nd) (rg_zA σ nd) nb nr)) 34 (rg_zC σ nd nb nr)) 35 (rg_zD σ nd nb nr ns)) 36 (rg_zM σ nd nb nr)) 37 (rg_zK σ nd nb nr ns)) 38 (rg_zG σ nd nb nr)) 39 (rg_zN σ nd nb nr ns)) 40 (rg_rws nb (rg_zR σ nd nb nr ns))) 41 (rg_zO σ nd nb nr ns)) 42 (rg_RK (rg_zO σ nd nb nr ns) (σ 42) nb)) ((Int.toNat r)) (b) (σ 11) (σ 14) (rg_zE σ nd) rfl rfl rfl (by first | assumption | omega) (by first | assumption | omega) (rg_okE_en (rg_zE_ok hI)) (fun j => rg_Rg_of (hI.hfl j)) (fun j => rg_Rg_of (hI.hrf j))) tC6 cX3 v_X3_isMissing i_X3_isMissing k_ml_X9_256 ⟨Nat.le_of_ble_eq_true rfl, Nat.le_of_ble_eq_true rfl⟩ rfl (Nat.le_of_ble_eq_true rfl) dX9_missing_33 (rg_ex2 ?_)
        show rg_G κ Γ rg_tC 5 0 0 (33 + 3) [(0, .ref (κ.2.2.2 0)), (1, .int (rg_I r)), (2, .int (rg_I k)), (3, .int (rg_I y)), (4, .int (rg_I ((b : Nat) : Int)))] [.int (rg_I (rg_b (rg_isr (σ 14) (σ 11) (Int.toNat r) b ∧ (rg_zE σ nd) ((Int.toNat r) * 40 + b) = -1)))] (rg_wr (rg_wr (rg_wr (rg_wr (rg_wr (rg_wr (rg_wr (rg_wr (rg_wr (rg_wr (rg_wr (rg_wr (rg_wr (rg_wr (rg_wr (rg_wr (rg_wr (rg_wr (rg_wr σ 0 (rg_up (σ 0) 9 0)) 25 (rg_zE σ nd)) 26 (rg_zA σ nd)) 27 (rg_zP σ nd)) 28 (rg_zI σ nd nb nr)) 29 (rg_zT σ nd nb nr)) 30 (rg_zS σ nd nb nr)) 31 (rg_hd (σ 31) nr (rg_SZ (σ 14) (σ 11) nb))) 32 (rg_s32 (σ 32) (rg_zE σ nd) (rg_zA σ nd) nb nr)) 33 (rg_s33 (σ 33) (rg_zE σ nd) (rg_zA σ nd) nb nr)) 34 (rg_zC σ nd nb nr)) 35 (rg_zD σ nd nb nr ns)) 36 (rg_zM σ nd nb nr)) 37 (rg_zK σ nd nb nr ns)) 38 (rg_zG σ nd nb nr)) 39 (rg_zN σ nd nb nr ns)) 40 (rg_rws nb (rg_zR σ nd nb nr ns))) 41 (rg_zO σ nd nb nr ns)) 42 (rg_RK (rg_zO σ nd nb nr ns) (σ 42) nb))
        refine rg_if_eq F 49 dX9_missing_36 (by decide) (by have b0 := rg_b_Rg (rg_isr (σ 14) (σ 11) (Int.toNat r) b ∧ (rg_zE σ nd) ((Int.toNat r) * 40 + b) = -1); omega) (fun c36_2 => ?_) (fun c36_2 => ?_)
        ·
          have c36_2 := (rg_b_eq0 _).mp c36_2
          refine rg_iinc F (v := ((b + 1 : Nat) : Int)) 4 [(4, .int (rg_I ((b + 1 : Nat) : Int))), (0, .ref (κ.2.2.2 0)), (1, .int (rg_I r)), (2, .int (rg_I k)), (3, .int (rg_I y))] dX9_missing_49 rfl (by omega) (by decide) rfl ?_
          refine rg_goto F 14 dX9_missing_52 (by decide) ?_
          refine rg_sub (lv' := [(0, .ref (κ.2.2.2 0)), (1, .int (rg_I r)), (2, .int (rg_I k)), (3, .int (rg_I y)), (4, .int (rg_I ((b + 1 : Nat) : Int)))]) [1, 2, 3, 4, 0] rfl ?_
          exact ih14 (nb - (b + 1)) (by omega) (y) ((b + 1)) rfl (by omega) (by first | assumption | exact rg_dc_Rg hy) (by first | (have q := rg_cnt_t (p := (fun c => rg_isr (σ 14) (σ 11) (Int.toNat r) c ∧ (rg_zE σ nd) ((Int.toNat r) * 40 + c) = -1)) (n := b) (by assumption); have q8 := rg_cnt_le (fun c => rg_isr (σ 14) (σ 11) (Int.toNat r) c ∧ (rg_zE σ nd) ((Int.toNat r) * 40 + c) = -1) b; unfold rg_dc; split <;> omega) | (rw [rg_cnt_f (p := (fun c => rg_isr (σ 14) (σ 11) (Int.toNat r) c ∧ (rg_zE σ nd) ((Int.toNat r) * 40 + c) = -1)) (n := b) (by assumption)]; exact hyk)) (by first | exact rg_nos hno (fun q => absurd q.1 (by assumption)) | exact rg_nos hno (fun q => by have := q.2; have q8 := rg_cnt_le (fun c => rg_isr (σ 14) (σ 11) (Int.toNat r) c ∧ (rg_zE σ nd) ((Int.toNat r) * 40 + c) = -1) b; omega))
        ·
          have c36_2 := (rg_b_ne0 _).mp c36_2
          refine rg_iload_n F 3 3 rfl dX9_missing_39 rfl ?_
          refine rg_if_ne F 46 dX9_missing_40 (by decide) (by omega) (fun c40_3 => ?_) (fun c40_3 => ?_)
          ·
            refine rg_iinc F (v := (y - 1)) 3 [(3, .int (rg_I (y - 1))), (0, .ref (κ.2.2.2 0)), (1, .int (rg_I r)), (2, .int (rg_I k)), (4, .int (rg_I ((b : Nat) : Int)))] dX9_missing_46 rfl (by omega) (by decide) rfl ?_
            refine rg_iinc F (v := ((b + 1 : Nat) : Int)) 4 [(4, .int (rg_I ((b + 1 : Nat) : Int))), (3, .int (rg_I (y - 1))), (0, .ref (κ.2.2.2 0)), (1, .int (rg_I r)), (2, .int (rg_I k))] dX9_missing_49 rfl (by omega) (by decide) rfl ?_
            refine rg_goto F 14 dX9_missing_52 (by decide) ?_
            refine rg_lve (lv' := [(4, .int (rg_I ((b + 1 : Nat) : Int))), (3, .int (rg_I (rg_dc y))), (0, .ref (κ.2.2.2 0)), (1, .int (rg_I r)), (2, .int (rg_I k))]) (congrArg (fun x9 : Int32 => ([(4, .int (rg_I ((b + 1 : Nat) : Int))), (3, .int x9), (0, .ref (κ.2.2.2 0)), (1, .int (rg_I r)), (2, .int (rg_I k))] : List (Nat × Value))) (rg_I_dc y)) ?_
            refine rg_sub (lv' := [(0, .ref (κ.2.2.2 0)), (1, .int (rg_I r)), (2, .int (rg_I k)), (3, .int (rg_I (rg_dc y))), (4, .int (rg_I ((b + 1 : Nat) : Int)))]) [2, 3, 4, 1, 0] rfl ?_
            exact ih14 (nb - (b + 1)) (by omega) ((rg_dc y)) ((b + 1)) rfl (by omega) (by first | assumption | exact rg_dc_Rg hy) (by first | (have q := rg_cnt_t (p := (fun c => rg_isr (σ 14) (σ 11) (Int.toNat r) c ∧ (rg_zE σ nd) ((Int.toNat r) * 40 + c) = -1)) (n := b) (by assumption); have q8 := rg_cnt_le (fun c => rg_isr (σ 14) (σ 11) (Int.toNat r) c ∧ (rg_zE σ nd) ((Int.toNat r) * 40 + c) = -1) b; unfold rg_dc; split <;> omega) | (rw [rg_cnt_f (p := (fun c => rg_isr (σ 14) (σ 11) (Int.toNat r) c ∧ (rg_zE σ nd) ((Int.toNat r) * 40 + c) = -1)) (n := b) (by assumption)]; exact hyk)) (by first | exact rg_nos hno (fun q => absurd q.1 (by assumption)) | exact rg_nos hno (fun q => by have := q.2; have q8 := rg_cnt_le (fun c => rg_isr (σ 14) (σ 11) (Int.toNat r) c ∧ (rg_zE σ nd) ((Int.toNat r) * 40 + c) = -1) b; omega))
          ·
            refine rg_iload F 4 4 rfl dX9_missing_43 ?_
            exact hR _ _ _ _ dX9_missing_45 (fun h => nomatch h) ⟨(by first | exact rg_mF_is (P := (fun c => rg_isr (σ 14) (σ 11) (Int.toNat r) c ∧ (rg_zE σ nd) ((Int.toNat r) * 40 + c) = -1)) (by assumption) (by have q8 := rg_cnt_le (fun c => rg_isr (σ 14) (σ 11) (Int.toNat r) c ∧ (rg_zE σ nd) ((Int.toNat r) * 40 + c) = -1) b; omega) nb (by omega) | (rw [show b = nb by omega] at hno; exact (rg_mF_no nb hno).symm)), rfl⟩
  refine rg_sub (lv' := [(0, .ref (κ.2.2.2 0)), (1, .int (rg_I r)), (2, .int (rg_I k)), (3, .int (rg_I k)), (4, .int (rg_I 0))]) [2, 3, 4, 1, 0] rfl ?_
  exact L14 _ (k) (0) rfl (by omega) (by omega) (Or.inl (show k = k - 0 by omega)) (fun c h => absurd h (Nat.not_lt_zero c))
set_option maxHeartbeats 400000 in
set_option maxRecDepth 100000 in
/-- missing -/
theorem k_X9_missing_n (κ : rg_K) (σ : rg_S) (r k : Int) (st : Int) (nb : Nat) (nr : Nat) (nd : Nat) (ns : Nat) (h0_9 : σ 0 9 = st) (h1_2 : σ 1 2 = ((nb : Nat) : Int)) (h2_3 : σ 2 3 = ((nr : Nat) : Int)) (h4_4 : σ 4 4 = ((nd : Nat) : Int)) (h5_2 : σ 5 2 = ((ns : Nat) : Int)) (hI : rg_IC σ nb nr nd ns) (hst : st = 0 ∨ st = 1) (hs : st = 0) (hr : 0 ≤ r ∧ r ≤ ((nr : Nat) : Int) - 1) (hk : rg_Rg k) (h25 : ∀ j, rg_Rg (σ 25 j)) : rg_CI κ rg_tC yX9_missing cX9_missing 5 FieldType.int 6 132 [.ref (κ.2.2.2 0), .int (rg_I r), .int (rg_I k)] σ (fun r9 σ9 => r9 = (rg_mF (fun c => rg_isr (σ 14) (σ 11) (Int.toNat r) c ∧ (σ 25) ((Int.toNat r) * 40 + c) = -1) k nb) ∧ σ9 = σ) := by
  have hnb := hI.hnb
  have hnr := hI.hnr
  refine rg_entI [(0, .ref (κ.2.2.2 0)), (1, .int (rg_I r)), (2, .int (rg_I k))] rfl (by decide +kernel) (Nat.le_of_ble_eq_true rfl) (by first | exact Or.inl rfl | exact Or.inr rfl) (fun Γ F hR => ?_)
  refine rg_aload_n F 0 0 rfl dX9_missing_0 rfl ?_
  refine rg_iload_n F 1 1 rfl dX9_missing_1 rfl ?_
  refine rg_callVV F [.int (rg_I r)] [] 0 (k_X9_requireRace_o κ σ (r) (nr) (h2_3) (by first | assumption | omega) hr) tC0 cX9 v_X9_requireRace i_X9_requireRace k_ml_X9_122 ⟨Nat.le_of_ble_eq_true rfl, Nat.le_of_ble_eq_true rfl⟩ rfl (Nat.le_of_ble_eq_true rfl) dX9_missing_2 (rg_ex1 ?_)
  refine rg_aload_n F 0 0 rfl dX9_missing_5 rfl ?_
  refine rg_callVV F [] [] 0 (k_X9_bringUpToDate_n κ σ (st) (nb) (nr) (nd) (ns) (h0_9) (h1_2) (h2_3) (h4_4) (h5_2) hI hst hs) tC0 cX9 v_X9_bringUpToDate i_X9_bringUpToDate k_ml_X9_203 ⟨Nat.le_of_ble_eq_true rfl, Nat.le_of_ble_eq_true rfl⟩ rfl (Nat.le_of_ble_eq_true rfl) dX9_missing_6 (rg_ex1 ?_)
  refine rg_iload_n F 2 2 rfl dX9_missing_9 rfl ?_
  refine rg_istore_n F [(3, .int (rg_I k)), (0, .ref (κ.2.2.2 0)), (1, .int (rg_I r)), (2, .int (rg_I k))] dX9_missing_10 rfl (by decide) rfl ?_
  refine rg_iconst F dX9_missing_11 ?_
  refine rg_istore F [(4, .int (rg_I 0)), (3, .int (rg_I k)), (0, .ref (κ.2.2.2 0)), (1, .int (rg_I r)), (2, .int (rg_I k))] dX9_missing_12 (by decide) rfl ?_
  have L14 : ∀ (n14 : Nat) (y : Int) (b : Nat), n14 = nb - b → (b ≤ nb) → (rg_Rg y) → (y = k - ((rg_cnt (fun c => rg_isr (σ 14) (σ 11) (Int.toNat r) c ∧ (σ 25) ((Int.toNat r) * 40 + c) = -1) b : Nat) : Int) ∨ y = k - ((rg_cnt (fun c => rg_isr (σ 14) (σ 11) (Int.toNat r) c ∧ (σ 25) ((Int.toNat r) * 40 + c) = -1) b : Nat) : Int) + 4294967296) → (∀ c, c < b → ¬ ((fun c => rg_isr (σ 14) (σ 11) (Int.toNat r) c ∧ (σ 25) ((Int.toNat r) * 40 + c) = -1) c ∧ ((rg_cnt (fun c => rg_isr (σ 14) (σ 11) (Int.toNat r) c ∧ (σ 25) ((Int.toNat r) * 40 + c) = -1) c : Nat) : Int) = k)) → rg_G κ Γ rg_tC 5 0 0 14 [(0, .ref (κ.2.2.2 0)), (1, .int (rg_I r)), (2, .int (rg_I k)), (3, .int (rg_I y)), (4, .int (rg_I ((b : Nat) : Int)))] [] σ := by
    intro n14
    induction n14 using Nat.strongRecOn with
    | _ n14 ih14 =>
      intro y b hn14 hb hy hyk hno
      refine rg_iload F 4 4 rfl dX9_missing_14 ?_
      refine rg_aload_n F 0 0 rfl dX9_missing_16 rfl ?_
      refine rg_get F 0 0 tC0 cX9 k_lays_X9 (by decide) k_fl_X9_12 rfl (v := .ref (κ.2.2.2 1)) rfl dX9_missing_17 ?_
      refine rg_get F 1 2 tC1 cX0 k_lays_X0 (by decide) k_fl_X9_92 rfl (v := .int (rg_I ((nb : Nat) : Int))) (congrArg (fun x => Value.int (rg_I x)) h1_2) dX9_missing_20 ?_
      refine rg_icmp_ge F 55 dX9_missing_23 (by decide) (by omega) (by omega) (fun c23_1 => ?_) (fun c23_1 => ?_)
      ·
        refine rg_iconst F dX9_missing_55 ?_
        exact hR _ _ _ _ dX9_missing_56 (fun h => nomatch h) ⟨(by first | exact rg_mF_is (P := (fun c => rg_isr (σ 14) (σ 11) (Int.toNat r) c ∧ (σ 25) ((Int.toNat r) * 40 + c) = -1)) (by assumption) (by have q8 := rg_cnt_le (fun c => rg_isr (σ 14) (σ 11) (Int.toNat r) c ∧ (σ 25) ((Int.toNat r) * 40 + c) = -1) b; omega) nb (by omega) | (rw [show b = nb by omega] at hno; exact (rg_mF_no nb hno).symm)), rfl⟩
      ·
        refine rg_aload_n F 0 0 rfl dX9_missing_26 rfl ?_
        refine rg_get F 0 5 tC0 cX9 k_lays_X9 (by decide) k_fl_X9_49 rfl (v := .ref (κ.2.2.2 6)) rfl dX9_missing_27 ?_
        refine rg_iload_n F 1 1 rfl dX9_missing_30 rfl ?_
        refine rg_stk (st' := [.int (rg_I ((Int.toNat r : Nat) : Int)), .ref (κ.2.2.2 6)]) (by rw [Int.toNat_of_nonneg (a := r) (by omega)]) ?_
        refine rg_iload F 4 4 rfl dX9_missing_31 ?_
        refine rg_callVI F [.int (rg_I ((Int.toNat r : Nat) : Int)), .int (rg_I ((b : Nat) : Int))] [] 6 (k_X3_isMissing κ σ ((Int.toNat r)) (b) (σ 11) (σ 14) (σ 25) rfl rfl rfl (by first | assumption | omega) (by first | assumption | omega) h25 (fun j => rg_Rg_of (hI.hfl j)) (fun j => rg_Rg_of (hI.hrf j))) tC6 cX3 v_X3_isMissing i_X3_isMissing k_ml_X9_256 ⟨Nat.le_of_ble_eq_true rfl, Nat.le_of_ble_eq_true rfl⟩ rfl (Nat.le_of_ble_eq_true rfl) dX9_missing_33 (rg_ex2 ?_)
        show rg_G κ Γ rg_tC 5 0 0 (33 + 3) [(0, .ref (κ.2.2.2 0)), (1, .int (rg_I r)), (2, .int (rg_I k)), (3, .int (rg_I y)), (4, .int (rg_I ((b : Nat) : Int)))] [.int (rg_I (rg_b (rg_isr (σ 14) (σ 11) (Int.toNat r) b ∧ (σ 25) ((Int.toNat r) * 40 + b) = -1)))] σ
        refine rg_if_eq F 49 dX9_missing_36 (by decide) (by have b0 := rg_b_Rg (rg_isr (σ 14) (σ 11) (Int.toNat r) b ∧ (σ 25) ((Int.toNat r) * 40 + b) = -1); omega) (fun c36_2 => ?_) (fun c36_2 => ?_)
        ·
          have c36_2 := (rg_b_eq0 _).mp c36_2
          refine rg_iinc F (v := ((b + 1 : Nat) : Int)) 4 [(4, .int (rg_I ((b + 1 : Nat) : Int))), (0, .ref (κ.2.2.2 0)), (1, .int (rg_I r)), (2, .int (rg_I k)), (3, .int (rg_I y))] dX9_missing_49 rfl (by omega) (by decide) rfl ?_
          refine rg_goto F 14 dX9_missing_52 (by decide) ?_
          refine rg_sub (lv' := [(0, .ref (κ.2.2.2 0)), (1, .int (rg_I r)), (2, .int (rg_I k)), (3, .int (rg_I y)), (4, .int (rg_I ((b + 1 : Nat) : Int)))]) [1, 2, 3, 4, 0] rfl ?_
          exact ih14 (nb - (b + 1)) (by omega) (y) ((b + 1)) rfl (by omega) (by first | assumption | exact rg_dc_Rg hy) (by first | (have q := rg_cnt_t (p := (fun c => rg_isr (σ 14) (σ 11) (Int.toNat r) c ∧ (σ 25) ((Int.toNat r) * 40 + c) = -1)) (n := b) (by assumption); have q8 := rg_cnt_le (fun c => rg_isr (σ 14) (σ 11) (Int.toNat r) c ∧ (σ 25) ((Int.toNat r) * 40 + c) = -1) b; unfold rg_dc; split <;> omega) | (rw [rg_cnt_f (p := (fun c => rg_isr (σ 14) (σ 11) (Int.toNat r) c ∧ (σ 25) ((Int.toNat r) * 40 + c) = -1)) (n := b) (by assumption)]; exact hyk)) (by first | exact rg_nos hno (fun q => absurd q.1 (by assumption)) | exact rg_nos hno (fun q => by have := q.2; have q8 := rg_cnt_le (fun c => rg_isr (σ 14) (σ 11) (Int.toNat r) c ∧ (σ 25) ((Int.toNat r) * 40 + c) = -1) b; omega))
        ·
          have c36_2 := (rg_b_ne0 _).mp c36_2
          refine rg_iload_n F 3 3 rfl dX9_missing_39 rfl ?_
          refine rg_if_ne F 46 dX9_missing_40 (by decide) (by omega) (fun c40_3 => ?_) (fun c40_3 => ?_)
          ·
            refine rg_iinc F (v := (y - 1)) 3 [(3, .int (rg_I (y - 1))), (0, .ref (κ.2.2.2 0)), (1, .int (rg_I r)), (2, .int (rg_I k)), (4, .int (rg_I ((b : Nat) : Int)))] dX9_missing_46 rfl (by omega) (by decide) rfl ?_
            refine rg_iinc F (v := ((b + 1 : Nat) : Int)) 4 [(4, .int (rg_I ((b + 1 : Nat) : Int))), (3, .int (rg_I (y - 1))), (0, .ref (κ.2.2.2 0)), (1, .int (rg_I r)), (2, .int (rg_I k))] dX9_missing_49 rfl (by omega) (by decide) rfl ?_
            refine rg_goto F 14 dX9_missing_52 (by decide) ?_
            refine rg_lve (lv' := [(4, .int (rg_I ((b + 1 : Nat) : Int))), (3, .int (rg_I (rg_dc y))), (0, .ref (κ.2.2.2 0)), (1, .int (rg_I r)), (2, .int (rg_I k))]) (congrArg (fun x9 : Int32 => ([(4, .int (rg_I ((b + 1 : Nat) : Int))), (3, .int x9), (0, .ref (κ.2.2.2 0)), (1, .int (rg_I r)), (2, .int (rg_I k))] : List (Nat × Value))) (rg_I_dc y)) ?_
            refine rg_sub (lv' := [(0, .ref (κ.2.2.2 0)), (1, .int (rg_I r)), (2, .int (rg_I k)), (3, .int (rg_I (rg_dc y))), (4, .int (rg_I ((b + 1 : Nat) : Int)))]) [2, 3, 4, 1, 0] rfl ?_
            exact ih14 (nb - (b + 1)) (by omega) ((rg_dc y)) ((b + 1)) rfl (by omega) (by first | assumption | exact rg_dc_Rg hy) (by first | (have q := rg_cnt_t (p := (fun c => rg_isr (σ 14) (σ 11) (Int.toNat r) c ∧ (σ 25) ((Int.toNat r) * 40 + c) = -1)) (n := b) (by assumption); have q8 := rg_cnt_le (fun c => rg_isr (σ 14) (σ 11) (Int.toNat r) c ∧ (σ 25) ((Int.toNat r) * 40 + c) = -1) b; unfold rg_dc; split <;> omega) | (rw [rg_cnt_f (p := (fun c => rg_isr (σ 14) (σ 11) (Int.toNat r) c ∧ (σ 25) ((Int.toNat r) * 40 + c) = -1)) (n := b) (by assumption)]; exact hyk)) (by first | exact rg_nos hno (fun q => absurd q.1 (by assumption)) | exact rg_nos hno (fun q => by have := q.2; have q8 := rg_cnt_le (fun c => rg_isr (σ 14) (σ 11) (Int.toNat r) c ∧ (σ 25) ((Int.toNat r) * 40 + c) = -1) b; omega))
          ·
            refine rg_iload F 4 4 rfl dX9_missing_43 ?_
            exact hR _ _ _ _ dX9_missing_45 (fun h => nomatch h) ⟨(by first | exact rg_mF_is (P := (fun c => rg_isr (σ 14) (σ 11) (Int.toNat r) c ∧ (σ 25) ((Int.toNat r) * 40 + c) = -1)) (by assumption) (by have q8 := rg_cnt_le (fun c => rg_isr (σ 14) (σ 11) (Int.toNat r) c ∧ (σ 25) ((Int.toNat r) * 40 + c) = -1) b; omega) nb (by omega) | (rw [show b = nb by omega] at hno; exact (rg_mF_no nb hno).symm)), rfl⟩
  refine rg_sub (lv' := [(0, .ref (κ.2.2.2 0)), (1, .int (rg_I r)), (2, .int (rg_I k)), (3, .int (rg_I k)), (4, .int (rg_I 0))]) [2, 3, 4, 1, 0] rfl ?_
  exact L14 _ (k) (0) rfl (by omega) (by omega) (Or.inl (show k = k - 0 by omega)) (fun c h => absurd h (Nat.not_lt_zero c))
