/-! Contracts of the point table's methods, 2 (laid by program). -/
set_option maxHeartbeats 4000000 in
set_option maxRecDepth 100000 in
/-- scoreRace: the row of a race, without averages -/
theorem k_X3_scoreRace (κ : rg_K) (σ : rg_S) (r : Nat) (fl : Nat → Int) (rf : Nat → Int) (en : Nat → Int) (ar : Nat → Int) (pe : Nat → Int) (f28 : Nat → Int) (f29 : Nat → Int) (sl : Nat → Int) (sz : Nat → Int) (w0 : Nat → Int) (nb : Nat) (h11 : σ 11 = fl) (h14 : σ 14 = rf) (h25 : σ 25 = en) (h26 : σ 26 = ar) (h27 : σ 27 = pe) (h28 : σ 28 = f28) (h29 : σ 29 = f29) (h30 : σ 30 = sl) (h31 : σ 31 = sz) (h33 : σ 33 = w0) (h1_2 : σ 1 2 = ((nb : Nat) : Int)) (hr : r < 16) (hnb : nb ≤ 40) (hok : rg_okE en ar pe) (hsz : 0 ≤ sz r ∧ sz r ≤ 40) (hsl : rg_Rg (sl r)) (hrf : rg_Rg (rf r)) (hfl : ∀ j, rg_Rg (fl j)) (hw0 : w0 0 = 0) : rg_CV κ rg_tC yX3_scoreRace cX3_scoreRace 4 3 68 [.ref (κ.2.2.2 6), .int (rg_I ((r : Nat) : Int))] σ (fun σ9 => σ9 = (rg_wr (rg_wr (rg_wr (rg_wr σ 28 (rg_row f28 r nb (fun i => rg_b (rg_in sl rf fl r i)))) 29 (rg_row f29 r nb (fun i => rg_ite (rg_in sl rf fl r i) (rg_p0 sz (rg_wp en ar r nb) (rg_wl w0 (rg_wp en ar r nb) 100) en ar pe r (r * 40 + i)) (-1)))) 32 (rg_wp en ar r nb)) 33 (rg_wl w0 (rg_wp en ar r nb) 100))) := by
  have hokp : ∀ b, b < nb → en (r * 40 + b) = 0 → 0 ≤ ar (r * 40 + b) := fun b _ _ => by have := hok (r * 40 + b); omega
  refine rg_entV [(0, .ref (κ.2.2.2 6)), (1, .int (rg_I ((r : Nat) : Int)))] rfl (by decide +kernel) (Nat.le_of_ble_eq_true rfl) (fun Γ F hR => ?_)
  refine rg_aload_n F 0 0 rfl dX3_scoreRace_0 rfl ?_
  refine rg_iload_n F 1 1 rfl dX3_scoreRace_1 rfl ?_
  refine rg_callVV F [.int (rg_I ((r : Nat) : Int))] [] 6 (k_X3_countPlaces κ σ (r) en ar w0 (nb) (h25) (h26) (h33) (h1_2) (by first | assumption | omega) (by first | assumption | omega) (rg_okE_en hok) (fun j h => by have := hok j; omega) (by first | assumption | omega)) tC6 cX3 v_X3_countPlaces i_X3_countPlaces k_ml_X3_103 ⟨Nat.le_of_ble_eq_true rfl, Nat.le_of_ble_eq_true rfl⟩ rfl (Nat.le_of_ble_eq_true rfl) dX3_scoreRace_2 (rg_ex1 ?_)
  refine rg_eq (σ' := (rg_wr (rg_wr σ 32 (rg_wp en ar r nb)) 33 (rg_wl w0 (rg_wp en ar r nb) 100))) rfl ?_
  refine rg_iconst F dX3_scoreRace_5 ?_
  refine rg_istore_n F [(2, .int (rg_I 0)), (0, .ref (κ.2.2.2 6)), (1, .int (rg_I ((r : Nat) : Int)))] dX3_scoreRace_6 rfl (by decide) rfl ?_
  have L7 : ∀ (n7 : Nat) (b : Nat), n7 = nb - b → (b ≤ nb) → rg_G κ Γ rg_tC 4 0 0 7 [(0, .ref (κ.2.2.2 6)), (1, .int (rg_I ((r : Nat) : Int))), (2, .int (rg_I ((b : Nat) : Int)))] [] (rg_wr (rg_wr (rg_wr (rg_wr σ 28 (rg_row f28 r b (fun i => rg_b (rg_in sl rf fl r i)))) 29 (rg_row f29 r b (fun i => rg_ite (rg_in sl rf fl r i) (rg_p0 sz (rg_wp en ar r nb) (rg_wl w0 (rg_wp en ar r nb) 100) en ar pe r (r * 40 + i)) (-1)))) 32 (rg_wp en ar r nb)) 33 (rg_wl w0 (rg_wp en ar r nb) 100)) := by
    intro n7
    induction n7 using Nat.strongRecOn with
    | _ n7 ih7 =>
      intro b hn7 hb
      refine rg_iload_n F 2 2 rfl dX3_scoreRace_7 rfl ?_
      refine rg_aload_n F 0 0 rfl dX3_scoreRace_8 rfl ?_
      refine rg_get F 6 3 tC6 cX3 k_lays_X3 (by decide) k_fl_X3_38 rfl (v := .ref (κ.2.2.2 1)) rfl dX3_scoreRace_9 ?_
      refine rg_get F 1 2 tC1 cX0 k_lays_X0 (by decide) k_fl_X3_102 rfl (v := .int (rg_I ((nb : Nat) : Int))) (congrArg (fun x => Value.int (rg_I x)) h1_2) dX3_scoreRace_12 ?_
      refine rg_icmp_ge F 95 dX3_scoreRace_15 (by decide) (by omega) (by omega) (fun c15_1 => ?_) (fun c15_1 => ?_)
      ·
        exact hR _ _ _ dX3_scoreRace_95 (rg_wr_congr (f := (rg_wl w0 (rg_wp en ar r nb) 100)) (g := (rg_wl w0 (rg_wp en ar r nb) 100)) 33 (rg_wr_congr (f := (rg_wp en ar r nb)) (g := (rg_wp en ar r nb)) 32 (rg_wr_congr (f := (rg_row f29 r b (fun i => rg_ite (rg_in sl rf fl r i) (rg_p0 sz (rg_wp en ar r nb) (rg_wl w0 (rg_wp en ar r nb) 100) en ar pe r (r * 40 + i)) (-1)))) (g := (rg_row f29 r nb (fun i => rg_ite (rg_in sl rf fl r i) (rg_p0 sz (rg_wp en ar r nb) (rg_wl w0 (rg_wp en ar r nb) 100) en ar pe r (r * 40 + i)) (-1)))) 29 (rg_wr_congr (f := (rg_row f28 r b (fun i => rg_b (rg_in sl rf fl r i)))) (g := (rg_row f28 r nb (fun i => rg_b (rg_in sl rf fl r i)))) 28 rfl (congrArg (fun n => rg_row _ _ n _) (by omega))) (congrArg (fun n => rg_row _ _ n _) (by omega))) rfl) rfl)
      ·
        refine rg_iload_n F 1 1 rfl dX3_scoreRace_18 rfl ?_
        refine rg_iload_n F 2 2 rfl dX3_scoreRace_19 rfl ?_
        refine rg_callNI F [.int (rg_I ((r : Nat) : Int)), .int (rg_I ((b : Nat) : Int))] [] (k_X9_cell κ rg_tC (rg_wr (rg_wr (rg_wr (rg_wr σ 28 (rg_row f28 r b (fun i => rg_b (rg_in sl rf fl r i)))) 29 (rg_row f29 r b (fun i => rg_ite (rg_in sl rf fl r i) (rg_p0 sz (rg_wp en ar r nb) (rg_wl w0 (rg_wp en ar r nb) 100) en ar pe r (r * 40 + i)) (-1)))) 32 (rg_wp en ar r nb)) 33 (rg_wl w0 (rg_wp en ar r nb) 100)) (r) (b)) v_X9_cell k_st_yX9_cell k_mn_X3_95 ⟨Nat.le_of_ble_eq_true rfl, Nat.le_of_ble_eq_true rfl⟩ rfl (Nat.le_of_ble_eq_true rfl) dX3_scoreRace_20 (rg_ex2 ?_)
        show rg_G κ Γ rg_tC 4 0 0 (20 + 3) [(0, .ref (κ.2.2.2 6)), (1, .int (rg_I ((r : Nat) : Int))), (2, .int (rg_I ((b : Nat) : Int)))] [.int (rg_I ((r * 40 + b : Nat) : Int))] (rg_wr (rg_wr (rg_wr (rg_wr σ 28 (rg_row f28 r b (fun i => rg_b (rg_in sl rf fl r i)))) 29 (rg_row f29 r b (fun i => rg_ite (rg_in sl rf fl r i) (rg_p0 sz (rg_wp en ar r nb) (rg_wl w0 (rg_wp en ar r nb) 100) en ar pe r (r * 40 + i)) (-1)))) 32 (rg_wp en ar r nb)) 33 (rg_wl w0 (rg_wp en ar r nb) 100))
        refine rg_istore_n F [(3, .int (rg_I ((r * 40 + b : Nat) : Int))), (0, .ref (κ.2.2.2 6)), (1, .int (rg_I ((r : Nat) : Int))), (2, .int (rg_I ((b : Nat) : Int)))] dX3_scoreRace_23 rfl (by decide) rfl ?_
        refine rg_aload_n F 1 0 rfl dX3_scoreRace_24 rfl ?_
        refine rg_get F 6 1 tC6 cX3 k_lays_X3 (by decide) k_fl_X3_18 rfl (v := .ref (κ.2.2.2 28)) rfl dX3_scoreRace_25 ?_
        refine rg_iload_n F 0 3 rfl dX3_scoreRace_28 rfl ?_
        refine rg_aload_n F 1 0 rfl dX3_scoreRace_29 rfl ?_
        refine rg_get F 6 7 tC6 cX3 k_lays_X3 (by decide) k_fl_X3_26 rfl (v := .ref (κ.2.2.2 30)) rfl dX3_scoreRace_30 ?_
        refine rg_iload_n F 2 1 rfl dX3_scoreRace_33 rfl ?_
        refine rg_zald F 30 r (v := (sl r)) tC30 (by omega) (by omega) (by decide) (congrFun h30 r) dX3_scoreRace_34 ?_
        refine rg_if_eq F 62 dX3_scoreRace_35 (by decide) (by have b0 := hsl; omega) (fun c35_2 => ?_) (fun c35_2 => ?_)
        ·
          refine rg_iconst F dX3_scoreRace_62 ?_
          refine rg_zast F 28 (r * 40 + b) tC28 (by omega) (by omega) (by decide) (Or.inl rfl) (f9 := (rg_row f28 r b (fun i => rg_b (rg_in sl rf fl r i)))) rfl (rg_wr (rg_wr (rg_wr (rg_wr σ 28 (rg_up (rg_row f28 r b (fun i => rg_b (rg_in sl rf fl r i))) (r * 40 + b) 0)) 29 (rg_row f29 r b (fun i => rg_ite (rg_in sl rf fl r i) (rg_p0 sz (rg_wp en ar r nb) (rg_wl w0 (rg_wp en ar r nb) 100) en ar pe r (r * 40 + i)) (-1)))) 32 (rg_wp en ar r nb)) 33 (rg_wl w0 (rg_wp en ar r nb) 100)) ((rg_wr_comm _ _ _ (by decide)).trans (rg_wr_congr 33 ((rg_wr_comm _ _ _ (by decide)).trans (rg_wr_congr 32 ((rg_wr_comm _ _ _ (by decide)).trans (rg_wr_congr 29 (rg_wr_wr _ 28 _ _) rfl)) rfl)) rfl)) dX3_scoreRace_63 ?_
          refine rg_aload_n F 1 0 rfl dX3_scoreRace_64 rfl ?_
          refine rg_get F 6 2 tC6 cX3 k_lays_X3 (by decide) k_fl_X3_22 rfl (v := .ref (κ.2.2.2 29)) rfl dX3_scoreRace_65 ?_
          refine rg_iload_n F 0 3 rfl dX3_scoreRace_68 rfl ?_
          refine rg_aload_n F 1 0 rfl dX3_scoreRace_69 rfl ?_
          refine rg_get F 6 1 tC6 cX3 k_lays_X3 (by decide) k_fl_X3_18 rfl (v := .ref (κ.2.2.2 28)) rfl dX3_scoreRace_70 ?_
          refine rg_iload_n F 0 3 rfl dX3_scoreRace_73 rfl ?_
          refine rg_zald F 28 (r * 40 + b) (v := 0) tC28 (by omega) (by omega) (by decide) (rg_up_same _ _ _) dX3_scoreRace_74 ?_
          refine rg_if_eq F 87 dX3_scoreRace_75 (by decide) (by omega) (fun c75_3 => ?_) (fun c75_3 => ?_)
          ·
            refine rg_iconst F dX3_scoreRace_87 ?_
            refine rg_iast F 29 (r * 40 + b) tC29 (by omega) (by omega) (by decide) (f9 := (rg_row f29 r b (fun i => rg_ite (rg_in sl rf fl r i) (rg_p0 sz (rg_wp en ar r nb) (rg_wl w0 (rg_wp en ar r nb) 100) en ar pe r (r * 40 + i)) (-1)))) rfl (rg_wr (rg_wr (rg_wr (rg_wr σ 28 (rg_up (rg_row f28 r b (fun i => rg_b (rg_in sl rf fl r i))) (r * 40 + b) 0)) 29 (rg_up (rg_row f29 r b (fun i => rg_ite (rg_in sl rf fl r i) (rg_p0 sz (rg_wp en ar r nb) (rg_wl w0 (rg_wp en ar r nb) 100) en ar pe r (r * 40 + i)) (-1))) (r * 40 + b) (-1))) 32 (rg_wp en ar r nb)) 33 (rg_wl w0 (rg_wp en ar r nb) 100)) ((rg_wr_comm _ _ _ (by decide)).trans (rg_wr_congr 33 ((rg_wr_comm _ _ _ (by decide)).trans (rg_wr_congr 32 (rg_wr_wr _ 29 _ _) rfl)) rfl)) dX3_scoreRace_88 ?_
            refine rg_iinc F (v := ((b + 1 : Nat) : Int)) 3 [(2, .int (rg_I ((b + 1 : Nat) : Int))), (3, .int (rg_I ((r * 40 + b : Nat) : Int))), (0, .ref (κ.2.2.2 6)), (1, .int (rg_I ((r : Nat) : Int)))] dX3_scoreRace_89 rfl (by omega) (by decide) rfl ?_
            refine rg_goto F 7 dX3_scoreRace_92 (by decide) ?_
            refine rg_eq (σ' := (rg_wr (rg_wr (rg_wr (rg_wr σ 28 (rg_row f28 r (b + 1) (fun i => rg_b (rg_in sl rf fl r i)))) 29 (rg_row f29 r (b + 1) (fun i => rg_ite (rg_in sl rf fl r i) (rg_p0 sz (rg_wp en ar r nb) (rg_wl w0 (rg_wp en ar r nb) 100) en ar pe r (r * 40 + i)) (-1)))) 32 (rg_wp en ar r nb)) 33 (rg_wl w0 (rg_wp en ar r nb) 100))) (rg_wr_congr (f := (rg_wl w0 (rg_wp en ar r nb) 100)) (g := (rg_wl w0 (rg_wp en ar r nb) 100)) 33 (rg_wr_congr (f := (rg_wp en ar r nb)) (g := (rg_wp en ar r nb)) 32 (rg_wr_congr (f := (rg_up (rg_row f29 r b (fun i => rg_ite (rg_in sl rf fl r i) (rg_p0 sz (rg_wp en ar r nb) (rg_wl w0 (rg_wp en ar r nb) 100) en ar pe r (r * 40 + i)) (-1))) (r * 40 + b) (-1))) (g := (rg_row f29 r (b + 1) (fun i => rg_ite (rg_in sl rf fl r i) (rg_p0 sz (rg_wp en ar r nb) (rg_wl w0 (rg_wp en ar r nb) 100) en ar pe r (r * 40 + i)) (-1)))) 29 (rg_wr_congr (f := (rg_up (rg_row f28 r b (fun i => rg_b (rg_in sl rf fl r i))) (r * 40 + b) 0)) (g := (rg_row f28 r (b + 1) (fun i => rg_b (rg_in sl rf fl r i)))) 28 rfl (rg_row_s _ _ _ _ (by first | exact (rg_b_t ⟨by assumption, by assumption⟩).symm | exact (rg_b_f (fun q => absurd q.2 (by assumption))).symm | exact (rg_b_f (fun q => q.1 (by assumption))).symm))) (rg_row_s _ _ _ _ (by first | exact (rg_ite_t ⟨by assumption, by assumption⟩ _ _).symm | exact (rg_ite_f (fun q => absurd q.2 (by assumption)) _ _).symm | exact (rg_ite_f (fun q => q.1 (by assumption)) _ _).symm))) rfl) rfl) ?_
            refine rg_sub (lv' := [(0, .ref (κ.2.2.2 6)), (1, .int (rg_I ((r : Nat) : Int))), (2, .int (rg_I ((b + 1 : Nat) : Int)))]) [2, 3, 0] rfl ?_
            exact ih7 (nb - (b + 1)) (by omega) ((b + 1)) rfl (by omega)
          · exfalso; omega
        ·
          refine rg_aload_n F 1 0 rfl dX3_scoreRace_38 rfl ?_
          refine rg_get F 6 3 tC6 cX3 k_lays_X3 (by decide) k_fl_X3_38 rfl (v := .ref (κ.2.2.2 1)) rfl dX3_scoreRace_39 ?_
          refine rg_iload_n F 3 2 rfl dX3_scoreRace_42 rfl ?_
          refine rg_aload_n F 1 0 rfl dX3_scoreRace_43 rfl ?_
          refine rg_get F 6 4 tC6 cX3 k_lays_X3 (by decide) k_fl_X3_42 rfl (v := .ref (κ.2.2.2 2)) rfl dX3_scoreRace_44 ?_
          refine rg_get F 2 1 tC2 cX4 k_lays_X4 (by decide) k_fl_X3_68 rfl (v := .ref (κ.2.2.2 14)) rfl dX3_scoreRace_47 ?_
          refine rg_iload_n F 2 1 rfl dX3_scoreRace_50 rfl ?_
          refine rg_iald F 14 r (v := (rf r)) tC14 (by omega) (by omega) (by decide) (congrFun h14 r) dX3_scoreRace_51 ?_
          refine rg_callVI F [.int (rg_I ((b : Nat) : Int)), .int (rg_I (rf r))] [.int (rg_I ((r * 40 + b : Nat) : Int)), .ref (κ.2.2.2 28)] 1 (k_X0_isIn κ (rg_wr (rg_wr (rg_wr (rg_wr σ 28 (rg_row f28 r b (fun i => rg_b (rg_in sl rf fl r i)))) 29 (rg_row f29 r b (fun i => rg_ite (rg_in sl rf fl r i) (rg_p0 sz (rg_wp en ar r nb) (rg_wl w0 (rg_wp en ar r nb) 100) en ar pe r (r * 40 + i)) (-1)))) 32 (rg_wp en ar r nb)) 33 (rg_wl w0 (rg_wp en ar r nb) 100)) (b) ((rf r)) fl (h11) (by first | assumption | omega) hrf (by first | assumption | omega)) tC1 cX0 v_X0_isIn i_X0_isIn k_ml_X3_91 ⟨Nat.le_of_ble_eq_true rfl, Nat.le_of_ble_eq_true rfl⟩ rfl (Nat.le_of_ble_eq_true rfl) dX3_scoreRace_52 (rg_ex2 ?_)
          show rg_G κ Γ rg_tC 4 0 0 (52 + 3) [(3, .int (rg_I ((r * 40 + b : Nat) : Int))), (0, .ref (κ.2.2.2 6)), (1, .int (rg_I ((r : Nat) : Int))), (2, .int (rg_I ((b : Nat) : Int)))] [.int (rg_I (rg_b ((rf r) = 0 ∨ (rf r) = fl b))), .int (rg_I ((r * 40 + b : Nat) : Int)), .ref (κ.2.2.2 28)] (rg_wr (rg_wr (rg_wr (rg_wr σ 28 (rg_row f28 r b (fun i => rg_b (rg_in sl rf fl r i)))) 29 (rg_row f29 r b (fun i => rg_ite (rg_in sl rf fl r i) (rg_p0 sz (rg_wp en ar r nb) (rg_wl w0 (rg_wp en ar r nb) 100) en ar pe r (r * 40 + i)) (-1)))) 32 (rg_wp en ar r nb)) 33 (rg_wl w0 (rg_wp en ar r nb) 100))
          refine rg_if_eq F 62 dX3_scoreRace_55 (by decide) (by have b0 := rg_b_Rg ((rf r) = 0 ∨ (rf r) = fl b); omega) (fun c55_4 => ?_) (fun c55_4 => ?_)
          ·
            have c55_4 := (rg_b_eq0 _).mp c55_4
            refine rg_iconst F dX3_scoreRace_62 ?_
            refine rg_zast F 28 (r * 40 + b) tC28 (by omega) (by omega) (by decide) (Or.inl rfl) (f9 := (rg_row f28 r b (fun i => rg_b (rg_in sl rf fl r i)))) rfl (rg_wr (rg_wr (rg_wr (rg_wr σ 28 (rg_up (rg_row f28 r b (fun i => rg_b (rg_in sl rf fl r i))) (r * 40 + b) 0)) 29 (rg_row f29 r b (fun i => rg_ite (rg_in sl rf fl r i) (rg_p0 sz (rg_wp en ar r nb) (rg_wl w0 (rg_wp en ar r nb) 100) en ar pe r (r * 40 + i)) (-1)))) 32 (rg_wp en ar r nb)) 33 (rg_wl w0 (rg_wp en ar r nb) 100)) ((rg_wr_comm _ _ _ (by decide)).trans (rg_wr_congr 33 ((rg_wr_comm _ _ _ (by decide)).trans (rg_wr_congr 32 ((rg_wr_comm _ _ _ (by decide)).trans (rg_wr_congr 29 (rg_wr_wr _ 28 _ _) rfl)) rfl)) rfl)) dX3_scoreRace_63 ?_
            refine rg_aload_n F 1 0 rfl dX3_scoreRace_64 rfl ?_
            refine rg_get F 6 2 tC6 cX3 k_lays_X3 (by decide) k_fl_X3_22 rfl (v := .ref (κ.2.2.2 29)) rfl dX3_scoreRace_65 ?_
            refine rg_iload_n F 0 3 rfl dX3_scoreRace_68 rfl ?_
            refine rg_aload_n F 1 0 rfl dX3_scoreRace_69 rfl ?_
            refine rg_get F 6 1 tC6 cX3 k_lays_X3 (by decide) k_fl_X3_18 rfl (v := .ref (κ.2.2.2 28)) rfl dX3_scoreRace_70 ?_
            refine rg_iload_n F 0 3 rfl dX3_scoreRace_73 rfl ?_
            refine rg_zald F 28 (r * 40 + b) (v := 0) tC28 (by omega) (by omega) (by decide) (rg_up_same _ _ _) dX3_scoreRace_74 ?_
            refine rg_if_eq F 87 dX3_scoreRace_75 (by decide) (by omega) (fun c75_5 => ?_) (fun c75_5 => ?_)
            ·
              refine rg_iconst F dX3_scoreRace_87 ?_
              refine rg_iast F 29 (r * 40 + b) tC29 (by omega) (by omega) (by decide) (f9 := (rg_row f29 r b (fun i => rg_ite (rg_in sl rf fl r i) (rg_p0 sz (rg_wp en ar r nb) (rg_wl w0 (rg_wp en ar r nb) 100) en ar pe r (r * 40 + i)) (-1)))) rfl (rg_wr (rg_wr (rg_wr (rg_wr σ 28 (rg_up (rg_row f28 r b (fun i => rg_b (rg_in sl rf fl r i))) (r * 40 + b) 0)) 29 (rg_up (rg_row f29 r b (fun i => rg_ite (rg_in sl rf fl r i) (rg_p0 sz (rg_wp en ar r nb) (rg_wl w0 (rg_wp en ar r nb) 100) en ar pe r (r * 40 + i)) (-1))) (r * 40 + b) (-1))) 32 (rg_wp en ar r nb)) 33 (rg_wl w0 (rg_wp en ar r nb) 100)) ((rg_wr_comm _ _ _ (by decide)).trans (rg_wr_congr 33 ((rg_wr_comm _ _ _ (by decide)).trans (rg_wr_congr 32 (rg_wr_wr _ 29 _ _) rfl)) rfl)) dX3_scoreRace_88 ?_
              refine rg_iinc F (v := ((b + 1 : Nat) : Int)) 3 [(2, .int (rg_I ((b + 1 : Nat) : Int))), (3, .int (rg_I ((r * 40 + b : Nat) : Int))), (0, .ref (κ.2.2.2 6)), (1, .int (rg_I ((r : Nat) : Int)))] dX3_scoreRace_89 rfl (by omega) (by decide) rfl ?_
              refine rg_goto F 7 dX3_scoreRace_92 (by decide) ?_
              refine rg_eq (σ' := (rg_wr (rg_wr (rg_wr (rg_wr σ 28 (rg_row f28 r (b + 1) (fun i => rg_b (rg_in sl rf fl r i)))) 29 (rg_row f29 r (b + 1) (fun i => rg_ite (rg_in sl rf fl r i) (rg_p0 sz (rg_wp en ar r nb) (rg_wl w0 (rg_wp en ar r nb) 100) en ar pe r (r * 40 + i)) (-1)))) 32 (rg_wp en ar r nb)) 33 (rg_wl w0 (rg_wp en ar r nb) 100))) (rg_wr_congr (f := (rg_wl w0 (rg_wp en ar r nb) 100)) (g := (rg_wl w0 (rg_wp en ar r nb) 100)) 33 (rg_wr_congr (f := (rg_wp en ar r nb)) (g := (rg_wp en ar r nb)) 32 (rg_wr_congr (f := (rg_up (rg_row f29 r b (fun i => rg_ite (rg_in sl rf fl r i) (rg_p0 sz (rg_wp en ar r nb) (rg_wl w0 (rg_wp en ar r nb) 100) en ar pe r (r * 40 + i)) (-1))) (r * 40 + b) (-1))) (g := (rg_row f29 r (b + 1) (fun i => rg_ite (rg_in sl rf fl r i) (rg_p0 sz (rg_wp en ar r nb) (rg_wl w0 (rg_wp en ar r nb) 100) en ar pe r (r * 40 + i)) (-1)))) 29 (rg_wr_congr (f := (rg_up (rg_row f28 r b (fun i => rg_b (rg_in sl rf fl r i))) (r * 40 + b) 0)) (g := (rg_row f28 r (b + 1) (fun i => rg_b (rg_in sl rf fl r i)))) 28 rfl (rg_row_s _ _ _ _ (by first | exact (rg_b_t ⟨by assumption, by assumption⟩).symm | exact (rg_b_f (fun q => absurd q.2 (by assumption))).symm | exact (rg_b_f (fun q => q.1 (by assumption))).symm))) (rg_row_s _ _ _ _ (by first | exact (rg_ite_t ⟨by assumption, by assumption⟩ _ _).symm | exact (rg_ite_f (fun q => absurd q.2 (by assumption)) _ _).symm | exact (rg_ite_f (fun q => q.1 (by assumption)) _ _).symm))) rfl) rfl) ?_
              refine rg_sub (lv' := [(0, .ref (κ.2.2.2 6)), (1, .int (rg_I ((r : Nat) : Int))), (2, .int (rg_I ((b + 1 : Nat) : Int)))]) [2, 3, 0] rfl ?_
              exact ih7 (nb - (b + 1)) (by omega) ((b + 1)) rfl (by omega)
            · exfalso; omega
          ·
            have c55_4 := (rg_b_ne0 _).mp c55_4
            refine rg_iconst F dX3_scoreRace_58 ?_
            refine rg_goto F 63 dX3_scoreRace_59 (by decide) ?_
            refine rg_zast F 28 (r * 40 + b) tC28 (by omega) (by omega) (by decide) (Or.inr rfl) (f9 := (rg_row f28 r b (fun i => rg_b (rg_in sl rf fl r i)))) rfl (rg_wr (rg_wr (rg_wr (rg_wr σ 28 (rg_up (rg_row f28 r b (fun i => rg_b (rg_in sl rf fl r i))) (r * 40 + b) 1)) 29 (rg_row f29 r b (fun i => rg_ite (rg_in sl rf fl r i) (rg_p0 sz (rg_wp en ar r nb) (rg_wl w0 (rg_wp en ar r nb) 100) en ar pe r (r * 40 + i)) (-1)))) 32 (rg_wp en ar r nb)) 33 (rg_wl w0 (rg_wp en ar r nb) 100)) ((rg_wr_comm _ _ _ (by decide)).trans (rg_wr_congr 33 ((rg_wr_comm _ _ _ (by decide)).trans (rg_wr_congr 32 ((rg_wr_comm _ _ _ (by decide)).trans (rg_wr_congr 29 (rg_wr_wr _ 28 _ _) rfl)) rfl)) rfl)) dX3_scoreRace_63 ?_
            refine rg_aload_n F 1 0 rfl dX3_scoreRace_64 rfl ?_
            refine rg_get F 6 2 tC6 cX3 k_lays_X3 (by decide) k_fl_X3_22 rfl (v := .ref (κ.2.2.2 29)) rfl dX3_scoreRace_65 ?_
            refine rg_iload_n F 0 3 rfl dX3_scoreRace_68 rfl ?_
            refine rg_aload_n F 1 0 rfl dX3_scoreRace_69 rfl ?_
            refine rg_get F 6 1 tC6 cX3 k_lays_X3 (by decide) k_fl_X3_18 rfl (v := .ref (κ.2.2.2 28)) rfl dX3_scoreRace_70 ?_
            refine rg_iload_n F 0 3 rfl dX3_scoreRace_73 rfl ?_
            refine rg_zald F 28 (r * 40 + b) (v := 1) tC28 (by omega) (by omega) (by decide) (rg_up_same _ _ _) dX3_scoreRace_74 ?_
            refine rg_if_eq F 87 dX3_scoreRace_75 (by decide) (by omega) (fun c75_6 => ?_) (fun c75_6 => ?_)
            · exfalso; omega
            ·
              refine rg_aload_n F 1 0 rfl dX3_scoreRace_78 rfl ?_
              refine rg_iload_n F 2 1 rfl dX3_scoreRace_79 rfl ?_
              refine rg_iload_n F 0 3 rfl dX3_scoreRace_80 rfl ?_
              refine rg_callVI F [.int (rg_I ((r : Nat) : Int)), .int (rg_I ((r * 40 + b : Nat) : Int))] [.int (rg_I ((r * 40 + b : Nat) : Int)), .ref (κ.2.2.2 29)] 6 (k_X3_pointsWithoutOthers κ (rg_wr (rg_wr (rg_wr (rg_wr σ 28 (rg_up (rg_row f28 r b (fun i => rg_b (rg_in sl rf fl r i))) (r * 40 + b) 1)) 29 (rg_row f29 r b (fun i => rg_ite (rg_in sl rf fl r i) (rg_p0 sz (rg_wp en ar r nb) (rg_wl w0 (rg_wp en ar r nb) 100) en ar pe r (r * 40 + i)) (-1)))) 32 (rg_wp en ar r nb)) 33 (rg_wl w0 (rg_wp en ar r nb) 100)) (r) ((r * 40 + b)) en ar pe sz (rg_wp en ar r nb) (rg_wl w0 (rg_wp en ar r nb) 100) (h25) (h26) (h27) (h31) rfl rfl (by first | assumption | omega) (by first | assumption | omega) (by first | assumption | omega) (by first | assumption | omega) (fun p => by have := rg_wp_bd en ar r nb p; omega) (fun p hp => by have := rg_wl_bd (f := w0) (en := en) (ar := ar) (r := r) (nb := nb) hokp hp; omega)) tC6 cX3 v_X3_pointsWithoutOthers i_X3_pointsWithoutOthers k_ml_X3_106 ⟨Nat.le_of_ble_eq_true rfl, Nat.le_of_ble_eq_true rfl⟩ rfl (Nat.le_of_ble_eq_true rfl) dX3_scoreRace_81 (rg_ex2 ?_)
              show rg_G κ Γ rg_tC 4 0 0 (81 + 3) [(3, .int (rg_I ((r * 40 + b : Nat) : Int))), (0, .ref (κ.2.2.2 6)), (1, .int (rg_I ((r : Nat) : Int))), (2, .int (rg_I ((b : Nat) : Int)))] [.int (rg_I (rg_p0 sz (rg_wp en ar r nb) (rg_wl w0 (rg_wp en ar r nb) 100) en ar pe r (r * 40 + b))), .int (rg_I ((r * 40 + b : Nat) : Int)), .ref (κ.2.2.2 29)] (rg_wr (rg_wr (rg_wr (rg_wr σ 28 (rg_up (rg_row f28 r b (fun i => rg_b (rg_in sl rf fl r i))) (r * 40 + b) 1)) 29 (rg_row f29 r b (fun i => rg_ite (rg_in sl rf fl r i) (rg_p0 sz (rg_wp en ar r nb) (rg_wl w0 (rg_wp en ar r nb) 100) en ar pe r (r * 40 + i)) (-1)))) 32 (rg_wp en ar r nb)) 33 (rg_wl w0 (rg_wp en ar r nb) 100))
              refine rg_goto F 88 dX3_scoreRace_84 (by decide) ?_
              refine rg_iast F 29 (r * 40 + b) tC29 (by omega) (by omega) (by decide) (f9 := (rg_row f29 r b (fun i => rg_ite (rg_in sl rf fl r i) (rg_p0 sz (rg_wp en ar r nb) (rg_wl w0 (rg_wp en ar r nb) 100) en ar pe r (r * 40 + i)) (-1)))) rfl (rg_wr (rg_wr (rg_wr (rg_wr σ 28 (rg_up (rg_row f28 r b (fun i => rg_b (rg_in sl rf fl r i))) (r * 40 + b) 1)) 29 (rg_up (rg_row f29 r b (fun i => rg_ite (rg_in sl rf fl r i) (rg_p0 sz (rg_wp en ar r nb) (rg_wl w0 (rg_wp en ar r nb) 100) en ar pe r (r * 40 + i)) (-1))) (r * 40 + b) (rg_p0 sz (rg_wp en ar r nb) (rg_wl w0 (rg_wp en ar r nb) 100) en ar pe r (r * 40 + b)))) 32 (rg_wp en ar r nb)) 33 (rg_wl w0 (rg_wp en ar r nb) 100)) ((rg_wr_comm _ _ _ (by decide)).trans (rg_wr_congr 33 ((rg_wr_comm _ _ _ (by decide)).trans (rg_wr_congr 32 (rg_wr_wr _ 29 _ _) rfl)) rfl)) dX3_scoreRace_88 ?_
              refine rg_iinc F (v := ((b + 1 : Nat) : Int)) 3 [(2, .int (rg_I ((b + 1 : Nat) : Int))), (3, .int (rg_I ((r * 40 + b : Nat) : Int))), (0, .ref (κ.2.2.2 6)), (1, .int (rg_I ((r : Nat) : Int)))] dX3_scoreRace_89 rfl (by omega) (by decide) rfl ?_
              refine rg_goto F 7 dX3_scoreRace_92 (by decide) ?_
              refine rg_eq (σ' := (rg_wr (rg_wr (rg_wr (rg_wr σ 28 (rg_row f28 r (b + 1) (fun i => rg_b (rg_in sl rf fl r i)))) 29 (rg_row f29 r (b + 1) (fun i => rg_ite (rg_in sl rf fl r i) (rg_p0 sz (rg_wp en ar r nb) (rg_wl w0 (rg_wp en ar r nb) 100) en ar pe r (r * 40 + i)) (-1)))) 32 (rg_wp en ar r nb)) 33 (rg_wl w0 (rg_wp en ar r nb) 100))) (rg_wr_congr (f := (rg_wl w0 (rg_wp en ar r nb) 100)) (g := (rg_wl w0 (rg_wp en ar r nb) 100)) 33 (rg_wr_congr (f := (rg_wp en ar r nb)) (g := (rg_wp en ar r nb)) 32 (rg_wr_congr (f := (rg_up (rg_row f29 r b (fun i => rg_ite (rg_in sl rf fl r i) (rg_p0 sz (rg_wp en ar r nb) (rg_wl w0 (rg_wp en ar r nb) 100) en ar pe r (r * 40 + i)) (-1))) (r * 40 + b) (rg_p0 sz (rg_wp en ar r nb) (rg_wl w0 (rg_wp en ar r nb) 100) en ar pe r (r * 40 + b)))) (g := (rg_row f29 r (b + 1) (fun i => rg_ite (rg_in sl rf fl r i) (rg_p0 sz (rg_wp en ar r nb) (rg_wl w0 (rg_wp en ar r nb) 100) en ar pe r (r * 40 + i)) (-1)))) 29 (rg_wr_congr (f := (rg_up (rg_row f28 r b (fun i => rg_b (rg_in sl rf fl r i))) (r * 40 + b) 1)) (g := (rg_row f28 r (b + 1) (fun i => rg_b (rg_in sl rf fl r i)))) 28 rfl (rg_row_s _ _ _ _ (by first | exact (rg_b_t ⟨by assumption, by assumption⟩).symm | exact (rg_b_f (fun q => absurd q.2 (by assumption))).symm | exact (rg_b_f (fun q => q.1 (by assumption))).symm))) (rg_row_s _ _ _ _ (by first | exact (rg_ite_t ⟨by assumption, by assumption⟩ _ _).symm | exact (rg_ite_f (fun q => absurd q.2 (by assumption)) _ _).symm | exact (rg_ite_f (fun q => q.1 (by assumption)) _ _).symm))) rfl) rfl) ?_
              refine rg_sub (lv' := [(0, .ref (κ.2.2.2 6)), (1, .int (rg_I ((r : Nat) : Int))), (2, .int (rg_I ((b + 1 : Nat) : Int)))]) [2, 3, 0] rfl ?_
              exact ih7 (nb - (b + 1)) (by omega) ((b + 1)) rfl (by omega)
  refine rg_eq (σ' := (rg_wr (rg_wr (rg_wr (rg_wr σ 28 (rg_row f28 r 0 (fun i => rg_b (rg_in sl rf fl r i)))) 29 (rg_row f29 r 0 (fun i => rg_ite (rg_in sl rf fl r i) (rg_p0 sz (rg_wp en ar r nb) (rg_wl w0 (rg_wp en ar r nb) 100) en ar pe r (r * 40 + i)) (-1)))) 32 (rg_wp en ar r nb)) 33 (rg_wl w0 (rg_wp en ar r nb) 100))) ((((rg_wr_self (σ := (rg_wr (rg_wr σ 32 (rg_wp en ar r nb)) 33 (rg_wl w0 (rg_wp en ar r nb) 100))) (k := 28) (f := f28) h28).trans ((rg_wr_comm _ _ _ (by decide)).trans (rg_wr_congr 33 ((rg_wr_comm _ _ _ (by decide)).trans (rg_wr_congr 32 rfl rfl)) rfl))).trans ((rg_wr_self (σ := (rg_wr (rg_wr (rg_wr σ 28 f28) 32 (rg_wp en ar r nb)) 33 (rg_wl w0 (rg_wp en ar r nb) 100))) (k := 29) (f := f29) h29).trans ((rg_wr_comm _ _ _ (by decide)).trans (rg_wr_congr 33 ((rg_wr_comm _ _ _ (by decide)).trans (rg_wr_congr 32 rfl rfl)) rfl)))).trans (rg_wr_congr (f := (rg_wl w0 (rg_wp en ar r nb) 100)) (g := (rg_wl w0 (rg_wp en ar r nb) 100)) 33 (rg_wr_congr (f := (rg_wp en ar r nb)) (g := (rg_wp en ar r nb)) 32 (rg_wr_congr (f := f29) (g := (rg_row f29 r 0 (fun i => rg_ite (rg_in sl rf fl r i) (rg_p0 sz (rg_wp en ar r nb) (rg_wl w0 (rg_wp en ar r nb) 100) en ar pe r (r * 40 + i)) (-1)))) 29 (rg_wr_congr (f := f28) (g := (rg_row f28 r 0 (fun i => rg_b (rg_in sl rf fl r i)))) 28 rfl (rg_row_0 _ _ _)) (rg_row_0 _ _ _)) rfl) rfl)) ?_
  refine rg_sub (lv' := [(0, .ref (κ.2.2.2 6)), (1, .int (rg_I ((r : Nat) : Int))), (2, .int (rg_I 0))]) [1, 2, 0] rfl ?_
  exact L7 _ (0) rfl (by omega)
set_option maxHeartbeats 4000000 in
set_option maxRecDepth 100000 in
/-- averageBelow: the mean over the races below n -/
theorem k_X3_averageBelow (κ : rg_K) (σ : rg_S) (n r b : Nat) (en : Nat → Int) (ins : Nat → Int) (pt : Nat → Int) (sz : Nat → Int) (h25 : σ 25 = en) (h28 : σ 28 = ins) (h29 : σ 29 = pt) (h31 : σ 31 = sz) (hn : n ≤ 16) (hr : r < 16) (hb : b < 40) (hen : ∀ j, rg_Rg (en j)) (hins : ∀ j, rg_Rg (ins j)) (hsz : 0 ≤ sz r ∧ sz r ≤ 40) (hpt : ∀ o, o < n → rg_no ins en b o → 0 ≤ pt (o * 40 + b) ∧ pt (o * 40 + b) ≤ 9999) : rg_CI κ rg_tC yX3_averageBelow cX3_averageBelow 8 FieldType.int 1 21 [.ref (κ.2.2.2 6), .int (rg_I ((n : Nat) : Int)), .int (rg_I ((r : Nat) : Int)), .int (rg_I ((b : Nat) : Int))] σ (fun r9 σ9 => r9 = (rg_avg (sz r) (rg_no ins en b) (fun o => pt (o * 40 + b)) n) ∧ σ9 = σ) := by
  refine rg_entI [(0, .ref (κ.2.2.2 6)), (1, .int (rg_I ((n : Nat) : Int))), (2, .int (rg_I ((r : Nat) : Int))), (3, .int (rg_I ((b : Nat) : Int)))] rfl (by decide +kernel) (Nat.le_of_ble_eq_true rfl) (by first | exact Or.inl rfl | exact Or.inr rfl) (fun Γ F hR => ?_)
  refine rg_iconst F dX3_averageBelow_0 ?_
  refine rg_istore F [(4, .int (rg_I 0)), (0, .ref (κ.2.2.2 6)), (1, .int (rg_I ((n : Nat) : Int))), (2, .int (rg_I ((r : Nat) : Int))), (3, .int (rg_I ((b : Nat) : Int)))] dX3_averageBelow_1 (by decide) rfl ?_
  refine rg_iconst F dX3_averageBelow_3 ?_
  refine rg_istore F [(5, .int (rg_I 0)), (4, .int (rg_I 0)), (0, .ref (κ.2.2.2 6)), (1, .int (rg_I ((n : Nat) : Int))), (2, .int (rg_I ((r : Nat) : Int))), (3, .int (rg_I ((b : Nat) : Int)))] dX3_averageBelow_4 (by decide) rfl ?_
  refine rg_iconst F dX3_averageBelow_6 ?_
  refine rg_istore F [(6, .int (rg_I 0)), (5, .int (rg_I 0)), (4, .int (rg_I 0)), (0, .ref (κ.2.2.2 6)), (1, .int (rg_I ((n : Nat) : Int))), (2, .int (rg_I ((r : Nat) : Int))), (3, .int (rg_I ((b : Nat) : Int)))] dX3_averageBelow_7 (by decide) rfl ?_
  have L9 : ∀ (n9 : Nat) (s : Int) (k : Nat) (o : Nat), n9 = n - o → (o ≤ n) → (k = rg_cnt (rg_no ins en b) o) → (s = rg_sum (fun i => rg_ite ((rg_no ins en b) i) (pt (i * 40 + b)) 0) o) → (k ≤ o) → rg_G κ Γ rg_tC 8 0 0 9 [(0, .ref (κ.2.2.2 6)), (1, .int (rg_I ((n : Nat) : Int))), (2, .int (rg_I ((r : Nat) : Int))), (3, .int (rg_I ((b : Nat) : Int))), (4, .int (rg_I s)), (5, .int (rg_I ((k : Nat) : Int))), (6, .int (rg_I ((o : Nat) : Int)))] [] σ := by
    intro n9
    induction n9 using Nat.strongRecOn with
    | _ n9 ih9 =>
      intro s k o hn9 ho hk hs hko
      refine rg_iload F 6 6 rfl dX3_averageBelow_9 ?_
      refine rg_iload_n F 1 1 rfl dX3_averageBelow_11 rfl ?_
      refine rg_icmp_ge F 66 dX3_averageBelow_12 (by decide) (by omega) (by omega) (fun c12_1 => ?_) (fun c12_1 => ?_)
      ·
        have hsb : 0 ≤ s ∧ s ≤ 9999 * (k : Int) := by rw [hs, hk]; exact rg_sum_bd (pt := fun i => pt (i * 40 + b)) (by omega) (fun i hi => hpt i (by omega))
        refine rg_iload F 5 5 rfl dX3_averageBelow_66 ?_
        refine rg_if_ne F 82 dX3_averageBelow_68 (by decide) (by omega) (fun c68_2 => ?_) (fun c68_2 => ?_)
        ·
          refine rg_iconst F dX3_averageBelow_82 ?_
          refine rg_iload F 4 4 rfl dX3_averageBelow_83 ?_
          refine rg_imul F dX3_averageBelow_85 ?_
          refine rg_iload F 5 5 rfl dX3_averageBelow_86 ?_
          refine rg_iadd F dX3_averageBelow_88 ?_
          refine rg_iconst F dX3_averageBelow_89 ?_
          refine rg_iload F 5 5 rfl dX3_averageBelow_90 ?_
          refine rg_imul F dX3_averageBelow_92 ?_
          refine rg_idiv F dX3_averageBelow_93 (by omega) (by omega) ?_
          exact hR _ _ _ _ dX3_averageBelow_94 (fun h => nomatch h) ⟨(by have e : o = n := (by omega); subst e; unfold rg_avg; first | (rw [if_pos (by omega)]; done) | (rw [if_neg (by omega), hs, hk])), rfl⟩
        ·
          refine rg_iconst F dX3_averageBelow_71 ?_
          refine rg_aload_n F 0 0 rfl dX3_averageBelow_72 rfl ?_
          refine rg_get F 6 8 tC6 cX3 k_lays_X3 (by decide) k_fl_X3_29 rfl (v := .ref (κ.2.2.2 31)) rfl dX3_averageBelow_73 ?_
          refine rg_iload_n F 2 2 rfl dX3_averageBelow_76 rfl ?_
          refine rg_iald F 31 r (v := (sz r)) tC31 (by omega) (by omega) (by decide) (congrFun h31 r) dX3_averageBelow_77 ?_
          refine rg_imul F dX3_averageBelow_78 ?_
          refine rg_goto F 94 dX3_averageBelow_79 (by decide) ?_
          exact hR _ _ _ _ dX3_averageBelow_94 (fun h => nomatch h) ⟨(by have e : o = n := (by omega); subst e; unfold rg_avg; first | (rw [if_pos (by omega)]; done) | (rw [if_neg (by omega), hs, hk])), rfl⟩
      ·
        refine rg_iload F 6 6 rfl dX3_averageBelow_15 ?_
        refine rg_iload_n F 3 3 rfl dX3_averageBelow_17 rfl ?_
        refine rg_callNI F [.int (rg_I ((o : Nat) : Int)), .int (rg_I ((b : Nat) : Int))] [] (k_X9_cell κ rg_tC σ (o) (b)) v_X9_cell k_st_yX9_cell k_mn_X3_95 ⟨Nat.le_of_ble_eq_true rfl, Nat.le_of_ble_eq_true rfl⟩ rfl (Nat.le_of_ble_eq_true rfl) dX3_averageBelow_18 (rg_ex2 ?_)
        show rg_G κ Γ rg_tC 8 0 0 (18 + 3) [(0, .ref (κ.2.2.2 6)), (1, .int (rg_I ((n : Nat) : Int))), (2, .int (rg_I ((r : Nat) : Int))), (3, .int (rg_I ((b : Nat) : Int))), (4, .int (rg_I s)), (5, .int (rg_I ((k : Nat) : Int))), (6, .int (rg_I ((o : Nat) : Int)))] [.int (rg_I ((o * 40 + b : Nat) : Int))] σ
        refine rg_istore F [(7, .int (rg_I ((o * 40 + b : Nat) : Int))), (0, .ref (κ.2.2.2 6)), (1, .int (rg_I ((n : Nat) : Int))), (2, .int (rg_I ((r : Nat) : Int))), (3, .int (rg_I ((b : Nat) : Int))), (4, .int (rg_I s)), (5, .int (rg_I ((k : Nat) : Int))), (6, .int (rg_I ((o : Nat) : Int)))] dX3_averageBelow_21 (by decide) rfl ?_
        refine rg_aload_n F 1 0 rfl dX3_averageBelow_23 rfl ?_
        refine rg_get F 6 1 tC6 cX3 k_lays_X3 (by decide) k_fl_X3_18 rfl (v := .ref (κ.2.2.2 28)) rfl dX3_averageBelow_24 ?_
        refine rg_iload F 0 7 rfl dX3_averageBelow_27 ?_
        refine rg_zald F 28 (o * 40 + b) (v := (ins (o * 40 + b))) tC28 (by omega) (by omega) (by decide) (congrFun h28 (o * 40 + b)) dX3_averageBelow_29 ?_
        refine rg_if_eq F 60 dX3_averageBelow_30 (by decide) (by have b0 := hins ((o * 40 + b)); omega) (fun c30_3 => ?_) (fun c30_3 => ?_)
        ·
          refine rg_iinc F (v := ((o + 1 : Nat) : Int)) 7 [(6, .int (rg_I ((o + 1 : Nat) : Int))), (7, .int (rg_I ((o * 40 + b : Nat) : Int))), (0, .ref (κ.2.2.2 6)), (1, .int (rg_I ((n : Nat) : Int))), (2, .int (rg_I ((r : Nat) : Int))), (3, .int (rg_I ((b : Nat) : Int))), (4, .int (rg_I s)), (5, .int (rg_I ((k : Nat) : Int)))] dX3_averageBelow_60 rfl (by omega) (by decide) rfl ?_
          refine rg_goto F 9 dX3_averageBelow_63 (by decide) ?_
          refine rg_sub (lv' := [(0, .ref (κ.2.2.2 6)), (1, .int (rg_I ((n : Nat) : Int))), (2, .int (rg_I ((r : Nat) : Int))), (3, .int (rg_I ((b : Nat) : Int))), (4, .int (rg_I s)), (5, .int (rg_I ((k : Nat) : Int))), (6, .int (rg_I ((o + 1 : Nat) : Int)))]) [2, 3, 4, 5, 6, 7, 0] rfl ?_
          exact ih9 (n - (o + 1)) (by omega) (s) (k) ((o + 1)) rfl (by omega) (by first | (rw [rg_cnt_t (p := (rg_no ins en b)) ⟨by assumption, by assumption⟩]; omega) | (rw [rg_cnt_f (p := (rg_no ins en b)) (fun q => q.2 (by assumption))]; omega) | (rw [rg_cnt_f (p := (rg_no ins en b)) (fun q => q.1 (by assumption))]; omega)) (by first | (rw [hs]; exact rg_sum_t (p := (rg_no ins en b)) (pt := fun i => pt (i * 40 + b)) ⟨by assumption, by assumption⟩) | (rw [hs]; exact rg_sum_f (p := (rg_no ins en b)) (pt := fun i => pt (i * 40 + b)) (fun q => q.2 (by assumption))) | (rw [hs]; exact rg_sum_f (p := (rg_no ins en b)) (pt := fun i => pt (i * 40 + b)) (fun q => q.1 (by assumption)))) (by omega)
        ·
          refine rg_aload_n F 1 0 rfl dX3_averageBelow_33 rfl ?_
          refine rg_get F 6 0 tC6 cX3 k_lays_X3 (by decide) k_fl_X3_12 rfl (v := .ref (κ.2.2.2 10)) rfl dX3_averageBelow_34 ?_
          refine rg_iload F 0 7 rfl dX3_averageBelow_37 ?_
          refine rg_callVI F [.int (rg_I ((o * 40 + b : Nat) : Int))] [] 10 (k_X2_isRedressAt_10 κ σ ((o * 40 + b)) en (h25) (by first | assumption | omega) (by first | assumption | omega)) tC10 cX2 v_X2_isRedressAt i_X2_isRedressAt k_ml_X3_139 ⟨Nat.le_of_ble_eq_true rfl, Nat.le_of_ble_eq_true rfl⟩ rfl (Nat.le_of_ble_eq_true rfl) dX3_averageBelow_39 (rg_ex2 ?_)
          show rg_G κ Γ rg_tC 8 0 0 (39 + 3) [(7, .int (rg_I ((o * 40 + b : Nat) : Int))), (0, .ref (κ.2.2.2 6)), (1, .int (rg_I ((n : Nat) : Int))), (2, .int (rg_I ((r : Nat) : Int))), (3, .int (rg_I ((b : Nat) : Int))), (4, .int (rg_I s)), (5, .int (rg_I ((k : Nat) : Int))), (6, .int (rg_I ((o : Nat) : Int)))] [.int (rg_I (rg_b (en (o * 40 + b) = 6 ∨ en (o * 40 + b) = 7 ∨ en (o * 40 + b) = 8)))] σ
          refine rg_if_ne F 60 dX3_averageBelow_42 (by decide) (by have b0 := rg_b_Rg (en (o * 40 + b) = 6 ∨ en (o * 40 + b) = 7 ∨ en (o * 40 + b) = 8); omega) (fun c42_4 => ?_) (fun c42_4 => ?_)
          ·
            have c42_4 := (rg_b_ne0 _).mp c42_4
            refine rg_iinc F (v := ((o + 1 : Nat) : Int)) 7 [(6, .int (rg_I ((o + 1 : Nat) : Int))), (7, .int (rg_I ((o * 40 + b : Nat) : Int))), (0, .ref (κ.2.2.2 6)), (1, .int (rg_I ((n : Nat) : Int))), (2, .int (rg_I ((r : Nat) : Int))), (3, .int (rg_I ((b : Nat) : Int))), (4, .int (rg_I s)), (5, .int (rg_I ((k : Nat) : Int)))] dX3_averageBelow_60 rfl (by omega) (by decide) rfl ?_
            refine rg_goto F 9 dX3_averageBelow_63 (by decide) ?_
            refine rg_sub (lv' := [(0, .ref (κ.2.2.2 6)), (1, .int (rg_I ((n : Nat) : Int))), (2, .int (rg_I ((r : Nat) : Int))), (3, .int (rg_I ((b : Nat) : Int))), (4, .int (rg_I s)), (5, .int (rg_I ((k : Nat) : Int))), (6, .int (rg_I ((o + 1 : Nat) : Int)))]) [2, 3, 4, 5, 6, 7, 0] rfl ?_
            exact ih9 (n - (o + 1)) (by omega) (s) (k) ((o + 1)) rfl (by omega) (by first | (rw [rg_cnt_t (p := (rg_no ins en b)) ⟨by assumption, by assumption⟩]; omega) | (rw [rg_cnt_f (p := (rg_no ins en b)) (fun q => q.2 (by assumption))]; omega) | (rw [rg_cnt_f (p := (rg_no ins en b)) (fun q => q.1 (by assumption))]; omega)) (by first | (rw [hs]; exact rg_sum_t (p := (rg_no ins en b)) (pt := fun i => pt (i * 40 + b)) ⟨by assumption, by assumption⟩) | (rw [hs]; exact rg_sum_f (p := (rg_no ins en b)) (pt := fun i => pt (i * 40 + b)) (fun q => q.2 (by assumption))) | (rw [hs]; exact rg_sum_f (p := (rg_no ins en b)) (pt := fun i => pt (i * 40 + b)) (fun q => q.1 (by assumption)))) (by omega)
          ·
            have c42_4 := (rg_b_eq0 _).mp c42_4
            refine rg_iload F 5 4 rfl dX3_averageBelow_45 ?_
            refine rg_aload_n F 1 0 rfl dX3_averageBelow_47 rfl ?_
            refine rg_get F 6 2 tC6 cX3 k_lays_X3 (by decide) k_fl_X3_22 rfl (v := .ref (κ.2.2.2 29)) rfl dX3_averageBelow_48 ?_
            refine rg_iload F 0 7 rfl dX3_averageBelow_51 ?_
            refine rg_iald F 29 (o * 40 + b) (v := (pt (o * 40 + b))) tC29 (by omega) (by omega) (by decide) (congrFun h29 (o * 40 + b)) dX3_averageBelow_53 ?_
            refine rg_iadd F dX3_averageBelow_54 ?_
            refine rg_istore F [(4, .int (rg_I (s + (pt (o * 40 + b))))), (7, .int (rg_I ((o * 40 + b : Nat) : Int))), (0, .ref (κ.2.2.2 6)), (1, .int (rg_I ((n : Nat) : Int))), (2, .int (rg_I ((r : Nat) : Int))), (3, .int (rg_I ((b : Nat) : Int))), (5, .int (rg_I ((k : Nat) : Int))), (6, .int (rg_I ((o : Nat) : Int)))] dX3_averageBelow_55 (by decide) rfl ?_
            refine rg_iinc F (v := ((k + 1 : Nat) : Int)) 6 [(5, .int (rg_I ((k + 1 : Nat) : Int))), (4, .int (rg_I (s + (pt (o * 40 + b))))), (7, .int (rg_I ((o * 40 + b : Nat) : Int))), (0, .ref (κ.2.2.2 6)), (1, .int (rg_I ((n : Nat) : Int))), (2, .int (rg_I ((r : Nat) : Int))), (3, .int (rg_I ((b : Nat) : Int))), (6, .int (rg_I ((o : Nat) : Int)))] dX3_averageBelow_57 rfl (by omega) (by decide) rfl ?_
            refine rg_iinc F (v := ((o + 1 : Nat) : Int)) 7 [(6, .int (rg_I ((o + 1 : Nat) : Int))), (5, .int (rg_I ((k + 1 : Nat) : Int))), (4, .int (rg_I (s + (pt (o * 40 + b))))), (7, .int (rg_I ((o * 40 + b : Nat) : Int))), (0, .ref (κ.2.2.2 6)), (1, .int (rg_I ((n : Nat) : Int))), (2, .int (rg_I ((r : Nat) : Int))), (3, .int (rg_I ((b : Nat) : Int)))] dX3_averageBelow_60 rfl (by omega) (by decide) rfl ?_
            refine rg_goto F 9 dX3_averageBelow_63 (by decide) ?_
            refine rg_sub (lv' := [(0, .ref (κ.2.2.2 6)), (1, .int (rg_I ((n : Nat) : Int))), (2, .int (rg_I ((r : Nat) : Int))), (3, .int (rg_I ((b : Nat) : Int))), (4, .int (rg_I (s + (pt (o * 40 + b))))), (5, .int (rg_I ((k + 1 : Nat) : Int))), (6, .int (rg_I ((o + 1 : Nat) : Int)))]) [4, 5, 6, 7, 2, 1, 0] rfl ?_
            exact ih9 (n - (o + 1)) (by omega) ((s + (pt (o * 40 + b)))) ((k + 1)) ((o + 1)) rfl (by omega) (by first | (rw [rg_cnt_t (p := (rg_no ins en b)) ⟨by assumption, by assumption⟩]; omega) | (rw [rg_cnt_f (p := (rg_no ins en b)) (fun q => q.2 (by assumption))]; omega) | (rw [rg_cnt_f (p := (rg_no ins en b)) (fun q => q.1 (by assumption))]; omega)) (by first | (rw [hs]; exact rg_sum_t (p := (rg_no ins en b)) (pt := fun i => pt (i * 40 + b)) ⟨by assumption, by assumption⟩) | (rw [hs]; exact rg_sum_f (p := (rg_no ins en b)) (pt := fun i => pt (i * 40 + b)) (fun q => q.2 (by assumption))) | (rw [hs]; exact rg_sum_f (p := (rg_no ins en b)) (pt := fun i => pt (i * 40 + b)) (fun q => q.1 (by assumption)))) (by omega)
  refine rg_sub (lv' := [(0, .ref (κ.2.2.2 6)), (1, .int (rg_I ((n : Nat) : Int))), (2, .int (rg_I ((r : Nat) : Int))), (3, .int (rg_I ((b : Nat) : Int))), (4, .int (rg_I 0)), (5, .int (rg_I 0)), (6, .int (rg_I 0))]) [3, 4, 5, 6, 2, 1, 0] rfl ?_
  exact L9 _ (0) (0) (0) rfl (by omega) rfl rfl (by omega)
set_option maxHeartbeats 4000000 in
set_option maxRecDepth 100000 in
/-- scoreAverages: the averages of a race -/
theorem k_X3_scoreAverages (κ : rg_K) (σ : rg_S) (r : Nat) (en : Nat → Int) (ins : Nat → Int) (pt : Nat → Int) (sz : Nat → Int) (nb : Nat) (nr : Nat) (h25 : σ 25 = en) (h28 : σ 28 = ins) (h29 : σ 29 = pt) (h31 : σ 31 = sz) (h1_2 : σ 1 2 = ((nb : Nat) : Int)) (h2_3 : σ 2 3 = ((nr : Nat) : Int)) (hr : r < 16) (hnb : nb ≤ 40) (hnr : nr ≤ 16) (hen : ∀ j, rg_Rg (en j)) (hins : ∀ j, rg_Rg (ins j)) (hsz : 0 ≤ sz r ∧ sz r ≤ 40) (hpt : ∀ b, b < nb → ∀ o, rg_no ins en b o → (o < nr ∨ o < r) → 0 ≤ pt (o * 40 + b) ∧ pt (o * 40 + b) ≤ 9999) : rg_CV κ rg_tC yX3_scoreAverages cX3_scoreAverages 4 2 48 [.ref (κ.2.2.2 6), .int (rg_I ((r : Nat) : Int))] σ (fun σ9 => σ9 = (rg_wr σ 29 (rg_row pt r nb (rg_av sz ins en pt nr r)))) := by
  refine rg_entV [(0, .ref (κ.2.2.2 6)), (1, .int (rg_I ((r : Nat) : Int)))] rfl (by decide +kernel) (Nat.le_of_ble_eq_true rfl) (fun Γ F hR => ?_)
  refine rg_iconst F dX3_scoreAverages_0 ?_
  refine rg_istore_n F [(2, .int (rg_I 0)), (0, .ref (κ.2.2.2 6)), (1, .int (rg_I ((r : Nat) : Int)))] dX3_scoreAverages_1 rfl (by decide) rfl ?_
  have L2 : ∀ (n2 : Nat) (b : Nat), n2 = nb - b → (b ≤ nb) → rg_G κ Γ rg_tC 4 0 0 2 [(0, .ref (κ.2.2.2 6)), (1, .int (rg_I ((r : Nat) : Int))), (2, .int (rg_I ((b : Nat) : Int)))] [] (rg_wr σ 29 (rg_row pt r b (rg_av sz ins en pt nr r))) := by
    intro n2
    induction n2 using Nat.strongRecOn with
    | _ n2 ih2 =>
      intro b hn2 hb
      refine rg_iload_n F 2 2 rfl dX3_scoreAverages_2 rfl ?_
      refine rg_aload_n F 0 0 rfl dX3_scoreAverages_3 rfl ?_
      refine rg_get F 6 3 tC6 cX3 k_lays_X3 (by decide) k_fl_X3_38 rfl (v := .ref (κ.2.2.2 1)) rfl dX3_scoreAverages_4 ?_
      refine rg_get F 1 2 tC1 cX0 k_lays_X0 (by decide) k_fl_X3_102 rfl (v := .int (rg_I ((nb : Nat) : Int))) (congrArg (fun x => Value.int (rg_I x)) h1_2) dX3_scoreAverages_7 ?_
      refine rg_icmp_ge F 106 dX3_scoreAverages_10 (by decide) (by omega) (by omega) (fun c10_1 => ?_) (fun c10_1 => ?_)
      ·
        exact hR _ _ _ dX3_scoreAverages_106 (rg_wr_congr (f := (rg_row pt r b (rg_av sz ins en pt nr r))) (g := (rg_row pt r nb (rg_av sz ins en pt nr r))) 29 rfl (congrArg (fun n => rg_row _ _ n _) (by omega)))
      ·
        refine rg_iload_n F 1 1 rfl dX3_scoreAverages_13 rfl ?_
        refine rg_iload_n F 2 2 rfl dX3_scoreAverages_14 rfl ?_
        refine rg_callNI F [.int (rg_I ((r : Nat) : Int)), .int (rg_I ((b : Nat) : Int))] [] (k_X9_cell κ rg_tC (rg_wr σ 29 (rg_row pt r b (rg_av sz ins en pt nr r))) (r) (b)) v_X9_cell k_st_yX9_cell k_mn_X3_95 ⟨Nat.le_of_ble_eq_true rfl, Nat.le_of_ble_eq_true rfl⟩ rfl (Nat.le_of_ble_eq_true rfl) dX3_scoreAverages_15 (rg_ex2 ?_)
        show rg_G κ Γ rg_tC 4 0 0 (15 + 3) [(0, .ref (κ.2.2.2 6)), (1, .int (rg_I ((r : Nat) : Int))), (2, .int (rg_I ((b : Nat) : Int)))] [.int (rg_I ((r * 40 + b : Nat) : Int))] (rg_wr σ 29 (rg_row pt r b (rg_av sz ins en pt nr r)))
        refine rg_istore_n F [(3, .int (rg_I ((r * 40 + b : Nat) : Int))), (0, .ref (κ.2.2.2 6)), (1, .int (rg_I ((r : Nat) : Int))), (2, .int (rg_I ((b : Nat) : Int)))] dX3_scoreAverages_18 rfl (by decide) rfl ?_
        refine rg_aload_n F 1 0 rfl dX3_scoreAverages_19 rfl ?_
        refine rg_get F 6 1 tC6 cX3 k_lays_X3 (by decide) k_fl_X3_18 rfl (v := .ref (κ.2.2.2 28)) rfl dX3_scoreAverages_20 ?_
        refine rg_iload_n F 0 3 rfl dX3_scoreAverages_23 rfl ?_
        refine rg_zald F 28 (r * 40 + b) (v := (ins (r * 40 + b))) tC28 (by omega) (by omega) (by decide) (congrFun h28 (r * 40 + b)) dX3_scoreAverages_24 ?_
        refine rg_if_eq F 64 dX3_scoreAverages_25 (by decide) (by have b0 := hins ((r * 40 + b)); omega) (fun c25_2 => ?_) (fun c25_2 => ?_)
        ·
          refine rg_aload_n F 1 0 rfl dX3_scoreAverages_64 rfl ?_
          refine rg_get F 6 1 tC6 cX3 k_lays_X3 (by decide) k_fl_X3_18 rfl (v := .ref (κ.2.2.2 28)) rfl dX3_scoreAverages_65 ?_
          refine rg_iload_n F 0 3 rfl dX3_scoreAverages_68 rfl ?_
          refine rg_zald F 28 (r * 40 + b) (v := (ins (r * 40 + b))) tC28 (by omega) (by omega) (by decide) (congrFun h28 (r * 40 + b)) dX3_scoreAverages_69 ?_
          refine rg_if_eq F 100 dX3_scoreAverages_70 (by decide) (by have b0 := hins ((r * 40 + b)); omega) (fun c70_3 => ?_) (fun c70_3 => ?_)
          ·
            refine rg_iinc F (v := ((b + 1 : Nat) : Int)) 3 [(2, .int (rg_I ((b + 1 : Nat) : Int))), (3, .int (rg_I ((r * 40 + b : Nat) : Int))), (0, .ref (κ.2.2.2 6)), (1, .int (rg_I ((r : Nat) : Int)))] dX3_scoreAverages_100 rfl (by omega) (by decide) rfl ?_
            refine rg_goto F 2 dX3_scoreAverages_103 (by decide) ?_
            refine rg_eq (σ' := (rg_wr σ 29 (rg_row pt r (b + 1) (rg_av sz ins en pt nr r)))) (rg_wr_congr (f := (rg_row pt r b (rg_av sz ins en pt nr r))) (g := (rg_row pt r (b + 1) (rg_av sz ins en pt nr r))) 29 rfl (by first | exact rg_row_s _ _ _ _ ((rg_av_w (fun o => rg_row_col _ _ _ _ (by omega))).trans (rg_av_6 (by assumption) (by assumption)).symm) | exact rg_row_s _ _ _ _ ((rg_av_w (fun o => rg_row_col _ _ _ _ (by omega))).trans (rg_av_7 (by assumption) (by assumption)).symm) | exact rg_row_skip _ _ _ _ (rg_av_0 (by assumption)) | exact rg_row_skip _ _ _ _ (rg_av_x (by assumption) (by assumption)))) ?_
            refine rg_sub (lv' := [(0, .ref (κ.2.2.2 6)), (1, .int (rg_I ((r : Nat) : Int))), (2, .int (rg_I ((b + 1 : Nat) : Int)))]) [2, 3, 0] rfl ?_
            exact ih2 (nb - (b + 1)) (by omega) ((b + 1)) rfl (by omega)
          · first | exact absurd c70_3 c25_2 | exact absurd c25_2 c70_3
        ·
          refine rg_aload_n F 1 0 rfl dX3_scoreAverages_28 rfl ?_
          refine rg_get F 6 0 tC6 cX3 k_lays_X3 (by decide) k_fl_X3_12 rfl (v := .ref (κ.2.2.2 10)) rfl dX3_scoreAverages_29 ?_
          refine rg_get F 10 0 tC10 cX2 k_lays_X2 (by decide) k_fl_X3_115 rfl (v := .ref (κ.2.2.2 25)) rfl dX3_scoreAverages_32 ?_
          refine rg_iload_n F 0 3 rfl dX3_scoreAverages_35 rfl ?_
          refine rg_iald F 25 (r * 40 + b) (v := (en (r * 40 + b))) tC25 (by omega) (by omega) (by decide) (congrFun h25 (r * 40 + b)) dX3_scoreAverages_36 ?_
          refine rg_bipush F dX3_scoreAverages_37 (by decide +kernel) ?_
          refine rg_icmp_ne F 64 dX3_scoreAverages_39 (by decide) (by have b0 := hen ((r * 40 + b)); omega) (by omega) (fun c39_4 => ?_) (fun c39_4 => ?_)
          ·
            refine rg_aload_n F 1 0 rfl dX3_scoreAverages_64 rfl ?_
            refine rg_get F 6 1 tC6 cX3 k_lays_X3 (by decide) k_fl_X3_18 rfl (v := .ref (κ.2.2.2 28)) rfl dX3_scoreAverages_65 ?_
            refine rg_iload_n F 0 3 rfl dX3_scoreAverages_68 rfl ?_
            refine rg_zald F 28 (r * 40 + b) (v := (ins (r * 40 + b))) tC28 (by omega) (by omega) (by decide) (congrFun h28 (r * 40 + b)) dX3_scoreAverages_69 ?_
            refine rg_if_eq F 100 dX3_scoreAverages_70 (by decide) (by have b0 := hins ((r * 40 + b)); omega) (fun c70_5 => ?_) (fun c70_5 => ?_)
            · first | exact absurd c70_5 c25_2 | exact absurd c25_2 c70_5
            ·
              refine rg_aload_n F 1 0 rfl dX3_scoreAverages_73 rfl ?_
              refine rg_get F 6 0 tC6 cX3 k_lays_X3 (by decide) k_fl_X3_12 rfl (v := .ref (κ.2.2.2 10)) rfl dX3_scoreAverages_74 ?_
              refine rg_get F 10 0 tC10 cX2 k_lays_X2 (by decide) k_fl_X3_115 rfl (v := .ref (κ.2.2.2 25)) rfl dX3_scoreAverages_77 ?_
              refine rg_iload_n F 0 3 rfl dX3_scoreAverages_80 rfl ?_
              refine rg_iald F 25 (r * 40 + b) (v := (en (r * 40 + b))) tC25 (by omega) (by omega) (by decide) (congrFun h25 (r * 40 + b)) dX3_scoreAverages_81 ?_
              refine rg_bipush F dX3_scoreAverages_82 (by decide +kernel) ?_
              refine rg_icmp_ne F 100 dX3_scoreAverages_84 (by decide) (by have b0 := hen ((r * 40 + b)); omega) (by omega) (fun c84_6 => ?_) (fun c84_6 => ?_)
              ·
                refine rg_iinc F (v := ((b + 1 : Nat) : Int)) 3 [(2, .int (rg_I ((b + 1 : Nat) : Int))), (3, .int (rg_I ((r * 40 + b : Nat) : Int))), (0, .ref (κ.2.2.2 6)), (1, .int (rg_I ((r : Nat) : Int)))] dX3_scoreAverages_100 rfl (by omega) (by decide) rfl ?_
                refine rg_goto F 2 dX3_scoreAverages_103 (by decide) ?_
                refine rg_eq (σ' := (rg_wr σ 29 (rg_row pt r (b + 1) (rg_av sz ins en pt nr r)))) (rg_wr_congr (f := (rg_row pt r b (rg_av sz ins en pt nr r))) (g := (rg_row pt r (b + 1) (rg_av sz ins en pt nr r))) 29 rfl (by first | exact rg_row_s _ _ _ _ ((rg_av_w (fun o => rg_row_col _ _ _ _ (by omega))).trans (rg_av_6 (by assumption) (by assumption)).symm) | exact rg_row_s _ _ _ _ ((rg_av_w (fun o => rg_row_col _ _ _ _ (by omega))).trans (rg_av_7 (by assumption) (by assumption)).symm) | exact rg_row_skip _ _ _ _ (rg_av_0 (by assumption)) | exact rg_row_skip _ _ _ _ (rg_av_x (by assumption) (by assumption)))) ?_
                refine rg_sub (lv' := [(0, .ref (κ.2.2.2 6)), (1, .int (rg_I ((r : Nat) : Int))), (2, .int (rg_I ((b + 1 : Nat) : Int)))]) [2, 3, 0] rfl ?_
                exact ih2 (nb - (b + 1)) (by omega) ((b + 1)) rfl (by omega)
              ·
                refine rg_aload_n F 1 0 rfl dX3_scoreAverages_87 rfl ?_
                refine rg_get F 6 2 tC6 cX3 k_lays_X3 (by decide) k_fl_X3_22 rfl (v := .ref (κ.2.2.2 29)) rfl dX3_scoreAverages_88 ?_
                refine rg_iload_n F 0 3 rfl dX3_scoreAverages_91 rfl ?_
                refine rg_aload_n F 1 0 rfl dX3_scoreAverages_92 rfl ?_
                refine rg_iload_n F 2 1 rfl dX3_scoreAverages_93 rfl ?_
                refine rg_iload_n F 2 1 rfl dX3_scoreAverages_94 rfl ?_
                refine rg_iload_n F 3 2 rfl dX3_scoreAverages_95 rfl ?_
                refine rg_callVI F [.int (rg_I ((r : Nat) : Int)), .int (rg_I ((r : Nat) : Int)), .int (rg_I ((b : Nat) : Int))] [.int (rg_I ((r * 40 + b : Nat) : Int)), .ref (κ.2.2.2 29)] 6 (k_X3_averageBelow κ (rg_wr σ 29 (rg_row pt r b (rg_av sz ins en pt nr r))) (r) (r) (b) en ins (rg_row pt r b (rg_av sz ins en pt nr r)) sz (h25) (h28) rfl (h31) (by first | assumption | omega) (by first | assumption | omega) (by first | assumption | omega) (by first | assumption | omega) (by first | assumption | omega) (by first | assumption | omega) (fun o ho hno => by rw [rg_row_col _ _ _ _ (by omega)]; exact hpt b (by omega) o hno (by omega))) tC6 cX3 v_X3_averageBelow i_X3_averageBelow k_ml_X3_136 ⟨Nat.le_of_ble_eq_true rfl, Nat.le_of_ble_eq_true rfl⟩ rfl (Nat.le_of_ble_eq_true rfl) dX3_scoreAverages_96 (rg_ex2 ?_)
                show rg_G κ Γ rg_tC 4 0 0 (96 + 3) [(3, .int (rg_I ((r * 40 + b : Nat) : Int))), (0, .ref (κ.2.2.2 6)), (1, .int (rg_I ((r : Nat) : Int))), (2, .int (rg_I ((b : Nat) : Int)))] [.int (rg_I (rg_avg (sz r) (rg_no ins en b) (fun o => (rg_row pt r b (rg_av sz ins en pt nr r)) (o * 40 + b)) r)), .int (rg_I ((r * 40 + b : Nat) : Int)), .ref (κ.2.2.2 29)] (rg_wr σ 29 (rg_row pt r b (rg_av sz ins en pt nr r)))
                refine rg_iast F 29 (r * 40 + b) tC29 (by omega) (by omega) (by decide) (f9 := (rg_row pt r b (rg_av sz ins en pt nr r))) rfl (rg_wr σ 29 (rg_up (rg_row pt r b (rg_av sz ins en pt nr r)) (r * 40 + b) (rg_avg (sz r) (rg_no ins en b) (fun o => (rg_row pt r b (rg_av sz ins en pt nr r)) (o * 40 + b)) r))) (rg_wr_wr _ 29 _ _) dX3_scoreAverages_99 ?_
                refine rg_iinc F (v := ((b + 1 : Nat) : Int)) 3 [(2, .int (rg_I ((b + 1 : Nat) : Int))), (3, .int (rg_I ((r * 40 + b : Nat) : Int))), (0, .ref (κ.2.2.2 6)), (1, .int (rg_I ((r : Nat) : Int)))] dX3_scoreAverages_100 rfl (by omega) (by decide) rfl ?_
                refine rg_goto F 2 dX3_scoreAverages_103 (by decide) ?_
                refine rg_eq (σ' := (rg_wr σ 29 (rg_row pt r (b + 1) (rg_av sz ins en pt nr r)))) (rg_wr_congr (f := (rg_up (rg_row pt r b (rg_av sz ins en pt nr r)) (r * 40 + b) (rg_avg (sz r) (rg_no ins en b) (fun o => (rg_row pt r b (rg_av sz ins en pt nr r)) (o * 40 + b)) r))) (g := (rg_row pt r (b + 1) (rg_av sz ins en pt nr r))) 29 rfl (by first | exact rg_row_s _ _ _ _ ((rg_av_w (fun o => rg_row_col _ _ _ _ (by omega))).trans (rg_av_6 (by assumption) (by assumption)).symm) | exact rg_row_s _ _ _ _ ((rg_av_w (fun o => rg_row_col _ _ _ _ (by omega))).trans (rg_av_7 (by assumption) (by assumption)).symm) | exact rg_row_skip _ _ _ _ (rg_av_0 (by assumption)) | exact rg_row_skip _ _ _ _ (rg_av_x (by assumption) (by assumption)))) ?_
                refine rg_sub (lv' := [(0, .ref (κ.2.2.2 6)), (1, .int (rg_I ((r : Nat) : Int))), (2, .int (rg_I ((b + 1 : Nat) : Int)))]) [2, 3, 0] rfl ?_
                exact ih2 (nb - (b + 1)) (by omega) ((b + 1)) rfl (by omega)
          ·
            refine rg_aload_n F 1 0 rfl dX3_scoreAverages_42 rfl ?_
            refine rg_get F 6 2 tC6 cX3 k_lays_X3 (by decide) k_fl_X3_22 rfl (v := .ref (κ.2.2.2 29)) rfl dX3_scoreAverages_43 ?_
            refine rg_iload_n F 0 3 rfl dX3_scoreAverages_46 rfl ?_
            refine rg_aload_n F 1 0 rfl dX3_scoreAverages_47 rfl ?_
            refine rg_aload_n F 1 0 rfl dX3_scoreAverages_48 rfl ?_
            refine rg_get F 6 4 tC6 cX3 k_lays_X3 (by decide) k_fl_X3_42 rfl (v := .ref (κ.2.2.2 2)) rfl dX3_scoreAverages_49 ?_
            refine rg_get F 2 3 tC2 cX4 k_lays_X4 (by decide) k_fl_X3_62 rfl (v := .int (rg_I ((nr : Nat) : Int))) (congrArg (fun x => Value.int (rg_I x)) h2_3) dX3_scoreAverages_52 ?_
            refine rg_iload_n F 2 1 rfl dX3_scoreAverages_55 rfl ?_
            refine rg_iload_n F 3 2 rfl dX3_scoreAverages_56 rfl ?_
            refine rg_callVI F [.int (rg_I ((nr : Nat) : Int)), .int (rg_I ((r : Nat) : Int)), .int (rg_I ((b : Nat) : Int))] [.int (rg_I ((r * 40 + b : Nat) : Int)), .ref (κ.2.2.2 29)] 6 (k_X3_averageBelow κ (rg_wr σ 29 (rg_row pt r b (rg_av sz ins en pt nr r))) (nr) (r) (b) en ins (rg_row pt r b (rg_av sz ins en pt nr r)) sz (h25) (h28) rfl (h31) (by first | assumption | omega) (by first | assumption | omega) (by first | assumption | omega) (by first | assumption | omega) (by first | assumption | omega) (by first | assumption | omega) (fun o ho hno => by rw [rg_row_col _ _ _ _ (by omega)]; exact hpt b (by omega) o hno (by omega))) tC6 cX3 v_X3_averageBelow i_X3_averageBelow k_ml_X3_136 ⟨Nat.le_of_ble_eq_true rfl, Nat.le_of_ble_eq_true rfl⟩ rfl (Nat.le_of_ble_eq_true rfl) dX3_scoreAverages_57 (rg_ex2 ?_)
            show rg_G κ Γ rg_tC 4 0 0 (57 + 3) [(3, .int (rg_I ((r * 40 + b : Nat) : Int))), (0, .ref (κ.2.2.2 6)), (1, .int (rg_I ((r : Nat) : Int))), (2, .int (rg_I ((b : Nat) : Int)))] [.int (rg_I (rg_avg (sz r) (rg_no ins en b) (fun o => (rg_row pt r b (rg_av sz ins en pt nr r)) (o * 40 + b)) nr)), .int (rg_I ((r * 40 + b : Nat) : Int)), .ref (κ.2.2.2 29)] (rg_wr σ 29 (rg_row pt r b (rg_av sz ins en pt nr r)))
            refine rg_iast F 29 (r * 40 + b) tC29 (by omega) (by omega) (by decide) (f9 := (rg_row pt r b (rg_av sz ins en pt nr r))) rfl (rg_wr σ 29 (rg_up (rg_row pt r b (rg_av sz ins en pt nr r)) (r * 40 + b) (rg_avg (sz r) (rg_no ins en b) (fun o => (rg_row pt r b (rg_av sz ins en pt nr r)) (o * 40 + b)) nr))) (rg_wr_wr _ 29 _ _) dX3_scoreAverages_60 ?_
            refine rg_goto F 100 dX3_scoreAverages_61 (by decide) ?_
            refine rg_iinc F (v := ((b + 1 : Nat) : Int)) 3 [(2, .int (rg_I ((b + 1 : Nat) : Int))), (3, .int (rg_I ((r * 40 + b : Nat) : Int))), (0, .ref (κ.2.2.2 6)), (1, .int (rg_I ((r : Nat) : Int)))] dX3_scoreAverages_100 rfl (by omega) (by decide) rfl ?_
            refine rg_goto F 2 dX3_scoreAverages_103 (by decide) ?_
            refine rg_eq (σ' := (rg_wr σ 29 (rg_row pt r (b + 1) (rg_av sz ins en pt nr r)))) (rg_wr_congr (f := (rg_up (rg_row pt r b (rg_av sz ins en pt nr r)) (r * 40 + b) (rg_avg (sz r) (rg_no ins en b) (fun o => (rg_row pt r b (rg_av sz ins en pt nr r)) (o * 40 + b)) nr))) (g := (rg_row pt r (b + 1) (rg_av sz ins en pt nr r))) 29 rfl (by first | exact rg_row_s _ _ _ _ ((rg_av_w (fun o => rg_row_col _ _ _ _ (by omega))).trans (rg_av_6 (by assumption) (by assumption)).symm) | exact rg_row_s _ _ _ _ ((rg_av_w (fun o => rg_row_col _ _ _ _ (by omega))).trans (rg_av_7 (by assumption) (by assumption)).symm) | exact rg_row_skip _ _ _ _ (rg_av_0 (by assumption)) | exact rg_row_skip _ _ _ _ (rg_av_x (by assumption) (by assumption)))) ?_
            refine rg_sub (lv' := [(0, .ref (κ.2.2.2 6)), (1, .int (rg_I ((r : Nat) : Int))), (2, .int (rg_I ((b + 1 : Nat) : Int)))]) [2, 3, 0] rfl ?_
            exact ih2 (nb - (b + 1)) (by omega) ((b + 1)) rfl (by omega)
  refine rg_eq (σ' := (rg_wr σ 29 (rg_row pt r 0 (rg_av sz ins en pt nr r)))) (((rg_wr_self (σ := σ) (k := 29) (f := pt) h29).trans rfl).trans (rg_wr_congr (f := pt) (g := (rg_row pt r 0 (rg_av sz ins en pt nr r))) 29 rfl (rg_row_0 _ _ _))) ?_
  refine rg_sub (lv' := [(0, .ref (κ.2.2.2 6)), (1, .int (rg_I ((r : Nat) : Int))), (2, .int (rg_I 0))]) [1, 2, 0] rfl ?_
  exact L2 _ (0) rfl (by omega)
